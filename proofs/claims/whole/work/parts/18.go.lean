set_option maxHeartbeats 4000000 in
set_option maxRecDepth 100000 in
theorem c_X9_isDigit (l : Launch) (v : Int) (hv : R32 v) : Met l yX9_isDigit wsX9_isDigit ({ frames := 0, cells := 0, slots := 0, locals := 0 }) (va_Pc [.int (zI (v))] (fun _ => True)) (vp_Si (fun r : Int32 => r = zI (bz (48 ≤ v ∧ v ≤ 57)))) 0 0 (fun _ => False) := by
  refine Met.ofW (cc := cX9_isDigit) (maxL := 1) (ret := (some .boolean)) (by decide) rfl ?_
  intro p e s m args below meth c s₁ B hml hv
  obtain ⟨rfl, -⟩ := hv
  have hx := B.exec
  have hb := B.bytes
  have hr := B.returns
  have hts := atoms_spec (ws := wsX9_isDigit) B.pre
  have hown : s.vm.findClass RX9 = some m.cls := findClass_of_methodNamed B.named
  have hlocks := B.notSynchronized
  have hl := lv_entry ([.int (zI (v))]) (n := 1) (Nat.le_of_ble_eq_true rfl)
  rw [lg_entry_eq]
  generalize (lg_sl ([.int (zI (v))]) ++ List.replicate (1 - (lg_sl ([.int (zI (v))])).length) Slot.unset).toArray = ls at hl ⊢
  have hl : lv_has ls 1 [(0, .int (zI (v)))] := hl
  refine lv_iload_n hx hb dX9_isDigit_0 rfl (lv_at hl 0 rfl) ?_
  refine lv_bipush (v := zI (48)) hx hb dX9_isDigit_1 (by decide) ?_
  refine z_icmp_lt (tgt := 16) hx hb dX9_isDigit_3 (by decide) (by omega) (by omega) (fun h3 => ?_) (fun h3 => ?_)
  · refine lv_iconst (v := zI (0)) hx hb dX9_isDigit_16 (by decide) ?_
    exact W.zret hx hb hr (by decide) (fun tX htX hWX => ⟨_, rfl, bz_0 (by omega), htX⟩) (fun _ h9 => by cases h9) dX9_isDigit_17
  · refine lv_iload_n hx hb dX9_isDigit_6 rfl (lv_at hl 0 rfl) ?_
    refine lv_bipush (v := zI (57)) hx hb dX9_isDigit_7 (by decide) ?_
    refine z_icmp_gt (tgt := 16) hx hb dX9_isDigit_9 (by decide) (by omega) (by omega) (fun h9 => ?_) (fun h9 => ?_)
    · refine lv_iconst (v := zI (0)) hx hb dX9_isDigit_16 (by decide) ?_
      exact W.zret hx hb hr (by decide) (fun tX htX hWX => ⟨_, rfl, bz_0 (by omega), htX⟩) (fun _ h9 => by cases h9) dX9_isDigit_17
    · refine lv_iconst (v := zI (1)) hx hb dX9_isDigit_12 (by decide) ?_
      refine lv_goto (tgt := 17) hx hb dX9_isDigit_13 (by decide) ?_
      exact W.zret hx hb hr (by decide) (fun tX htX hWX => ⟨_, rfl, bz_1 (by omega), htX⟩) (fun _ h9 => by cases h9) dX9_isDigit_17

set_option maxHeartbeats 4000000 in
set_option maxRecDepth 100000 in
theorem c_X9_isLetter (l : Launch) (v : Int) (hv : R32 v) : Met l yX9_isLetter wsX9_isLetter ({ frames := 0, cells := 0, slots := 0, locals := 0 }) (va_Pc [.int (zI (v))] (fun _ => True)) (vp_Si (fun r : Int32 => r = zI (bz (97 ≤ v ∧ v ≤ 122)))) 0 0 (fun _ => False) := by
  refine Met.ofW (cc := cX9_isLetter) (maxL := 1) (ret := (some .boolean)) (by decide) rfl ?_
  intro p e s m args below meth c s₁ B hml hv
  obtain ⟨rfl, -⟩ := hv
  have hx := B.exec
  have hb := B.bytes
  have hr := B.returns
  have hts := atoms_spec (ws := wsX9_isLetter) B.pre
  have hown : s.vm.findClass RX9 = some m.cls := findClass_of_methodNamed B.named
  have hlocks := B.notSynchronized
  have hl := lv_entry ([.int (zI (v))]) (n := 1) (Nat.le_of_ble_eq_true rfl)
  rw [lg_entry_eq]
  generalize (lg_sl ([.int (zI (v))]) ++ List.replicate (1 - (lg_sl ([.int (zI (v))])).length) Slot.unset).toArray = ls at hl ⊢
  have hl : lv_has ls 1 [(0, .int (zI (v)))] := hl
  refine lv_iload_n hx hb dX9_isLetter_0 rfl (lv_at hl 0 rfl) ?_
  refine lv_bipush (v := zI (97)) hx hb dX9_isLetter_1 (by decide) ?_
  refine z_icmp_lt (tgt := 16) hx hb dX9_isLetter_3 (by decide) (by omega) (by omega) (fun h3 => ?_) (fun h3 => ?_)
  · refine lv_iconst (v := zI (0)) hx hb dX9_isLetter_16 (by decide) ?_
    exact W.zret hx hb hr (by decide) (fun tX htX hWX => ⟨_, rfl, bz_0 (by omega), htX⟩) (fun _ h9 => by cases h9) dX9_isLetter_17
  · refine lv_iload_n hx hb dX9_isLetter_6 rfl (lv_at hl 0 rfl) ?_
    refine lv_bipush (v := zI (122)) hx hb dX9_isLetter_7 (by decide) ?_
    refine z_icmp_gt (tgt := 16) hx hb dX9_isLetter_9 (by decide) (by omega) (by omega) (fun h9 => ?_) (fun h9 => ?_)
    · refine lv_iconst (v := zI (0)) hx hb dX9_isLetter_16 (by decide) ?_
      exact W.zret hx hb hr (by decide) (fun tX htX hWX => ⟨_, rfl, bz_0 (by omega), htX⟩) (fun _ h9 => by cases h9) dX9_isLetter_17
    · refine lv_iconst (v := zI (1)) hx hb dX9_isLetter_12 (by decide) ?_
      refine lv_goto (tgt := 17) hx hb dX9_isLetter_13 (by decide) ?_
      exact W.zret hx hb hr (by decide) (fun tX htX hWX => ⟨_, rfl, bz_1 (by omega), htX⟩) (fun _ h9 => by cases h9) dX9_isLetter_17

set_option maxHeartbeats 4000000 in
set_option maxRecDepth 100000 in
theorem c_X9_tapeAt (l : Launch) (g : GG) (a : Nat → Nat) (sc : Nat → Int32) (wd : Int64) (tp N rd sn : Nat → Int32) (n q : Nat) (hz : sc 2 = zI n) (hn : n ≤ 740) (hq : q ≤ 740) (hT : okT tp) : Met l yX9_tapeAt wsX9_tapeAt ({ frames := 0, cells := 0, slots := 0, locals := 0 }) (gPc g [.ref ((a 0)), .int (zI (q))] (gP g (mW g a sc wd tp N rd sn))) (vp_Si (fun r : Int32 => r = zI (tAt tp n q))) 0 0 (fun _ => False) := by
  refine Met.ofW (cc := cX9_tapeAt) (maxL := 2) (ret := (some .int)) (by decide) rfl ?_
  intro p e s m args below meth c s₁ B hml hv
  obtain ⟨rfl, hPre, hK⟩ := hv
  have hx := B.exec
  have hb := B.bytes
  have hr := B.returns
  have hts := atoms_spec (ws := wsX9_tapeAt) B.pre
  have hown : s.vm.findClass RX9 = some m.cls := findClass_of_methodNamed B.named
  have hlocks := B.notSynchronized
  have hinX9 : ∀ w ∈ wsX90, w ∈ wsX9_tapeAt := by decide +kernel
  have k18 := hts (.fieldLink RX9 18 "HoursBankModel" "size" "I") (by decide +kernel)
  have k7 := hts (.fieldLink RX9 7 "HoursBankModel" "tape" "[I") (by decide +kernel)
  have hl := lv_entry ([.ref ((a 0)), .int (zI (q))]) (n := 2) (Nat.le_of_ble_eq_true rfl)
  rw [lg_entry_eq]
  generalize (lg_sl ([.ref ((a 0)), .int (zI (q))]) ++ List.replicate (2 - (lg_sl ([.ref ((a 0)), .int (zI (q))])).length) Slot.unset).toArray = ls at hl ⊢
  have hl : lv_has ls 2 [(0, .ref ((a 0))), (1, .int (zI (q)))] := hl
  have hP : gP g (mW g a sc wd tp N rd sn) s.heap := hPre
  refine lv_iload_n hx hb dX9_tapeAt_0 rfl (lv_at hl 1 rfl) ?_
  refine lv_aload_n hx hb dX9_tapeAt_1 rfl (lv_at hl 0 rfl) ?_
  refine va_get (D := g.1) (ci := 9) (v := .int (sc 2)) (C := RX9) (T := TX9) (N := 15) hx hb hts hinX9 hown hK hP 0 rfl rfl 3 (by decide) k18 (fun _ h9 => h9) rfl dX9_tapeAt_2 ?_
  refine z_top (y := zI (n)) (hz) ?_
  refine z_icmp_ge (tgt := 17) hx hb dX9_tapeAt_5 (by decide) (by omega) (by omega) (fun h5 => ?_) (fun h5 => ?_)
  · refine lv_iconst (v := zI (0)) hx hb dX9_tapeAt_17 (by decide) ?_
    exact W.iret hx hb hr (fun tX htX hWX => ⟨_, rfl, congrArg zI (by unfold tAt; split <;> omega), htX⟩) (fun _ h9 => by cases h9) dX9_tapeAt_18
  · refine lv_aload_n hx hb dX9_tapeAt_8 rfl (lv_at hl 0 rfl) ?_
    refine va_get (D := g.1) (ci := 9) (v := .ref ((a 1))) (C := RX9) (T := TX9) (N := 15) hx hb hts hinX9 hown hK hP 0 rfl rfl 1 (by decide) k7 (fun _ h9 => h9) rfl dX9_tapeAt_9 ?_
    refine lv_iload_n hx hb dX9_tapeAt_12 rfl (lv_at hl 1 rfl) ?_
    refine z_iald hx hb hK hP 1 0 rfl rfl (by decide) (q) (by omega) (by omega) dX9_tapeAt_13 ?_
    refine z_top (y := zI (mn tp q)) ((hT q (by omega)).eq) ?_
    refine lv_goto (tgt := 18) hx hb dX9_tapeAt_14 (by decide) ?_
    exact W.iret hx hb hr (fun tX htX hWX => ⟨_, rfl, congrArg zI (by unfold tAt; split <;> omega), htX⟩) (fun _ h9 => by cases h9) dX9_tapeAt_18

set_option maxHeartbeats 4000000 in
set_option maxRecDepth 100000 in
theorem c_X9_go (l : Launch) (g : GG) (a : Nat → Nat) (ha : aD a) (sc : Nat → Int32) (wd : Int64) (tp N rd sn : Nat → Int32) (n ps : Nat) (hn : n ≤ 740) (hp : ps ≤ n) (hz : sc 2 = zI n) (ht : sc 3 = zI ps) (hT : okT tp) : Met l yX9_go wsX9_go ({ frames := 1, cells := 0, slots := 0, locals := 21 }) (gPc g [.ref ((a 0))] (gP g (mW g a sc wd tp N rd sn))) (va_Qv (fun (_ : Unit) => True) (fun (_ : Unit) (tS : State) => gP g (mW g a (upd (upd (upd (upd sc 3 (zI ((gTo (mn tp) n ps : Nat)))) 4 (zI ((gFr (mn tp) n ps : Nat)))) 5 (zI ((gSo (mn tp) n ps : Nat)))) 6 (gNu (mn tp) n ps (sc 6))) (gWo (mn tp) n ps wd) tp N rd sn) tS.heap) (mA a)) 0 0 (mA a) := by
  refine Met.ofW (cc := cX9_go) (maxL := 5) (ret := none) (by decide) rfl ?_
  intro p e s m args below meth c s₁ B hml hv
  obtain ⟨rfl, hP, hK⟩ := hv
  have hx := B.exec
  have hb := B.bytes
  have hr := B.returns
  have hts := atoms_spec (ws := wsX9_go) B.pre
  have hown : s.vm.findClass RX9 = some m.cls := findClass_of_methodNamed B.named
  have hlocks := B.notSynchronized
  have hinX9 : ∀ w ∈ wsX90, w ∈ wsX9_go := by decide +kernel
  have k21 := hts (.fieldLink RX9 21 "HoursBankModel" "to" "I") (by decide +kernel)
  have k24 := hts (.fieldLink RX9 24 "HoursBankModel" "from" "I") (by decide +kernel)
  have k18 := hts (.fieldLink RX9 18 "HoursBankModel" "size" "I") (by decide +kernel)
  have k7 := hts (.fieldLink RX9 7 "HoursBankModel" "tape" "[I") (by decide +kernel)
  have k37 := hts (.fieldLink RX9 37 "HoursBankModel" "word" "J") (by decide +kernel)
  have k41 := hts (.fieldLink RX9 41 "HoursBankModel" "number" "I") (by decide +kernel)
  have k48 := hts (.constantLong RX9 48 (27)) (by decide +kernel)
  have k50 := hts (.constantLong RX9 50 (96)) (by decide +kernel)
  have k27 := hts (.fieldLink RX9 27 "HoursBankModel" "sort" "I") (by decide +kernel)
  have hl := lv_entry ([.ref ((a 0))]) (n := 5) (Nat.le_of_ble_eq_true rfl)
  rw [lg_entry_eq]
  generalize (lg_sl ([.ref ((a 0))]) ++ List.replicate (5 - (lg_sl ([.ref ((a 0))])).length) Slot.unset).toArray = ls at hl ⊢
  have hl : lv_has ls 5 [(0, .ref ((a 0)))] := hl
  have hS : va_S (mA a) s.heap s.heap [] := va_S.rf
  obtain ⟨H, hH9⟩ : ∃ H, H = s.heap := ⟨_, rfl⟩
  obtain ⟨locs, hL9⟩ : ∃ x : List Loc, x = [] := ⟨_, rfl⟩
  have hP : gP g (mW g a sc wd tp N rd sn) H := hH9 ▸ hP
  have hS : va_S (mA a) s.heap H locs := by rw [hH9, hL9]; exact hS
  refine z_start hH9 hL9 ?_
  clear hH9 hL9
  have hsk : skipT (mn tp) n ps ≤ n := skp_le (mn tp) n (n - ps) ps hp
  have hsg : ps ≤ skipT (mn tp) n ps := skp_ge (mn tp) n (n - ps) ps
  have join52 : ∀ (q : Nat) (hq : q = skipT (mn tp) n ps) (H : Heap) (locs : List Loc) (hP : gP g (mW g a (upd sc 3 (zI ((q : Nat)))) wd tp N rd sn) H) (hS : va_S (mA a) s.heap H locs) (ls : Array Slot) (hl : lv_has ls 5 [(0, .ref ((a 0)))]), W p l e (headSpec wsX9_go ({ frames := 1, cells := 0, slots := 0, locals := 21 })).room s m ([.ref ((a 0))] : List Value).toArray below meth c H locs 0 0 (MQ below (va_Qv (fun (_ : Unit) => True) (fun (_ : Unit) (tS : State) => gP g (mW g a (upd (upd (upd (upd sc 3 (zI ((gTo (mn tp) n ps : Nat)))) 4 (zI ((gFr (mn tp) n ps : Nat)))) 5 (zI ((gSo (mn tp) n ps : Nat)))) 6 (gNu (mn tp) n ps (sc 6))) (gWo (mn tp) n ps wd) tp N rd sn) tS.heap) (mA a)) ([.ref ((a 0))] : List Value).toArray s 0 0 (mA a)) (F0 m 52 ls []) := by
    intro q hq H locs hP hS ls hl
    have hq0 : q ≤ n := by rw [hq]; exact hsk
    have hq1 : ps ≤ q := by rw [hq]; exact hsg
    refine lv_aload_n hx hb dX9_go_52 rfl (lv_at hl 0 rfl) ?_
    refine lv_aload_n hx hb dX9_go_53 rfl (lv_at hl 0 rfl) ?_
    refine va_get (D := g.1) (ci := 9) (v := .int (zI ((q : Nat)))) (C := RX9) (T := TX9) (N := 15) hx hb hts hinX9 hown hK hP 0 rfl rfl 4 (by decide) k21 (fun _ h9 => h9) rfl dX9_go_54 ?_
    refine va_put (D := g.1) (ci := 9) (v := .int (zI ((q : Nat)))) (ty := .int) (C := RX9) (T := TX9) (N := 15) hx hb hts hinX9 tyX9 tyX9_ok nmX9 hown hK hP (mD ha) hS 0 rfl rfl 5 (by decide) k24 (fun _ h9 => h9) rfl (by decide +kernel) rfl rfl (Nat.le_of_ble_eq_true rfl) dX9_go_57 (fun H locs hP _ hS => ?_)
    have hP : gP g (mW g a (upd (upd sc 3 (zI ((q : Nat)))) 4 (zI ((q : Nat)))) wd tp N rd sn) H := hP
    have join93 : ∀  (hov : ¬ (700 < n ∧ 700 ≤ q)) (H : Heap) (locs : List Loc) (hP : gP g (mW g a (upd (upd sc 3 (zI ((q : Nat)))) 4 (zI ((q : Nat)))) wd tp N rd sn) H) (hS : va_S (mA a) s.heap H locs) (ls : Array Slot) (hl : lv_has ls 5 [(0, .ref ((a 0)))]), W p l e (headSpec wsX9_go ({ frames := 1, cells := 0, slots := 0, locals := 21 })).room s m ([.ref ((a 0))] : List Value).toArray below meth c H locs 0 0 (MQ below (va_Qv (fun (_ : Unit) => True) (fun (_ : Unit) (tS : State) => gP g (mW g a (upd (upd (upd (upd sc 3 (zI ((gTo (mn tp) n ps : Nat)))) 4 (zI ((gFr (mn tp) n ps : Nat)))) 5 (zI ((gSo (mn tp) n ps : Nat)))) 6 (gNu (mn tp) n ps (sc 6))) (gWo (mn tp) n ps wd) tp N rd sn) tS.heap) (mA a)) ([.ref ((a 0))] : List Value).toArray s 0 0 (mA a)) (F0 m 93 ls []) := by
      intro  hov H locs hP hS ls hl
      refine lv_aload_n hx hb dX9_go_93 rfl (lv_at hl 0 rfl) ?_
      refine va_get (D := g.1) (ci := 9) (v := .int (zI ((q : Nat)))) (C := RX9) (T := TX9) (N := 15) hx hb hts hinX9 hown hK hP 0 rfl rfl 4 (by decide) k21 (fun _ h9 => h9) rfl dX9_go_94 ?_
      refine lv_aload_n hx hb dX9_go_97 rfl (lv_at hl 0 rfl) ?_
      refine va_get (D := g.1) (ci := 9) (v := .int (sc 2)) (C := RX9) (T := TX9) (N := 15) hx hb hts hinX9 hown hK hP 0 rfl rfl 3 (by decide) k18 (fun _ h9 => h9) rfl dX9_go_98 ?_
      refine z_top (y := zI (n)) (hz) ?_
      refine z_icmp_lt (tgt := 110) hx hb dX9_go_101 (by decide) (by omega) (by omega) (fun h101 => ?_) (fun h101 => ?_)
      · have hbq := (hT q (by omega)).le
        refine lv_aload_n hx hb dX9_go_110 rfl (lv_at hl 0 rfl) ?_
        refine va_get (D := g.1) (ci := 9) (v := .ref ((a 1))) (C := RX9) (T := TX9) (N := 15) hx hb hts hinX9 hown hK hP 0 rfl rfl 1 (by decide) k7 (fun _ h9 => h9) rfl dX9_go_111 ?_
        refine lv_aload_n hx hb dX9_go_114 rfl (lv_at hl 0 rfl) ?_
        refine va_get (D := g.1) (ci := 9) (v := .int (zI ((q : Nat)))) (C := RX9) (T := TX9) (N := 15) hx hb hts hinX9 hown hK hP 0 rfl rfl 4 (by decide) k21 (fun _ h9 => h9) rfl dX9_go_115 ?_
        refine z_iald hx hb hK hP 1 0 rfl rfl (by decide) (q) (by omega) (by omega) dX9_go_118 ?_
        refine z_top (y := zI (mn tp (q))) ((hT (q) (by omega)).eq) ?_
        refine lv_istore_n (lv' := [(1, .int (zI (mn tp (q)))), (0, .ref ((a 0)))]) hx hb dX9_go_119 rfl hl (by decide) rfl (fun ls hl => ?_)
        have join160 : ∀  (hld : ldT (mn tp q)) (H : Heap) (locs : List Loc) (hP : gP g (mW g a (upd (upd sc 3 (zI ((q : Nat)))) 4 (zI ((q : Nat)))) wd tp N rd sn) H) (hS : va_S (mA a) s.heap H locs) (ls : Array Slot) (hl : lv_has ls 5 [(1, .int (zI (mn tp (q)))), (0, .ref ((a 0)))]), W p l e (headSpec wsX9_go ({ frames := 1, cells := 0, slots := 0, locals := 21 })).room s m ([.ref ((a 0))] : List Value).toArray below meth c H locs 0 0 (MQ below (va_Qv (fun (_ : Unit) => True) (fun (_ : Unit) (tS : State) => gP g (mW g a (upd (upd (upd (upd sc 3 (zI ((gTo (mn tp) n ps : Nat)))) 4 (zI ((gFr (mn tp) n ps : Nat)))) 5 (zI ((gSo (mn tp) n ps : Nat)))) 6 (gNu (mn tp) n ps (sc 6))) (gWo (mn tp) n ps wd) tp N rd sn) tS.heap) (mA a)) ([.ref ((a 0))] : List Value).toArray s 0 0 (mA a)) (F0 m 160 ls []) := by
          intro  hld H locs hP hS ls hl
          refine lv_iload_n hx hb dX9_go_160 rfl (lv_at hl 0 rfl) ?_
          refine vp_callSi (va_Run.run (va_runS (As := [.int (zI (mn tp (q)))]) (rest := []) ⟨hx, hb, hml, hown, hts⟩ (c_X9_isLetter l ((mn tp q : Int)) (by omega)) (va_cwS 1 hts gX9_go_X9_isLetter rfl rfl rfl (by decide +kernel) ⟨Nat.le_of_ble_eq_true rfl, Nat.le_of_ble_eq_true rfl⟩) g_preS0 rfl rfl hl.1 rfl (lv_room (Nat.le_of_ble_eq_true rfl)) dX9_go_161 ⟨Nat.le_of_ble_eq_true rfl, Nat.le_of_ble_eq_true rfl⟩)) (fun r hr9 => ?_)
          subst hr9
          refine lv_istore_n (lv' := [(2, .int (zI (bz (97 ≤ (mn tp q : Int) ∧ (mn tp q : Int) ≤ 122)))), (1, .int (zI (mn tp (q)))), (0, .ref ((a 0)))]) hx hb dX9_go_164 rfl hl (by decide) rfl (fun ls hl => ?_)
          refine lv_iconst (v := zI (1)) hx hb dX9_go_165 (by decide) ?_
          refine lv_istore_n (lv' := [(3, .int (zI (1))), (2, .int (zI (bz (97 ≤ (mn tp q : Int) ∧ (mn tp q : Int) ≤ 122)))), (1, .int (zI (mn tp (q)))), (0, .ref ((a 0)))]) hx hb dX9_go_166 rfl hl (by decide) rfl (fun ls hl => ?_)
          refine lv_aload_n hx hb dX9_go_167 rfl (lv_at hl 3 rfl) ?_
          refine lv_lconst (v := zL (0)) hx hb dX9_go_168 (by decide) ?_
          refine va_put (D := g.1) (ci := 9) (v := .long (zL (0))) (ty := .long) (C := RX9) (T := TX9) (N := 15) hx hb hts hinX9 tyX9 tyX9_ok nmX9 hown hK hP (mD ha) hS 0 rfl rfl 10 (by decide) k37 (fun _ h9 => h9) rfl (by decide +kernel) rfl rfl (Nat.le_of_ble_eq_true rfl) dX9_go_169 (fun H locs hP _ hS => ?_)
          have hP : gP g (mW g a (upd (upd sc 3 (zI ((q : Nat)))) 4 (zI ((q : Nat)))) (zL (0)) tp N rd sn) H := hP
          refine lv_aload_n hx hb dX9_go_172 rfl (lv_at hl 3 rfl) ?_
          refine lv_iconst (v := zI (0)) hx hb dX9_go_173 (by decide) ?_
          refine va_put (D := g.1) (ci := 9) (v := .int (zI (0))) (ty := .int) (C := RX9) (T := TX9) (N := 15) hx hb hts hinX9 tyX9 tyX9_ok nmX9 hown hK hP (mD ha) hS 0 rfl rfl 7 (by decide) k41 (fun _ h9 => h9) rfl (by decide +kernel) rfl rfl (Nat.le_of_ble_eq_true rfl) dX9_go_174 (fun H locs hP _ hS => ?_)
          have hP : gP g (mW g a (upd (upd (upd sc 3 (zI ((q : Nat)))) 4 (zI ((q : Nat)))) 6 (zI (0))) (zL (0)) tp N rd sn) H := hP
          have loop177 : ∀ (K9 : Nat) (j : Nat) (hK9 : n - (q + j) < K9) (hj : q + j ≤ n) (hrr : rendT (mn tp) n q = rendT (mn tp) n (q + j)) (H : Heap) (locs : List Loc) (hP : gP g (mW g a (upd (upd (upd sc 3 (zI ((q + j : Nat)))) 4 (zI ((q : Nat)))) 6 (zI (nvT (mn tp) q j))) (zL (wvT (mn tp) q j)) tp N rd sn) H) (hS : va_S (mA a) s.heap H locs) (ls : Array Slot) (hl : lv_has ls 5 [(3, .int (zI (gdT (mn tp) q j))), (2, .int (zI (bz (97 ≤ (mn tp q : Int) ∧ (mn tp q : Int) ≤ 122)))), (0, .ref ((a 0)))]), W p l e (headSpec wsX9_go ({ frames := 1, cells := 0, slots := 0, locals := 21 })).room s m ([.ref ((a 0))] : List Value).toArray below meth c H locs 0 0 (MQ below (va_Qv (fun (_ : Unit) => True) (fun (_ : Unit) (tS : State) => gP g (mW g a (upd (upd (upd (upd sc 3 (zI ((gTo (mn tp) n ps : Nat)))) 4 (zI ((gFr (mn tp) n ps : Nat)))) 5 (zI ((gSo (mn tp) n ps : Nat)))) 6 (gNu (mn tp) n ps (sc 6))) (gWo (mn tp) n ps wd) tp N rd sn) tS.heap) (mA a)) ([.ref ((a 0))] : List Value).toArray s 0 0 (mA a)) (F0 m 177 ls []) := by
            intro K9
            induction K9 with
            | zero => intro j hK9; exact absurd hK9 (Nat.not_lt_zero _)
            | succ K9 ih =>
              intro j hK9 hj hrr H locs hP hS ls hl
              have hta := tAt_le (n := n) (p := q + j) hT hn
              have hg01 := gd_01 (mn tp) q j
              have join235 : ∀  (hc : q + j < n ∧ ldT (mn tp (q + j))) (H : Heap) (locs : List Loc) (hP : gP g (mW g a (upd (upd (upd sc 3 (zI ((q + j : Nat)))) 4 (zI ((q : Nat)))) 6 (zI (nvT (mn tp) q j))) (zL (wvT (mn tp) q j)) tp N rd sn) H) (hS : va_S (mA a) s.heap H locs) (ls : Array Slot) (hl : lv_has ls 5 [(4, .int (zI (mn tp (q + j)))), (3, .int (zI (gdT (mn tp) q (j + 1)))), (2, .int (zI (bz (97 ≤ (mn tp q : Int) ∧ (mn tp q : Int) ≤ 122)))), (0, .ref ((a 0)))]), W p l e (headSpec wsX9_go ({ frames := 1, cells := 0, slots := 0, locals := 21 })).room s m ([.ref ((a 0))] : List Value).toArray below meth c H locs 0 0 (MQ below (va_Qv (fun (_ : Unit) => True) (fun (_ : Unit) (tS : State) => gP g (mW g a (upd (upd (upd (upd sc 3 (zI ((gTo (mn tp) n ps : Nat)))) 4 (zI ((gFr (mn tp) n ps : Nat)))) 5 (zI ((gSo (mn tp) n ps : Nat)))) 6 (gNu (mn tp) n ps (sc 6))) (gWo (mn tp) n ps wd) tp N rd sn) tS.heap) (mA a)) ([.ref ((a 0))] : List Value).toArray s 0 0 (mA a)) (F0 m 235 ls []) := by
                intro  hc H locs hP hS ls hl
                have hbj := (hT (q + j) (by omega)).le
                refine lv_aload_n hx hb dX9_go_235 rfl (lv_at hl 3 rfl) ?_
                refine va_get (D := g.1) (ci := 9) (v := .int (zI ((q + j : Nat)))) (C := RX9) (T := TX9) (N := 15) hx hb hts hinX9 hown hK hP 0 rfl rfl 4 (by decide) k21 (fun _ h9 => h9) rfl dX9_go_236 ?_
                refine lv_aload_n hx hb dX9_go_239 rfl (lv_at hl 3 rfl) ?_
                refine va_get (D := g.1) (ci := 9) (v := .int (zI ((q : Nat)))) (C := RX9) (T := TX9) (N := 15) hx hb hts hinX9 hown hK hP 0 rfl rfl 5 (by decide) k24 (fun _ h9 => h9) rfl dX9_go_240 ?_
                refine z_isub hx hb dX9_go_243 ?_
                refine lv_bipush (v := zI (7)) hx hb dX9_go_244 (by decide) ?_
                refine z_icmp_ge (tgt := 269) hx hb dX9_go_246 (by decide) (by omega) (by omega) (fun h246 => ?_) (fun h246 => ?_)
                · refine lv_aload_n hx hb dX9_go_269 rfl (lv_at hl 3 rfl) ?_
                  refine va_get (D := g.1) (ci := 9) (v := .int (zI ((q + j : Nat)))) (C := RX9) (T := TX9) (N := 15) hx hb hts hinX9 hown hK hP 0 rfl rfl 4 (by decide) k21 (fun _ h9 => h9) rfl dX9_go_270 ?_
                  refine lv_aload_n hx hb dX9_go_273 rfl (lv_at hl 3 rfl) ?_
                  refine va_get (D := g.1) (ci := 9) (v := .int (zI ((q : Nat)))) (C := RX9) (T := TX9) (N := 15) hx hb hts hinX9 hown hK hP 0 rfl rfl 5 (by decide) k24 (fun _ h9 => h9) rfl dX9_go_274 ?_
                  refine z_isub hx hb dX9_go_277 ?_
                  refine lv_iconst (v := zI (4)) hx hb dX9_go_278 (by decide) ?_
                  refine z_icmp_ge (tgt := 299) hx hb dX9_go_279 (by decide) (by omega) (by omega) (fun h279 => ?_) (fun h279 => ?_)
                  · refine lv_aload_n hx hb dX9_go_299 rfl (lv_at hl 3 rfl) ?_
                    refine lv_dup hx hb dX9_go_300 rfl ?_
                    refine va_get (D := g.1) (ci := 9) (v := .int (zI ((q + j : Nat)))) (C := RX9) (T := TX9) (N := 15) hx hb hts hinX9 hown hK hP 0 rfl rfl 4 (by decide) k21 (fun _ h9 => h9) rfl dX9_go_301 ?_
                    refine lv_iconst (v := zI (1)) hx hb dX9_go_304 (by decide) ?_
                    refine z_iadd hx hb dX9_go_305 ?_
                    refine va_put (D := g.1) (ci := 9) (v := .int (zI ((q + j : Nat) + 1))) (ty := .int) (C := RX9) (T := TX9) (N := 15) hx hb hts hinX9 tyX9 tyX9_ok nmX9 hown hK hP (mD ha) hS 0 rfl rfl 4 (by decide) k21 (fun _ h9 => h9) rfl (by decide +kernel) rfl rfl (Nat.le_of_ble_eq_true rfl) dX9_go_306 (fun H locs hP _ hS => ?_)
                    have hP : gP g (mW g a (upd (upd (upd sc 3 (zI ((q + j : Nat) + 1))) 4 (zI ((q : Nat)))) 6 (zI (nvT (mn tp) q j))) (zL (wvT (mn tp) q j)) tp N rd sn) H := hP
                    refine lv_goto (tgt := 177) hx hb dX9_go_309 (by decide) ?_
                    have hl := lv_sub (l' := [(3, .int (zI (gdT (mn tp) q (j + 1)))), (2, .int (zI (bz (97 ≤ (mn tp q : Int) ∧ (mn tp q : Int) ≤ 122)))), (0, .ref ((a 0)))]) hl [1, 2, 3] rfl
                    -- same
                    exact ih (j + 1) (by omega) (by omega) (hrr.trans (rend_s hc)) H locs (by
                      rw [show (((q + (j + 1) : Nat)) : Int) = ((q + j : Nat) : Int) + 1 by omega]
                      first
                      | (exfalso; omega)
                      | (rw [wv_s1 (by omega), nv_s1 (by omega)]; exact hP)
                      | (rw [wv_s1 (by omega), nv_s2 (by omega)]; exact hP)
                      | (rw [wv_s2 (by omega), nv_s2 (by omega)]; exact hP)) hS ls hl
                  · refine lv_aload_n hx hb dX9_go_282 rfl (lv_at hl 3 rfl) ?_
                    refine lv_bipush (v := zI (10)) hx hb dX9_go_283 (by decide) ?_
                    refine lv_aload_n hx hb dX9_go_285 rfl (lv_at hl 3 rfl) ?_
                    refine va_get (D := g.1) (ci := 9) (v := .int (zI (nvT (mn tp) q j))) (C := RX9) (T := TX9) (N := 15) hx hb hts hinX9 hown hK hP 0 rfl rfl 7 (by decide) k41 (fun _ h9 => h9) rfl dX9_go_286 ?_
                    refine z_imul hx hb dX9_go_289 ?_
                    refine lv_iload hx hb dX9_go_290 (lv_at hl 0 rfl) ?_
                    refine z_iadd hx hb dX9_go_292 ?_
                    refine lv_bipush (v := zI (48)) hx hb dX9_go_293 (by decide) ?_
                    refine z_isub hx hb dX9_go_295 ?_
                    refine va_put (D := g.1) (ci := 9) (v := .int (zI (((10 * (nvT (mn tp) q j)) + (mn tp (q + j))) - 48))) (ty := .int) (C := RX9) (T := TX9) (N := 15) hx hb hts hinX9 tyX9 tyX9_ok nmX9 hown hK hP (mD ha) hS 0 rfl rfl 7 (by decide) k41 (fun _ h9 => h9) rfl (by decide +kernel) rfl rfl (Nat.le_of_ble_eq_true rfl) dX9_go_296 (fun H locs hP _ hS => ?_)
                    have hP : gP g (mW g a (upd (upd (upd sc 3 (zI ((q + j : Nat)))) 4 (zI ((q : Nat)))) 6 (zI (((10 * (nvT (mn tp) q j)) + (mn tp (q + j))) - 48))) (zL (wvT (mn tp) q j)) tp N rd sn) H := hP
                    refine lv_aload_n hx hb dX9_go_299 rfl (lv_at hl 3 rfl) ?_
                    refine lv_dup hx hb dX9_go_300 rfl ?_
                    refine va_get (D := g.1) (ci := 9) (v := .int (zI ((q + j : Nat)))) (C := RX9) (T := TX9) (N := 15) hx hb hts hinX9 hown hK hP 0 rfl rfl 4 (by decide) k21 (fun _ h9 => h9) rfl dX9_go_301 ?_
                    refine lv_iconst (v := zI (1)) hx hb dX9_go_304 (by decide) ?_
                    refine z_iadd hx hb dX9_go_305 ?_
                    refine va_put (D := g.1) (ci := 9) (v := .int (zI ((q + j : Nat) + 1))) (ty := .int) (C := RX9) (T := TX9) (N := 15) hx hb hts hinX9 tyX9 tyX9_ok nmX9 hown hK hP (mD ha) hS 0 rfl rfl 4 (by decide) k21 (fun _ h9 => h9) rfl (by decide +kernel) rfl rfl (Nat.le_of_ble_eq_true rfl) dX9_go_306 (fun H locs hP _ hS => ?_)
                    have hP : gP g (mW g a (upd (upd (upd sc 3 (zI ((q + j : Nat) + 1))) 4 (zI ((q : Nat)))) 6 (zI (((10 * (nvT (mn tp) q j)) + (mn tp (q + j))) - 48))) (zL (wvT (mn tp) q j)) tp N rd sn) H := hP
                    refine lv_goto (tgt := 177) hx hb dX9_go_309 (by decide) ?_
                    have hl := lv_sub (l' := [(3, .int (zI (gdT (mn tp) q (j + 1)))), (2, .int (zI (bz (97 ≤ (mn tp q : Int) ∧ (mn tp q : Int) ≤ 122)))), (0, .ref ((a 0)))]) hl [1, 2, 3] rfl
                    -- same
                    exact ih (j + 1) (by omega) (by omega) (hrr.trans (rend_s hc)) H locs (by
                      rw [show (((q + (j + 1) : Nat)) : Int) = ((q + j : Nat) : Int) + 1 by omega]
                      first
                      | (exfalso; omega)
                      | (rw [wv_s1 (by omega), nv_s1 (by omega)]; exact hP)
                      | (rw [wv_s1 (by omega), nv_s2 (by omega)]; exact hP)
                      | (rw [wv_s2 (by omega), nv_s2 (by omega)]; exact hP)) hS ls hl
                · refine lv_aload_n hx hb dX9_go_249 rfl (lv_at hl 3 rfl) ?_
                  refine lv_ldc2 (v := 27) hx hb hown k48 dX9_go_250 ?_
                  refine z_topl (y := zL (27)) (by decide) ?_
                  refine lv_aload_n hx hb dX9_go_253 rfl (lv_at hl 3 rfl) ?_
                  refine va_get (D := g.1) (ci := 9) (v := .long (zL (wvT (mn tp) q j))) (C := RX9) (T := TX9) (N := 15) hx hb hts hinX9 hown hK hP 0 rfl rfl 10 (by decide) k37 (fun _ h9 => h9) rfl dX9_go_254 ?_
                  refine z_lmul hx hb dX9_go_257 ?_
                  refine lv_iload hx hb dX9_go_258 (lv_at hl 0 rfl) ?_
                  refine z_i2l hx hb dX9_go_260 (by omega) ?_
                  refine z_ladd hx hb dX9_go_261 ?_
                  refine lv_ldc2 (v := 96) hx hb hown k50 dX9_go_262 ?_
                  refine z_topl (y := zL (96)) (by decide) ?_
                  refine z_lsub hx hb dX9_go_265 ?_
                  refine va_put (D := g.1) (ci := 9) (v := .long (zL (((27 * (wvT (mn tp) q j)) + (mn tp (q + j))) - 96))) (ty := .long) (C := RX9) (T := TX9) (N := 15) hx hb hts hinX9 tyX9 tyX9_ok nmX9 hown hK hP (mD ha) hS 0 rfl rfl 10 (by decide) k37 (fun _ h9 => h9) rfl (by decide +kernel) rfl rfl (Nat.le_of_ble_eq_true rfl) dX9_go_266 (fun H locs hP _ hS => ?_)
                  have hP : gP g (mW g a (upd (upd (upd sc 3 (zI ((q + j : Nat)))) 4 (zI ((q : Nat)))) 6 (zI (nvT (mn tp) q j))) (zL (((27 * (wvT (mn tp) q j)) + (mn tp (q + j))) - 96)) tp N rd sn) H := hP
                  refine lv_aload_n hx hb dX9_go_269 rfl (lv_at hl 3 rfl) ?_
                  refine va_get (D := g.1) (ci := 9) (v := .int (zI ((q + j : Nat)))) (C := RX9) (T := TX9) (N := 15) hx hb hts hinX9 hown hK hP 0 rfl rfl 4 (by decide) k21 (fun _ h9 => h9) rfl dX9_go_270 ?_
                  refine lv_aload_n hx hb dX9_go_273 rfl (lv_at hl 3 rfl) ?_
                  refine va_get (D := g.1) (ci := 9) (v := .int (zI ((q : Nat)))) (C := RX9) (T := TX9) (N := 15) hx hb hts hinX9 hown hK hP 0 rfl rfl 5 (by decide) k24 (fun _ h9 => h9) rfl dX9_go_274 ?_
                  refine z_isub hx hb dX9_go_277 ?_
                  refine lv_iconst (v := zI (4)) hx hb dX9_go_278 (by decide) ?_
                  refine z_icmp_ge (tgt := 299) hx hb dX9_go_279 (by decide) (by omega) (by omega) (fun h279 => ?_) (fun h279 => ?_)
                  · refine lv_aload_n hx hb dX9_go_299 rfl (lv_at hl 3 rfl) ?_
                    refine lv_dup hx hb dX9_go_300 rfl ?_
                    refine va_get (D := g.1) (ci := 9) (v := .int (zI ((q + j : Nat)))) (C := RX9) (T := TX9) (N := 15) hx hb hts hinX9 hown hK hP 0 rfl rfl 4 (by decide) k21 (fun _ h9 => h9) rfl dX9_go_301 ?_
                    refine lv_iconst (v := zI (1)) hx hb dX9_go_304 (by decide) ?_
                    refine z_iadd hx hb dX9_go_305 ?_
                    refine va_put (D := g.1) (ci := 9) (v := .int (zI ((q + j : Nat) + 1))) (ty := .int) (C := RX9) (T := TX9) (N := 15) hx hb hts hinX9 tyX9 tyX9_ok nmX9 hown hK hP (mD ha) hS 0 rfl rfl 4 (by decide) k21 (fun _ h9 => h9) rfl (by decide +kernel) rfl rfl (Nat.le_of_ble_eq_true rfl) dX9_go_306 (fun H locs hP _ hS => ?_)
                    have hP : gP g (mW g a (upd (upd (upd sc 3 (zI ((q + j : Nat) + 1))) 4 (zI ((q : Nat)))) 6 (zI (nvT (mn tp) q j))) (zL (((27 * (wvT (mn tp) q j)) + (mn tp (q + j))) - 96)) tp N rd sn) H := hP
                    refine lv_goto (tgt := 177) hx hb dX9_go_309 (by decide) ?_
                    have hl := lv_sub (l' := [(3, .int (zI (gdT (mn tp) q (j + 1)))), (2, .int (zI (bz (97 ≤ (mn tp q : Int) ∧ (mn tp q : Int) ≤ 122)))), (0, .ref ((a 0)))]) hl [1, 2, 3] rfl
                    -- same
                    exact ih (j + 1) (by omega) (by omega) (hrr.trans (rend_s hc)) H locs (by
                      rw [show (((q + (j + 1) : Nat)) : Int) = ((q + j : Nat) : Int) + 1 by omega]
                      first
                      | (exfalso; omega)
                      | (rw [wv_s1 (by omega), nv_s1 (by omega)]; exact hP)
                      | (rw [wv_s1 (by omega), nv_s2 (by omega)]; exact hP)
                      | (rw [wv_s2 (by omega), nv_s2 (by omega)]; exact hP)) hS ls hl
                  · refine lv_aload_n hx hb dX9_go_282 rfl (lv_at hl 3 rfl) ?_
                    refine lv_bipush (v := zI (10)) hx hb dX9_go_283 (by decide) ?_
                    refine lv_aload_n hx hb dX9_go_285 rfl (lv_at hl 3 rfl) ?_
                    refine va_get (D := g.1) (ci := 9) (v := .int (zI (nvT (mn tp) q j))) (C := RX9) (T := TX9) (N := 15) hx hb hts hinX9 hown hK hP 0 rfl rfl 7 (by decide) k41 (fun _ h9 => h9) rfl dX9_go_286 ?_
                    refine z_imul hx hb dX9_go_289 ?_
                    refine lv_iload hx hb dX9_go_290 (lv_at hl 0 rfl) ?_
                    refine z_iadd hx hb dX9_go_292 ?_
                    refine lv_bipush (v := zI (48)) hx hb dX9_go_293 (by decide) ?_
                    refine z_isub hx hb dX9_go_295 ?_
                    refine va_put (D := g.1) (ci := 9) (v := .int (zI (((10 * (nvT (mn tp) q j)) + (mn tp (q + j))) - 48))) (ty := .int) (C := RX9) (T := TX9) (N := 15) hx hb hts hinX9 tyX9 tyX9_ok nmX9 hown hK hP (mD ha) hS 0 rfl rfl 7 (by decide) k41 (fun _ h9 => h9) rfl (by decide +kernel) rfl rfl (Nat.le_of_ble_eq_true rfl) dX9_go_296 (fun H locs hP _ hS => ?_)
                    have hP : gP g (mW g a (upd (upd (upd sc 3 (zI ((q + j : Nat)))) 4 (zI ((q : Nat)))) 6 (zI (((10 * (nvT (mn tp) q j)) + (mn tp (q + j))) - 48))) (zL (((27 * (wvT (mn tp) q j)) + (mn tp (q + j))) - 96)) tp N rd sn) H := hP
                    refine lv_aload_n hx hb dX9_go_299 rfl (lv_at hl 3 rfl) ?_
                    refine lv_dup hx hb dX9_go_300 rfl ?_
                    refine va_get (D := g.1) (ci := 9) (v := .int (zI ((q + j : Nat)))) (C := RX9) (T := TX9) (N := 15) hx hb hts hinX9 hown hK hP 0 rfl rfl 4 (by decide) k21 (fun _ h9 => h9) rfl dX9_go_301 ?_
                    refine lv_iconst (v := zI (1)) hx hb dX9_go_304 (by decide) ?_
                    refine z_iadd hx hb dX9_go_305 ?_
                    refine va_put (D := g.1) (ci := 9) (v := .int (zI ((q + j : Nat) + 1))) (ty := .int) (C := RX9) (T := TX9) (N := 15) hx hb hts hinX9 tyX9 tyX9_ok nmX9 hown hK hP (mD ha) hS 0 rfl rfl 4 (by decide) k21 (fun _ h9 => h9) rfl (by decide +kernel) rfl rfl (Nat.le_of_ble_eq_true rfl) dX9_go_306 (fun H locs hP _ hS => ?_)
                    have hP : gP g (mW g a (upd (upd (upd sc 3 (zI ((q + j : Nat) + 1))) 4 (zI ((q : Nat)))) 6 (zI (((10 * (nvT (mn tp) q j)) + (mn tp (q + j))) - 48))) (zL (((27 * (wvT (mn tp) q j)) + (mn tp (q + j))) - 96)) tp N rd sn) H := hP
                    refine lv_goto (tgt := 177) hx hb dX9_go_309 (by decide) ?_
                    have hl := lv_sub (l' := [(3, .int (zI (gdT (mn tp) q (j + 1)))), (2, .int (zI (bz (97 ≤ (mn tp q : Int) ∧ (mn tp q : Int) ≤ 122)))), (0, .ref ((a 0)))]) hl [1, 2, 3] rfl
                    -- same
                    exact ih (j + 1) (by omega) (by omega) (hrr.trans (rend_s hc)) H locs (by
                      rw [show (((q + (j + 1) : Nat)) : Int) = ((q + j : Nat) : Int) + 1 by omega]
                      first
                      | (exfalso; omega)
                      | (rw [wv_s1 (by omega), nv_s1 (by omega)]; exact hP)
                      | (rw [wv_s1 (by omega), nv_s2 (by omega)]; exact hP)
                      | (rw [wv_s2 (by omega), nv_s2 (by omega)]; exact hP)) hS ls hl
              have join205 : ∀  (hc : q + j < n ∧ ldT (mn tp (q + j))) (H : Heap) (locs : List Loc) (hP : gP g (mW g a (upd (upd (upd sc 3 (zI ((q + j : Nat)))) 4 (zI ((q : Nat)))) 6 (zI (nvT (mn tp) q j))) (zL (wvT (mn tp) q j)) tp N rd sn) H) (hS : va_S (mA a) s.heap H locs) (ls : Array Slot) (hl : lv_has ls 5 [(3, .int (zI (gdT (mn tp) q j))), (2, .int (zI (bz (97 ≤ (mn tp q : Int) ∧ (mn tp q : Int) ≤ 122)))), (0, .ref ((a 0)))]), W p l e (headSpec wsX9_go ({ frames := 1, cells := 0, slots := 0, locals := 21 })).room s m ([.ref ((a 0))] : List Value).toArray below meth c H locs 0 0 (MQ below (va_Qv (fun (_ : Unit) => True) (fun (_ : Unit) (tS : State) => gP g (mW g a (upd (upd (upd (upd sc 3 (zI ((gTo (mn tp) n ps : Nat)))) 4 (zI ((gFr (mn tp) n ps : Nat)))) 5 (zI ((gSo (mn tp) n ps : Nat)))) 6 (gNu (mn tp) n ps (sc 6))) (gWo (mn tp) n ps wd) tp N rd sn) tS.heap) (mA a)) ([.ref ((a 0))] : List Value).toArray s 0 0 (mA a)) (F0 m 205 ls []) := by
                intro  hc H locs hP hS ls hl
                have hbj := (hT (q + j) (by omega)).le
                refine lv_aload_n hx hb dX9_go_205 rfl (lv_at hl 2 rfl) ?_
                refine va_get (D := g.1) (ci := 9) (v := .ref ((a 1))) (C := RX9) (T := TX9) (N := 15) hx hb hts hinX9 hown hK hP 0 rfl rfl 1 (by decide) k7 (fun _ h9 => h9) rfl dX9_go_206 ?_
                refine lv_aload_n hx hb dX9_go_209 rfl (lv_at hl 2 rfl) ?_
                refine va_get (D := g.1) (ci := 9) (v := .int (zI ((q + j : Nat)))) (C := RX9) (T := TX9) (N := 15) hx hb hts hinX9 hown hK hP 0 rfl rfl 4 (by decide) k21 (fun _ h9 => h9) rfl dX9_go_210 ?_
                refine z_iald hx hb hK hP 1 0 rfl rfl (by decide) (q + j) (by omega) (by omega) dX9_go_213 ?_
                refine z_top (y := zI (mn tp (q + j))) ((hT (q + j) (by omega)).eq) ?_
                refine lv_istore (lv' := [(4, .int (zI (mn tp (q + j)))), (3, .int (zI (gdT (mn tp) q j))), (2, .int (zI (bz (97 ≤ (mn tp q : Int) ∧ (mn tp q : Int) ≤ 122)))), (0, .ref ((a 0)))]) hx hb dX9_go_214 hl (by decide) rfl (fun ls hl => ?_)
                refine lv_iload_n hx hb dX9_go_216 rfl (lv_at hl 1 rfl) ?_
                refine z_if_eq (tgt := 233) hx hb dX9_go_217 (by decide) (by omega) (fun h217 => ?_) (fun h217 => ?_)
                · refine lv_iconst (v := zI (0)) hx hb dX9_go_233 (by decide) ?_
                  refine lv_istore_n (lv' := [(3, .int (zI (0))), (4, .int (zI (mn tp (q + j)))), (2, .int (zI (bz (97 ≤ (mn tp q : Int) ∧ (mn tp q : Int) ≤ 122)))), (0, .ref ((a 0)))]) hx hb dX9_go_234 rfl hl (by decide) rfl (fun ls hl => ?_)
                  have hl := lv_sub (l' := [(4, .int (zI (mn tp (q + j)))), (3, .int (zI (0))), (2, .int (zI (bz (97 ≤ (mn tp q : Int) ∧ (mn tp q : Int) ≤ 122)))), (0, .ref ((a 0)))]) hl [1, 0, 2, 3] rfl
                  have hl : lv_has ls 5 [(4, .int (zI (mn tp (q + j)))), (3, .int (zI (gdT (mn tp) q (j + 1)))), (2, .int (zI (bz (97 ≤ (mn tp q : Int) ∧ (mn tp q : Int) ≤ 122)))), (0, .ref ((a 0)))] := lv_cg (lvR (lvE (congrArg zI (by first | (rw [gdT, if_pos (by unfold isLt; omega)]; rfl) | (rw [gdT, if_neg (by unfold isLt; omega)]; rfl))) (lvR (lvR (rfl))))) hl
                  exact join235  (hc) H locs (hP) hS ls hl
                · refine lv_iload hx hb dX9_go_220 (lv_at hl 0 rfl) ?_
                  refine vp_callSi (va_Run.run (va_runS (As := [.int (zI (mn tp (q + j)))]) (rest := []) ⟨hx, hb, hml, hown, hts⟩ (c_X9_isLetter l ((mn tp (q + j) : Int)) (by omega)) (va_cwS 1 hts gX9_go_X9_isLetter rfl rfl rfl (by decide +kernel) ⟨Nat.le_of_ble_eq_true rfl, Nat.le_of_ble_eq_true rfl⟩) g_preS0 rfl rfl hl.1 rfl (lv_room (Nat.le_of_ble_eq_true rfl)) dX9_go_222 ⟨Nat.le_of_ble_eq_true rfl, Nat.le_of_ble_eq_true rfl⟩)) (fun r hr9 => ?_)
                  subst hr9
                  refine lv_iload_n hx hb dX9_go_225 rfl (lv_at hl 2 rfl) ?_
                  refine z_bb_ne (tgt := 233) hx hb dX9_go_226 (by decide) (fun h226 => ?_) (fun h226 => ?_)
                  · refine lv_iconst (v := zI (0)) hx hb dX9_go_233 (by decide) ?_
                    refine lv_istore_n (lv' := [(3, .int (zI (0))), (4, .int (zI (mn tp (q + j)))), (2, .int (zI (bz (97 ≤ (mn tp q : Int) ∧ (mn tp q : Int) ≤ 122)))), (0, .ref ((a 0)))]) hx hb dX9_go_234 rfl hl (by decide) rfl (fun ls hl => ?_)
                    have hl := lv_sub (l' := [(4, .int (zI (mn tp (q + j)))), (3, .int (zI (0))), (2, .int (zI (bz (97 ≤ (mn tp q : Int) ∧ (mn tp q : Int) ≤ 122)))), (0, .ref ((a 0)))]) hl [1, 0, 2, 3] rfl
                    have hl : lv_has ls 5 [(4, .int (zI (mn tp (q + j)))), (3, .int (zI (gdT (mn tp) q (j + 1)))), (2, .int (zI (bz (97 ≤ (mn tp q : Int) ∧ (mn tp q : Int) ≤ 122)))), (0, .ref ((a 0)))] := lv_cg (lvR (lvE (congrArg zI (by first | (rw [gdT, if_pos (by unfold isLt; omega)]; rfl) | (rw [gdT, if_neg (by unfold isLt; omega)]; rfl))) (lvR (lvR (rfl))))) hl
                    exact join235  (hc) H locs (hP) hS ls hl
                  · refine lv_iconst (v := zI (1)) hx hb dX9_go_229 (by decide) ?_
                    refine lv_goto (tgt := 234) hx hb dX9_go_230 (by decide) ?_
                    refine lv_istore_n (lv' := [(3, .int (zI (1))), (4, .int (zI (mn tp (q + j)))), (2, .int (zI (bz (97 ≤ (mn tp q : Int) ∧ (mn tp q : Int) ≤ 122)))), (0, .ref ((a 0)))]) hx hb dX9_go_234 rfl hl (by decide) rfl (fun ls hl => ?_)
                    have hl := lv_sub (l' := [(4, .int (zI (mn tp (q + j)))), (3, .int (zI (1))), (2, .int (zI (bz (97 ≤ (mn tp q : Int) ∧ (mn tp q : Int) ≤ 122)))), (0, .ref ((a 0)))]) hl [1, 0, 2, 3] rfl
                    have hl : lv_has ls 5 [(4, .int (zI (mn tp (q + j)))), (3, .int (zI (gdT (mn tp) q (j + 1)))), (2, .int (zI (bz (97 ≤ (mn tp q : Int) ∧ (mn tp q : Int) ≤ 122)))), (0, .ref ((a 0)))] := lv_cg (lvR (lvE (congrArg zI (by first | (rw [gdT, if_pos (by unfold isLt; omega)]; rfl) | (rw [gdT, if_neg (by unfold isLt; omega)]; rfl))) (lvR (lvR (rfl))))) hl
                    exact join235  (hc) H locs (hP) hS ls hl
              refine lv_aload_n hx hb dX9_go_177 rfl (lv_at hl 2 rfl) ?_
              refine lv_aload_n hx hb dX9_go_178 rfl (lv_at hl 2 rfl) ?_
              refine va_get (D := g.1) (ci := 9) (v := .int (zI ((q + j : Nat)))) (C := RX9) (T := TX9) (N := 15) hx hb hts hinX9 hown hK hP 0 rfl rfl 4 (by decide) k21 (fun _ h9 => h9) rfl dX9_go_179 ?_
              refine vp_callSi (va_Run.run (va_runV (As := [.int (zI ((q + j : Nat)))]) (rest := []) ⟨hx, hb, hml, hown, hts⟩ (c_X9_tapeAt l g (a) ((upd (upd (upd sc 3 (zI ((q + j : Nat)))) 4 (zI ((q : Nat)))) 6 (zI (nvT (mn tp) q j)))) ((zL (wvT (mn tp) q j))) (tp) (N) (rd) (sn) (n) ((q + j)) (hz) (hn) (by omega) (hT)) (cwV 1 hts gX9_go_X9_tapeAt rfl rfl rfl (by decide +kernel) ⟨Nat.le_of_ble_eq_true rfl, Nat.le_of_ble_eq_true rfl⟩) (g_preV hP hK (va_recv hK hP (q0 := 0) (ci := 9) rfl rfl)) rfl rfl hl.1 rfl (lv_room (Nat.le_of_ble_eq_true rfl)) dX9_go_182 ⟨Nat.le_of_ble_eq_true rfl, Nat.le_of_ble_eq_true rfl⟩)) (fun r hr9 => ?_)
              subst hr9
              refine vp_callSi (va_Run.run (va_runS (As := [.int (zI (tAt tp n (q + j)))]) (rest := []) ⟨hx, hb, hml, hown, hts⟩ (c_X9_isLetter l ((tAt tp n (q + j) : Int)) (by omega)) (va_cwS 1 hts gX9_go_X9_isLetter rfl rfl rfl (by decide +kernel) ⟨Nat.le_of_ble_eq_true rfl, Nat.le_of_ble_eq_true rfl⟩) g_preS0 rfl rfl hl.1 rfl (lv_room (Nat.le_of_ble_eq_true rfl)) dX9_go_185 ⟨Nat.le_of_ble_eq_true rfl, Nat.le_of_ble_eq_true rfl⟩)) (fun r hr9 => ?_)
              subst hr9
              refine z_bz_ne (tgt := 205) hx hb dX9_go_188 (by decide) (fun h188 => ?_) (fun h188 => ?_)
              · have hl := lv_sub (l' := [(3, .int (zI (gdT (mn tp) q j))), (2, .int (zI (bz (97 ≤ (mn tp q : Int) ∧ (mn tp q : Int) ≤ 122)))), (0, .ref ((a 0)))]) hl [0, 1, 2] rfl
                -- same
                exact join205  (tAt_ld (by unfold ldT isLt isDt; omega)) H locs (hP) hS ls hl
              · refine lv_aload_n hx hb dX9_go_191 rfl (lv_at hl 2 rfl) ?_
                refine lv_aload_n hx hb dX9_go_192 rfl (lv_at hl 2 rfl) ?_
                refine va_get (D := g.1) (ci := 9) (v := .int (zI ((q + j : Nat)))) (C := RX9) (T := TX9) (N := 15) hx hb hts hinX9 hown hK hP 0 rfl rfl 4 (by decide) k21 (fun _ h9 => h9) rfl dX9_go_193 ?_
                refine vp_callSi (va_Run.run (va_runV (As := [.int (zI ((q + j : Nat)))]) (rest := []) ⟨hx, hb, hml, hown, hts⟩ (c_X9_tapeAt l g (a) ((upd (upd (upd sc 3 (zI ((q + j : Nat)))) 4 (zI ((q : Nat)))) 6 (zI (nvT (mn tp) q j)))) ((zL (wvT (mn tp) q j))) (tp) (N) (rd) (sn) (n) ((q + j)) (hz) (hn) (by omega) (hT)) (cwV 1 hts gX9_go_X9_tapeAt rfl rfl rfl (by decide +kernel) ⟨Nat.le_of_ble_eq_true rfl, Nat.le_of_ble_eq_true rfl⟩) (g_preV hP hK (va_recv hK hP (q0 := 0) (ci := 9) rfl rfl)) rfl rfl hl.1 rfl (lv_room (Nat.le_of_ble_eq_true rfl)) dX9_go_196 ⟨Nat.le_of_ble_eq_true rfl, Nat.le_of_ble_eq_true rfl⟩)) (fun r hr9 => ?_)
                subst hr9
                refine vp_callSi (va_Run.run (va_runS (As := [.int (zI (tAt tp n (q + j)))]) (rest := []) ⟨hx, hb, hml, hown, hts⟩ (c_X9_isDigit l ((tAt tp n (q + j) : Int)) (by omega)) (va_cwS 1 hts gX9_go_X9_isDigit rfl rfl rfl (by decide +kernel) ⟨Nat.le_of_ble_eq_true rfl, Nat.le_of_ble_eq_true rfl⟩) g_preS0 rfl rfl hl.1 rfl (lv_room (Nat.le_of_ble_eq_true rfl)) dX9_go_199 ⟨Nat.le_of_ble_eq_true rfl, Nat.le_of_ble_eq_true rfl⟩)) (fun r hr9 => ?_)
                subst hr9
                refine z_bz_eq (tgt := 312) hx hb dX9_go_202 (by decide) (fun h202 => ?_) (fun h202 => ?_)
                · have hre : rendT (mn tp) n q = q + j := hrr.trans (rend_x (tAt_no (by unfold ldT isLt isDt; omega)))
                  refine lv_aload_n hx hb dX9_go_312 rfl (lv_at hl 2 rfl) ?_
                  refine lv_iload_n hx hb dX9_go_313 rfl (lv_at hl 0 rfl) ?_
                  refine z_if_eq (tgt := 334) hx hb dX9_go_314 (by decide) (by omega) (fun h314 => ?_) (fun h314 => ?_)
                  · refine lv_iconst (v := zI (1)) hx hb dX9_go_334 (by decide) ?_
                    refine lv_goto (tgt := 347) hx hb dX9_go_335 (by decide) ?_
                    refine va_put (D := g.1) (ci := 9) (v := .int (zI (1))) (ty := .int) (C := RX9) (T := TX9) (N := 15) hx hb hts hinX9 tyX9 tyX9_ok nmX9 hown hK hP (mD ha) hS 0 rfl rfl 6 (by decide) k27 (fun _ h9 => h9) rfl (by decide +kernel) rfl rfl (Nat.le_of_ble_eq_true rfl) dX9_go_347 (fun H locs hP _ hS => ?_)
                    have hP : gP g (mW g a (upd (upd (upd (upd sc 3 (zI ((q + j : Nat)))) 4 (zI ((q : Nat)))) 5 (zI (1))) 6 (zI (nvT (mn tp) q j))) (zL (wvT (mn tp) q j)) tp N rd sn) H := hP
                    have hg := g_run hq hov (by omega) hld hre
                    rw [show q + j - q = j by omega] at hg
                    exact W.vret hx hb hr (fun tX htX hWX => ⟨⟨(), rfl, trivial, g_at htX ((go_end (congrArg _ hg.1) (congrArg _ hg.2.1) (by
                          rw [hg.2.2.1]; unfold runS; rw [show q + j - q = j by omega]
                          first
                          | (rw [if_pos (by unfold isLt; omega)]; rfl)
                          | (rw [if_neg (by unfold isLt; omega), if_pos (by unfold isLt; omega)]; rfl)
                          | (rw [if_neg (by unfold isLt; omega), if_neg (by unfold isLt; omega)]; rfl)) (hg.2.2.2.1 _) (hg.2.2.2.2 _) hP))⟩, hS.F htX⟩) hS.2.2 dX9_go_350
                  · refine lv_iload_n hx hb dX9_go_317 rfl (lv_at hl 1 rfl) ?_
                    refine z_bz_ne (tgt := 338) hx hb dX9_go_318 (by decide) (fun h318 => ?_) (fun h318 => ?_)
                    · refine lv_iload_n hx hb dX9_go_338 rfl (lv_at hl 1 rfl) ?_
                      refine z_bz_eq (tgt := 346) hx hb dX9_go_339 (by decide) (fun h339 => ?_) (fun h339 => ?_)
                      · refine lv_iconst (v := zI (3)) hx hb dX9_go_346 (by decide) ?_
                        refine va_put (D := g.1) (ci := 9) (v := .int (zI (3))) (ty := .int) (C := RX9) (T := TX9) (N := 15) hx hb hts hinX9 tyX9 tyX9_ok nmX9 hown hK hP (mD ha) hS 0 rfl rfl 6 (by decide) k27 (fun _ h9 => h9) rfl (by decide +kernel) rfl rfl (Nat.le_of_ble_eq_true rfl) dX9_go_347 (fun H locs hP _ hS => ?_)
                        have hP : gP g (mW g a (upd (upd (upd (upd sc 3 (zI ((q + j : Nat)))) 4 (zI ((q : Nat)))) 5 (zI (3))) 6 (zI (nvT (mn tp) q j))) (zL (wvT (mn tp) q j)) tp N rd sn) H := hP
                        have hg := g_run hq hov (by omega) hld hre
                        rw [show q + j - q = j by omega] at hg
                        exact W.vret hx hb hr (fun tX htX hWX => ⟨⟨(), rfl, trivial, g_at htX ((go_end (congrArg _ hg.1) (congrArg _ hg.2.1) (by
                              rw [hg.2.2.1]; unfold runS; rw [show q + j - q = j by omega]
                              first
                              | (rw [if_pos (by unfold isLt; omega)]; rfl)
                              | (rw [if_neg (by unfold isLt; omega), if_pos (by unfold isLt; omega)]; rfl)
                              | (rw [if_neg (by unfold isLt; omega), if_neg (by unfold isLt; omega)]; rfl)) (hg.2.2.2.1 _) (hg.2.2.2.2 _) hP))⟩, hS.F htX⟩) hS.2.2 dX9_go_350
                      · refine lv_iconst (v := zI (2)) hx hb dX9_go_342 (by decide) ?_
                        refine lv_goto (tgt := 347) hx hb dX9_go_343 (by decide) ?_
                        refine va_put (D := g.1) (ci := 9) (v := .int (zI (2))) (ty := .int) (C := RX9) (T := TX9) (N := 15) hx hb hts hinX9 tyX9 tyX9_ok nmX9 hown hK hP (mD ha) hS 0 rfl rfl 6 (by decide) k27 (fun _ h9 => h9) rfl (by decide +kernel) rfl rfl (Nat.le_of_ble_eq_true rfl) dX9_go_347 (fun H locs hP _ hS => ?_)
                        have hP : gP g (mW g a (upd (upd (upd (upd sc 3 (zI ((q + j : Nat)))) 4 (zI ((q : Nat)))) 5 (zI (2))) 6 (zI (nvT (mn tp) q j))) (zL (wvT (mn tp) q j)) tp N rd sn) H := hP
                        have hg := g_run hq hov (by omega) hld hre
                        rw [show q + j - q = j by omega] at hg
                        exact W.vret hx hb hr (fun tX htX hWX => ⟨⟨(), rfl, trivial, g_at htX ((go_end (congrArg _ hg.1) (congrArg _ hg.2.1) (by
                              rw [hg.2.2.1]; unfold runS; rw [show q + j - q = j by omega]
                              first
                              | (rw [if_pos (by unfold isLt; omega)]; rfl)
                              | (rw [if_neg (by unfold isLt; omega), if_pos (by unfold isLt; omega)]; rfl)
                              | (rw [if_neg (by unfold isLt; omega), if_neg (by unfold isLt; omega)]; rfl)) (hg.2.2.2.1 _) (hg.2.2.2.2 _) hP))⟩, hS.F htX⟩) hS.2.2 dX9_go_350
                    · refine lv_aload_n hx hb dX9_go_321 rfl (lv_at hl 2 rfl) ?_
                      refine va_get (D := g.1) (ci := 9) (v := .int (zI ((q + j : Nat)))) (C := RX9) (T := TX9) (N := 15) hx hb hts hinX9 hown hK hP 0 rfl rfl 4 (by decide) k21 (fun _ h9 => h9) rfl dX9_go_322 ?_
                      refine lv_aload_n hx hb dX9_go_325 rfl (lv_at hl 2 rfl) ?_
                      refine va_get (D := g.1) (ci := 9) (v := .int (zI ((q : Nat)))) (C := RX9) (T := TX9) (N := 15) hx hb hts hinX9 hown hK hP 0 rfl rfl 5 (by decide) k24 (fun _ h9 => h9) rfl dX9_go_326 ?_
                      refine z_isub hx hb dX9_go_329 ?_
                      refine lv_iconst (v := zI (4)) hx hb dX9_go_330 (by decide) ?_
                      refine z_icmp_le (tgt := 338) hx hb dX9_go_331 (by decide) (by omega) (by omega) (fun h331 => ?_) (fun h331 => ?_)
                      · refine lv_iload_n hx hb dX9_go_338 rfl (lv_at hl 1 rfl) ?_
                        refine z_bz_eq (tgt := 346) hx hb dX9_go_339 (by decide) (fun h339 => ?_) (fun h339 => ?_)
                        · refine lv_iconst (v := zI (3)) hx hb dX9_go_346 (by decide) ?_
                          refine va_put (D := g.1) (ci := 9) (v := .int (zI (3))) (ty := .int) (C := RX9) (T := TX9) (N := 15) hx hb hts hinX9 tyX9 tyX9_ok nmX9 hown hK hP (mD ha) hS 0 rfl rfl 6 (by decide) k27 (fun _ h9 => h9) rfl (by decide +kernel) rfl rfl (Nat.le_of_ble_eq_true rfl) dX9_go_347 (fun H locs hP _ hS => ?_)
                          have hP : gP g (mW g a (upd (upd (upd (upd sc 3 (zI ((q + j : Nat)))) 4 (zI ((q : Nat)))) 5 (zI (3))) 6 (zI (nvT (mn tp) q j))) (zL (wvT (mn tp) q j)) tp N rd sn) H := hP
                          have hg := g_run hq hov (by omega) hld hre
                          rw [show q + j - q = j by omega] at hg
                          exact W.vret hx hb hr (fun tX htX hWX => ⟨⟨(), rfl, trivial, g_at htX ((go_end (congrArg _ hg.1) (congrArg _ hg.2.1) (by
                                rw [hg.2.2.1]; unfold runS; rw [show q + j - q = j by omega]
                                first
                                | (rw [if_pos (by unfold isLt; omega)]; rfl)
                                | (rw [if_neg (by unfold isLt; omega), if_pos (by unfold isLt; omega)]; rfl)
                                | (rw [if_neg (by unfold isLt; omega), if_neg (by unfold isLt; omega)]; rfl)) (hg.2.2.2.1 _) (hg.2.2.2.2 _) hP))⟩, hS.F htX⟩) hS.2.2 dX9_go_350
                        · refine lv_iconst (v := zI (2)) hx hb dX9_go_342 (by decide) ?_
                          refine lv_goto (tgt := 347) hx hb dX9_go_343 (by decide) ?_
                          refine va_put (D := g.1) (ci := 9) (v := .int (zI (2))) (ty := .int) (C := RX9) (T := TX9) (N := 15) hx hb hts hinX9 tyX9 tyX9_ok nmX9 hown hK hP (mD ha) hS 0 rfl rfl 6 (by decide) k27 (fun _ h9 => h9) rfl (by decide +kernel) rfl rfl (Nat.le_of_ble_eq_true rfl) dX9_go_347 (fun H locs hP _ hS => ?_)
                          have hP : gP g (mW g a (upd (upd (upd (upd sc 3 (zI ((q + j : Nat)))) 4 (zI ((q : Nat)))) 5 (zI (2))) 6 (zI (nvT (mn tp) q j))) (zL (wvT (mn tp) q j)) tp N rd sn) H := hP
                          have hg := g_run hq hov (by omega) hld hre
                          rw [show q + j - q = j by omega] at hg
                          exact W.vret hx hb hr (fun tX htX hWX => ⟨⟨(), rfl, trivial, g_at htX ((go_end (congrArg _ hg.1) (congrArg _ hg.2.1) (by
                                rw [hg.2.2.1]; unfold runS; rw [show q + j - q = j by omega]
                                first
                                | (rw [if_pos (by unfold isLt; omega)]; rfl)
                                | (rw [if_neg (by unfold isLt; omega), if_pos (by unfold isLt; omega)]; rfl)
                                | (rw [if_neg (by unfold isLt; omega), if_neg (by unfold isLt; omega)]; rfl)) (hg.2.2.2.1 _) (hg.2.2.2.2 _) hP))⟩, hS.F htX⟩) hS.2.2 dX9_go_350
                      · refine lv_iconst (v := zI (1)) hx hb dX9_go_334 (by decide) ?_
                        refine lv_goto (tgt := 347) hx hb dX9_go_335 (by decide) ?_
                        refine va_put (D := g.1) (ci := 9) (v := .int (zI (1))) (ty := .int) (C := RX9) (T := TX9) (N := 15) hx hb hts hinX9 tyX9 tyX9_ok nmX9 hown hK hP (mD ha) hS 0 rfl rfl 6 (by decide) k27 (fun _ h9 => h9) rfl (by decide +kernel) rfl rfl (Nat.le_of_ble_eq_true rfl) dX9_go_347 (fun H locs hP _ hS => ?_)
                        have hP : gP g (mW g a (upd (upd (upd (upd sc 3 (zI ((q + j : Nat)))) 4 (zI ((q : Nat)))) 5 (zI (1))) 6 (zI (nvT (mn tp) q j))) (zL (wvT (mn tp) q j)) tp N rd sn) H := hP
                        have hg := g_run hq hov (by omega) hld hre
                        rw [show q + j - q = j by omega] at hg
                        exact W.vret hx hb hr (fun tX htX hWX => ⟨⟨(), rfl, trivial, g_at htX ((go_end (congrArg _ hg.1) (congrArg _ hg.2.1) (by
                              rw [hg.2.2.1]; unfold runS; rw [show q + j - q = j by omega]
                              first
                              | (rw [if_pos (by unfold isLt; omega)]; rfl)
                              | (rw [if_neg (by unfold isLt; omega), if_pos (by unfold isLt; omega)]; rfl)
                              | (rw [if_neg (by unfold isLt; omega), if_neg (by unfold isLt; omega)]; rfl)) (hg.2.2.2.1 _) (hg.2.2.2.2 _) hP))⟩, hS.F htX⟩) hS.2.2 dX9_go_350
                · have hl := lv_sub (l' := [(3, .int (zI (gdT (mn tp) q j))), (2, .int (zI (bz (97 ≤ (mn tp q : Int) ∧ (mn tp q : Int) ≤ 122)))), (0, .ref ((a 0)))]) hl [0, 1, 2] rfl
                  -- same
                  exact join205  (tAt_ld (by unfold ldT isLt isDt; omega)) H locs (hP) hS ls hl
          have hl := lv_sub (l' := [(3, .int (zI (1))), (2, .int (zI (bz (97 ≤ (mn tp q : Int) ∧ (mn tp q : Int) ≤ 122)))), (0, .ref ((a 0)))]) hl [0, 1, 3] rfl
          have hl : lv_has ls 5 [(3, .int (zI (gdT (mn tp) q 0))), (2, .int (zI (bz (97 ≤ (mn tp q : Int) ∧ (mn tp q : Int) ≤ 122)))), (0, .ref ((a 0)))] := lv_cg (lvE (congrArg zI (rfl)) (lvR (lvR (rfl)))) hl
          exact loop177 _ (0) (Nat.lt_succ_self _) (by omega) (rfl) H locs (hP) hS ls hl
        refine lv_iload_n hx hb dX9_go_120 rfl (lv_at hl 0 rfl) ?_
        refine vp_callSi (va_Run.run (va_runS (As := [.int (zI (mn tp (q)))]) (rest := []) ⟨hx, hb, hml, hown, hts⟩ (c_X9_isLetter l ((mn tp q : Int)) (by omega)) (va_cwS 1 hts gX9_go_X9_isLetter rfl rfl rfl (by decide +kernel) ⟨Nat.le_of_ble_eq_true rfl, Nat.le_of_ble_eq_true rfl⟩) g_preS0 rfl rfl hl.1 rfl (lv_room (Nat.le_of_ble_eq_true rfl)) dX9_go_121 ⟨Nat.le_of_ble_eq_true rfl, Nat.le_of_ble_eq_true rfl⟩)) (fun r hr9 => ?_)
        subst hr9
        refine z_bz_ne (tgt := 160) hx hb dX9_go_124 (by decide) (fun h124 => ?_) (fun h124 => ?_)
        · have hl := lv_sub (l' := [(1, .int (zI (mn tp (q)))), (0, .ref ((a 0)))]) hl [0, 1] rfl
          -- same
          exact join160  (by unfold ldT isLt isDt; omega) H locs (hP) hS ls hl
        · refine lv_iload_n hx hb dX9_go_127 rfl (lv_at hl 0 rfl) ?_
          refine vp_callSi (va_Run.run (va_runS (As := [.int (zI (mn tp (q)))]) (rest := []) ⟨hx, hb, hml, hown, hts⟩ (c_X9_isDigit l ((mn tp q : Int)) (by omega)) (va_cwS 1 hts gX9_go_X9_isDigit rfl rfl rfl (by decide +kernel) ⟨Nat.le_of_ble_eq_true rfl, Nat.le_of_ble_eq_true rfl⟩) g_preS0 rfl rfl hl.1 rfl (lv_room (Nat.le_of_ble_eq_true rfl)) dX9_go_128 ⟨Nat.le_of_ble_eq_true rfl, Nat.le_of_ble_eq_true rfl⟩)) (fun r hr9 => ?_)
          subst hr9
          refine z_bz_ne (tgt := 160) hx hb dX9_go_131 (by decide) (fun h131 => ?_) (fun h131 => ?_)
          · have hl := lv_sub (l' := [(1, .int (zI (mn tp (q)))), (0, .ref ((a 0)))]) hl [0, 1] rfl
            -- same
            exact join160  (by unfold ldT isLt isDt; omega) H locs (hP) hS ls hl
          · refine lv_aload_n hx hb dX9_go_134 rfl (lv_at hl 1 rfl) ?_
            refine lv_iload_n hx hb dX9_go_135 rfl (lv_at hl 0 rfl) ?_
            refine lv_bipush (v := zI (59)) hx hb dX9_go_136 (by decide) ?_
            refine z_icmp_ne (tgt := 145) hx hb dX9_go_138 (by decide) (by omega) (by omega) (fun h138 => ?_) (fun h138 => ?_)
            · refine lv_iconst (v := zI (1)) hx hb dX9_go_145 (by decide) ?_
              refine va_put (D := g.1) (ci := 9) (v := .int (zI (1))) (ty := .int) (C := RX9) (T := TX9) (N := 15) hx hb hts hinX9 tyX9 tyX9_ok nmX9 hown hK hP (mD ha) hS 0 rfl rfl 6 (by decide) k27 (fun _ h9 => h9) rfl (by decide +kernel) rfl rfl (Nat.le_of_ble_eq_true rfl) dX9_go_146 (fun H locs hP _ hS => ?_)
              have hP : gP g (mW g a (upd (upd (upd sc 3 (zI ((q : Nat)))) 4 (zI ((q : Nat)))) 5 (zI (1))) wd tp N rd sn) H := hP
              refine lv_aload_n hx hb dX9_go_149 rfl (lv_at hl 1 rfl) ?_
              refine lv_dup hx hb dX9_go_150 rfl ?_
              refine va_get (D := g.1) (ci := 9) (v := .int (zI ((q : Nat)))) (C := RX9) (T := TX9) (N := 15) hx hb hts hinX9 hown hK hP 0 rfl rfl 4 (by decide) k21 (fun _ h9 => h9) rfl dX9_go_151 ?_
              refine lv_iconst (v := zI (1)) hx hb dX9_go_154 (by decide) ?_
              refine z_iadd hx hb dX9_go_155 ?_
              refine va_put (D := g.1) (ci := 9) (v := .int (zI ((q : Nat) + 1))) (ty := .int) (C := RX9) (T := TX9) (N := 15) hx hb hts hinX9 tyX9 tyX9_ok nmX9 hown hK hP (mD ha) hS 0 rfl rfl 4 (by decide) k21 (fun _ h9 => h9) rfl (by decide +kernel) rfl rfl (Nat.le_of_ble_eq_true rfl) dX9_go_156 (fun H locs hP _ hS => ?_)
              have hP : gP g (mW g a (upd (upd (upd sc 3 (zI ((q : Nat) + 1))) 4 (zI ((q : Nat)))) 5 (zI (1))) wd tp N rd sn) H := hP
              have hnl : ¬ ldT (mn tp q) := by unfold ldT isLt isDt; omega
              have hg := g_sign hq hov (by omega) hnl
              exact W.vret hx hb hr (fun tX htX hWX => ⟨⟨(), rfl, trivial, g_at htX ((go_end3 (by rw [hg.1]; omega) (congrArg _ hg.2.1) (by rw [hg.2.2.1]; first | (rw [if_pos (by omega)]; rfl) | (rw [if_neg (by omega)]; rfl)) (hg.2.2.2.1 _) (hg.2.2.2.2 _) hP))⟩, hS.F htX⟩) hS.2.2 dX9_go_159
            · refine lv_iconst (v := zI (4)) hx hb dX9_go_141 (by decide) ?_
              refine lv_goto (tgt := 146) hx hb dX9_go_142 (by decide) ?_
              refine va_put (D := g.1) (ci := 9) (v := .int (zI (4))) (ty := .int) (C := RX9) (T := TX9) (N := 15) hx hb hts hinX9 tyX9 tyX9_ok nmX9 hown hK hP (mD ha) hS 0 rfl rfl 6 (by decide) k27 (fun _ h9 => h9) rfl (by decide +kernel) rfl rfl (Nat.le_of_ble_eq_true rfl) dX9_go_146 (fun H locs hP _ hS => ?_)
              have hP : gP g (mW g a (upd (upd (upd sc 3 (zI ((q : Nat)))) 4 (zI ((q : Nat)))) 5 (zI (4))) wd tp N rd sn) H := hP
              refine lv_aload_n hx hb dX9_go_149 rfl (lv_at hl 1 rfl) ?_
              refine lv_dup hx hb dX9_go_150 rfl ?_
              refine va_get (D := g.1) (ci := 9) (v := .int (zI ((q : Nat)))) (C := RX9) (T := TX9) (N := 15) hx hb hts hinX9 hown hK hP 0 rfl rfl 4 (by decide) k21 (fun _ h9 => h9) rfl dX9_go_151 ?_
              refine lv_iconst (v := zI (1)) hx hb dX9_go_154 (by decide) ?_
              refine z_iadd hx hb dX9_go_155 ?_
              refine va_put (D := g.1) (ci := 9) (v := .int (zI ((q : Nat) + 1))) (ty := .int) (C := RX9) (T := TX9) (N := 15) hx hb hts hinX9 tyX9 tyX9_ok nmX9 hown hK hP (mD ha) hS 0 rfl rfl 4 (by decide) k21 (fun _ h9 => h9) rfl (by decide +kernel) rfl rfl (Nat.le_of_ble_eq_true rfl) dX9_go_156 (fun H locs hP _ hS => ?_)
              have hP : gP g (mW g a (upd (upd (upd sc 3 (zI ((q : Nat) + 1))) 4 (zI ((q : Nat)))) 5 (zI (4))) wd tp N rd sn) H := hP
              have hnl : ¬ ldT (mn tp q) := by unfold ldT isLt isDt; omega
              have hg := g_sign hq hov (by omega) hnl
              exact W.vret hx hb hr (fun tX htX hWX => ⟨⟨(), rfl, trivial, g_at htX ((go_end3 (by rw [hg.1]; omega) (congrArg _ hg.2.1) (by rw [hg.2.2.1]; first | (rw [if_pos (by omega)]; rfl) | (rw [if_neg (by omega)]; rfl)) (hg.2.2.2.1 _) (hg.2.2.2.2 _) hP))⟩, hS.F htX⟩) hS.2.2 dX9_go_159
      · refine lv_aload_n hx hb dX9_go_104 rfl (lv_at hl 0 rfl) ?_
        refine lv_iconst (v := zI (0)) hx hb dX9_go_105 (by decide) ?_
        refine va_put (D := g.1) (ci := 9) (v := .int (zI (0))) (ty := .int) (C := RX9) (T := TX9) (N := 15) hx hb hts hinX9 tyX9 tyX9_ok nmX9 hown hK hP (mD ha) hS 0 rfl rfl 6 (by decide) k27 (fun _ h9 => h9) rfl (by decide +kernel) rfl rfl (Nat.le_of_ble_eq_true rfl) dX9_go_106 (fun H locs hP _ hS => ?_)
        have hP : gP g (mW g a (upd (upd (upd sc 3 (zI ((q : Nat)))) 4 (zI ((q : Nat)))) 5 (zI (0))) wd tp N rd sn) H := hP
        have hg := g_stop hq hov (by omega)
        exact W.vret hx hb hr (fun tX htX hWX => ⟨⟨(), rfl, trivial, g_at htX ((go_end3 (congrArg _ hg.1) (congrArg _ hg.2.1) (congrArg _ hg.2.2.1) (hg.2.2.2.1 _) (hg.2.2.2.2 _) hP))⟩, hS.F htX⟩) hS.2.2 dX9_go_109
    refine lv_aload_n hx hb dX9_go_60 rfl (lv_at hl 0 rfl) ?_
    refine va_get (D := g.1) (ci := 9) (v := .int (sc 2)) (C := RX9) (T := TX9) (N := 15) hx hb hts hinX9 hown hK hP 0 rfl rfl 3 (by decide) k18 (fun _ h9 => h9) rfl dX9_go_61 ?_
    refine z_top (y := zI (n)) (hz) ?_
    refine lv_sipush (v := zI (700)) hx hb dX9_go_64 (by decide) ?_
    refine z_icmp_le (tgt := 93) hx hb dX9_go_67 (by decide) (by omega) (by omega) (fun h67 => ?_) (fun h67 => ?_)
    · have hl := lv_sub (l' := [(0, .ref ((a 0)))]) hl [0] rfl
      -- same
      exact join93  (by omega) H locs (hP) hS ls hl
    · refine lv_aload_n hx hb dX9_go_70 rfl (lv_at hl 0 rfl) ?_
      refine va_get (D := g.1) (ci := 9) (v := .int (zI ((q : Nat)))) (C := RX9) (T := TX9) (N := 15) hx hb hts hinX9 hown hK hP 0 rfl rfl 5 (by decide) k24 (fun _ h9 => h9) rfl dX9_go_71 ?_
      refine lv_sipush (v := zI (700)) hx hb dX9_go_74 (by decide) ?_
      refine z_icmp_lt (tgt := 93) hx hb dX9_go_77 (by decide) (by omega) (by omega) (fun h77 => ?_) (fun h77 => ?_)
      · have hl := lv_sub (l' := [(0, .ref ((a 0)))]) hl [0] rfl
        -- same
        exact join93  (by omega) H locs (hP) hS ls hl
      · refine lv_aload_n hx hb dX9_go_80 rfl (lv_at hl 0 rfl) ?_
        refine lv_sipush (v := zI (700)) hx hb dX9_go_81 (by decide) ?_
        refine va_put (D := g.1) (ci := 9) (v := .int (zI (700))) (ty := .int) (C := RX9) (T := TX9) (N := 15) hx hb hts hinX9 tyX9 tyX9_ok nmX9 hown hK hP (mD ha) hS 0 rfl rfl 5 (by decide) k24 (fun _ h9 => h9) rfl (by decide +kernel) rfl rfl (Nat.le_of_ble_eq_true rfl) dX9_go_84 (fun H locs hP _ hS => ?_)
        have hP : gP g (mW g a (upd (upd sc 3 (zI ((q : Nat)))) 4 (zI (700))) wd tp N rd sn) H := hP
        refine lv_aload_n hx hb dX9_go_87 rfl (lv_at hl 0 rfl) ?_
        refine lv_iconst (v := zI (1)) hx hb dX9_go_88 (by decide) ?_
        refine va_put (D := g.1) (ci := 9) (v := .int (zI (1))) (ty := .int) (C := RX9) (T := TX9) (N := 15) hx hb hts hinX9 tyX9 tyX9_ok nmX9 hown hK hP (mD ha) hS 0 rfl rfl 6 (by decide) k27 (fun _ h9 => h9) rfl (by decide +kernel) rfl rfl (Nat.le_of_ble_eq_true rfl) dX9_go_89 (fun H locs hP _ hS => ?_)
        have hP : gP g (mW g a (upd (upd (upd sc 3 (zI ((q : Nat)))) 4 (zI (700))) 5 (zI (1))) wd tp N rd sn) H := hP
        have hg := g_over hq (by omega)
        exact W.vret hx hb hr (fun tX htX hWX => ⟨⟨(), rfl, trivial, g_at htX ((go_end3 (congrArg _ hg.1) (congrArg _ hg.2.1) (congrArg _ hg.2.2.1) (hg.2.2.2.1 _) (hg.2.2.2.2 _) hP))⟩, hS.F htX⟩) hS.2.2 dX9_go_92
  have loop0 : ∀ (K9 : Nat) (i : Nat) (hK9 : n - i < K9) (hi : ps ≤ i ∧ i ≤ n) (hs : skipT (mn tp) n ps = skipT (mn tp) n i) (H : Heap) (locs : List Loc) (hP : gP g (mW g a (upd sc 3 (zI ((i : Nat)))) wd tp N rd sn) H) (hS : va_S (mA a) s.heap H locs) (ls : Array Slot) (hl : lv_has ls 5 [(0, .ref ((a 0)))]), W p l e (headSpec wsX9_go ({ frames := 1, cells := 0, slots := 0, locals := 21 })).room s m ([.ref ((a 0))] : List Value).toArray below meth c H locs 0 0 (MQ below (va_Qv (fun (_ : Unit) => True) (fun (_ : Unit) (tS : State) => gP g (mW g a (upd (upd (upd (upd sc 3 (zI ((gTo (mn tp) n ps : Nat)))) 4 (zI ((gFr (mn tp) n ps : Nat)))) 5 (zI ((gSo (mn tp) n ps : Nat)))) 6 (gNu (mn tp) n ps (sc 6))) (gWo (mn tp) n ps wd) tp N rd sn) tS.heap) (mA a)) ([.ref ((a 0))] : List Value).toArray s 0 0 (mA a)) (F0 m 0 ls []) := by
    intro K9
    induction K9 with
    | zero => intro i hK9; exact absurd hK9 (Nat.not_lt_zero _)
    | succ K9 ih =>
      intro i hK9 hi hs H locs hP hS ls hl
      refine lv_aload_n hx hb dX9_go_0 rfl (lv_at hl 0 rfl) ?_
      refine va_get (D := g.1) (ci := 9) (v := .int (zI ((i : Nat)))) (C := RX9) (T := TX9) (N := 15) hx hb hts hinX9 hown hK hP 0 rfl rfl 4 (by decide) k21 (fun _ h9 => h9) rfl dX9_go_1 ?_
      refine lv_aload_n hx hb dX9_go_4 rfl (lv_at hl 0 rfl) ?_
      refine va_get (D := g.1) (ci := 9) (v := .int (sc 2)) (C := RX9) (T := TX9) (N := 15) hx hb hts hinX9 hown hK hP 0 rfl rfl 3 (by decide) k18 (fun _ h9 => h9) rfl dX9_go_5 ?_
      refine z_top (y := zI (n)) (hz) ?_
      refine z_icmp_ge (tgt := 52) hx hb dX9_go_8 (by decide) (by omega) (by omega) (fun h8 => ?_) (fun h8 => ?_)
      · have hl := lv_sub (l' := [(0, .ref ((a 0)))]) hl [0] rfl
        -- same
        exact join52 (i) ((hs.trans (skip_x (by omega))).symm) H locs (hP) hS ls hl
      · have hbi := (hT i (by omega)).le
        refine lv_aload_n hx hb dX9_go_11 rfl (lv_at hl 0 rfl) ?_
        refine va_get (D := g.1) (ci := 9) (v := .ref ((a 1))) (C := RX9) (T := TX9) (N := 15) hx hb hts hinX9 hown hK hP 0 rfl rfl 1 (by decide) k7 (fun _ h9 => h9) rfl dX9_go_12 ?_
        refine lv_aload_n hx hb dX9_go_15 rfl (lv_at hl 0 rfl) ?_
        refine va_get (D := g.1) (ci := 9) (v := .int (zI ((i : Nat)))) (C := RX9) (T := TX9) (N := 15) hx hb hts hinX9 hown hK hP 0 rfl rfl 4 (by decide) k21 (fun _ h9 => h9) rfl dX9_go_16 ?_
        refine z_iald hx hb hK hP 1 0 rfl rfl (by decide) (i) (by omega) (by omega) dX9_go_19 ?_
        refine z_top (y := zI (mn tp (i))) ((hT (i) (by omega)).eq) ?_
        refine lv_bipush (v := zI (32)) hx hb dX9_go_20 (by decide) ?_
        refine z_icmp_eq (tgt := 39) hx hb dX9_go_22 (by decide) (by omega) (by omega) (fun h22 => ?_) (fun h22 => ?_)
        · refine lv_aload_n hx hb dX9_go_39 rfl (lv_at hl 0 rfl) ?_
          refine lv_dup hx hb dX9_go_40 rfl ?_
          refine va_get (D := g.1) (ci := 9) (v := .int (zI ((i : Nat)))) (C := RX9) (T := TX9) (N := 15) hx hb hts hinX9 hown hK hP 0 rfl rfl 4 (by decide) k21 (fun _ h9 => h9) rfl dX9_go_41 ?_
          refine lv_iconst (v := zI (1)) hx hb dX9_go_44 (by decide) ?_
          refine z_iadd hx hb dX9_go_45 ?_
          refine va_put (D := g.1) (ci := 9) (v := .int (zI ((i : Nat) + 1))) (ty := .int) (C := RX9) (T := TX9) (N := 15) hx hb hts hinX9 tyX9 tyX9_ok nmX9 hown hK hP (mD ha) hS 0 rfl rfl 4 (by decide) k21 (fun _ h9 => h9) rfl (by decide +kernel) rfl rfl (Nat.le_of_ble_eq_true rfl) dX9_go_46 (fun H locs hP _ hS => ?_)
          have hP : gP g (mW g a (upd sc 3 (zI ((i : Nat) + 1))) wd tp N rd sn) H := hP
          refine lv_goto (tgt := 0) hx hb dX9_go_49 (by decide) ?_
          have hl := lv_sub (l' := [(0, .ref ((a 0)))]) hl [0] rfl
          -- same
          exact ih (i + 1) (by omega) (by omega) (hs.trans (skip_s (by omega))) H locs (by rw [show (((i + 1 : Nat)) : Int) = (i : Int) + 1 by omega]; exact hP) hS ls hl
        · refine lv_aload_n hx hb dX9_go_25 rfl (lv_at hl 0 rfl) ?_
          refine va_get (D := g.1) (ci := 9) (v := .ref ((a 1))) (C := RX9) (T := TX9) (N := 15) hx hb hts hinX9 hown hK hP 0 rfl rfl 1 (by decide) k7 (fun _ h9 => h9) rfl dX9_go_26 ?_
          refine lv_aload_n hx hb dX9_go_29 rfl (lv_at hl 0 rfl) ?_
          refine va_get (D := g.1) (ci := 9) (v := .int (zI ((i : Nat)))) (C := RX9) (T := TX9) (N := 15) hx hb hts hinX9 hown hK hP 0 rfl rfl 4 (by decide) k21 (fun _ h9 => h9) rfl dX9_go_30 ?_
          refine z_iald hx hb hK hP 1 0 rfl rfl (by decide) (i) (by omega) (by omega) dX9_go_33 ?_
          refine z_top (y := zI (mn tp (i))) ((hT (i) (by omega)).eq) ?_
          refine lv_bipush (v := zI (10)) hx hb dX9_go_34 (by decide) ?_
          refine z_icmp_ne (tgt := 52) hx hb dX9_go_36 (by decide) (by omega) (by omega) (fun h36 => ?_) (fun h36 => ?_)
          · have hl := lv_sub (l' := [(0, .ref ((a 0)))]) hl [0] rfl
            -- same
            exact join52 (i) ((hs.trans (skip_x (by omega))).symm) H locs (hP) hS ls hl
          · refine lv_aload_n hx hb dX9_go_39 rfl (lv_at hl 0 rfl) ?_
            refine lv_dup hx hb dX9_go_40 rfl ?_
            refine va_get (D := g.1) (ci := 9) (v := .int (zI ((i : Nat)))) (C := RX9) (T := TX9) (N := 15) hx hb hts hinX9 hown hK hP 0 rfl rfl 4 (by decide) k21 (fun _ h9 => h9) rfl dX9_go_41 ?_
            refine lv_iconst (v := zI (1)) hx hb dX9_go_44 (by decide) ?_
            refine z_iadd hx hb dX9_go_45 ?_
            refine va_put (D := g.1) (ci := 9) (v := .int (zI ((i : Nat) + 1))) (ty := .int) (C := RX9) (T := TX9) (N := 15) hx hb hts hinX9 tyX9 tyX9_ok nmX9 hown hK hP (mD ha) hS 0 rfl rfl 4 (by decide) k21 (fun _ h9 => h9) rfl (by decide +kernel) rfl rfl (Nat.le_of_ble_eq_true rfl) dX9_go_46 (fun H locs hP _ hS => ?_)
            have hP : gP g (mW g a (upd sc 3 (zI ((i : Nat) + 1))) wd tp N rd sn) H := hP
            refine lv_goto (tgt := 0) hx hb dX9_go_49 (by decide) ?_
            have hl := lv_sub (l' := [(0, .ref ((a 0)))]) hl [0] rfl
            -- same
            exact ih (i + 1) (by omega) (by omega) (hs.trans (skip_s (by omega))) H locs (by rw [show (((i + 1 : Nat)) : Int) = (i : Int) + 1 by omega]; exact hP) hS ls hl
  have hl := lv_sub (l' := [(0, .ref ((a 0)))]) hl [0] rfl
  -- same
  exact loop0 _ (ps) (Nat.lt_succ_self _) (⟨Nat.le_refl _, hp⟩) (rfl) H locs (by rw [upd_same (show sc 3 = zI ((ps : Nat)) from ht)]; exact hP) hS ls hl
