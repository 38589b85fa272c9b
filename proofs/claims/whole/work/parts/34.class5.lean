set_option maxHeartbeats 4000000 in
set_option maxRecDepth 100000 in
theorem c_X8_isDay (l : Launch) (v : Int) (hv : R32 v) : Met l yX8_isDay wsX8_isDay ({ frames := 0, cells := 0, slots := 0, locals := 0 }) (va_Pc [.int (zI (v))] (fun _ => True)) (vp_Si (fun r : Int32 => r = zI (bz (0 ≤ v ∧ v ≤ 363)))) 0 0 (fun _ => False) := by
  refine Met.ofW (cc := cX8_isDay) (maxL := 1) (ret := (some .boolean)) (by decide) rfl ?_
  intro p e s m args below meth c s₁ B hml hv
  obtain ⟨rfl, -⟩ := hv
  have hx := B.exec
  have hb := B.bytes
  have hr := B.returns
  have hts := atoms_spec (ws := wsX8_isDay) B.pre
  have hown : s.vm.findClass RX8 = some m.cls := findClass_of_methodNamed B.named
  have hlocks := B.notSynchronized
  have hl := lv_entry ([.int (zI (v))]) (n := 1) (Nat.le_of_ble_eq_true rfl)
  rw [lg_entry_eq]
  generalize (lg_sl ([.int (zI (v))]) ++ List.replicate (1 - (lg_sl ([.int (zI (v))])).length) Slot.unset).toArray = ls at hl ⊢
  have hl : lv_has ls 1 [(0, .int (zI (v)))] := hl
  refine lv_iload_n hx hb dX8_isDay_0 rfl (lv_at hl 0 rfl) ?_
  refine z_if_lt (tgt := 15) hx hb dX8_isDay_1 (by decide) (by omega) (fun h1 => ?_) (fun h1 => ?_)
  · refine lv_iconst (v := zI (0)) hx hb dX8_isDay_15 (by decide) ?_
    exact W.zret hx hb hr (by decide) (fun tX htX hWX => ⟨_, rfl, bz_0 (by omega), htX⟩) (fun _ h9 => by cases h9) dX8_isDay_16
  · refine lv_iload_n hx hb dX8_isDay_4 rfl (lv_at hl 0 rfl) ?_
    refine lv_sipush (v := zI (364)) hx hb dX8_isDay_5 (by decide) ?_
    refine z_icmp_ge (tgt := 15) hx hb dX8_isDay_8 (by decide) (by omega) (by omega) (fun h8 => ?_) (fun h8 => ?_)
    · refine lv_iconst (v := zI (0)) hx hb dX8_isDay_15 (by decide) ?_
      exact W.zret hx hb hr (by decide) (fun tX htX hWX => ⟨_, rfl, bz_0 (by omega), htX⟩) (fun _ h9 => by cases h9) dX8_isDay_16
    · refine lv_iconst (v := zI (1)) hx hb dX8_isDay_11 (by decide) ?_
      refine lv_goto (tgt := 16) hx hb dX8_isDay_12 (by decide) ?_
      exact W.zret hx hb hr (by decide) (fun tX htX hWX => ⟨_, rfl, bz_1 (by omega), htX⟩) (fun _ h9 => by cases h9) dX8_isDay_16

set_option maxHeartbeats 4000000 in
set_option maxRecDepth 100000 in
theorem c_X8_isQuarters (l : Launch) (v : Int) (hv : R32 v) : Met l yX8_isQuarters wsX8_isQuarters ({ frames := 0, cells := 0, slots := 0, locals := 0 }) (va_Pc [.int (zI (v))] (fun _ => True)) (vp_Si (fun r : Int32 => r = zI (bz (0 ≤ v ∧ v ≤ 96)))) 0 0 (fun _ => False) := by
  refine Met.ofW (cc := cX8_isQuarters) (maxL := 1) (ret := (some .boolean)) (by decide) rfl ?_
  intro p e s m args below meth c s₁ B hml hv
  obtain ⟨rfl, -⟩ := hv
  have hx := B.exec
  have hb := B.bytes
  have hr := B.returns
  have hts := atoms_spec (ws := wsX8_isQuarters) B.pre
  have hown : s.vm.findClass RX8 = some m.cls := findClass_of_methodNamed B.named
  have hlocks := B.notSynchronized
  have hl := lv_entry ([.int (zI (v))]) (n := 1) (Nat.le_of_ble_eq_true rfl)
  rw [lg_entry_eq]
  generalize (lg_sl ([.int (zI (v))]) ++ List.replicate (1 - (lg_sl ([.int (zI (v))])).length) Slot.unset).toArray = ls at hl ⊢
  have hl : lv_has ls 1 [(0, .int (zI (v)))] := hl
  refine lv_iload_n hx hb dX8_isQuarters_0 rfl (lv_at hl 0 rfl) ?_
  refine z_if_lt (tgt := 14) hx hb dX8_isQuarters_1 (by decide) (by omega) (fun h1 => ?_) (fun h1 => ?_)
  · refine lv_iconst (v := zI (0)) hx hb dX8_isQuarters_14 (by decide) ?_
    exact W.zret hx hb hr (by decide) (fun tX htX hWX => ⟨_, rfl, bz_0 (by omega), htX⟩) (fun _ h9 => by cases h9) dX8_isQuarters_15
  · refine lv_iload_n hx hb dX8_isQuarters_4 rfl (lv_at hl 0 rfl) ?_
    refine lv_bipush (v := zI (96)) hx hb dX8_isQuarters_5 (by decide) ?_
    refine z_icmp_gt (tgt := 14) hx hb dX8_isQuarters_7 (by decide) (by omega) (by omega) (fun h7 => ?_) (fun h7 => ?_)
    · refine lv_iconst (v := zI (0)) hx hb dX8_isQuarters_14 (by decide) ?_
      exact W.zret hx hb hr (by decide) (fun tX htX hWX => ⟨_, rfl, bz_0 (by omega), htX⟩) (fun _ h9 => by cases h9) dX8_isQuarters_15
    · refine lv_iconst (v := zI (1)) hx hb dX8_isQuarters_10 (by decide) ?_
      refine lv_goto (tgt := 15) hx hb dX8_isQuarters_11 (by decide) ?_
      exact W.zret hx hb hr (by decide) (fun tX htX hWX => ⟨_, rfl, bz_1 (by omega), htX⟩) (fun _ h9 => by cases h9) dX8_isQuarters_15

set_option maxHeartbeats 4000000 in
set_option maxRecDepth 100000 in
theorem c_X8_isWorker (l : Launch) (g : GG) (ho : Nat) (N : Nat → Int32) (hN : okN N) (hc tz : Int32) (v : Int) (hv : R32 v) : Met l yX8_isWorker wsX8_isWorker ({ frames := 1, cells := 0, slots := 0, locals := 20 }) (gPc g [.ref ho, .int (zI (v))] (rdH g ho N hc tz)) (vp_Si (fun r : Int32 => r = zI (bz (0 ≤ v ∧ v ≤ (mn N 57 : Int) - 1)))) 0 0 (fun _ => False) := by
  refine Met.ofW (cc := cX8_isWorker) (maxL := 2) (ret := (some .boolean)) (by decide) rfl ?_
  intro p e s m args below meth c s₁ B hml hv
  obtain ⟨rfl, hPre, hK⟩ := hv
  have hx := B.exec
  have hb := B.bytes
  have hr := B.returns
  have hts := atoms_spec (ws := wsX8_isWorker) B.pre
  have hown : s.vm.findClass RX8 = some m.cls := findClass_of_methodNamed B.named
  have hlocks := B.notSynchronized
  have hinX8 : ∀ w ∈ wsX80, w ∈ wsX8_isWorker := by decide +kernel
  have k28 := hts (.fieldLink RX8 28 "HoursBank" "rules" "LHoursBank$Rules;") (by decide +kernel)
  have hl := lv_entry ([.ref ho, .int (zI (v))]) (n := 2) (Nat.le_of_ble_eq_true rfl)
  rw [lg_entry_eq]
  generalize (lg_sl ([.ref ho, .int (zI (v))]) ++ List.replicate (2 - (lg_sl ([.ref ho, .int (zI (v))])).length) Slot.unset).toArray = ls at hl ⊢
  have hl : lv_has ls 2 [(0, .ref ho), (1, .int (zI (v)))] := hl
  obtain ⟨tpa, rda, sa, hia, ru, dfa, sh, hst, hnx, bya, hP, hSh, hRu⟩ := id hPre
  refine lv_iload_n hx hb dX8_isWorker_0 rfl (lv_at hl 1 rfl) ?_
  refine z_if_lt (tgt := 19) hx hb dX8_isWorker_1 (by decide) (by omega) (fun h1 => ?_) (fun h1 => ?_)
  · refine lv_iconst (v := zI (0)) hx hb dX8_isWorker_19 (by decide) ?_
    exact W.zret hx hb hr (by decide) (fun tX htX hWX => ⟨_, rfl, bz_0 (by omega), htX⟩) (fun _ h9 => by cases h9) dX8_isWorker_20
  · refine lv_iload_n hx hb dX8_isWorker_4 rfl (lv_at hl 1 rfl) ?_
    refine lv_aload_n hx hb dX8_isWorker_5 rfl (lv_at hl 0 rfl) ?_
    refine va_get (D := g.1) (ci := 8) (v := .ref ru) (C := RX8) (T := TX8) (N := 7) hx hb hts hinX8 hown hK hP 0 rfl rfl 4 (by decide) k28 (fun _ h9 => h9) rfl dX8_isWorker_6 ?_
    refine vp_callSi (va_Run.run (va_runV (As := []) (rest := [.int (zI (v))]) ⟨hx, hb, hml, hown, hts⟩ (c_X2_workers l g (ru) (N) (hN)) (cwV 0 hts gX8_isWorker_X2_workers rfl rfl rfl (by decide +kernel) ⟨Nat.le_of_ble_eq_true rfl, Nat.le_of_ble_eq_true rfl⟩) (g_preV hRu hK (rdR_recv hK hRu)) rfl rfl hl.1 rfl (lv_room (Nat.le_of_ble_eq_true rfl)) dX8_isWorker_9 ⟨Nat.le_of_ble_eq_true rfl, Nat.le_of_ble_eq_true rfl⟩)) (fun r hr9 => ?_)
    subst hr9
    have hq := hN.nw.le
    refine z_icmp_ge (tgt := 19) hx hb dX8_isWorker_12 (by decide) (by omega) (by omega) (fun h12 => ?_) (fun h12 => ?_)
    · refine lv_iconst (v := zI (0)) hx hb dX8_isWorker_19 (by decide) ?_
      exact W.zret hx hb hr (by decide) (fun tX htX hWX => ⟨_, rfl, bz_0 (by omega), htX⟩) (fun _ h9 => by cases h9) dX8_isWorker_20
    · refine lv_iconst (v := zI (1)) hx hb dX8_isWorker_15 (by decide) ?_
      refine lv_goto (tgt := 20) hx hb dX8_isWorker_16 (by decide) ?_
      exact W.zret hx hb hr (by decide) (fun tX htX hWX => ⟨_, rfl, bz_1 (by omega), htX⟩) (fun _ h9 => by cases h9) dX8_isWorker_20

set_option maxHeartbeats 4000000 in
set_option maxRecDepth 100000 in
theorem c_X8_isPresent (l : Launch) (g : GG) (ho : Nat) (N : Nat → Int32) (hN : okN N) (hc tz : Int32) (v : Int) (hv : R32 v) : Met l yX8_isPresent wsX8_isPresent ({ frames := 2, cells := 0, slots := 0, locals := 41 }) (gPc g [.ref ho, .int (zI (v))] (rdH g ho N hc tz)) (vp_Si (fun r : Int32 => r = zI (bz ((0 ≤ v ∧ v ≤ (mn N 57 : Int) - 1) ∧ goneN N v.toNat = 0)))) 0 0 (fun _ => False) := by
  refine Met.ofW (cc := cX8_isPresent) (maxL := 2) (ret := (some .boolean)) (by decide) rfl ?_
  intro p e s m args below meth c s₁ B hml hv
  obtain ⟨rfl, hPre, hK⟩ := hv
  have hx := B.exec
  have hb := B.bytes
  have hr := B.returns
  have hts := atoms_spec (ws := wsX8_isPresent) B.pre
  have hown : s.vm.findClass RX8 = some m.cls := findClass_of_methodNamed B.named
  have hlocks := B.notSynchronized
  have hinX3 : ∀ w ∈ wsX30, w ∈ wsX8_isPresent := by decide +kernel
  have hinX8 : ∀ w ∈ wsX80, w ∈ wsX8_isPresent := by decide +kernel
  have k37 := hts (.fieldLink RX8 37 "HoursBank" "sheets" "[LHoursBank$Sheet;") (by decide +kernel)
  have k112 := hts (.fieldLink RX8 112 "HoursBank$Sheet" "account" "LHoursBank$Account;") (by decide +kernel)
  have hl := lv_entry ([.ref ho, .int (zI (v))]) (n := 2) (Nat.le_of_ble_eq_true rfl)
  rw [lg_entry_eq]
  generalize (lg_sl ([.ref ho, .int (zI (v))]) ++ List.replicate (2 - (lg_sl ([.ref ho, .int (zI (v))])).length) Slot.unset).toArray = ls at hl ⊢
  have hl : lv_has ls 2 [(0, .ref ho), (1, .int (zI (v)))] := hl
  obtain ⟨tpa, rda, sa, hia, ru, dfa, sh, hst, hnx, bya, hP, hSh, hRu⟩ := id hPre
  refine lv_aload_n hx hb dX8_isPresent_0 rfl (lv_at hl 0 rfl) ?_
  refine lv_iload_n hx hb dX8_isPresent_1 rfl (lv_at hl 1 rfl) ?_
  refine vp_callSi (va_Run.run (va_runV (As := [.int (zI (v))]) (rest := []) ⟨hx, hb, hml, hown, hts⟩ (c_X8_isWorker l g (ho) (N) (hN) (hc) (tz) (v) (hv)) (cwV 1 hts gX8_isPresent_X8_isWorker rfl rfl rfl (by decide +kernel) ⟨Nat.le_of_ble_eq_true rfl, Nat.le_of_ble_eq_true rfl⟩) (g_preV hPre hK (va_recv hK hP (q0 := 0) (ci := 8) rfl rfl)) rfl rfl hl.1 rfl (lv_room (Nat.le_of_ble_eq_true rfl)) dX8_isPresent_2 ⟨Nat.le_of_ble_eq_true rfl, Nat.le_of_ble_eq_true rfl⟩)) (fun r hr9 => ?_)
  subst hr9
  refine z_bz_eq (tgt := 27) hx hb dX8_isPresent_5 (by decide) (fun h5 => ?_) (fun h5 => ?_)
  · refine lv_iconst (v := zI (0)) hx hb dX8_isPresent_27 (by decide) ?_
    exact W.zret hx hb hr (by decide) (fun tX htX hWX => ⟨_, rfl, bz_0 (by first | omega | (simp only [Int.toNat_natCast]; omega)), htX⟩) (fun _ h9 => by cases h9) dX8_isPresent_28
  · have hq := hN.nw.le
    obtain ⟨w, rfl⟩ := Int.eq_ofNat_of_zero_le h5.1
    have hSw1 := hSh w (by omega) (by omega)
    obtain ⟨sa1, ch1, tl1, fl1, af1, rate1, lv1, ru1, gd1, hP1, hR1, hRu1⟩ := id hSw1
    have hg8 := hR1.2.2.2.2.2.2.2.1
    have hgd := hR1.2.2.2.2.2.2.2.2.1
    have hg0 := hR1.2.2.2.2.2.2.2.2.2.1
    have hg1 := hR1.2.2.2.2.2.2.2.2.2.2
    have hgn : goneN N w ≤ 1 := (hN.gone (by omega)).le
    have htd := hN.td.le
    refine lv_aload_n hx hb dX8_isPresent_8 rfl (lv_at hl 0 rfl) ?_
    refine va_get (D := g.1) (ci := 8) (v := .ref sa) (C := RX8) (T := TX8) (N := 7) hx hb hts hinX8 hown hK hP 0 rfl rfl 2 (by decide) k37 (fun _ h9 => h9) rfl dX8_isPresent_9 ?_
    refine lv_iload_n hx hb dX8_isPresent_12 rfl (lv_at hl 1 rfl) ?_
    refine z_aald hx hb hK hP 1 4 rfl rfl rfl (by decide) (w) (by omega) (by omega) rfl dX8_isPresent_13 ?_
    refine va_get (D := g.1) (ci := 3) (v := .ref ((sa1 3))) (C := RX3) (T := TX3) (N := 7) hx hb hts hinX3 hown hK hP1 0 rfl rfl 3 (by decide) k112 (fun _ h9 => h9) rfl dX8_isPresent_14 ?_
    refine vp_callSi (va_Run.run (va_runV (As := []) (rest := []) ⟨hx, hb, hml, hown, hts⟩ (c_X0_isGone l g ((sa1 3)) (af1) (gd1) (hg8) (hgd)) (cwV 0 hts gX8_isPresent_X0_isGone rfl rfl rfl (by decide +kernel) ⟨Nat.le_of_ble_eq_true rfl, Nat.le_of_ble_eq_true rfl⟩) (g_preV (hP1.sub [4] rfl) hK (va_recv hK hP1 (q0 := 4) (ci := 0) rfl rfl)) rfl rfl hl.1 rfl (lv_room (Nat.le_of_ble_eq_true rfl)) dX8_isPresent_17 ⟨Nat.le_of_ble_eq_true rfl, Nat.le_of_ble_eq_true rfl⟩)) (fun r hr9 => ?_)
    subst hr9
    refine z_bz_ne (tgt := 27) hx hb dX8_isPresent_20 (by decide) (fun h20 => ?_) (fun h20 => ?_)
    · refine lv_iconst (v := zI (0)) hx hb dX8_isPresent_27 (by decide) ?_
      exact W.zret hx hb hr (by decide) (fun tX htX hWX => ⟨_, rfl, bz_0 (by first | omega | (simp only [Int.toNat_natCast]; omega)), htX⟩) (fun _ h9 => by cases h9) dX8_isPresent_28
    · refine lv_iconst (v := zI (1)) hx hb dX8_isPresent_23 (by decide) ?_
      refine lv_goto (tgt := 28) hx hb dX8_isPresent_24 (by decide) ?_
      exact W.zret hx hb hr (by decide) (fun tX htX hWX => ⟨_, rfl, bz_1 (by first | omega | (simp only [Int.toNat_natCast]; omega)), htX⟩) (fun _ h9 => by cases h9) dX8_isPresent_28

set_option maxHeartbeats 4000000 in
set_option maxRecDepth 100000 in
theorem c_X8_isOpen (l : Launch) (g : GG) (ho : Nat) (N : Nat → Int32) (hN : okN N) (hc tz : Int32) (v dd : Int) (hv : R32 v) (hdd : R32 dd) : Met l yX8_isOpen wsX8_isOpen ({ frames := 3, cells := 0, slots := 0, locals := 62 }) (gPc g [.ref ho, .int (zI (v)), .int (zI (dd))] (rdH g ho N hc tz)) (vp_Si (fun r : Int32 => r = zI (bz (((0 ≤ v ∧ v ≤ (mn N 57 : Int) - 1) ∧ goneN N v.toNat = 0) ∧ ((mn N 110 : Int) ≤ dd ∧ dd ≤ 363))))) 0 0 (fun _ => False) := by
  refine Met.ofW (cc := cX8_isOpen) (maxL := 3) (ret := (some .boolean)) (by decide) rfl ?_
  intro p e s m args below meth c s₁ B hml hv
  obtain ⟨rfl, hPre, hK⟩ := hv
  have hx := B.exec
  have hb := B.bytes
  have hr := B.returns
  have hts := atoms_spec (ws := wsX8_isOpen) B.pre
  have hown : s.vm.findClass RX8 = some m.cls := findClass_of_methodNamed B.named
  have hlocks := B.notSynchronized
  have hinX8 : ∀ w ∈ wsX80, w ∈ wsX8_isOpen := by decide +kernel
  have k51 := hts (.fieldLink RX8 51 "HoursBank" "today" "I") (by decide +kernel)
  have hl := lv_entry ([.ref ho, .int (zI (v)), .int (zI (dd))]) (n := 3) (Nat.le_of_ble_eq_true rfl)
  rw [lg_entry_eq]
  generalize (lg_sl ([.ref ho, .int (zI (v)), .int (zI (dd))]) ++ List.replicate (3 - (lg_sl ([.ref ho, .int (zI (v)), .int (zI (dd))])).length) Slot.unset).toArray = ls at hl ⊢
  have hl : lv_has ls 3 [(0, .ref ho), (1, .int (zI (v))), (2, .int (zI (dd)))] := hl
  obtain ⟨tpa, rda, sa, hia, ru, dfa, sh, hst, hnx, bya, hP, hSh, hRu⟩ := id hPre
  refine lv_aload_n hx hb dX8_isOpen_0 rfl (lv_at hl 0 rfl) ?_
  refine lv_iload_n hx hb dX8_isOpen_1 rfl (lv_at hl 1 rfl) ?_
  refine vp_callSi (va_Run.run (va_runV (As := [.int (zI (v))]) (rest := []) ⟨hx, hb, hml, hown, hts⟩ (c_X8_isPresent l g (ho) (N) (hN) (hc) (tz) (v) (hv)) (cwV 1 hts gX8_isOpen_X8_isPresent rfl rfl rfl (by decide +kernel) ⟨Nat.le_of_ble_eq_true rfl, Nat.le_of_ble_eq_true rfl⟩) (g_preV hPre hK (va_recv hK hP (q0 := 0) (ci := 8) rfl rfl)) rfl rfl hl.1 rfl (lv_room (Nat.le_of_ble_eq_true rfl)) dX8_isOpen_2 ⟨Nat.le_of_ble_eq_true rfl, Nat.le_of_ble_eq_true rfl⟩)) (fun r hr9 => ?_)
  subst hr9
  refine z_bz_eq (tgt := 27) hx hb dX8_isOpen_5 (by decide) (fun h5 => ?_) (fun h5 => ?_)
  · refine lv_iconst (v := zI (0)) hx hb dX8_isOpen_27 (by decide) ?_
    exact W.zret hx hb hr (by decide) (fun tX htX hWX => ⟨_, rfl, bz_0 (by first | (intro q9; exact h5 q9.1) | (intro q9; omega) | exact ⟨h5, by omega⟩), htX⟩) (fun _ h9 => by cases h9) dX8_isOpen_28
  · refine lv_iload_n hx hb dX8_isOpen_8 rfl (lv_at hl 2 rfl) ?_
    refine vp_callSi (va_Run.run (va_runS (As := [.int (zI (dd))]) (rest := []) ⟨hx, hb, hml, hown, hts⟩ (c_X8_isDay l (dd) (hdd)) (va_cwS 1 hts gX8_isOpen_X8_isDay rfl rfl rfl (by decide +kernel) ⟨Nat.le_of_ble_eq_true rfl, Nat.le_of_ble_eq_true rfl⟩) g_preS0 rfl rfl hl.1 rfl (lv_room (Nat.le_of_ble_eq_true rfl)) dX8_isOpen_9 ⟨Nat.le_of_ble_eq_true rfl, Nat.le_of_ble_eq_true rfl⟩)) (fun r hr9 => ?_)
    subst hr9
    refine z_bz_eq (tgt := 27) hx hb dX8_isOpen_12 (by decide) (fun h12 => ?_) (fun h12 => ?_)
    · refine lv_iconst (v := zI (0)) hx hb dX8_isOpen_27 (by decide) ?_
      exact W.zret hx hb hr (by decide) (fun tX htX hWX => ⟨_, rfl, bz_0 (by first | (intro q9; exact h5 q9.1) | (intro q9; omega) | exact ⟨h5, by omega⟩), htX⟩) (fun _ h9 => by cases h9) dX8_isOpen_28
    · refine lv_iload_n hx hb dX8_isOpen_15 rfl (lv_at hl 2 rfl) ?_
      refine lv_aload_n hx hb dX8_isOpen_16 rfl (lv_at hl 0 rfl) ?_
      refine va_get (D := g.1) (ci := 8) (v := .int (N 110)) (C := RX8) (T := TX8) (N := 7) hx hb hts hinX8 hown hK hP 0 rfl rfl 6 (by decide) k51 (fun _ h9 => h9) rfl dX8_isOpen_17 ?_
      refine z_top (y := zI (mn N 110)) (hN.td.eq) ?_
      have htd := hN.td.le
      refine z_icmp_lt (tgt := 27) hx hb dX8_isOpen_20 (by decide) (by omega) (by omega) (fun h20 => ?_) (fun h20 => ?_)
      · refine lv_iconst (v := zI (0)) hx hb dX8_isOpen_27 (by decide) ?_
        exact W.zret hx hb hr (by decide) (fun tX htX hWX => ⟨_, rfl, bz_0 (by first | (intro q9; exact h5 q9.1) | (intro q9; omega) | exact ⟨h5, by omega⟩), htX⟩) (fun _ h9 => by cases h9) dX8_isOpen_28
      · refine lv_iconst (v := zI (1)) hx hb dX8_isOpen_23 (by decide) ?_
        refine lv_goto (tgt := 28) hx hb dX8_isOpen_24 (by decide) ?_
        exact W.zret hx hb hr (by decide) (fun tX htX hWX => ⟨_, rfl, bz_1 (by first | (intro q9; exact h5 q9.1) | (intro q9; omega) | exact ⟨h5, by omega⟩), htX⟩) (fun _ h9 => by cases h9) dX8_isOpen_28

set_option maxHeartbeats 4000000 in
set_option maxRecDepth 100000 in
theorem c_X8_canChange (l : Launch) (g : GG) (ho : Nat) (N : Nat → Int32) (hN : okN N) (hc tz : Int32) (v dd qq : Int) (hv : R32 v) (hdd : R32 dd) (hqq : R32 qq) : Met l yX8_canChange wsX8_canChange ({ frames := 4, cells := 0, slots := 0, locals := 84 }) (gPc g [.ref ho, .int (zI (v)), .int (zI (dd)), .int (zI (qq))] (rdH g ho N hc tz)) (vp_Si (fun r : Int32 => r = zI (bz (((0 ≤ v ∧ v ≤ (mn N 57 : Int) - 1) ∧ goneN N v.toNat = 0) ∧ ((mn N 110 : Int) ≤ dd ∧ dd ≤ 363) ∧ (0 ≤ qq ∧ qq ≤ 96) ∧ ¬ knd N v.toNat dd.toNat = 2)))) 0 0 (fun _ => False) := by
  refine Met.ofW (cc := cX8_canChange) (maxL := 4) (ret := (some .boolean)) (by decide) rfl ?_
  intro p e s m args below meth c s₁ B hml hv
  obtain ⟨rfl, hPre, hK⟩ := hv
  have hx := B.exec
  have hb := B.bytes
  have hr := B.returns
  have hts := atoms_spec (ws := wsX8_canChange) B.pre
  have hown : s.vm.findClass RX8 = some m.cls := findClass_of_methodNamed B.named
  have hlocks := B.notSynchronized
  have hinX8 : ∀ w ∈ wsX80, w ∈ wsX8_canChange := by decide +kernel
  have k37 := hts (.fieldLink RX8 37 "HoursBank" "sheets" "[LHoursBank$Sheet;") (by decide +kernel)
  have hl := lv_entry ([.ref ho, .int (zI (v)), .int (zI (dd)), .int (zI (qq))]) (n := 4) (Nat.le_of_ble_eq_true rfl)
  rw [lg_entry_eq]
  generalize (lg_sl ([.ref ho, .int (zI (v)), .int (zI (dd)), .int (zI (qq))]) ++ List.replicate (4 - (lg_sl ([.ref ho, .int (zI (v)), .int (zI (dd)), .int (zI (qq))])).length) Slot.unset).toArray = ls at hl ⊢
  have hl : lv_has ls 4 [(0, .ref ho), (1, .int (zI (v))), (2, .int (zI (dd))), (3, .int (zI (qq)))] := hl
  obtain ⟨tpa, rda, sa, hia, ru, dfa, sh, hst, hnx, bya, hP, hSh, hRu⟩ := id hPre
  refine lv_aload_n hx hb dX8_canChange_0 rfl (lv_at hl 0 rfl) ?_
  refine lv_iload_n hx hb dX8_canChange_1 rfl (lv_at hl 1 rfl) ?_
  refine lv_iload_n hx hb dX8_canChange_2 rfl (lv_at hl 2 rfl) ?_
  refine vp_callSi (va_Run.run (va_runV (As := [.int (zI (v)), .int (zI (dd))]) (rest := []) ⟨hx, hb, hml, hown, hts⟩ (c_X8_isOpen l g (ho) (N) (hN) (hc) (tz) (v) (dd) (hv) (hdd)) (cwV 2 hts gX8_canChange_X8_isOpen rfl rfl rfl (by decide +kernel) ⟨Nat.le_of_ble_eq_true rfl, Nat.le_of_ble_eq_true rfl⟩) (g_preV hPre hK (va_recv hK hP (q0 := 0) (ci := 8) rfl rfl)) rfl rfl hl.1 rfl (lv_room (Nat.le_of_ble_eq_true rfl)) dX8_canChange_3 ⟨Nat.le_of_ble_eq_true rfl, Nat.le_of_ble_eq_true rfl⟩)) (fun r hr9 => ?_)
  subst hr9
  refine z_bz_eq (tgt := 34) hx hb dX8_canChange_6 (by decide) (fun h6 => ?_) (fun h6 => ?_)
  · refine lv_iconst (v := zI (0)) hx hb dX8_canChange_34 (by decide) ?_
    exact W.zret hx hb hr (by decide) (fun tX htX hWX => ⟨_, rfl, bz_0 (by first | (intro q9; exact h6 ⟨q9.1, q9.2.1⟩) | (intro q9; exact h13 q9.2.2.1) | (intro q9; exact q9.2.2.2 (by simp only [Int.toNat_natCast]; omega)) | exact ⟨⟨⟨hv0, hv1⟩, hgo⟩, hda, h13, by simp only [Int.toNat_natCast]; omega⟩), htX⟩) (fun _ h9 => by cases h9) dX8_canChange_35
  · refine lv_iload_n hx hb dX8_canChange_9 rfl (lv_at hl 3 rfl) ?_
    refine vp_callSi (va_Run.run (va_runS (As := [.int (zI (qq))]) (rest := []) ⟨hx, hb, hml, hown, hts⟩ (c_X8_isQuarters l (qq) (hqq)) (va_cwS 1 hts gX8_canChange_X8_isQuarters rfl rfl rfl (by decide +kernel) ⟨Nat.le_of_ble_eq_true rfl, Nat.le_of_ble_eq_true rfl⟩) g_preS0 rfl rfl hl.1 rfl (lv_room (Nat.le_of_ble_eq_true rfl)) dX8_canChange_10 ⟨Nat.le_of_ble_eq_true rfl, Nat.le_of_ble_eq_true rfl⟩)) (fun r hr9 => ?_)
    subst hr9
    refine z_bz_eq (tgt := 34) hx hb dX8_canChange_13 (by decide) (fun h13 => ?_) (fun h13 => ?_)
    · refine lv_iconst (v := zI (0)) hx hb dX8_canChange_34 (by decide) ?_
      exact W.zret hx hb hr (by decide) (fun tX htX hWX => ⟨_, rfl, bz_0 (by first | (intro q9; exact h6 ⟨q9.1, q9.2.1⟩) | (intro q9; exact h13 q9.2.2.1) | (intro q9; exact q9.2.2.2 (by simp only [Int.toNat_natCast]; omega)) | exact ⟨⟨⟨hv0, hv1⟩, hgo⟩, hda, h13, by simp only [Int.toNat_natCast]; omega⟩), htX⟩) (fun _ h9 => by cases h9) dX8_canChange_35
    · have hq2 := hN.nw.le
      obtain ⟨⟨⟨hv0, hv1⟩, hgo⟩, hda⟩ := h6
      obtain ⟨w, rfl⟩ := Int.eq_ofNat_of_zero_le hv0
      obtain ⟨d, rfl⟩ := Int.eq_ofNat_of_zero_le (show 0 ≤ dd by omega)
      have hq3 := hN.knd (w := w) (d := d) (by omega) (by omega)
      refine lv_aload_n hx hb dX8_canChange_16 rfl (lv_at hl 0 rfl) ?_
      refine va_get (D := g.1) (ci := 8) (v := .ref sa) (C := RX8) (T := TX8) (N := 7) hx hb hts hinX8 hown hK hP 0 rfl rfl 2 (by decide) k37 (fun _ h9 => h9) rfl dX8_canChange_17 ?_
      refine lv_iload_n hx hb dX8_canChange_20 rfl (lv_at hl 1 rfl) ?_
      refine z_aald hx hb hK hP 1 4 rfl rfl rfl (by decide) (w) (by omega) (by omega) rfl dX8_canChange_21 ?_
      refine lv_iload_n hx hb dX8_canChange_22 rfl (lv_at hl 2 rfl) ?_
      refine vp_callSi (va_Run.run (va_runV (As := [.int (zI (d))]) (rest := []) ⟨hx, hb, hml, hown, hts⟩ (c_X3_kindOn l g ((sh w)) (w) (N) (hN) (by omega) (d) (by omega)) (cwV 1 hts gX8_canChange_X3_kindOn rfl rfl rfl (by decide +kernel) ⟨Nat.le_of_ble_eq_true rfl, Nat.le_of_ble_eq_true rfl⟩) (g_preV (hSh w (by omega) (by omega)) hK (rdS_recv hK (hSh w (by omega) (by omega)))) rfl rfl hl.1 rfl (lv_room (Nat.le_of_ble_eq_true rfl)) dX8_canChange_23 ⟨Nat.le_of_ble_eq_true rfl, Nat.le_of_ble_eq_true rfl⟩)) (fun r hr9 => ?_)
      subst hr9
      refine lv_iconst (v := zI (2)) hx hb dX8_canChange_26 (by decide) ?_
      refine z_icmp_eq (tgt := 34) hx hb dX8_canChange_27 (by decide) (by omega) (by omega) (fun h27 => ?_) (fun h27 => ?_)
      · refine lv_iconst (v := zI (0)) hx hb dX8_canChange_34 (by decide) ?_
        exact W.zret hx hb hr (by decide) (fun tX htX hWX => ⟨_, rfl, bz_0 (by first | (intro q9; exact h6 ⟨q9.1, q9.2.1⟩) | (intro q9; exact h13 q9.2.2.1) | (intro q9; exact q9.2.2.2 (by simp only [Int.toNat_natCast]; omega)) | exact ⟨⟨⟨hv0, hv1⟩, hgo⟩, hda, h13, by simp only [Int.toNat_natCast]; omega⟩), htX⟩) (fun _ h9 => by cases h9) dX8_canChange_35
      · refine lv_iconst (v := zI (1)) hx hb dX8_canChange_30 (by decide) ?_
        refine lv_goto (tgt := 35) hx hb dX8_canChange_31 (by decide) ?_
        exact W.zret hx hb hr (by decide) (fun tX htX hWX => ⟨_, rfl, bz_1 (by first | (intro q9; exact h6 ⟨q9.1, q9.2.1⟩) | (intro q9; exact h13 q9.2.2.1) | (intro q9; exact q9.2.2.2 (by simp only [Int.toNat_natCast]; omega)) | exact ⟨⟨⟨hv0, hv1⟩, hgo⟩, hda, h13, by simp only [Int.toNat_natCast]; omega⟩), htX⟩) (fun _ h9 => by cases h9) dX8_canChange_35

set_option maxHeartbeats 4000000 in
set_option maxRecDepth 100000 in
theorem c_X8_priceOf (l : Launch) (g : GG) (ho : Nat) (N : Nat → Int32) (hN : okN N) (hc tz : Int32) (w d q : Nat) (hw : w < mn N 57) (hd : d < 364) (hdt : mn N 110 ≤ d) (hq : q ≤ 96) : Met l yX8_priceOf wsX8_priceOf ({ frames := 2, cells := 0, slots := 0, locals := 43 }) (gPc g [.ref ho, .int (zI (w)), .int (zI (d)), .int (zI (q))] (rdH g ho N hc tz)) (vp_Si (fun r : Int32 => r = zI (cst N w d q))) 0 0 (fun _ => False) := by
  refine Met.ofW (cc := cX8_priceOf) (maxL := 5) (ret := (some .int)) (by decide) rfl ?_
  intro p e s m args below meth c s₁ B hml hv
  obtain ⟨rfl, hPre, hK⟩ := hv
  have hx := B.exec
  have hb := B.bytes
  have hr := B.returns
  have hts := atoms_spec (ws := wsX8_priceOf) B.pre
  have hown : s.vm.findClass RX8 = some m.cls := findClass_of_methodNamed B.named
  have hlocks := B.notSynchronized
  have hinX3 : ∀ w ∈ wsX30, w ∈ wsX8_priceOf := by decide +kernel
  have hinX8 : ∀ w ∈ wsX80, w ∈ wsX8_priceOf := by decide +kernel
  have k37 := hts (.fieldLink RX8 37 "HoursBank" "sheets" "[LHoursBank$Sheet;") (by decide +kernel)
  have k250 := hts (.methodLink RX8 250 Lib.Math.abs.name) (by decide +kernel)
  have kSabs := hts (.static Lib.Math.abs.name) (by decide +kernel)
  have kM := hts (.initialized "java/lang/Math") (by decide +kernel)
  have kCabs := hts (.code Lib.Math.abs.name Lib.Math.abs.code 1 (some .int)) (by decide +kernel)
  have k28 := hts (.fieldLink RX8 28 "HoursBank" "rules" "LHoursBank$Rules;") (by decide +kernel)
  have k51 := hts (.fieldLink RX8 51 "HoursBank" "today" "I") (by decide +kernel)
  have k256 := hts (.fieldLink RX8 256 "HoursBank$Sheet" "rate" "I") (by decide +kernel)
  have hl := lv_entry ([.ref ho, .int (zI (w)), .int (zI (d)), .int (zI (q))]) (n := 5) (Nat.le_of_ble_eq_true rfl)
  rw [lg_entry_eq]
  generalize (lg_sl ([.ref ho, .int (zI (w)), .int (zI (d)), .int (zI (q))]) ++ List.replicate (5 - (lg_sl ([.ref ho, .int (zI (w)), .int (zI (d)), .int (zI (q))])).length) Slot.unset).toArray = ls at hl ⊢
  have hl : lv_has ls 5 [(0, .ref ho), (1, .int (zI (w))), (2, .int (zI (d))), (3, .int (zI (q)))] := hl
  obtain ⟨tpa, rda, sa, hia, ru, dfa, sh, hst, hnx, bya, hP, hSh, hRu⟩ := id hPre
  have hnw := hN.nw.le
  have hSw1 := hSh w (by omega) (by omega)
  obtain ⟨sa1, ch1, tl1, fl1, af1, rate1, lv1, ru1, gd1, hP1, hR1, hRu1⟩ := id hSw1
  have hpl := plan_le hN (w := w) (by omega) hd
  have htd := hN.td.le
  refine lv_iload_n hx hb dX8_priceOf_0 rfl (lv_at hl 3 rfl) ?_
  refine lv_aload_n hx hb dX8_priceOf_1 rfl (lv_at hl 0 rfl) ?_
  refine va_get (D := g.1) (ci := 8) (v := .ref sa) (C := RX8) (T := TX8) (N := 7) hx hb hts hinX8 hown hK hP 0 rfl rfl 2 (by decide) k37 (fun _ h9 => h9) rfl dX8_priceOf_2 ?_
  refine lv_iload_n hx hb dX8_priceOf_5 rfl (lv_at hl 1 rfl) ?_
  refine z_aald hx hb hK hP 1 4 rfl rfl rfl (by decide) (w) (by omega) (by omega) rfl dX8_priceOf_6 ?_
  refine lv_iload_n hx hb dX8_priceOf_7 rfl (lv_at hl 2 rfl) ?_
  refine vp_callSi (va_Run.run (va_runV (As := [.int (zI (d))]) (rest := [.int (zI (q))]) ⟨hx, hb, hml, hown, hts⟩ (c_X3_planOn l g ((sh w)) (w) (N) (hN) (by omega) (d) (hd)) (cwV 1 hts gX8_priceOf_X3_planOn rfl rfl rfl (by decide +kernel) ⟨Nat.le_of_ble_eq_true rfl, Nat.le_of_ble_eq_true rfl⟩) (g_preV (hSh w (by omega) (by omega)) hK (rdS_recv hK (hSh w (by omega) (by omega)))) rfl rfl hl.1 rfl (lv_room (Nat.le_of_ble_eq_true rfl)) dX8_priceOf_8 ⟨Nat.le_of_ble_eq_true rfl, Nat.le_of_ble_eq_true rfl⟩)) (fun r hr9 => ?_)
  subst hr9
  refine z_isub hx hb dX8_priceOf_11 ?_
  refine z_mabs hx hb (hml.trans hl.1.symm) hown k250 kSabs kM kCabs (Nat.le_of_ble_eq_true rfl) (Nat.le_of_ble_eq_true rfl) (Nat.zero_le _) (Nat.zero_le _) (by omega) dX8_priceOf_12 ?_
  refine z_top (y := zI (((cabs N w d q : Nat) : Int))) (congrArg zI (by unfold cabs; omega)) ?_
  refine lv_istore (lv' := [(4, .int (zI (((cabs N w d q : Nat) : Int)))), (0, .ref ho), (1, .int (zI (w))), (2, .int (zI (d))), (3, .int (zI (q)))]) hx hb dX8_priceOf_15 hl (by decide) rfl (fun ls hl => ?_)
  refine lv_aload_n hx hb dX8_priceOf_17 rfl (lv_at hl 1 rfl) ?_
  refine va_get (D := g.1) (ci := 8) (v := .ref ru) (C := RX8) (T := TX8) (N := 7) hx hb hts hinX8 hown hK hP 0 rfl rfl 4 (by decide) k28 (fun _ h9 => h9) rfl dX8_priceOf_18 ?_
  refine lv_iload_n hx hb dX8_priceOf_21 rfl (lv_at hl 3 rfl) ?_
  refine lv_aload_n hx hb dX8_priceOf_22 rfl (lv_at hl 1 rfl) ?_
  refine va_get (D := g.1) (ci := 8) (v := .int (N 110)) (C := RX8) (T := TX8) (N := 7) hx hb hts hinX8 hown hK hP 0 rfl rfl 6 (by decide) k51 (fun _ h9 => h9) rfl dX8_priceOf_23 ?_
  refine z_top (y := zI (mn N 110)) (hN.td.eq) ?_
  refine z_isub hx hb dX8_priceOf_26 ?_
  refine vp_callSi (va_Run.run (va_runV (As := [.int (zI (d - (mn N 110)))]) (rest := []) ⟨hx, hb, hml, hown, hts⟩ (c_X2_percentFor l g (ru) (N) (hN) ((d : Int) - mn N 110) (by omega)) (cwV 1 hts gX8_priceOf_X2_percentFor rfl rfl rfl (by decide +kernel) ⟨Nat.le_of_ble_eq_true rfl, Nat.le_of_ble_eq_true rfl⟩) (g_preV hRu hK (rdR_recv hK hRu)) rfl rfl hl.1 rfl (lv_room (Nat.le_of_ble_eq_true rfl)) dX8_priceOf_27 ⟨Nat.le_of_ble_eq_true rfl, Nat.le_of_ble_eq_true rfl⟩)) (fun r hr9 => ?_)
  subst hr9
  refine lv_aload_n hx hb dX8_priceOf_30 rfl (lv_at hl 1 rfl) ?_
  refine va_get (D := g.1) (ci := 8) (v := .ref sa) (C := RX8) (T := TX8) (N := 7) hx hb hts hinX8 hown hK hP 0 rfl rfl 2 (by decide) k37 (fun _ h9 => h9) rfl dX8_priceOf_31 ?_
  refine lv_iload_n hx hb dX8_priceOf_34 rfl (lv_at hl 2 rfl) ?_
  refine z_aald hx hb hK hP 1 4 rfl rfl rfl (by decide) (w) (by omega) (by omega) rfl dX8_priceOf_35 ?_
  refine va_get (D := g.1) (ci := 3) (v := .int (rate1)) (C := RX3) (T := TX3) (N := 7) hx hb hts hinX3 hown hK hP1 0 rfl rfl 4 (by decide) k256 (fun _ h9 => h9) rfl dX8_priceOf_36 ?_
  refine z_top (y := zI (mn N (58 + 13 * w))) (hR1.1.trans (hN.rate (by omega)).eq) ?_
  refine z_imul hx hb dX8_priceOf_39 ?_
  refine lv_iload hx hb dX8_priceOf_40 (lv_at hl 0 rfl) ?_
  refine z_imul hx hb dX8_priceOf_42 ?_
  refine lv_bipush (v := zI (100)) hx hb dX8_priceOf_43 (by decide) ?_
  refine z_idiv hx hb dX8_priceOf_45 (mul3b (pct_le hN _ _ hN.nn.le) (hN.rate (by omega)).le (show cabs N w d q ≤ 96 by unfold cabs; omega) (by decide)) (by omega) ?_
  exact W.iret hx hb hr (fun tX htX hWX => ⟨_, rfl, congrArg zI (by unfold cst; push_cast; rfl), htX⟩) (fun _ h9 => by cases h9) dX8_priceOf_46

set_option maxHeartbeats 4000000 in
set_option maxRecDepth 100000 in
theorem c_X8_presentWorkers (l : Launch) (g : GG) (ho : Nat) (N : Nat → Int32) (hN : okN N) (hc tz : Int32)  : Met l yX8_presentWorkers wsX8_presentWorkers ({ frames := 1, cells := 0, slots := 0, locals := 20 }) (gPc g [.ref ho] (rdH g ho N hc tz)) (vp_Si (fun r : Int32 => r = zI (hereS N))) 0 0 (fun _ => False) := by
  refine Met.ofW (cc := cX8_presentWorkers) (maxL := 3) (ret := (some .int)) (by decide) rfl ?_
  intro p e s m args below meth c s₁ B hml hv
  obtain ⟨rfl, hPre, hK⟩ := hv
  have hx := B.exec
  have hb := B.bytes
  have hr := B.returns
  have hts := atoms_spec (ws := wsX8_presentWorkers) B.pre
  have hown : s.vm.findClass RX8 = some m.cls := findClass_of_methodNamed B.named
  have hlocks := B.notSynchronized
  have hinX3 : ∀ w ∈ wsX30, w ∈ wsX8_presentWorkers := by decide +kernel
  have hinX8 : ∀ w ∈ wsX80, w ∈ wsX8_presentWorkers := by decide +kernel
  have k28 := hts (.fieldLink RX8 28 "HoursBank" "rules" "LHoursBank$Rules;") (by decide +kernel)
  have k37 := hts (.fieldLink RX8 37 "HoursBank" "sheets" "[LHoursBank$Sheet;") (by decide +kernel)
  have k112 := hts (.fieldLink RX8 112 "HoursBank$Sheet" "account" "LHoursBank$Account;") (by decide +kernel)
  have hl := lv_entry ([.ref ho]) (n := 3) (Nat.le_of_ble_eq_true rfl)
  rw [lg_entry_eq]
  generalize (lg_sl ([.ref ho]) ++ List.replicate (3 - (lg_sl ([.ref ho])).length) Slot.unset).toArray = ls at hl ⊢
  have hl : lv_has ls 3 [(0, .ref ho)] := hl
  obtain ⟨tpa, rda, sa, hia, ru, dfa, sh, hst, hnx, bya, hP, hSh, hRu⟩ := id hPre
  refine lv_iconst (v := zI (0)) hx hb dX8_presentWorkers_0 (by decide) ?_
  refine lv_istore_n (lv' := [(1, .int (zI (0))), (0, .ref ho)]) hx hb dX8_presentWorkers_1 rfl hl (by decide) rfl (fun ls hl => ?_)
  refine lv_iconst (v := zI (0)) hx hb dX8_presentWorkers_2 (by decide) ?_
  refine lv_istore_n (lv' := [(2, .int (zI (0))), (1, .int (zI (0))), (0, .ref ho)]) hx hb dX8_presentWorkers_3 rfl hl (by decide) rfl (fun ls hl => ?_)
  have loop4 : ∀ (K9 : Nat) (i : Nat) (hK9 : mn N 57 - i < K9) (hi : i ≤ mn N 57) (ls : Array Slot) (hl : lv_has ls 3 [(2, .int (zI (((i : Nat) : Int)))), (1, .int (zI (sumN (fun w => if goneN N w = 0 then 1 else 0) 0 i))), (0, .ref ho)]), W p l e (headSpec wsX8_presentWorkers ({ frames := 1, cells := 0, slots := 0, locals := 20 })).room s m ([.ref ho] : List Value).toArray below meth c s.heap [] 0 0 (MQ below (vp_Si (fun r : Int32 => r = zI (hereS N))) ([.ref ho] : List Value).toArray s 0 0 (fun _ => False)) (F0 m 4 ls []) := by
    intro K9
    induction K9 with
    | zero => intro i hK9; exact absurd hK9 (Nat.not_lt_zero _)
    | succ K9 ih =>
      intro i hK9 hi ls hl
      refine lv_iload_n hx hb dX8_presentWorkers_4 rfl (lv_at hl 0 rfl) ?_
      refine lv_aload_n hx hb dX8_presentWorkers_5 rfl (lv_at hl 2 rfl) ?_
      refine va_get (D := g.1) (ci := 8) (v := .ref ru) (C := RX8) (T := TX8) (N := 7) hx hb hts hinX8 hown hK hP 0 rfl rfl 4 (by decide) k28 (fun _ h9 => h9) rfl dX8_presentWorkers_6 ?_
      refine vp_callSi (va_Run.run (va_runV (As := []) (rest := [.int (zI (((i : Nat) : Int)))]) ⟨hx, hb, hml, hown, hts⟩ (c_X2_workers l g (ru) (N) (hN)) (cwV 0 hts gX8_presentWorkers_X2_workers rfl rfl rfl (by decide +kernel) ⟨Nat.le_of_ble_eq_true rfl, Nat.le_of_ble_eq_true rfl⟩) (g_preV hRu hK (rdR_recv hK hRu)) rfl rfl hl.1 rfl (lv_room (Nat.le_of_ble_eq_true rfl)) dX8_presentWorkers_9 ⟨Nat.le_of_ble_eq_true rfl, Nat.le_of_ble_eq_true rfl⟩)) (fun r hr9 => ?_)
      subst hr9
      have hq := hN.nw.le
      refine z_icmp_ge (tgt := 44) hx hb dX8_presentWorkers_12 (by decide) (by omega) (by omega) (fun h12 => ?_) (fun h12 => ?_)
      · refine lv_iload_n hx hb dX8_presentWorkers_44 rfl (lv_at hl 1 rfl) ?_
        exact W.iret hx hb hr (fun tX htX hWX => ⟨_, rfl, zN_cg (by unfold hereS; rw [show i = mn N 57 by omega]), htX⟩) (fun _ h9 => by cases h9) dX8_presentWorkers_45
      · have hSw1 := hSh i (by omega) (by omega)
        obtain ⟨sa1, ch1, tl1, fl1, af1, rate1, lv1, ru1, gd1, hP1, hR1, hRu1⟩ := id hSw1
        have hg8 := hR1.2.2.2.2.2.2.2.1
        have hgd := hR1.2.2.2.2.2.2.2.2.1
        have hg0 := hR1.2.2.2.2.2.2.2.2.2.1
        have hg1 := hR1.2.2.2.2.2.2.2.2.2.2
        have hgn : goneN N i ≤ 1 := (hN.gone (by omega)).le
        have htd := hN.td.le
        refine lv_iload_n hx hb dX8_presentWorkers_15 rfl (lv_at hl 1 rfl) ?_
        refine lv_aload_n hx hb dX8_presentWorkers_16 rfl (lv_at hl 2 rfl) ?_
        refine va_get (D := g.1) (ci := 8) (v := .ref sa) (C := RX8) (T := TX8) (N := 7) hx hb hts hinX8 hown hK hP 0 rfl rfl 2 (by decide) k37 (fun _ h9 => h9) rfl dX8_presentWorkers_17 ?_
        refine lv_iload_n hx hb dX8_presentWorkers_20 rfl (lv_at hl 0 rfl) ?_
        refine z_aald hx hb hK hP 1 4 rfl rfl rfl (by decide) (i) (by omega) (by omega) rfl dX8_presentWorkers_21 ?_
        refine va_get (D := g.1) (ci := 3) (v := .ref ((sa1 3))) (C := RX3) (T := TX3) (N := 7) hx hb hts hinX3 hown hK hP1 0 rfl rfl 3 (by decide) k112 (fun _ h9 => h9) rfl dX8_presentWorkers_22 ?_
        refine vp_callSi (va_Run.run (va_runV (As := []) (rest := [.int (zI (sumN (fun w => if goneN N w = 0 then 1 else 0) 0 i))]) ⟨hx, hb, hml, hown, hts⟩ (c_X0_isGone l g ((sa1 3)) (af1) (gd1) (hg8) (hgd)) (cwV 0 hts gX8_presentWorkers_X0_isGone rfl rfl rfl (by decide +kernel) ⟨Nat.le_of_ble_eq_true rfl, Nat.le_of_ble_eq_true rfl⟩) (g_preV (hP1.sub [4] rfl) hK (va_recv hK hP1 (q0 := 4) (ci := 0) rfl rfl)) rfl rfl hl.1 rfl (lv_room (Nat.le_of_ble_eq_true rfl)) dX8_presentWorkers_25 ⟨Nat.le_of_ble_eq_true rfl, Nat.le_of_ble_eq_true rfl⟩)) (fun r hr9 => ?_)
        subst hr9
        refine z_bz_eq (tgt := 35) hx hb dX8_presentWorkers_28 (by decide) (fun h28 => ?_) (fun h28 => ?_)
        · refine lv_iconst (v := zI (1)) hx hb dX8_presentWorkers_35 (by decide) ?_
          refine z_iadd hx hb dX8_presentWorkers_36 ?_
          refine lv_istore_n (lv' := [(1, .int (zI ((sumN (fun w => if goneN N w = 0 then 1 else 0) 0 i) + 1))), (2, .int (zI (((i : Nat) : Int)))), (0, .ref ho)]) hx hb dX8_presentWorkers_37 rfl hl (by decide) rfl (fun ls hl => ?_)
          refine z_iinc (lv' := [(2, .int (zI (((i : Nat) : Int) + 1))), (1, .int (zI ((sumN (fun w => if goneN N w = 0 then 1 else 0) 0 i) + 1))), (0, .ref ho)]) hx hb dX8_presentWorkers_38 hl (k := 1) rfl (by decide) rfl (fun ls hl => ?_)
          refine lv_goto (tgt := 4) hx hb dX8_presentWorkers_41 (by decide) ?_
          have hl := lv_sub (l' := [(2, .int (zI (((i : Nat) : Int) + 1))), (1, .int (zI ((sumN (fun w => if goneN N w = 0 then 1 else 0) 0 i) + 1))), (0, .ref ho)]) hl [0, 1, 2] rfl
          have hl : lv_has ls 3 [(2, .int (zI ((((i + 1) : Nat) : Int)))), (1, .int (zI (sumN (fun w => if goneN N w = 0 then 1 else 0) 0 (i + 1)))), (0, .ref ho)] := lv_cg (lvE (congrArg zI (by omega)) (lvE (congrArg zI (by first | (rw [sumN_s, Nat.zero_add, if_pos (by omega)]; omega) | (rw [sumN_s, Nat.zero_add, if_neg (by omega)]; omega))) (lvR (rfl)))) hl
          exact ih (i + 1) (by omega) (by omega) ls hl
        · refine lv_iconst (v := zI (0)) hx hb dX8_presentWorkers_31 (by decide) ?_
          refine lv_goto (tgt := 36) hx hb dX8_presentWorkers_32 (by decide) ?_
          refine z_iadd hx hb dX8_presentWorkers_36 ?_
          refine lv_istore_n (lv' := [(1, .int (zI ((sumN (fun w => if goneN N w = 0 then 1 else 0) 0 i) + 0))), (2, .int (zI (((i : Nat) : Int)))), (0, .ref ho)]) hx hb dX8_presentWorkers_37 rfl hl (by decide) rfl (fun ls hl => ?_)
          refine z_iinc (lv' := [(2, .int (zI (((i : Nat) : Int) + 1))), (1, .int (zI ((sumN (fun w => if goneN N w = 0 then 1 else 0) 0 i) + 0))), (0, .ref ho)]) hx hb dX8_presentWorkers_38 hl (k := 1) rfl (by decide) rfl (fun ls hl => ?_)
          refine lv_goto (tgt := 4) hx hb dX8_presentWorkers_41 (by decide) ?_
          have hl := lv_sub (l' := [(2, .int (zI (((i : Nat) : Int) + 1))), (1, .int (zI ((sumN (fun w => if goneN N w = 0 then 1 else 0) 0 i) + 0))), (0, .ref ho)]) hl [0, 1, 2] rfl
          have hl : lv_has ls 3 [(2, .int (zI ((((i + 1) : Nat) : Int)))), (1, .int (zI (sumN (fun w => if goneN N w = 0 then 1 else 0) 0 (i + 1)))), (0, .ref ho)] := lv_cg (lvE (congrArg zI (by omega)) (lvE (congrArg zI (by first | (rw [sumN_s, Nat.zero_add, if_pos (by omega)]; omega) | (rw [sumN_s, Nat.zero_add, if_neg (by omega)]; omega))) (lvR (rfl)))) hl
          exact ih (i + 1) (by omega) (by omega) ls hl
  have hl := lv_sub (l' := [(2, .int (zI (0))), (1, .int (zI (0))), (0, .ref ho)]) hl [0, 1, 2] rfl
  have hl : lv_has ls 3 [(2, .int (zI (((0 : Nat) : Int)))), (1, .int (zI (sumN (fun w => if goneN N w = 0 then 1 else 0) 0 0))), (0, .ref ho)] := lv_cg (lvE (congrArg zI (rfl)) (lvE (congrArg zI (rfl)) (lvR (rfl)))) hl
  exact loop4 _ (0) (Nat.lt_succ_self _) (Nat.zero_le _) ls hl

set_option maxHeartbeats 4000000 in
set_option maxRecDepth 100000 in
theorem c_X8_changedPlans (l : Launch) (g : GG) (ho : Nat) (N : Nat → Int32) (hN : okN N) (hc tz : Int32)  : Met l yX8_changedPlans wsX8_changedPlans ({ frames := 2, cells := 0, slots := 0, locals := 43 }) (gPc g [.ref ho] (rdH g ho N hc tz)) (vp_Si (fun r : Int32 => r = zI (allS N 4 0))) 0 0 (fun _ => False) := by
  refine Met.ofW (cc := cX8_changedPlans) (maxL := 3) (ret := (some .int)) (by decide) rfl ?_
  intro p e s m args below meth c s₁ B hml hv
  obtain ⟨rfl, hPre, hK⟩ := hv
  have hx := B.exec
  have hb := B.bytes
  have hr := B.returns
  have hts := atoms_spec (ws := wsX8_changedPlans) B.pre
  have hown : s.vm.findClass RX8 = some m.cls := findClass_of_methodNamed B.named
  have hlocks := B.notSynchronized
  have hinX8 : ∀ w ∈ wsX80, w ∈ wsX8_changedPlans := by decide +kernel
  have k28 := hts (.fieldLink RX8 28 "HoursBank" "rules" "LHoursBank$Rules;") (by decide +kernel)
  have k37 := hts (.fieldLink RX8 37 "HoursBank" "sheets" "[LHoursBank$Sheet;") (by decide +kernel)
  have hl := lv_entry ([.ref ho]) (n := 3) (Nat.le_of_ble_eq_true rfl)
  rw [lg_entry_eq]
  generalize (lg_sl ([.ref ho]) ++ List.replicate (3 - (lg_sl ([.ref ho])).length) Slot.unset).toArray = ls at hl ⊢
  have hl : lv_has ls 3 [(0, .ref ho)] := hl
  obtain ⟨tpa, rda, sa, hia, ru, dfa, sh, hst, hnx, bya, hP, hSh, hRu⟩ := id hPre
  refine lv_iconst (v := zI (0)) hx hb dX8_changedPlans_0 (by decide) ?_
  refine lv_istore_n (lv' := [(1, .int (zI (0))), (0, .ref ho)]) hx hb dX8_changedPlans_1 rfl hl (by decide) rfl (fun ls hl => ?_)
  refine lv_iconst (v := zI (0)) hx hb dX8_changedPlans_2 (by decide) ?_
  refine lv_istore_n (lv' := [(2, .int (zI (0))), (1, .int (zI (0))), (0, .ref ho)]) hx hb dX8_changedPlans_3 rfl hl (by decide) rfl (fun ls hl => ?_)
  have loop4 : ∀ (K9 : Nat) (i : Nat) (hK9 : mn N 57 - i < K9) (hi : i ≤ mn N 57) (ls : Array Slot) (hl : lv_has ls 3 [(2, .int (zI (((i : Nat) : Int)))), (1, .int (zI (sumN (fun w => sumN (ind N w 4) 0 (364 - 0)) 0 i))), (0, .ref ho)]), W p l e (headSpec wsX8_changedPlans ({ frames := 2, cells := 0, slots := 0, locals := 43 })).room s m ([.ref ho] : List Value).toArray below meth c s.heap [] 0 0 (MQ below (vp_Si (fun r : Int32 => r = zI (allS N 4 0))) ([.ref ho] : List Value).toArray s 0 0 (fun _ => False)) (F0 m 4 ls []) := by
    intro K9
    induction K9 with
    | zero => intro i hK9; exact absurd hK9 (Nat.not_lt_zero _)
    | succ K9 ih =>
      intro i hK9 hi ls hl
      refine lv_iload_n hx hb dX8_changedPlans_4 rfl (lv_at hl 0 rfl) ?_
      refine lv_aload_n hx hb dX8_changedPlans_5 rfl (lv_at hl 2 rfl) ?_
      refine va_get (D := g.1) (ci := 8) (v := .ref ru) (C := RX8) (T := TX8) (N := 7) hx hb hts hinX8 hown hK hP 0 rfl rfl 4 (by decide) k28 (fun _ h9 => h9) rfl dX8_changedPlans_6 ?_
      refine vp_callSi (va_Run.run (va_runV (As := []) (rest := [.int (zI (((i : Nat) : Int)))]) ⟨hx, hb, hml, hown, hts⟩ (c_X2_workers l g (ru) (N) (hN)) (cwV 0 hts gX8_changedPlans_X2_workers rfl rfl rfl (by decide +kernel) ⟨Nat.le_of_ble_eq_true rfl, Nat.le_of_ble_eq_true rfl⟩) (g_preV hRu hK (rdR_recv hK hRu)) rfl rfl hl.1 rfl (lv_room (Nat.le_of_ble_eq_true rfl)) dX8_changedPlans_9 ⟨Nat.le_of_ble_eq_true rfl, Nat.le_of_ble_eq_true rfl⟩)) (fun r hr9 => ?_)
      subst hr9
      have hq := hN.nw.le
      refine z_icmp_ge (tgt := 33) hx hb dX8_changedPlans_12 (by decide) (by omega) (by omega) (fun h12 => ?_) (fun h12 => ?_)
      · refine lv_iload_n hx hb dX8_changedPlans_33 rfl (lv_at hl 1 rfl) ?_
        exact W.iret hx hb hr (fun tX htX hWX => ⟨_, rfl, zN_cg (by unfold allS; rw [show i = mn N 57 by omega]), htX⟩) (fun _ h9 => by cases h9) dX8_changedPlans_34
      · skip
        refine lv_iload_n hx hb dX8_changedPlans_15 rfl (lv_at hl 1 rfl) ?_
        refine lv_aload_n hx hb dX8_changedPlans_16 rfl (lv_at hl 2 rfl) ?_
        refine va_get (D := g.1) (ci := 8) (v := .ref sa) (C := RX8) (T := TX8) (N := 7) hx hb hts hinX8 hown hK hP 0 rfl rfl 2 (by decide) k37 (fun _ h9 => h9) rfl dX8_changedPlans_17 ?_
        refine lv_iload_n hx hb dX8_changedPlans_20 rfl (lv_at hl 0 rfl) ?_
        refine z_aald hx hb hK hP 1 4 rfl rfl rfl (by decide) (i) (by omega) (by omega) rfl dX8_changedPlans_21 ?_
        refine vp_callSi (va_Run.run (va_runV (As := []) (rest := [.int (zI (sumN (fun w => sumN (ind N w 4) 0 (364 - 0)) 0 i))]) ⟨hx, hb, hml, hown, hts⟩ (c_X3_changedDays l g ((sh i)) (i) (N) (hN) (by omega)) (cwV 0 hts gX8_changedPlans_X3_changedDays rfl rfl rfl (by decide +kernel) ⟨Nat.le_of_ble_eq_true rfl, Nat.le_of_ble_eq_true rfl⟩) (g_preV (hSh i (by omega) (by omega)) hK (rdS_recv hK (hSh i (by omega) (by omega)))) rfl rfl hl.1 rfl (lv_room (Nat.le_of_ble_eq_true rfl)) dX8_changedPlans_22 ⟨Nat.le_of_ble_eq_true rfl, Nat.le_of_ble_eq_true rfl⟩)) (fun r hr9 => ?_)
        subst hr9
        refine z_iadd hx hb dX8_changedPlans_25 ?_
        refine lv_istore_n (lv' := [(1, .int (zI ((sumN (fun w => sumN (ind N w 4) 0 (364 - 0)) 0 i) + (sumN (ind N i 4) 0 364)))), (2, .int (zI (((i : Nat) : Int)))), (0, .ref ho)]) hx hb dX8_changedPlans_26 rfl hl (by decide) rfl (fun ls hl => ?_)
        refine z_iinc (lv' := [(2, .int (zI (((i : Nat) : Int) + 1))), (1, .int (zI ((sumN (fun w => sumN (ind N w 4) 0 (364 - 0)) 0 i) + (sumN (ind N i 4) 0 364)))), (0, .ref ho)]) hx hb dX8_changedPlans_27 hl (k := 1) rfl (by decide) rfl (fun ls hl => ?_)
        refine lv_goto (tgt := 4) hx hb dX8_changedPlans_30 (by decide) ?_
        have hl := lv_sub (l' := [(2, .int (zI (((i : Nat) : Int) + 1))), (1, .int (zI ((sumN (fun w => sumN (ind N w 4) 0 (364 - 0)) 0 i) + (sumN (ind N i 4) 0 364)))), (0, .ref ho)]) hl [0, 1, 2] rfl
        have hl : lv_has ls 3 [(2, .int (zI ((((i + 1) : Nat) : Int)))), (1, .int (zI (sumN (fun w => sumN (ind N w 4) 0 (364 - 0)) 0 (i + 1)))), (0, .ref ho)] := lv_cg (lvE (congrArg zI (by omega)) (lvE (congrArg zI (by have e8 : sumN (fun w => sumN (ind N w 4) 0 (364 - 0)) 0 (i + 1) = sumN (fun w => sumN (ind N w 4) 0 (364 - 0)) 0 i + sumN (ind N i 4) 0 364 := (sumN_s _ 0 i).trans (congrArg (fun t => sumN (fun w => sumN (ind N w 4) 0 (364 - 0)) 0 i + sumN (ind N t 4) 0 364) (Nat.zero_add i)); omega)) (lvR (rfl)))) hl
        exact ih (i + 1) (by omega) (by omega) ls hl
  have hl := lv_sub (l' := [(2, .int (zI (0))), (1, .int (zI (0))), (0, .ref ho)]) hl [0, 1, 2] rfl
  have hl : lv_has ls 3 [(2, .int (zI (((0 : Nat) : Int)))), (1, .int (zI (sumN (fun w => sumN (ind N w 4) 0 (364 - 0)) 0 0))), (0, .ref ho)] := lv_cg (lvE (congrArg zI (rfl)) (lvE (congrArg zI (rfl)) (lvR (rfl)))) hl
  exact loop4 _ (0) (Nat.lt_succ_self _) (Nat.zero_le _) ls hl

set_option maxHeartbeats 4000000 in
set_option maxRecDepth 100000 in
theorem c_X8_bookedDays (l : Launch) (g : GG) (ho : Nat) (N : Nat → Int32) (hN : okN N) (hc tz : Int32)  : Met l yX8_bookedDays wsX8_bookedDays ({ frames := 3, cells := 0, slots := 0, locals := 65 }) (gPc g [.ref ho] (rdH g ho N hc tz)) (vp_Si (fun r : Int32 => r = zI (allS N 2 (mn N 110)))) 0 0 (fun _ => False) := by
  refine Met.ofW (cc := cX8_bookedDays) (maxL := 3) (ret := (some .int)) (by decide) rfl ?_
  intro p e s m args below meth c s₁ B hml hv
  obtain ⟨rfl, hPre, hK⟩ := hv
  have hx := B.exec
  have hb := B.bytes
  have hr := B.returns
  have hts := atoms_spec (ws := wsX8_bookedDays) B.pre
  have hown : s.vm.findClass RX8 = some m.cls := findClass_of_methodNamed B.named
  have hlocks := B.notSynchronized
  have hinX8 : ∀ w ∈ wsX80, w ∈ wsX8_bookedDays := by decide +kernel
  have k28 := hts (.fieldLink RX8 28 "HoursBank" "rules" "LHoursBank$Rules;") (by decide +kernel)
  have k37 := hts (.fieldLink RX8 37 "HoursBank" "sheets" "[LHoursBank$Sheet;") (by decide +kernel)
  have k51 := hts (.fieldLink RX8 51 "HoursBank" "today" "I") (by decide +kernel)
  have hl := lv_entry ([.ref ho]) (n := 3) (Nat.le_of_ble_eq_true rfl)
  rw [lg_entry_eq]
  generalize (lg_sl ([.ref ho]) ++ List.replicate (3 - (lg_sl ([.ref ho])).length) Slot.unset).toArray = ls at hl ⊢
  have hl : lv_has ls 3 [(0, .ref ho)] := hl
  obtain ⟨tpa, rda, sa, hia, ru, dfa, sh, hst, hnx, bya, hP, hSh, hRu⟩ := id hPre
  refine lv_iconst (v := zI (0)) hx hb dX8_bookedDays_0 (by decide) ?_
  refine lv_istore_n (lv' := [(1, .int (zI (0))), (0, .ref ho)]) hx hb dX8_bookedDays_1 rfl hl (by decide) rfl (fun ls hl => ?_)
  refine lv_iconst (v := zI (0)) hx hb dX8_bookedDays_2 (by decide) ?_
  refine lv_istore_n (lv' := [(2, .int (zI (0))), (1, .int (zI (0))), (0, .ref ho)]) hx hb dX8_bookedDays_3 rfl hl (by decide) rfl (fun ls hl => ?_)
  have loop4 : ∀ (K9 : Nat) (i : Nat) (hK9 : mn N 57 - i < K9) (hi : i ≤ mn N 57) (ls : Array Slot) (hl : lv_has ls 3 [(2, .int (zI (((i : Nat) : Int)))), (1, .int (zI (sumN (fun w => sumN (ind N w 2) (mn N 110) (364 - (mn N 110))) 0 i))), (0, .ref ho)]), W p l e (headSpec wsX8_bookedDays ({ frames := 3, cells := 0, slots := 0, locals := 65 })).room s m ([.ref ho] : List Value).toArray below meth c s.heap [] 0 0 (MQ below (vp_Si (fun r : Int32 => r = zI (allS N 2 (mn N 110)))) ([.ref ho] : List Value).toArray s 0 0 (fun _ => False)) (F0 m 4 ls []) := by
    intro K9
    induction K9 with
    | zero => intro i hK9; exact absurd hK9 (Nat.not_lt_zero _)
    | succ K9 ih =>
      intro i hK9 hi ls hl
      refine lv_iload_n hx hb dX8_bookedDays_4 rfl (lv_at hl 0 rfl) ?_
      refine lv_aload_n hx hb dX8_bookedDays_5 rfl (lv_at hl 2 rfl) ?_
      refine va_get (D := g.1) (ci := 8) (v := .ref ru) (C := RX8) (T := TX8) (N := 7) hx hb hts hinX8 hown hK hP 0 rfl rfl 4 (by decide) k28 (fun _ h9 => h9) rfl dX8_bookedDays_6 ?_
      refine vp_callSi (va_Run.run (va_runV (As := []) (rest := [.int (zI (((i : Nat) : Int)))]) ⟨hx, hb, hml, hown, hts⟩ (c_X2_workers l g (ru) (N) (hN)) (cwV 0 hts gX8_bookedDays_X2_workers rfl rfl rfl (by decide +kernel) ⟨Nat.le_of_ble_eq_true rfl, Nat.le_of_ble_eq_true rfl⟩) (g_preV hRu hK (rdR_recv hK hRu)) rfl rfl hl.1 rfl (lv_room (Nat.le_of_ble_eq_true rfl)) dX8_bookedDays_9 ⟨Nat.le_of_ble_eq_true rfl, Nat.le_of_ble_eq_true rfl⟩)) (fun r hr9 => ?_)
      subst hr9
      have hq := hN.nw.le
      refine z_icmp_ge (tgt := 37) hx hb dX8_bookedDays_12 (by decide) (by omega) (by omega) (fun h12 => ?_) (fun h12 => ?_)
      · refine lv_iload_n hx hb dX8_bookedDays_37 rfl (lv_at hl 1 rfl) ?_
        exact W.iret hx hb hr (fun tX htX hWX => ⟨_, rfl, zN_cg (by unfold allS; rw [show i = mn N 57 by omega]), htX⟩) (fun _ h9 => by cases h9) dX8_bookedDays_38
      · skip
        refine lv_iload_n hx hb dX8_bookedDays_15 rfl (lv_at hl 1 rfl) ?_
        refine lv_aload_n hx hb dX8_bookedDays_16 rfl (lv_at hl 2 rfl) ?_
        refine va_get (D := g.1) (ci := 8) (v := .ref sa) (C := RX8) (T := TX8) (N := 7) hx hb hts hinX8 hown hK hP 0 rfl rfl 2 (by decide) k37 (fun _ h9 => h9) rfl dX8_bookedDays_17 ?_
        refine lv_iload_n hx hb dX8_bookedDays_20 rfl (lv_at hl 0 rfl) ?_
        refine z_aald hx hb hK hP 1 4 rfl rfl rfl (by decide) (i) (by omega) (by omega) rfl dX8_bookedDays_21 ?_
        refine lv_aload_n hx hb dX8_bookedDays_22 rfl (lv_at hl 2 rfl) ?_
        refine va_get (D := g.1) (ci := 8) (v := .int (N 110)) (C := RX8) (T := TX8) (N := 7) hx hb hts hinX8 hown hK hP 0 rfl rfl 6 (by decide) k51 (fun _ h9 => h9) rfl dX8_bookedDays_23 ?_
        refine z_top (y := zI (mn N 110)) (hN.td.eq) ?_
        refine vp_callSi (va_Run.run (va_runV (As := [.int (zI (mn N 110))]) (rest := [.int (zI (sumN (fun w => sumN (ind N w 2) (mn N 110) (364 - (mn N 110))) 0 i))]) ⟨hx, hb, hml, hown, hts⟩ (c_X3_bookedFrom l g ((sh i)) (i) (N) (hN) (by omega) ((mn N 110)) (hN.td.le)) (cwV 1 hts gX8_bookedDays_X3_bookedFrom rfl rfl rfl (by decide +kernel) ⟨Nat.le_of_ble_eq_true rfl, Nat.le_of_ble_eq_true rfl⟩) (g_preV (hSh i (by omega) (by omega)) hK (rdS_recv hK (hSh i (by omega) (by omega)))) rfl rfl hl.1 rfl (lv_room (Nat.le_of_ble_eq_true rfl)) dX8_bookedDays_26 ⟨Nat.le_of_ble_eq_true rfl, Nat.le_of_ble_eq_true rfl⟩)) (fun r hr9 => ?_)
        subst hr9
        refine z_iadd hx hb dX8_bookedDays_29 ?_
        refine lv_istore_n (lv' := [(1, .int (zI ((sumN (fun w => sumN (ind N w 2) (mn N 110) (364 - (mn N 110))) 0 i) + (sumN (ind N i 2) (mn N 110) (364 - (mn N 110)))))), (2, .int (zI (((i : Nat) : Int)))), (0, .ref ho)]) hx hb dX8_bookedDays_30 rfl hl (by decide) rfl (fun ls hl => ?_)
        refine z_iinc (lv' := [(2, .int (zI (((i : Nat) : Int) + 1))), (1, .int (zI ((sumN (fun w => sumN (ind N w 2) (mn N 110) (364 - (mn N 110))) 0 i) + (sumN (ind N i 2) (mn N 110) (364 - (mn N 110)))))), (0, .ref ho)]) hx hb dX8_bookedDays_31 hl (k := 1) rfl (by decide) rfl (fun ls hl => ?_)
        refine lv_goto (tgt := 4) hx hb dX8_bookedDays_34 (by decide) ?_
        have hl := lv_sub (l' := [(2, .int (zI (((i : Nat) : Int) + 1))), (1, .int (zI ((sumN (fun w => sumN (ind N w 2) (mn N 110) (364 - (mn N 110))) 0 i) + (sumN (ind N i 2) (mn N 110) (364 - (mn N 110)))))), (0, .ref ho)]) hl [0, 1, 2] rfl
        have hl : lv_has ls 3 [(2, .int (zI ((((i + 1) : Nat) : Int)))), (1, .int (zI (sumN (fun w => sumN (ind N w 2) (mn N 110) (364 - (mn N 110))) 0 (i + 1)))), (0, .ref ho)] := lv_cg (lvE (congrArg zI (by omega)) (lvE (congrArg zI (by rw [sumN_s, Nat.zero_add]; omega)) (lvR (rfl)))) hl
        exact ih (i + 1) (by omega) (by omega) ls hl
  have hl := lv_sub (l' := [(2, .int (zI (0))), (1, .int (zI (0))), (0, .ref ho)]) hl [0, 1, 2] rfl
  have hl : lv_has ls 3 [(2, .int (zI (((0 : Nat) : Int)))), (1, .int (zI (sumN (fun w => sumN (ind N w 2) (mn N 110) (364 - (mn N 110))) 0 0))), (0, .ref ho)] := lv_cg (lvE (congrArg zI (rfl)) (lvE (congrArg zI (rfl)) (lvR (rfl)))) hl
  exact loop4 _ (0) (Nat.lt_succ_self _) (Nat.zero_le _) ls hl

set_option maxHeartbeats 4000000 in
set_option maxRecDepth 100000 in
theorem c_X8_flaggedDays (l : Launch) (g : GG) (ho : Nat) (N : Nat → Int32) (hN : okN N) (hc tz : Int32)  : Met l yX8_flaggedDays wsX8_flaggedDays ({ frames := 1, cells := 0, slots := 0, locals := 20 }) (gPc g [.ref ho] (rdH g ho N hc tz)) (vp_Si (fun r : Int32 => r = zI (allS N 3 0))) 0 0 (fun _ => False) := by
  refine Met.ofW (cc := cX8_flaggedDays) (maxL := 3) (ret := (some .int)) (by decide) rfl ?_
  intro p e s m args below meth c s₁ B hml hv
  obtain ⟨rfl, hPre, hK⟩ := hv
  have hx := B.exec
  have hb := B.bytes
  have hr := B.returns
  have hts := atoms_spec (ws := wsX8_flaggedDays) B.pre
  have hown : s.vm.findClass RX8 = some m.cls := findClass_of_methodNamed B.named
  have hlocks := B.notSynchronized
  have hinX0 : ∀ w ∈ wsX00, w ∈ wsX8_flaggedDays := by decide +kernel
  have hinX3 : ∀ w ∈ wsX30, w ∈ wsX8_flaggedDays := by decide +kernel
  have hinX8 : ∀ w ∈ wsX80, w ∈ wsX8_flaggedDays := by decide +kernel
  have k28 := hts (.fieldLink RX8 28 "HoursBank" "rules" "LHoursBank$Rules;") (by decide +kernel)
  have k37 := hts (.fieldLink RX8 37 "HoursBank" "sheets" "[LHoursBank$Sheet;") (by decide +kernel)
  have k112 := hts (.fieldLink RX8 112 "HoursBank$Sheet" "account" "LHoursBank$Account;") (by decide +kernel)
  have k149 := hts (.fieldLink RX8 149 "HoursBank$Account" "flaggedDays" "I") (by decide +kernel)
  have hl := lv_entry ([.ref ho]) (n := 3) (Nat.le_of_ble_eq_true rfl)
  rw [lg_entry_eq]
  generalize (lg_sl ([.ref ho]) ++ List.replicate (3 - (lg_sl ([.ref ho])).length) Slot.unset).toArray = ls at hl ⊢
  have hl : lv_has ls 3 [(0, .ref ho)] := hl
  obtain ⟨tpa, rda, sa, hia, ru, dfa, sh, hst, hnx, bya, hP, hSh, hRu⟩ := id hPre
  refine lv_iconst (v := zI (0)) hx hb dX8_flaggedDays_0 (by decide) ?_
  refine lv_istore_n (lv' := [(1, .int (zI (0))), (0, .ref ho)]) hx hb dX8_flaggedDays_1 rfl hl (by decide) rfl (fun ls hl => ?_)
  refine lv_iconst (v := zI (0)) hx hb dX8_flaggedDays_2 (by decide) ?_
  refine lv_istore_n (lv' := [(2, .int (zI (0))), (1, .int (zI (0))), (0, .ref ho)]) hx hb dX8_flaggedDays_3 rfl hl (by decide) rfl (fun ls hl => ?_)
  have loop4 : ∀ (K9 : Nat) (i : Nat) (hK9 : mn N 57 - i < K9) (hi : i ≤ mn N 57) (ls : Array Slot) (hl : lv_has ls 3 [(2, .int (zI (((i : Nat) : Int)))), (1, .int (zI (sumN (fun w => sumN (ind N w 3) 0 (364 - 0)) 0 i))), (0, .ref ho)]), W p l e (headSpec wsX8_flaggedDays ({ frames := 1, cells := 0, slots := 0, locals := 20 })).room s m ([.ref ho] : List Value).toArray below meth c s.heap [] 0 0 (MQ below (vp_Si (fun r : Int32 => r = zI (allS N 3 0))) ([.ref ho] : List Value).toArray s 0 0 (fun _ => False)) (F0 m 4 ls []) := by
    intro K9
    induction K9 with
    | zero => intro i hK9; exact absurd hK9 (Nat.not_lt_zero _)
    | succ K9 ih =>
      intro i hK9 hi ls hl
      refine lv_iload_n hx hb dX8_flaggedDays_4 rfl (lv_at hl 0 rfl) ?_
      refine lv_aload_n hx hb dX8_flaggedDays_5 rfl (lv_at hl 2 rfl) ?_
      refine va_get (D := g.1) (ci := 8) (v := .ref ru) (C := RX8) (T := TX8) (N := 7) hx hb hts hinX8 hown hK hP 0 rfl rfl 4 (by decide) k28 (fun _ h9 => h9) rfl dX8_flaggedDays_6 ?_
      refine vp_callSi (va_Run.run (va_runV (As := []) (rest := [.int (zI (((i : Nat) : Int)))]) ⟨hx, hb, hml, hown, hts⟩ (c_X2_workers l g (ru) (N) (hN)) (cwV 0 hts gX8_flaggedDays_X2_workers rfl rfl rfl (by decide +kernel) ⟨Nat.le_of_ble_eq_true rfl, Nat.le_of_ble_eq_true rfl⟩) (g_preV hRu hK (rdR_recv hK hRu)) rfl rfl hl.1 rfl (lv_room (Nat.le_of_ble_eq_true rfl)) dX8_flaggedDays_9 ⟨Nat.le_of_ble_eq_true rfl, Nat.le_of_ble_eq_true rfl⟩)) (fun r hr9 => ?_)
      subst hr9
      have hq := hN.nw.le
      refine z_icmp_ge (tgt := 36) hx hb dX8_flaggedDays_12 (by decide) (by omega) (by omega) (fun h12 => ?_) (fun h12 => ?_)
      · refine lv_iload_n hx hb dX8_flaggedDays_36 rfl (lv_at hl 1 rfl) ?_
        exact W.iret hx hb hr (fun tX htX hWX => ⟨_, rfl, zN_cg (by unfold allS; rw [show i = mn N 57 by omega]), htX⟩) (fun _ h9 => by cases h9) dX8_flaggedDays_37
      · have hSw1 := hSh i (by omega) (by omega)
        obtain ⟨sa1, ch1, tl1, fl1, af1, rate1, lv1, ru1, gd1, hP1, hR1, hRu1⟩ := id hSw1
        refine lv_iload_n hx hb dX8_flaggedDays_15 rfl (lv_at hl 1 rfl) ?_
        refine lv_aload_n hx hb dX8_flaggedDays_16 rfl (lv_at hl 2 rfl) ?_
        refine va_get (D := g.1) (ci := 8) (v := .ref sa) (C := RX8) (T := TX8) (N := 7) hx hb hts hinX8 hown hK hP 0 rfl rfl 2 (by decide) k37 (fun _ h9 => h9) rfl dX8_flaggedDays_17 ?_
        refine lv_iload_n hx hb dX8_flaggedDays_20 rfl (lv_at hl 0 rfl) ?_
        refine z_aald hx hb hK hP 1 4 rfl rfl rfl (by decide) (i) (by omega) (by omega) rfl dX8_flaggedDays_21 ?_
        refine va_get (D := g.1) (ci := 3) (v := .ref ((sa1 3))) (C := RX3) (T := TX3) (N := 7) hx hb hts hinX3 hown hK hP1 0 rfl rfl 3 (by decide) k112 (fun _ h9 => h9) rfl dX8_flaggedDays_22 ?_
        refine va_get (D := g.1) (ci := 0) (v := .int (af1 7)) (C := RX0) (T := TX0) (N := 9) hx hb hts hinX0 hown hK hP1 4 rfl rfl 7 (by decide) k149 (fun _ h9 => h9) rfl dX8_flaggedDays_25 ?_
        refine z_top (y := zI (sumN (ind N i 3) 0 364)) (hR1.2.2.2.2.2.2.1) ?_
        refine z_iadd hx hb dX8_flaggedDays_28 ?_
        refine lv_istore_n (lv' := [(1, .int (zI ((sumN (fun w => sumN (ind N w 3) 0 (364 - 0)) 0 i) + (sumN (ind N i 3) 0 364)))), (2, .int (zI (((i : Nat) : Int)))), (0, .ref ho)]) hx hb dX8_flaggedDays_29 rfl hl (by decide) rfl (fun ls hl => ?_)
        refine z_iinc (lv' := [(2, .int (zI (((i : Nat) : Int) + 1))), (1, .int (zI ((sumN (fun w => sumN (ind N w 3) 0 (364 - 0)) 0 i) + (sumN (ind N i 3) 0 364)))), (0, .ref ho)]) hx hb dX8_flaggedDays_30 hl (k := 1) rfl (by decide) rfl (fun ls hl => ?_)
        refine lv_goto (tgt := 4) hx hb dX8_flaggedDays_33 (by decide) ?_
        have hl := lv_sub (l' := [(2, .int (zI (((i : Nat) : Int) + 1))), (1, .int (zI ((sumN (fun w => sumN (ind N w 3) 0 (364 - 0)) 0 i) + (sumN (ind N i 3) 0 364)))), (0, .ref ho)]) hl [0, 1, 2] rfl
        have hl : lv_has ls 3 [(2, .int (zI ((((i + 1) : Nat) : Int)))), (1, .int (zI (sumN (fun w => sumN (ind N w 3) 0 (364 - 0)) 0 (i + 1)))), (0, .ref ho)] := lv_cg (lvE (congrArg zI (by omega)) (lvE (congrArg zI (by have e8 : sumN (fun w => sumN (ind N w 3) 0 (364 - 0)) 0 (i + 1) = sumN (fun w => sumN (ind N w 3) 0 (364 - 0)) 0 i + sumN (ind N i 3) 0 364 := (sumN_s _ 0 i).trans (congrArg (fun t => sumN (fun w => sumN (ind N w 3) 0 (364 - 0)) 0 i + sumN (ind N t 3) 0 364) (Nat.zero_add i)); omega)) (lvR (rfl)))) hl
        exact ih (i + 1) (by omega) (by omega) ls hl
  have hl := lv_sub (l' := [(2, .int (zI (0))), (1, .int (zI (0))), (0, .ref ho)]) hl [0, 1, 2] rfl
  have hl : lv_has ls 3 [(2, .int (zI (((0 : Nat) : Int)))), (1, .int (zI (sumN (fun w => sumN (ind N w 3) 0 (364 - 0)) 0 0))), (0, .ref ho)] := lv_cg (lvE (congrArg zI (rfl)) (lvE (congrArg zI (rfl)) (lvR (rfl)))) hl
  exact loop4 _ (0) (Nat.lt_succ_self _) (Nat.zero_le _) ls hl

set_option maxHeartbeats 4000000 in
set_option maxRecDepth 100000 in
theorem c_X8_coinsPaid (l : Launch) (g : GG) (ho : Nat) (N : Nat → Int32) (hN : okN N) (hc tz : Int32)  : Met l yX8_coinsPaid wsX8_coinsPaid ({ frames := 1, cells := 0, slots := 0, locals := 20 }) (gPc g [.ref ho] (rdH g ho N hc tz)) (vp_Si (fun r : Int32 => r = coinS N (mn N 57))) 0 0 (fun _ => False) := by
  refine Met.ofW (cc := cX8_coinsPaid) (maxL := 3) (ret := (some .int)) (by decide) rfl ?_
  intro p e s m args below meth c s₁ B hml hv
  obtain ⟨rfl, hPre, hK⟩ := hv
  have hx := B.exec
  have hb := B.bytes
  have hr := B.returns
  have hts := atoms_spec (ws := wsX8_coinsPaid) B.pre
  have hown : s.vm.findClass RX8 = some m.cls := findClass_of_methodNamed B.named
  have hlocks := B.notSynchronized
  have hinX3 : ∀ w ∈ wsX30, w ∈ wsX8_coinsPaid := by decide +kernel
  have hinX8 : ∀ w ∈ wsX80, w ∈ wsX8_coinsPaid := by decide +kernel
  have k28 := hts (.fieldLink RX8 28 "HoursBank" "rules" "LHoursBank$Rules;") (by decide +kernel)
  have k37 := hts (.fieldLink RX8 37 "HoursBank" "sheets" "[LHoursBank$Sheet;") (by decide +kernel)
  have k112 := hts (.fieldLink RX8 112 "HoursBank$Sheet" "account" "LHoursBank$Account;") (by decide +kernel)
  have hl := lv_entry ([.ref ho]) (n := 3) (Nat.le_of_ble_eq_true rfl)
  rw [lg_entry_eq]
  generalize (lg_sl ([.ref ho]) ++ List.replicate (3 - (lg_sl ([.ref ho])).length) Slot.unset).toArray = ls at hl ⊢
  have hl : lv_has ls 3 [(0, .ref ho)] := hl
  obtain ⟨tpa, rda, sa, hia, ru, dfa, sh, hst, hnx, bya, hP, hSh, hRu⟩ := id hPre
  refine lv_iconst (v := zI (0)) hx hb dX8_coinsPaid_0 (by decide) ?_
  refine lv_istore_n (lv' := [(1, .int (zI (0))), (0, .ref ho)]) hx hb dX8_coinsPaid_1 rfl hl (by decide) rfl (fun ls hl => ?_)
  refine lv_iconst (v := zI (0)) hx hb dX8_coinsPaid_2 (by decide) ?_
  refine lv_istore_n (lv' := [(2, .int (zI (0))), (1, .int (zI (0))), (0, .ref ho)]) hx hb dX8_coinsPaid_3 rfl hl (by decide) rfl (fun ls hl => ?_)
  have loop4 : ∀ (K9 : Nat) (i : Nat) (hK9 : mn N 57 - i < K9) (hi : i ≤ mn N 57) (ls : Array Slot) (hl : lv_has ls 3 [(2, .int (zI (((i : Nat) : Int)))), (1, .int (coinS N i)), (0, .ref ho)]), W p l e (headSpec wsX8_coinsPaid ({ frames := 1, cells := 0, slots := 0, locals := 20 })).room s m ([.ref ho] : List Value).toArray below meth c s.heap [] 0 0 (MQ below (vp_Si (fun r : Int32 => r = coinS N (mn N 57))) ([.ref ho] : List Value).toArray s 0 0 (fun _ => False)) (F0 m 4 ls []) := by
    intro K9
    induction K9 with
    | zero => intro i hK9; exact absurd hK9 (Nat.not_lt_zero _)
    | succ K9 ih =>
      intro i hK9 hi ls hl
      refine lv_iload_n hx hb dX8_coinsPaid_4 rfl (lv_at hl 0 rfl) ?_
      refine lv_aload_n hx hb dX8_coinsPaid_5 rfl (lv_at hl 2 rfl) ?_
      refine va_get (D := g.1) (ci := 8) (v := .ref ru) (C := RX8) (T := TX8) (N := 7) hx hb hts hinX8 hown hK hP 0 rfl rfl 4 (by decide) k28 (fun _ h9 => h9) rfl dX8_coinsPaid_6 ?_
      refine vp_callSi (va_Run.run (va_runV (As := []) (rest := [.int (zI (((i : Nat) : Int)))]) ⟨hx, hb, hml, hown, hts⟩ (c_X2_workers l g (ru) (N) (hN)) (cwV 0 hts gX8_coinsPaid_X2_workers rfl rfl rfl (by decide +kernel) ⟨Nat.le_of_ble_eq_true rfl, Nat.le_of_ble_eq_true rfl⟩) (g_preV hRu hK (rdR_recv hK hRu)) rfl rfl hl.1 rfl (lv_room (Nat.le_of_ble_eq_true rfl)) dX8_coinsPaid_9 ⟨Nat.le_of_ble_eq_true rfl, Nat.le_of_ble_eq_true rfl⟩)) (fun r hr9 => ?_)
      subst hr9
      have hq := hN.nw.le
      refine z_icmp_ge (tgt := 36) hx hb dX8_coinsPaid_12 (by decide) (by omega) (by omega) (fun h12 => ?_) (fun h12 => ?_)
      · refine lv_iload_n hx hb dX8_coinsPaid_36 rfl (lv_at hl 1 rfl) ?_
        exact W.iret hx hb hr (fun tX htX hWX => ⟨_, rfl, by rw [show i = mn N 57 by omega], htX⟩) (fun _ h9 => by cases h9) dX8_coinsPaid_37
      · have hSw1 := hSh i (by omega) (by omega)
        obtain ⟨sa1, ch1, tl1, fl1, af1, rate1, lv1, ru1, gd1, hP1, hR1, hRu1⟩ := id hSw1
        refine lv_iload_n hx hb dX8_coinsPaid_15 rfl (lv_at hl 1 rfl) ?_
        refine lv_aload_n hx hb dX8_coinsPaid_16 rfl (lv_at hl 2 rfl) ?_
        refine va_get (D := g.1) (ci := 8) (v := .ref sa) (C := RX8) (T := TX8) (N := 7) hx hb hts hinX8 hown hK hP 0 rfl rfl 2 (by decide) k37 (fun _ h9 => h9) rfl dX8_coinsPaid_17 ?_
        refine lv_iload_n hx hb dX8_coinsPaid_20 rfl (lv_at hl 0 rfl) ?_
        refine z_aald hx hb hK hP 1 4 rfl rfl rfl (by decide) (i) (by omega) (by omega) rfl dX8_coinsPaid_21 ?_
        refine va_get (D := g.1) (ci := 3) (v := .ref ((sa1 3))) (C := RX3) (T := TX3) (N := 7) hx hb hts hinX3 hown hK hP1 0 rfl rfl 3 (by decide) k112 (fun _ h9 => h9) rfl dX8_coinsPaid_22 ?_
        refine vp_callSi (va_Run.run (va_runV (As := []) (rest := [.int (coinS N i)]) ⟨hx, hb, hml, hown, hts⟩ (c_X0_coinsPaid l g ((sa1 3)) (af1)) (cwV 0 hts gX8_coinsPaid_X0_coinsPaid rfl rfl rfl (by decide +kernel) ⟨Nat.le_of_ble_eq_true rfl, Nat.le_of_ble_eq_true rfl⟩) (g_preV (hP1.sub [4] rfl) hK (va_recv hK hP1 (q0 := 4) (ci := 0) rfl rfl)) rfl rfl hl.1 rfl (lv_room (Nat.le_of_ble_eq_true rfl)) dX8_coinsPaid_25 ⟨Nat.le_of_ble_eq_true rfl, Nat.le_of_ble_eq_true rfl⟩)) (fun r hr9 => ?_)
        subst hr9
        refine z_top (y := N (58 + 13 * i + 5) + N (58 + 13 * i + 6) + N (58 + 13 * i + 8) - N (58 + 13 * i + 7)) (by rw [hR1.2.2.2.2.2.1 3 (by omega), hR1.2.2.2.2.2.1 4 (by omega), hR1.2.2.2.2.2.1 5 (by omega), hR1.2.2.2.2.2.1 6 (by omega)]) ?_
        refine lv_iadd hx hb dX8_coinsPaid_28 ?_
        refine lv_istore_n (lv' := [(1, .int ((coinS N i) + (N (58 + 13 * i + 5) + N (58 + 13 * i + 6) + N (58 + 13 * i + 8) - N (58 + 13 * i + 7)))), (2, .int (zI (((i : Nat) : Int)))), (0, .ref ho)]) hx hb dX8_coinsPaid_29 rfl hl (by decide) rfl (fun ls hl => ?_)
        refine z_iinc (lv' := [(2, .int (zI (((i : Nat) : Int) + 1))), (1, .int ((coinS N i) + (N (58 + 13 * i + 5) + N (58 + 13 * i + 6) + N (58 + 13 * i + 8) - N (58 + 13 * i + 7)))), (0, .ref ho)]) hx hb dX8_coinsPaid_30 hl (k := 1) rfl (by decide) rfl (fun ls hl => ?_)
        refine lv_goto (tgt := 4) hx hb dX8_coinsPaid_33 (by decide) ?_
        have hl := lv_sub (l' := [(2, .int (zI (((i : Nat) : Int) + 1))), (1, .int ((coinS N i) + (N (58 + 13 * i + 5) + N (58 + 13 * i + 6) + N (58 + 13 * i + 8) - N (58 + 13 * i + 7)))), (0, .ref ho)]) hl [0, 1, 2] rfl
        have hl : lv_has ls 3 [(2, .int (zI ((((i + 1) : Nat) : Int)))), (1, .int (coinS N (i + 1))), (0, .ref ho)] := lv_cg (lvE (congrArg zI (by omega)) (lvE (by rw [coinS]) (lvR (rfl)))) hl
        exact ih (i + 1) (by omega) (by omega) ls hl
  have hl := lv_sub (l' := [(2, .int (zI (0))), (1, .int (zI (0))), (0, .ref ho)]) hl [0, 1, 2] rfl
  have hl : lv_has ls 3 [(2, .int (zI (((0 : Nat) : Int)))), (1, .int (coinS N 0)), (0, .ref ho)] := lv_cg (lvE (congrArg zI (rfl)) (lvE (rfl) (lvR (rfl)))) hl
  exact loop4 _ (0) (Nat.lt_succ_self _) (Nat.zero_le _) ls hl
