set_option maxHeartbeats 4000000 in
set_option maxRecDepth 100000 in
theorem c_X9_three (l : Launch) (x y z : Int) (hx0 : R32 x) (hy0 : R32 y) (hz0 : R32 z) : Met l yX9_three wsX9_three ({ frames := 0, cells := 0, slots := 0, locals := 0 }) (va_Pc [.int (zI (x)), .int (zI (y)), .int (zI (z))] (fun _ => True)) (vp_Sl (fun r : Int64 => r = zL (hsh3 x y z))) 0 0 (fun _ => False) := by
  refine Met.ofW (cc := cX9_three) (maxL := 3) (ret := (some .long)) (by decide) rfl ?_
  intro p e s m args below meth c s₁ B hml hv
  obtain ⟨rfl, -⟩ := hv
  have hx := B.exec
  have hb := B.bytes
  have hr := B.returns
  have hts := atoms_spec (ws := wsX9_three) B.pre
  have hown : s.vm.findClass RX9 = some m.cls := findClass_of_methodNamed B.named
  have hlocks := B.notSynchronized
  have k48 := hts (.constantLong RX9 48 (27)) (by decide +kernel)
  have k50 := hts (.constantLong RX9 50 (96)) (by decide +kernel)
  have hl := lv_entry ([.int (zI (x)), .int (zI (y)), .int (zI (z))]) (n := 3) (Nat.le_of_ble_eq_true rfl)
  rw [lg_entry_eq]
  generalize (lg_sl ([.int (zI (x)), .int (zI (y)), .int (zI (z))]) ++ List.replicate (3 - (lg_sl ([.int (zI (x)), .int (zI (y)), .int (zI (z))])).length) Slot.unset).toArray = ls at hl ⊢
  have hl : lv_has ls 3 [(0, .int (zI (x))), (1, .int (zI (y))), (2, .int (zI (z)))] := hl
  refine lv_ldc2 (v := 27) hx hb hown k48 dX9_three_0 ?_
  refine z_topl (y := zL (27)) (by decide) ?_
  refine lv_ldc2 (v := 27) hx hb hown k48 dX9_three_3 ?_
  refine z_topl (y := zL (27)) (by decide) ?_
  refine lv_iload_n hx hb dX9_three_6 rfl (lv_at hl 0 rfl) ?_
  refine z_i2l hx hb dX9_three_7 (by omega) ?_
  refine lv_ldc2 (v := 96) hx hb hown k50 dX9_three_8 ?_
  refine z_topl (y := zL (96)) (by decide) ?_
  refine z_lsub hx hb dX9_three_11 ?_
  refine z_lmul hx hb dX9_three_12 ?_
  refine lv_iload_n hx hb dX9_three_13 rfl (lv_at hl 1 rfl) ?_
  refine z_i2l hx hb dX9_three_14 (by omega) ?_
  refine z_ladd hx hb dX9_three_15 ?_
  refine lv_ldc2 (v := 96) hx hb hown k50 dX9_three_16 ?_
  refine z_topl (y := zL (96)) (by decide) ?_
  refine z_lsub hx hb dX9_three_19 ?_
  refine z_lmul hx hb dX9_three_20 ?_
  refine lv_iload_n hx hb dX9_three_21 rfl (lv_at hl 2 rfl) ?_
  refine z_i2l hx hb dX9_three_22 (by omega) ?_
  refine z_ladd hx hb dX9_three_23 ?_
  refine lv_ldc2 (v := 96) hx hb hown k50 dX9_three_24 ?_
  refine z_topl (y := zL (96)) (by decide) ?_
  refine z_lsub hx hb dX9_three_27 ?_
  exact W.lret hx hb hr (fun tX htX hWX => ⟨_, rfl, rfl, htX⟩) (fun _ h9 => by cases h9) dX9_three_28

set_option maxHeartbeats 4000000 in
set_option maxRecDepth 100000 in
theorem c_X9_six (l : Launch) (x y z u v w : Int) (hx0 : R32 x) (hy0 : R32 y) (hz0 : R32 z) (hu0 : R32 u) (hv0 : R32 v) (hw0 : R32 w) : Met l yX9_six wsX9_six ({ frames := 1, cells := 0, slots := 0, locals := 22 }) (va_Pc [.int (zI (x)), .int (zI (y)), .int (zI (z)), .int (zI (u)), .int (zI (v)), .int (zI (w))] (fun _ => True)) (vp_Sl (fun r : Int64 => r = zL (19683 * hsh3 x y z + hsh3 u v w))) 0 0 (fun _ => False) := by
  refine Met.ofW (cc := cX9_six) (maxL := 6) (ret := (some .long)) (by decide) rfl ?_
  intro p e s m args below meth c s₁ B hml hv
  obtain ⟨rfl, -⟩ := hv
  have hx := B.exec
  have hb := B.bytes
  have hr := B.returns
  have hts := atoms_spec (ws := wsX9_six) B.pre
  have hown : s.vm.findClass RX9 = some m.cls := findClass_of_methodNamed B.named
  have hlocks := B.notSynchronized
  have k52 := hts (.constantLong RX9 52 (19683)) (by decide +kernel)
  have hl := lv_entry ([.int (zI (x)), .int (zI (y)), .int (zI (z)), .int (zI (u)), .int (zI (v)), .int (zI (w))]) (n := 6) (Nat.le_of_ble_eq_true rfl)
  rw [lg_entry_eq]
  generalize (lg_sl ([.int (zI (x)), .int (zI (y)), .int (zI (z)), .int (zI (u)), .int (zI (v)), .int (zI (w))]) ++ List.replicate (6 - (lg_sl ([.int (zI (x)), .int (zI (y)), .int (zI (z)), .int (zI (u)), .int (zI (v)), .int (zI (w))])).length) Slot.unset).toArray = ls at hl ⊢
  have hl : lv_has ls 6 [(0, .int (zI (x))), (1, .int (zI (y))), (2, .int (zI (z))), (3, .int (zI (u))), (4, .int (zI (v))), (5, .int (zI (w)))] := hl
  refine lv_ldc2 (v := 19683) hx hb hown k52 dX9_six_0 ?_
  refine z_topl (y := zL (19683)) (by decide) ?_
  refine lv_iload_n hx hb dX9_six_3 rfl (lv_at hl 0 rfl) ?_
  refine lv_iload_n hx hb dX9_six_4 rfl (lv_at hl 1 rfl) ?_
  refine lv_iload_n hx hb dX9_six_5 rfl (lv_at hl 2 rfl) ?_
  refine vp_callSl (va_Run.run (va_runS (As := [.int (zI (x)), .int (zI (y)), .int (zI (z))]) (rest := [.long (zL (19683))]) ⟨hx, hb, hml, hown, hts⟩ (c_X9_three l (x) (y) (z) (hx0) (hy0) (hz0)) (va_cwS 3 hts gX9_six_X9_three rfl rfl rfl (by decide +kernel) ⟨Nat.le_of_ble_eq_true rfl, Nat.le_of_ble_eq_true rfl⟩) g_preS0 rfl rfl hl.1 rfl (lv_room (Nat.le_of_ble_eq_true rfl)) dX9_six_6 ⟨Nat.le_of_ble_eq_true rfl, Nat.le_of_ble_eq_true rfl⟩)) (fun r hr9 => ?_)
  subst hr9
  refine z_lmul hx hb dX9_six_9 ?_
  refine lv_iload_n hx hb dX9_six_10 rfl (lv_at hl 3 rfl) ?_
  refine lv_iload hx hb dX9_six_11 (lv_at hl 4 rfl) ?_
  refine lv_iload hx hb dX9_six_13 (lv_at hl 5 rfl) ?_
  refine vp_callSl (va_Run.run (va_runS (As := [.int (zI (u)), .int (zI (v)), .int (zI (w))]) (rest := [.long (zL (19683 * (hsh3 x y z)))]) ⟨hx, hb, hml, hown, hts⟩ (c_X9_three l (u) (v) (w) (hu0) (hv0) (hw0)) (va_cwS 3 hts gX9_six_X9_three rfl rfl rfl (by decide +kernel) ⟨Nat.le_of_ble_eq_true rfl, Nat.le_of_ble_eq_true rfl⟩) g_preS0 rfl rfl hl.1 rfl (lv_room (Nat.le_of_ble_eq_true rfl)) dX9_six_15 ⟨Nat.le_of_ble_eq_true rfl, Nat.le_of_ble_eq_true rfl⟩)) (fun r hr9 => ?_)
  subst hr9
  refine z_ladd hx hb dX9_six_18 ?_
  exact W.lret hx hb hr (fun tX htX hWX => ⟨_, rfl, rfl, htX⟩) (fun _ h9 => by cases h9) dX9_six_19

set_option maxHeartbeats 4000000 in
set_option maxRecDepth 100000 in
theorem c_X9_isWord (l : Launch) (g : GG) (a : Nat → Nat) (sc : Nat → Int32) (wd : Int64) (tp N rd sn : Nat → Int32) (so : Nat) (Wv hh : Int) (h5 : sc 5 = zI so) (hso : so ≤ 4) (hwd : so = 2 → wd = zL Wv) (hWv : -10000000000000 ≤ Wv ∧ Wv ≤ 10000000000000) (hhh : -10000000000000 ≤ hh ∧ hh ≤ 10000000000000) : Met l yX9_isWord wsX9_isWord ({ frames := 0, cells := 0, slots := 0, locals := 0 }) (gPc g [.ref ((a 0)), .long (zL (hh))] (gP g (mW g a sc wd tp N rd sn))) (vp_Si (fun r : Int32 => r = zI (bz (so = 2 ∧ Wv = hh)))) 0 0 (fun _ => False) := by
  refine Met.ofW (cc := cX9_isWord) (maxL := 3) (ret := (some .boolean)) (by decide) rfl ?_
  intro p e s m args below meth c s₁ B hml hv
  obtain ⟨rfl, hPre, hK⟩ := hv
  have hx := B.exec
  have hb := B.bytes
  have hr := B.returns
  have hts := atoms_spec (ws := wsX9_isWord) B.pre
  have hown : s.vm.findClass RX9 = some m.cls := findClass_of_methodNamed B.named
  have hlocks := B.notSynchronized
  have hinX9 : ∀ w ∈ wsX90, w ∈ wsX9_isWord := by decide +kernel
  have k27 := hts (.fieldLink RX9 27 "HoursBankModel" "sort" "I") (by decide +kernel)
  have k37 := hts (.fieldLink RX9 37 "HoursBankModel" "word" "J") (by decide +kernel)
  have hl := lv_entry ([.ref ((a 0)), .long (zL (hh))]) (n := 3) (Nat.le_of_ble_eq_true rfl)
  rw [lg_entry_eq]
  generalize (lg_sl ([.ref ((a 0)), .long (zL (hh))]) ++ List.replicate (3 - (lg_sl ([.ref ((a 0)), .long (zL (hh))])).length) Slot.unset).toArray = ls at hl ⊢
  have hl : lv_has ls 3 [(0, .ref ((a 0))), (1, .long (zL (hh)))] := hl
  have hP : gP g (mW g a sc wd tp N rd sn) s.heap := hPre
  refine lv_aload_n hx hb dX9_isWord_0 rfl (lv_at hl 0 rfl) ?_
  refine va_get (D := g.1) (ci := 9) (v := .int (sc 5)) (C := RX9) (T := TX9) (N := 15) hx hb hts hinX9 hown hK hP 0 rfl rfl 6 (by decide) k27 (fun _ h9 => h9) rfl dX9_isWord_1 ?_
  refine z_top (y := zI (so)) (h5) ?_
  refine lv_iconst (v := zI (2)) hx hb dX9_isWord_4 (by decide) ?_
  refine z_icmp_ne (tgt := 21) hx hb dX9_isWord_5 (by decide) (by omega) (by omega) (fun h5 => ?_) (fun h5 => ?_)
  · refine lv_iconst (v := zI (0)) hx hb dX9_isWord_21 (by decide) ?_
    exact W.zret hx hb hr (by decide) (fun tX htX hWX => ⟨_, rfl, bz_0 (by omega), htX⟩) (fun _ h9 => by cases h9) dX9_isWord_22
  · refine lv_aload_n hx hb dX9_isWord_8 rfl (lv_at hl 0 rfl) ?_
    refine va_get (D := g.1) (ci := 9) (v := .long (wd)) (C := RX9) (T := TX9) (N := 15) hx hb hts hinX9 hown hK hP 0 rfl rfl 10 (by decide) k37 (fun _ h9 => h9) rfl dX9_isWord_9 ?_
    refine z_topl (y := zL (Wv)) (hwd (by omega)) ?_
    refine lv_lload_n hx hb dX9_isWord_12 rfl (lv_at hl 1 rfl) ?_
    refine W.lcmp hx hb dX9_isWord_13 ?_
    refine z_lcmp_ne (tgt := 21) hx hb dX9_isWord_14 (by decide) (by omega) (by omega) (fun h14 => ?_) (fun h14 => ?_)
    · refine lv_iconst (v := zI (0)) hx hb dX9_isWord_21 (by decide) ?_
      exact W.zret hx hb hr (by decide) (fun tX htX hWX => ⟨_, rfl, bz_0 (by omega), htX⟩) (fun _ h9 => by cases h9) dX9_isWord_22
    · refine lv_iconst (v := zI (1)) hx hb dX9_isWord_17 (by decide) ?_
      refine lv_goto (tgt := 22) hx hb dX9_isWord_18 (by decide) ?_
      exact W.zret hx hb hr (by decide) (fun tX htX hWX => ⟨_, rfl, bz_1 (by omega), htX⟩) (fun _ h9 => by cases h9) dX9_isWord_22

set_option maxHeartbeats 4000000 in
set_option maxRecDepth 100000 in
theorem c_X9_bad (l : Launch) (g : GG) (a : Nat → Nat) (ha : aD a) (sc : Nat → Int32) (wd : Int64) (tp N rd sn : Nat → Int32) (so fr k : Nat) (h5 : sc 5 = zI so) (h4 : sc 4 = zI fr) (hso : so ≤ 4) : Met l yX9_bad wsX9_bad ({ frames := 0, cells := 0, slots := 0, locals := 0 }) (gPc g [.ref ((a 0)), .int (zI (k))] (gP g (mW g a sc wd tp N rd sn))) (va_Qi (fun (r : Int32) (_ : Unit) => r = zI (0)) (fun (_ : Unit) (tS : State) => gP g (mW g a (upd (upd sc 7 (zI ((if so = 1 then 1 else k : Nat)))) 8 (zI (fr))) wd tp N rd sn) tS.heap) (mA a)) 0 0 (mA a) := by
  refine Met.ofW (cc := cX9_bad) (maxL := 2) (ret := (some .boolean)) (by decide) rfl ?_
  intro p e s m args below meth c s₁ B hml hv
  obtain ⟨rfl, hP, hK⟩ := hv
  have hx := B.exec
  have hb := B.bytes
  have hr := B.returns
  have hts := atoms_spec (ws := wsX9_bad) B.pre
  have hown : s.vm.findClass RX9 = some m.cls := findClass_of_methodNamed B.named
  have hlocks := B.notSynchronized
  have hinX9 : ∀ w ∈ wsX90, w ∈ wsX9_bad := by decide +kernel
  have k27 := hts (.fieldLink RX9 27 "HoursBankModel" "sort" "I") (by decide +kernel)
  have k58 := hts (.fieldLink RX9 58 "HoursBankModel" "fault" "I") (by decide +kernel)
  have k24 := hts (.fieldLink RX9 24 "HoursBankModel" "from" "I") (by decide +kernel)
  have k61 := hts (.fieldLink RX9 61 "HoursBankModel" "place" "I") (by decide +kernel)
  have hl := lv_entry ([.ref ((a 0)), .int (zI (k))]) (n := 2) (Nat.le_of_ble_eq_true rfl)
  rw [lg_entry_eq]
  generalize (lg_sl ([.ref ((a 0)), .int (zI (k))]) ++ List.replicate (2 - (lg_sl ([.ref ((a 0)), .int (zI (k))])).length) Slot.unset).toArray = ls at hl ⊢
  have hl : lv_has ls 2 [(0, .ref ((a 0))), (1, .int (zI (k)))] := hl
  have hS : va_S (mA a) s.heap s.heap [] := va_S.rf
  obtain ⟨H, hH9⟩ : ∃ H, H = s.heap := ⟨_, rfl⟩
  obtain ⟨locs, hL9⟩ : ∃ x : List Loc, x = [] := ⟨_, rfl⟩
  have hP : gP g (mW g a sc wd tp N rd sn) H := hH9 ▸ hP
  have hS : va_S (mA a) s.heap H locs := by rw [hH9, hL9]; exact hS
  refine z_start hH9 hL9 ?_
  clear hH9 hL9
  refine lv_aload_n hx hb dX9_bad_0 rfl (lv_at hl 0 rfl) ?_
  refine lv_aload_n hx hb dX9_bad_1 rfl (lv_at hl 0 rfl) ?_
  refine va_get (D := g.1) (ci := 9) (v := .int (sc 5)) (C := RX9) (T := TX9) (N := 15) hx hb hts hinX9 hown hK hP 0 rfl rfl 6 (by decide) k27 (fun _ h9 => h9) rfl dX9_bad_2 ?_
  refine z_top (y := zI (so)) (h5) ?_
  refine lv_iconst (v := zI (1)) hx hb dX9_bad_5 (by decide) ?_
  refine z_icmp_ne (tgt := 13) hx hb dX9_bad_6 (by decide) (by omega) (by omega) (fun h6 => ?_) (fun h6 => ?_)
  · refine lv_iload_n hx hb dX9_bad_13 rfl (lv_at hl 1 rfl) ?_
    refine va_put (D := g.1) (ci := 9) (v := .int (zI (k))) (ty := .int) (C := RX9) (T := TX9) (N := 15) hx hb hts hinX9 tyX9 tyX9_ok nmX9 hown hK hP (mD ha) hS 0 rfl rfl 8 (by decide) k58 (fun _ h9 => h9) rfl (by decide +kernel) rfl rfl (Nat.le_of_ble_eq_true rfl) dX9_bad_14 (fun H locs hP _ hS => ?_)
    have hP : gP g (mW g a (upd sc 7 (zI (k))) wd tp N rd sn) H := hP
    refine lv_aload_n hx hb dX9_bad_17 rfl (lv_at hl 0 rfl) ?_
    refine lv_aload_n hx hb dX9_bad_18 rfl (lv_at hl 0 rfl) ?_
    refine va_get (D := g.1) (ci := 9) (v := .int (sc 4)) (C := RX9) (T := TX9) (N := 15) hx hb hts hinX9 hown hK hP 0 rfl rfl 5 (by decide) k24 (fun _ h9 => h9) rfl dX9_bad_19 ?_
    refine z_top (y := zI (fr)) (h4) ?_
    refine va_put (D := g.1) (ci := 9) (v := .int (zI (fr))) (ty := .int) (C := RX9) (T := TX9) (N := 15) hx hb hts hinX9 tyX9 tyX9_ok nmX9 hown hK hP (mD ha) hS 0 rfl rfl 9 (by decide) k61 (fun _ h9 => h9) rfl (by decide +kernel) rfl rfl (Nat.le_of_ble_eq_true rfl) dX9_bad_22 (fun H locs hP _ hS => ?_)
    have hP : gP g (mW g a (upd (upd sc 7 (zI (k))) 8 (zI (fr))) wd tp N rd sn) H := hP
    refine lv_iconst (v := zI (0)) hx hb dX9_bad_25 (by decide) ?_
    exact W.zret hx hb hr (by decide) (fun tX htX hWX => ⟨⟨_, (), rfl, rfl, g_at htX ((by first | (rw [if_pos (by omega)]; exact hP) | (rw [if_neg (by omega)]; exact hP)))⟩, hS.F htX⟩) hS.2.2 dX9_bad_26
  · refine lv_iconst (v := zI (1)) hx hb dX9_bad_9 (by decide) ?_
    refine lv_goto (tgt := 14) hx hb dX9_bad_10 (by decide) ?_
    refine va_put (D := g.1) (ci := 9) (v := .int (zI (1))) (ty := .int) (C := RX9) (T := TX9) (N := 15) hx hb hts hinX9 tyX9 tyX9_ok nmX9 hown hK hP (mD ha) hS 0 rfl rfl 8 (by decide) k58 (fun _ h9 => h9) rfl (by decide +kernel) rfl rfl (Nat.le_of_ble_eq_true rfl) dX9_bad_14 (fun H locs hP _ hS => ?_)
    have hP : gP g (mW g a (upd sc 7 (zI (1))) wd tp N rd sn) H := hP
    refine lv_aload_n hx hb dX9_bad_17 rfl (lv_at hl 0 rfl) ?_
    refine lv_aload_n hx hb dX9_bad_18 rfl (lv_at hl 0 rfl) ?_
    refine va_get (D := g.1) (ci := 9) (v := .int (sc 4)) (C := RX9) (T := TX9) (N := 15) hx hb hts hinX9 hown hK hP 0 rfl rfl 5 (by decide) k24 (fun _ h9 => h9) rfl dX9_bad_19 ?_
    refine z_top (y := zI (fr)) (h4) ?_
    refine va_put (D := g.1) (ci := 9) (v := .int (zI (fr))) (ty := .int) (C := RX9) (T := TX9) (N := 15) hx hb hts hinX9 tyX9 tyX9_ok nmX9 hown hK hP (mD ha) hS 0 rfl rfl 9 (by decide) k61 (fun _ h9 => h9) rfl (by decide +kernel) rfl rfl (Nat.le_of_ble_eq_true rfl) dX9_bad_22 (fun H locs hP _ hS => ?_)
    have hP : gP g (mW g a (upd (upd sc 7 (zI (1))) 8 (zI (fr))) wd tp N rd sn) H := hP
    refine lv_iconst (v := zI (0)) hx hb dX9_bad_25 (by decide) ?_
    exact W.zret hx hb hr (by decide) (fun tX htX hWX => ⟨⟨_, (), rfl, rfl, g_at htX ((by first | (rw [if_pos (by omega)]; exact hP) | (rw [if_neg (by omega)]; exact hP)))⟩, hS.F htX⟩) hS.2.2 dX9_bad_26

set_option maxHeartbeats 4000000 in
set_option maxRecDepth 100000 in
theorem c_X9_told (l : Launch) (g : GG) (a : Nat → Nat) (ha : aD a) (sc : Nat → Int32) (wd : Int64) (tp N rd sn : Nat → Int32) (n ps : Nat) (hn : n ≤ 740) (hp : ps ≤ n) (hz : sc 2 = zI n) (hT : okT tp) (hc : cur (mn tp) n ps sc wd) (at0 lo hi : Nat) (hat : at0 < 1567) (hlo : lo ≤ 10000) (hhi : hi ≤ 10000) : Met l yX9_told wsX9_told ({ frames := 2, cells := 0, slots := 0, locals := 45 }) (gPc g [.ref ((a 0)), .int (zI (at0)), .int (zI (lo)), .int (zI (hi))] (gP g (mW g a sc wd tp N rd sn))) (va_Qi (fun (r : Int32) (u : (Nat → Int32) × Int64 × (Nat → Int32)) => prQ (mn tp) n (tel (mn tp) n at0 lo hi ps rd) r sc u.1 u.2.1 u.2.2) (fun u (tS : State) => gP g (mW g a u.1 u.2.1 tp N u.2.2 sn) tS.heap) (mA a)) 0 0 (mA a) := by
  refine Met.ofW (cc := cX9_told) (maxL := 4) (ret := (some .boolean)) (by decide) rfl ?_
  intro p e s m args below meth c s₁ B hml hv
  obtain ⟨rfl, hP, hK⟩ := hv
  have hx := B.exec
  have hb := B.bytes
  have hr := B.returns
  have hts := atoms_spec (ws := wsX9_told) B.pre
  have hown : s.vm.findClass RX9 = some m.cls := findClass_of_methodNamed B.named
  have hlocks := B.notSynchronized
  have hinX9 : ∀ w ∈ wsX90, w ∈ wsX9_told := by decide +kernel
  have k27 := hts (.fieldLink RX9 27 "HoursBankModel" "sort" "I") (by decide +kernel)
  have k41 := hts (.fieldLink RX9 41 "HoursBankModel" "number" "I") (by decide +kernel)
  have k73 := hts (.fieldLink RX9 73 "HoursBankModel" "read" "[I") (by decide +kernel)
  have hl := lv_entry ([.ref ((a 0)), .int (zI (at0)), .int (zI (lo)), .int (zI (hi))]) (n := 4) (Nat.le_of_ble_eq_true rfl)
  rw [lg_entry_eq]
  generalize (lg_sl ([.ref ((a 0)), .int (zI (at0)), .int (zI (lo)), .int (zI (hi))]) ++ List.replicate (4 - (lg_sl ([.ref ((a 0)), .int (zI (at0)), .int (zI (lo)), .int (zI (hi))])).length) Slot.unset).toArray = ls at hl ⊢
  have hl : lv_has ls 4 [(0, .ref ((a 0))), (1, .int (zI (at0))), (2, .int (zI (lo))), (3, .int (zI (hi)))] := hl
  have hS : va_S (mA a) s.heap s.heap [] := va_S.rf
  obtain ⟨H, hH9⟩ : ∃ H, H = s.heap := ⟨_, rfl⟩
  obtain ⟨locs, hL9⟩ : ∃ x : List Loc, x = [] := ⟨_, rfl⟩
  have hP : gP g (mW g a sc wd tp N rd sn) H := hH9 ▸ hP
  have hS : va_S (mA a) s.heap H locs := by rw [hH9, hL9]; exact hS
  refine z_start hH9 hL9 ?_
  clear hH9 hL9
  have hs4 := gso_le (mn tp) n ps
  refine lv_aload_n hx hb dX9_told_0 rfl (lv_at hl 0 rfl) ?_
  refine va_get (D := g.1) (ci := 9) (v := .int (sc 5)) (C := RX9) (T := TX9) (N := 15) hx hb hts hinX9 hown hK hP 0 rfl rfl 6 (by decide) k27 (fun _ h9 => h9) rfl dX9_told_1 ?_
  refine z_top (y := zI (gSo (mn tp) n ps)) (hc.2.2.1) ?_
  refine lv_iconst (v := zI (3)) hx hb dX9_told_4 (by decide) ?_
  refine z_icmp_eq (tgt := 14) hx hb dX9_told_5 (by decide) (by omega) (by omega) (fun h5 => ?_) (fun h5 => ?_)
  · have h3 : gSo (mn tp) n ps = 3 := by omega
    have hv9 := gV_le hp h3
    refine lv_aload_n hx hb dX9_told_14 rfl (lv_at hl 0 rfl) ?_
    refine va_get (D := g.1) (ci := 9) (v := .int (sc 6)) (C := RX9) (T := TX9) (N := 15) hx hb hts hinX9 hown hK hP 0 rfl rfl 7 (by decide) k41 (fun _ h9 => h9) rfl dX9_told_15 ?_
    refine z_top (y := zI (gV (mn tp) n ps)) (hc.2.2.2.1 h3) ?_
    refine lv_iload_n hx hb dX9_told_18 rfl (lv_at hl 2 rfl) ?_
    refine lv_iload_n hx hb dX9_told_19 rfl (lv_at hl 3 rfl) ?_
    refine vp_callSi (va_Run.run (va_runS (As := [.int (zI (gV (mn tp) n ps)), .int (zI (lo)), .int (zI (hi))]) (rest := []) ⟨hx, hb, hml, hown, hts⟩ (c_X9_isIn l ((gV (mn tp) n ps : Int)) ((lo : Int)) ((hi : Int)) (by omega) (by omega) (by omega)) (va_cwS 3 hts gX9_told_X9_isIn rfl rfl rfl (by decide +kernel) ⟨Nat.le_of_ble_eq_true rfl, Nat.le_of_ble_eq_true rfl⟩) g_preS0 rfl rfl hl.1 rfl (lv_room (Nat.le_of_ble_eq_true rfl)) dX9_told_20 ⟨Nat.le_of_ble_eq_true rfl, Nat.le_of_ble_eq_true rfl⟩)) (fun r hr9 => ?_)
    subst hr9
    refine z_bz_ne (tgt := 32) hx hb dX9_told_23 (by decide) (fun h23 => ?_) (fun h23 => ?_)
    · refine lv_aload_n hx hb dX9_told_32 rfl (lv_at hl 0 rfl) ?_
      refine va_get (D := g.1) (ci := 9) (v := .ref ((a 3))) (C := RX9) (T := TX9) (N := 15) hx hb hts hinX9 hown hK hP 0 rfl rfl 12 (by decide) k73 (fun _ h9 => h9) rfl dX9_told_33 ?_
      refine lv_iload_n hx hb dX9_told_36 rfl (lv_at hl 1 rfl) ?_
      refine lv_aload_n hx hb dX9_told_37 rfl (lv_at hl 0 rfl) ?_
      refine va_get (D := g.1) (ci := 9) (v := .int (sc 6)) (C := RX9) (T := TX9) (N := 15) hx hb hts hinX9 hown hK hP 0 rfl rfl 7 (by decide) k41 (fun _ h9 => h9) rfl dX9_told_38 ?_
      refine z_top (y := zI (gV (mn tp) n ps)) (hc.2.2.2.1 h3) ?_
      refine z_iast hx hb hK hP (mD ha) hS 3 0 rfl rfl (by decide) (at0) (by omega) (by omega) dX9_told_41 (fun H locs hP _ hS => ?_)
      have hP : gP g (mW g a sc wd tp N (upd rd at0 (zI (gV (mn tp) n ps))) sn) H := hP
      refine lv_aload_n hx hb dX9_told_42 rfl (lv_at hl 0 rfl) ?_
      refine va_callv (va_runV (As := []) (rest := []) ⟨hx, hb, hml, hown, hts⟩ (c_X9_go l g (a) (ha) (sc) (wd) (tp) (N) ((upd rd at0 (zI (gV (mn tp) n ps)))) (sn) (n) ((gTo (mn tp) n ps)) (hn) ((gto_le hp).1) (hz) (hc.1) (hT)) (cwV 0 hts gX9_told_X9_go rfl rfl rfl (by decide +kernel) ⟨Nat.le_of_ble_eq_true rfl, Nat.le_of_ble_eq_true rfl⟩) (g_preV hP hK (va_recv hK hP (q0 := 0) (ci := 9) rfl rfl)) rfl rfl hl.1 rfl (lv_room (Nat.le_of_ble_eq_true rfl)) dX9_told_43 ⟨Nat.le_of_ble_eq_true rfl, Nat.le_of_ble_eq_true rfl⟩) hS (fun q _ h => h) (fun q h => h) (fun u9 t9 H1 locs ht9 hvm9 hw9 hB9 hz9 hk9 hS => ?_)
      rw [ht9] at hB9
      have hP := hB9
      clear hB9 hz9 hk9 hvm9 ht9
      generalize H1 = H at hP hS ⊢
      have hP : gP g (mW g a (upd (upd (upd (upd sc 3 (zI ((gTo (mn tp) n (gTo (mn tp) n ps) : Nat)))) 4 (zI ((gFr (mn tp) n (gTo (mn tp) n ps) : Nat)))) 5 (zI ((gSo (mn tp) n (gTo (mn tp) n ps) : Nat)))) 6 (gNu (mn tp) n (gTo (mn tp) n ps) (sc 6))) (gWo (mn tp) n (gTo (mn tp) n ps) wd) tp N (upd rd at0 (zI (gV (mn tp) n ps))) sn) H := hP
      refine lv_iconst (v := zI (1)) hx hb dX9_told_46 (by decide) ?_
      exact W.zret hx hb hr (by decide) (fun tX htX hWX => ⟨⟨_, ((upd (upd (upd (upd sc 3 (zI ((gTo (mn tp) n (gTo (mn tp) n ps) : Nat)))) 4 (zI ((gFr (mn tp) n (gTo (mn tp) n ps) : Nat)))) 5 (zI ((gSo (mn tp) n (gTo (mn tp) n ps) : Nat)))) 6 (gNu (mn tp) n (gTo (mn tp) n ps) (sc 6))), (gWo (mn tp) n (gTo (mn tp) n ps) wd), (upd rd at0 (zI (gV (mn tp) n ps)))), rfl, prQ_r (tel_3 h3 (by omega)) rfl (cur_go (gto_le hp).1 _ _ _) (gto_le hp).1 rfl ⟨rfl, rfl, rfl, rfl⟩ rfl, g_at htX (hP)⟩, hS.F htX⟩) hS.2.2 dX9_told_47
    · refine lv_aload_n hx hb dX9_told_26 rfl (lv_at hl 0 rfl) ?_
      refine lv_iconst (v := zI (2)) hx hb dX9_told_27 (by decide) ?_
      refine va_calli (va_runV (As := [.int (zI (2))]) (rest := []) ⟨hx, hb, hml, hown, hts⟩ (c_X9_bad l g (a) (ha) (sc) (wd) (tp) (N) (rd) (sn) ((gSo (mn tp) n ps)) ((gFr (mn tp) n ps)) (2) (hc.2.2.1) (hc.2.1) (gso_le _ _ _)) (cwV 1 hts gX9_told_X9_bad rfl rfl rfl (by decide +kernel) ⟨Nat.le_of_ble_eq_true rfl, Nat.le_of_ble_eq_true rfl⟩) (g_preV hP hK (va_recv hK hP (q0 := 0) (ci := 9) rfl rfl)) rfl rfl hl.1 rfl (lv_room (Nat.le_of_ble_eq_true rfl)) dX9_told_28 ⟨Nat.le_of_ble_eq_true rfl, Nat.le_of_ble_eq_true rfl⟩) hS (fun q _ h => h) (fun q h => h) (fun r u9 t9 H1 locs ht9 hvm9 hw9 hB9 hz9 hk9 hS => ?_)
      rw [ht9] at hB9
      have hP := hB9
      clear hB9 hz9 hk9 hvm9 ht9
      generalize H1 = H at hP hS ⊢
      have hP : gP g (mW g a (upd (upd sc 7 (zI ((if (gSo (mn tp) n ps) = 1 then 1 else 2 : Nat)))) 8 (zI ((gFr (mn tp) n ps)))) wd tp N rd sn) H := hP
      try dsimp only at hw9
      subst hw9
      exact W.zret hx hb hr (by decide) (fun tX htX hWX => ⟨⟨_, ((upd (upd sc 7 (zI ((if (gSo (mn tp) n ps) = 1 then 1 else 2 : Nat)))) 8 (zI ((gFr (mn tp) n ps)))), wd, rd), rfl, prQ_l (tel_2 h3 (by omega)) rfl (zN_cg (by rw [if_neg (by omega)])) rfl ⟨rfl, rfl, rfl, rfl⟩, g_at htX (hP)⟩, hS.F htX⟩) hS.2.2 dX9_told_31
  · refine lv_aload_n hx hb dX9_told_8 rfl (lv_at hl 0 rfl) ?_
    refine lv_iconst (v := zI (1)) hx hb dX9_told_9 (by decide) ?_
    refine va_calli (va_runV (As := [.int (zI (1))]) (rest := []) ⟨hx, hb, hml, hown, hts⟩ (c_X9_bad l g (a) (ha) (sc) (wd) (tp) (N) (rd) (sn) ((gSo (mn tp) n ps)) ((gFr (mn tp) n ps)) (1) (hc.2.2.1) (hc.2.1) (gso_le _ _ _)) (cwV 1 hts gX9_told_X9_bad rfl rfl rfl (by decide +kernel) ⟨Nat.le_of_ble_eq_true rfl, Nat.le_of_ble_eq_true rfl⟩) (g_preV hP hK (va_recv hK hP (q0 := 0) (ci := 9) rfl rfl)) rfl rfl hl.1 rfl (lv_room (Nat.le_of_ble_eq_true rfl)) dX9_told_10 ⟨Nat.le_of_ble_eq_true rfl, Nat.le_of_ble_eq_true rfl⟩) hS (fun q _ h => h) (fun q h => h) (fun r u9 t9 H1 locs ht9 hvm9 hw9 hB9 hz9 hk9 hS => ?_)
    rw [ht9] at hB9
    have hP := hB9
    clear hB9 hz9 hk9 hvm9 ht9
    generalize H1 = H at hP hS ⊢
    have hP : gP g (mW g a (upd (upd sc 7 (zI ((if (gSo (mn tp) n ps) = 1 then 1 else 1 : Nat)))) 8 (zI ((gFr (mn tp) n ps)))) wd tp N rd sn) H := hP
    try dsimp only at hw9
    subst hw9
    exact W.zret hx hb hr (by decide) (fun tX htX hWX => ⟨⟨_, ((upd (upd sc 7 (zI ((if (gSo (mn tp) n ps) = 1 then 1 else 1 : Nat)))) 8 (zI ((gFr (mn tp) n ps)))), wd, rd), rfl, prQ_l (tel_1 (by omega)) rfl (zN_cg (by split <;> rfl)) rfl ⟨rfl, rfl, rfl, rfl⟩, g_at htX (hP)⟩, hS.F htX⟩) hS.2.2 dX9_told_13

set_option maxHeartbeats 4000000 in
set_option maxRecDepth 100000 in
theorem c_X9_readEnd (l : Launch) (g : GG) (a : Nat → Nat) (ha : aD a) (sc : Nat → Int32) (wd : Int64) (tp N rd sn : Nat → Int32) (n ps : Nat) (hn : n ≤ 740) (hp : ps ≤ n) (hz : sc 2 = zI n) (hT : okT tp) (hc : cur (mn tp) n ps sc wd)  : Met l yX9_readEnd wsX9_readEnd ({ frames := 2, cells := 0, slots := 0, locals := 45 }) (gPc g [.ref ((a 0))] (gP g (mW g a sc wd tp N rd sn))) (va_Qi (fun (r : Int32) (u : (Nat → Int32) × Int64 × (Nat → Int32)) => prQ (mn tp) n (endP (mn tp) n ps rd) r sc u.1 u.2.1 u.2.2) (fun u (tS : State) => gP g (mW g a u.1 u.2.1 tp N u.2.2 sn) tS.heap) (mA a)) 0 0 (mA a) := by
  refine Met.ofW (cc := cX9_readEnd) (maxL := 1) (ret := (some .boolean)) (by decide) rfl ?_
  intro p e s m args below meth c s₁ B hml hv
  obtain ⟨rfl, hP, hK⟩ := hv
  have hx := B.exec
  have hb := B.bytes
  have hr := B.returns
  have hts := atoms_spec (ws := wsX9_readEnd) B.pre
  have hown : s.vm.findClass RX9 = some m.cls := findClass_of_methodNamed B.named
  have hlocks := B.notSynchronized
  have hinX9 : ∀ w ∈ wsX90, w ∈ wsX9_readEnd := by decide +kernel
  have k27 := hts (.fieldLink RX9 27 "HoursBankModel" "sort" "I") (by decide +kernel)
  have hl := lv_entry ([.ref ((a 0))]) (n := 1) (Nat.le_of_ble_eq_true rfl)
  rw [lg_entry_eq]
  generalize (lg_sl ([.ref ((a 0))]) ++ List.replicate (1 - (lg_sl ([.ref ((a 0))])).length) Slot.unset).toArray = ls at hl ⊢
  have hl : lv_has ls 1 [(0, .ref ((a 0)))] := hl
  have hS : va_S (mA a) s.heap s.heap [] := va_S.rf
  obtain ⟨H, hH9⟩ : ∃ H, H = s.heap := ⟨_, rfl⟩
  obtain ⟨locs, hL9⟩ : ∃ x : List Loc, x = [] := ⟨_, rfl⟩
  have hP : gP g (mW g a sc wd tp N rd sn) H := hH9 ▸ hP
  have hS : va_S (mA a) s.heap H locs := by rw [hH9, hL9]; exact hS
  refine z_start hH9 hL9 ?_
  clear hH9 hL9
  have hs4 := gso_le (mn tp) n ps
  refine lv_aload_n hx hb dX9_readEnd_0 rfl (lv_at hl 0 rfl) ?_
  refine va_get (D := g.1) (ci := 9) (v := .int (sc 5)) (C := RX9) (T := TX9) (N := 15) hx hb hts hinX9 hown hK hP 0 rfl rfl 6 (by decide) k27 (fun _ h9 => h9) rfl dX9_readEnd_1 ?_
  refine z_top (y := zI (gSo (mn tp) n ps)) (hc.2.2.1) ?_
  refine lv_iconst (v := zI (4)) hx hb dX9_readEnd_4 (by decide) ?_
  refine z_icmp_eq (tgt := 14) hx hb dX9_readEnd_5 (by decide) (by omega) (by omega) (fun h5 => ?_) (fun h5 => ?_)
  · refine lv_aload_n hx hb dX9_readEnd_14 rfl (lv_at hl 0 rfl) ?_
    refine va_callv (va_runV (As := []) (rest := []) ⟨hx, hb, hml, hown, hts⟩ (c_X9_go l g (a) (ha) (sc) (wd) (tp) (N) (rd) (sn) (n) ((gTo (mn tp) n ps)) (hn) ((gto_le hp).1) (hz) (hc.1) (hT)) (cwV 0 hts gX9_readEnd_X9_go rfl rfl rfl (by decide +kernel) ⟨Nat.le_of_ble_eq_true rfl, Nat.le_of_ble_eq_true rfl⟩) (g_preV hP hK (va_recv hK hP (q0 := 0) (ci := 9) rfl rfl)) rfl rfl hl.1 rfl (lv_room (Nat.le_of_ble_eq_true rfl)) dX9_readEnd_15 ⟨Nat.le_of_ble_eq_true rfl, Nat.le_of_ble_eq_true rfl⟩) hS (fun q _ h => h) (fun q h => h) (fun u9 t9 H1 locs ht9 hvm9 hw9 hB9 hz9 hk9 hS => ?_)
    rw [ht9] at hB9
    have hP := hB9
    clear hB9 hz9 hk9 hvm9 ht9
    generalize H1 = H at hP hS ⊢
    have hP : gP g (mW g a (upd (upd (upd (upd sc 3 (zI ((gTo (mn tp) n (gTo (mn tp) n ps) : Nat)))) 4 (zI ((gFr (mn tp) n (gTo (mn tp) n ps) : Nat)))) 5 (zI ((gSo (mn tp) n (gTo (mn tp) n ps) : Nat)))) 6 (gNu (mn tp) n (gTo (mn tp) n ps) (sc 6))) (gWo (mn tp) n (gTo (mn tp) n ps) wd) tp N rd sn) H := hP
    refine lv_iconst (v := zI (1)) hx hb dX9_readEnd_18 (by decide) ?_
    exact W.zret hx hb hr (by decide) (fun tX htX hWX => ⟨⟨_, ((upd (upd (upd (upd sc 3 (zI ((gTo (mn tp) n (gTo (mn tp) n ps) : Nat)))) 4 (zI ((gFr (mn tp) n (gTo (mn tp) n ps) : Nat)))) 5 (zI ((gSo (mn tp) n (gTo (mn tp) n ps) : Nat)))) 6 (gNu (mn tp) n (gTo (mn tp) n ps) (sc 6))), (gWo (mn tp) n (gTo (mn tp) n ps) wd), rd), rfl, prQ_r (show endP (mn tp) n ps rd = .inr (gTo (mn tp) n ps, rd) from if_pos (by omega)) rfl (cur_go (gto_le hp).1 _ _ _) (gto_le hp).1 rfl ⟨rfl, rfl, rfl, rfl⟩ rfl, g_at htX (hP)⟩, hS.F htX⟩) hS.2.2 dX9_readEnd_19
  · refine lv_aload_n hx hb dX9_readEnd_8 rfl (lv_at hl 0 rfl) ?_
    refine lv_iconst (v := zI (1)) hx hb dX9_readEnd_9 (by decide) ?_
    refine va_calli (va_runV (As := [.int (zI (1))]) (rest := []) ⟨hx, hb, hml, hown, hts⟩ (c_X9_bad l g (a) (ha) (sc) (wd) (tp) (N) (rd) (sn) ((gSo (mn tp) n ps)) ((gFr (mn tp) n ps)) (1) (hc.2.2.1) (hc.2.1) (gso_le _ _ _)) (cwV 1 hts gX9_readEnd_X9_bad rfl rfl rfl (by decide +kernel) ⟨Nat.le_of_ble_eq_true rfl, Nat.le_of_ble_eq_true rfl⟩) (g_preV hP hK (va_recv hK hP (q0 := 0) (ci := 9) rfl rfl)) rfl rfl hl.1 rfl (lv_room (Nat.le_of_ble_eq_true rfl)) dX9_readEnd_10 ⟨Nat.le_of_ble_eq_true rfl, Nat.le_of_ble_eq_true rfl⟩) hS (fun q _ h => h) (fun q h => h) (fun r u9 t9 H1 locs ht9 hvm9 hw9 hB9 hz9 hk9 hS => ?_)
    rw [ht9] at hB9
    have hP := hB9
    clear hB9 hz9 hk9 hvm9 ht9
    generalize H1 = H at hP hS ⊢
    have hP : gP g (mW g a (upd (upd sc 7 (zI ((if (gSo (mn tp) n ps) = 1 then 1 else 1 : Nat)))) 8 (zI ((gFr (mn tp) n ps)))) wd tp N rd sn) H := hP
    try dsimp only at hw9
    subst hw9
    exact W.zret hx hb hr (by decide) (fun tX htX hWX => ⟨⟨_, ((upd (upd sc 7 (zI ((if (gSo (mn tp) n ps) = 1 then 1 else 1 : Nat)))) 8 (zI ((gFr (mn tp) n ps)))), wd, rd), rfl, prQ_l (show endP (mn tp) n ps rd = .inl (1, gFr (mn tp) n ps) from if_neg (by omega)) rfl (zN_cg (by split <;> rfl)) rfl ⟨rfl, rfl, rfl, rfl⟩, g_at htX (hP)⟩, hS.F htX⟩) hS.2.2 dX9_readEnd_13
