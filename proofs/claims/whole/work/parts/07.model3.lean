set_option maxHeartbeats 4000000 in
set_option maxRecDepth 100000 in
theorem c_X9_refuse (l : Launch) (g : GG) (a : Nat → Nat) (ha : aD a) (sc : Nat → Int32) (wd : Int64) (tp N rd sn : Nat → Int32)  : Met l yX9_refuse wsX9_refuse ({ frames := 0, cells := 0, slots := 0, locals := 0 }) (gPc g [.ref ((a 0))] (gP g (mW g a sc wd tp N rd sn))) (va_Qi (fun (r : Int32) (_ : Unit) => r = zI (0)) (fun (_ : Unit) (tS : State) => gP g (mW g a (upd sc 0 (zI (1))) wd tp N rd sn) tS.heap) (mA a)) 0 0 (mA a) := by
  refine Met.ofW (cc := cX9_refuse) (maxL := 1) (ret := (some .int)) (by decide) rfl ?_
  intro p e s m args below meth c s₁ B hml hv
  obtain ⟨rfl, hP, hK⟩ := hv
  have hx := B.exec
  have hb := B.bytes
  have hr := B.returns
  have hts := atoms_spec (ws := wsX9_refuse) B.pre
  have hown : s.vm.findClass RX9 = some m.cls := findClass_of_methodNamed B.named
  have hlocks := B.notSynchronized
  have hinX9 : ∀ w ∈ wsX90, w ∈ wsX9_refuse := by decide +kernel
  have k1 := hts (.fieldLink RX9 1 "HoursBankModel" "thrown" "I") (by decide +kernel)
  have hl := lv_entry ([.ref ((a 0))]) (n := 1) (Nat.le_of_ble_eq_true rfl)
  rw [lg_entry_eq]
  generalize (lg_sl ([.ref ((a 0))]) ++ List.replicate (1 - (lg_sl ([.ref ((a 0))])).length) Slot.unset).toArray = ls at hl ⊢
  have hl : lv_has ls 1 [(0, .ref ((a 0)))] := hl
  have hS : va_S (mA a) s.heap s.heap [] := va_S.rf
  obtain ⟨H, hH9⟩ : ∃ H, H = s.heap := ⟨_, rfl⟩
  obtain ⟨locs, hL9⟩ : ∃ x : List Loc, x = [] := ⟨_, rfl⟩
  have hP : gP g (mW g a sc wd tp N rd sn) H := hH9 ▸ hP
  have hS : va_S (mA a) s.heap H locs := by rw [hH9, hL9]; exact hS
  refine z_start hH9 hL9 ?_
  clear hH9 hL9
  refine lv_aload_n hx hb dX9_refuse_0 rfl (lv_at hl 0 rfl) ?_
  refine lv_iconst (v := zI (1)) hx hb dX9_refuse_1 (by decide) ?_
  refine va_put (D := g.1) (ci := 9) (v := .int (zI (1))) (ty := .int) (C := RX9) (T := TX9) (N := 15) hx hb hts hinX9 tyX9 tyX9_ok nmX9 hown hK hP (mD ha) hS 0 rfl rfl 0 (by decide) k1 (fun _ h9 => h9) rfl (by decide +kernel) rfl rfl (Nat.le_of_ble_eq_true rfl) dX9_refuse_2 (fun H locs hP _ hS => ?_)
  have hP : gP g (mW g a (upd sc 0 (zI (1))) wd tp N rd sn) H := hP
  refine lv_iconst (v := zI (0)) hx hb dX9_refuse_5 (by decide) ?_
  exact W.iret hx hb hr (fun tX htX hWX => ⟨⟨_, (), rfl, rfl, g_at htX (hP)⟩, hS.F htX⟩) hS.2.2 dX9_refuse_6

set_option maxHeartbeats 4000000 in
set_option maxRecDepth 100000 in
theorem c_X9_fault (l : Launch) (g : GG) (a : Nat → Nat) (ha : aD a) (sc : Nat → Int32) (wd : Int64) (tp N rd sn : Nat → Int32)  : Met l yX9_fault wsX9_fault ({ frames := 0, cells := 0, slots := 0, locals := 0 }) (gPc g [.ref ((a 0))] (gP g (mW g a sc wd tp N rd sn))) (va_Qi (fun (r : Int32) (_ : Unit) => r = sc 7) (fun (_ : Unit) (tS : State) => gP g (mW g a (upd sc 0 (zI (0))) wd tp N rd sn) tS.heap) (mA a)) 0 0 (mA a) := by
  refine Met.ofW (cc := cX9_fault) (maxL := 1) (ret := (some .int)) (by decide) rfl ?_
  intro p e s m args below meth c s₁ B hml hv
  obtain ⟨rfl, hP, hK⟩ := hv
  have hx := B.exec
  have hb := B.bytes
  have hr := B.returns
  have hts := atoms_spec (ws := wsX9_fault) B.pre
  have hown : s.vm.findClass RX9 = some m.cls := findClass_of_methodNamed B.named
  have hlocks := B.notSynchronized
  have hinX9 : ∀ w ∈ wsX90, w ∈ wsX9_fault := by decide +kernel
  have k1 := hts (.fieldLink RX9 1 "HoursBankModel" "thrown" "I") (by decide +kernel)
  have k58 := hts (.fieldLink RX9 58 "HoursBankModel" "fault" "I") (by decide +kernel)
  have hl := lv_entry ([.ref ((a 0))]) (n := 1) (Nat.le_of_ble_eq_true rfl)
  rw [lg_entry_eq]
  generalize (lg_sl ([.ref ((a 0))]) ++ List.replicate (1 - (lg_sl ([.ref ((a 0))])).length) Slot.unset).toArray = ls at hl ⊢
  have hl : lv_has ls 1 [(0, .ref ((a 0)))] := hl
  have hS : va_S (mA a) s.heap s.heap [] := va_S.rf
  obtain ⟨H, hH9⟩ : ∃ H, H = s.heap := ⟨_, rfl⟩
  obtain ⟨locs, hL9⟩ : ∃ x : List Loc, x = [] := ⟨_, rfl⟩
  have hP : gP g (mW g a sc wd tp N rd sn) H := hH9 ▸ hP
  have hS : va_S (mA a) s.heap H locs := by rw [hH9, hL9]; exact hS
  refine z_start hH9 hL9 ?_
  clear hH9 hL9
  refine lv_aload_n hx hb dX9_fault_0 rfl (lv_at hl 0 rfl) ?_
  refine lv_iconst (v := zI (0)) hx hb dX9_fault_1 (by decide) ?_
  refine va_put (D := g.1) (ci := 9) (v := .int (zI (0))) (ty := .int) (C := RX9) (T := TX9) (N := 15) hx hb hts hinX9 tyX9 tyX9_ok nmX9 hown hK hP (mD ha) hS 0 rfl rfl 0 (by decide) k1 (fun _ h9 => h9) rfl (by decide +kernel) rfl rfl (Nat.le_of_ble_eq_true rfl) dX9_fault_2 (fun H locs hP _ hS => ?_)
  have hP : gP g (mW g a (upd sc 0 (zI (0))) wd tp N rd sn) H := hP
  refine lv_aload_n hx hb dX9_fault_5 rfl (lv_at hl 0 rfl) ?_
  refine va_get (D := g.1) (ci := 9) (v := .int (sc 7)) (C := RX9) (T := TX9) (N := 15) hx hb hts hinX9 hown hK hP 0 rfl rfl 8 (by decide) k58 (fun _ h9 => h9) rfl dX9_fault_6 ?_
  exact W.iret hx hb hr (fun tX htX hWX => ⟨⟨_, (), rfl, rfl, g_at htX (hP)⟩, hS.F htX⟩) hS.2.2 dX9_fault_9

set_option maxHeartbeats 4000000 in
set_option maxRecDepth 100000 in
theorem c_X9_adds (l : Launch) (g : GG) (a : Nat → Nat) (ha : aD a) (sc : Nat → Int32) (wd : Int64) (tp N rd sn : Nat → Int32) (w k : Nat) (x : Int32) (hw : w < 4) (hk : k ≤ 9) : Met l yX9_adds wsX9_adds ({ frames := 0, cells := 0, slots := 0, locals := 0 }) (gPc g [.ref ((a 0)), .int (zI (w)), .int (zI (k)), .int (x)] (gP g (mW g a sc wd tp N rd sn))) (va_Qv (fun (_ : Unit) => True) (fun (_ : Unit) (tS : State) => gP g (mW g a sc wd tp (upd N (58 + 13 * w + k) (N (58 + 13 * w + k) + x)) rd sn) tS.heap) (mA a)) 0 0 (mA a) := by
  refine Met.ofW (cc := cX9_adds) (maxL := 4) (ret := none) (by decide) rfl ?_
  intro p e s m args below meth c s₁ B hml hv
  obtain ⟨rfl, hP, hK⟩ := hv
  have hx := B.exec
  have hb := B.bytes
  have hr := B.returns
  have hts := atoms_spec (ws := wsX9_adds) B.pre
  have hown : s.vm.findClass RX9 = some m.cls := findClass_of_methodNamed B.named
  have hlocks := B.notSynchronized
  have hinX9 : ∀ w ∈ wsX90, w ∈ wsX9_adds := by decide +kernel
  have k70 := hts (.fieldLink RX9 70 "HoursBankModel" "now" "[I") (by decide +kernel)
  have hl := lv_entry ([.ref ((a 0)), .int (zI (w)), .int (zI (k)), .int (x)]) (n := 4) (Nat.le_of_ble_eq_true rfl)
  rw [lg_entry_eq]
  generalize (lg_sl ([.ref ((a 0)), .int (zI (w)), .int (zI (k)), .int (x)]) ++ List.replicate (4 - (lg_sl ([.ref ((a 0)), .int (zI (w)), .int (zI (k)), .int (x)])).length) Slot.unset).toArray = ls at hl ⊢
  have hl : lv_has ls 4 [(0, .ref ((a 0))), (1, .int (zI (w))), (2, .int (zI (k))), (3, .int (x))] := hl
  have hS : va_S (mA a) s.heap s.heap [] := va_S.rf
  obtain ⟨H, hH9⟩ : ∃ H, H = s.heap := ⟨_, rfl⟩
  obtain ⟨locs, hL9⟩ : ∃ x : List Loc, x = [] := ⟨_, rfl⟩
  have hP : gP g (mW g a sc wd tp N rd sn) H := hH9 ▸ hP
  have hS : va_S (mA a) s.heap H locs := by rw [hH9, hL9]; exact hS
  refine z_start hH9 hL9 ?_
  clear hH9 hL9
  refine lv_aload_n hx hb dX9_adds_0 rfl (lv_at hl 0 rfl) ?_
  refine va_get (D := g.1) (ci := 9) (v := .ref ((a 2))) (C := RX9) (T := TX9) (N := 15) hx hb hts hinX9 hown hK hP 0 rfl rfl 11 (by decide) k70 (fun _ h9 => h9) rfl dX9_adds_1 ?_
  refine lv_bipush (v := zI (58)) hx hb dX9_adds_4 (by decide) ?_
  refine lv_bipush (v := zI (13)) hx hb dX9_adds_6 (by decide) ?_
  refine lv_iload_n hx hb dX9_adds_8 rfl (lv_at hl 1 rfl) ?_
  refine z_imul hx hb dX9_adds_9 ?_
  refine z_iadd hx hb dX9_adds_10 ?_
  refine lv_iload_n hx hb dX9_adds_11 rfl (lv_at hl 2 rfl) ?_
  refine z_iadd hx hb dX9_adds_12 ?_
  refine lv_dup2_11 hx hb dX9_adds_13 rfl rfl ?_
  refine z_iald hx hb hK hP 2 0 rfl rfl (by decide) (58 + 13 * w + k) (by omega) (by omega) dX9_adds_14 ?_
  refine lv_iload_n hx hb dX9_adds_15 rfl (lv_at hl 3 rfl) ?_
  refine lv_iadd hx hb dX9_adds_16 ?_
  refine z_iast hx hb hK hP (mD ha) hS 2 0 rfl rfl (by decide) (58 + 13 * w + k) (by omega) (by omega) dX9_adds_17 (fun H locs hP _ hS => ?_)
  have hP : gP g (mW g a sc wd tp (upd N (58 + 13 * w + k) ((N (58 + 13 * w + k)) + x)) rd sn) H := hP
  exact W.vret hx hb hr (fun tX htX hWX => ⟨⟨(), rfl, trivial, g_at htX (hP)⟩, hS.F htX⟩) hS.2.2 dX9_adds_18

set_option maxHeartbeats 4000000 in
set_option maxRecDepth 100000 in
theorem c_X9_putDay (l : Launch) (g : GG) (a : Nat → Nat) (ha : aD a) (sc : Nat → Int32) (wd : Int64) (tp N rd sn : Nat → Int32) (w d : Nat) (x y u z : Int) (hw : w < 4) (hd : d < 364) : Met l yX9_putDay wsX9_putDay ({ frames := 0, cells := 0, slots := 0, locals := 0 }) (gPc g [.ref ((a 0)), .int (zI (w)), .int (zI (d)), .int (zI (x)), .int (zI (y)), .int (zI (u)), .int (zI (z))] (gP g (mW g a sc wd tp N rd sn))) (va_Qv (fun (_ : Unit) => True) (fun (_ : Unit) (tS : State) => gP g (mW g a sc wd tp (upd N (111 + 364 * w + d) (zI (x + 1 + 128 * y + 16384 * u + 65536 * z))) rd sn) tS.heap) (mA a)) 0 0 (mA a) := by
  refine Met.ofW (cc := cX9_putDay) (maxL := 7) (ret := none) (by decide) rfl ?_
  intro p e s m args below meth c s₁ B hml hv
  obtain ⟨rfl, hP, hK⟩ := hv
  have hx := B.exec
  have hb := B.bytes
  have hr := B.returns
  have hts := atoms_spec (ws := wsX9_putDay) B.pre
  have hown : s.vm.findClass RX9 = some m.cls := findClass_of_methodNamed B.named
  have hlocks := B.notSynchronized
  have hinX9 : ∀ w ∈ wsX90, w ∈ wsX9_putDay := by decide +kernel
  have k70 := hts (.fieldLink RX9 70 "HoursBankModel" "now" "[I") (by decide +kernel)
  have k135 := hts (.constant RX9 135 (65536)) (by decide +kernel)
  have hl := lv_entry ([.ref ((a 0)), .int (zI (w)), .int (zI (d)), .int (zI (x)), .int (zI (y)), .int (zI (u)), .int (zI (z))]) (n := 7) (Nat.le_of_ble_eq_true rfl)
  rw [lg_entry_eq]
  generalize (lg_sl ([.ref ((a 0)), .int (zI (w)), .int (zI (d)), .int (zI (x)), .int (zI (y)), .int (zI (u)), .int (zI (z))]) ++ List.replicate (7 - (lg_sl ([.ref ((a 0)), .int (zI (w)), .int (zI (d)), .int (zI (x)), .int (zI (y)), .int (zI (u)), .int (zI (z))])).length) Slot.unset).toArray = ls at hl ⊢
  have hl : lv_has ls 7 [(0, .ref ((a 0))), (1, .int (zI (w))), (2, .int (zI (d))), (3, .int (zI (x))), (4, .int (zI (y))), (5, .int (zI (u))), (6, .int (zI (z)))] := hl
  have hS : va_S (mA a) s.heap s.heap [] := va_S.rf
  obtain ⟨H, hH9⟩ : ∃ H, H = s.heap := ⟨_, rfl⟩
  obtain ⟨locs, hL9⟩ : ∃ x : List Loc, x = [] := ⟨_, rfl⟩
  have hP : gP g (mW g a sc wd tp N rd sn) H := hH9 ▸ hP
  have hS : va_S (mA a) s.heap H locs := by rw [hH9, hL9]; exact hS
  refine z_start hH9 hL9 ?_
  clear hH9 hL9
  refine lv_aload_n hx hb dX9_putDay_0 rfl (lv_at hl 0 rfl) ?_
  refine va_get (D := g.1) (ci := 9) (v := .ref ((a 2))) (C := RX9) (T := TX9) (N := 15) hx hb hts hinX9 hown hK hP 0 rfl rfl 11 (by decide) k70 (fun _ h9 => h9) rfl dX9_putDay_1 ?_
  refine lv_bipush (v := zI (111)) hx hb dX9_putDay_4 (by decide) ?_
  refine lv_sipush (v := zI (364)) hx hb dX9_putDay_6 (by decide) ?_
  refine lv_iload_n hx hb dX9_putDay_9 rfl (lv_at hl 1 rfl) ?_
  refine z_imul hx hb dX9_putDay_10 ?_
  refine z_iadd hx hb dX9_putDay_11 ?_
  refine lv_iload_n hx hb dX9_putDay_12 rfl (lv_at hl 2 rfl) ?_
  refine z_iadd hx hb dX9_putDay_13 ?_
  refine lv_iload_n hx hb dX9_putDay_14 rfl (lv_at hl 3 rfl) ?_
  refine lv_iconst (v := zI (1)) hx hb dX9_putDay_15 (by decide) ?_
  refine z_iadd hx hb dX9_putDay_16 ?_
  refine lv_sipush (v := zI (128)) hx hb dX9_putDay_17 (by decide) ?_
  refine lv_iload hx hb dX9_putDay_20 (lv_at hl 4 rfl) ?_
  refine z_imul hx hb dX9_putDay_22 ?_
  refine z_iadd hx hb dX9_putDay_23 ?_
  refine lv_sipush (v := zI (16384)) hx hb dX9_putDay_24 (by decide) ?_
  refine lv_iload hx hb dX9_putDay_27 (lv_at hl 5 rfl) ?_
  refine z_imul hx hb dX9_putDay_29 ?_
  refine z_iadd hx hb dX9_putDay_30 ?_
  refine lv_ldc (v := 65536) hx hb hown k135 dX9_putDay_31 ?_
  refine z_top (y := zI (65536)) (by decide) ?_
  refine lv_iload hx hb dX9_putDay_33 (lv_at hl 6 rfl) ?_
  refine z_imul hx hb dX9_putDay_35 ?_
  refine z_iadd hx hb dX9_putDay_36 ?_
  refine z_iast hx hb hK hP (mD ha) hS 2 0 rfl rfl (by decide) (111 + 364 * w + d) (by omega) (by omega) dX9_putDay_37 (fun H locs hP _ hS => ?_)
  have hP : gP g (mW g a sc wd tp (upd N (111 + 364 * w + d) (zI ((((x + 1) + (128 * y)) + (16384 * u)) + (65536 * z)))) rd sn) H := hP
  exact W.vret hx hb hr (fun tX htX hWX => ⟨⟨(), rfl, trivial, g_at htX (hP)⟩, hS.F htX⟩) hS.2.2 dX9_putDay_38

set_option maxHeartbeats 4000000 in
set_option maxRecDepth 100000 in
theorem c_X9_now (l : Launch) (g : GG) (a : Nat → Nat) (ha : aD a) (sc : Nat → Int32) (wd : Int64) (tp N rd sn : Nat → Int32) (hN : okN N) (v : Int) (hv : R32 v) : Met l yX9_now wsX9_now ({ frames := 4, cells := 0, slots := 0, locals := 94 }) (gPc g [.ref ((a 0)), .int (zI (v))] (gP g (mW g a sc wd tp N rd sn))) (va_Qi (fun (r : Int32) (_ : Unit) => r = nowF N (sc 9) (sc 1) v) (fun (_ : Unit) (tS : State) => gP g (mW g a (upd sc 0 (zI (0))) wd tp N rd sn) tS.heap) (mA a)) 0 0 (mA a) := by
  refine Met.ofW (cc := cX9_now) (maxL := 2) (ret := (some .int)) (by decide) rfl ?_
  intro p e s m args below meth c s₁ B hml hv
  obtain ⟨rfl, hP, hK⟩ := hv
  have hx := B.exec
  have hb := B.bytes
  have hr := B.returns
  have hts := atoms_spec (ws := wsX9_now) B.pre
  have hown : s.vm.findClass RX9 = some m.cls := findClass_of_methodNamed B.named
  have hlocks := B.notSynchronized
  have hinX9 : ∀ w ∈ wsX90, w ∈ wsX9_now := by decide +kernel
  have k1 := hts (.fieldLink RX9 1 "HoursBankModel" "thrown" "I") (by decide +kernel)
  have k70 := hts (.fieldLink RX9 70 "HoursBankModel" "now" "[I") (by decide +kernel)
  have k122 := hts (.fieldLink RX9 122 "HoursBankModel" "snapMany" "I") (by decide +kernel)
  have k11 := hts (.fieldLink RX9 11 "HoursBankModel" "taped" "I") (by decide +kernel)
  have k178 := hts (.constant RX9 178 (-100000000)) (by decide +kernel)
  have hl := lv_entry ([.ref ((a 0)), .int (zI (v))]) (n := 2) (Nat.le_of_ble_eq_true rfl)
  rw [lg_entry_eq]
  generalize (lg_sl ([.ref ((a 0)), .int (zI (v))]) ++ List.replicate (2 - (lg_sl ([.ref ((a 0)), .int (zI (v))])).length) Slot.unset).toArray = ls at hl ⊢
  have hl : lv_has ls 2 [(0, .ref ((a 0))), (1, .int (zI (v)))] := hl
  have hS : va_S (mA a) s.heap s.heap [] := va_S.rf
  obtain ⟨H, hH9⟩ : ∃ H, H = s.heap := ⟨_, rfl⟩
  obtain ⟨locs, hL9⟩ : ∃ x : List Loc, x = [] := ⟨_, rfl⟩
  have hP : gP g (mW g a sc wd tp N rd sn) H := hH9 ▸ hP
  have hS : va_S (mA a) s.heap H locs := by rw [hH9, hL9]; exact hS
  refine z_start hH9 hL9 ?_
  clear hH9 hL9
  refine lv_aload_n hx hb dX9_now_0 rfl (lv_at hl 0 rfl) ?_
  refine lv_iconst (v := zI (0)) hx hb dX9_now_1 (by decide) ?_
  refine va_put (D := g.1) (ci := 9) (v := .int (zI (0))) (ty := .int) (C := RX9) (T := TX9) (N := 15) hx hb hts hinX9 tyX9 tyX9_ok nmX9 hown hK hP (mD ha) hS 0 rfl rfl 0 (by decide) k1 (fun _ h9 => h9) rfl (by decide +kernel) rfl rfl (Nat.le_of_ble_eq_true rfl) dX9_now_2 (fun H locs hP _ hS => ?_)
  have hP : gP g (mW g a (upd sc 0 (zI (0))) wd tp N rd sn) H := hP
  refine lv_iload_n hx hb dX9_now_5 rfl (lv_at hl 1 rfl) ?_
  by_cases q6_0 : v = 0
  · subst q6_0
    refine lv_tableIn (off := 54) (tgt := 60) hx hb dX9_now_6 (by decide) (by decide) (by decide) (by decide) ?_
    refine lv_aload_n hx hb dX9_now_60 rfl (lv_at hl 0 rfl) ?_
    refine vp_callSi (va_Run.run (va_runV (As := []) (rest := []) ⟨hx, hb, hml, hown, hts⟩ (c_X9_today l g ((a 0)) ((a 2)) (N) (hN)) (cwV 0 hts gX9_now_X9_today rfl rfl rfl (by decide +kernel) ⟨Nat.le_of_ble_eq_true rfl, Nat.le_of_ble_eq_true rfl⟩) (g_preV (rdN_of hP) hK (va_recv hK hP (q0 := 0) (ci := 9) rfl rfl)) rfl rfl hl.1 rfl (lv_room (Nat.le_of_ble_eq_true rfl)) dX9_now_61 ⟨Nat.le_of_ble_eq_true rfl, Nat.le_of_ble_eq_true rfl⟩)) (fun r hr9 => ?_)
    subst hr9
    exact W.iret hx hb hr (fun tX htX hWX => ⟨⟨_, (), rfl, rfl, g_at htX (hP)⟩, hS.F htX⟩) hS.2.2 dX9_now_64
  by_cases q6_1 : v = 1
  · subst q6_1
    refine lv_tableIn (off := 59) (tgt := 65) hx hb dX9_now_6 (by decide) (by decide) (by decide) (by decide) ?_
    refine lv_aload_n hx hb dX9_now_65 rfl (lv_at hl 0 rfl) ?_
    refine va_get (D := g.1) (ci := 9) (v := .ref ((a 2))) (C := RX9) (T := TX9) (N := 15) hx hb hts hinX9 hown hK hP 0 rfl rfl 11 (by decide) k70 (fun _ h9 => h9) rfl dX9_now_66 ?_
    refine lv_bipush (v := zI (57)) hx hb dX9_now_69 (by decide) ?_
    refine z_iald hx hb hK hP 2 0 rfl rfl (by decide) (57) (by omega) (by omega) dX9_now_71 ?_
    refine z_top (y := zI (mn N 57)) (hN.nw.eq) ?_
    exact W.iret hx hb hr (fun tX htX hWX => ⟨⟨_, (), rfl, rfl, g_at htX (hP)⟩, hS.F htX⟩) hS.2.2 dX9_now_72
  by_cases q6_2 : v = 2
  · subst q6_2
    refine lv_tableIn (off := 67) (tgt := 73) hx hb dX9_now_6 (by decide) (by decide) (by decide) (by decide) ?_
    refine lv_aload_n hx hb dX9_now_73 rfl (lv_at hl 0 rfl) ?_
    refine vp_callSi (va_Run.run (va_runV (As := []) (rest := []) ⟨hx, hb, hml, hown, hts⟩ (c_X9_here l g ((a 0)) ((a 2)) (N) (hN)) (cwV 0 hts gX9_now_X9_here rfl rfl rfl (by decide +kernel) ⟨Nat.le_of_ble_eq_true rfl, Nat.le_of_ble_eq_true rfl⟩) (g_preV (rdN_of hP) hK (va_recv hK hP (q0 := 0) (ci := 9) rfl rfl)) rfl rfl hl.1 rfl (lv_room (Nat.le_of_ble_eq_true rfl)) dX9_now_74 ⟨Nat.le_of_ble_eq_true rfl, Nat.le_of_ble_eq_true rfl⟩)) (fun r hr9 => ?_)
    subst hr9
    exact W.iret hx hb hr (fun tX htX hWX => ⟨⟨_, (), rfl, rfl, g_at htX (hP)⟩, hS.F htX⟩) hS.2.2 dX9_now_77
  by_cases q6_3 : v = 3
  · subst q6_3
    refine lv_tableIn (off := 72) (tgt := 78) hx hb dX9_now_6 (by decide) (by decide) (by decide) (by decide) ?_
    refine lv_aload_n hx hb dX9_now_78 rfl (lv_at hl 0 rfl) ?_
    refine va_get (D := g.1) (ci := 9) (v := .ref ((a 2))) (C := RX9) (T := TX9) (N := 15) hx hb hts hinX9 hown hK hP 0 rfl rfl 11 (by decide) k70 (fun _ h9 => h9) rfl dX9_now_79 ?_
    refine lv_iconst (v := zI (4)) hx hb dX9_now_82 (by decide) ?_
    refine z_iald hx hb hK hP 2 0 rfl rfl (by decide) (4) (by omega) (by omega) dX9_now_83 ?_
    refine z_top (y := zI (mn N 4)) (hN.ns.eq) ?_
    exact W.iret hx hb hr (fun tX htX hWX => ⟨⟨_, (), rfl, rfl, g_at htX (hP)⟩, hS.F htX⟩) hS.2.2 dX9_now_84
  by_cases q6_4 : v = 4
  · subst q6_4
    refine lv_tableIn (off := 79) (tgt := 85) hx hb dX9_now_6 (by decide) (by decide) (by decide) (by decide) ?_
    refine lv_aload_n hx hb dX9_now_85 rfl (lv_at hl 0 rfl) ?_
    refine lv_iconst (v := zI (4)) hx hb dX9_now_86 (by decide) ?_
    refine lv_iconst (v := zI (0)) hx hb dX9_now_87 (by decide) ?_
    refine vp_callSi (va_Run.run (va_runV (As := [.int (zI (4)), .int (zI (0))]) (rest := []) ⟨hx, hb, hml, hown, hts⟩ (c_X9_ofAll l g ((a 0)) ((a 2)) (N) (hN) (4) (0) (by omega) (by omega)) (cwV 2 hts gX9_now_X9_ofAll rfl rfl rfl (by decide +kernel) ⟨Nat.le_of_ble_eq_true rfl, Nat.le_of_ble_eq_true rfl⟩) (g_preV (rdN_of hP) hK (va_recv hK hP (q0 := 0) (ci := 9) rfl rfl)) rfl rfl hl.1 rfl (lv_room (Nat.le_of_ble_eq_true rfl)) dX9_now_88 ⟨Nat.le_of_ble_eq_true rfl, Nat.le_of_ble_eq_true rfl⟩)) (fun r hr9 => ?_)
    subst hr9
    exact W.iret hx hb hr (fun tX htX hWX => ⟨⟨_, (), rfl, rfl, g_at htX (hP)⟩, hS.F htX⟩) hS.2.2 dX9_now_91
  by_cases q6_5 : v = 5
  · subst q6_5
    refine lv_tableIn (off := 86) (tgt := 92) hx hb dX9_now_6 (by decide) (by decide) (by decide) (by decide) ?_
    refine lv_aload_n hx hb dX9_now_92 rfl (lv_at hl 0 rfl) ?_
    refine lv_iconst (v := zI (2)) hx hb dX9_now_93 (by decide) ?_
    refine lv_aload_n hx hb dX9_now_94 rfl (lv_at hl 0 rfl) ?_
    refine vp_callSi (va_Run.run (va_runV (As := []) (rest := [.int (zI (2)), .ref ((a 0))]) ⟨hx, hb, hml, hown, hts⟩ (c_X9_today l g ((a 0)) ((a 2)) (N) (hN)) (cwV 0 hts gX9_now_X9_today rfl rfl rfl (by decide +kernel) ⟨Nat.le_of_ble_eq_true rfl, Nat.le_of_ble_eq_true rfl⟩) (g_preV (rdN_of hP) hK (va_recv hK hP (q0 := 0) (ci := 9) rfl rfl)) rfl rfl hl.1 rfl (lv_room (Nat.le_of_ble_eq_true rfl)) dX9_now_95 ⟨Nat.le_of_ble_eq_true rfl, Nat.le_of_ble_eq_true rfl⟩)) (fun r hr9 => ?_)
    subst hr9
    refine vp_callSi (va_Run.run (va_runV (As := [.int (zI (2)), .int (zI (mn N 110))]) (rest := []) ⟨hx, hb, hml, hown, hts⟩ (c_X9_ofAll l g ((a 0)) ((a 2)) (N) (hN) (2) ((mn N 110)) (by omega) (hN.td.le)) (cwV 2 hts gX9_now_X9_ofAll rfl rfl rfl (by decide +kernel) ⟨Nat.le_of_ble_eq_true rfl, Nat.le_of_ble_eq_true rfl⟩) (g_preV (rdN_of hP) hK (va_recv hK hP (q0 := 0) (ci := 9) rfl rfl)) rfl rfl hl.1 rfl (lv_room (Nat.le_of_ble_eq_true rfl)) dX9_now_98 ⟨Nat.le_of_ble_eq_true rfl, Nat.le_of_ble_eq_true rfl⟩)) (fun r hr9 => ?_)
    subst hr9
    exact W.iret hx hb hr (fun tX htX hWX => ⟨⟨_, (), rfl, rfl, g_at htX (hP)⟩, hS.F htX⟩) hS.2.2 dX9_now_101
  by_cases q6_6 : v = 6
  · subst q6_6
    refine lv_tableIn (off := 96) (tgt := 102) hx hb dX9_now_6 (by decide) (by decide) (by decide) (by decide) ?_
    refine lv_aload_n hx hb dX9_now_102 rfl (lv_at hl 0 rfl) ?_
    refine lv_iconst (v := zI (3)) hx hb dX9_now_103 (by decide) ?_
    refine lv_iconst (v := zI (0)) hx hb dX9_now_104 (by decide) ?_
    refine vp_callSi (va_Run.run (va_runV (As := [.int (zI (3)), .int (zI (0))]) (rest := []) ⟨hx, hb, hml, hown, hts⟩ (c_X9_ofAll l g ((a 0)) ((a 2)) (N) (hN) (3) (0) (by omega) (by omega)) (cwV 2 hts gX9_now_X9_ofAll rfl rfl rfl (by decide +kernel) ⟨Nat.le_of_ble_eq_true rfl, Nat.le_of_ble_eq_true rfl⟩) (g_preV (rdN_of hP) hK (va_recv hK hP (q0 := 0) (ci := 9) rfl rfl)) rfl rfl hl.1 rfl (lv_room (Nat.le_of_ble_eq_true rfl)) dX9_now_105 ⟨Nat.le_of_ble_eq_true rfl, Nat.le_of_ble_eq_true rfl⟩)) (fun r hr9 => ?_)
    subst hr9
    exact W.iret hx hb hr (fun tX htX hWX => ⟨⟨_, (), rfl, rfl, g_at htX (hP)⟩, hS.F htX⟩) hS.2.2 dX9_now_108
  by_cases q6_7 : v = 7
  · subst q6_7
    refine lv_tableIn (off := 103) (tgt := 109) hx hb dX9_now_6 (by decide) (by decide) (by decide) (by decide) ?_
    refine lv_aload_n hx hb dX9_now_109 rfl (lv_at hl 0 rfl) ?_
    refine vp_callSi (va_Run.run (va_runV (As := []) (rest := []) ⟨hx, hb, hml, hown, hts⟩ (c_X9_coins l g ((a 0)) ((a 2)) (N) (hN)) (cwV 0 hts gX9_now_X9_coins rfl rfl rfl (by decide +kernel) ⟨Nat.le_of_ble_eq_true rfl, Nat.le_of_ble_eq_true rfl⟩) (g_preV (rdN_of hP) hK (va_recv hK hP (q0 := 0) (ci := 9) rfl rfl)) rfl rfl hl.1 rfl (lv_room (Nat.le_of_ble_eq_true rfl)) dX9_now_110 ⟨Nat.le_of_ble_eq_true rfl, Nat.le_of_ble_eq_true rfl⟩)) (fun r hr9 => ?_)
    subst hr9
    exact W.iret hx hb hr (fun tX htX hWX => ⟨⟨_, (), rfl, rfl, g_at htX (hP)⟩, hS.F htX⟩) hS.2.2 dX9_now_113
  by_cases q6_8 : v = 8
  · subst q6_8
    refine lv_tableIn (off := 108) (tgt := 114) hx hb dX9_now_6 (by decide) (by decide) (by decide) (by decide) ?_
    refine lv_aload_n hx hb dX9_now_114 rfl (lv_at hl 0 rfl) ?_
    refine va_get (D := g.1) (ci := 9) (v := .int (sc 9)) (C := RX9) (T := TX9) (N := 15) hx hb hts hinX9 hown hK hP 0 rfl rfl 14 (by decide) k122 (fun _ h9 => h9) rfl dX9_now_115 ?_
    exact W.iret hx hb hr (fun tX htX hWX => ⟨⟨_, (), rfl, rfl, g_at htX (hP)⟩, hS.F htX⟩) hS.2.2 dX9_now_118
  by_cases q6_9 : v = 9
  · subst q6_9
    refine lv_tableIn (off := 113) (tgt := 119) hx hb dX9_now_6 (by decide) (by decide) (by decide) (by decide) ?_
    refine lv_aload_n hx hb dX9_now_119 rfl (lv_at hl 0 rfl) ?_
    refine va_get (D := g.1) (ci := 9) (v := .int (sc 1)) (C := RX9) (T := TX9) (N := 15) hx hb hts hinX9 hown hK hP 0 rfl rfl 2 (by decide) k11 (fun _ h9 => h9) rfl dX9_now_120 ?_
    exact W.iret hx hb hr (fun tX htX hWX => ⟨⟨_, (), rfl, rfl, g_at htX (hP)⟩, hS.F htX⟩) hS.2.2 dX9_now_123
  refine lv_tableOut (tgt := 124) hx hb dX9_now_6 (by rw [zI_toInt hv]; omega) (by decide) ?_
  refine lv_ldc (v := -100000000) hx hb hown k178 dX9_now_124 ?_
  refine z_top (y := zI (-100000000)) (by decide) ?_
  exact W.iret hx hb hr (fun tX htX hWX => ⟨⟨_, (), rfl, by simp only [nowF, if_neg, *]; rfl, g_at htX (hP)⟩, hS.F htX⟩) hS.2.2 dX9_now_126
