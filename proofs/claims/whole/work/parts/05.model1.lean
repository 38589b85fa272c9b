set_option maxHeartbeats 4000000 in
set_option maxRecDepth 100000 in
theorem c_X9_isIn (l : Launch) (v a z : Int) (hv : R32 v) (ha : R32 a) (hz : R32 z) : Met l yX9_isIn wsX9_isIn ({ frames := 0, cells := 0, slots := 0, locals := 0 }) (va_Pc [.int (zI (v)), .int (zI (a)), .int (zI (z))] (fun _ => True)) (vp_Si (fun r : Int32 => r = zI (bz (a ≤ v ∧ v ≤ z)))) 0 0 (fun _ => False) := by
  refine Met.ofW (cc := cX9_isIn) (maxL := 3) (ret := (some .boolean)) (by decide) rfl ?_
  intro p e s m args below meth c s₁ B hml hv
  obtain ⟨rfl, -⟩ := hv
  have hx := B.exec
  have hb := B.bytes
  have hr := B.returns
  have hts := atoms_spec (ws := wsX9_isIn) B.pre
  have hown : s.vm.findClass RX9 = some m.cls := findClass_of_methodNamed B.named
  have hlocks := B.notSynchronized
  have hl := lv_entry ([.int (zI (v)), .int (zI (a)), .int (zI (z))]) (n := 3) (Nat.le_of_ble_eq_true rfl)
  rw [lg_entry_eq]
  generalize (lg_sl ([.int (zI (v)), .int (zI (a)), .int (zI (z))]) ++ List.replicate (3 - (lg_sl ([.int (zI (v)), .int (zI (a)), .int (zI (z))])).length) Slot.unset).toArray = ls at hl ⊢
  have hl : lv_has ls 3 [(0, .int (zI (v))), (1, .int (zI (a))), (2, .int (zI (z)))] := hl
  refine lv_iload_n hx hb dX9_isIn_0 rfl (lv_at hl 0 rfl) ?_
  refine lv_iload_n hx hb dX9_isIn_1 rfl (lv_at hl 1 rfl) ?_
  refine z_icmp_lt (tgt := 14) hx hb dX9_isIn_2 (by decide) (by omega) (by omega) (fun h2 => ?_) (fun h2 => ?_)
  · refine lv_iconst (v := zI (0)) hx hb dX9_isIn_14 (by decide) ?_
    exact W.zret hx hb hr (by decide) (fun tX htX hWX => ⟨_, rfl, bz_0 (by omega), htX⟩) (fun _ h9 => by cases h9) dX9_isIn_15
  · refine lv_iload_n hx hb dX9_isIn_5 rfl (lv_at hl 0 rfl) ?_
    refine lv_iload_n hx hb dX9_isIn_6 rfl (lv_at hl 2 rfl) ?_
    refine z_icmp_gt (tgt := 14) hx hb dX9_isIn_7 (by decide) (by omega) (by omega) (fun h7 => ?_) (fun h7 => ?_)
    · refine lv_iconst (v := zI (0)) hx hb dX9_isIn_14 (by decide) ?_
      exact W.zret hx hb hr (by decide) (fun tX htX hWX => ⟨_, rfl, bz_0 (by omega), htX⟩) (fun _ h9 => by cases h9) dX9_isIn_15
    · refine lv_iconst (v := zI (1)) hx hb dX9_isIn_10 (by decide) ?_
      refine lv_goto (tgt := 15) hx hb dX9_isIn_11 (by decide) ?_
      exact W.zret hx hb hr (by decide) (fun tX htX hWX => ⟨_, rfl, bz_1 (by omega), htX⟩) (fun _ h9 => by cases h9) dX9_isIn_15

set_option maxHeartbeats 4000000 in
set_option maxRecDepth 100000 in
theorem c_X9_isDay (l : Launch) (v : Int) (hv : R32 v) : Met l yX9_isDay wsX9_isDay ({ frames := 1, cells := 0, slots := 0, locals := 22 }) (va_Pc [.int (zI (v))] (fun _ => True)) (vp_Si (fun r : Int32 => r = zI (bz (0 ≤ v ∧ v ≤ 363)))) 0 0 (fun _ => False) := by
  refine Met.ofW (cc := cX9_isDay) (maxL := 1) (ret := (some .boolean)) (by decide) rfl ?_
  intro p e s m args below meth c s₁ B hml hv
  obtain ⟨rfl, -⟩ := hv
  have hx := B.exec
  have hb := B.bytes
  have hr := B.returns
  have hts := atoms_spec (ws := wsX9_isDay) B.pre
  have hown : s.vm.findClass RX9 = some m.cls := findClass_of_methodNamed B.named
  have hlocks := B.notSynchronized
  have hl := lv_entry ([.int (zI (v))]) (n := 1) (Nat.le_of_ble_eq_true rfl)
  rw [lg_entry_eq]
  generalize (lg_sl ([.int (zI (v))]) ++ List.replicate (1 - (lg_sl ([.int (zI (v))])).length) Slot.unset).toArray = ls at hl ⊢
  have hl : lv_has ls 1 [(0, .int (zI (v)))] := hl
  refine lv_iload_n hx hb dX9_isDay_0 rfl (lv_at hl 0 rfl) ?_
  refine lv_iconst (v := zI (0)) hx hb dX9_isDay_1 (by decide) ?_
  refine lv_sipush (v := zI (363)) hx hb dX9_isDay_2 (by decide) ?_
  refine vp_callSi (va_Run.run (va_runS (As := [.int (zI (v)), .int (zI (0)), .int (zI (363))]) (rest := []) ⟨hx, hb, hml, hown, hts⟩ (c_X9_isIn l (v) (0) (363) (hv) (by omega) (by omega)) (va_cwS 3 hts gX9_isDay_X9_isIn rfl rfl rfl (by decide +kernel) ⟨Nat.le_of_ble_eq_true rfl, Nat.le_of_ble_eq_true rfl⟩) g_preS0 rfl rfl hl.1 rfl (lv_room (Nat.le_of_ble_eq_true rfl)) dX9_isDay_5 ⟨Nat.le_of_ble_eq_true rfl, Nat.le_of_ble_eq_true rfl⟩)) (fun r hr9 => ?_)
  subst hr9
  exact W.zret hx hb hr (bz_nar _) (fun tX htX hWX => ⟨_, rfl, rfl, htX⟩) (fun _ h9 => by cases h9) dX9_isDay_8

set_option maxHeartbeats 4000000 in
set_option maxRecDepth 100000 in
theorem c_X9_cell (l : Launch) (g : GG) (b n : Nat) (N : Nat → Int32) (hN : okN N) (w d : Nat) (hw : w < 4) (hd : d < 364) : Met l yX9_cell wsX9_cell ({ frames := 0, cells := 0, slots := 0, locals := 0 }) (gPc g [.ref b, .int (zI (w)), .int (zI (d))] (rdN g b n N)) (vp_Si (fun r : Int32 => r = zI (cellN N w d))) 0 0 (fun _ => False) := by
  refine Met.ofW (cc := cX9_cell) (maxL := 3) (ret := (some .int)) (by decide) rfl ?_
  intro p e s m args below meth c s₁ B hml hv
  obtain ⟨rfl, hPre, hK⟩ := hv
  have hx := B.exec
  have hb := B.bytes
  have hr := B.returns
  have hts := atoms_spec (ws := wsX9_cell) B.pre
  have hown : s.vm.findClass RX9 = some m.cls := findClass_of_methodNamed B.named
  have hlocks := B.notSynchronized
  have hinX9 : ∀ w ∈ wsX90, w ∈ wsX9_cell := by decide +kernel
  have k70 := hts (.fieldLink RX9 70 "HoursBankModel" "now" "[I") (by decide +kernel)
  have hl := lv_entry ([.ref b, .int (zI (w)), .int (zI (d))]) (n := 3) (Nat.le_of_ble_eq_true rfl)
  rw [lg_entry_eq]
  generalize (lg_sl ([.ref b, .int (zI (w)), .int (zI (d))]) ++ List.replicate (3 - (lg_sl ([.ref b, .int (zI (w)), .int (zI (d))])).length) Slot.unset).toArray = ls at hl ⊢
  have hl : lv_has ls 3 [(0, .ref b), (1, .int (zI (w))), (2, .int (zI (d)))] := hl
  obtain ⟨fs, hP, hf⟩ := id hPre
  refine lv_aload_n hx hb dX9_cell_0 rfl (lv_at hl 0 rfl) ?_
  refine va_get (D := g.1) (ci := 9) (v := .ref n) (C := RX9) (T := TX9) (N := 15) hx hb hts hinX9 hown hK hP 0 rfl rfl 11 (by decide) k70 (fun _ h9 => h9) hf dX9_cell_1 ?_
  refine lv_bipush (v := zI (111)) hx hb dX9_cell_4 (by decide) ?_
  refine lv_sipush (v := zI (364)) hx hb dX9_cell_6 (by decide) ?_
  refine lv_iload_n hx hb dX9_cell_9 rfl (lv_at hl 1 rfl) ?_
  refine z_imul hx hb dX9_cell_10 ?_
  refine z_iadd hx hb dX9_cell_11 ?_
  refine lv_iload_n hx hb dX9_cell_12 rfl (lv_at hl 2 rfl) ?_
  refine z_iadd hx hb dX9_cell_13 ?_
  refine z_iald hx hb hK hP 1 0 rfl rfl (by decide) (111 + 364 * w + d) (by omega) (by omega) dX9_cell_14 ?_
  refine z_top (y := zI (cellN N w d)) ((hN.cellE hw hd).1) ?_
  exact W.iret hx hb hr (fun tX htX hWX => ⟨_, rfl, rfl, htX⟩) (fun _ h9 => by cases h9) dX9_cell_15

set_option maxHeartbeats 4000000 in
set_option maxRecDepth 100000 in
theorem c_X9_changedOf (l : Launch) (g : GG) (b n : Nat) (N : Nat → Int32) (hN : okN N) (w d : Nat) (hw : w < 4) (hd : d < 364) : Met l yX9_changedOf wsX9_changedOf ({ frames := 1, cells := 0, slots := 0, locals := 22 }) (gPc g [.ref b, .int (zI (w)), .int (zI (d))] (rdN g b n N)) (vp_Si (fun r : Int32 => r = zI ((chg N w d : Int) - 1))) 0 0 (fun _ => False) := by
  refine Met.ofW (cc := cX9_changedOf) (maxL := 3) (ret := (some .int)) (by decide) rfl ?_
  intro p e s m args below meth c s₁ B hml hv
  obtain ⟨rfl, hPre, hK⟩ := hv
  have hx := B.exec
  have hb := B.bytes
  have hr := B.returns
  have hts := atoms_spec (ws := wsX9_changedOf) B.pre
  have hown : s.vm.findClass RX9 = some m.cls := findClass_of_methodNamed B.named
  have hlocks := B.notSynchronized
  have hl := lv_entry ([.ref b, .int (zI (w)), .int (zI (d))]) (n := 3) (Nat.le_of_ble_eq_true rfl)
  rw [lg_entry_eq]
  generalize (lg_sl ([.ref b, .int (zI (w)), .int (zI (d))]) ++ List.replicate (3 - (lg_sl ([.ref b, .int (zI (w)), .int (zI (d))])).length) Slot.unset).toArray = ls at hl ⊢
  have hl : lv_has ls 3 [(0, .ref b), (1, .int (zI (w))), (2, .int (zI (d)))] := hl
  obtain ⟨fs, hP, hf⟩ := id hPre
  refine lv_aload_n hx hb dX9_changedOf_0 rfl (lv_at hl 0 rfl) ?_
  refine lv_iload_n hx hb dX9_changedOf_1 rfl (lv_at hl 1 rfl) ?_
  refine lv_iload_n hx hb dX9_changedOf_2 rfl (lv_at hl 2 rfl) ?_
  refine vp_callSi (va_Run.run (va_runV (As := [.int (zI (w)), .int (zI (d))]) (rest := []) ⟨hx, hb, hml, hown, hts⟩ (c_X9_cell l g (b) (n) (N) (hN) (w) (d) (hw) (hd)) (cwV 2 hts gX9_changedOf_X9_cell rfl rfl rfl (by decide +kernel) ⟨Nat.le_of_ble_eq_true rfl, Nat.le_of_ble_eq_true rfl⟩) (g_preV hPre hK (va_recv hK hP (q0 := 0) (ci := 9) rfl rfl)) rfl rfl hl.1 rfl (lv_room (Nat.le_of_ble_eq_true rfl)) dX9_changedOf_3 ⟨Nat.le_of_ble_eq_true rfl, Nat.le_of_ble_eq_true rfl⟩)) (fun r hr9 => ?_)
  subst hr9
  have hq := (hN.cellE hw hd).2
  refine lv_sipush (v := zI (128)) hx hb dX9_changedOf_6 (by decide) ?_
  refine z_irem hx hb dX9_changedOf_9 (by omega) (by omega) ?_
  refine lv_iconst (v := zI (1)) hx hb dX9_changedOf_10 (by decide) ?_
  refine z_isub hx hb dX9_changedOf_11 ?_
  exact W.iret hx hb hr (fun tX htX hWX => ⟨_, rfl, congrArg zI (by unfold chg; omega), htX⟩) (fun _ h9 => by cases h9) dX9_changedOf_12

set_option maxHeartbeats 4000000 in
set_option maxRecDepth 100000 in
theorem c_X9_workedOf (l : Launch) (g : GG) (b n : Nat) (N : Nat → Int32) (hN : okN N) (w d : Nat) (hw : w < 4) (hd : d < 364) : Met l yX9_workedOf wsX9_workedOf ({ frames := 1, cells := 0, slots := 0, locals := 22 }) (gPc g [.ref b, .int (zI (w)), .int (zI (d))] (rdN g b n N)) (vp_Si (fun r : Int32 => r = zI (wkd N w d))) 0 0 (fun _ => False) := by
  refine Met.ofW (cc := cX9_workedOf) (maxL := 3) (ret := (some .int)) (by decide) rfl ?_
  intro p e s m args below meth c s₁ B hml hv
  obtain ⟨rfl, hPre, hK⟩ := hv
  have hx := B.exec
  have hb := B.bytes
  have hr := B.returns
  have hts := atoms_spec (ws := wsX9_workedOf) B.pre
  have hown : s.vm.findClass RX9 = some m.cls := findClass_of_methodNamed B.named
  have hlocks := B.notSynchronized
  have hl := lv_entry ([.ref b, .int (zI (w)), .int (zI (d))]) (n := 3) (Nat.le_of_ble_eq_true rfl)
  rw [lg_entry_eq]
  generalize (lg_sl ([.ref b, .int (zI (w)), .int (zI (d))]) ++ List.replicate (3 - (lg_sl ([.ref b, .int (zI (w)), .int (zI (d))])).length) Slot.unset).toArray = ls at hl ⊢
  have hl : lv_has ls 3 [(0, .ref b), (1, .int (zI (w))), (2, .int (zI (d)))] := hl
  obtain ⟨fs, hP, hf⟩ := id hPre
  refine lv_aload_n hx hb dX9_workedOf_0 rfl (lv_at hl 0 rfl) ?_
  refine lv_iload_n hx hb dX9_workedOf_1 rfl (lv_at hl 1 rfl) ?_
  refine lv_iload_n hx hb dX9_workedOf_2 rfl (lv_at hl 2 rfl) ?_
  refine vp_callSi (va_Run.run (va_runV (As := [.int (zI (w)), .int (zI (d))]) (rest := []) ⟨hx, hb, hml, hown, hts⟩ (c_X9_cell l g (b) (n) (N) (hN) (w) (d) (hw) (hd)) (cwV 2 hts gX9_workedOf_X9_cell rfl rfl rfl (by decide +kernel) ⟨Nat.le_of_ble_eq_true rfl, Nat.le_of_ble_eq_true rfl⟩) (g_preV hPre hK (va_recv hK hP (q0 := 0) (ci := 9) rfl rfl)) rfl rfl hl.1 rfl (lv_room (Nat.le_of_ble_eq_true rfl)) dX9_workedOf_3 ⟨Nat.le_of_ble_eq_true rfl, Nat.le_of_ble_eq_true rfl⟩)) (fun r hr9 => ?_)
  subst hr9
  have hq := (hN.cellE hw hd).2
  refine lv_sipush (v := zI (128)) hx hb dX9_workedOf_6 (by decide) ?_
  refine z_idiv hx hb dX9_workedOf_9 (by omega) (by omega) ?_
  refine lv_sipush (v := zI (128)) hx hb dX9_workedOf_10 (by decide) ?_
  refine z_irem hx hb dX9_workedOf_13 (by omega) (by omega) ?_
  exact W.iret hx hb hr (fun tX htX hWX => ⟨_, rfl, congrArg zI (by unfold wkd; omega), htX⟩) (fun _ h9 => by cases h9) dX9_workedOf_14

set_option maxHeartbeats 4000000 in
set_option maxRecDepth 100000 in
theorem c_X9_kindOf (l : Launch) (g : GG) (b n : Nat) (N : Nat → Int32) (hN : okN N) (w d : Nat) (hw : w < 4) (hd : d < 364) : Met l yX9_kindOf wsX9_kindOf ({ frames := 1, cells := 0, slots := 0, locals := 22 }) (gPc g [.ref b, .int (zI (w)), .int (zI (d))] (rdN g b n N)) (vp_Si (fun r : Int32 => r = zI (knd N w d))) 0 0 (fun _ => False) := by
  refine Met.ofW (cc := cX9_kindOf) (maxL := 3) (ret := (some .int)) (by decide) rfl ?_
  intro p e s m args below meth c s₁ B hml hv
  obtain ⟨rfl, hPre, hK⟩ := hv
  have hx := B.exec
  have hb := B.bytes
  have hr := B.returns
  have hts := atoms_spec (ws := wsX9_kindOf) B.pre
  have hown : s.vm.findClass RX9 = some m.cls := findClass_of_methodNamed B.named
  have hlocks := B.notSynchronized
  have hl := lv_entry ([.ref b, .int (zI (w)), .int (zI (d))]) (n := 3) (Nat.le_of_ble_eq_true rfl)
  rw [lg_entry_eq]
  generalize (lg_sl ([.ref b, .int (zI (w)), .int (zI (d))]) ++ List.replicate (3 - (lg_sl ([.ref b, .int (zI (w)), .int (zI (d))])).length) Slot.unset).toArray = ls at hl ⊢
  have hl : lv_has ls 3 [(0, .ref b), (1, .int (zI (w))), (2, .int (zI (d)))] := hl
  obtain ⟨fs, hP, hf⟩ := id hPre
  refine lv_aload_n hx hb dX9_kindOf_0 rfl (lv_at hl 0 rfl) ?_
  refine lv_iload_n hx hb dX9_kindOf_1 rfl (lv_at hl 1 rfl) ?_
  refine lv_iload_n hx hb dX9_kindOf_2 rfl (lv_at hl 2 rfl) ?_
  refine vp_callSi (va_Run.run (va_runV (As := [.int (zI (w)), .int (zI (d))]) (rest := []) ⟨hx, hb, hml, hown, hts⟩ (c_X9_cell l g (b) (n) (N) (hN) (w) (d) (hw) (hd)) (cwV 2 hts gX9_kindOf_X9_cell rfl rfl rfl (by decide +kernel) ⟨Nat.le_of_ble_eq_true rfl, Nat.le_of_ble_eq_true rfl⟩) (g_preV hPre hK (va_recv hK hP (q0 := 0) (ci := 9) rfl rfl)) rfl rfl hl.1 rfl (lv_room (Nat.le_of_ble_eq_true rfl)) dX9_kindOf_3 ⟨Nat.le_of_ble_eq_true rfl, Nat.le_of_ble_eq_true rfl⟩)) (fun r hr9 => ?_)
  subst hr9
  have hq := (hN.cellE hw hd).2
  refine lv_sipush (v := zI (16384)) hx hb dX9_kindOf_6 (by decide) ?_
  refine z_idiv hx hb dX9_kindOf_9 (by omega) (by omega) ?_
  refine lv_iconst (v := zI (4)) hx hb dX9_kindOf_10 (by decide) ?_
  refine z_irem hx hb dX9_kindOf_11 (by omega) (by omega) ?_
  exact W.iret hx hb hr (fun tX htX hWX => ⟨_, rfl, congrArg zI (by unfold knd; omega), htX⟩) (fun _ h9 => by cases h9) dX9_kindOf_12

set_option maxHeartbeats 4000000 in
set_option maxRecDepth 100000 in
theorem c_X9_flaggedOf (l : Launch) (g : GG) (b n : Nat) (N : Nat → Int32) (hN : okN N) (w d : Nat) (hw : w < 4) (hd : d < 364) : Met l yX9_flaggedOf wsX9_flaggedOf ({ frames := 1, cells := 0, slots := 0, locals := 22 }) (gPc g [.ref b, .int (zI (w)), .int (zI (d))] (rdN g b n N)) (vp_Si (fun r : Int32 => r = zI (flg N w d))) 0 0 (fun _ => False) := by
  refine Met.ofW (cc := cX9_flaggedOf) (maxL := 3) (ret := (some .int)) (by decide) rfl ?_
  intro p e s m args below meth c s₁ B hml hv
  obtain ⟨rfl, hPre, hK⟩ := hv
  have hx := B.exec
  have hb := B.bytes
  have hr := B.returns
  have hts := atoms_spec (ws := wsX9_flaggedOf) B.pre
  have hown : s.vm.findClass RX9 = some m.cls := findClass_of_methodNamed B.named
  have hlocks := B.notSynchronized
  have k135 := hts (.constant RX9 135 (65536)) (by decide +kernel)
  have hl := lv_entry ([.ref b, .int (zI (w)), .int (zI (d))]) (n := 3) (Nat.le_of_ble_eq_true rfl)
  rw [lg_entry_eq]
  generalize (lg_sl ([.ref b, .int (zI (w)), .int (zI (d))]) ++ List.replicate (3 - (lg_sl ([.ref b, .int (zI (w)), .int (zI (d))])).length) Slot.unset).toArray = ls at hl ⊢
  have hl : lv_has ls 3 [(0, .ref b), (1, .int (zI (w))), (2, .int (zI (d)))] := hl
  obtain ⟨fs, hP, hf⟩ := id hPre
  refine lv_aload_n hx hb dX9_flaggedOf_0 rfl (lv_at hl 0 rfl) ?_
  refine lv_iload_n hx hb dX9_flaggedOf_1 rfl (lv_at hl 1 rfl) ?_
  refine lv_iload_n hx hb dX9_flaggedOf_2 rfl (lv_at hl 2 rfl) ?_
  refine vp_callSi (va_Run.run (va_runV (As := [.int (zI (w)), .int (zI (d))]) (rest := []) ⟨hx, hb, hml, hown, hts⟩ (c_X9_cell l g (b) (n) (N) (hN) (w) (d) (hw) (hd)) (cwV 2 hts gX9_flaggedOf_X9_cell rfl rfl rfl (by decide +kernel) ⟨Nat.le_of_ble_eq_true rfl, Nat.le_of_ble_eq_true rfl⟩) (g_preV hPre hK (va_recv hK hP (q0 := 0) (ci := 9) rfl rfl)) rfl rfl hl.1 rfl (lv_room (Nat.le_of_ble_eq_true rfl)) dX9_flaggedOf_3 ⟨Nat.le_of_ble_eq_true rfl, Nat.le_of_ble_eq_true rfl⟩)) (fun r hr9 => ?_)
  subst hr9
  have hq := (hN.cellE hw hd).2
  refine lv_ldc (v := 65536) hx hb hown k135 dX9_flaggedOf_6 ?_
  refine z_top (y := zI (65536)) (by decide) ?_
  refine z_idiv hx hb dX9_flaggedOf_8 (by omega) (by omega) ?_
  exact W.iret hx hb hr (fun tX htX hWX => ⟨_, rfl, congrArg zI (by unfold flg; omega), htX⟩) (fun _ h9 => by cases h9) dX9_flaggedOf_9

set_option maxHeartbeats 4000000 in
set_option maxRecDepth 100000 in
theorem c_X9_today (l : Launch) (g : GG) (b n : Nat) (N : Nat → Int32) (hN : okN N)  : Met l yX9_today wsX9_today ({ frames := 0, cells := 0, slots := 0, locals := 0 }) (gPc g [.ref b] (rdN g b n N)) (vp_Si (fun r : Int32 => r = zI (mn N 110))) 0 0 (fun _ => False) := by
  refine Met.ofW (cc := cX9_today) (maxL := 1) (ret := (some .int)) (by decide) rfl ?_
  intro p e s m args below meth c s₁ B hml hv
  obtain ⟨rfl, hPre, hK⟩ := hv
  have hx := B.exec
  have hb := B.bytes
  have hr := B.returns
  have hts := atoms_spec (ws := wsX9_today) B.pre
  have hown : s.vm.findClass RX9 = some m.cls := findClass_of_methodNamed B.named
  have hlocks := B.notSynchronized
  have hinX9 : ∀ w ∈ wsX90, w ∈ wsX9_today := by decide +kernel
  have k70 := hts (.fieldLink RX9 70 "HoursBankModel" "now" "[I") (by decide +kernel)
  have hl := lv_entry ([.ref b]) (n := 1) (Nat.le_of_ble_eq_true rfl)
  rw [lg_entry_eq]
  generalize (lg_sl ([.ref b]) ++ List.replicate (1 - (lg_sl ([.ref b])).length) Slot.unset).toArray = ls at hl ⊢
  have hl : lv_has ls 1 [(0, .ref b)] := hl
  obtain ⟨fs, hP, hf⟩ := id hPre
  refine lv_aload_n hx hb dX9_today_0 rfl (lv_at hl 0 rfl) ?_
  refine va_get (D := g.1) (ci := 9) (v := .ref n) (C := RX9) (T := TX9) (N := 15) hx hb hts hinX9 hown hK hP 0 rfl rfl 11 (by decide) k70 (fun _ h9 => h9) hf dX9_today_1 ?_
  refine lv_bipush (v := zI (110)) hx hb dX9_today_4 (by decide) ?_
  refine z_iald hx hb hK hP 1 0 rfl rfl (by decide) (110) (by omega) (by omega) dX9_today_6 ?_
  refine z_top (y := zI (mn N 110)) (hN.td.eq) ?_
  exact W.iret hx hb hr (fun tX htX hWX => ⟨_, rfl, rfl, htX⟩) (fun _ h9 => by cases h9) dX9_today_7

set_option maxHeartbeats 4000000 in
set_option maxRecDepth 100000 in
theorem c_X9_its (l : Launch) (g : GG) (b n : Nat) (N : Nat → Int32) (w k : Nat) (hw : w < 4) (hk : k ≤ 9) : Met l yX9_its wsX9_its ({ frames := 0, cells := 0, slots := 0, locals := 0 }) (gPc g [.ref b, .int (zI (w)), .int (zI (k))] (rdN g b n N)) (vp_Si (fun r : Int32 => r = N (58 + 13 * w + k))) 0 0 (fun _ => False) := by
  refine Met.ofW (cc := cX9_its) (maxL := 3) (ret := (some .int)) (by decide) rfl ?_
  intro p e s m args below meth c s₁ B hml hv
  obtain ⟨rfl, hPre, hK⟩ := hv
  have hx := B.exec
  have hb := B.bytes
  have hr := B.returns
  have hts := atoms_spec (ws := wsX9_its) B.pre
  have hown : s.vm.findClass RX9 = some m.cls := findClass_of_methodNamed B.named
  have hlocks := B.notSynchronized
  have hinX9 : ∀ w ∈ wsX90, w ∈ wsX9_its := by decide +kernel
  have k70 := hts (.fieldLink RX9 70 "HoursBankModel" "now" "[I") (by decide +kernel)
  have hl := lv_entry ([.ref b, .int (zI (w)), .int (zI (k))]) (n := 3) (Nat.le_of_ble_eq_true rfl)
  rw [lg_entry_eq]
  generalize (lg_sl ([.ref b, .int (zI (w)), .int (zI (k))]) ++ List.replicate (3 - (lg_sl ([.ref b, .int (zI (w)), .int (zI (k))])).length) Slot.unset).toArray = ls at hl ⊢
  have hl : lv_has ls 3 [(0, .ref b), (1, .int (zI (w))), (2, .int (zI (k)))] := hl
  obtain ⟨fs, hP, hf⟩ := id hPre
  refine lv_aload_n hx hb dX9_its_0 rfl (lv_at hl 0 rfl) ?_
  refine va_get (D := g.1) (ci := 9) (v := .ref n) (C := RX9) (T := TX9) (N := 15) hx hb hts hinX9 hown hK hP 0 rfl rfl 11 (by decide) k70 (fun _ h9 => h9) hf dX9_its_1 ?_
  refine lv_bipush (v := zI (58)) hx hb dX9_its_4 (by decide) ?_
  refine lv_bipush (v := zI (13)) hx hb dX9_its_6 (by decide) ?_
  refine lv_iload_n hx hb dX9_its_8 rfl (lv_at hl 1 rfl) ?_
  refine z_imul hx hb dX9_its_9 ?_
  refine z_iadd hx hb dX9_its_10 ?_
  refine lv_iload_n hx hb dX9_its_11 rfl (lv_at hl 2 rfl) ?_
  refine z_iadd hx hb dX9_its_12 ?_
  refine z_iald hx hb hK hP 1 0 rfl rfl (by decide) (58 + 13 * w + k) (by omega) (by omega) dX9_its_13 ?_
  exact W.iret hx hb hr (fun tX htX hWX => ⟨_, rfl, rfl, htX⟩) (fun _ h9 => by cases h9) dX9_its_14

set_option maxHeartbeats 4000000 in
set_option maxRecDepth 100000 in
theorem c_X9_isWorker (l : Launch) (g : GG) (b n : Nat) (N : Nat → Int32) (hN : okN N) (v : Int) (hv : R32 v) : Met l yX9_isWorker wsX9_isWorker ({ frames := 1, cells := 0, slots := 0, locals := 22 }) (gPc g [.ref b, .int (zI (v))] (rdN g b n N)) (vp_Si (fun r : Int32 => r = zI (bz (0 ≤ v ∧ v ≤ (mn N 57 : Int) - 1)))) 0 0 (fun _ => False) := by
  refine Met.ofW (cc := cX9_isWorker) (maxL := 2) (ret := (some .boolean)) (by decide) rfl ?_
  intro p e s m args below meth c s₁ B hml hv
  obtain ⟨rfl, hPre, hK⟩ := hv
  have hx := B.exec
  have hb := B.bytes
  have hr := B.returns
  have hts := atoms_spec (ws := wsX9_isWorker) B.pre
  have hown : s.vm.findClass RX9 = some m.cls := findClass_of_methodNamed B.named
  have hlocks := B.notSynchronized
  have hinX9 : ∀ w ∈ wsX90, w ∈ wsX9_isWorker := by decide +kernel
  have k70 := hts (.fieldLink RX9 70 "HoursBankModel" "now" "[I") (by decide +kernel)
  have hl := lv_entry ([.ref b, .int (zI (v))]) (n := 2) (Nat.le_of_ble_eq_true rfl)
  rw [lg_entry_eq]
  generalize (lg_sl ([.ref b, .int (zI (v))]) ++ List.replicate (2 - (lg_sl ([.ref b, .int (zI (v))])).length) Slot.unset).toArray = ls at hl ⊢
  have hl : lv_has ls 2 [(0, .ref b), (1, .int (zI (v)))] := hl
  obtain ⟨fs, hP, hf⟩ := id hPre
  refine lv_iload_n hx hb dX9_isWorker_0 rfl (lv_at hl 1 rfl) ?_
  refine lv_iconst (v := zI (0)) hx hb dX9_isWorker_1 (by decide) ?_
  refine lv_aload_n hx hb dX9_isWorker_2 rfl (lv_at hl 0 rfl) ?_
  refine va_get (D := g.1) (ci := 9) (v := .ref n) (C := RX9) (T := TX9) (N := 15) hx hb hts hinX9 hown hK hP 0 rfl rfl 11 (by decide) k70 (fun _ h9 => h9) hf dX9_isWorker_3 ?_
  refine lv_bipush (v := zI (57)) hx hb dX9_isWorker_6 (by decide) ?_
  refine z_iald hx hb hK hP 1 0 rfl rfl (by decide) (57) (by omega) (by omega) dX9_isWorker_8 ?_
  refine z_top (y := zI (mn N 57)) (hN.nw.eq) ?_
  refine lv_iconst (v := zI (1)) hx hb dX9_isWorker_9 (by decide) ?_
  refine z_isub hx hb dX9_isWorker_10 ?_
  have hq := hN.nw.le
  refine vp_callSi (va_Run.run (va_runS (As := [.int (zI (v)), .int (zI (0)), .int (zI ((mn N 57) - 1))]) (rest := []) ⟨hx, hb, hml, hown, hts⟩ (c_X9_isIn l (v) (0) ((mn N 57 : Int) - 1) (hv) (by omega) (by omega)) (va_cwS 3 hts gX9_isWorker_X9_isIn rfl rfl rfl (by decide +kernel) ⟨Nat.le_of_ble_eq_true rfl, Nat.le_of_ble_eq_true rfl⟩) g_preS0 rfl rfl hl.1 rfl (lv_room (Nat.le_of_ble_eq_true rfl)) dX9_isWorker_11 ⟨Nat.le_of_ble_eq_true rfl, Nat.le_of_ble_eq_true rfl⟩)) (fun r hr9 => ?_)
  subst hr9
  exact W.zret hx hb hr (bz_nar _) (fun tX htX hWX => ⟨_, rfl, rfl, htX⟩) (fun _ h9 => by cases h9) dX9_isWorker_14

set_option maxHeartbeats 4000000 in
set_option maxRecDepth 100000 in
theorem c_X9_isHere (l : Launch) (g : GG) (b n : Nat) (N : Nat → Int32) (hN : okN N) (v : Int) (hv : R32 v) : Met l yX9_isHere wsX9_isHere ({ frames := 2, cells := 0, slots := 0, locals := 43 }) (gPc g [.ref b, .int (zI (v))] (rdN g b n N)) (vp_Si (fun r : Int32 => r = zI (bz ((0 ≤ v ∧ v ≤ (mn N 57 : Int) - 1) ∧ goneN N v.toNat = 0)))) 0 0 (fun _ => False) := by
  refine Met.ofW (cc := cX9_isHere) (maxL := 2) (ret := (some .boolean)) (by decide) rfl ?_
  intro p e s m args below meth c s₁ B hml hv
  obtain ⟨rfl, hPre, hK⟩ := hv
  have hx := B.exec
  have hb := B.bytes
  have hr := B.returns
  have hts := atoms_spec (ws := wsX9_isHere) B.pre
  have hown : s.vm.findClass RX9 = some m.cls := findClass_of_methodNamed B.named
  have hlocks := B.notSynchronized
  have hl := lv_entry ([.ref b, .int (zI (v))]) (n := 2) (Nat.le_of_ble_eq_true rfl)
  rw [lg_entry_eq]
  generalize (lg_sl ([.ref b, .int (zI (v))]) ++ List.replicate (2 - (lg_sl ([.ref b, .int (zI (v))])).length) Slot.unset).toArray = ls at hl ⊢
  have hl : lv_has ls 2 [(0, .ref b), (1, .int (zI (v)))] := hl
  obtain ⟨fs, hP, hf⟩ := id hPre
  refine lv_aload_n hx hb dX9_isHere_0 rfl (lv_at hl 0 rfl) ?_
  refine lv_iload_n hx hb dX9_isHere_1 rfl (lv_at hl 1 rfl) ?_
  refine vp_callSi (va_Run.run (va_runV (As := [.int (zI (v))]) (rest := []) ⟨hx, hb, hml, hown, hts⟩ (c_X9_isWorker l g (b) (n) (N) (hN) (v) (hv)) (cwV 1 hts gX9_isHere_X9_isWorker rfl rfl rfl (by decide +kernel) ⟨Nat.le_of_ble_eq_true rfl, Nat.le_of_ble_eq_true rfl⟩) (g_preV hPre hK (va_recv hK hP (q0 := 0) (ci := 9) rfl rfl)) rfl rfl hl.1 rfl (lv_room (Nat.le_of_ble_eq_true rfl)) dX9_isHere_2 ⟨Nat.le_of_ble_eq_true rfl, Nat.le_of_ble_eq_true rfl⟩)) (fun r hr9 => ?_)
  subst hr9
  refine z_bz_eq (tgt := 22) hx hb dX9_isHere_5 (by decide) (fun h5 => ?_) (fun h5 => ?_)
  · refine lv_iconst (v := zI (0)) hx hb dX9_isHere_22 (by decide) ?_
    exact W.zret hx hb hr (by decide) (fun tX htX hWX => ⟨_, rfl, bz_0 (by first | omega | (simp only [Int.toNat_natCast]; omega)), htX⟩) (fun _ h9 => by cases h9) dX9_isHere_23
  · have hq := hN.nw.le
    obtain ⟨w, rfl⟩ := Int.eq_ofNat_of_zero_le h5.1
    refine lv_aload_n hx hb dX9_isHere_8 rfl (lv_at hl 0 rfl) ?_
    refine lv_iload_n hx hb dX9_isHere_9 rfl (lv_at hl 1 rfl) ?_
    refine lv_bipush (v := zI (9)) hx hb dX9_isHere_10 (by decide) ?_
    refine vp_callSi (va_Run.run (va_runV (As := [.int (zI (w)), .int (zI (9))]) (rest := []) ⟨hx, hb, hml, hown, hts⟩ (c_X9_its l g (b) (n) (N) (w) (9) (by omega) (by omega)) (cwV 2 hts gX9_isHere_X9_its rfl rfl rfl (by decide +kernel) ⟨Nat.le_of_ble_eq_true rfl, Nat.le_of_ble_eq_true rfl⟩) (g_preV hPre hK (va_recv hK hP (q0 := 0) (ci := 9) rfl rfl)) rfl rfl hl.1 rfl (lv_room (Nat.le_of_ble_eq_true rfl)) dX9_isHere_12 ⟨Nat.le_of_ble_eq_true rfl, Nat.le_of_ble_eq_true rfl⟩)) (fun r hr9 => ?_)
    subst hr9
    refine z_top (y := zI (goneN N w)) ((show N (58 + 13 * w + 9) = N (67 + 13 * w) from congrArg N (by omega)).trans (hN.gone (by omega)).eq) ?_
    refine z_if_ne (tgt := 22) hx hb dX9_isHere_15 (by decide) (by have := (hN.gone (w := w) (by omega)).le; first | omega | (unfold goneN; omega)) (fun h15 => ?_) (fun h15 => ?_)
    · refine lv_iconst (v := zI (0)) hx hb dX9_isHere_22 (by decide) ?_
      exact W.zret hx hb hr (by decide) (fun tX htX hWX => ⟨_, rfl, bz_0 (by first | omega | (simp only [Int.toNat_natCast]; omega)), htX⟩) (fun _ h9 => by cases h9) dX9_isHere_23
    · refine lv_iconst (v := zI (1)) hx hb dX9_isHere_18 (by decide) ?_
      refine lv_goto (tgt := 23) hx hb dX9_isHere_19 (by decide) ?_
      exact W.zret hx hb hr (by decide) (fun tX htX hWX => ⟨_, rfl, bz_1 (by first | omega | (simp only [Int.toNat_natCast]; omega)), htX⟩) (fun _ h9 => by cases h9) dX9_isHere_23
