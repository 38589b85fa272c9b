set_option maxHeartbeats 4000000 in
set_option maxRecDepth 100000 in
theorem c_X9_thrown (l : Launch) (g : GG) (a : Nat → Nat) (sc : Nat → Int32) (wd : Int64) (tp N rd sn : Nat → Int32) : Met l yX9_thrown wsX9_thrown ({ frames := 0, cells := 0, slots := 0, locals := 0 }) (gPc g [.ref ((a 0))] (gP g (mW g a sc wd tp N rd sn))) (vp_Si (fun r : Int32 => r = sc 0)) 0 0 (fun _ => False) := by
  refine Met.ofW (cc := cX9_thrown) (maxL := 1) (ret := (some .int)) (by decide) rfl ?_
  intro p e s m args below meth c s₁ B hml hv
  obtain ⟨rfl, hPre, hK⟩ := hv
  have hx := B.exec
  have hb := B.bytes
  have hr := B.returns
  have hts := atoms_spec (ws := wsX9_thrown) B.pre
  have hown : s.vm.findClass RX9 = some m.cls := findClass_of_methodNamed B.named
  have hlocks := B.notSynchronized
  have hinX9 : ∀ w ∈ wsX90, w ∈ wsX9_thrown := by decide +kernel
  have k1 := hts (.fieldLink RX9 1 "HoursBankModel" "thrown" "I") (by decide +kernel)
  have hl := lv_entry ([.ref ((a 0))]) (n := 1) (Nat.le_of_ble_eq_true rfl)
  rw [lg_entry_eq]
  generalize (lg_sl ([.ref ((a 0))]) ++ List.replicate (1 - (lg_sl ([.ref ((a 0))])).length) Slot.unset).toArray = ls at hl ⊢
  have hl : lv_has ls 1 [(0, .ref ((a 0)))] := hl
  have hP : gP g (mW g a sc wd tp N rd sn) s.heap := hPre
  refine lv_aload_n hx hb dX9_thrown_0 rfl (lv_at hl 0 rfl) ?_
  refine va_get (D := g.1) (ci := 9) (v := .int (sc 0)) (C := RX9) (T := TX9) (N := 15) hx hb hts hinX9 hown hK hP 0 rfl rfl 0 (by decide) k1 (fun _ h9 => h9) rfl dX9_thrown_1 ?_
  exact W.iret hx hb hr (fun tX htX hWX => ⟨_, rfl, rfl, htX⟩) (fun _ h9 => by cases h9) dX9_thrown_4

set_option maxHeartbeats 4000000 in
set_option maxRecDepth 100000 in
theorem c_X9_day (l : Launch) (g : GG) (a : Nat → Nat) (ha : aD a) (sc : Nat → Int32) (wd : Int64) (tp N rd sn : Nat → Int32) (hN : okN N) (v y x : Int) (hv : R32 v) (hy : R32 y) (hx0 : R32 x) : Met l yX9_day wsX9_day ({ frames := 4, cells := 0, slots := 0, locals := 91 }) (gPc g [.ref ((a 0)), .int (zI (v)), .int (zI (y)), .int (zI (x))] (gP g (mW g a sc wd tp N rd sn))) (va_Qi (fun (r : Int32) (_ : Unit) => r = dayF N v y x) (fun (_ : Unit) (tS : State) => gP g (mW g a (upd sc 0 (zI (0))) wd tp N rd sn) tS.heap) (mA a)) 0 0 (mA a) := by
  refine Met.ofW (cc := cX9_day) (maxL := 4) (ret := (some .int)) (by decide) rfl ?_
  intro p e s m args below meth c s₁ B hml hv
  obtain ⟨rfl, hP, hK⟩ := hv
  have hx := B.exec
  have hb := B.bytes
  have hr := B.returns
  have hts := atoms_spec (ws := wsX9_day) B.pre
  have hown : s.vm.findClass RX9 = some m.cls := findClass_of_methodNamed B.named
  have hlocks := B.notSynchronized
  have hinX9 : ∀ w ∈ wsX90, w ∈ wsX9_day := by decide +kernel
  have k1 := hts (.fieldLink RX9 1 "HoursBankModel" "thrown" "I") (by decide +kernel)
  have hl := lv_entry ([.ref ((a 0)), .int (zI (v)), .int (zI (y)), .int (zI (x))]) (n := 4) (Nat.le_of_ble_eq_true rfl)
  rw [lg_entry_eq]
  generalize (lg_sl ([.ref ((a 0)), .int (zI (v)), .int (zI (y)), .int (zI (x))]) ++ List.replicate (4 - (lg_sl ([.ref ((a 0)), .int (zI (v)), .int (zI (y)), .int (zI (x))])).length) Slot.unset).toArray = ls at hl ⊢
  have hl : lv_has ls 4 [(0, .ref ((a 0))), (1, .int (zI (v))), (2, .int (zI (y))), (3, .int (zI (x)))] := hl
  have hS : va_S (mA a) s.heap s.heap [] := va_S.rf
  obtain ⟨H, hH9⟩ : ∃ H, H = s.heap := ⟨_, rfl⟩
  obtain ⟨locs, hL9⟩ : ∃ x : List Loc, x = [] := ⟨_, rfl⟩
  have hP : gP g (mW g a sc wd tp N rd sn) H := hH9 ▸ hP
  have hS : va_S (mA a) s.heap H locs := by rw [hH9, hL9]; exact hS
  refine z_start hH9 hL9 ?_
  clear hH9 hL9
  refine lv_aload_n hx hb dX9_day_0 rfl (lv_at hl 0 rfl) ?_
  refine lv_iconst (v := zI (0)) hx hb dX9_day_1 (by decide) ?_
  refine va_put (D := g.1) (ci := 9) (v := .int (zI (0))) (ty := .int) (C := RX9) (T := TX9) (N := 15) hx hb hts hinX9 tyX9 tyX9_ok nmX9 hown hK hP (mD ha) hS 0 rfl rfl 0 (by decide) k1 (fun _ h9 => h9) rfl (by decide +kernel) rfl rfl (Nat.le_of_ble_eq_true rfl) dX9_day_2 (fun H locs hP _ hS => ?_)
  have hP : gP g (mW g a (upd sc 0 (zI (0))) wd tp N rd sn) H := hP
  refine lv_aload_n hx hb dX9_day_5 rfl (lv_at hl 0 rfl) ?_
  refine lv_iload_n hx hb dX9_day_6 rfl (lv_at hl 1 rfl) ?_
  refine vp_callSi (va_Run.run (va_runV (As := [.int (zI (v))]) (rest := []) ⟨hx, hb, hml, hown, hts⟩ (c_X9_isWorker l g ((a 0)) ((a 2)) (N) (hN) (v) (hv)) (cwV 1 hts gX9_day_X9_isWorker rfl rfl rfl (by decide +kernel) ⟨Nat.le_of_ble_eq_true rfl, Nat.le_of_ble_eq_true rfl⟩) (g_preV (rdN_of hP) hK (va_recv hK hP (q0 := 0) (ci := 9) rfl rfl)) rfl rfl hl.1 rfl (lv_room (Nat.le_of_ble_eq_true rfl)) dX9_day_7 ⟨Nat.le_of_ble_eq_true rfl, Nat.le_of_ble_eq_true rfl⟩)) (fun r hr9 => ?_)
  subst hr9
  refine z_bz_eq (tgt := 20) hx hb dX9_day_10 (by decide) (fun h10 => ?_) (fun h10 => ?_)
  · refine lv_iconst (v := zI (-1)) hx hb dX9_day_20 (by decide) ?_
    exact W.iret hx hb hr (fun tX htX hWX => ⟨⟨_, (), rfl, (dayF_no x (by omega)).symm, g_at htX (hP)⟩, hS.F htX⟩) hS.2.2 dX9_day_21
  · refine lv_iload_n hx hb dX9_day_13 rfl (lv_at hl 2 rfl) ?_
    refine vp_callSi (va_Run.run (va_runS (As := [.int (zI (y))]) (rest := []) ⟨hx, hb, hml, hown, hts⟩ (c_X9_isDay l (y) (hy)) (va_cwS 1 hts gX9_day_X9_isDay rfl rfl rfl (by decide +kernel) ⟨Nat.le_of_ble_eq_true rfl, Nat.le_of_ble_eq_true rfl⟩) g_preS0 rfl rfl hl.1 rfl (lv_room (Nat.le_of_ble_eq_true rfl)) dX9_day_14 ⟨Nat.le_of_ble_eq_true rfl, Nat.le_of_ble_eq_true rfl⟩)) (fun r hr9 => ?_)
    subst hr9
    refine z_bz_ne (tgt := 22) hx hb dX9_day_17 (by decide) (fun h17 => ?_) (fun h17 => ?_)
    · have hq := hN.nw.le
      obtain ⟨w, rfl⟩ := Int.eq_ofNat_of_zero_le h10.1
      obtain ⟨d, rfl⟩ := Int.eq_ofNat_of_zero_le h17.1
      have hw : w < 4 := by omega
      have hd : d < 364 := by omega
      refine lv_iload_n hx hb dX9_day_22 rfl (lv_at hl 3 rfl) ?_
      by_cases q23_0 : x = 0
      · subst q23_0
        refine lv_tableIn (off := 37) (tgt := 60) hx hb dX9_day_23 (by decide) (by decide) (by decide) (by decide) ?_
        refine lv_aload_n hx hb dX9_day_60 rfl (lv_at hl 0 rfl) ?_
        refine lv_iload_n hx hb dX9_day_61 rfl (lv_at hl 1 rfl) ?_
        refine lv_iload_n hx hb dX9_day_62 rfl (lv_at hl 2 rfl) ?_
        refine vp_callSi (va_Run.run (va_runV (As := [.int (zI ((w : Int))), .int (zI ((d : Int)))]) (rest := []) ⟨hx, hb, hml, hown, hts⟩ (c_X9_plannedOf l g ((a 0)) ((a 2)) (N) (hN) (w) (d) (hw) (hd)) (cwV 2 hts gX9_day_X9_plannedOf rfl rfl rfl (by decide +kernel) ⟨Nat.le_of_ble_eq_true rfl, Nat.le_of_ble_eq_true rfl⟩) (g_preV (rdN_of hP) hK (va_recv hK hP (q0 := 0) (ci := 9) rfl rfl)) rfl rfl hl.1 rfl (lv_room (Nat.le_of_ble_eq_true rfl)) dX9_day_63 ⟨Nat.le_of_ble_eq_true rfl, Nat.le_of_ble_eq_true rfl⟩)) (fun r hr9 => ?_)
        subst hr9
        have e9 := dayF_in h10 h17 0
        exact W.iret hx hb hr (fun tX htX hWX => ⟨⟨_, (), rfl, by rw [e9]; rfl, g_at htX (hP)⟩, hS.F htX⟩) hS.2.2 dX9_day_66
      by_cases q23_1 : x = 1
      · subst q23_1
        refine lv_tableIn (off := 44) (tgt := 67) hx hb dX9_day_23 (by decide) (by decide) (by decide) (by decide) ?_
        refine lv_aload_n hx hb dX9_day_67 rfl (lv_at hl 0 rfl) ?_
        refine lv_iload_n hx hb dX9_day_68 rfl (lv_at hl 1 rfl) ?_
        refine lv_iload_n hx hb dX9_day_69 rfl (lv_at hl 2 rfl) ?_
        refine vp_callSi (va_Run.run (va_runV (As := [.int (zI ((w : Int))), .int (zI ((d : Int)))]) (rest := []) ⟨hx, hb, hml, hown, hts⟩ (c_X9_workedOf l g ((a 0)) ((a 2)) (N) (hN) (w) (d) (hw) (hd)) (cwV 2 hts gX9_day_X9_workedOf rfl rfl rfl (by decide +kernel) ⟨Nat.le_of_ble_eq_true rfl, Nat.le_of_ble_eq_true rfl⟩) (g_preV (rdN_of hP) hK (va_recv hK hP (q0 := 0) (ci := 9) rfl rfl)) rfl rfl hl.1 rfl (lv_room (Nat.le_of_ble_eq_true rfl)) dX9_day_70 ⟨Nat.le_of_ble_eq_true rfl, Nat.le_of_ble_eq_true rfl⟩)) (fun r hr9 => ?_)
        subst hr9
        have e9 := dayF_in h10 h17 1
        exact W.iret hx hb hr (fun tX htX hWX => ⟨⟨_, (), rfl, by rw [e9]; rfl, g_at htX (hP)⟩, hS.F htX⟩) hS.2.2 dX9_day_73
      by_cases q23_2 : x = 2
      · subst q23_2
        refine lv_tableIn (off := 51) (tgt := 74) hx hb dX9_day_23 (by decide) (by decide) (by decide) (by decide) ?_
        refine lv_aload_n hx hb dX9_day_74 rfl (lv_at hl 0 rfl) ?_
        refine lv_iload_n hx hb dX9_day_75 rfl (lv_at hl 1 rfl) ?_
        refine lv_iload_n hx hb dX9_day_76 rfl (lv_at hl 2 rfl) ?_
        refine vp_callSi (va_Run.run (va_runV (As := [.int (zI ((w : Int))), .int (zI ((d : Int)))]) (rest := []) ⟨hx, hb, hml, hown, hts⟩ (c_X9_kindOf l g ((a 0)) ((a 2)) (N) (hN) (w) (d) (hw) (hd)) (cwV 2 hts gX9_day_X9_kindOf rfl rfl rfl (by decide +kernel) ⟨Nat.le_of_ble_eq_true rfl, Nat.le_of_ble_eq_true rfl⟩) (g_preV (rdN_of hP) hK (va_recv hK hP (q0 := 0) (ci := 9) rfl rfl)) rfl rfl hl.1 rfl (lv_room (Nat.le_of_ble_eq_true rfl)) dX9_day_77 ⟨Nat.le_of_ble_eq_true rfl, Nat.le_of_ble_eq_true rfl⟩)) (fun r hr9 => ?_)
        subst hr9
        have e9 := dayF_in h10 h17 2
        exact W.iret hx hb hr (fun tX htX hWX => ⟨⟨_, (), rfl, by rw [e9]; rfl, g_at htX (hP)⟩, hS.F htX⟩) hS.2.2 dX9_day_80
      by_cases q23_3 : x = 3
      · subst q23_3
        refine lv_tableIn (off := 58) (tgt := 81) hx hb dX9_day_23 (by decide) (by decide) (by decide) (by decide) ?_
        refine lv_aload_n hx hb dX9_day_81 rfl (lv_at hl 0 rfl) ?_
        refine lv_iload_n hx hb dX9_day_82 rfl (lv_at hl 1 rfl) ?_
        refine lv_iload_n hx hb dX9_day_83 rfl (lv_at hl 2 rfl) ?_
        refine vp_callSi (va_Run.run (va_runV (As := [.int (zI ((w : Int))), .int (zI ((d : Int)))]) (rest := []) ⟨hx, hb, hml, hown, hts⟩ (c_X9_loadOf l g ((a 0)) ((a 2)) (N) (hN) (w) (d) (hw) (hd)) (cwV 2 hts gX9_day_X9_loadOf rfl rfl rfl (by decide +kernel) ⟨Nat.le_of_ble_eq_true rfl, Nat.le_of_ble_eq_true rfl⟩) (g_preV (rdN_of hP) hK (va_recv hK hP (q0 := 0) (ci := 9) rfl rfl)) rfl rfl hl.1 rfl (lv_room (Nat.le_of_ble_eq_true rfl)) dX9_day_84 ⟨Nat.le_of_ble_eq_true rfl, Nat.le_of_ble_eq_true rfl⟩)) (fun r hr9 => ?_)
        subst hr9
        have e9 := dayF_in h10 h17 3
        exact W.iret hx hb hr (fun tX htX hWX => ⟨⟨_, (), rfl, by rw [e9]; rfl, g_at htX (hP)⟩, hS.F htX⟩) hS.2.2 dX9_day_87
      by_cases q23_4 : x = 4
      · subst q23_4
        refine lv_tableIn (off := 65) (tgt := 88) hx hb dX9_day_23 (by decide) (by decide) (by decide) (by decide) ?_
        refine lv_aload_n hx hb dX9_day_88 rfl (lv_at hl 0 rfl) ?_
        refine lv_iload_n hx hb dX9_day_89 rfl (lv_at hl 1 rfl) ?_
        refine lv_iload_n hx hb dX9_day_90 rfl (lv_at hl 2 rfl) ?_
        refine vp_callSi (va_Run.run (va_runV (As := [.int (zI ((w : Int))), .int (zI ((d : Int)))]) (rest := []) ⟨hx, hb, hml, hown, hts⟩ (c_X9_flaggedOf l g ((a 0)) ((a 2)) (N) (hN) (w) (d) (hw) (hd)) (cwV 2 hts gX9_day_X9_flaggedOf rfl rfl rfl (by decide +kernel) ⟨Nat.le_of_ble_eq_true rfl, Nat.le_of_ble_eq_true rfl⟩) (g_preV (rdN_of hP) hK (va_recv hK hP (q0 := 0) (ci := 9) rfl rfl)) rfl rfl hl.1 rfl (lv_room (Nat.le_of_ble_eq_true rfl)) dX9_day_91 ⟨Nat.le_of_ble_eq_true rfl, Nat.le_of_ble_eq_true rfl⟩)) (fun r hr9 => ?_)
        subst hr9
        have e9 := dayF_in h10 h17 4
        exact W.iret hx hb hr (fun tX htX hWX => ⟨⟨_, (), rfl, by rw [e9]; rfl, g_at htX (hP)⟩, hS.F htX⟩) hS.2.2 dX9_day_94
      by_cases q23_5 : x = 5
      · subst q23_5
        refine lv_tableIn (off := 72) (tgt := 95) hx hb dX9_day_23 (by decide) (by decide) (by decide) (by decide) ?_
        refine lv_aload_n hx hb dX9_day_95 rfl (lv_at hl 0 rfl) ?_
        refine lv_iload_n hx hb dX9_day_96 rfl (lv_at hl 1 rfl) ?_
        refine lv_iload_n hx hb dX9_day_97 rfl (lv_at hl 2 rfl) ?_
        refine vp_callSi (va_Run.run (va_runV (As := [.int (zI ((w : Int))), .int (zI ((d : Int)))]) (rest := []) ⟨hx, hb, hml, hown, hts⟩ (c_X9_changedOf l g ((a 0)) ((a 2)) (N) (hN) (w) (d) (hw) (hd)) (cwV 2 hts gX9_day_X9_changedOf rfl rfl rfl (by decide +kernel) ⟨Nat.le_of_ble_eq_true rfl, Nat.le_of_ble_eq_true rfl⟩) (g_preV (rdN_of hP) hK (va_recv hK hP (q0 := 0) (ci := 9) rfl rfl)) rfl rfl hl.1 rfl (lv_room (Nat.le_of_ble_eq_true rfl)) dX9_day_98 ⟨Nat.le_of_ble_eq_true rfl, Nat.le_of_ble_eq_true rfl⟩)) (fun r hr9 => ?_)
        subst hr9
        refine lv_iconst (v := zI (-1)) hx hb dX9_day_101 (by decide) ?_
        have hq5 := hN.chg hw hd
        refine z_icmp_eq (tgt := 109) hx hb dX9_day_102 (by decide) (by omega) (by omega) (fun h102 => ?_) (fun h102 => ?_)
        · refine lv_iconst (v := zI (0)) hx hb dX9_day_109 (by decide) ?_
          have e9 := dayF_in h10 h17 5
          exact W.iret hx hb hr (fun tX htX hWX => ⟨⟨_, (), rfl, by rw [e9]; exact bz_0 (by omega), g_at htX (hP)⟩, hS.F htX⟩) hS.2.2 dX9_day_110
        · refine lv_iconst (v := zI (1)) hx hb dX9_day_105 (by decide) ?_
          refine lv_goto (tgt := 110) hx hb dX9_day_106 (by decide) ?_
          have e9 := dayF_in h10 h17 5
          exact W.iret hx hb hr (fun tX htX hWX => ⟨⟨_, (), rfl, by rw [e9]; exact bz_1 (by omega), g_at htX (hP)⟩, hS.F htX⟩) hS.2.2 dX9_day_110
      refine lv_tableOut (tgt := 111) hx hb dX9_day_23 (by rw [zI_toInt hx0]; omega) (by decide) ?_
      refine lv_iconst (v := zI (-1)) hx hb dX9_day_111 (by decide) ?_
      have e9 := dayF_in h10 h17 x
      exact W.iret hx hb hr (fun tX htX hWX => ⟨⟨_, (), rfl, by rw [e9, dyF, if_neg q23_0, if_neg q23_1, if_neg q23_2, if_neg q23_3, if_neg q23_4, if_neg q23_5], g_at htX (hP)⟩, hS.F htX⟩) hS.2.2 dX9_day_112
    · refine lv_iconst (v := zI (-1)) hx hb dX9_day_20 (by decide) ?_
      exact W.iret hx hb hr (fun tX htX hWX => ⟨⟨_, (), rfl, (dayF_no x (by omega)).symm, g_at htX (hP)⟩, hS.F htX⟩) hS.2.2 dX9_day_21

set_option maxHeartbeats 4000000 in
set_option maxRecDepth 100000 in
theorem c_X9_load (l : Launch) (g : GG) (a : Nat → Nat) (ha : aD a) (sc : Nat → Int32) (wd : Int64) (tp N rd sn : Nat → Int32) (hN : okN N) (v y : Int) (hv : R32 v) (hy : R32 y) : Met l yX9_load wsX9_load ({ frames := 5, cells := 0, slots := 0, locals := 116 }) (gPc g [.ref ((a 0)), .int (zI (v)), .int (zI (y))] (gP g (mW g a sc wd tp N rd sn))) (va_Qi (fun (r : Int32) (_ : Unit) => r = loadF N v y) (fun (_ : Unit) (tS : State) => gP g (mW g a (upd sc 0 (zI (0))) wd tp N rd sn) tS.heap) (mA a)) 0 0 (mA a) := by
  refine Met.ofW (cc := cX9_load) (maxL := 3) (ret := (some .int)) (by decide) rfl ?_
  intro p e s m args below meth c s₁ B hml hv
  obtain ⟨rfl, hP, hK⟩ := hv
  have hx := B.exec
  have hb := B.bytes
  have hr := B.returns
  have hts := atoms_spec (ws := wsX9_load) B.pre
  have hown : s.vm.findClass RX9 = some m.cls := findClass_of_methodNamed B.named
  have hlocks := B.notSynchronized
  have hinX9 : ∀ w ∈ wsX90, w ∈ wsX9_load := by decide +kernel
  have k1 := hts (.fieldLink RX9 1 "HoursBankModel" "thrown" "I") (by decide +kernel)
  have k70 := hts (.fieldLink RX9 70 "HoursBankModel" "now" "[I") (by decide +kernel)
  have hl := lv_entry ([.ref ((a 0)), .int (zI (v)), .int (zI (y))]) (n := 3) (Nat.le_of_ble_eq_true rfl)
  rw [lg_entry_eq]
  generalize (lg_sl ([.ref ((a 0)), .int (zI (v)), .int (zI (y))]) ++ List.replicate (3 - (lg_sl ([.ref ((a 0)), .int (zI (v)), .int (zI (y))])).length) Slot.unset).toArray = ls at hl ⊢
  have hl : lv_has ls 3 [(0, .ref ((a 0))), (1, .int (zI (v))), (2, .int (zI (y)))] := hl
  have hS : va_S (mA a) s.heap s.heap [] := va_S.rf
  obtain ⟨H, hH9⟩ : ∃ H, H = s.heap := ⟨_, rfl⟩
  obtain ⟨locs, hL9⟩ : ∃ x : List Loc, x = [] := ⟨_, rfl⟩
  have hP : gP g (mW g a sc wd tp N rd sn) H := hH9 ▸ hP
  have hS : va_S (mA a) s.heap H locs := by rw [hH9, hL9]; exact hS
  refine z_start hH9 hL9 ?_
  clear hH9 hL9
  refine lv_aload_n hx hb dX9_load_0 rfl (lv_at hl 0 rfl) ?_
  refine lv_iconst (v := zI (0)) hx hb dX9_load_1 (by decide) ?_
  refine va_put (D := g.1) (ci := 9) (v := .int (zI (0))) (ty := .int) (C := RX9) (T := TX9) (N := 15) hx hb hts hinX9 tyX9 tyX9_ok nmX9 hown hK hP (mD ha) hS 0 rfl rfl 0 (by decide) k1 (fun _ h9 => h9) rfl (by decide +kernel) rfl rfl (Nat.le_of_ble_eq_true rfl) dX9_load_2 (fun H locs hP _ hS => ?_)
  have hP : gP g (mW g a (upd sc 0 (zI (0))) wd tp N rd sn) H := hP
  refine lv_aload_n hx hb dX9_load_5 rfl (lv_at hl 0 rfl) ?_
  refine lv_iload_n hx hb dX9_load_6 rfl (lv_at hl 1 rfl) ?_
  refine vp_callSi (va_Run.run (va_runV (As := [.int (zI (v))]) (rest := []) ⟨hx, hb, hml, hown, hts⟩ (c_X9_isWorker l g ((a 0)) ((a 2)) (N) (hN) (v) (hv)) (cwV 1 hts gX9_load_X9_isWorker rfl rfl rfl (by decide +kernel) ⟨Nat.le_of_ble_eq_true rfl, Nat.le_of_ble_eq_true rfl⟩) (g_preV (rdN_of hP) hK (va_recv hK hP (q0 := 0) (ci := 9) rfl rfl)) rfl rfl hl.1 rfl (lv_room (Nat.le_of_ble_eq_true rfl)) dX9_load_7 ⟨Nat.le_of_ble_eq_true rfl, Nat.le_of_ble_eq_true rfl⟩)) (fun r hr9 => ?_)
  subst hr9
  refine z_bz_eq (tgt := 39) hx hb dX9_load_10 (by decide) (fun h10 => ?_) (fun h10 => ?_)
  · refine lv_iconst (v := zI (-1)) hx hb dX9_load_39 (by decide) ?_
    exact W.iret hx hb hr (fun tX htX hWX => ⟨⟨_, (), rfl, by unfold loadF; rw [if_neg (by omega)], g_at htX (hP)⟩, hS.F htX⟩) hS.2.2 dX9_load_40
  · refine lv_iload_n hx hb dX9_load_13 rfl (lv_at hl 2 rfl) ?_
    refine vp_callSi (va_Run.run (va_runS (As := [.int (zI (y))]) (rest := []) ⟨hx, hb, hml, hown, hts⟩ (c_X9_isDay l (y) (hy)) (va_cwS 1 hts gX9_load_X9_isDay rfl rfl rfl (by decide +kernel) ⟨Nat.le_of_ble_eq_true rfl, Nat.le_of_ble_eq_true rfl⟩) g_preS0 rfl rfl hl.1 rfl (lv_room (Nat.le_of_ble_eq_true rfl)) dX9_load_14 ⟨Nat.le_of_ble_eq_true rfl, Nat.le_of_ble_eq_true rfl⟩)) (fun r hr9 => ?_)
    subst hr9
    refine z_bz_eq (tgt := 39) hx hb dX9_load_17 (by decide) (fun h17 => ?_) (fun h17 => ?_)
    · refine lv_iconst (v := zI (-1)) hx hb dX9_load_39 (by decide) ?_
      exact W.iret hx hb hr (fun tX htX hWX => ⟨⟨_, (), rfl, by unfold loadF; rw [if_neg (by omega)], g_at htX (hP)⟩, hS.F htX⟩) hS.2.2 dX9_load_40
    · have hq := hN.nw.le
      obtain ⟨w, rfl⟩ := Int.eq_ofNat_of_zero_le h10.1
      obtain ⟨d, rfl⟩ := Int.eq_ofNat_of_zero_le h17.1
      have hw : w < 4 := by omega
      have hd : d < 364 := by omega
      refine lv_aload_n hx hb dX9_load_20 rfl (lv_at hl 0 rfl) ?_
      refine lv_iload_n hx hb dX9_load_21 rfl (lv_at hl 1 rfl) ?_
      refine lv_iload_n hx hb dX9_load_22 rfl (lv_at hl 2 rfl) ?_
      refine lv_aload_n hx hb dX9_load_23 rfl (lv_at hl 0 rfl) ?_
      refine va_get (D := g.1) (ci := 9) (v := .ref ((a 2))) (C := RX9) (T := TX9) (N := 15) hx hb hts hinX9 hown hK hP 0 rfl rfl 11 (by decide) k70 (fun _ h9 => h9) rfl dX9_load_24 ?_
      refine lv_iconst (v := zI (2)) hx hb dX9_load_27 (by decide) ?_
      refine z_iald hx hb hK hP 2 0 rfl rfl (by decide) (2) (by omega) (by omega) dX9_load_28 ?_
      refine z_top (y := zI (mn N 2)) (hN.win.eq) ?_
      refine z_isub hx hb dX9_load_29 ?_
      refine lv_iconst (v := zI (1)) hx hb dX9_load_30 (by decide) ?_
      refine z_iadd hx hb dX9_load_31 ?_
      refine lv_iload_n hx hb dX9_load_32 rfl (lv_at hl 2 rfl) ?_
      have hq6 := hN.win.le
      refine vp_callSi (va_Run.run (va_runV (As := [.int (zI ((w : Int))), .int (zI (((d : Int) - (mn N 2)) + 1)), .int (zI ((d : Int)))]) (rest := []) ⟨hx, hb, hml, hown, hts⟩ (c_X9_loads l g ((a 0)) ((a 2)) (N) (hN) (w) (d - mn N 2 + 1) (d) (hw) (by omega) (by omega)) (cwV 3 hts gX9_load_X9_loads rfl rfl rfl (by decide +kernel) ⟨Nat.le_of_ble_eq_true rfl, Nat.le_of_ble_eq_true rfl⟩) (g_preV (rdN_of hP) hK (va_recv hK hP (q0 := 0) (ci := 9) rfl rfl)) rfl rfl hl.1 rfl (lv_room (Nat.le_of_ble_eq_true rfl)) dX9_load_33 ⟨Nat.le_of_ble_eq_true rfl, Nat.le_of_ble_eq_true rfl⟩)) (fun r hr9 => ?_)
      subst hr9
      refine lv_goto (tgt := 40) hx hb dX9_load_36 (by decide) ?_
      exact W.iret hx hb hr (fun tX htX hWX => ⟨⟨_, (), rfl, by unfold loadF; rw [if_pos ⟨h10, h17⟩]; rfl, g_at htX (hP)⟩, hS.F htX⟩) hS.2.2 dX9_load_40

set_option maxHeartbeats 4000000 in
set_option maxRecDepth 100000 in
theorem c_X9_room (l : Launch) (g : GG) (a : Nat → Nat) (ha : aD a) (sc : Nat → Int32) (wd : Int64) (tp N rd sn : Nat → Int32) (hN : okN N) (v : Int) (hv : R32 v) : Met l yX9_room wsX9_room ({ frames := 5, cells := 0, slots := 0, locals := 116 }) (gPc g [.ref ((a 0)), .int (zI (v))] (gP g (mW g a sc wd tp N rd sn))) (va_Qi (fun (r : Int32) (_ : Unit) => r = roomF N v) (fun (_ : Unit) (tS : State) => gP g (mW g a (upd sc 0 (zI (0))) wd tp N rd sn) tS.heap) (mA a)) 0 0 (mA a) := by
  refine Met.ofW (cc := cX9_room) (maxL := 3) (ret := (some .int)) (by decide) rfl ?_
  intro p e s m args below meth c s₁ B hml hv
  obtain ⟨rfl, hP, hK⟩ := hv
  have hx := B.exec
  have hb := B.bytes
  have hr := B.returns
  have hts := atoms_spec (ws := wsX9_room) B.pre
  have hown : s.vm.findClass RX9 = some m.cls := findClass_of_methodNamed B.named
  have hlocks := B.notSynchronized
  have hinX9 : ∀ w ∈ wsX90, w ∈ wsX9_room := by decide +kernel
  have k1 := hts (.fieldLink RX9 1 "HoursBankModel" "thrown" "I") (by decide +kernel)
  have k70 := hts (.fieldLink RX9 70 "HoursBankModel" "now" "[I") (by decide +kernel)
  have hl := lv_entry ([.ref ((a 0)), .int (zI (v))]) (n := 3) (Nat.le_of_ble_eq_true rfl)
  rw [lg_entry_eq]
  generalize (lg_sl ([.ref ((a 0)), .int (zI (v))]) ++ List.replicate (3 - (lg_sl ([.ref ((a 0)), .int (zI (v))])).length) Slot.unset).toArray = ls at hl ⊢
  have hl : lv_has ls 3 [(0, .ref ((a 0))), (1, .int (zI (v)))] := hl
  have hS : va_S (mA a) s.heap s.heap [] := va_S.rf
  obtain ⟨H, hH9⟩ : ∃ H, H = s.heap := ⟨_, rfl⟩
  obtain ⟨locs, hL9⟩ : ∃ x : List Loc, x = [] := ⟨_, rfl⟩
  have hP : gP g (mW g a sc wd tp N rd sn) H := hH9 ▸ hP
  have hS : va_S (mA a) s.heap H locs := by rw [hH9, hL9]; exact hS
  refine z_start hH9 hL9 ?_
  clear hH9 hL9
  refine lv_aload_n hx hb dX9_room_0 rfl (lv_at hl 0 rfl) ?_
  refine lv_iconst (v := zI (0)) hx hb dX9_room_1 (by decide) ?_
  refine va_put (D := g.1) (ci := 9) (v := .int (zI (0))) (ty := .int) (C := RX9) (T := TX9) (N := 15) hx hb hts hinX9 tyX9 tyX9_ok nmX9 hown hK hP (mD ha) hS 0 rfl rfl 0 (by decide) k1 (fun _ h9 => h9) rfl (by decide +kernel) rfl rfl (Nat.le_of_ble_eq_true rfl) dX9_room_2 (fun H locs hP _ hS => ?_)
  have hP : gP g (mW g a (upd sc 0 (zI (0))) wd tp N rd sn) H := hP
  refine lv_aload_n hx hb dX9_room_5 rfl (lv_at hl 0 rfl) ?_
  refine lv_iload_n hx hb dX9_room_6 rfl (lv_at hl 1 rfl) ?_
  refine vp_callSi (va_Run.run (va_runV (As := [.int (zI (v))]) (rest := []) ⟨hx, hb, hml, hown, hts⟩ (c_X9_isHere l g ((a 0)) ((a 2)) (N) (hN) (v) (hv)) (cwV 1 hts gX9_room_X9_isHere rfl rfl rfl (by decide +kernel) ⟨Nat.le_of_ble_eq_true rfl, Nat.le_of_ble_eq_true rfl⟩) (g_preV (rdN_of hP) hK (va_recv hK hP (q0 := 0) (ci := 9) rfl rfl)) rfl rfl hl.1 rfl (lv_room (Nat.le_of_ble_eq_true rfl)) dX9_room_7 ⟨Nat.le_of_ble_eq_true rfl, Nat.le_of_ble_eq_true rfl⟩)) (fun r hr9 => ?_)
  subst hr9
  refine z_bz_eq (tgt := 23) hx hb dX9_room_10 (by decide) (fun h10 => ?_) (fun h10 => ?_)
  · refine lv_iconst (v := zI (-1)) hx hb dX9_room_23 (by decide) ?_
    exact W.iret hx hb hr (fun tX htX hWX => ⟨⟨_, (), rfl, by unfold roomF; first | rw [if_neg (fun q9 => h10 q9.1)] | rw [if_neg (fun q9 => q9.2 (by omega))], g_at htX (hP)⟩, hS.F htX⟩) hS.2.2 dX9_room_24
  · have hq := hN.nw.le
    obtain ⟨⟨hv0, hv1⟩, hgo⟩ := h10
    obtain ⟨w, rfl⟩ := Int.eq_ofNat_of_zero_le hv0
    have hw : w < 4 := by omega
    refine lv_aload_n hx hb dX9_room_13 rfl (lv_at hl 0 rfl) ?_
    refine vp_callSi (va_Run.run (va_runV (As := []) (rest := []) ⟨hx, hb, hml, hown, hts⟩ (c_X9_today l g ((a 0)) ((a 2)) (N) (hN)) (cwV 0 hts gX9_room_X9_today rfl rfl rfl (by decide +kernel) ⟨Nat.le_of_ble_eq_true rfl, Nat.le_of_ble_eq_true rfl⟩) (g_preV (rdN_of hP) hK (va_recv hK hP (q0 := 0) (ci := 9) rfl rfl)) rfl rfl hl.1 rfl (lv_room (Nat.le_of_ble_eq_true rfl)) dX9_room_14 ⟨Nat.le_of_ble_eq_true rfl, Nat.le_of_ble_eq_true rfl⟩)) (fun r hr9 => ?_)
    subst hr9
    refine lv_sipush (v := zI (364)) hx hb dX9_room_17 (by decide) ?_
    have hq1 := hN.td.le
    refine z_icmp_ne (tgt := 25) hx hb dX9_room_20 (by decide) (by omega) (by omega) (fun h20 => ?_) (fun h20 => ?_)
    · refine lv_aload_n hx hb dX9_room_25 rfl (lv_at hl 0 rfl) ?_
      refine va_get (D := g.1) (ci := 9) (v := .ref ((a 2))) (C := RX9) (T := TX9) (N := 15) hx hb hts hinX9 hown hK hP 0 rfl rfl 11 (by decide) k70 (fun _ h9 => h9) rfl dX9_room_26 ?_
      refine lv_iconst (v := zI (3)) hx hb dX9_room_29 (by decide) ?_
      refine z_iald hx hb hK hP 2 0 rfl rfl (by decide) (3) (by omega) (by omega) dX9_room_30 ?_
      refine z_top (y := zI (mn N 3)) (hN.lim.eq) ?_
      refine lv_aload_n hx hb dX9_room_31 rfl (lv_at hl 0 rfl) ?_
      refine lv_iload_n hx hb dX9_room_32 rfl (lv_at hl 1 rfl) ?_
      refine lv_aload_n hx hb dX9_room_33 rfl (lv_at hl 0 rfl) ?_
      refine vp_callSi (va_Run.run (va_runV (As := []) (rest := [.int (zI ((w : Int))), .ref ((a 0)), .int (zI (mn N 3))]) ⟨hx, hb, hml, hown, hts⟩ (c_X9_today l g ((a 0)) ((a 2)) (N) (hN)) (cwV 0 hts gX9_room_X9_today rfl rfl rfl (by decide +kernel) ⟨Nat.le_of_ble_eq_true rfl, Nat.le_of_ble_eq_true rfl⟩) (g_preV (rdN_of hP) hK (va_recv hK hP (q0 := 0) (ci := 9) rfl rfl)) rfl rfl hl.1 rfl (lv_room (Nat.le_of_ble_eq_true rfl)) dX9_room_34 ⟨Nat.le_of_ble_eq_true rfl, Nat.le_of_ble_eq_true rfl⟩)) (fun r hr9 => ?_)
      subst hr9
      refine lv_aload_n hx hb dX9_room_37 rfl (lv_at hl 0 rfl) ?_
      refine va_get (D := g.1) (ci := 9) (v := .ref ((a 2))) (C := RX9) (T := TX9) (N := 15) hx hb hts hinX9 hown hK hP 0 rfl rfl 11 (by decide) k70 (fun _ h9 => h9) rfl dX9_room_38 ?_
      refine lv_iconst (v := zI (2)) hx hb dX9_room_41 (by decide) ?_
      refine z_iald hx hb hK hP 2 0 rfl rfl (by decide) (2) (by omega) (by omega) dX9_room_42 ?_
      refine z_top (y := zI (mn N 2)) (hN.win.eq) ?_
      refine z_isub hx hb dX9_room_43 ?_
      refine lv_iconst (v := zI (1)) hx hb dX9_room_44 (by decide) ?_
      refine z_iadd hx hb dX9_room_45 ?_
      refine lv_aload_n hx hb dX9_room_46 rfl (lv_at hl 0 rfl) ?_
      refine vp_callSi (va_Run.run (va_runV (As := []) (rest := [.int (zI (((mn N 110) - (mn N 2)) + 1)), .int (zI ((w : Int))), .ref ((a 0)), .int (zI (mn N 3))]) ⟨hx, hb, hml, hown, hts⟩ (c_X9_today l g ((a 0)) ((a 2)) (N) (hN)) (cwV 0 hts gX9_room_X9_today rfl rfl rfl (by decide +kernel) ⟨Nat.le_of_ble_eq_true rfl, Nat.le_of_ble_eq_true rfl⟩) (g_preV (rdN_of hP) hK (va_recv hK hP (q0 := 0) (ci := 9) rfl rfl)) rfl rfl hl.1 rfl (lv_room (Nat.le_of_ble_eq_true rfl)) dX9_room_47 ⟨Nat.le_of_ble_eq_true rfl, Nat.le_of_ble_eq_true rfl⟩)) (fun r hr9 => ?_)
      subst hr9
      refine lv_iconst (v := zI (1)) hx hb dX9_room_50 (by decide) ?_
      refine z_isub hx hb dX9_room_51 ?_
      have hq2 := hN.win.le
      have hq3 := hN.lim.le
      refine vp_callSi (va_Run.run (va_runV (As := [.int (zI ((w : Int))), .int (zI (((mn N 110) - (mn N 2)) + 1)), .int (zI ((mn N 110) - 1))]) (rest := [.int (zI (mn N 3))]) ⟨hx, hb, hml, hown, hts⟩ (c_X9_loads l g ((a 0)) ((a 2)) (N) (hN) (w) ((mn N 110 : Int) - mn N 2 + 1) ((mn N 110 : Int) - 1) (hw) (by omega) (by omega)) (cwV 3 hts gX9_room_X9_loads rfl rfl rfl (by decide +kernel) ⟨Nat.le_of_ble_eq_true rfl, Nat.le_of_ble_eq_true rfl⟩) (g_preV (rdN_of hP) hK (va_recv hK hP (q0 := 0) (ci := 9) rfl rfl)) rfl rfl hl.1 rfl (lv_room (Nat.le_of_ble_eq_true rfl)) dX9_room_52 ⟨Nat.le_of_ble_eq_true rfl, Nat.le_of_ble_eq_true rfl⟩)) (fun r hr9 => ?_)
      subst hr9
      have hq4 : ldS N w ((mn N 110 : Int) - mn N 2 + 1) ((mn N 110 : Int) - 1) ≤ 1000000 := Nat.le_trans (sumN_le (B := 96) _ (fun i hi => load_le hN hw (by omega))) (by omega)
      refine z_isub hx hb dX9_room_55 ?_
      refine lv_istore_n (lv' := [(2, .int (zI ((mn N 3) - (ldS N w ((mn N 110 : Int) - mn N 2 + 1) ((mn N 110 : Int) - 1))))), (0, .ref ((a 0))), (1, .int (zI ((w : Int))))]) hx hb dX9_room_56 rfl hl (by decide) rfl (fun ls hl => ?_)
      refine lv_iload_n hx hb dX9_room_57 rfl (lv_at hl 0 rfl) ?_
      refine z_if_ge (tgt := 66) hx hb dX9_room_58 (by decide) (by omega) (fun h58 => ?_) (fun h58 => ?_)
      · refine lv_iload_n hx hb dX9_room_66 rfl (lv_at hl 0 rfl) ?_
        refine lv_bipush (v := zI (96)) hx hb dX9_room_67 (by decide) ?_
        refine z_icmp_le (tgt := 77) hx hb dX9_room_69 (by decide) (by omega) (by omega) (fun h69 => ?_) (fun h69 => ?_)
        · refine lv_iload_n hx hb dX9_room_77 rfl (lv_at hl 0 rfl) ?_
          exact W.iret hx hb hr (fun tX htX hWX => ⟨⟨_, (), rfl, by unfold roomF; rw [if_pos ⟨⟨⟨hv0, hv1⟩, hgo⟩, by omega⟩]; exact congrArg zI (by unfold rmI; simp only [Int.toNat_natCast]; (repeat' split) <;> omega), g_at htX (hP)⟩, hS.F htX⟩) hS.2.2 dX9_room_78
        · refine lv_bipush (v := zI (96)) hx hb dX9_room_72 (by decide) ?_
          refine lv_goto (tgt := 78) hx hb dX9_room_74 (by decide) ?_
          exact W.iret hx hb hr (fun tX htX hWX => ⟨⟨_, (), rfl, by unfold roomF; rw [if_pos ⟨⟨⟨hv0, hv1⟩, hgo⟩, by omega⟩]; exact congrArg zI (by unfold rmI; simp only [Int.toNat_natCast]; (repeat' split) <;> omega), g_at htX (hP)⟩, hS.F htX⟩) hS.2.2 dX9_room_78
      · refine lv_bipush (v := zI (-2)) hx hb dX9_room_61 (by decide) ?_
        refine lv_goto (tgt := 78) hx hb dX9_room_63 (by decide) ?_
        exact W.iret hx hb hr (fun tX htX hWX => ⟨⟨_, (), rfl, by unfold roomF; rw [if_pos ⟨⟨⟨hv0, hv1⟩, hgo⟩, by omega⟩]; exact congrArg zI (by unfold rmI; simp only [Int.toNat_natCast]; (repeat' split) <;> omega), g_at htX (hP)⟩, hS.F htX⟩) hS.2.2 dX9_room_78
    · refine lv_iconst (v := zI (-1)) hx hb dX9_room_23 (by decide) ?_
      exact W.iret hx hb hr (fun tX htX hWX => ⟨⟨_, (), rfl, by unfold roomF; first | rw [if_neg (fun q9 => h10 q9.1)] | rw [if_neg (fun q9 => q9.2 (by omega))], g_at htX (hP)⟩, hS.F htX⟩) hS.2.2 dX9_room_24

set_option maxHeartbeats 4000000 in
set_option maxRecDepth 100000 in
theorem c_X9_planned (l : Launch) (g : GG) (a : Nat → Nat) (ha : aD a) (sc : Nat → Int32) (wd : Int64) (tp N rd sn : Nat → Int32) (hN : okN N) (v x y : Int) (hv : R32 v) (hx0 : R32 x) (hy : R32 y) : Met l yX9_planned wsX9_planned ({ frames := 3, cells := 0, slots := 0, locals := 68 }) (gPc g [.ref ((a 0)), .int (zI (v)), .int (zI (x)), .int (zI (y))] (gP g (mW g a sc wd tp N rd sn))) (va_Qi (fun (r : Int32) (_ : Unit) => r = plannedF N v x y) (fun (_ : Unit) (tS : State) => gP g (mW g a (upd sc 0 (zI (0))) wd tp N rd sn) tS.heap) (mA a)) 0 0 (mA a) := by
  refine Met.ofW (cc := cX9_planned) (maxL := 6) (ret := (some .int)) (by decide) rfl ?_
  intro p e s m args below meth c s₁ B hml hv
  obtain ⟨rfl, hP, hK⟩ := hv
  have hx := B.exec
  have hb := B.bytes
  have hr := B.returns
  have hts := atoms_spec (ws := wsX9_planned) B.pre
  have hown : s.vm.findClass RX9 = some m.cls := findClass_of_methodNamed B.named
  have hlocks := B.notSynchronized
  have hinX9 : ∀ w ∈ wsX90, w ∈ wsX9_planned := by decide +kernel
  have k1 := hts (.fieldLink RX9 1 "HoursBankModel" "thrown" "I") (by decide +kernel)
  have hl := lv_entry ([.ref ((a 0)), .int (zI (v)), .int (zI (x)), .int (zI (y))]) (n := 6) (Nat.le_of_ble_eq_true rfl)
  rw [lg_entry_eq]
  generalize (lg_sl ([.ref ((a 0)), .int (zI (v)), .int (zI (x)), .int (zI (y))]) ++ List.replicate (6 - (lg_sl ([.ref ((a 0)), .int (zI (v)), .int (zI (x)), .int (zI (y))])).length) Slot.unset).toArray = ls at hl ⊢
  have hl : lv_has ls 6 [(0, .ref ((a 0))), (1, .int (zI (v))), (2, .int (zI (x))), (3, .int (zI (y)))] := hl
  have hS : va_S (mA a) s.heap s.heap [] := va_S.rf
  obtain ⟨H, hH9⟩ : ∃ H, H = s.heap := ⟨_, rfl⟩
  obtain ⟨locs, hL9⟩ : ∃ x : List Loc, x = [] := ⟨_, rfl⟩
  have hP : gP g (mW g a sc wd tp N rd sn) H := hH9 ▸ hP
  have hS : va_S (mA a) s.heap H locs := by rw [hH9, hL9]; exact hS
  refine z_start hH9 hL9 ?_
  clear hH9 hL9
  refine lv_aload_n hx hb dX9_planned_0 rfl (lv_at hl 0 rfl) ?_
  refine lv_iconst (v := zI (0)) hx hb dX9_planned_1 (by decide) ?_
  refine va_put (D := g.1) (ci := 9) (v := .int (zI (0))) (ty := .int) (C := RX9) (T := TX9) (N := 15) hx hb hts hinX9 tyX9 tyX9_ok nmX9 hown hK hP (mD ha) hS 0 rfl rfl 0 (by decide) k1 (fun _ h9 => h9) rfl (by decide +kernel) rfl rfl (Nat.le_of_ble_eq_true rfl) dX9_planned_2 (fun H locs hP _ hS => ?_)
  have hP : gP g (mW g a (upd sc 0 (zI (0))) wd tp N rd sn) H := hP
  refine lv_aload_n hx hb dX9_planned_5 rfl (lv_at hl 0 rfl) ?_
  refine lv_iload_n hx hb dX9_planned_6 rfl (lv_at hl 1 rfl) ?_
  refine vp_callSi (va_Run.run (va_runV (As := [.int (zI (v))]) (rest := []) ⟨hx, hb, hml, hown, hts⟩ (c_X9_isWorker l g ((a 0)) ((a 2)) (N) (hN) (v) (hv)) (cwV 1 hts gX9_planned_X9_isWorker rfl rfl rfl (by decide +kernel) ⟨Nat.le_of_ble_eq_true rfl, Nat.le_of_ble_eq_true rfl⟩) (g_preV (rdN_of hP) hK (va_recv hK hP (q0 := 0) (ci := 9) rfl rfl)) rfl rfl hl.1 rfl (lv_room (Nat.le_of_ble_eq_true rfl)) dX9_planned_7 ⟨Nat.le_of_ble_eq_true rfl, Nat.le_of_ble_eq_true rfl⟩)) (fun r hr9 => ?_)
  subst hr9
  refine z_bz_eq (tgt := 32) hx hb dX9_planned_10 (by decide) (fun h10 => ?_) (fun h10 => ?_)
  · refine lv_iconst (v := zI (-1)) hx hb dX9_planned_32 (by decide) ?_
    exact W.iret hx hb hr (fun tX htX hWX => ⟨⟨_, (), rfl, by unfold plannedF; rw [if_neg (by omega)], g_at htX (hP)⟩, hS.F htX⟩) hS.2.2 dX9_planned_33
  · refine lv_iload_n hx hb dX9_planned_13 rfl (lv_at hl 2 rfl) ?_
    refine vp_callSi (va_Run.run (va_runS (As := [.int (zI (x))]) (rest := []) ⟨hx, hb, hml, hown, hts⟩ (c_X9_isDay l (x) (hx0)) (va_cwS 1 hts gX9_planned_X9_isDay rfl rfl rfl (by decide +kernel) ⟨Nat.le_of_ble_eq_true rfl, Nat.le_of_ble_eq_true rfl⟩) g_preS0 rfl rfl hl.1 rfl (lv_room (Nat.le_of_ble_eq_true rfl)) dX9_planned_14 ⟨Nat.le_of_ble_eq_true rfl, Nat.le_of_ble_eq_true rfl⟩)) (fun r hr9 => ?_)
    subst hr9
    refine z_bz_eq (tgt := 32) hx hb dX9_planned_17 (by decide) (fun h17 => ?_) (fun h17 => ?_)
    · refine lv_iconst (v := zI (-1)) hx hb dX9_planned_32 (by decide) ?_
      exact W.iret hx hb hr (fun tX htX hWX => ⟨⟨_, (), rfl, by unfold plannedF; rw [if_neg (by omega)], g_at htX (hP)⟩, hS.F htX⟩) hS.2.2 dX9_planned_33
    · refine lv_iload_n hx hb dX9_planned_20 rfl (lv_at hl 3 rfl) ?_
      refine vp_callSi (va_Run.run (va_runS (As := [.int (zI (y))]) (rest := []) ⟨hx, hb, hml, hown, hts⟩ (c_X9_isDay l (y) (hy)) (va_cwS 1 hts gX9_planned_X9_isDay rfl rfl rfl (by decide +kernel) ⟨Nat.le_of_ble_eq_true rfl, Nat.le_of_ble_eq_true rfl⟩) g_preS0 rfl rfl hl.1 rfl (lv_room (Nat.le_of_ble_eq_true rfl)) dX9_planned_21 ⟨Nat.le_of_ble_eq_true rfl, Nat.le_of_ble_eq_true rfl⟩)) (fun r hr9 => ?_)
      subst hr9
      refine z_bz_eq (tgt := 32) hx hb dX9_planned_24 (by decide) (fun h24 => ?_) (fun h24 => ?_)
      · refine lv_iconst (v := zI (-1)) hx hb dX9_planned_32 (by decide) ?_
        exact W.iret hx hb hr (fun tX htX hWX => ⟨⟨_, (), rfl, by unfold plannedF; rw [if_neg (by omega)], g_at htX (hP)⟩, hS.F htX⟩) hS.2.2 dX9_planned_33
      · refine lv_iload_n hx hb dX9_planned_27 rfl (lv_at hl 2 rfl) ?_
        refine lv_iload_n hx hb dX9_planned_28 rfl (lv_at hl 3 rfl) ?_
        refine z_icmp_le (tgt := 34) hx hb dX9_planned_29 (by decide) (by omega) (by omega) (fun h29 => ?_) (fun h29 => ?_)
        · have hq := hN.nw.le
          obtain ⟨w, rfl⟩ := Int.eq_ofNat_of_zero_le h10.1
          obtain ⟨x, rfl⟩ := Int.eq_ofNat_of_zero_le h17.1
          obtain ⟨y, rfl⟩ := Int.eq_ofNat_of_zero_le h24.1
          have hw : w < 4 := by omega
          refine lv_iconst (v := zI (0)) hx hb dX9_planned_34 (by decide) ?_
          refine lv_istore (lv' := [(4, .int (zI (0))), (0, .ref ((a 0))), (1, .int (zI ((w : Int)))), (2, .int (zI (x))), (3, .int (zI (y)))]) hx hb dX9_planned_35 hl (by decide) rfl (fun ls hl => ?_)
          refine lv_iload_n hx hb dX9_planned_37 rfl (lv_at hl 3 rfl) ?_
          refine lv_istore (lv' := [(5, .int (zI (x))), (4, .int (zI (0))), (0, .ref ((a 0))), (1, .int (zI ((w : Int)))), (2, .int (zI (x))), (3, .int (zI (y)))]) hx hb dX9_planned_38 hl (by decide) rfl (fun ls hl => ?_)
          have loop40 : ∀ (K9 : Nat) (i : Nat) (hK9 : (y + 1 - x) - i < K9) (hi : i ≤ y + 1 - x) (H : Heap) (locs : List Loc) (hP : gP g (mW g a (upd sc 0 (zI (0))) wd tp N rd sn) H) (hS : va_S (mA a) s.heap H locs) (ls : Array Slot) (hl : lv_has ls 6 [(5, .int (zI (((x + i : Nat) : Int)))), (4, .int (zI (sumN (plan N w) x i))), (0, .ref ((a 0))), (1, .int (zI ((w : Int)))), (2, .int (zI (x))), (3, .int (zI (y)))]), W p l e (headSpec wsX9_planned ({ frames := 3, cells := 0, slots := 0, locals := 68 })).room s m ([.ref ((a 0)), .int (zI ((w : Int))), .int (zI (x)), .int (zI (y))] : List Value).toArray below meth c H locs 0 0 (MQ below (va_Qi (fun (r : Int32) (_ : Unit) => r = plannedF N (w : Int) x y) (fun (_ : Unit) (tS : State) => gP g (mW g a (upd sc 0 (zI (0))) wd tp N rd sn) tS.heap) (mA a)) ([.ref ((a 0)), .int (zI ((w : Int))), .int (zI (x)), .int (zI (y))] : List Value).toArray s 0 0 (mA a)) (F0 m 40 ls []) := by
            intro K9
            induction K9 with
            | zero => intro i hK9; exact absurd hK9 (Nat.not_lt_zero _)
            | succ K9 ih =>
              intro i hK9 hi H locs hP hS ls hl
              refine lv_iload hx hb dX9_planned_40 (lv_at hl 0 rfl) ?_
              refine lv_iload_n hx hb dX9_planned_42 rfl (lv_at hl 5 rfl) ?_
              refine z_icmp_gt (tgt := 64) hx hb dX9_planned_43 (by decide) (by omega) (by omega) (fun h43 => ?_) (fun h43 => ?_)
              · refine lv_iload hx hb dX9_planned_64 (lv_at hl 1 rfl) ?_
                exact W.iret hx hb hr (fun tX htX hWX => ⟨⟨_, (), rfl, by unfold plannedF; rw [if_pos ⟨h10, h17, h24, h29⟩, show i = y + 1 - x by omega]; rfl, g_at htX (hP)⟩, hS.F htX⟩) hS.2.2 dX9_planned_66
              · refine lv_iload hx hb dX9_planned_46 (lv_at hl 1 rfl) ?_
                refine lv_aload_n hx hb dX9_planned_48 rfl (lv_at hl 2 rfl) ?_
                refine lv_iload_n hx hb dX9_planned_49 rfl (lv_at hl 3 rfl) ?_
                refine lv_iload hx hb dX9_planned_50 (lv_at hl 0 rfl) ?_
                refine vp_callSi (va_Run.run (va_runV (As := [.int (zI ((w : Int))), .int (zI (((x + i : Nat) : Int)))]) (rest := [.int (zI (sumN (plan N w) x i))]) ⟨hx, hb, hml, hown, hts⟩ (c_X9_plannedOf l g ((a 0)) ((a 2)) (N) (hN) (w) ((x + i)) (hw) (by omega)) (cwV 2 hts gX9_planned_X9_plannedOf rfl rfl rfl (by decide +kernel) ⟨Nat.le_of_ble_eq_true rfl, Nat.le_of_ble_eq_true rfl⟩) (g_preV (rdN_of hP) hK (va_recv hK hP (q0 := 0) (ci := 9) rfl rfl)) rfl rfl hl.1 rfl (lv_room (Nat.le_of_ble_eq_true rfl)) dX9_planned_52 ⟨Nat.le_of_ble_eq_true rfl, Nat.le_of_ble_eq_true rfl⟩)) (fun r hr9 => ?_)
                subst hr9
                refine z_iadd hx hb dX9_planned_55 ?_
                refine lv_istore (lv' := [(4, .int (zI ((sumN (plan N w) x i) + (plan N w (x + i))))), (5, .int (zI (((x + i : Nat) : Int)))), (0, .ref ((a 0))), (1, .int (zI ((w : Int)))), (2, .int (zI (x))), (3, .int (zI (y)))]) hx hb dX9_planned_56 hl (by decide) rfl (fun ls hl => ?_)
                refine z_iinc (lv' := [(5, .int (zI (((x + i : Nat) : Int) + 1))), (4, .int (zI ((sumN (plan N w) x i) + (plan N w (x + i))))), (0, .ref ((a 0))), (1, .int (zI ((w : Int)))), (2, .int (zI (x))), (3, .int (zI (y)))]) hx hb dX9_planned_58 hl (k := 1) rfl (by decide) rfl (fun ls hl => ?_)
                refine lv_goto (tgt := 40) hx hb dX9_planned_61 (by decide) ?_
                have hl := lv_sub (l' := [(5, .int (zI (((x + i : Nat) : Int) + 1))), (4, .int (zI ((sumN (plan N w) x i) + (plan N w (x + i))))), (0, .ref ((a 0))), (1, .int (zI ((w : Int)))), (2, .int (zI (x))), (3, .int (zI (y)))]) hl [0, 1, 2, 3, 4, 5] rfl
                have hl : lv_has ls 6 [(5, .int (zI (((x + (i + 1) : Nat) : Int)))), (4, .int (zI (sumN (plan N w) x (i + 1)))), (0, .ref ((a 0))), (1, .int (zI ((w : Int)))), (2, .int (zI (x))), (3, .int (zI (y)))] := lv_cg (lvE (congrArg zI (by omega)) (lvE (congrArg zI (by rw [sumN_s]; omega)) (lvR (lvR (lvR (lvR (rfl))))))) hl
                exact ih (i + 1) (by omega) (by omega) H locs (hP) hS ls hl
          have hl := lv_sub (l' := [(5, .int (zI (x))), (4, .int (zI (0))), (0, .ref ((a 0))), (1, .int (zI ((w : Int)))), (2, .int (zI (x))), (3, .int (zI (y)))]) hl [0, 1, 2, 3, 4, 5] rfl
          have hl : lv_has ls 6 [(5, .int (zI (((x + 0 : Nat) : Int)))), (4, .int (zI (sumN (plan N w) x 0))), (0, .ref ((a 0))), (1, .int (zI ((w : Int)))), (2, .int (zI (x))), (3, .int (zI (y)))] := lv_cg (lvE (congrArg zI (by omega)) (lvE (congrArg zI (rfl)) (lvR (lvR (lvR (lvR (rfl))))))) hl
          exact loop40 _ (0) (Nat.lt_succ_self _) (Nat.zero_le _) H locs (hP) hS ls hl
        · refine lv_iconst (v := zI (-1)) hx hb dX9_planned_32 (by decide) ?_
          exact W.iret hx hb hr (fun tX htX hWX => ⟨⟨_, (), rfl, by unfold plannedF; rw [if_neg (by omega)], g_at htX (hP)⟩, hS.F htX⟩) hS.2.2 dX9_planned_33
