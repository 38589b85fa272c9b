set_option maxHeartbeats 4000000 in
set_option maxRecDepth 100000 in
theorem c_X9_worker (l : Launch) (g : GG) (a : Nat → Nat) (ha : aD a) (sc : Nat → Int32) (wd : Int64) (tp N rd sn : Nat → Int32) (hN : okN N) (v x : Int) (hv : R32 v) (hx0 : R32 x) : Met l yX9_worker wsX9_worker ({ frames := 5, cells := 0, slots := 0, locals := 114 }) (gPc g [.ref ((a 0)), .int (zI (v)), .int (zI (x))] (gP g (mW g a sc wd tp N rd sn))) (va_Qi (fun (r : Int32) (_ : Unit) => r = (workerF N v x).2) (fun (_ : Unit) (tS : State) => gP g (mW g a (upd sc 0 ((workerF N v x).1)) wd tp N rd sn) tS.heap) (mA a)) 0 0 (mA a) := by
  refine Met.ofW (cc := cX9_worker) (maxL := 3) (ret := (some .int)) (by decide) rfl ?_
  intro p e s m args below meth c s₁ B hml hv
  obtain ⟨rfl, hP, hK⟩ := hv
  have hx := B.exec
  have hb := B.bytes
  have hr := B.returns
  have hts := atoms_spec (ws := wsX9_worker) B.pre
  have hown : s.vm.findClass RX9 = some m.cls := findClass_of_methodNamed B.named
  have hlocks := B.notSynchronized
  have hinX9 : ∀ w ∈ wsX90, w ∈ wsX9_worker := by decide +kernel
  have k1 := hts (.fieldLink RX9 1 "HoursBankModel" "thrown" "I") (by decide +kernel)
  have hl := lv_entry ([.ref ((a 0)), .int (zI (v)), .int (zI (x))]) (n := 3) (Nat.le_of_ble_eq_true rfl)
  rw [lg_entry_eq]
  generalize (lg_sl ([.ref ((a 0)), .int (zI (v)), .int (zI (x))]) ++ List.replicate (3 - (lg_sl ([.ref ((a 0)), .int (zI (v)), .int (zI (x))])).length) Slot.unset).toArray = ls at hl ⊢
  have hl : lv_has ls 3 [(0, .ref ((a 0))), (1, .int (zI (v))), (2, .int (zI (x)))] := hl
  have hS : va_S (mA a) s.heap s.heap [] := va_S.rf
  obtain ⟨H, hH9⟩ : ∃ H, H = s.heap := ⟨_, rfl⟩
  obtain ⟨locs, hL9⟩ : ∃ x : List Loc, x = [] := ⟨_, rfl⟩
  have hP : gP g (mW g a sc wd tp N rd sn) H := hH9 ▸ hP
  have hS : va_S (mA a) s.heap H locs := by rw [hH9, hL9]; exact hS
  refine z_start hH9 hL9 ?_
  clear hH9 hL9
  refine lv_aload_n hx hb dX9_worker_0 rfl (lv_at hl 0 rfl) ?_
  refine lv_iconst (v := zI (0)) hx hb dX9_worker_1 (by decide) ?_
  refine va_put (D := g.1) (ci := 9) (v := .int (zI (0))) (ty := .int) (C := RX9) (T := TX9) (N := 15) hx hb hts hinX9 tyX9 tyX9_ok nmX9 hown hK hP (mD ha) hS 0 rfl rfl 0 (by decide) k1 (fun _ h9 => h9) rfl (by decide +kernel) rfl rfl (Nat.le_of_ble_eq_true rfl) dX9_worker_2 (fun H locs hP _ hS => ?_)
  have hP : gP g (mW g a (upd sc 0 (zI (0))) wd tp N rd sn) H := hP
  refine lv_aload_n hx hb dX9_worker_5 rfl (lv_at hl 0 rfl) ?_
  refine lv_iload_n hx hb dX9_worker_6 rfl (lv_at hl 1 rfl) ?_
  refine vp_callSi (va_Run.run (va_runV (As := [.int (zI (v))]) (rest := []) ⟨hx, hb, hml, hown, hts⟩ (c_X9_isWorker l g ((a 0)) ((a 2)) (N) (hN) (v) (hv)) (cwV 1 hts gX9_worker_X9_isWorker rfl rfl rfl (by decide +kernel) ⟨Nat.le_of_ble_eq_true rfl, Nat.le_of_ble_eq_true rfl⟩) (g_preV (rdN_of hP) hK (va_recv hK hP (q0 := 0) (ci := 9) rfl rfl)) rfl rfl hl.1 rfl (lv_room (Nat.le_of_ble_eq_true rfl)) dX9_worker_7 ⟨Nat.le_of_ble_eq_true rfl, Nat.le_of_ble_eq_true rfl⟩)) (fun r hr9 => ?_)
  subst hr9
  refine z_bz_ne (tgt := 18) hx hb dX9_worker_10 (by decide) (fun h10 => ?_) (fun h10 => ?_)
  · have hq := hN.nw.le
    obtain ⟨w, rfl⟩ := Int.eq_ofNat_of_zero_le h10.1
    have hw : w < 4 := by omega
    refine lv_iload_n hx hb dX9_worker_18 rfl (lv_at hl 2 rfl) ?_
    by_cases q19_0 : x = 0
    · subst q19_0
      refine lv_tableIn (off := 61) (tgt := 80) hx hb dX9_worker_19 (by decide) (by decide) (by decide) (by decide) ?_
      refine lv_aload_n hx hb dX9_worker_80 rfl (lv_at hl 0 rfl) ?_
      refine lv_iload_n hx hb dX9_worker_81 rfl (lv_at hl 1 rfl) ?_
      refine lv_iconst (v := zI (2)) hx hb dX9_worker_82 (by decide) ?_
      refine vp_callSi (va_Run.run (va_runV (As := [.int (zI (w)), .int (zI (2))]) (rest := []) ⟨hx, hb, hml, hown, hts⟩ (c_X9_its l g ((a 0)) ((a 2)) (N) (w) (2) (hw) (by omega)) (cwV 2 hts gX9_worker_X9_its rfl rfl rfl (by decide +kernel) ⟨Nat.le_of_ble_eq_true rfl, Nat.le_of_ble_eq_true rfl⟩) (g_preV (rdN_of hP) hK (va_recv hK hP (q0 := 0) (ci := 9) rfl rfl)) rfl rfl hl.1 rfl (lv_room (Nat.le_of_ble_eq_true rfl)) dX9_worker_83 ⟨Nat.le_of_ble_eq_true rfl, Nat.le_of_ble_eq_true rfl⟩)) (fun r hr9 => ?_)
      subst hr9
      have e9 := workerF_in h10 0
      exact W.iret hx hb hr (fun tX htX hWX => ⟨⟨_, (), rfl, by rw [e9]; rfl, g_at htX ((by rw [e9]; exact hP))⟩, hS.F htX⟩) hS.2.2 dX9_worker_86
    by_cases q19_1 : x = 1
    · subst q19_1
      refine lv_tableIn (off := 68) (tgt := 87) hx hb dX9_worker_19 (by decide) (by decide) (by decide) (by decide) ?_
      refine lv_aload_n hx hb dX9_worker_87 rfl (lv_at hl 0 rfl) ?_
      refine lv_iload_n hx hb dX9_worker_88 rfl (lv_at hl 1 rfl) ?_
      refine vp_callSi (va_Run.run (va_runV (As := [.int (zI (w))]) (rest := []) ⟨hx, hb, hml, hown, hts⟩ (c_X9_leftOf l g ((a 0)) ((a 2)) (N) (hN) (w) (hw)) (cwV 1 hts gX9_worker_X9_leftOf rfl rfl rfl (by decide +kernel) ⟨Nat.le_of_ble_eq_true rfl, Nat.le_of_ble_eq_true rfl⟩) (g_preV (rdN_of hP) hK (va_recv hK hP (q0 := 0) (ci := 9) rfl rfl)) rfl rfl hl.1 rfl (lv_room (Nat.le_of_ble_eq_true rfl)) dX9_worker_89 ⟨Nat.le_of_ble_eq_true rfl, Nat.le_of_ble_eq_true rfl⟩)) (fun r hr9 => ?_)
      subst hr9
      have e9 := workerF_in h10 1
      exact W.iret hx hb hr (fun tX htX hWX => ⟨⟨_, (), rfl, by rw [e9]; rfl, g_at htX ((by rw [e9]; exact hP))⟩, hS.F htX⟩) hS.2.2 dX9_worker_92
    by_cases q19_2 : x = 2
    · subst q19_2
      refine lv_tableIn (off := 74) (tgt := 93) hx hb dX9_worker_19 (by decide) (by decide) (by decide) (by decide) ?_
      refine lv_aload_n hx hb dX9_worker_93 rfl (lv_at hl 0 rfl) ?_
      refine lv_iload_n hx hb dX9_worker_94 rfl (lv_at hl 1 rfl) ?_
      refine lv_iconst (v := zI (3)) hx hb dX9_worker_95 (by decide) ?_
      refine vp_callSi (va_Run.run (va_runV (As := [.int (zI (w)), .int (zI (3))]) (rest := []) ⟨hx, hb, hml, hown, hts⟩ (c_X9_its l g ((a 0)) ((a 2)) (N) (w) (3) (hw) (by omega)) (cwV 2 hts gX9_worker_X9_its rfl rfl rfl (by decide +kernel) ⟨Nat.le_of_ble_eq_true rfl, Nat.le_of_ble_eq_true rfl⟩) (g_preV (rdN_of hP) hK (va_recv hK hP (q0 := 0) (ci := 9) rfl rfl)) rfl rfl hl.1 rfl (lv_room (Nat.le_of_ble_eq_true rfl)) dX9_worker_96 ⟨Nat.le_of_ble_eq_true rfl, Nat.le_of_ble_eq_true rfl⟩)) (fun r hr9 => ?_)
      subst hr9
      have e9 := workerF_in h10 2
      exact W.iret hx hb hr (fun tX htX hWX => ⟨⟨_, (), rfl, by rw [e9]; rfl, g_at htX ((by rw [e9]; exact hP))⟩, hS.F htX⟩) hS.2.2 dX9_worker_99
    by_cases q19_3 : x = 3
    · subst q19_3
      refine lv_tableIn (off := 81) (tgt := 100) hx hb dX9_worker_19 (by decide) (by decide) (by decide) (by decide) ?_
      refine lv_aload_n hx hb dX9_worker_100 rfl (lv_at hl 0 rfl) ?_
      refine lv_iload_n hx hb dX9_worker_101 rfl (lv_at hl 1 rfl) ?_
      refine lv_iconst (v := zI (4)) hx hb dX9_worker_102 (by decide) ?_
      refine vp_callSi (va_Run.run (va_runV (As := [.int (zI (w)), .int (zI (4))]) (rest := []) ⟨hx, hb, hml, hown, hts⟩ (c_X9_its l g ((a 0)) ((a 2)) (N) (w) (4) (hw) (by omega)) (cwV 2 hts gX9_worker_X9_its rfl rfl rfl (by decide +kernel) ⟨Nat.le_of_ble_eq_true rfl, Nat.le_of_ble_eq_true rfl⟩) (g_preV (rdN_of hP) hK (va_recv hK hP (q0 := 0) (ci := 9) rfl rfl)) rfl rfl hl.1 rfl (lv_room (Nat.le_of_ble_eq_true rfl)) dX9_worker_103 ⟨Nat.le_of_ble_eq_true rfl, Nat.le_of_ble_eq_true rfl⟩)) (fun r hr9 => ?_)
      subst hr9
      have e9 := workerF_in h10 3
      exact W.iret hx hb hr (fun tX htX hWX => ⟨⟨_, (), rfl, by rw [e9]; rfl, g_at htX ((by rw [e9]; exact hP))⟩, hS.F htX⟩) hS.2.2 dX9_worker_106
    by_cases q19_4 : x = 4
    · subst q19_4
      refine lv_tableIn (off := 88) (tgt := 107) hx hb dX9_worker_19 (by decide) (by decide) (by decide) (by decide) ?_
      refine lv_aload_n hx hb dX9_worker_107 rfl (lv_at hl 0 rfl) ?_
      refine lv_iload_n hx hb dX9_worker_108 rfl (lv_at hl 1 rfl) ?_
      refine lv_iconst (v := zI (5)) hx hb dX9_worker_109 (by decide) ?_
      refine vp_callSi (va_Run.run (va_runV (As := [.int (zI (w)), .int (zI (5))]) (rest := []) ⟨hx, hb, hml, hown, hts⟩ (c_X9_its l g ((a 0)) ((a 2)) (N) (w) (5) (hw) (by omega)) (cwV 2 hts gX9_worker_X9_its rfl rfl rfl (by decide +kernel) ⟨Nat.le_of_ble_eq_true rfl, Nat.le_of_ble_eq_true rfl⟩) (g_preV (rdN_of hP) hK (va_recv hK hP (q0 := 0) (ci := 9) rfl rfl)) rfl rfl hl.1 rfl (lv_room (Nat.le_of_ble_eq_true rfl)) dX9_worker_110 ⟨Nat.le_of_ble_eq_true rfl, Nat.le_of_ble_eq_true rfl⟩)) (fun r hr9 => ?_)
      subst hr9
      have e9 := workerF_in h10 4
      exact W.iret hx hb hr (fun tX htX hWX => ⟨⟨_, (), rfl, by rw [e9]; rfl, g_at htX ((by rw [e9]; exact hP))⟩, hS.F htX⟩) hS.2.2 dX9_worker_113
    by_cases q19_5 : x = 5
    · subst q19_5
      refine lv_tableIn (off := 95) (tgt := 114) hx hb dX9_worker_19 (by decide) (by decide) (by decide) (by decide) ?_
      refine lv_aload_n hx hb dX9_worker_114 rfl (lv_at hl 0 rfl) ?_
      refine lv_iload_n hx hb dX9_worker_115 rfl (lv_at hl 1 rfl) ?_
      refine lv_bipush (v := zI (6)) hx hb dX9_worker_116 (by decide) ?_
      refine vp_callSi (va_Run.run (va_runV (As := [.int (zI (w)), .int (zI (6))]) (rest := []) ⟨hx, hb, hml, hown, hts⟩ (c_X9_its l g ((a 0)) ((a 2)) (N) (w) (6) (hw) (by omega)) (cwV 2 hts gX9_worker_X9_its rfl rfl rfl (by decide +kernel) ⟨Nat.le_of_ble_eq_true rfl, Nat.le_of_ble_eq_true rfl⟩) (g_preV (rdN_of hP) hK (va_recv hK hP (q0 := 0) (ci := 9) rfl rfl)) rfl rfl hl.1 rfl (lv_room (Nat.le_of_ble_eq_true rfl)) dX9_worker_118 ⟨Nat.le_of_ble_eq_true rfl, Nat.le_of_ble_eq_true rfl⟩)) (fun r hr9 => ?_)
      subst hr9
      have e9 := workerF_in h10 5
      exact W.iret hx hb hr (fun tX htX hWX => ⟨⟨_, (), rfl, by rw [e9]; rfl, g_at htX ((by rw [e9]; exact hP))⟩, hS.F htX⟩) hS.2.2 dX9_worker_121
    by_cases q19_6 : x = 6
    · subst q19_6
      refine lv_tableIn (off := 103) (tgt := 122) hx hb dX9_worker_19 (by decide) (by decide) (by decide) (by decide) ?_
      refine lv_aload_n hx hb dX9_worker_122 rfl (lv_at hl 0 rfl) ?_
      refine lv_iload_n hx hb dX9_worker_123 rfl (lv_at hl 1 rfl) ?_
      refine lv_bipush (v := zI (7)) hx hb dX9_worker_124 (by decide) ?_
      refine vp_callSi (va_Run.run (va_runV (As := [.int (zI (w)), .int (zI (7))]) (rest := []) ⟨hx, hb, hml, hown, hts⟩ (c_X9_its l g ((a 0)) ((a 2)) (N) (w) (7) (hw) (by omega)) (cwV 2 hts gX9_worker_X9_its rfl rfl rfl (by decide +kernel) ⟨Nat.le_of_ble_eq_true rfl, Nat.le_of_ble_eq_true rfl⟩) (g_preV (rdN_of hP) hK (va_recv hK hP (q0 := 0) (ci := 9) rfl rfl)) rfl rfl hl.1 rfl (lv_room (Nat.le_of_ble_eq_true rfl)) dX9_worker_126 ⟨Nat.le_of_ble_eq_true rfl, Nat.le_of_ble_eq_true rfl⟩)) (fun r hr9 => ?_)
      subst hr9
      have e9 := workerF_in h10 6
      exact W.iret hx hb hr (fun tX htX hWX => ⟨⟨_, (), rfl, by rw [e9]; rfl, g_at htX ((by rw [e9]; exact hP))⟩, hS.F htX⟩) hS.2.2 dX9_worker_129
    by_cases q19_7 : x = 7
    · subst q19_7
      refine lv_tableIn (off := 111) (tgt := 130) hx hb dX9_worker_19 (by decide) (by decide) (by decide) (by decide) ?_
      refine lv_aload_n hx hb dX9_worker_130 rfl (lv_at hl 0 rfl) ?_
      refine lv_iload_n hx hb dX9_worker_131 rfl (lv_at hl 1 rfl) ?_
      refine lv_bipush (v := zI (8)) hx hb dX9_worker_132 (by decide) ?_
      refine vp_callSi (va_Run.run (va_runV (As := [.int (zI (w)), .int (zI (8))]) (rest := []) ⟨hx, hb, hml, hown, hts⟩ (c_X9_its l g ((a 0)) ((a 2)) (N) (w) (8) (hw) (by omega)) (cwV 2 hts gX9_worker_X9_its rfl rfl rfl (by decide +kernel) ⟨Nat.le_of_ble_eq_true rfl, Nat.le_of_ble_eq_true rfl⟩) (g_preV (rdN_of hP) hK (va_recv hK hP (q0 := 0) (ci := 9) rfl rfl)) rfl rfl hl.1 rfl (lv_room (Nat.le_of_ble_eq_true rfl)) dX9_worker_134 ⟨Nat.le_of_ble_eq_true rfl, Nat.le_of_ble_eq_true rfl⟩)) (fun r hr9 => ?_)
      subst hr9
      have e9 := workerF_in h10 7
      exact W.iret hx hb hr (fun tX htX hWX => ⟨⟨_, (), rfl, by rw [e9]; rfl, g_at htX ((by rw [e9]; exact hP))⟩, hS.F htX⟩) hS.2.2 dX9_worker_137
    by_cases q19_8 : x = 8
    · subst q19_8
      refine lv_tableIn (off := 119) (tgt := 138) hx hb dX9_worker_19 (by decide) (by decide) (by decide) (by decide) ?_
      refine lv_aload_n hx hb dX9_worker_138 rfl (lv_at hl 0 rfl) ?_
      refine lv_iload_n hx hb dX9_worker_139 rfl (lv_at hl 1 rfl) ?_
      refine vp_callSi (va_Run.run (va_runV (As := [.int (zI (w))]) (rest := []) ⟨hx, hb, hml, hown, hts⟩ (c_X9_workedTill l g ((a 0)) ((a 2)) (N) (hN) (w) (hw)) (cwV 1 hts gX9_worker_X9_workedTill rfl rfl rfl (by decide +kernel) ⟨Nat.le_of_ble_eq_true rfl, Nat.le_of_ble_eq_true rfl⟩) (g_preV (rdN_of hP) hK (va_recv hK hP (q0 := 0) (ci := 9) rfl rfl)) rfl rfl hl.1 rfl (lv_room (Nat.le_of_ble_eq_true rfl)) dX9_worker_140 ⟨Nat.le_of_ble_eq_true rfl, Nat.le_of_ble_eq_true rfl⟩)) (fun r hr9 => ?_)
      subst hr9
      have e9 := workerF_in h10 8
      exact W.iret hx hb hr (fun tX htX hWX => ⟨⟨_, (), rfl, by rw [e9]; rfl, g_at htX ((by rw [e9]; exact hP))⟩, hS.F htX⟩) hS.2.2 dX9_worker_143
    by_cases q19_9 : x = 9
    · subst q19_9
      refine lv_tableIn (off := 125) (tgt := 144) hx hb dX9_worker_19 (by decide) (by decide) (by decide) (by decide) ?_
      refine lv_aload_n hx hb dX9_worker_144 rfl (lv_at hl 0 rfl) ?_
      refine lv_iload_n hx hb dX9_worker_145 rfl (lv_at hl 1 rfl) ?_
      refine lv_iconst (v := zI (1)) hx hb dX9_worker_146 (by decide) ?_
      refine lv_iconst (v := zI (0)) hx hb dX9_worker_147 (by decide) ?_
      refine lv_aload_n hx hb dX9_worker_148 rfl (lv_at hl 0 rfl) ?_
      refine vp_callSi (va_Run.run (va_runV (As := []) (rest := [.int (zI (0)), .int (zI (1)), .int (zI (w)), .ref ((a 0))]) ⟨hx, hb, hml, hown, hts⟩ (c_X9_today l g ((a 0)) ((a 2)) (N) (hN)) (cwV 0 hts gX9_worker_X9_today rfl rfl rfl (by decide +kernel) ⟨Nat.le_of_ble_eq_true rfl, Nat.le_of_ble_eq_true rfl⟩) (g_preV (rdN_of hP) hK (va_recv hK hP (q0 := 0) (ci := 9) rfl rfl)) rfl rfl hl.1 rfl (lv_room (Nat.le_of_ble_eq_true rfl)) dX9_worker_149 ⟨Nat.le_of_ble_eq_true rfl, Nat.le_of_ble_eq_true rfl⟩)) (fun r hr9 => ?_)
      subst hr9
      refine vp_callSi (va_Run.run (va_runV (As := [.int (zI (w)), .int (zI (1)), .int (zI (0)), .int (zI (mn N 110))]) (rest := []) ⟨hx, hb, hml, hown, hts⟩ (c_X9_many l g ((a 0)) ((a 2)) (N) (hN) (w) (1) (0) ((mn N 110)) (hw) (by omega) (by omega) (hN.td.le)) (cwV 4 hts gX9_worker_X9_many rfl rfl rfl (by decide +kernel) ⟨Nat.le_of_ble_eq_true rfl, Nat.le_of_ble_eq_true rfl⟩) (g_preV (rdN_of hP) hK (va_recv hK hP (q0 := 0) (ci := 9) rfl rfl)) rfl rfl hl.1 rfl (lv_room (Nat.le_of_ble_eq_true rfl)) dX9_worker_152 ⟨Nat.le_of_ble_eq_true rfl, Nat.le_of_ble_eq_true rfl⟩)) (fun r hr9 => ?_)
      subst hr9
      have e9 := workerF_in h10 9
      exact W.iret hx hb hr (fun tX htX hWX => ⟨⟨_, (), rfl, by rw [e9]; rfl, g_at htX ((by rw [e9]; exact hP))⟩, hS.F htX⟩) hS.2.2 dX9_worker_155
    by_cases q19_10 : x = 10
    · subst q19_10
      refine lv_tableIn (off := 137) (tgt := 156) hx hb dX9_worker_19 (by decide) (by decide) (by decide) (by decide) ?_
      refine lv_aload_n hx hb dX9_worker_156 rfl (lv_at hl 0 rfl) ?_
      refine lv_iload_n hx hb dX9_worker_157 rfl (lv_at hl 1 rfl) ?_
      refine lv_iconst (v := zI (3)) hx hb dX9_worker_158 (by decide) ?_
      refine lv_iconst (v := zI (0)) hx hb dX9_worker_159 (by decide) ?_
      refine lv_sipush (v := zI (364)) hx hb dX9_worker_160 (by decide) ?_
      refine vp_callSi (va_Run.run (va_runV (As := [.int (zI (w)), .int (zI (3)), .int (zI (0)), .int (zI (364))]) (rest := []) ⟨hx, hb, hml, hown, hts⟩ (c_X9_many l g ((a 0)) ((a 2)) (N) (hN) (w) (3) (0) (364) (hw) (by omega) (by omega) (by omega)) (cwV 4 hts gX9_worker_X9_many rfl rfl rfl (by decide +kernel) ⟨Nat.le_of_ble_eq_true rfl, Nat.le_of_ble_eq_true rfl⟩) (g_preV (rdN_of hP) hK (va_recv hK hP (q0 := 0) (ci := 9) rfl rfl)) rfl rfl hl.1 rfl (lv_room (Nat.le_of_ble_eq_true rfl)) dX9_worker_163 ⟨Nat.le_of_ble_eq_true rfl, Nat.le_of_ble_eq_true rfl⟩)) (fun r hr9 => ?_)
      subst hr9
      have e9 := workerF_in h10 10
      exact W.iret hx hb hr (fun tX htX hWX => ⟨⟨_, (), rfl, by rw [e9]; rfl, g_at htX ((by rw [e9]; exact hP))⟩, hS.F htX⟩) hS.2.2 dX9_worker_166
    by_cases q19_11 : x = 11
    · subst q19_11
      refine lv_tableIn (off := 148) (tgt := 167) hx hb dX9_worker_19 (by decide) (by decide) (by decide) (by decide) ?_
      refine lv_aload_n hx hb dX9_worker_167 rfl (lv_at hl 0 rfl) ?_
      refine lv_iload_n hx hb dX9_worker_168 rfl (lv_at hl 1 rfl) ?_
      refine lv_bipush (v := zI (9)) hx hb dX9_worker_169 (by decide) ?_
      refine vp_callSi (va_Run.run (va_runV (As := [.int (zI (w)), .int (zI (9))]) (rest := []) ⟨hx, hb, hml, hown, hts⟩ (c_X9_its l g ((a 0)) ((a 2)) (N) (w) (9) (hw) (by omega)) (cwV 2 hts gX9_worker_X9_its rfl rfl rfl (by decide +kernel) ⟨Nat.le_of_ble_eq_true rfl, Nat.le_of_ble_eq_true rfl⟩) (g_preV (rdN_of hP) hK (va_recv hK hP (q0 := 0) (ci := 9) rfl rfl)) rfl rfl hl.1 rfl (lv_room (Nat.le_of_ble_eq_true rfl)) dX9_worker_171 ⟨Nat.le_of_ble_eq_true rfl, Nat.le_of_ble_eq_true rfl⟩)) (fun r hr9 => ?_)
      subst hr9
      have e9 := workerF_in h10 11
      exact W.iret hx hb hr (fun tX htX hWX => ⟨⟨_, (), rfl, by rw [e9]; rfl, g_at htX ((by rw [e9]; exact hP))⟩, hS.F htX⟩) hS.2.2 dX9_worker_174
    refine lv_tableOut (tgt := 175) hx hb dX9_worker_19 (by rw [zI_toInt hx0]; omega) (by decide) ?_
    refine lv_aload_n hx hb dX9_worker_175 rfl (lv_at hl 0 rfl) ?_
    refine va_calli (va_runV (As := []) (rest := []) ⟨hx, hb, hml, hown, hts⟩ (c_X9_refuse l g (a) (ha) ((upd sc 0 (zI (0)))) (wd) (tp) (N) (rd) (sn)) (cwV 0 hts gX9_worker_X9_refuse rfl rfl rfl (by decide +kernel) ⟨Nat.le_of_ble_eq_true rfl, Nat.le_of_ble_eq_true rfl⟩) (g_preV hP hK (va_recv hK hP (q0 := 0) (ci := 9) rfl rfl)) rfl rfl hl.1 rfl (lv_room (Nat.le_of_ble_eq_true rfl)) dX9_worker_176 ⟨Nat.le_of_ble_eq_true rfl, Nat.le_of_ble_eq_true rfl⟩) hS (fun q _ h => h) (fun q h => h) (fun r u9 t9 H1 locs ht9 hvm9 hw9 hB9 hz9 hk9 hS => ?_)
    rw [ht9] at hB9
    have hP := hB9
    clear hB9 hz9 hk9 hvm9 ht9
    generalize H1 = H at hP hS ⊢
    have hP : gP g (mW g a (upd sc 0 (zI (1))) wd tp N rd sn) H := hP
    try dsimp only at hw9
    subst hw9
    have e9 := workerF_bad h10 x q19_0 q19_1 q19_2 q19_3 q19_4 q19_5 q19_6 q19_7 q19_8 q19_9 q19_10 q19_11
    exact W.iret hx hb hr (fun tX htX hWX => ⟨⟨_, (), rfl, by rw [e9], g_at htX ((by rw [e9]; exact hP))⟩, hS.F htX⟩) hS.2.2 dX9_worker_179
  · refine lv_aload_n hx hb dX9_worker_13 rfl (lv_at hl 0 rfl) ?_
    refine va_calli (va_runV (As := []) (rest := []) ⟨hx, hb, hml, hown, hts⟩ (c_X9_refuse l g (a) (ha) ((upd sc 0 (zI (0)))) (wd) (tp) (N) (rd) (sn)) (cwV 0 hts gX9_worker_X9_refuse rfl rfl rfl (by decide +kernel) ⟨Nat.le_of_ble_eq_true rfl, Nat.le_of_ble_eq_true rfl⟩) (g_preV hP hK (va_recv hK hP (q0 := 0) (ci := 9) rfl rfl)) rfl rfl hl.1 rfl (lv_room (Nat.le_of_ble_eq_true rfl)) dX9_worker_14 ⟨Nat.le_of_ble_eq_true rfl, Nat.le_of_ble_eq_true rfl⟩) hS (fun q _ h => h) (fun q h => h) (fun r u9 t9 H1 locs ht9 hvm9 hw9 hB9 hz9 hk9 hS => ?_)
    rw [ht9] at hB9
    have hP := hB9
    clear hB9 hz9 hk9 hvm9 ht9
    generalize H1 = H at hP hS ⊢
    have hP : gP g (mW g a (upd sc 0 (zI (1))) wd tp N rd sn) H := hP
    try dsimp only at hw9
    subst hw9
    have e9 := workerF_out h10 x
    exact W.iret hx hb hr (fun tX htX hWX => ⟨⟨_, (), rfl, by rw [e9], g_at htX ((by rw [e9]; exact hP))⟩, hS.F htX⟩) hS.2.2 dX9_worker_17
