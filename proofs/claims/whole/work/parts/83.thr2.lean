set_option maxHeartbeats 4000000 in
set_option maxRecDepth 100000 in
theorem c_X8_workerT (l : Launch) (hl9 : l.stackTraces = false) (g : GG) (xk : Nat → Nat) (ad : Nat → Nat) (hd9 : hD ad) (P : Nat → Nat) (M : Nat → Nat → Int32) (N sn : Nat → Int32) (k : Nat) (hI : INV P M N sn k) (v x : Int) (hv : R32 v) (hx0 : R32 x) : vx_Met l yX8_worker wsX8_workerT ({ frames := 6, cells := 1, slots := 6, locals := 90 }) (gyPc g xk ad [.ref ((ad 0)), .int (zI (v)), .int (zI (x))] (cw g ad P M)) (va_Qi (fun (r : Int32) (u : Unit) => r = (workerF N v x).2 ∧ (workerF N v x).1 = zI 0) (fun (u : Unit) (tS : State) => cw g ad P M tS.heap) (hbA ad)) (xE g ad P M (((workerF N v x).1 = zI 1))) 1 6 (hbA ad) := by
  refine vx_ofW (cc := cX8_worker) (maxL := 5) (ret := (some .int)) (by decide) rfl ?_
  intro p e s m args below meth c s₁ B hml hno hv
  obtain ⟨rfl, hW, hK, hX⟩ := hv
  have hx := B.exec
  have hb := B.bytes
  have hr := B.returns
  have hts := atoms_spec (ws := wsX8_workerT) B.pre
  have hown : s.vm.findClass RX8 = some m.cls := findClass_of_methodNamed B.named
  have hlocks := B.notSynchronized
  have hinX0 : ∀ w ∈ wsX00, w ∈ wsX8_workerT := by decide +kernel
  have hinX3 : ∀ w ∈ wsX30, w ∈ wsX8_workerT := by decide +kernel
  have hinX8 : ∀ w ∈ wsX80, w ∈ wsX8_workerT := by decide +kernel
  have k37 := hts (.fieldLink RX8 37 "HoursBank" "sheets" "[LHoursBank$Sheet;") (by decide +kernel)
  have k112 := hts (.fieldLink RX8 112 "HoursBank$Sheet" "account" "LHoursBank$Account;") (by decide +kernel)
  have k116 := hts (.fieldLink RX8 116 "HoursBank$Account" "balance" "I") (by decide +kernel)
  have k124 := hts (.fieldLink RX8 124 "HoursBank$Account" "overtime" "I") (by decide +kernel)
  have k127 := hts (.fieldLink RX8 127 "HoursBank$Account" "docked" "I") (by decide +kernel)
  have k130 := hts (.fieldLink RX8 130 "HoursBank$Account" "overtimeCoins" "I") (by decide +kernel)
  have k133 := hts (.fieldLink RX8 133 "HoursBank$Account" "changeCoins" "I") (by decide +kernel)
  have k136 := hts (.fieldLink RX8 136 "HoursBank$Account" "dockedCoins" "I") (by decide +kernel)
  have k139 := hts (.fieldLink RX8 139 "HoursBank$Account" "settled" "I") (by decide +kernel)
  have k51 := hts (.fieldLink RX8 51 "HoursBank" "today" "I") (by decide +kernel)
  have k149 := hts (.fieldLink RX8 149 "HoursBank$Account" "flaggedDays" "I") (by decide +kernel)
  have kcl9 := hts (.classLink RX8 105 nsE) (by decide +kernel)
  have kin9 := hts (.initialized nsE) (by decide +kernel)
  have hl := lv_entry ([.ref ((ad 0)), .int (zI (v)), .int (zI (x))]) (n := 5) (Nat.le_of_ble_eq_true rfl)
  rw [lg_entry_eq]
  generalize (lg_sl ([.ref ((ad 0)), .int (zI (v)), .int (zI (x))]) ++ List.replicate (5 - (lg_sl ([.ref ((ad 0)), .int (zI (v)), .int (zI (x))])).length) Slot.unset).toArray = ls at hl ⊢
  have hl : lv_has ls 5 [(0, .ref ((ad 0))), (1, .int (zI (v))), (2, .int (zI (x)))] := hl
  have hS : va_S (hbA ad) s.heap s.heap [] := va_S.rf
  obtain ⟨H, hH9⟩ : ∃ H, H = s.heap := ⟨_, rfl⟩
  obtain ⟨locs, hL9⟩ : ∃ x9l : List Loc, x9l = [] := ⟨_, rfl⟩
  have hW : cw g ad P M H := hH9 ▸ hW
  have hS : va_S (hbA ad) s.heap H locs := by rw [hH9, hL9]; exact hS
  refine z_start hH9 hL9 ?_
  clear hH9 hL9
  have hex : ∀ j : Nat, M j = M j := fun _ => rfl
  obtain ⟨hP9, hc9, hk10, hk6, nx, hnx, hn6, hch9⟩ := id hI
  obtain ⟨hN, hZt, hst9, hRu, hSh, ht9, hfl9⟩ := id hc9
  have hq57 := hN.nw.le
  have hqtd := hN.td.le
  refine lv_aload_n hx hb dX8_worker_0 rfl (lv_at hl 0 rfl) ?_
  refine lv_iload_n hx hb dX8_worker_1 rfl (lv_at hl 1 rfl) ?_
  refine vp_callSi (va_Run.run (va_runV (As := [.int (zI (v))]) (rest := []) ⟨hx, hb, hml, hown, hts⟩ (c_X8_isWorker l g ((ad 0)) (N) (hN) ((M 6 1)) ((M 1 0)) (v) (hv)) (cwV 1 hts gX8_workerT_X8_isWorker rfl rfl rfl (by decide +kernel) ⟨Nat.le_of_ble_eq_true rfl, Nat.le_of_ble_eq_true rfl⟩) (g_preV (cw_rdH hW hP9 hSh hRu ht9) hK (va_recv hK (hb1 hW (show 0 < 126 by omega) (lcE rfl sh_0)) (q0 := 0) (ci := 8) rfl rfl)) rfl rfl hl.1 rfl (lv_room (Nat.le_of_ble_eq_true rfl)) dX8_worker_2 ⟨Nat.le_of_ble_eq_true rfl, Nat.le_of_ble_eq_true rfl⟩)) (fun r hr9 => ?_)
  subst hr9
  refine z_bz_ne (tgt := 18) hx hb dX8_worker_5 (by decide) (fun h5 => ?_) (fun h5 => ?_)
  · obtain ⟨w, rfl⟩ := Int.eq_ofNat_of_zero_le h5.1
    obtain ⟨gd, hg⟩ := hSh w (by omega) (by omega)
    have hgb0 := hg.2.2.2.2.2.2.2.2.2.1
    have hgb1 := hg.2.2.2.2.2.2.2.2.2.2
    have hgg : goneN N w ≤ 1 := (hN.gone (w := w) (by omega)).le
    have hgn : N (58 + 13 * w + 9) = zI ((goneN N w : Nat) : Int) := by rw [show 58 + 13 * w + 9 = 67 + 13 * w by omega]; exact (hN.gone (w := w) (by omega)).eq
    refine lv_aload_n hx hb dX8_worker_18 rfl (lv_at hl 0 rfl) ?_
    have r_0 : M (0) = M 0 := hex (0) 
    refine va_get (D := g.1) (ci := 8) (v := .ref ((ad 5))) (C := RX8) (T := TX8) (N := 7) hx hb hts hinX8 hown hK (hb1 hW (show 0 < 126 by omega) (lcE r_0 sh_0)) 0 rfl rfl 2 (by decide) k37 (fun _ h9 => h9) rfl dX8_worker_19 ?_
    refine lv_iload_n hx hb dX8_worker_22 rfl (lv_at hl 1 rfl) ?_
    have r_5 : M (5) = M 5 := hex (5) 
    refine z_aald hx hb hK (hb1 hW (show 5 < 126 by omega) (lcE r_5 sh_5)) 0 4 rfl rfl rfl (by decide) (w) (by omega) (by omega) rfl dX8_worker_23 ?_
    refine lv_astore_n (lv' := [(3, .ref ((ad (46 + 5 * w)))), (0, .ref ((ad 0))), (1, .int (zI ((w : Int)))), (2, .int (zI (x)))]) hx hb dX8_worker_24 rfl hl (by decide) rfl (fun ls hl => ?_)
    refine lv_aload_n hx hb dX8_worker_25 rfl (lv_at hl 0 rfl) ?_
    have r_46_5_w : M (46 + 5 * w) = M (46 + 5 * w) := hex (46 + 5 * w) 
    refine va_get (D := g.1) (ci := 3) (v := .ref ((ad (46 + 5 * w + 4)))) (C := RX3) (T := TX3) (N := 7) hx hb hts hinX3 hown hK (hb1 hW (show 46 + 5 * w < 126 by omega) (lcE r_46_5_w (sh_S0 (w := w) (by omega)))) 0 rfl rfl 3 (by decide) k112 (fun _ h9 => h9) rfl dX8_worker_26 ?_
    refine lv_astore (lv' := [(4, .ref ((ad (46 + 5 * w + 4)))), (3, .ref ((ad (46 + 5 * w)))), (0, .ref ((ad 0))), (1, .int (zI ((w : Int)))), (2, .int (zI (x)))]) hx hb dX8_worker_29 hl (by decide) rfl (fun ls hl => ?_)
    refine lv_iload_n hx hb dX8_worker_31 rfl (lv_at hl 4 rfl) ?_
    have r_46_5_w_4 : M (46 + 5 * w + 4) = M (46 + 5 * w + 4) := hex (46 + 5 * w + 4) 
    by_cases q32_0 : x = 0
    · subst q32_0
      refine lv_tableIn (off := 64) (tgt := 96) hx hb dX8_worker_32 (by decide) (by decide) (by decide) (by decide) ?_
      refine lv_aload hx hb dX8_worker_96 (lv_at hl 0 rfl) ?_
      refine va_get (D := g.1) (ci := 0) (v := .int ((M (46 + 5 * w + 4)) 0)) (C := RX0) (T := TX0) (N := 9) hx hb hts hinX0 hown hK (hb1 hW (show 46 + 5 * w + 4 < 126 by omega) (lcE r_46_5_w_4 (sh_S4 (w := w) (by omega)))) 0 rfl rfl 0 (by decide) k116 (fun _ h9 => h9) rfl dX8_worker_98 ?_
      refine vx_ret ?_
      refine W.widen (Nat.zero_le 1) (Nat.zero_le 6) ?_
      have hW : cw g ad P M H := hW
      exact W.iret hx hb hr (fun tX htX hWX => ⟨⟨_, (), rfl, ⟨(hg.2.2.2.2.2.1 0 (by omega)).trans (congrArg Prod.snd (workerF_in h5 0)).symm, congrArg Prod.fst (workerF_in h5 0)⟩, g_at htX hW⟩, hS.F htX⟩) hS.2.2 dX8_worker_101
    by_cases q32_1 : x = 1
    · subst q32_1
      refine lv_tableIn (off := 70) (tgt := 102) hx hb dX8_worker_32 (by decide) (by decide) (by decide) (by decide) ?_
      refine lv_aload_n hx hb dX8_worker_102 rfl (lv_at hl 1 rfl) ?_
      refine vp_callSi (va_Run.run (va_runV (As := []) (rest := []) ⟨hx, hb, hml, hown, hts⟩ (c_X3_leaveLeft l g ((ad (46 + 5 * w))) (w) (N) (hN) (by omega)) (cwV 0 hts gX8_workerT_X3_leaveLeft rfl rfl rfl (by decide +kernel) ⟨Nat.le_of_ble_eq_true rfl, Nat.le_of_ble_eq_true rfl⟩) (g_preV ((cw_rdS hW (w := w) (gd := gd) (by omega) (hP9.s (by omega)) hg (by rw [hP9.2 w (by omega)]; exact hRu))) hK (rdS_recv hK (cw_rdS hW (w := w) (gd := gd) (by omega) (hP9.s (by omega)) hg (by rw [hP9.2 w (by omega)]; exact hRu)))) rfl rfl hl.1 rfl (lv_room (Nat.le_of_ble_eq_true rfl)) dX8_worker_103 ⟨Nat.le_of_ble_eq_true rfl, Nat.le_of_ble_eq_true rfl⟩)) (fun r hr9 => ?_)
      subst hr9
      refine vx_ret ?_
      refine W.widen (Nat.zero_le 1) (Nat.zero_le 6) ?_
      have hW : cw g ad P M H := hW
      exact W.iret hx hb hr (fun tX htX hWX => ⟨⟨_, (), rfl, ⟨(congrArg Prod.snd (workerF_in h5 1)).symm, congrArg Prod.fst (workerF_in h5 1)⟩, g_at htX hW⟩, hS.F htX⟩) hS.2.2 dX8_worker_106
    by_cases q32_2 : x = 2
    · subst q32_2
      refine lv_tableIn (off := 75) (tgt := 107) hx hb dX8_worker_32 (by decide) (by decide) (by decide) (by decide) ?_
      refine lv_aload hx hb dX8_worker_107 (lv_at hl 0 rfl) ?_
      refine va_get (D := g.1) (ci := 0) (v := .int ((M (46 + 5 * w + 4)) 1)) (C := RX0) (T := TX0) (N := 9) hx hb hts hinX0 hown hK (hb1 hW (show 46 + 5 * w + 4 < 126 by omega) (lcE r_46_5_w_4 (sh_S4 (w := w) (by omega)))) 0 rfl rfl 1 (by decide) k124 (fun _ h9 => h9) rfl dX8_worker_109 ?_
      refine vx_ret ?_
      refine W.widen (Nat.zero_le 1) (Nat.zero_le 6) ?_
      have hW : cw g ad P M H := hW
      exact W.iret hx hb hr (fun tX htX hWX => ⟨⟨_, (), rfl, ⟨(hg.2.2.2.2.2.1 1 (by omega)).trans (congrArg Prod.snd (workerF_in h5 2)).symm, congrArg Prod.fst (workerF_in h5 2)⟩, g_at htX hW⟩, hS.F htX⟩) hS.2.2 dX8_worker_112
    by_cases q32_3 : x = 3
    · subst q32_3
      refine lv_tableIn (off := 81) (tgt := 113) hx hb dX8_worker_32 (by decide) (by decide) (by decide) (by decide) ?_
      refine lv_aload hx hb dX8_worker_113 (lv_at hl 0 rfl) ?_
      refine va_get (D := g.1) (ci := 0) (v := .int ((M (46 + 5 * w + 4)) 2)) (C := RX0) (T := TX0) (N := 9) hx hb hts hinX0 hown hK (hb1 hW (show 46 + 5 * w + 4 < 126 by omega) (lcE r_46_5_w_4 (sh_S4 (w := w) (by omega)))) 0 rfl rfl 2 (by decide) k127 (fun _ h9 => h9) rfl dX8_worker_115 ?_
      refine vx_ret ?_
      refine W.widen (Nat.zero_le 1) (Nat.zero_le 6) ?_
      have hW : cw g ad P M H := hW
      exact W.iret hx hb hr (fun tX htX hWX => ⟨⟨_, (), rfl, ⟨(hg.2.2.2.2.2.1 2 (by omega)).trans (congrArg Prod.snd (workerF_in h5 3)).symm, congrArg Prod.fst (workerF_in h5 3)⟩, g_at htX hW⟩, hS.F htX⟩) hS.2.2 dX8_worker_118
    by_cases q32_4 : x = 4
    · subst q32_4
      refine lv_tableIn (off := 87) (tgt := 119) hx hb dX8_worker_32 (by decide) (by decide) (by decide) (by decide) ?_
      refine lv_aload hx hb dX8_worker_119 (lv_at hl 0 rfl) ?_
      refine va_get (D := g.1) (ci := 0) (v := .int ((M (46 + 5 * w + 4)) 3)) (C := RX0) (T := TX0) (N := 9) hx hb hts hinX0 hown hK (hb1 hW (show 46 + 5 * w + 4 < 126 by omega) (lcE r_46_5_w_4 (sh_S4 (w := w) (by omega)))) 0 rfl rfl 3 (by decide) k130 (fun _ h9 => h9) rfl dX8_worker_121 ?_
      refine vx_ret ?_
      refine W.widen (Nat.zero_le 1) (Nat.zero_le 6) ?_
      have hW : cw g ad P M H := hW
      exact W.iret hx hb hr (fun tX htX hWX => ⟨⟨_, (), rfl, ⟨(hg.2.2.2.2.2.1 3 (by omega)).trans (congrArg Prod.snd (workerF_in h5 4)).symm, congrArg Prod.fst (workerF_in h5 4)⟩, g_at htX hW⟩, hS.F htX⟩) hS.2.2 dX8_worker_124
    by_cases q32_5 : x = 5
    · subst q32_5
      refine lv_tableIn (off := 93) (tgt := 125) hx hb dX8_worker_32 (by decide) (by decide) (by decide) (by decide) ?_
      refine lv_aload hx hb dX8_worker_125 (lv_at hl 0 rfl) ?_
      refine va_get (D := g.1) (ci := 0) (v := .int ((M (46 + 5 * w + 4)) 4)) (C := RX0) (T := TX0) (N := 9) hx hb hts hinX0 hown hK (hb1 hW (show 46 + 5 * w + 4 < 126 by omega) (lcE r_46_5_w_4 (sh_S4 (w := w) (by omega)))) 0 rfl rfl 4 (by decide) k133 (fun _ h9 => h9) rfl dX8_worker_127 ?_
      refine vx_ret ?_
      refine W.widen (Nat.zero_le 1) (Nat.zero_le 6) ?_
      have hW : cw g ad P M H := hW
      exact W.iret hx hb hr (fun tX htX hWX => ⟨⟨_, (), rfl, ⟨(hg.2.2.2.2.2.1 4 (by omega)).trans (congrArg Prod.snd (workerF_in h5 5)).symm, congrArg Prod.fst (workerF_in h5 5)⟩, g_at htX hW⟩, hS.F htX⟩) hS.2.2 dX8_worker_130
    by_cases q32_6 : x = 6
    · subst q32_6
      refine lv_tableIn (off := 99) (tgt := 131) hx hb dX8_worker_32 (by decide) (by decide) (by decide) (by decide) ?_
      refine lv_aload hx hb dX8_worker_131 (lv_at hl 0 rfl) ?_
      refine va_get (D := g.1) (ci := 0) (v := .int ((M (46 + 5 * w + 4)) 5)) (C := RX0) (T := TX0) (N := 9) hx hb hts hinX0 hown hK (hb1 hW (show 46 + 5 * w + 4 < 126 by omega) (lcE r_46_5_w_4 (sh_S4 (w := w) (by omega)))) 0 rfl rfl 5 (by decide) k136 (fun _ h9 => h9) rfl dX8_worker_133 ?_
      refine vx_ret ?_
      refine W.widen (Nat.zero_le 1) (Nat.zero_le 6) ?_
      have hW : cw g ad P M H := hW
      exact W.iret hx hb hr (fun tX htX hWX => ⟨⟨_, (), rfl, ⟨(hg.2.2.2.2.2.1 5 (by omega)).trans (congrArg Prod.snd (workerF_in h5 6)).symm, congrArg Prod.fst (workerF_in h5 6)⟩, g_at htX hW⟩, hS.F htX⟩) hS.2.2 dX8_worker_136
    by_cases q32_7 : x = 7
    · subst q32_7
      refine lv_tableIn (off := 105) (tgt := 137) hx hb dX8_worker_32 (by decide) (by decide) (by decide) (by decide) ?_
      refine lv_aload hx hb dX8_worker_137 (lv_at hl 0 rfl) ?_
      refine va_get (D := g.1) (ci := 0) (v := .int ((M (46 + 5 * w + 4)) 6)) (C := RX0) (T := TX0) (N := 9) hx hb hts hinX0 hown hK (hb1 hW (show 46 + 5 * w + 4 < 126 by omega) (lcE r_46_5_w_4 (sh_S4 (w := w) (by omega)))) 0 rfl rfl 6 (by decide) k139 (fun _ h9 => h9) rfl dX8_worker_139 ?_
      refine vx_ret ?_
      refine W.widen (Nat.zero_le 1) (Nat.zero_le 6) ?_
      have hW : cw g ad P M H := hW
      exact W.iret hx hb hr (fun tX htX hWX => ⟨⟨_, (), rfl, ⟨(hg.2.2.2.2.2.1 6 (by omega)).trans (congrArg Prod.snd (workerF_in h5 7)).symm, congrArg Prod.fst (workerF_in h5 7)⟩, g_at htX hW⟩, hS.F htX⟩) hS.2.2 dX8_worker_142
    by_cases q32_8 : x = 8
    · subst q32_8
      refine lv_tableIn (off := 111) (tgt := 143) hx hb dX8_worker_32 (by decide) (by decide) (by decide) (by decide) ?_
      refine lv_aload_n hx hb dX8_worker_143 rfl (lv_at hl 1 rfl) ?_
      refine lv_aload_n hx hb dX8_worker_144 rfl (lv_at hl 2 rfl) ?_
      refine va_get (D := g.1) (ci := 8) (v := .int ((M 0) 0)) (C := RX8) (T := TX8) (N := 7) hx hb hts hinX8 hown hK (hb1 hW (show 0 < 126 by omega) (lcE r_0 sh_0)) 0 rfl rfl 6 (by decide) k51 (fun _ h9 => h9) rfl dX8_worker_145 ?_
      refine z_top (y := zI (mn N 110)) (ht9.trans hN.td.eq) ?_
      refine vp_callSi (va_Run.run (va_runV (As := [.int (zI (mn N 110))]) (rest := []) ⟨hx, hb, hml, hown, hts⟩ (c_X3_workedBefore l g ((ad (46 + 5 * w))) (w) (N) (hN) (by omega) ((mn N 110)) (hqtd)) (cwV 1 hts gX8_workerT_X3_workedBefore rfl rfl rfl (by decide +kernel) ⟨Nat.le_of_ble_eq_true rfl, Nat.le_of_ble_eq_true rfl⟩) (g_preV ((cw_rdS hW (w := w) (gd := gd) (by omega) (hP9.s (by omega)) hg (by rw [hP9.2 w (by omega)]; exact hRu))) hK (rdS_recv hK (cw_rdS hW (w := w) (gd := gd) (by omega) (hP9.s (by omega)) hg (by rw [hP9.2 w (by omega)]; exact hRu)))) rfl rfl hl.1 rfl (lv_room (Nat.le_of_ble_eq_true rfl)) dX8_worker_148 ⟨Nat.le_of_ble_eq_true rfl, Nat.le_of_ble_eq_true rfl⟩)) (fun r hr9 => ?_)
      subst hr9
      refine vx_ret ?_
      refine W.widen (Nat.zero_le 1) (Nat.zero_le 6) ?_
      have hW : cw g ad P M H := hW
      exact W.iret hx hb hr (fun tX htX hWX => ⟨⟨_, (), rfl, ⟨(congrArg Prod.snd (workerF_in h5 8)).symm, congrArg Prod.fst (workerF_in h5 8)⟩, g_at htX hW⟩, hS.F htX⟩) hS.2.2 dX8_worker_151
    by_cases q32_9 : x = 9
    · subst q32_9
      refine lv_tableIn (off := 120) (tgt := 152) hx hb dX8_worker_32 (by decide) (by decide) (by decide) (by decide) ?_
      refine lv_aload_n hx hb dX8_worker_152 rfl (lv_at hl 1 rfl) ?_
      refine lv_aload_n hx hb dX8_worker_153 rfl (lv_at hl 2 rfl) ?_
      refine va_get (D := g.1) (ci := 8) (v := .int ((M 0) 0)) (C := RX8) (T := TX8) (N := 7) hx hb hts hinX8 hown hK (hb1 hW (show 0 < 126 by omega) (lcE r_0 sh_0)) 0 rfl rfl 6 (by decide) k51 (fun _ h9 => h9) rfl dX8_worker_154 ?_
      refine z_top (y := zI (mn N 110)) (ht9.trans hN.td.eq) ?_
      refine vp_callSi (va_Run.run (va_runV (As := [.int (zI (mn N 110))]) (rest := []) ⟨hx, hb, hml, hown, hts⟩ (c_X3_sickDaysBefore l g ((ad (46 + 5 * w))) (w) (N) (hN) (by omega) ((mn N 110)) (hqtd)) (cwV 1 hts gX8_workerT_X3_sickDaysBefore rfl rfl rfl (by decide +kernel) ⟨Nat.le_of_ble_eq_true rfl, Nat.le_of_ble_eq_true rfl⟩) (g_preV ((cw_rdS hW (w := w) (gd := gd) (by omega) (hP9.s (by omega)) hg (by rw [hP9.2 w (by omega)]; exact hRu))) hK (rdS_recv hK (cw_rdS hW (w := w) (gd := gd) (by omega) (hP9.s (by omega)) hg (by rw [hP9.2 w (by omega)]; exact hRu)))) rfl rfl hl.1 rfl (lv_room (Nat.le_of_ble_eq_true rfl)) dX8_worker_157 ⟨Nat.le_of_ble_eq_true rfl, Nat.le_of_ble_eq_true rfl⟩)) (fun r hr9 => ?_)
      subst hr9
      refine vx_ret ?_
      refine W.widen (Nat.zero_le 1) (Nat.zero_le 6) ?_
      have hW : cw g ad P M H := hW
      exact W.iret hx hb hr (fun tX htX hWX => ⟨⟨_, (), rfl, ⟨(congrArg Prod.snd (workerF_in h5 9)).symm, congrArg Prod.fst (workerF_in h5 9)⟩, g_at htX hW⟩, hS.F htX⟩) hS.2.2 dX8_worker_160
    by_cases q32_10 : x = 10
    · subst q32_10
      refine lv_tableIn (off := 129) (tgt := 161) hx hb dX8_worker_32 (by decide) (by decide) (by decide) (by decide) ?_
      refine lv_aload hx hb dX8_worker_161 (lv_at hl 0 rfl) ?_
      refine va_get (D := g.1) (ci := 0) (v := .int ((M (46 + 5 * w + 4)) 7)) (C := RX0) (T := TX0) (N := 9) hx hb hts hinX0 hown hK (hb1 hW (show 46 + 5 * w + 4 < 126 by omega) (lcE r_46_5_w_4 (sh_S4 (w := w) (by omega)))) 0 rfl rfl 7 (by decide) k149 (fun _ h9 => h9) rfl dX8_worker_163 ?_
      refine vx_ret ?_
      refine W.widen (Nat.zero_le 1) (Nat.zero_le 6) ?_
      have hW : cw g ad P M H := hW
      exact W.iret hx hb hr (fun tX htX hWX => ⟨⟨_, (), rfl, ⟨(hg.2.2.2.2.2.2.1).trans (congrArg Prod.snd (workerF_in h5 10)).symm, congrArg Prod.fst (workerF_in h5 10)⟩, g_at htX hW⟩, hS.F htX⟩) hS.2.2 dX8_worker_166
    by_cases q32_11 : x = 11
    · subst q32_11
      refine lv_tableIn (off := 135) (tgt := 167) hx hb dX8_worker_32 (by decide) (by decide) (by decide) (by decide) ?_
      refine lv_aload hx hb dX8_worker_167 (lv_at hl 0 rfl) ?_
      refine vp_callSi (va_Run.run (va_runV (As := []) (rest := []) ⟨hx, hb, hml, hown, hts⟩ (c_X0_isGone l g ((ad (46 + 5 * w + 4))) ((M (46 + 5 * w + 4))) (gd) (hg.2.2.2.2.2.2.2.1) (hg.2.2.2.2.2.2.2.2.1)) (cwV 0 hts gX8_workerT_X0_isGone rfl rfl rfl (by decide +kernel) ⟨Nat.le_of_ble_eq_true rfl, Nat.le_of_ble_eq_true rfl⟩) (g_preV ((hb1 hW (show 46 + 5 * w + 4 < 126 by omega) (lcE rfl (sh_S4 (w := w) (by omega))))) hK (va_recv hK (hb1 hW (show 46 + 5 * w + 4 < 126 by omega) (lcE rfl (sh_S4 (w := w) (by omega)))) (q0 := 0) (ci := 0) rfl rfl)) rfl rfl hl.1 rfl (lv_room (Nat.le_of_ble_eq_true rfl)) dX8_worker_169 ⟨Nat.le_of_ble_eq_true rfl, Nat.le_of_ble_eq_true rfl⟩)) (fun r hr9 => ?_)
      subst hr9
      refine z_bz_eq (tgt := 179) hx hb dX8_worker_172 (by decide) (fun h172 => ?_) (fun h172 => ?_)
      · refine lv_iconst (v := zI (0)) hx hb dX8_worker_179 (by decide) ?_
        refine vx_ret ?_
        refine W.widen (Nat.zero_le 1) (Nat.zero_le 6) ?_
        have hW : cw g ad P M H := hW
        exact W.iret hx hb hr (fun tX htX hWX => ⟨⟨_, (), rfl, ⟨(congrArg zI (show (0 : Int) = ((goneN N w : Nat) : Int) by omega)).trans (hgn.symm.trans (congrArg Prod.snd (workerF_in h5 11)).symm), congrArg Prod.fst (workerF_in h5 11)⟩, g_at htX hW⟩, hS.F htX⟩) hS.2.2 dX8_worker_180
      · refine lv_iconst (v := zI (1)) hx hb dX8_worker_175 (by decide) ?_
        refine lv_goto (tgt := 180) hx hb dX8_worker_176 (by decide) ?_
        refine vx_ret ?_
        refine W.widen (Nat.zero_le 1) (Nat.zero_le 6) ?_
        have hW : cw g ad P M H := hW
        exact W.iret hx hb hr (fun tX htX hWX => ⟨⟨_, (), rfl, ⟨(congrArg zI (show (1 : Int) = ((goneN N w : Nat) : Int) by omega)).trans (hgn.symm.trans (congrArg Prod.snd (workerF_in h5 11)).symm), congrArg Prod.fst (workerF_in h5 11)⟩, g_at htX hW⟩, hS.F htX⟩) hS.2.2 dX8_worker_180
    refine lv_tableOut (tgt := 181) hx hb dX8_worker_32 (by rw [zI_toInt hx0]; omega) (by decide) ?_
    exact ns_throw (A := hbA ad) hx hb hl9 hown kcl9 kin9 hX.2.2.1 hX.1 hX.2.2.2.1 hX.2.2.2.2 hS (hl.1.trans hml.symm) dX8_worker_181 dX8_worker_184 dX8_worker_185 dX8_worker_187 dX8_worker_190 (fun x9 hx9 => (hno x9 hx9).elim) (Nat.le_of_ble_eq_true rfl) (Nat.le_of_ble_eq_true rfl) (Nat.le_of_ble_eq_true rfl) (Nat.le_of_ble_eq_true rfl) hlocks (fun t9 _ h19 h29 => xE_of (congrArg Prod.fst (workerF_bad h5 x q32_0 q32_1 q32_2 q32_3 q32_4 q32_5 q32_6 q32_7 q32_8 q32_9 q32_10 q32_11)) hW hS h19 h29) hS.2.2 (Nat.le_of_ble_eq_true rfl) (Nat.le_of_ble_eq_true rfl)
  · exact ns_throw (A := hbA ad) hx hb hl9 hown kcl9 kin9 hX.2.1 hX.1 hX.2.2.2.1 hX.2.2.2.2 hS (hl.1.trans hml.symm) dX8_worker_8 dX8_worker_11 dX8_worker_12 dX8_worker_14 dX8_worker_17 (fun x9 hx9 => (hno x9 hx9).elim) (Nat.le_of_ble_eq_true rfl) (Nat.le_of_ble_eq_true rfl) (Nat.le_of_ble_eq_true rfl) (Nat.le_of_ble_eq_true rfl) hlocks (fun t9 _ h19 h29 => xE_of (by rw [workerF_out h5]) hW hS h19 h29) hS.2.2 (Nat.le_of_ble_eq_true rfl) (Nat.le_of_ble_eq_true rfl)

set_option maxHeartbeats 4000000 in
set_option maxRecDepth 100000 in
theorem c_X8_dueT (l : Launch) (hl9 : l.stackTraces = false) (g : GG) (xk : Nat → Nat) (ad : Nat → Nat) (hd9 : hD ad) (P : Nat → Nat) (M : Nat → Nat → Int32) (N sn : Nat → Int32) (k : Nat) (hI : INV P M N sn k) (v : Int) (hv : R32 v) : vx_Met l yX8_due wsX8_dueT ({ frames := 6, cells := 1, slots := 6, locals := 90 }) (gyPc g xk ad [.ref ((ad 0)), .int (zI (v))] (cw g ad P M)) (va_Qi (fun (r : Int32) (u : Unit) => r = (dueF N v).2 ∧ (dueF N v).1 = zI 0) (fun (u : Unit) (tS : State) => cw g ad P M tS.heap) (hbA ad)) (xE g ad P M (((dueF N v).1 = zI 1))) 1 6 (hbA ad) := by
  refine vx_ofW (cc := cX8_due) (maxL := 2) (ret := (some .int)) (by decide) rfl ?_
  intro p e s m args below meth c s₁ B hml hno hv
  obtain ⟨rfl, hW, hK, hX⟩ := hv
  have hx := B.exec
  have hb := B.bytes
  have hr := B.returns
  have hts := atoms_spec (ws := wsX8_dueT) B.pre
  have hown : s.vm.findClass RX8 = some m.cls := findClass_of_methodNamed B.named
  have hlocks := B.notSynchronized
  have hinX8 : ∀ w ∈ wsX80, w ∈ wsX8_dueT := by decide +kernel
  have k37 := hts (.fieldLink RX8 37 "HoursBank" "sheets" "[LHoursBank$Sheet;") (by decide +kernel)
  have k51 := hts (.fieldLink RX8 51 "HoursBank" "today" "I") (by decide +kernel)
  have kcl9 := hts (.classLink RX8 105 nsE) (by decide +kernel)
  have kin9 := hts (.initialized nsE) (by decide +kernel)
  have hl := lv_entry ([.ref ((ad 0)), .int (zI (v))]) (n := 2) (Nat.le_of_ble_eq_true rfl)
  rw [lg_entry_eq]
  generalize (lg_sl ([.ref ((ad 0)), .int (zI (v))]) ++ List.replicate (2 - (lg_sl ([.ref ((ad 0)), .int (zI (v))])).length) Slot.unset).toArray = ls at hl ⊢
  have hl : lv_has ls 2 [(0, .ref ((ad 0))), (1, .int (zI (v)))] := hl
  have hS : va_S (hbA ad) s.heap s.heap [] := va_S.rf
  obtain ⟨H, hH9⟩ : ∃ H, H = s.heap := ⟨_, rfl⟩
  obtain ⟨locs, hL9⟩ : ∃ x9l : List Loc, x9l = [] := ⟨_, rfl⟩
  have hW : cw g ad P M H := hH9 ▸ hW
  have hS : va_S (hbA ad) s.heap H locs := by rw [hH9, hL9]; exact hS
  refine z_start hH9 hL9 ?_
  clear hH9 hL9
  have hex : ∀ j : Nat, M j = M j := fun _ => rfl
  obtain ⟨hP9, hc9, hk10, hk6, nx, hnx, hn6, hch9⟩ := id hI
  obtain ⟨hN, hZt, hst9, hRu, hSh, ht9, hfl9⟩ := id hc9
  have hq57 := hN.nw.le
  have hqtd := hN.td.le
  refine lv_aload_n hx hb dX8_due_0 rfl (lv_at hl 0 rfl) ?_
  refine lv_iload_n hx hb dX8_due_1 rfl (lv_at hl 1 rfl) ?_
  refine vp_callSi (va_Run.run (va_runV (As := [.int (zI (v))]) (rest := []) ⟨hx, hb, hml, hown, hts⟩ (c_X8_isPresent l g ((ad 0)) (N) (hN) ((M 6 1)) ((M 1 0)) (v) (hv)) (cwV 1 hts gX8_dueT_X8_isPresent rfl rfl rfl (by decide +kernel) ⟨Nat.le_of_ble_eq_true rfl, Nat.le_of_ble_eq_true rfl⟩) (g_preV (cw_rdH hW hP9 hSh hRu ht9) hK (va_recv hK (hb1 hW (show 0 < 126 by omega) (lcE rfl sh_0)) (q0 := 0) (ci := 8) rfl rfl)) rfl rfl hl.1 rfl (lv_room (Nat.le_of_ble_eq_true rfl)) dX8_due_2 ⟨Nat.le_of_ble_eq_true rfl, Nat.le_of_ble_eq_true rfl⟩)) (fun r hr9 => ?_)
  subst hr9
  refine z_bz_ne (tgt := 18) hx hb dX8_due_5 (by decide) (fun h5 => ?_) (fun h5 => ?_)
  · obtain ⟨w, rfl⟩ := Int.eq_ofNat_of_zero_le h5.1.1
    have hgo9 : goneN N w = 0 := h5.2
    obtain ⟨gd, hg⟩ := hSh w (by omega) (by omega)
    have hgb0 := hg.2.2.2.2.2.2.2.2.2.1
    have hgb1 := hg.2.2.2.2.2.2.2.2.2.2
    have hgg : goneN N w ≤ 1 := (hN.gone (w := w) (by omega)).le
    have hgn : N (58 + 13 * w + 9) = zI ((goneN N w : Nat) : Int) := by rw [show 58 + 13 * w + 9 = 67 + 13 * w by omega]; exact (hN.gone (w := w) (by omega)).eq
    refine lv_aload_n hx hb dX8_due_18 rfl (lv_at hl 0 rfl) ?_
    have r_0 : M (0) = M 0 := hex (0) 
    refine va_get (D := g.1) (ci := 8) (v := .ref ((ad 5))) (C := RX8) (T := TX8) (N := 7) hx hb hts hinX8 hown hK (hb1 hW (show 0 < 126 by omega) (lcE r_0 sh_0)) 0 rfl rfl 2 (by decide) k37 (fun _ h9 => h9) rfl dX8_due_19 ?_
    refine lv_iload_n hx hb dX8_due_22 rfl (lv_at hl 1 rfl) ?_
    have r_5 : M (5) = M 5 := hex (5) 
    refine z_aald hx hb hK (hb1 hW (show 5 < 126 by omega) (lcE r_5 sh_5)) 0 4 rfl rfl rfl (by decide) (w) (by omega) (by omega) rfl dX8_due_23 ?_
    refine lv_aload_n hx hb dX8_due_24 rfl (lv_at hl 0 rfl) ?_
    refine va_get (D := g.1) (ci := 8) (v := .int ((M 0) 0)) (C := RX8) (T := TX8) (N := 7) hx hb hts hinX8 hown hK (hb1 hW (show 0 < 126 by omega) (lcE r_0 sh_0)) 0 rfl rfl 6 (by decide) k51 (fun _ h9 => h9) rfl dX8_due_25 ?_
    refine z_top (y := zI (mn N 110)) (ht9.trans hN.td.eq) ?_
    refine vp_callSi (va_Run.run (va_runV (As := [.int (zI (mn N 110))]) (rest := []) ⟨hx, hb, hml, hown, hts⟩ (c_X3_settlementOn l g ((ad (46 + 5 * w))) (w) (N) (hN) (by omega)) (cwV 1 hts gX8_dueT_X3_settlementOn rfl rfl rfl (by decide +kernel) ⟨Nat.le_of_ble_eq_true rfl, Nat.le_of_ble_eq_true rfl⟩) (g_preV ((cw_rdS hW (w := w) (gd := gd) (by omega) (hP9.s (by omega)) hg (by rw [hP9.2 w (by omega)]; exact hRu))) hK (rdS_recv hK (cw_rdS hW (w := w) (gd := gd) (by omega) (hP9.s (by omega)) hg (by rw [hP9.2 w (by omega)]; exact hRu)))) rfl rfl hl.1 rfl (lv_room (Nat.le_of_ble_eq_true rfl)) dX8_due_28 ⟨Nat.le_of_ble_eq_true rfl, Nat.le_of_ble_eq_true rfl⟩)) (fun r hr9 => ?_)
    subst hr9
    refine vx_ret ?_
    refine W.widen (Nat.zero_le 1) (Nat.zero_le 6) ?_
    have hW : cw g ad P M H := hW
    exact W.iret hx hb hr (fun tX htX hWX => ⟨⟨_, (), rfl, ⟨by unfold dueF; rw [if_pos h5]; rfl, by unfold dueF; rw [if_pos h5]⟩, g_at htX hW⟩, hS.F htX⟩) hS.2.2 dX8_due_31
  · exact ns_throw (A := hbA ad) hx hb hl9 hown kcl9 kin9 hX.2.1 hX.1 hX.2.2.2.1 hX.2.2.2.2 hS (hl.1.trans hml.symm) dX8_due_8 dX8_due_11 dX8_due_12 dX8_due_14 dX8_due_17 (fun x9 hx9 => (hno x9 hx9).elim) (Nat.le_of_ble_eq_true rfl) (Nat.le_of_ble_eq_true rfl) (Nat.le_of_ble_eq_true rfl) (Nat.le_of_ble_eq_true rfl) hlocks (fun t9 _ h19 h29 => xE_of (by unfold dueF; rw [if_neg h5]) hW hS h19 h29) hS.2.2 (Nat.le_of_ble_eq_true rfl) (Nat.le_of_ble_eq_true rfl)

set_option maxHeartbeats 4000000 in
set_option maxRecDepth 100000 in
theorem c_X8_leaveT (l : Launch) (hl9 : l.stackTraces = false) (g : GG) (xk : Nat → Nat) (ad : Nat → Nat) (hd9 : hD ad) (P : Nat → Nat) (M : Nat → Nat → Int32) (N sn : Nat → Int32) (k : Nat) (hI : INV P M N sn k) (v : Int) (hv : R32 v) : vx_Met l yX8_leave wsX8_leaveT ({ frames := 6, cells := 1, slots := 6, locals := 90 }) (gyPc g xk ad [.ref ((ad 0)), .int (zI (v))] (cw g ad P M)) (va_Qi (fun (r : Int32) (u : Nat → Nat → Int32) => r = (dueF N v).2 ∧ (dueF N v).1 = zI 0 ∧ actQ P M u (actN (hereC N v) N (leaveN N v.toNat)) (actS (hereC N v) sn N k) (actK (hereC N v) k)) (fun (u : Nat → Nat → Int32) (tS : State) => cw g ad P u tS.heap) (hbA ad)) (xE g ad P M (((dueF N v).1 = zI 1))) 1 6 (hbA ad) := by
  refine vx_ofW (cc := cX8_leave) (maxL := 3) (ret := (some .int)) (by decide) rfl ?_
  intro p e s m args below meth c s₁ B hml hno hv
  obtain ⟨rfl, hW, hK, hX⟩ := hv
  have hx := B.exec
  have hb := B.bytes
  have hr := B.returns
  have hts := atoms_spec (ws := wsX8_leaveT) B.pre
  have hown : s.vm.findClass RX8 = some m.cls := findClass_of_methodNamed B.named
  have hlocks := B.notSynchronized
  have hinX0 : ∀ w ∈ wsX00, w ∈ wsX8_leaveT := by decide +kernel
  have hinX3 : ∀ w ∈ wsX30, w ∈ wsX8_leaveT := by decide +kernel
  have hinX8 : ∀ w ∈ wsX80, w ∈ wsX8_leaveT := by decide +kernel
  have k47 := hts (.fieldLink RX8 47 "HoursBank" "history" "LHoursBank$History;") (by decide +kernel)
  have k51 := hts (.fieldLink RX8 51 "HoursBank" "today" "I") (by decide +kernel)
  have k37 := hts (.fieldLink RX8 37 "HoursBank" "sheets" "[LHoursBank$Sheet;") (by decide +kernel)
  have k112 := hts (.fieldLink RX8 112 "HoursBank$Sheet" "account" "LHoursBank$Account;") (by decide +kernel)
  have k139 := hts (.fieldLink RX8 139 "HoursBank$Account" "settled" "I") (by decide +kernel)
  have k116 := hts (.fieldLink RX8 116 "HoursBank$Account" "balance" "I") (by decide +kernel)
  have k243 := hts (.fieldLink RX8 243 "HoursBank$Account" "goneOn" "I") (by decide +kernel)
  have kcl9 := hts (.classLink RX8 105 nsE) (by decide +kernel)
  have kin9 := hts (.initialized nsE) (by decide +kernel)
  have hl := lv_entry ([.ref ((ad 0)), .int (zI (v))]) (n := 3) (Nat.le_of_ble_eq_true rfl)
  rw [lg_entry_eq]
  generalize (lg_sl ([.ref ((ad 0)), .int (zI (v))]) ++ List.replicate (3 - (lg_sl ([.ref ((ad 0)), .int (zI (v))])).length) Slot.unset).toArray = ls at hl ⊢
  have hl : lv_has ls 3 [(0, .ref ((ad 0))), (1, .int (zI (v)))] := hl
  have hS : va_S (hbA ad) s.heap s.heap [] := va_S.rf
  obtain ⟨H, hH9⟩ : ∃ H, H = s.heap := ⟨_, rfl⟩
  obtain ⟨locs, hL9⟩ : ∃ x9l : List Loc, x9l = [] := ⟨_, rfl⟩
  have hW : cw g ad P M H := hH9 ▸ hW
  have hS : va_S (hbA ad) s.heap H locs := by rw [hH9, hL9]; exact hS
  refine z_start hH9 hL9 ?_
  clear hH9 hL9
  have hex : ∀ j : Nat, M j = M j := fun _ => rfl
  obtain ⟨hP9, hc9, hk10, hk6, nx, hnx, hn6, hch9⟩ := id hI
  obtain ⟨hN, hZt, hst9, hRu, hSh, ht9, hfl9⟩ := id hc9
  have hq57 := hN.nw.le
  have hqtd := hN.td.le
  refine lv_aload_n hx hb dX8_leave_0 rfl (lv_at hl 0 rfl) ?_
  refine lv_iload_n hx hb dX8_leave_1 rfl (lv_at hl 1 rfl) ?_
  refine vp_callSi (va_Run.run (va_runV (As := [.int (zI (v))]) (rest := []) ⟨hx, hb, hml, hown, hts⟩ (c_X8_isPresent l g ((ad 0)) (N) (hN) ((M 6 1)) ((M 1 0)) (v) (hv)) (cwV 1 hts gX8_leaveT_X8_isPresent rfl rfl rfl (by decide +kernel) ⟨Nat.le_of_ble_eq_true rfl, Nat.le_of_ble_eq_true rfl⟩) (g_preV (cw_rdH hW hP9 hSh hRu ht9) hK (va_recv hK (hb1 hW (show 0 < 126 by omega) (lcE rfl sh_0)) (q0 := 0) (ci := 8) rfl rfl)) rfl rfl hl.1 rfl (lv_room (Nat.le_of_ble_eq_true rfl)) dX8_leave_2 ⟨Nat.le_of_ble_eq_true rfl, Nat.le_of_ble_eq_true rfl⟩)) (fun r hr9 => ?_)
  subst hr9
  refine z_bz_ne (tgt := 18) hx hb dX8_leave_5 (by decide) (fun h5 => ?_) (fun h5 => ?_)
  · obtain ⟨w, rfl⟩ := Int.eq_ofNat_of_zero_le h5.1.1
    have hgo9 : goneN N w = 0 := h5.2
    obtain ⟨gd, hg⟩ := hSh w (by omega) (by omega)
    have hgb0 := hg.2.2.2.2.2.2.2.2.2.1
    have hgb1 := hg.2.2.2.2.2.2.2.2.2.2
    have hgg : goneN N w ≤ 1 := (hN.gone (w := w) (by omega)).le
    have hgn : N (58 + 13 * w + 9) = zI ((goneN N w : Nat) : Int) := by rw [show 58 + 13 * w + 9 = 67 + 13 * w by omega]; exact (hN.gone (w := w) (by omega)).eq
    refine lv_aload_n hx hb dX8_leave_18 rfl (lv_at hl 0 rfl) ?_
    have r_0 : M (0) = M 0 := hex (0) 
    refine va_get (D := g.1) (ci := 8) (v := .ref ((ad 6))) (C := RX8) (T := TX8) (N := 7) hx hb hts hinX8 hown hK (hb1 hW (show 0 < 126 by omega) (lcE r_0 sh_0)) 0 rfl rfl 3 (by decide) k47 (fun _ h9 => h9) rfl dX8_leave_19 ?_
    refine lv_aload_n hx hb dX8_leave_22 rfl (lv_at hl 0 rfl) ?_
    refine va_get (D := g.1) (ci := 8) (v := .int ((M 0) 0)) (C := RX8) (T := TX8) (N := 7) hx hb hts hinX8 hown hK (hb1 hW (show 0 < 126 by omega) (lcE r_0 sh_0)) 0 rfl rfl 6 (by decide) k51 (fun _ h9 => h9) rfl dX8_leave_23 ?_
    refine lv_aload_n hx hb dX8_leave_26 rfl (lv_at hl 0 rfl) ?_
    refine va_get (D := g.1) (ci := 8) (v := .ref ((ad 5))) (C := RX8) (T := TX8) (N := 7) hx hb hts hinX8 hown hK (hb1 hW (show 0 < 126 by omega) (lcE r_0 sh_0)) 0 rfl rfl 2 (by decide) k37 (fun _ h9 => h9) rfl dX8_leave_27 ?_
    have r_6 : M (6) = M 6 := hex (6) 
    refine va_callr (va_runV (As := [.int ((M 0) 0), .ref ((ad 5))]) (rest := []) ⟨hx, hb, hml, hown, hts⟩ (c_X1_remember l g (ad) (hd9) (P) (M) (M 0 0) (nx) (k) (hnx) (hn6) (hk10) (hk6)) (cwV 2 hts gX8_leaveT_X1_remember rfl rfl rfl (by decide +kernel) ⟨Nat.le_of_ble_eq_true rfl, Nat.le_of_ble_eq_true rfl⟩) (g_preV hW hK (va_recv hK (hb1 hW (show 6 < 126 by omega) (lcE r_6 sh_6)) (q0 := 0) (ci := 1) rfl rfl)) rfl rfl hl.1 rfl (lv_room (Nat.le_of_ble_eq_true rfl)) dX8_leave_30 ⟨Nat.le_of_ble_eq_true rfl, Nat.le_of_ble_eq_true rfl⟩) hS (fun q _ h => h) (fun q h => h) (fun u0 a9 t9 H1 locs ht9 hvm9 hw9 hB9 hz9 hk9 hS => ?_)
    rw [ht9] at hB9
    clear hz9 hk9 hvm9 ht9
    generalize H1 = H at hB9 hS ⊢
    obtain ⟨rfl, hW⟩ := hB9
    have hW := hW
    have hW : cw g ad P (va_up (va_up (va_up (va_up (va_up (va_up M (66 + 6 * nx) (upd (upd (M (66 + 6 * nx)) 0 ((M 0 0))) 1 (zI ((-1))))) (66 + 6 * nx + (2 + 0)) (M (46 + 5 * 0 + 4))) (66 + 6 * nx + (2 + 1)) (M (46 + 5 * 1 + 4))) (66 + 6 * nx + (2 + 2)) (M (46 + 5 * 2 + 4))) (66 + 6 * nx + (2 + 3)) (M (46 + 5 * 3 + 4))) (6) (upd (upd (M 6) 0 (zI ((((nx + 1) % 10 : Nat)) : Int))) 1 (zI (((min (k + 1) 10 : Nat)) : Int)))) H := hW
    obtain ⟨M2, hM2⟩ : ∃ x9c : Nat → Nat → Int32, x9c = va_up (va_up (va_up (va_up (va_up (va_up M (66 + 6 * nx) (upd (upd (M (66 + 6 * nx)) 0 ((M 0 0))) 1 (zI ((-1))))) (66 + 6 * nx + (2 + 0)) (M (46 + 5 * 0 + 4))) (66 + 6 * nx + (2 + 1)) (M (46 + 5 * 1 + 4))) (66 + 6 * nx + (2 + 2)) (M (46 + 5 * 2 + 4))) (66 + 6 * nx + (2 + 3)) (M (46 + 5 * 3 + 4))) (6) (upd (upd (M 6) 0 (zI ((((nx + 1) % 10 : Nat)) : Int))) 1 (zI (((min (k + 1) 10 : Nat)) : Int))) := ⟨_, rfl⟩
    have hW : cw g ad P M2 H := by rw [hM2]; exact hW
    have hex : ∀ j : Nat, ¬ j = 66 + 6 * nx → ¬ j = 66 + 6 * nx + (2 + 0) → ¬ j = 66 + 6 * nx + (2 + 1) → ¬ j = 66 + 6 * nx + (2 + 2) → ¬ j = 66 + 6 * nx + (2 + 3) → ¬ j = 6 → M2 j = M j := fun j q0 q1 q2 q3 q4 q5 => ((congrFun hM2 j).trans ((up_ne _ _ q5).trans ((up_ne _ _ q4).trans ((up_ne _ _ q3).trans ((up_ne _ _ q2).trans ((up_ne _ _ q1).trans (up_ne _ _ q0))))))).trans (hex j )
    have r_0 : M2 (0) = M 0 := ((congrFun hM2 (0)).trans ((up_ne _ _ (by omega)).trans ((up_ne _ _ (by omega)).trans ((up_ne _ _ (by omega)).trans ((up_ne _ _ (by omega)).trans ((up_ne _ _ (by omega)).trans (up_ne _ _ (by omega)))))))).trans r_0
    have r_66_6_nx : M2 (66 + 6 * nx) = upd (upd (M (66 + 6 * nx)) 0 ((M 0 0))) 1 (zI ((-1))) := ((congrFun hM2 _).trans ((up_ne _ _ (by omega)).trans ((up_ne _ _ (by omega)).trans ((up_ne _ _ (by omega)).trans ((up_ne _ _ (by omega)).trans ((up_ne _ _ (by omega)).trans (up_at _ _ _)))))))
    have r_66_6_nx_2_0 : M2 (66 + 6 * nx + (2 + 0)) = M (46 + 5 * 0 + 4) := ((congrFun hM2 _).trans ((up_ne _ _ (by omega)).trans ((up_ne _ _ (by omega)).trans ((up_ne _ _ (by omega)).trans ((up_ne _ _ (by omega)).trans (up_at _ _ _))))))
    have r_66_6_nx_2_1 : M2 (66 + 6 * nx + (2 + 1)) = M (46 + 5 * 1 + 4) := ((congrFun hM2 _).trans ((up_ne _ _ (by omega)).trans ((up_ne _ _ (by omega)).trans ((up_ne _ _ (by omega)).trans (up_at _ _ _)))))
    have r_66_6_nx_2_2 : M2 (66 + 6 * nx + (2 + 2)) = M (46 + 5 * 2 + 4) := ((congrFun hM2 _).trans ((up_ne _ _ (by omega)).trans ((up_ne _ _ (by omega)).trans (up_at _ _ _))))
    have r_66_6_nx_2_3 : M2 (66 + 6 * nx + (2 + 3)) = M (46 + 5 * 3 + 4) := ((congrFun hM2 _).trans ((up_ne _ _ (by omega)).trans (up_at _ _ _)))
    have r_6 : M2 (6) = upd (upd (M 6) 0 (zI ((((nx + 1) % 10 : Nat)) : Int))) 1 (zI (((min (k + 1) 10 : Nat)) : Int)) := ((congrFun hM2 _).trans (up_at _ _ _))
    refine lv_pop hx hb dX8_leave_33 rfl ?_
    refine lv_aload_n hx hb dX8_leave_34 rfl (lv_at hl 0 rfl) ?_
    refine va_get (D := g.1) (ci := 8) (v := .ref ((ad 5))) (C := RX8) (T := TX8) (N := 7) hx hb hts hinX8 hown hK (hb1 hW (show 0 < 126 by omega) (lcE r_0 sh_0)) 0 rfl rfl 2 (by decide) k37 (fun _ h9 => h9) rfl dX8_leave_35 ?_
    refine lv_iload_n hx hb dX8_leave_38 rfl (lv_at hl 1 rfl) ?_
    have r_5 : M2 (5) = M 5 := hex (5) (by omega) (by omega) (by omega) (by omega) (by omega) (by omega)
    refine z_aald hx hb hK (hb1 hW (show 5 < 126 by omega) (lcE r_5 sh_5)) 0 4 rfl rfl rfl (by decide) (w) (by omega) (by omega) rfl dX8_leave_39 ?_
    have r_46_5_w : M2 (46 + 5 * w) = M (46 + 5 * w) := hex (46 + 5 * w) (by omega) (by omega) (by omega) (by omega) (by omega) (by omega)
    refine va_get (D := g.1) (ci := 3) (v := .ref ((ad (46 + 5 * w + 4)))) (C := RX3) (T := TX3) (N := 7) hx hb hts hinX3 hown hK (hb1 hW (show 46 + 5 * w < 126 by omega) (lcE r_46_5_w (sh_S0 (w := w) (by omega)))) 0 rfl rfl 3 (by decide) k112 (fun _ h9 => h9) rfl dX8_leave_40 ?_
    refine lv_astore_n (lv' := [(2, .ref ((ad (46 + 5 * w + 4)))), (0, .ref ((ad 0))), (1, .int (zI ((w : Int))))]) hx hb dX8_leave_43 rfl hl (by decide) rfl (fun ls hl => ?_)
    refine lv_aload_n hx hb dX8_leave_44 rfl (lv_at hl 0 rfl) ?_
    refine lv_aload_n hx hb dX8_leave_45 rfl (lv_at hl 1 rfl) ?_
    refine va_get (D := g.1) (ci := 8) (v := .ref ((ad 5))) (C := RX8) (T := TX8) (N := 7) hx hb hts hinX8 hown hK (hb1 hW (show 0 < 126 by omega) (lcE r_0 sh_0)) 0 rfl rfl 2 (by decide) k37 (fun _ h9 => h9) rfl dX8_leave_46 ?_
    refine lv_iload_n hx hb dX8_leave_49 rfl (lv_at hl 2 rfl) ?_
    refine z_aald hx hb hK (hb1 hW (show 5 < 126 by omega) (lcE r_5 sh_5)) 0 4 rfl rfl rfl (by decide) (w) (by omega) (by omega) rfl dX8_leave_50 ?_
    refine lv_aload_n hx hb dX8_leave_51 rfl (lv_at hl 1 rfl) ?_
    refine va_get (D := g.1) (ci := 8) (v := .int ((M 0) 0)) (C := RX8) (T := TX8) (N := 7) hx hb hts hinX8 hown hK (hb1 hW (show 0 < 126 by omega) (lcE r_0 sh_0)) 0 rfl rfl 6 (by decide) k51 (fun _ h9 => h9) rfl dX8_leave_52 ?_
    refine z_top (y := zI (mn N 110)) (ht9.trans hN.td.eq) ?_
    have hgL : shM N M2 w gd := by
      show ShR N w (M2 (46 + 5 * w + 1)) (M2 (46 + 5 * w + 2)) (M2 (46 + 5 * w + 3)) (M2 (46 + 5 * w + 4)) (M2 (46 + 5 * w) 0) (M2 (46 + 5 * w) 1) gd
      rw [hex (46 + 5 * w + 1) (by omega) (by omega) (by omega) (by omega) (by omega) (by omega), hex (46 + 5 * w + 2) (by omega) (by omega) (by omega) (by omega) (by omega) (by omega), hex (46 + 5 * w + 3) (by omega) (by omega) (by omega) (by omega) (by omega) (by omega), hex (46 + 5 * w + 4) (by omega) (by omega) (by omega) (by omega) (by omega) (by omega), hex (46 + 5 * w) (by omega) (by omega) (by omega) (by omega) (by omega) (by omega)]
      exact hg
    have hRuL : RuR N (fun k9 => M2 (P 0 + 1 + k9)) := RuR_cg hRu (fun k9 hk9 => by have hp9 := hP9.r; exact hex _ (by omega) (by omega) (by omega) (by omega) (by omega) (by omega)) hN.ns.le hN.nn.le hN.nw.le
    refine vp_callSi (va_Run.run (va_runV (As := [.int (zI (mn N 110))]) (rest := [.ref ((ad (46 + 5 * w + 4)))]) ⟨hx, hb, hml, hown, hts⟩ (c_X3_settlementOn l g ((ad (46 + 5 * w))) (w) (N) (hN) (by omega)) (cwV 1 hts gX8_leaveT_X3_settlementOn rfl rfl rfl (by decide +kernel) ⟨Nat.le_of_ble_eq_true rfl, Nat.le_of_ble_eq_true rfl⟩) (g_preV ((cw_rdS hW (w := w) (gd := gd) (by omega) (hP9.s (by omega)) hgL (by rw [hP9.2 w (by omega)]; exact hRuL))) hK (rdS_recv hK (cw_rdS hW (w := w) (gd := gd) (by omega) (hP9.s (by omega)) hgL (by rw [hP9.2 w (by omega)]; exact hRuL)))) rfl rfl hl.1 rfl (lv_room (Nat.le_of_ble_eq_true rfl)) dX8_leave_55 ⟨Nat.le_of_ble_eq_true rfl, Nat.le_of_ble_eq_true rfl⟩)) (fun r hr9 => ?_)
    subst hr9
    have r_46_5_w_4 : M2 (46 + 5 * w + 4) = M (46 + 5 * w + 4) := hex (46 + 5 * w + 4) (by omega) (by omega) (by omega) (by omega) (by omega) (by omega)
    refine y_put (ci := 0) (v := .int (dueN N w)) (ty := .int) (C := RX0) (T := TX0) (N := 9) hx hb hts hinX0 tyX0 tyX0_ok nmX0 hown hK hW hd9 hS (46 + 5 * w + 4) (show 46 + 5 * w + 4 < 126 by omega) (lcE r_46_5_w_4 (sh_S4 (w := w) (by omega))) rfl 6 (by decide) k139 (fun _ h9 => h9) rfl (by decide +kernel) rfl rfl (Nat.le_of_ble_eq_true rfl) dX8_leave_58 (fun H locs hW hS => ?_)
    have hW := cw_up (P := P) (M := M2) (f := upd (M (46 + 5 * w + 4)) 6 (dueN N w)) (((sh_S4 (w := w) (by omega))).trans rfl) hW
    obtain ⟨M3, hM3⟩ : ∃ x9c : Nat → Nat → Int32, x9c = va_up M2 (46 + 5 * w + 4) (upd (M (46 + 5 * w + 4)) 6 (dueN N w)) := ⟨_, rfl⟩
    have hW : cw g ad P M3 H := by rw [hM3]; exact hW
    have hex : ∀ j : Nat, ¬ j = 66 + 6 * nx → ¬ j = 66 + 6 * nx + (2 + 0) → ¬ j = 66 + 6 * nx + (2 + 1) → ¬ j = 66 + 6 * nx + (2 + 2) → ¬ j = 66 + 6 * nx + (2 + 3) → ¬ j = 6 → ¬ j = 46 + 5 * w + 4 → M3 j = M j := fun j q0 q1 q2 q3 q4 q5 q6 => ((congrFun hM3 j).trans (up_ne _ _ q6)).trans (hex j q0 q1 q2 q3 q4 q5)
    have r_0 : M3 (0) = M 0 := ((congrFun hM3 (0)).trans (up_ne _ _ (by omega))).trans r_0
    have r_66_6_nx : M3 (66 + 6 * nx) = upd (upd (M (66 + 6 * nx)) 0 ((M 0 0))) 1 (zI ((-1))) := ((congrFun hM3 (66 + 6 * nx)).trans (up_ne _ _ (by omega))).trans r_66_6_nx
    have r_66_6_nx_2_0 : M3 (66 + 6 * nx + (2 + 0)) = M (46 + 5 * 0 + 4) := ((congrFun hM3 (66 + 6 * nx + (2 + 0))).trans (up_ne _ _ (by omega))).trans r_66_6_nx_2_0
    have r_66_6_nx_2_1 : M3 (66 + 6 * nx + (2 + 1)) = M (46 + 5 * 1 + 4) := ((congrFun hM3 (66 + 6 * nx + (2 + 1))).trans (up_ne _ _ (by omega))).trans r_66_6_nx_2_1
    have r_66_6_nx_2_2 : M3 (66 + 6 * nx + (2 + 2)) = M (46 + 5 * 2 + 4) := ((congrFun hM3 (66 + 6 * nx + (2 + 2))).trans (up_ne _ _ (by omega))).trans r_66_6_nx_2_2
    have r_66_6_nx_2_3 : M3 (66 + 6 * nx + (2 + 3)) = M (46 + 5 * 3 + 4) := ((congrFun hM3 (66 + 6 * nx + (2 + 3))).trans (up_ne _ _ (by omega))).trans r_66_6_nx_2_3
    have r_6 : M3 (6) = upd (upd (M 6) 0 (zI ((((nx + 1) % 10 : Nat)) : Int))) 1 (zI (((min (k + 1) 10 : Nat)) : Int)) := ((congrFun hM3 (6)).trans (up_ne _ _ (by omega))).trans r_6
    have r_5 : M3 (5) = M 5 := ((congrFun hM3 (5)).trans (up_ne _ _ (by omega))).trans r_5
    have r_46_5_w : M3 (46 + 5 * w) = M (46 + 5 * w) := ((congrFun hM3 (46 + 5 * w)).trans (up_ne _ _ (by omega))).trans r_46_5_w
    have r_46_5_w_4 : M3 (46 + 5 * w + 4) = upd (M (46 + 5 * w + 4)) 6 (dueN N w) := ((congrFun hM3 _).trans (up_at _ _ _))
    refine lv_aload_n hx hb dX8_leave_61 rfl (lv_at hl 0 rfl) ?_
    refine lv_iconst (v := zI (0)) hx hb dX8_leave_62 (by decide) ?_
    refine y_put (ci := 0) (v := .int (zI (0))) (ty := .int) (C := RX0) (T := TX0) (N := 9) hx hb hts hinX0 tyX0 tyX0_ok nmX0 hown hK hW hd9 hS (46 + 5 * w + 4) (show 46 + 5 * w + 4 < 126 by omega) (lcE r_46_5_w_4 (sh_S4 (w := w) (by omega))) rfl 0 (by decide) k116 (fun _ h9 => h9) rfl (by decide +kernel) rfl rfl (Nat.le_of_ble_eq_true rfl) dX8_leave_63 (fun H locs hW hS => ?_)
    have hW := cw_up (P := P) (M := M3) (f := upd (upd (M (46 + 5 * w + 4)) 6 (dueN N w)) 0 (zI (0))) (((sh_S4 (w := w) (by omega))).trans rfl) hW
    obtain ⟨M4, hM4⟩ : ∃ x9c : Nat → Nat → Int32, x9c = va_up M3 (46 + 5 * w + 4) (upd (upd (M (46 + 5 * w + 4)) 6 (dueN N w)) 0 (zI (0))) := ⟨_, rfl⟩
    have hW : cw g ad P M4 H := by rw [hM4]; exact hW
    have hex : ∀ j : Nat, ¬ j = 66 + 6 * nx → ¬ j = 66 + 6 * nx + (2 + 0) → ¬ j = 66 + 6 * nx + (2 + 1) → ¬ j = 66 + 6 * nx + (2 + 2) → ¬ j = 66 + 6 * nx + (2 + 3) → ¬ j = 6 → ¬ j = 46 + 5 * w + 4 → M4 j = M j := fun j q0 q1 q2 q3 q4 q5 q6 => ((congrFun hM4 j).trans (up_ne _ _ q6)).trans (hex j q0 q1 q2 q3 q4 q5 q6)
    have r_0 : M4 (0) = M 0 := ((congrFun hM4 (0)).trans (up_ne _ _ (by omega))).trans r_0
    have r_66_6_nx : M4 (66 + 6 * nx) = upd (upd (M (66 + 6 * nx)) 0 ((M 0 0))) 1 (zI ((-1))) := ((congrFun hM4 (66 + 6 * nx)).trans (up_ne _ _ (by omega))).trans r_66_6_nx
    have r_66_6_nx_2_0 : M4 (66 + 6 * nx + (2 + 0)) = M (46 + 5 * 0 + 4) := ((congrFun hM4 (66 + 6 * nx + (2 + 0))).trans (up_ne _ _ (by omega))).trans r_66_6_nx_2_0
    have r_66_6_nx_2_1 : M4 (66 + 6 * nx + (2 + 1)) = M (46 + 5 * 1 + 4) := ((congrFun hM4 (66 + 6 * nx + (2 + 1))).trans (up_ne _ _ (by omega))).trans r_66_6_nx_2_1
    have r_66_6_nx_2_2 : M4 (66 + 6 * nx + (2 + 2)) = M (46 + 5 * 2 + 4) := ((congrFun hM4 (66 + 6 * nx + (2 + 2))).trans (up_ne _ _ (by omega))).trans r_66_6_nx_2_2
    have r_66_6_nx_2_3 : M4 (66 + 6 * nx + (2 + 3)) = M (46 + 5 * 3 + 4) := ((congrFun hM4 (66 + 6 * nx + (2 + 3))).trans (up_ne _ _ (by omega))).trans r_66_6_nx_2_3
    have r_6 : M4 (6) = upd (upd (M 6) 0 (zI ((((nx + 1) % 10 : Nat)) : Int))) 1 (zI (((min (k + 1) 10 : Nat)) : Int)) := ((congrFun hM4 (6)).trans (up_ne _ _ (by omega))).trans r_6
    have r_5 : M4 (5) = M 5 := ((congrFun hM4 (5)).trans (up_ne _ _ (by omega))).trans r_5
    have r_46_5_w : M4 (46 + 5 * w) = M (46 + 5 * w) := ((congrFun hM4 (46 + 5 * w)).trans (up_ne _ _ (by omega))).trans r_46_5_w
    have r_46_5_w_4 : M4 (46 + 5 * w + 4) = upd (upd (M (46 + 5 * w + 4)) 6 (dueN N w)) 0 (zI (0)) := ((congrFun hM4 _).trans (up_at _ _ _))
    refine lv_aload_n hx hb dX8_leave_66 rfl (lv_at hl 0 rfl) ?_
    refine lv_aload_n hx hb dX8_leave_67 rfl (lv_at hl 1 rfl) ?_
    refine va_get (D := g.1) (ci := 8) (v := .int ((M 0) 0)) (C := RX8) (T := TX8) (N := 7) hx hb hts hinX8 hown hK (hb1 hW (show 0 < 126 by omega) (lcE r_0 sh_0)) 0 rfl rfl 6 (by decide) k51 (fun _ h9 => h9) rfl dX8_leave_68 ?_
    refine y_put (ci := 0) (v := .int ((M 0) 0)) (ty := .int) (C := RX0) (T := TX0) (N := 9) hx hb hts hinX0 tyX0 tyX0_ok nmX0 hown hK hW hd9 hS (46 + 5 * w + 4) (show 46 + 5 * w + 4 < 126 by omega) (lcE r_46_5_w_4 (sh_S4 (w := w) (by omega))) rfl 8 (by decide) k243 (fun _ h9 => h9) rfl (by decide +kernel) rfl rfl (Nat.le_of_ble_eq_true rfl) dX8_leave_71 (fun H locs hW hS => ?_)
    have hW := cw_up (P := P) (M := M4) (f := upd (upd (upd (M (46 + 5 * w + 4)) 6 (dueN N w)) 0 (zI (0))) 8 ((M 0) 0)) (((sh_S4 (w := w) (by omega))).trans rfl) hW
    obtain ⟨M5, hM5⟩ : ∃ x9c : Nat → Nat → Int32, x9c = va_up M4 (46 + 5 * w + 4) (upd (upd (upd (M (46 + 5 * w + 4)) 6 (dueN N w)) 0 (zI (0))) 8 ((M 0) 0)) := ⟨_, rfl⟩
    have hW : cw g ad P M5 H := by rw [hM5]; exact hW
    have hex : ∀ j : Nat, ¬ j = 66 + 6 * nx → ¬ j = 66 + 6 * nx + (2 + 0) → ¬ j = 66 + 6 * nx + (2 + 1) → ¬ j = 66 + 6 * nx + (2 + 2) → ¬ j = 66 + 6 * nx + (2 + 3) → ¬ j = 6 → ¬ j = 46 + 5 * w + 4 → M5 j = M j := fun j q0 q1 q2 q3 q4 q5 q6 => ((congrFun hM5 j).trans (up_ne _ _ q6)).trans (hex j q0 q1 q2 q3 q4 q5 q6)
    have r_0 : M5 (0) = M 0 := ((congrFun hM5 (0)).trans (up_ne _ _ (by omega))).trans r_0
    have r_66_6_nx : M5 (66 + 6 * nx) = upd (upd (M (66 + 6 * nx)) 0 ((M 0 0))) 1 (zI ((-1))) := ((congrFun hM5 (66 + 6 * nx)).trans (up_ne _ _ (by omega))).trans r_66_6_nx
    have r_66_6_nx_2_0 : M5 (66 + 6 * nx + (2 + 0)) = M (46 + 5 * 0 + 4) := ((congrFun hM5 (66 + 6 * nx + (2 + 0))).trans (up_ne _ _ (by omega))).trans r_66_6_nx_2_0
    have r_66_6_nx_2_1 : M5 (66 + 6 * nx + (2 + 1)) = M (46 + 5 * 1 + 4) := ((congrFun hM5 (66 + 6 * nx + (2 + 1))).trans (up_ne _ _ (by omega))).trans r_66_6_nx_2_1
    have r_66_6_nx_2_2 : M5 (66 + 6 * nx + (2 + 2)) = M (46 + 5 * 2 + 4) := ((congrFun hM5 (66 + 6 * nx + (2 + 2))).trans (up_ne _ _ (by omega))).trans r_66_6_nx_2_2
    have r_66_6_nx_2_3 : M5 (66 + 6 * nx + (2 + 3)) = M (46 + 5 * 3 + 4) := ((congrFun hM5 (66 + 6 * nx + (2 + 3))).trans (up_ne _ _ (by omega))).trans r_66_6_nx_2_3
    have r_6 : M5 (6) = upd (upd (M 6) 0 (zI ((((nx + 1) % 10 : Nat)) : Int))) 1 (zI (((min (k + 1) 10 : Nat)) : Int)) := ((congrFun hM5 (6)).trans (up_ne _ _ (by omega))).trans r_6
    have r_5 : M5 (5) = M 5 := ((congrFun hM5 (5)).trans (up_ne _ _ (by omega))).trans r_5
    have r_46_5_w : M5 (46 + 5 * w) = M (46 + 5 * w) := ((congrFun hM5 (46 + 5 * w)).trans (up_ne _ _ (by omega))).trans r_46_5_w
    have r_46_5_w_4 : M5 (46 + 5 * w + 4) = upd (upd (upd (M (46 + 5 * w + 4)) 6 (dueN N w)) 0 (zI (0))) 8 ((M 0) 0) := ((congrFun hM5 _).trans (up_at _ _ _))
    refine lv_aload_n hx hb dX8_leave_74 rfl (lv_at hl 0 rfl) ?_
    refine va_get (D := g.1) (ci := 0) (v := .int (dueN N w)) (C := RX0) (T := TX0) (N := 9) hx hb hts hinX0 hown hK (hb1 hW (show 46 + 5 * w + 4 < 126 by omega) (lcE r_46_5_w_4 (sh_S4 (w := w) (by omega)))) 0 rfl rfl 6 (by decide) k139 (fun _ h9 => h9) rfl dX8_leave_75 ?_
    refine vx_ret ?_
    refine W.widen (Nat.zero_le 1) (Nat.zero_le 6) ?_
    exact W.iret hx hb hr (fun tX htX hWX => ⟨⟨_, M5, rfl, ⟨by unfold dueF; rw [if_pos h5]; rfl, ⟨by unfold dueF; rw [if_pos h5], actQ_yes h5 (INV_leave (w := w) hI hnx hn6 (by omega) (by omega) hgo9 r_6 r_66_6_nx r_66_6_nx_2_0 r_66_6_nx_2_1 r_66_6_nx_2_2 r_66_6_nx_2_3 (fun j q1 q2 q3 => hex j (by omega) (by omega) (by omega) (by omega) (by omega) (by omega) (by omega)) r_46_5_w_4) (fun i h1 h2 => hex i (by omega) (by omega) (by omega) (by omega) (by omega) (by omega) (by omega))⟩⟩, g_at htX hW⟩, hS.F htX⟩) hS.2.2 dX8_leave_78
  · exact ns_throw (A := hbA ad) hx hb hl9 hown kcl9 kin9 hX.2.1 hX.1 hX.2.2.2.1 hX.2.2.2.2 hS (hl.1.trans hml.symm) dX8_leave_8 dX8_leave_11 dX8_leave_12 dX8_leave_14 dX8_leave_17 (fun x9 hx9 => (hno x9 hx9).elim) (Nat.le_of_ble_eq_true rfl) (Nat.le_of_ble_eq_true rfl) (Nat.le_of_ble_eq_true rfl) (Nat.le_of_ble_eq_true rfl) hlocks (fun t9 _ h19 h29 => xE_of (by unfold dueF; rw [if_neg h5]) hW hS h19 h29) hS.2.2 (Nat.le_of_ble_eq_true rfl) (Nat.le_of_ble_eq_true rfl)
