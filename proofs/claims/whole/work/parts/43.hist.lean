set_option maxHeartbeats 4000000 in
set_option maxRecDepth 100000 in
theorem c_X1_remember (l : Launch) (g : GG) (ad : Nat → Nat) (hd9 : hD ad) (P : Nat → Nat) (M : Nat → Nat → Int32) (td : Int32) (nx cn : Nat) (hnx : nx < 10) (hn6 : M 6 0 = zI nx) (hcn : cn ≤ 10) (hc6 : M 6 1 = zI cn) : Met l yX1_remember wsX1_remember ({ frames := 1, cells := 0, slots := 0, locals := 21 }) (gPc g [.ref ((ad 6)), .int (td), .ref ((ad 5))] (cw g ad P M)) (va_Qr (fun (u : Unit) => True) (fun (u : Unit) (a9 : Nat) (tS : State) => a9 = (ad (66 + 6 * nx)) ∧ cw g ad P (va_up (va_up (va_up (va_up (va_up (va_up M (66 + 6 * nx) (upd (upd (M (66 + 6 * nx)) 0 (td)) 1 (zI ((-1))))) (66 + 6 * nx + (2 + 0)) (M (46 + 5 * 0 + 4))) (66 + 6 * nx + (2 + 1)) (M (46 + 5 * 1 + 4))) (66 + 6 * nx + (2 + 2)) (M (46 + 5 * 2 + 4))) (66 + 6 * nx + (2 + 3)) (M (46 + 5 * 3 + 4))) (6) (upd (upd (M 6) 0 (zI ((((nx + 1) % 10 : Nat)) : Int))) 1 (zI (((min (cn + 1) 10 : Nat)) : Int)))) tS.heap) (hbA ad)) 0 0 (hbA ad) := by
  refine Met.ofW (cc := cX1_remember) (maxL := 5) (ret := (some (.object "HoursBank$Step"))) (by decide) rfl ?_
  intro p e s m args below meth c s₁ B hml hv
  obtain ⟨rfl, hW, hK⟩ := hv
  have hx := B.exec
  have hb := B.bytes
  have hr := B.returns
  have hts := atoms_spec (ws := wsX1_remember) B.pre
  have hown : s.vm.findClass RX1 = some m.cls := findClass_of_methodNamed B.named
  have hlocks := B.notSynchronized
  have hinX1 : ∀ w ∈ wsX10, w ∈ wsX1_remember := by decide +kernel
  have hinX3 : ∀ w ∈ wsX30, w ∈ wsX1_remember := by decide +kernel
  have hinX4 : ∀ w ∈ wsX40, w ∈ wsX1_remember := by decide +kernel
  have k13 := hts (.fieldLink RX1 13 "HoursBank$History" "steps" "[LHoursBank$Step;") (by decide +kernel)
  have k18 := hts (.fieldLink RX1 18 "HoursBank$History" "next" "I") (by decide +kernel)
  have k22 := hts (.fieldLink RX1 22 "HoursBank$Step" "today" "I") (by decide +kernel)
  have k25 := hts (.fieldLink RX1 25 "HoursBank$Step" "worker" "I") (by decide +kernel)
  have k28 := hts (.fieldLink RX1 28 "HoursBank$Step" "accounts" "[LHoursBank$Account;") (by decide +kernel)
  have k32 := hts (.fieldLink RX1 32 "HoursBank$Sheet" "account" "LHoursBank$Account;") (by decide +kernel)
  have k44 := hts (.fieldLink RX1 44 "HoursBank$History" "count" "I") (by decide +kernel)
  have k47 := hts (.methodLink RX1 47 Lib.Math.min.name) (by decide +kernel)
  have kSmin := hts (.static Lib.Math.min.name) (by decide +kernel)
  have kM := hts (.initialized "java/lang/Math") (by decide +kernel)
  have kCmin := hts (.code Lib.Math.min.name Lib.Math.min.code 2 (some .int)) (by decide +kernel)
  have hl := lv_entry ([.ref ((ad 6)), .int (td), .ref ((ad 5))]) (n := 5) (Nat.le_of_ble_eq_true rfl)
  rw [lg_entry_eq]
  generalize (lg_sl ([.ref ((ad 6)), .int (td), .ref ((ad 5))]) ++ List.replicate (5 - (lg_sl ([.ref ((ad 6)), .int (td), .ref ((ad 5))])).length) Slot.unset).toArray = ls at hl ⊢
  have hl : lv_has ls 5 [(0, .ref ((ad 6))), (1, .int (td)), (2, .ref ((ad 5)))] := hl
  have hS : va_S (hbA ad) s.heap s.heap [] := va_S.rf
  obtain ⟨H, hH9⟩ : ∃ H, H = s.heap := ⟨_, rfl⟩
  obtain ⟨locs, hL9⟩ : ∃ x9l : List Loc, x9l = [] := ⟨_, rfl⟩
  have hW : cw g ad P M H := hH9 ▸ hW
  have hS : va_S (hbA ad) s.heap H locs := by rw [hH9, hL9]; exact hS
  refine z_start hH9 hL9 ?_
  clear hH9 hL9
  have hex : ∀ j : Nat, M j = M j := fun _ => rfl
  refine lv_aload_n hx hb dX1_remember_0 rfl (lv_at hl 0 rfl) ?_
  have r_6 : M (6) = M 6 := hex (6) 
  refine va_get (D := g.1) (ci := 1) (v := .ref ((ad 7))) (C := RX1) (T := TX1) (N := 3) hx hb hts hinX1 hown hK (hb1 hW (show 6 < 126 by omega) (lcE r_6 sh_6)) 0 rfl rfl 0 (by decide) k13 (fun _ h9 => h9) rfl dX1_remember_1 ?_
  refine lv_aload_n hx hb dX1_remember_4 rfl (lv_at hl 0 rfl) ?_
  refine va_get (D := g.1) (ci := 1) (v := .int ((M 6) 0)) (C := RX1) (T := TX1) (N := 3) hx hb hts hinX1 hown hK (hb1 hW (show 6 < 126 by omega) (lcE r_6 sh_6)) 0 rfl rfl 1 (by decide) k18 (fun _ h9 => h9) rfl dX1_remember_5 ?_
  refine z_top (y := zI (nx)) (hn6) ?_
  have r_7 : M (7) = M 7 := hex (7) 
  refine z_aald hx hb hK (hb1 hW (show 7 < 126 by omega) (lcE r_7 sh_7)) 0 5 rfl rfl rfl (by decide) (nx) (by omega) (by omega) rfl dX1_remember_8 ?_
  refine lv_astore_n (lv' := [(3, .ref ((ad (66 + 6 * nx)))), (0, .ref ((ad 6))), (1, .int (td)), (2, .ref ((ad 5)))]) hx hb dX1_remember_9 rfl hl (by decide) rfl (fun ls hl => ?_)
  refine lv_aload_n hx hb dX1_remember_10 rfl (lv_at hl 0 rfl) ?_
  refine lv_iload_n hx hb dX1_remember_11 rfl (lv_at hl 2 rfl) ?_
  have r_66_6_nx : M (66 + 6 * nx) = M (66 + 6 * nx) := hex (66 + 6 * nx) 
  refine y_put (ci := 4) (v := .int (td)) (ty := .int) (C := RX4) (T := TX4) (N := 6) hx hb hts hinX4 tyX4 tyX4_ok nmX4 hown hK hW hd9 hS (66 + 6 * nx) (show 66 + 6 * nx < 126 by omega) (lcE r_66_6_nx sh_T0) rfl 0 (by decide) k22 (fun _ h9 => h9) rfl (by decide +kernel) rfl rfl (Nat.le_of_ble_eq_true rfl) dX1_remember_12 (fun H locs hW hS => ?_)
  have hW := cw_up (P := P) (M := M) (f := upd (M (66 + 6 * nx)) 0 (td)) ((sh_T0).trans rfl) hW
  obtain ⟨M1, hM1⟩ : ∃ x9c : Nat → Nat → Int32, x9c = va_up M (66 + 6 * nx) (upd (M (66 + 6 * nx)) 0 (td)) := ⟨_, rfl⟩
  have hW : cw g ad P M1 H := by rw [hM1]; exact hW
  have hex : ∀ j : Nat, ¬ j = 66 + 6 * nx → M1 j = M j := fun j q0 => ((congrFun hM1 j).trans (up_ne _ _ q0)).trans (hex j )
  have r_6 : M1 (6) = M 6 := ((congrFun hM1 (6)).trans (up_ne _ _ (by omega))).trans r_6
  have r_7 : M1 (7) = M 7 := ((congrFun hM1 (7)).trans (up_ne _ _ (by omega))).trans r_7
  have r_66_6_nx : M1 (66 + 6 * nx) = upd (M (66 + 6 * nx)) 0 (td) := ((congrFun hM1 _).trans (up_at _ _ _))
  refine lv_aload_n hx hb dX1_remember_15 rfl (lv_at hl 0 rfl) ?_
  refine lv_iconst (v := zI (-1)) hx hb dX1_remember_16 (by decide) ?_
  refine y_put (ci := 4) (v := .int (zI ((-1)))) (ty := .int) (C := RX4) (T := TX4) (N := 6) hx hb hts hinX4 tyX4 tyX4_ok nmX4 hown hK hW hd9 hS (66 + 6 * nx) (show 66 + 6 * nx < 126 by omega) (lcE r_66_6_nx sh_T0) rfl 1 (by decide) k25 (fun _ h9 => h9) rfl (by decide +kernel) rfl rfl (Nat.le_of_ble_eq_true rfl) dX1_remember_17 (fun H locs hW hS => ?_)
  have hW := cw_up (P := P) (M := M1) (f := upd (upd (M (66 + 6 * nx)) 0 (td)) 1 (zI ((-1)))) ((sh_T0).trans rfl) hW
  obtain ⟨M2, hM2⟩ : ∃ x9c : Nat → Nat → Int32, x9c = va_up M1 (66 + 6 * nx) (upd (upd (M (66 + 6 * nx)) 0 (td)) 1 (zI ((-1)))) := ⟨_, rfl⟩
  have hW : cw g ad P M2 H := by rw [hM2]; exact hW
  have hex : ∀ j : Nat, ¬ j = 66 + 6 * nx → M2 j = M j := fun j q0 => ((congrFun hM2 j).trans (up_ne _ _ q0)).trans (hex j q0)
  have r_6 : M2 (6) = M 6 := ((congrFun hM2 (6)).trans (up_ne _ _ (by omega))).trans r_6
  have r_7 : M2 (7) = M 7 := ((congrFun hM2 (7)).trans (up_ne _ _ (by omega))).trans r_7
  have r_66_6_nx : M2 (66 + 6 * nx) = upd (upd (M (66 + 6 * nx)) 0 (td)) 1 (zI ((-1))) := ((congrFun hM2 _).trans (up_at _ _ _))
  refine lv_iconst (v := zI (0)) hx hb dX1_remember_20 (by decide) ?_
  refine lv_istore (lv' := [(4, .int (zI (0))), (3, .ref ((ad (66 + 6 * nx)))), (0, .ref ((ad 6))), (1, .int (td)), (2, .ref ((ad 5)))]) hx hb dX1_remember_21 hl (by decide) rfl (fun ls hl => ?_)
  refine lv_iload hx hb dX1_remember_23 (lv_at hl 0 rfl) ?_
  refine lv_iconst (v := zI (4)) hx hb dX1_remember_25 (by decide) ?_
  refine z_icmp_ge (tgt := 52) hx hb dX1_remember_26 (by decide) (by omega) (by omega) (fun h26 => ?_) (fun h26 => ?_)
  · exfalso; omega
  · refine lv_aload_n hx hb dX1_remember_29 rfl (lv_at hl 1 rfl) ?_
    refine va_get (D := g.1) (ci := 4) (v := .ref ((ad (66 + 6 * nx + 1)))) (C := RX4) (T := TX4) (N := 6) hx hb hts hinX4 hown hK (hb1 hW (show 66 + 6 * nx < 126 by omega) (lcE r_66_6_nx sh_T0)) 0 rfl rfl 5 (by decide) k28 (fun _ h9 => h9) rfl dX1_remember_30 ?_
    refine lv_iload hx hb dX1_remember_33 (lv_at hl 0 rfl) ?_
    have r_66_6_nx_1 : M2 (66 + 6 * nx + 1) = M (66 + 6 * nx + 1) := hex (66 + 6 * nx + 1) (by omega)
    refine z_aald hx hb hK (hb1 hW (show 66 + 6 * nx + 1 < 126 by omega) (lcE r_66_6_nx_1 sh_T1)) 0 3 rfl rfl rfl (by decide) (0) (by omega) (by omega) rfl dX1_remember_35 ?_
    refine lv_aload_n hx hb dX1_remember_36 rfl (lv_at hl 4 rfl) ?_
    refine lv_iload hx hb dX1_remember_37 (lv_at hl 0 rfl) ?_
    have r_5 : M2 (5) = M 5 := hex (5) (by omega)
    refine z_aald hx hb hK (hb1 hW (show 5 < 126 by omega) (lcE r_5 sh_5)) 0 4 rfl rfl rfl (by decide) (0) (by omega) (by omega) rfl dX1_remember_39 ?_
    have r_46_5_0 : M2 (46 + 5 * 0) = M (46 + 5 * 0) := hex (46 + 5 * 0) (by omega)
    refine va_get (D := g.1) (ci := 3) (v := .ref ((ad (46 + 5 * 0 + 4)))) (C := RX3) (T := TX3) (N := 7) hx hb hts hinX3 hown hK (hb1 hW (show 46 + 5 * 0 < 126 by omega) (lcE r_46_5_0 (sh_S0 (w := 0) (by omega)))) 0 rfl rfl 3 (by decide) k32 (fun _ h9 => h9) rfl dX1_remember_40 ?_
    have r_66_6_nx_2_0 : M2 (66 + 6 * nx + (2 + 0)) = M (66 + 6 * nx + (2 + 0)) := hex (66 + 6 * nx + (2 + 0)) (by omega)
    have r_46_5_0_4 : M2 (46 + 5 * 0 + 4) = M (46 + 5 * 0 + 4) := hex (46 + 5 * 0 + 4) (by omega)
    refine va_callv (va_runV (As := [.ref ((ad (46 + 5 * 0 + 4)))]) (rest := []) ⟨hx, hb, hml, hown, hts⟩ (c_X0_copyFrom l g (ad) (hd9) (lc g ad P M2) (66 + 6 * nx + (2 + 0)) (46 + 5 * 0 + 4) (by omega) (by omega) (by omega) (M (66 + 6 * nx + (2 + 0))) (M (46 + 5 * 0 + 4)) (lcE r_66_6_nx_2_0 (sh_T2 (i := 0) (by omega))) (lcE r_46_5_0_4 (sh_S4 (w := 0) (by omega)))) (cwV 1 hts gX1_remember_X0_copyFrom rfl rfl rfl (by decide +kernel) ⟨Nat.le_of_ble_eq_true rfl, Nat.le_of_ble_eq_true rfl⟩) (g_preV hW hK (va_recv hK (hb1 hW (show 66 + 6 * nx + (2 + 0) < 126 by omega) (lcE r_66_6_nx_2_0 (sh_T2 (i := 0) (by omega)))) (q0 := 0) (ci := 0) rfl rfl)) rfl rfl hl.1 rfl (lv_room (Nat.le_of_ble_eq_true rfl)) dX1_remember_43 ⟨Nat.le_of_ble_eq_true rfl, Nat.le_of_ble_eq_true rfl⟩) hS (fun q _ h => h) (fun q h => h) (fun c3 t9 H1 locs ht9 hvm9 hw9 hB9 hz9 hk9 hS => ?_)
    rw [ht9] at hB9
    have hW := hB9
    clear hB9 hz9 hk9 hvm9 ht9
    generalize H1 = H at hW hS ⊢
    have hW : hbP g ad c3 H := hW
    try dsimp only at hw9
    have hW : cw g ad P (va_up M2 (66 + 6 * nx + (2 + 0)) (M (46 + 5 * 0 + 4))) H := cw_1 hW hw9.1 (((sh_T2 (i := 0) (by omega))).trans rfl) hw9.2
    obtain ⟨M4, hM4⟩ : ∃ x9c : Nat → Nat → Int32, x9c = va_up M2 (66 + 6 * nx + (2 + 0)) (M (46 + 5 * 0 + 4)) := ⟨_, rfl⟩
    have hW : cw g ad P M4 H := by rw [hM4]; exact hW
    have hex : ∀ j : Nat, ¬ j = 66 + 6 * nx → ¬ j = 66 + 6 * nx + (2 + 0) → M4 j = M j := fun j q0 q1 => ((congrFun hM4 j).trans (up_ne _ _ q1)).trans (hex j q0)
    have r_6 : M4 (6) = M 6 := ((congrFun hM4 (6)).trans (up_ne _ _ (by omega))).trans r_6
    have r_7 : M4 (7) = M 7 := ((congrFun hM4 (7)).trans (up_ne _ _ (by omega))).trans r_7
    have r_66_6_nx : M4 (66 + 6 * nx) = upd (upd (M (66 + 6 * nx)) 0 (td)) 1 (zI ((-1))) := ((congrFun hM4 (66 + 6 * nx)).trans (up_ne _ _ (by omega))).trans r_66_6_nx
    have r_66_6_nx_1 : M4 (66 + 6 * nx + 1) = M (66 + 6 * nx + 1) := ((congrFun hM4 (66 + 6 * nx + 1)).trans (up_ne _ _ (by omega))).trans r_66_6_nx_1
    have r_5 : M4 (5) = M 5 := ((congrFun hM4 (5)).trans (up_ne _ _ (by omega))).trans r_5
    have r_46_5_0 : M4 (46 + 5 * 0) = M (46 + 5 * 0) := ((congrFun hM4 (46 + 5 * 0)).trans (up_ne _ _ (by omega))).trans r_46_5_0
    have r_46_5_0_4 : M4 (46 + 5 * 0 + 4) = M (46 + 5 * 0 + 4) := ((congrFun hM4 (46 + 5 * 0 + 4)).trans (up_ne _ _ (by omega))).trans r_46_5_0_4
    have r_66_6_nx_2_0 : M4 (66 + 6 * nx + (2 + 0)) = M (46 + 5 * 0 + 4) := ((congrFun hM4 _).trans (up_at _ _ _))
    refine z_iinc (lv' := [(4, .int (zI (0 + 1))), (3, .ref ((ad (66 + 6 * nx)))), (0, .ref ((ad 6))), (1, .int (td)), (2, .ref ((ad 5)))]) hx hb dX1_remember_46 hl (k := 0) rfl (by decide) rfl (fun ls hl => ?_)
    refine lv_goto (tgt := 23) hx hb dX1_remember_49 (by decide) ?_
    refine lv_iload hx hb dX1_remember_23 (lv_at hl 0 rfl) ?_
    refine lv_iconst (v := zI (4)) hx hb dX1_remember_25 (by decide) ?_
    refine z_icmp_ge (tgt := 52) hx hb dX1_remember_26 (by decide) (by omega) (by omega) (fun h26 => ?_) (fun h26 => ?_)
    · exfalso; omega
    · refine lv_aload_n hx hb dX1_remember_29 rfl (lv_at hl 1 rfl) ?_
      refine va_get (D := g.1) (ci := 4) (v := .ref ((ad (66 + 6 * nx + 1)))) (C := RX4) (T := TX4) (N := 6) hx hb hts hinX4 hown hK (hb1 hW (show 66 + 6 * nx < 126 by omega) (lcE r_66_6_nx sh_T0)) 0 rfl rfl 5 (by decide) k28 (fun _ h9 => h9) rfl dX1_remember_30 ?_
      refine lv_iload hx hb dX1_remember_33 (lv_at hl 0 rfl) ?_
      refine z_aald hx hb hK (hb1 hW (show 66 + 6 * nx + 1 < 126 by omega) (lcE r_66_6_nx_1 sh_T1)) 0 3 rfl rfl rfl (by decide) (1) (by omega) (by omega) rfl dX1_remember_35 ?_
      refine lv_aload_n hx hb dX1_remember_36 rfl (lv_at hl 4 rfl) ?_
      refine lv_iload hx hb dX1_remember_37 (lv_at hl 0 rfl) ?_
      refine z_aald hx hb hK (hb1 hW (show 5 < 126 by omega) (lcE r_5 sh_5)) 0 4 rfl rfl rfl (by decide) (1) (by omega) (by omega) rfl dX1_remember_39 ?_
      have r_46_5_1 : M4 (46 + 5 * 1) = M (46 + 5 * 1) := hex (46 + 5 * 1) (by omega) (by omega)
      refine va_get (D := g.1) (ci := 3) (v := .ref ((ad (46 + 5 * 1 + 4)))) (C := RX3) (T := TX3) (N := 7) hx hb hts hinX3 hown hK (hb1 hW (show 46 + 5 * 1 < 126 by omega) (lcE r_46_5_1 (sh_S0 (w := 1) (by omega)))) 0 rfl rfl 3 (by decide) k32 (fun _ h9 => h9) rfl dX1_remember_40 ?_
      have r_66_6_nx_2_1 : M4 (66 + 6 * nx + (2 + 1)) = M (66 + 6 * nx + (2 + 1)) := hex (66 + 6 * nx + (2 + 1)) (by omega) (by omega)
      have r_46_5_1_4 : M4 (46 + 5 * 1 + 4) = M (46 + 5 * 1 + 4) := hex (46 + 5 * 1 + 4) (by omega) (by omega)
      refine va_callv (va_runV (As := [.ref ((ad (46 + 5 * 1 + 4)))]) (rest := []) ⟨hx, hb, hml, hown, hts⟩ (c_X0_copyFrom l g (ad) (hd9) (lc g ad P M4) (66 + 6 * nx + (2 + 1)) (46 + 5 * 1 + 4) (by omega) (by omega) (by omega) (M (66 + 6 * nx + (2 + 1))) (M (46 + 5 * 1 + 4)) (lcE r_66_6_nx_2_1 (sh_T2 (i := 1) (by omega))) (lcE r_46_5_1_4 (sh_S4 (w := 1) (by omega)))) (cwV 1 hts gX1_remember_X0_copyFrom rfl rfl rfl (by decide +kernel) ⟨Nat.le_of_ble_eq_true rfl, Nat.le_of_ble_eq_true rfl⟩) (g_preV hW hK (va_recv hK (hb1 hW (show 66 + 6 * nx + (2 + 1) < 126 by omega) (lcE r_66_6_nx_2_1 (sh_T2 (i := 1) (by omega)))) (q0 := 0) (ci := 0) rfl rfl)) rfl rfl hl.1 rfl (lv_room (Nat.le_of_ble_eq_true rfl)) dX1_remember_43 ⟨Nat.le_of_ble_eq_true rfl, Nat.le_of_ble_eq_true rfl⟩) hS (fun q _ h => h) (fun q h => h) (fun c5 t9 H1 locs ht9 hvm9 hw9 hB9 hz9 hk9 hS => ?_)
      rw [ht9] at hB9
      have hW := hB9
      clear hB9 hz9 hk9 hvm9 ht9
      generalize H1 = H at hW hS ⊢
      have hW : hbP g ad c5 H := hW
      try dsimp only at hw9
      have hW : cw g ad P (va_up M4 (66 + 6 * nx + (2 + 1)) (M (46 + 5 * 1 + 4))) H := cw_1 hW hw9.1 (((sh_T2 (i := 1) (by omega))).trans rfl) hw9.2
      obtain ⟨M6, hM6⟩ : ∃ x9c : Nat → Nat → Int32, x9c = va_up M4 (66 + 6 * nx + (2 + 1)) (M (46 + 5 * 1 + 4)) := ⟨_, rfl⟩
      have hW : cw g ad P M6 H := by rw [hM6]; exact hW
      have hex : ∀ j : Nat, ¬ j = 66 + 6 * nx → ¬ j = 66 + 6 * nx + (2 + 0) → ¬ j = 66 + 6 * nx + (2 + 1) → M6 j = M j := fun j q0 q1 q2 => ((congrFun hM6 j).trans (up_ne _ _ q2)).trans (hex j q0 q1)
      have r_6 : M6 (6) = M 6 := ((congrFun hM6 (6)).trans (up_ne _ _ (by omega))).trans r_6
      have r_7 : M6 (7) = M 7 := ((congrFun hM6 (7)).trans (up_ne _ _ (by omega))).trans r_7
      have r_66_6_nx : M6 (66 + 6 * nx) = upd (upd (M (66 + 6 * nx)) 0 (td)) 1 (zI ((-1))) := ((congrFun hM6 (66 + 6 * nx)).trans (up_ne _ _ (by omega))).trans r_66_6_nx
      have r_66_6_nx_1 : M6 (66 + 6 * nx + 1) = M (66 + 6 * nx + 1) := ((congrFun hM6 (66 + 6 * nx + 1)).trans (up_ne _ _ (by omega))).trans r_66_6_nx_1
      have r_5 : M6 (5) = M 5 := ((congrFun hM6 (5)).trans (up_ne _ _ (by omega))).trans r_5
      have r_46_5_0 : M6 (46 + 5 * 0) = M (46 + 5 * 0) := ((congrFun hM6 (46 + 5 * 0)).trans (up_ne _ _ (by omega))).trans r_46_5_0
      have r_46_5_0_4 : M6 (46 + 5 * 0 + 4) = M (46 + 5 * 0 + 4) := ((congrFun hM6 (46 + 5 * 0 + 4)).trans (up_ne _ _ (by omega))).trans r_46_5_0_4
      have r_66_6_nx_2_0 : M6 (66 + 6 * nx + (2 + 0)) = M (46 + 5 * 0 + 4) := ((congrFun hM6 (66 + 6 * nx + (2 + 0))).trans (up_ne _ _ (by omega))).trans r_66_6_nx_2_0
      have r_46_5_1 : M6 (46 + 5 * 1) = M (46 + 5 * 1) := ((congrFun hM6 (46 + 5 * 1)).trans (up_ne _ _ (by omega))).trans r_46_5_1
      have r_46_5_1_4 : M6 (46 + 5 * 1 + 4) = M (46 + 5 * 1 + 4) := ((congrFun hM6 (46 + 5 * 1 + 4)).trans (up_ne _ _ (by omega))).trans r_46_5_1_4
      have r_66_6_nx_2_1 : M6 (66 + 6 * nx + (2 + 1)) = M (46 + 5 * 1 + 4) := ((congrFun hM6 _).trans (up_at _ _ _))
      refine z_iinc (lv' := [(4, .int (zI ((0 + 1) + 1))), (3, .ref ((ad (66 + 6 * nx)))), (0, .ref ((ad 6))), (1, .int (td)), (2, .ref ((ad 5)))]) hx hb dX1_remember_46 hl (k := 0) rfl (by decide) rfl (fun ls hl => ?_)
      refine lv_goto (tgt := 23) hx hb dX1_remember_49 (by decide) ?_
      refine lv_iload hx hb dX1_remember_23 (lv_at hl 0 rfl) ?_
      refine lv_iconst (v := zI (4)) hx hb dX1_remember_25 (by decide) ?_
      refine z_icmp_ge (tgt := 52) hx hb dX1_remember_26 (by decide) (by omega) (by omega) (fun h26 => ?_) (fun h26 => ?_)
      · exfalso; omega
      · refine lv_aload_n hx hb dX1_remember_29 rfl (lv_at hl 1 rfl) ?_
        refine va_get (D := g.1) (ci := 4) (v := .ref ((ad (66 + 6 * nx + 1)))) (C := RX4) (T := TX4) (N := 6) hx hb hts hinX4 hown hK (hb1 hW (show 66 + 6 * nx < 126 by omega) (lcE r_66_6_nx sh_T0)) 0 rfl rfl 5 (by decide) k28 (fun _ h9 => h9) rfl dX1_remember_30 ?_
        refine lv_iload hx hb dX1_remember_33 (lv_at hl 0 rfl) ?_
        refine z_aald hx hb hK (hb1 hW (show 66 + 6 * nx + 1 < 126 by omega) (lcE r_66_6_nx_1 sh_T1)) 0 3 rfl rfl rfl (by decide) (2) (by omega) (by omega) rfl dX1_remember_35 ?_
        refine lv_aload_n hx hb dX1_remember_36 rfl (lv_at hl 4 rfl) ?_
        refine lv_iload hx hb dX1_remember_37 (lv_at hl 0 rfl) ?_
        refine z_aald hx hb hK (hb1 hW (show 5 < 126 by omega) (lcE r_5 sh_5)) 0 4 rfl rfl rfl (by decide) (2) (by omega) (by omega) rfl dX1_remember_39 ?_
        have r_46_5_2 : M6 (46 + 5 * 2) = M (46 + 5 * 2) := hex (46 + 5 * 2) (by omega) (by omega) (by omega)
        refine va_get (D := g.1) (ci := 3) (v := .ref ((ad (46 + 5 * 2 + 4)))) (C := RX3) (T := TX3) (N := 7) hx hb hts hinX3 hown hK (hb1 hW (show 46 + 5 * 2 < 126 by omega) (lcE r_46_5_2 (sh_S0 (w := 2) (by omega)))) 0 rfl rfl 3 (by decide) k32 (fun _ h9 => h9) rfl dX1_remember_40 ?_
        have r_66_6_nx_2_2 : M6 (66 + 6 * nx + (2 + 2)) = M (66 + 6 * nx + (2 + 2)) := hex (66 + 6 * nx + (2 + 2)) (by omega) (by omega) (by omega)
        have r_46_5_2_4 : M6 (46 + 5 * 2 + 4) = M (46 + 5 * 2 + 4) := hex (46 + 5 * 2 + 4) (by omega) (by omega) (by omega)
        refine va_callv (va_runV (As := [.ref ((ad (46 + 5 * 2 + 4)))]) (rest := []) ⟨hx, hb, hml, hown, hts⟩ (c_X0_copyFrom l g (ad) (hd9) (lc g ad P M6) (66 + 6 * nx + (2 + 2)) (46 + 5 * 2 + 4) (by omega) (by omega) (by omega) (M (66 + 6 * nx + (2 + 2))) (M (46 + 5 * 2 + 4)) (lcE r_66_6_nx_2_2 (sh_T2 (i := 2) (by omega))) (lcE r_46_5_2_4 (sh_S4 (w := 2) (by omega)))) (cwV 1 hts gX1_remember_X0_copyFrom rfl rfl rfl (by decide +kernel) ⟨Nat.le_of_ble_eq_true rfl, Nat.le_of_ble_eq_true rfl⟩) (g_preV hW hK (va_recv hK (hb1 hW (show 66 + 6 * nx + (2 + 2) < 126 by omega) (lcE r_66_6_nx_2_2 (sh_T2 (i := 2) (by omega)))) (q0 := 0) (ci := 0) rfl rfl)) rfl rfl hl.1 rfl (lv_room (Nat.le_of_ble_eq_true rfl)) dX1_remember_43 ⟨Nat.le_of_ble_eq_true rfl, Nat.le_of_ble_eq_true rfl⟩) hS (fun q _ h => h) (fun q h => h) (fun c7 t9 H1 locs ht9 hvm9 hw9 hB9 hz9 hk9 hS => ?_)
        rw [ht9] at hB9
        have hW := hB9
        clear hB9 hz9 hk9 hvm9 ht9
        generalize H1 = H at hW hS ⊢
        have hW : hbP g ad c7 H := hW
        try dsimp only at hw9
        have hW : cw g ad P (va_up M6 (66 + 6 * nx + (2 + 2)) (M (46 + 5 * 2 + 4))) H := cw_1 hW hw9.1 (((sh_T2 (i := 2) (by omega))).trans rfl) hw9.2
        obtain ⟨M8, hM8⟩ : ∃ x9c : Nat → Nat → Int32, x9c = va_up M6 (66 + 6 * nx + (2 + 2)) (M (46 + 5 * 2 + 4)) := ⟨_, rfl⟩
        have hW : cw g ad P M8 H := by rw [hM8]; exact hW
        have hex : ∀ j : Nat, ¬ j = 66 + 6 * nx → ¬ j = 66 + 6 * nx + (2 + 0) → ¬ j = 66 + 6 * nx + (2 + 1) → ¬ j = 66 + 6 * nx + (2 + 2) → M8 j = M j := fun j q0 q1 q2 q3 => ((congrFun hM8 j).trans (up_ne _ _ q3)).trans (hex j q0 q1 q2)
        have r_6 : M8 (6) = M 6 := ((congrFun hM8 (6)).trans (up_ne _ _ (by omega))).trans r_6
        have r_7 : M8 (7) = M 7 := ((congrFun hM8 (7)).trans (up_ne _ _ (by omega))).trans r_7
        have r_66_6_nx : M8 (66 + 6 * nx) = upd (upd (M (66 + 6 * nx)) 0 (td)) 1 (zI ((-1))) := ((congrFun hM8 (66 + 6 * nx)).trans (up_ne _ _ (by omega))).trans r_66_6_nx
        have r_66_6_nx_1 : M8 (66 + 6 * nx + 1) = M (66 + 6 * nx + 1) := ((congrFun hM8 (66 + 6 * nx + 1)).trans (up_ne _ _ (by omega))).trans r_66_6_nx_1
        have r_5 : M8 (5) = M 5 := ((congrFun hM8 (5)).trans (up_ne _ _ (by omega))).trans r_5
        have r_46_5_0 : M8 (46 + 5 * 0) = M (46 + 5 * 0) := ((congrFun hM8 (46 + 5 * 0)).trans (up_ne _ _ (by omega))).trans r_46_5_0
        have r_46_5_0_4 : M8 (46 + 5 * 0 + 4) = M (46 + 5 * 0 + 4) := ((congrFun hM8 (46 + 5 * 0 + 4)).trans (up_ne _ _ (by omega))).trans r_46_5_0_4
        have r_66_6_nx_2_0 : M8 (66 + 6 * nx + (2 + 0)) = M (46 + 5 * 0 + 4) := ((congrFun hM8 (66 + 6 * nx + (2 + 0))).trans (up_ne _ _ (by omega))).trans r_66_6_nx_2_0
        have r_46_5_1 : M8 (46 + 5 * 1) = M (46 + 5 * 1) := ((congrFun hM8 (46 + 5 * 1)).trans (up_ne _ _ (by omega))).trans r_46_5_1
        have r_46_5_1_4 : M8 (46 + 5 * 1 + 4) = M (46 + 5 * 1 + 4) := ((congrFun hM8 (46 + 5 * 1 + 4)).trans (up_ne _ _ (by omega))).trans r_46_5_1_4
        have r_66_6_nx_2_1 : M8 (66 + 6 * nx + (2 + 1)) = M (46 + 5 * 1 + 4) := ((congrFun hM8 (66 + 6 * nx + (2 + 1))).trans (up_ne _ _ (by omega))).trans r_66_6_nx_2_1
        have r_46_5_2 : M8 (46 + 5 * 2) = M (46 + 5 * 2) := ((congrFun hM8 (46 + 5 * 2)).trans (up_ne _ _ (by omega))).trans r_46_5_2
        have r_46_5_2_4 : M8 (46 + 5 * 2 + 4) = M (46 + 5 * 2 + 4) := ((congrFun hM8 (46 + 5 * 2 + 4)).trans (up_ne _ _ (by omega))).trans r_46_5_2_4
        have r_66_6_nx_2_2 : M8 (66 + 6 * nx + (2 + 2)) = M (46 + 5 * 2 + 4) := ((congrFun hM8 _).trans (up_at _ _ _))
        refine z_iinc (lv' := [(4, .int (zI (((0 + 1) + 1) + 1))), (3, .ref ((ad (66 + 6 * nx)))), (0, .ref ((ad 6))), (1, .int (td)), (2, .ref ((ad 5)))]) hx hb dX1_remember_46 hl (k := 0) rfl (by decide) rfl (fun ls hl => ?_)
        refine lv_goto (tgt := 23) hx hb dX1_remember_49 (by decide) ?_
        refine lv_iload hx hb dX1_remember_23 (lv_at hl 0 rfl) ?_
        refine lv_iconst (v := zI (4)) hx hb dX1_remember_25 (by decide) ?_
        refine z_icmp_ge (tgt := 52) hx hb dX1_remember_26 (by decide) (by omega) (by omega) (fun h26 => ?_) (fun h26 => ?_)
        · exfalso; omega
        · refine lv_aload_n hx hb dX1_remember_29 rfl (lv_at hl 1 rfl) ?_
          refine va_get (D := g.1) (ci := 4) (v := .ref ((ad (66 + 6 * nx + 1)))) (C := RX4) (T := TX4) (N := 6) hx hb hts hinX4 hown hK (hb1 hW (show 66 + 6 * nx < 126 by omega) (lcE r_66_6_nx sh_T0)) 0 rfl rfl 5 (by decide) k28 (fun _ h9 => h9) rfl dX1_remember_30 ?_
          refine lv_iload hx hb dX1_remember_33 (lv_at hl 0 rfl) ?_
          refine z_aald hx hb hK (hb1 hW (show 66 + 6 * nx + 1 < 126 by omega) (lcE r_66_6_nx_1 sh_T1)) 0 3 rfl rfl rfl (by decide) (3) (by omega) (by omega) rfl dX1_remember_35 ?_
          refine lv_aload_n hx hb dX1_remember_36 rfl (lv_at hl 4 rfl) ?_
          refine lv_iload hx hb dX1_remember_37 (lv_at hl 0 rfl) ?_
          refine z_aald hx hb hK (hb1 hW (show 5 < 126 by omega) (lcE r_5 sh_5)) 0 4 rfl rfl rfl (by decide) (3) (by omega) (by omega) rfl dX1_remember_39 ?_
          have r_46_5_3 : M8 (46 + 5 * 3) = M (46 + 5 * 3) := hex (46 + 5 * 3) (by omega) (by omega) (by omega) (by omega)
          refine va_get (D := g.1) (ci := 3) (v := .ref ((ad (46 + 5 * 3 + 4)))) (C := RX3) (T := TX3) (N := 7) hx hb hts hinX3 hown hK (hb1 hW (show 46 + 5 * 3 < 126 by omega) (lcE r_46_5_3 (sh_S0 (w := 3) (by omega)))) 0 rfl rfl 3 (by decide) k32 (fun _ h9 => h9) rfl dX1_remember_40 ?_
          have r_66_6_nx_2_3 : M8 (66 + 6 * nx + (2 + 3)) = M (66 + 6 * nx + (2 + 3)) := hex (66 + 6 * nx + (2 + 3)) (by omega) (by omega) (by omega) (by omega)
          have r_46_5_3_4 : M8 (46 + 5 * 3 + 4) = M (46 + 5 * 3 + 4) := hex (46 + 5 * 3 + 4) (by omega) (by omega) (by omega) (by omega)
          refine va_callv (va_runV (As := [.ref ((ad (46 + 5 * 3 + 4)))]) (rest := []) ⟨hx, hb, hml, hown, hts⟩ (c_X0_copyFrom l g (ad) (hd9) (lc g ad P M8) (66 + 6 * nx + (2 + 3)) (46 + 5 * 3 + 4) (by omega) (by omega) (by omega) (M (66 + 6 * nx + (2 + 3))) (M (46 + 5 * 3 + 4)) (lcE r_66_6_nx_2_3 (sh_T2 (i := 3) (by omega))) (lcE r_46_5_3_4 (sh_S4 (w := 3) (by omega)))) (cwV 1 hts gX1_remember_X0_copyFrom rfl rfl rfl (by decide +kernel) ⟨Nat.le_of_ble_eq_true rfl, Nat.le_of_ble_eq_true rfl⟩) (g_preV hW hK (va_recv hK (hb1 hW (show 66 + 6 * nx + (2 + 3) < 126 by omega) (lcE r_66_6_nx_2_3 (sh_T2 (i := 3) (by omega)))) (q0 := 0) (ci := 0) rfl rfl)) rfl rfl hl.1 rfl (lv_room (Nat.le_of_ble_eq_true rfl)) dX1_remember_43 ⟨Nat.le_of_ble_eq_true rfl, Nat.le_of_ble_eq_true rfl⟩) hS (fun q _ h => h) (fun q h => h) (fun c9 t9 H1 locs ht9 hvm9 hw9 hB9 hz9 hk9 hS => ?_)
          rw [ht9] at hB9
          have hW := hB9
          clear hB9 hz9 hk9 hvm9 ht9
          generalize H1 = H at hW hS ⊢
          have hW : hbP g ad c9 H := hW
          try dsimp only at hw9
          have hW : cw g ad P (va_up M8 (66 + 6 * nx + (2 + 3)) (M (46 + 5 * 3 + 4))) H := cw_1 hW hw9.1 (((sh_T2 (i := 3) (by omega))).trans rfl) hw9.2
          obtain ⟨M10, hM10⟩ : ∃ x9c : Nat → Nat → Int32, x9c = va_up M8 (66 + 6 * nx + (2 + 3)) (M (46 + 5 * 3 + 4)) := ⟨_, rfl⟩
          have hW : cw g ad P M10 H := by rw [hM10]; exact hW
          have hex : ∀ j : Nat, ¬ j = 66 + 6 * nx → ¬ j = 66 + 6 * nx + (2 + 0) → ¬ j = 66 + 6 * nx + (2 + 1) → ¬ j = 66 + 6 * nx + (2 + 2) → ¬ j = 66 + 6 * nx + (2 + 3) → M10 j = M j := fun j q0 q1 q2 q3 q4 => ((congrFun hM10 j).trans (up_ne _ _ q4)).trans (hex j q0 q1 q2 q3)
          have r_6 : M10 (6) = M 6 := ((congrFun hM10 (6)).trans (up_ne _ _ (by omega))).trans r_6
          have r_7 : M10 (7) = M 7 := ((congrFun hM10 (7)).trans (up_ne _ _ (by omega))).trans r_7
          have r_66_6_nx : M10 (66 + 6 * nx) = upd (upd (M (66 + 6 * nx)) 0 (td)) 1 (zI ((-1))) := ((congrFun hM10 (66 + 6 * nx)).trans (up_ne _ _ (by omega))).trans r_66_6_nx
          have r_66_6_nx_1 : M10 (66 + 6 * nx + 1) = M (66 + 6 * nx + 1) := ((congrFun hM10 (66 + 6 * nx + 1)).trans (up_ne _ _ (by omega))).trans r_66_6_nx_1
          have r_5 : M10 (5) = M 5 := ((congrFun hM10 (5)).trans (up_ne _ _ (by omega))).trans r_5
          have r_46_5_0 : M10 (46 + 5 * 0) = M (46 + 5 * 0) := ((congrFun hM10 (46 + 5 * 0)).trans (up_ne _ _ (by omega))).trans r_46_5_0
          have r_46_5_0_4 : M10 (46 + 5 * 0 + 4) = M (46 + 5 * 0 + 4) := ((congrFun hM10 (46 + 5 * 0 + 4)).trans (up_ne _ _ (by omega))).trans r_46_5_0_4
          have r_66_6_nx_2_0 : M10 (66 + 6 * nx + (2 + 0)) = M (46 + 5 * 0 + 4) := ((congrFun hM10 (66 + 6 * nx + (2 + 0))).trans (up_ne _ _ (by omega))).trans r_66_6_nx_2_0
          have r_46_5_1 : M10 (46 + 5 * 1) = M (46 + 5 * 1) := ((congrFun hM10 (46 + 5 * 1)).trans (up_ne _ _ (by omega))).trans r_46_5_1
          have r_46_5_1_4 : M10 (46 + 5 * 1 + 4) = M (46 + 5 * 1 + 4) := ((congrFun hM10 (46 + 5 * 1 + 4)).trans (up_ne _ _ (by omega))).trans r_46_5_1_4
          have r_66_6_nx_2_1 : M10 (66 + 6 * nx + (2 + 1)) = M (46 + 5 * 1 + 4) := ((congrFun hM10 (66 + 6 * nx + (2 + 1))).trans (up_ne _ _ (by omega))).trans r_66_6_nx_2_1
          have r_46_5_2 : M10 (46 + 5 * 2) = M (46 + 5 * 2) := ((congrFun hM10 (46 + 5 * 2)).trans (up_ne _ _ (by omega))).trans r_46_5_2
          have r_46_5_2_4 : M10 (46 + 5 * 2 + 4) = M (46 + 5 * 2 + 4) := ((congrFun hM10 (46 + 5 * 2 + 4)).trans (up_ne _ _ (by omega))).trans r_46_5_2_4
          have r_66_6_nx_2_2 : M10 (66 + 6 * nx + (2 + 2)) = M (46 + 5 * 2 + 4) := ((congrFun hM10 (66 + 6 * nx + (2 + 2))).trans (up_ne _ _ (by omega))).trans r_66_6_nx_2_2
          have r_46_5_3 : M10 (46 + 5 * 3) = M (46 + 5 * 3) := ((congrFun hM10 (46 + 5 * 3)).trans (up_ne _ _ (by omega))).trans r_46_5_3
          have r_46_5_3_4 : M10 (46 + 5 * 3 + 4) = M (46 + 5 * 3 + 4) := ((congrFun hM10 (46 + 5 * 3 + 4)).trans (up_ne _ _ (by omega))).trans r_46_5_3_4
          have r_66_6_nx_2_3 : M10 (66 + 6 * nx + (2 + 3)) = M (46 + 5 * 3 + 4) := ((congrFun hM10 _).trans (up_at _ _ _))
          refine z_iinc (lv' := [(4, .int (zI ((((0 + 1) + 1) + 1) + 1))), (3, .ref ((ad (66 + 6 * nx)))), (0, .ref ((ad 6))), (1, .int (td)), (2, .ref ((ad 5)))]) hx hb dX1_remember_46 hl (k := 0) rfl (by decide) rfl (fun ls hl => ?_)
          refine lv_goto (tgt := 23) hx hb dX1_remember_49 (by decide) ?_
          refine lv_iload hx hb dX1_remember_23 (lv_at hl 0 rfl) ?_
          refine lv_iconst (v := zI (4)) hx hb dX1_remember_25 (by decide) ?_
          refine z_icmp_ge (tgt := 52) hx hb dX1_remember_26 (by decide) (by omega) (by omega) (fun h26 => ?_) (fun h26 => ?_)
          · refine lv_aload_n hx hb dX1_remember_52 rfl (lv_at hl 2 rfl) ?_
            refine lv_aload_n hx hb dX1_remember_53 rfl (lv_at hl 2 rfl) ?_
            refine va_get (D := g.1) (ci := 1) (v := .int ((M 6) 0)) (C := RX1) (T := TX1) (N := 3) hx hb hts hinX1 hown hK (hb1 hW (show 6 < 126 by omega) (lcE r_6 sh_6)) 0 rfl rfl 1 (by decide) k18 (fun _ h9 => h9) rfl dX1_remember_54 ?_
            refine z_top (y := zI (nx)) (hn6) ?_
            refine lv_iconst (v := zI (1)) hx hb dX1_remember_57 (by decide) ?_
            refine z_iadd hx hb dX1_remember_58 ?_
            refine lv_bipush (v := zI (10)) hx hb dX1_remember_59 (by decide) ?_
            refine z_irem hx hb dX1_remember_61 (by omega) (by omega) ?_
            refine z_top (y := zI ((((nx + 1) % 10 : Nat) : Int))) (congrArg zI (by omega)) ?_
            refine y_put (ci := 1) (v := .int (zI ((((nx + 1) % 10 : Nat) : Int)))) (ty := .int) (C := RX1) (T := TX1) (N := 3) hx hb hts hinX1 tyX1 tyX1_ok nmX1 hown hK hW hd9 hS (6) (show 6 < 126 by omega) (lcE r_6 sh_6) rfl 1 (by decide) k18 (fun _ h9 => h9) rfl (by decide +kernel) rfl rfl (Nat.le_of_ble_eq_true rfl) dX1_remember_62 (fun H locs hW hS => ?_)
            have hW := cw_up (P := P) (M := M10) (f := upd (M 6) 0 (zI ((((nx + 1) % 10 : Nat) : Int)))) ((sh_6).trans rfl) hW
            obtain ⟨M11, hM11⟩ : ∃ x9c : Nat → Nat → Int32, x9c = va_up M10 (6) (upd (M 6) 0 (zI ((((nx + 1) % 10 : Nat) : Int)))) := ⟨_, rfl⟩
            have hW : cw g ad P M11 H := by rw [hM11]; exact hW
            have hex : ∀ j : Nat, ¬ j = 66 + 6 * nx → ¬ j = 66 + 6 * nx + (2 + 0) → ¬ j = 66 + 6 * nx + (2 + 1) → ¬ j = 66 + 6 * nx + (2 + 2) → ¬ j = 66 + 6 * nx + (2 + 3) → ¬ j = 6 → M11 j = M j := fun j q0 q1 q2 q3 q4 q5 => ((congrFun hM11 j).trans (up_ne _ _ q5)).trans (hex j q0 q1 q2 q3 q4)
            have r_7 : M11 (7) = M 7 := ((congrFun hM11 (7)).trans (up_ne _ _ (by omega))).trans r_7
            have r_66_6_nx : M11 (66 + 6 * nx) = upd (upd (M (66 + 6 * nx)) 0 (td)) 1 (zI ((-1))) := ((congrFun hM11 (66 + 6 * nx)).trans (up_ne _ _ (by omega))).trans r_66_6_nx
            have r_66_6_nx_1 : M11 (66 + 6 * nx + 1) = M (66 + 6 * nx + 1) := ((congrFun hM11 (66 + 6 * nx + 1)).trans (up_ne _ _ (by omega))).trans r_66_6_nx_1
            have r_5 : M11 (5) = M 5 := ((congrFun hM11 (5)).trans (up_ne _ _ (by omega))).trans r_5
            have r_46_5_0 : M11 (46 + 5 * 0) = M (46 + 5 * 0) := ((congrFun hM11 (46 + 5 * 0)).trans (up_ne _ _ (by omega))).trans r_46_5_0
            have r_46_5_0_4 : M11 (46 + 5 * 0 + 4) = M (46 + 5 * 0 + 4) := ((congrFun hM11 (46 + 5 * 0 + 4)).trans (up_ne _ _ (by omega))).trans r_46_5_0_4
            have r_66_6_nx_2_0 : M11 (66 + 6 * nx + (2 + 0)) = M (46 + 5 * 0 + 4) := ((congrFun hM11 (66 + 6 * nx + (2 + 0))).trans (up_ne _ _ (by omega))).trans r_66_6_nx_2_0
            have r_46_5_1 : M11 (46 + 5 * 1) = M (46 + 5 * 1) := ((congrFun hM11 (46 + 5 * 1)).trans (up_ne _ _ (by omega))).trans r_46_5_1
            have r_46_5_1_4 : M11 (46 + 5 * 1 + 4) = M (46 + 5 * 1 + 4) := ((congrFun hM11 (46 + 5 * 1 + 4)).trans (up_ne _ _ (by omega))).trans r_46_5_1_4
            have r_66_6_nx_2_1 : M11 (66 + 6 * nx + (2 + 1)) = M (46 + 5 * 1 + 4) := ((congrFun hM11 (66 + 6 * nx + (2 + 1))).trans (up_ne _ _ (by omega))).trans r_66_6_nx_2_1
            have r_46_5_2 : M11 (46 + 5 * 2) = M (46 + 5 * 2) := ((congrFun hM11 (46 + 5 * 2)).trans (up_ne _ _ (by omega))).trans r_46_5_2
            have r_46_5_2_4 : M11 (46 + 5 * 2 + 4) = M (46 + 5 * 2 + 4) := ((congrFun hM11 (46 + 5 * 2 + 4)).trans (up_ne _ _ (by omega))).trans r_46_5_2_4
            have r_66_6_nx_2_2 : M11 (66 + 6 * nx + (2 + 2)) = M (46 + 5 * 2 + 4) := ((congrFun hM11 (66 + 6 * nx + (2 + 2))).trans (up_ne _ _ (by omega))).trans r_66_6_nx_2_2
            have r_46_5_3 : M11 (46 + 5 * 3) = M (46 + 5 * 3) := ((congrFun hM11 (46 + 5 * 3)).trans (up_ne _ _ (by omega))).trans r_46_5_3
            have r_46_5_3_4 : M11 (46 + 5 * 3 + 4) = M (46 + 5 * 3 + 4) := ((congrFun hM11 (46 + 5 * 3 + 4)).trans (up_ne _ _ (by omega))).trans r_46_5_3_4
            have r_66_6_nx_2_3 : M11 (66 + 6 * nx + (2 + 3)) = M (46 + 5 * 3 + 4) := ((congrFun hM11 (66 + 6 * nx + (2 + 3))).trans (up_ne _ _ (by omega))).trans r_66_6_nx_2_3
            have r_6 : M11 (6) = upd (M 6) 0 (zI ((((nx + 1) % 10 : Nat) : Int))) := ((congrFun hM11 _).trans (up_at _ _ _))
            refine lv_aload_n hx hb dX1_remember_65 rfl (lv_at hl 2 rfl) ?_
            refine lv_aload_n hx hb dX1_remember_66 rfl (lv_at hl 2 rfl) ?_
            refine va_get (D := g.1) (ci := 1) (v := .int ((M 6) 1)) (C := RX1) (T := TX1) (N := 3) hx hb hts hinX1 hown hK (hb1 hW (show 6 < 126 by omega) (lcE r_6 sh_6)) 0 rfl rfl 2 (by decide) k44 (fun _ h9 => h9) rfl dX1_remember_67 ?_
            refine z_top (y := zI (cn)) (hc6) ?_
            refine lv_iconst (v := zI (1)) hx hb dX1_remember_70 (by decide) ?_
            refine z_iadd hx hb dX1_remember_71 ?_
            refine lv_bipush (v := zI (10)) hx hb dX1_remember_72 (by decide) ?_
            refine z_mmin hx hb (hml.trans hl.1.symm) hown k47 kSmin kM kCmin (Nat.le_of_ble_eq_true rfl) (Nat.le_of_ble_eq_true rfl) (Nat.zero_le _) (Nat.zero_le _) (by omega) (by omega) dX1_remember_74 ?_
            refine z_top (y := zI (((min (cn + 1) 10 : Nat) : Int))) (congrArg zI (by omega)) ?_
            refine y_put (ci := 1) (v := .int (zI (((min (cn + 1) 10 : Nat) : Int)))) (ty := .int) (C := RX1) (T := TX1) (N := 3) hx hb hts hinX1 tyX1 tyX1_ok nmX1 hown hK hW hd9 hS (6) (show 6 < 126 by omega) (lcE r_6 sh_6) rfl 2 (by decide) k44 (fun _ h9 => h9) rfl (by decide +kernel) rfl rfl (Nat.le_of_ble_eq_true rfl) dX1_remember_77 (fun H locs hW hS => ?_)
            have hW := cw_up (P := P) (M := M11) (f := upd (upd (M 6) 0 (zI ((((nx + 1) % 10 : Nat) : Int)))) 1 (zI (((min (cn + 1) 10 : Nat) : Int)))) ((sh_6).trans rfl) hW
            obtain ⟨M12, hM12⟩ : ∃ x9c : Nat → Nat → Int32, x9c = va_up M11 (6) (upd (upd (M 6) 0 (zI ((((nx + 1) % 10 : Nat) : Int)))) 1 (zI (((min (cn + 1) 10 : Nat) : Int)))) := ⟨_, rfl⟩
            have hW : cw g ad P M12 H := by rw [hM12]; exact hW
            have hex : ∀ j : Nat, ¬ j = 66 + 6 * nx → ¬ j = 66 + 6 * nx + (2 + 0) → ¬ j = 66 + 6 * nx + (2 + 1) → ¬ j = 66 + 6 * nx + (2 + 2) → ¬ j = 66 + 6 * nx + (2 + 3) → ¬ j = 6 → M12 j = M j := fun j q0 q1 q2 q3 q4 q5 => ((congrFun hM12 j).trans (up_ne _ _ q5)).trans (hex j q0 q1 q2 q3 q4 q5)
            have r_7 : M12 (7) = M 7 := ((congrFun hM12 (7)).trans (up_ne _ _ (by omega))).trans r_7
            have r_66_6_nx : M12 (66 + 6 * nx) = upd (upd (M (66 + 6 * nx)) 0 (td)) 1 (zI ((-1))) := ((congrFun hM12 (66 + 6 * nx)).trans (up_ne _ _ (by omega))).trans r_66_6_nx
            have r_66_6_nx_1 : M12 (66 + 6 * nx + 1) = M (66 + 6 * nx + 1) := ((congrFun hM12 (66 + 6 * nx + 1)).trans (up_ne _ _ (by omega))).trans r_66_6_nx_1
            have r_5 : M12 (5) = M 5 := ((congrFun hM12 (5)).trans (up_ne _ _ (by omega))).trans r_5
            have r_46_5_0 : M12 (46 + 5 * 0) = M (46 + 5 * 0) := ((congrFun hM12 (46 + 5 * 0)).trans (up_ne _ _ (by omega))).trans r_46_5_0
            have r_46_5_0_4 : M12 (46 + 5 * 0 + 4) = M (46 + 5 * 0 + 4) := ((congrFun hM12 (46 + 5 * 0 + 4)).trans (up_ne _ _ (by omega))).trans r_46_5_0_4
            have r_66_6_nx_2_0 : M12 (66 + 6 * nx + (2 + 0)) = M (46 + 5 * 0 + 4) := ((congrFun hM12 (66 + 6 * nx + (2 + 0))).trans (up_ne _ _ (by omega))).trans r_66_6_nx_2_0
            have r_46_5_1 : M12 (46 + 5 * 1) = M (46 + 5 * 1) := ((congrFun hM12 (46 + 5 * 1)).trans (up_ne _ _ (by omega))).trans r_46_5_1
            have r_46_5_1_4 : M12 (46 + 5 * 1 + 4) = M (46 + 5 * 1 + 4) := ((congrFun hM12 (46 + 5 * 1 + 4)).trans (up_ne _ _ (by omega))).trans r_46_5_1_4
            have r_66_6_nx_2_1 : M12 (66 + 6 * nx + (2 + 1)) = M (46 + 5 * 1 + 4) := ((congrFun hM12 (66 + 6 * nx + (2 + 1))).trans (up_ne _ _ (by omega))).trans r_66_6_nx_2_1
            have r_46_5_2 : M12 (46 + 5 * 2) = M (46 + 5 * 2) := ((congrFun hM12 (46 + 5 * 2)).trans (up_ne _ _ (by omega))).trans r_46_5_2
            have r_46_5_2_4 : M12 (46 + 5 * 2 + 4) = M (46 + 5 * 2 + 4) := ((congrFun hM12 (46 + 5 * 2 + 4)).trans (up_ne _ _ (by omega))).trans r_46_5_2_4
            have r_66_6_nx_2_2 : M12 (66 + 6 * nx + (2 + 2)) = M (46 + 5 * 2 + 4) := ((congrFun hM12 (66 + 6 * nx + (2 + 2))).trans (up_ne _ _ (by omega))).trans r_66_6_nx_2_2
            have r_46_5_3 : M12 (46 + 5 * 3) = M (46 + 5 * 3) := ((congrFun hM12 (46 + 5 * 3)).trans (up_ne _ _ (by omega))).trans r_46_5_3
            have r_46_5_3_4 : M12 (46 + 5 * 3 + 4) = M (46 + 5 * 3 + 4) := ((congrFun hM12 (46 + 5 * 3 + 4)).trans (up_ne _ _ (by omega))).trans r_46_5_3_4
            have r_66_6_nx_2_3 : M12 (66 + 6 * nx + (2 + 3)) = M (46 + 5 * 3 + 4) := ((congrFun hM12 (66 + 6 * nx + (2 + 3))).trans (up_ne _ _ (by omega))).trans r_66_6_nx_2_3
            have r_6 : M12 (6) = upd (upd (M 6) 0 (zI ((((nx + 1) % 10 : Nat) : Int)))) 1 (zI (((min (cn + 1) 10 : Nat) : Int))) := ((congrFun hM12 _).trans (up_at _ _ _))
            refine lv_aload_n hx hb dX1_remember_80 rfl (lv_at hl 1 rfl) ?_
            have hW : cw g ad P (va_up (va_up (va_up (va_up (va_up (va_up M (66 + 6 * nx) (upd (upd (M (66 + 6 * nx)) 0 (td)) 1 (zI ((-1))))) (66 + 6 * nx + (2 + 0)) (M (46 + 5 * 0 + 4))) (66 + 6 * nx + (2 + 1)) (M (46 + 5 * 1 + 4))) (66 + 6 * nx + (2 + 2)) (M (46 + 5 * 2 + 4))) (66 + 6 * nx + (2 + 3)) (M (46 + 5 * 3 + 4))) (6) (upd (upd (M 6) 0 (zI ((((nx + 1) % 10 : Nat)) : Int))) 1 (zI (((min (cn + 1) 10 : Nat)) : Int)))) H := by
              have e9 : M12 = va_up (va_up (va_up (va_up (va_up (va_up M (66 + 6 * nx) (upd (upd (M (66 + 6 * nx)) 0 (td)) 1 (zI ((-1))))) (66 + 6 * nx + (2 + 0)) (M (46 + 5 * 0 + 4))) (66 + 6 * nx + (2 + 1)) (M (46 + 5 * 1 + 4))) (66 + 6 * nx + (2 + 2)) (M (46 + 5 * 2 + 4))) (66 + 6 * nx + (2 + 3)) (M (46 + 5 * 3 + 4))) (6) (upd (upd (M 6) 0 (zI ((((nx + 1) % 10 : Nat)) : Int))) 1 (zI (((min (cn + 1) 10 : Nat)) : Int))) := by
                funext i9
                by_cases q0 : i9 = 66 + 6 * nx
                · rw [q0]; exact (r_66_6_nx).trans ((up_ne _ _ (by omega)).trans ((up_ne _ _ (by omega)).trans ((up_ne _ _ (by omega)).trans ((up_ne _ _ (by omega)).trans ((up_ne _ _ (by omega)).trans (up_at _ _ _)))))).symm
                by_cases q1 : i9 = 66 + 6 * nx + (2 + 0)
                · rw [q1]; exact (r_66_6_nx_2_0).trans ((up_ne _ _ (by omega)).trans ((up_ne _ _ (by omega)).trans ((up_ne _ _ (by omega)).trans ((up_ne _ _ (by omega)).trans (up_at _ _ _))))).symm
                by_cases q2 : i9 = 66 + 6 * nx + (2 + 1)
                · rw [q2]; exact (r_66_6_nx_2_1).trans ((up_ne _ _ (by omega)).trans ((up_ne _ _ (by omega)).trans ((up_ne _ _ (by omega)).trans (up_at _ _ _)))).symm
                by_cases q3 : i9 = 66 + 6 * nx + (2 + 2)
                · rw [q3]; exact (r_66_6_nx_2_2).trans ((up_ne _ _ (by omega)).trans ((up_ne _ _ (by omega)).trans (up_at _ _ _))).symm
                by_cases q4 : i9 = 66 + 6 * nx + (2 + 3)
                · rw [q4]; exact (r_66_6_nx_2_3).trans ((up_ne _ _ (by omega)).trans (up_at _ _ _)).symm
                by_cases q5 : i9 = 6
                · rw [q5]; exact (r_6).trans (up_at _ _ _).symm
                exact (hex i9 q0 q1 q2 q3 q4 q5).trans ((up_ne _ _ q5).trans ((up_ne _ _ q4).trans ((up_ne _ _ q3).trans ((up_ne _ _ q2).trans ((up_ne _ _ q1).trans (up_ne _ _ q0)))))).symm
              rw [← e9]; exact hW
            exact W.aret hx hb hr (Or.inl ⟨_, rfl⟩) (Or.inr ⟨_, rfl⟩) (fun tX htX hWX => ⟨⟨(), _, rfl, trivial, rfl, g_at htX hW⟩, hS.F htX⟩) hS.2.2 dX1_remember_81
          · exfalso; omega

set_option maxHeartbeats 4000000 in
set_option maxRecDepth 100000 in
theorem c_X1_rememberDay (l : Launch) (g : GG) (ad : Nat → Nat) (hd9 : hD ad) (P : Nat → Nat) (M : Nat → Nat → Int32) (td : Int32) (nx cn : Nat) (hnx : nx < 10) (hn6 : M 6 0 = zI nx) (hcn : cn ≤ 10) (hc6 : M 6 1 = zI cn) (w d : Nat) (hw : w < 4) (hd : d < 364) : Met l yX1_rememberDay wsX1_rememberDay ({ frames := 2, cells := 0, slots := 0, locals := 45 }) (gPc g [.ref ((ad 6)), .int (td), .ref ((ad 5)), .int (zI (w)), .int (zI (d))] (cw g ad P M)) (va_Qv (fun (u : Unit) => True) (fun (u : Unit) (tS : State) => cw g ad P (va_up (va_up (va_up (va_up (va_up (va_up M (66 + 6 * nx) (upd (upd (upd (upd (upd (upd (M (66 + 6 * nx)) 0 (td)) 1 (zI ((-1)))) 1 (zI (w))) 2 (zI (d))) 3 (M (46 + 5 * w + 1) d)) 4 (M (46 + 5 * w + 2) d))) (66 + 6 * nx + (2 + 0)) (M (46 + 5 * 0 + 4))) (66 + 6 * nx + (2 + 1)) (M (46 + 5 * 1 + 4))) (66 + 6 * nx + (2 + 2)) (M (46 + 5 * 2 + 4))) (66 + 6 * nx + (2 + 3)) (M (46 + 5 * 3 + 4))) (6) (upd (upd (M 6) 0 (zI ((((nx + 1) % 10 : Nat)) : Int))) 1 (zI (((min (cn + 1) 10 : Nat)) : Int)))) tS.heap) (hbA ad)) 0 0 (hbA ad) := by
  refine Met.ofW (cc := cX1_rememberDay) (maxL := 6) (ret := none) (by decide) rfl ?_
  intro p e s m args below meth c s₁ B hml hv
  obtain ⟨rfl, hW, hK⟩ := hv
  have hx := B.exec
  have hb := B.bytes
  have hr := B.returns
  have hts := atoms_spec (ws := wsX1_rememberDay) B.pre
  have hown : s.vm.findClass RX1 = some m.cls := findClass_of_methodNamed B.named
  have hlocks := B.notSynchronized
  have hinX3 : ∀ w ∈ wsX30, w ∈ wsX1_rememberDay := by decide +kernel
  have hinX4 : ∀ w ∈ wsX40, w ∈ wsX1_rememberDay := by decide +kernel
  have k25 := hts (.fieldLink RX1 25 "HoursBank$Step" "worker" "I") (by decide +kernel)
  have k57 := hts (.fieldLink RX1 57 "HoursBank$Step" "day" "I") (by decide +kernel)
  have k60 := hts (.fieldLink RX1 60 "HoursBank$Sheet" "changed" "[I") (by decide +kernel)
  have k64 := hts (.fieldLink RX1 64 "HoursBank$Step" "changed" "I") (by decide +kernel)
  have k66 := hts (.fieldLink RX1 66 "HoursBank$Sheet" "told" "[I") (by decide +kernel)
  have k69 := hts (.fieldLink RX1 69 "HoursBank$Step" "told" "I") (by decide +kernel)
  have hl := lv_entry ([.ref ((ad 6)), .int (td), .ref ((ad 5)), .int (zI (w)), .int (zI (d))]) (n := 6) (Nat.le_of_ble_eq_true rfl)
  rw [lg_entry_eq]
  generalize (lg_sl ([.ref ((ad 6)), .int (td), .ref ((ad 5)), .int (zI (w)), .int (zI (d))]) ++ List.replicate (6 - (lg_sl ([.ref ((ad 6)), .int (td), .ref ((ad 5)), .int (zI (w)), .int (zI (d))])).length) Slot.unset).toArray = ls at hl ⊢
  have hl : lv_has ls 6 [(0, .ref ((ad 6))), (1, .int (td)), (2, .ref ((ad 5))), (3, .int (zI (w))), (4, .int (zI (d)))] := hl
  have hS : va_S (hbA ad) s.heap s.heap [] := va_S.rf
  obtain ⟨H, hH9⟩ : ∃ H, H = s.heap := ⟨_, rfl⟩
  obtain ⟨locs, hL9⟩ : ∃ x9l : List Loc, x9l = [] := ⟨_, rfl⟩
  have hW : cw g ad P M H := hH9 ▸ hW
  have hS : va_S (hbA ad) s.heap H locs := by rw [hH9, hL9]; exact hS
  refine z_start hH9 hL9 ?_
  clear hH9 hL9
  have hex : ∀ j : Nat, M j = M j := fun _ => rfl
  refine lv_aload_n hx hb dX1_rememberDay_0 rfl (lv_at hl 0 rfl) ?_
  refine lv_iload_n hx hb dX1_rememberDay_1 rfl (lv_at hl 1 rfl) ?_
  refine lv_aload_n hx hb dX1_rememberDay_2 rfl (lv_at hl 2 rfl) ?_
  have r_6 : M (6) = M 6 := hex (6) 
  refine va_callr (va_runV (As := [.int (td), .ref ((ad 5))]) (rest := []) ⟨hx, hb, hml, hown, hts⟩ (c_X1_remember l g (ad) (hd9) (P) (M) (td) (nx) (cn) (hnx) (hn6) (hcn) (hc6)) (cwV 2 hts gX1_rememberDay_X1_remember rfl rfl rfl (by decide +kernel) ⟨Nat.le_of_ble_eq_true rfl, Nat.le_of_ble_eq_true rfl⟩) (g_preV hW hK (va_recv hK (hb1 hW (show 6 < 126 by omega) (lcE r_6 sh_6)) (q0 := 0) (ci := 1) rfl rfl)) rfl rfl hl.1 rfl (lv_room (Nat.le_of_ble_eq_true rfl)) dX1_rememberDay_3 ⟨Nat.le_of_ble_eq_true rfl, Nat.le_of_ble_eq_true rfl⟩) hS (fun q _ h => h) (fun q h => h) (fun u0 a9 t9 H1 locs ht9 hvm9 hw9 hB9 hz9 hk9 hS => ?_)
  rw [ht9] at hB9
  clear hz9 hk9 hvm9 ht9
  generalize H1 = H at hB9 hS ⊢
  obtain ⟨rfl, hW⟩ := hB9
  have hW := hW
  have hW : cw g ad P (va_up (va_up (va_up (va_up (va_up (va_up M (66 + 6 * nx) (upd (upd (M (66 + 6 * nx)) 0 (td)) 1 (zI ((-1))))) (66 + 6 * nx + (2 + 0)) (M (46 + 5 * 0 + 4))) (66 + 6 * nx + (2 + 1)) (M (46 + 5 * 1 + 4))) (66 + 6 * nx + (2 + 2)) (M (46 + 5 * 2 + 4))) (66 + 6 * nx + (2 + 3)) (M (46 + 5 * 3 + 4))) (6) (upd (upd (M 6) 0 (zI ((((nx + 1) % 10 : Nat)) : Int))) 1 (zI (((min (cn + 1) 10 : Nat)) : Int)))) H := hW
  obtain ⟨M2, hM2⟩ : ∃ x9c : Nat → Nat → Int32, x9c = va_up (va_up (va_up (va_up (va_up (va_up M (66 + 6 * nx) (upd (upd (M (66 + 6 * nx)) 0 (td)) 1 (zI ((-1))))) (66 + 6 * nx + (2 + 0)) (M (46 + 5 * 0 + 4))) (66 + 6 * nx + (2 + 1)) (M (46 + 5 * 1 + 4))) (66 + 6 * nx + (2 + 2)) (M (46 + 5 * 2 + 4))) (66 + 6 * nx + (2 + 3)) (M (46 + 5 * 3 + 4))) (6) (upd (upd (M 6) 0 (zI ((((nx + 1) % 10 : Nat)) : Int))) 1 (zI (((min (cn + 1) 10 : Nat)) : Int))) := ⟨_, rfl⟩
  have hW : cw g ad P M2 H := by rw [hM2]; exact hW
  have hex : ∀ j : Nat, ¬ j = 66 + 6 * nx → ¬ j = 66 + 6 * nx + (2 + 0) → ¬ j = 66 + 6 * nx + (2 + 1) → ¬ j = 66 + 6 * nx + (2 + 2) → ¬ j = 66 + 6 * nx + (2 + 3) → ¬ j = 6 → M2 j = M j := fun j q0 q1 q2 q3 q4 q5 => ((congrFun hM2 j).trans ((up_ne _ _ q5).trans ((up_ne _ _ q4).trans ((up_ne _ _ q3).trans ((up_ne _ _ q2).trans ((up_ne _ _ q1).trans (up_ne _ _ q0))))))).trans (hex j )
  have r_66_6_nx : M2 (66 + 6 * nx) = upd (upd (M (66 + 6 * nx)) 0 (td)) 1 (zI ((-1))) := ((congrFun hM2 _).trans ((up_ne _ _ (by omega)).trans ((up_ne _ _ (by omega)).trans ((up_ne _ _ (by omega)).trans ((up_ne _ _ (by omega)).trans ((up_ne _ _ (by omega)).trans (up_at _ _ _)))))))
  have r_66_6_nx_2_0 : M2 (66 + 6 * nx + (2 + 0)) = M (46 + 5 * 0 + 4) := ((congrFun hM2 _).trans ((up_ne _ _ (by omega)).trans ((up_ne _ _ (by omega)).trans ((up_ne _ _ (by omega)).trans ((up_ne _ _ (by omega)).trans (up_at _ _ _))))))
  have r_66_6_nx_2_1 : M2 (66 + 6 * nx + (2 + 1)) = M (46 + 5 * 1 + 4) := ((congrFun hM2 _).trans ((up_ne _ _ (by omega)).trans ((up_ne _ _ (by omega)).trans ((up_ne _ _ (by omega)).trans (up_at _ _ _)))))
  have r_66_6_nx_2_2 : M2 (66 + 6 * nx + (2 + 2)) = M (46 + 5 * 2 + 4) := ((congrFun hM2 _).trans ((up_ne _ _ (by omega)).trans ((up_ne _ _ (by omega)).trans (up_at _ _ _))))
  have r_66_6_nx_2_3 : M2 (66 + 6 * nx + (2 + 3)) = M (46 + 5 * 3 + 4) := ((congrFun hM2 _).trans ((up_ne _ _ (by omega)).trans (up_at _ _ _)))
  have r_6 : M2 (6) = upd (upd (M 6) 0 (zI ((((nx + 1) % 10 : Nat)) : Int))) 1 (zI (((min (cn + 1) 10 : Nat)) : Int)) := ((congrFun hM2 _).trans (up_at _ _ _))
  refine lv_astore (lv' := [(5, .ref ((ad (66 + 6 * nx)))), (0, .ref ((ad 6))), (1, .int (td)), (2, .ref ((ad 5))), (3, .int (zI (w))), (4, .int (zI (d)))]) hx hb dX1_rememberDay_6 hl (by decide) rfl (fun ls hl => ?_)
  refine lv_aload hx hb dX1_rememberDay_8 (lv_at hl 0 rfl) ?_
  refine lv_iload_n hx hb dX1_rememberDay_10 rfl (lv_at hl 4 rfl) ?_
  refine y_put (ci := 4) (v := .int (zI (w))) (ty := .int) (C := RX4) (T := TX4) (N := 6) hx hb hts hinX4 tyX4 tyX4_ok nmX4 hown hK hW hd9 hS (66 + 6 * nx) (show 66 + 6 * nx < 126 by omega) (lcE r_66_6_nx sh_T0) rfl 1 (by decide) k25 (fun _ h9 => h9) rfl (by decide +kernel) rfl rfl (Nat.le_of_ble_eq_true rfl) dX1_rememberDay_11 (fun H locs hW hS => ?_)
  have hW := cw_up (P := P) (M := M2) (f := upd (upd (upd (M (66 + 6 * nx)) 0 (td)) 1 (zI ((-1)))) 1 (zI (w))) ((sh_T0).trans rfl) hW
  obtain ⟨M3, hM3⟩ : ∃ x9c : Nat → Nat → Int32, x9c = va_up M2 (66 + 6 * nx) (upd (upd (upd (M (66 + 6 * nx)) 0 (td)) 1 (zI ((-1)))) 1 (zI (w))) := ⟨_, rfl⟩
  have hW : cw g ad P M3 H := by rw [hM3]; exact hW
  have hex : ∀ j : Nat, ¬ j = 66 + 6 * nx → ¬ j = 66 + 6 * nx + (2 + 0) → ¬ j = 66 + 6 * nx + (2 + 1) → ¬ j = 66 + 6 * nx + (2 + 2) → ¬ j = 66 + 6 * nx + (2 + 3) → ¬ j = 6 → M3 j = M j := fun j q0 q1 q2 q3 q4 q5 => ((congrFun hM3 j).trans (up_ne _ _ q0)).trans (hex j q0 q1 q2 q3 q4 q5)
  have r_66_6_nx_2_0 : M3 (66 + 6 * nx + (2 + 0)) = M (46 + 5 * 0 + 4) := ((congrFun hM3 (66 + 6 * nx + (2 + 0))).trans (up_ne _ _ (by omega))).trans r_66_6_nx_2_0
  have r_66_6_nx_2_1 : M3 (66 + 6 * nx + (2 + 1)) = M (46 + 5 * 1 + 4) := ((congrFun hM3 (66 + 6 * nx + (2 + 1))).trans (up_ne _ _ (by omega))).trans r_66_6_nx_2_1
  have r_66_6_nx_2_2 : M3 (66 + 6 * nx + (2 + 2)) = M (46 + 5 * 2 + 4) := ((congrFun hM3 (66 + 6 * nx + (2 + 2))).trans (up_ne _ _ (by omega))).trans r_66_6_nx_2_2
  have r_66_6_nx_2_3 : M3 (66 + 6 * nx + (2 + 3)) = M (46 + 5 * 3 + 4) := ((congrFun hM3 (66 + 6 * nx + (2 + 3))).trans (up_ne _ _ (by omega))).trans r_66_6_nx_2_3
  have r_6 : M3 (6) = upd (upd (M 6) 0 (zI ((((nx + 1) % 10 : Nat)) : Int))) 1 (zI (((min (cn + 1) 10 : Nat)) : Int)) := ((congrFun hM3 (6)).trans (up_ne _ _ (by omega))).trans r_6
  have r_66_6_nx : M3 (66 + 6 * nx) = upd (upd (upd (M (66 + 6 * nx)) 0 (td)) 1 (zI ((-1)))) 1 (zI (w)) := ((congrFun hM3 _).trans (up_at _ _ _))
  refine lv_aload hx hb dX1_rememberDay_14 (lv_at hl 0 rfl) ?_
  refine lv_iload hx hb dX1_rememberDay_16 (lv_at hl 5 rfl) ?_
  refine y_put (ci := 4) (v := .int (zI (d))) (ty := .int) (C := RX4) (T := TX4) (N := 6) hx hb hts hinX4 tyX4 tyX4_ok nmX4 hown hK hW hd9 hS (66 + 6 * nx) (show 66 + 6 * nx < 126 by omega) (lcE r_66_6_nx sh_T0) rfl 2 (by decide) k57 (fun _ h9 => h9) rfl (by decide +kernel) rfl rfl (Nat.le_of_ble_eq_true rfl) dX1_rememberDay_18 (fun H locs hW hS => ?_)
  have hW := cw_up (P := P) (M := M3) (f := upd (upd (upd (upd (M (66 + 6 * nx)) 0 (td)) 1 (zI ((-1)))) 1 (zI (w))) 2 (zI (d))) ((sh_T0).trans rfl) hW
  obtain ⟨M4, hM4⟩ : ∃ x9c : Nat → Nat → Int32, x9c = va_up M3 (66 + 6 * nx) (upd (upd (upd (upd (M (66 + 6 * nx)) 0 (td)) 1 (zI ((-1)))) 1 (zI (w))) 2 (zI (d))) := ⟨_, rfl⟩
  have hW : cw g ad P M4 H := by rw [hM4]; exact hW
  have hex : ∀ j : Nat, ¬ j = 66 + 6 * nx → ¬ j = 66 + 6 * nx + (2 + 0) → ¬ j = 66 + 6 * nx + (2 + 1) → ¬ j = 66 + 6 * nx + (2 + 2) → ¬ j = 66 + 6 * nx + (2 + 3) → ¬ j = 6 → M4 j = M j := fun j q0 q1 q2 q3 q4 q5 => ((congrFun hM4 j).trans (up_ne _ _ q0)).trans (hex j q0 q1 q2 q3 q4 q5)
  have r_66_6_nx_2_0 : M4 (66 + 6 * nx + (2 + 0)) = M (46 + 5 * 0 + 4) := ((congrFun hM4 (66 + 6 * nx + (2 + 0))).trans (up_ne _ _ (by omega))).trans r_66_6_nx_2_0
  have r_66_6_nx_2_1 : M4 (66 + 6 * nx + (2 + 1)) = M (46 + 5 * 1 + 4) := ((congrFun hM4 (66 + 6 * nx + (2 + 1))).trans (up_ne _ _ (by omega))).trans r_66_6_nx_2_1
  have r_66_6_nx_2_2 : M4 (66 + 6 * nx + (2 + 2)) = M (46 + 5 * 2 + 4) := ((congrFun hM4 (66 + 6 * nx + (2 + 2))).trans (up_ne _ _ (by omega))).trans r_66_6_nx_2_2
  have r_66_6_nx_2_3 : M4 (66 + 6 * nx + (2 + 3)) = M (46 + 5 * 3 + 4) := ((congrFun hM4 (66 + 6 * nx + (2 + 3))).trans (up_ne _ _ (by omega))).trans r_66_6_nx_2_3
  have r_6 : M4 (6) = upd (upd (M 6) 0 (zI ((((nx + 1) % 10 : Nat)) : Int))) 1 (zI (((min (cn + 1) 10 : Nat)) : Int)) := ((congrFun hM4 (6)).trans (up_ne _ _ (by omega))).trans r_6
  have r_66_6_nx : M4 (66 + 6 * nx) = upd (upd (upd (upd (M (66 + 6 * nx)) 0 (td)) 1 (zI ((-1)))) 1 (zI (w))) 2 (zI (d)) := ((congrFun hM4 _).trans (up_at _ _ _))
  refine lv_aload hx hb dX1_rememberDay_21 (lv_at hl 0 rfl) ?_
  refine lv_aload_n hx hb dX1_rememberDay_23 rfl (lv_at hl 3 rfl) ?_
  refine lv_iload_n hx hb dX1_rememberDay_24 rfl (lv_at hl 4 rfl) ?_
  have r_5 : M4 (5) = M 5 := hex (5) (by omega) (by omega) (by omega) (by omega) (by omega) (by omega)
  refine z_aald hx hb hK (hb1 hW (show 5 < 126 by omega) (lcE r_5 sh_5)) 0 4 rfl rfl rfl (by decide) (w) (by omega) (by omega) rfl dX1_rememberDay_25 ?_
  have r_46_5_w : M4 (46 + 5 * w) = M (46 + 5 * w) := hex (46 + 5 * w) (by omega) (by omega) (by omega) (by omega) (by omega) (by omega)
  refine va_get (D := g.1) (ci := 3) (v := .ref ((ad (46 + 5 * w + 1)))) (C := RX3) (T := TX3) (N := 7) hx hb hts hinX3 hown hK (hb1 hW (show 46 + 5 * w < 126 by omega) (lcE r_46_5_w (sh_S0 (w := w) (by omega)))) 0 rfl rfl 0 (by decide) k60 (fun _ h9 => h9) rfl dX1_rememberDay_26 ?_
  refine lv_iload hx hb dX1_rememberDay_29 (lv_at hl 5 rfl) ?_
  have r_46_5_w_1 : M4 (46 + 5 * w + 1) = M (46 + 5 * w + 1) := hex (46 + 5 * w + 1) (by omega) (by omega) (by omega) (by omega) (by omega) (by omega)
  refine z_iald hx hb hK (hb1 hW (show 46 + 5 * w + 1 < 126 by omega) (lcE r_46_5_w_1 (sh_S1 (w := w) (by omega)))) 0 0 rfl rfl (by decide) (d) (by omega) (by omega) dX1_rememberDay_31 ?_
  refine y_put (ci := 4) (v := .int ((M (46 + 5 * w + 1)) d)) (ty := .int) (C := RX4) (T := TX4) (N := 6) hx hb hts hinX4 tyX4 tyX4_ok nmX4 hown hK hW hd9 hS (66 + 6 * nx) (show 66 + 6 * nx < 126 by omega) (lcE r_66_6_nx sh_T0) rfl 3 (by decide) k64 (fun _ h9 => h9) rfl (by decide +kernel) rfl rfl (Nat.le_of_ble_eq_true rfl) dX1_rememberDay_32 (fun H locs hW hS => ?_)
  have hW := cw_up (P := P) (M := M4) (f := upd (upd (upd (upd (upd (M (66 + 6 * nx)) 0 (td)) 1 (zI ((-1)))) 1 (zI (w))) 2 (zI (d))) 3 ((M (46 + 5 * w + 1)) d)) ((sh_T0).trans rfl) hW
  obtain ⟨M5, hM5⟩ : ∃ x9c : Nat → Nat → Int32, x9c = va_up M4 (66 + 6 * nx) (upd (upd (upd (upd (upd (M (66 + 6 * nx)) 0 (td)) 1 (zI ((-1)))) 1 (zI (w))) 2 (zI (d))) 3 ((M (46 + 5 * w + 1)) d)) := ⟨_, rfl⟩
  have hW : cw g ad P M5 H := by rw [hM5]; exact hW
  have hex : ∀ j : Nat, ¬ j = 66 + 6 * nx → ¬ j = 66 + 6 * nx + (2 + 0) → ¬ j = 66 + 6 * nx + (2 + 1) → ¬ j = 66 + 6 * nx + (2 + 2) → ¬ j = 66 + 6 * nx + (2 + 3) → ¬ j = 6 → M5 j = M j := fun j q0 q1 q2 q3 q4 q5 => ((congrFun hM5 j).trans (up_ne _ _ q0)).trans (hex j q0 q1 q2 q3 q4 q5)
  have r_66_6_nx_2_0 : M5 (66 + 6 * nx + (2 + 0)) = M (46 + 5 * 0 + 4) := ((congrFun hM5 (66 + 6 * nx + (2 + 0))).trans (up_ne _ _ (by omega))).trans r_66_6_nx_2_0
  have r_66_6_nx_2_1 : M5 (66 + 6 * nx + (2 + 1)) = M (46 + 5 * 1 + 4) := ((congrFun hM5 (66 + 6 * nx + (2 + 1))).trans (up_ne _ _ (by omega))).trans r_66_6_nx_2_1
  have r_66_6_nx_2_2 : M5 (66 + 6 * nx + (2 + 2)) = M (46 + 5 * 2 + 4) := ((congrFun hM5 (66 + 6 * nx + (2 + 2))).trans (up_ne _ _ (by omega))).trans r_66_6_nx_2_2
  have r_66_6_nx_2_3 : M5 (66 + 6 * nx + (2 + 3)) = M (46 + 5 * 3 + 4) := ((congrFun hM5 (66 + 6 * nx + (2 + 3))).trans (up_ne _ _ (by omega))).trans r_66_6_nx_2_3
  have r_6 : M5 (6) = upd (upd (M 6) 0 (zI ((((nx + 1) % 10 : Nat)) : Int))) 1 (zI (((min (cn + 1) 10 : Nat)) : Int)) := ((congrFun hM5 (6)).trans (up_ne _ _ (by omega))).trans r_6
  have r_5 : M5 (5) = M 5 := ((congrFun hM5 (5)).trans (up_ne _ _ (by omega))).trans r_5
  have r_46_5_w : M5 (46 + 5 * w) = M (46 + 5 * w) := ((congrFun hM5 (46 + 5 * w)).trans (up_ne _ _ (by omega))).trans r_46_5_w
  have r_46_5_w_1 : M5 (46 + 5 * w + 1) = M (46 + 5 * w + 1) := ((congrFun hM5 (46 + 5 * w + 1)).trans (up_ne _ _ (by omega))).trans r_46_5_w_1
  have r_66_6_nx : M5 (66 + 6 * nx) = upd (upd (upd (upd (upd (M (66 + 6 * nx)) 0 (td)) 1 (zI ((-1)))) 1 (zI (w))) 2 (zI (d))) 3 ((M (46 + 5 * w + 1)) d) := ((congrFun hM5 _).trans (up_at _ _ _))
  refine lv_aload hx hb dX1_rememberDay_35 (lv_at hl 0 rfl) ?_
  refine lv_aload_n hx hb dX1_rememberDay_37 rfl (lv_at hl 3 rfl) ?_
  refine lv_iload_n hx hb dX1_rememberDay_38 rfl (lv_at hl 4 rfl) ?_
  refine z_aald hx hb hK (hb1 hW (show 5 < 126 by omega) (lcE r_5 sh_5)) 0 4 rfl rfl rfl (by decide) (w) (by omega) (by omega) rfl dX1_rememberDay_39 ?_
  refine va_get (D := g.1) (ci := 3) (v := .ref ((ad (46 + 5 * w + 2)))) (C := RX3) (T := TX3) (N := 7) hx hb hts hinX3 hown hK (hb1 hW (show 46 + 5 * w < 126 by omega) (lcE r_46_5_w (sh_S0 (w := w) (by omega)))) 0 rfl rfl 1 (by decide) k66 (fun _ h9 => h9) rfl dX1_rememberDay_40 ?_
  refine lv_iload hx hb dX1_rememberDay_43 (lv_at hl 5 rfl) ?_
  have r_46_5_w_2 : M5 (46 + 5 * w + 2) = M (46 + 5 * w + 2) := hex (46 + 5 * w + 2) (by omega) (by omega) (by omega) (by omega) (by omega) (by omega)
  refine z_iald hx hb hK (hb1 hW (show 46 + 5 * w + 2 < 126 by omega) (lcE r_46_5_w_2 (sh_S2 (w := w) (by omega)))) 0 0 rfl rfl (by decide) (d) (by omega) (by omega) dX1_rememberDay_45 ?_
  refine y_put (ci := 4) (v := .int ((M (46 + 5 * w + 2)) d)) (ty := .int) (C := RX4) (T := TX4) (N := 6) hx hb hts hinX4 tyX4 tyX4_ok nmX4 hown hK hW hd9 hS (66 + 6 * nx) (show 66 + 6 * nx < 126 by omega) (lcE r_66_6_nx sh_T0) rfl 4 (by decide) k69 (fun _ h9 => h9) rfl (by decide +kernel) rfl rfl (Nat.le_of_ble_eq_true rfl) dX1_rememberDay_46 (fun H locs hW hS => ?_)
  have hW := cw_up (P := P) (M := M5) (f := upd (upd (upd (upd (upd (upd (M (66 + 6 * nx)) 0 (td)) 1 (zI ((-1)))) 1 (zI (w))) 2 (zI (d))) 3 ((M (46 + 5 * w + 1)) d)) 4 ((M (46 + 5 * w + 2)) d)) ((sh_T0).trans rfl) hW
  obtain ⟨M6, hM6⟩ : ∃ x9c : Nat → Nat → Int32, x9c = va_up M5 (66 + 6 * nx) (upd (upd (upd (upd (upd (upd (M (66 + 6 * nx)) 0 (td)) 1 (zI ((-1)))) 1 (zI (w))) 2 (zI (d))) 3 ((M (46 + 5 * w + 1)) d)) 4 ((M (46 + 5 * w + 2)) d)) := ⟨_, rfl⟩
  have hW : cw g ad P M6 H := by rw [hM6]; exact hW
  have hex : ∀ j : Nat, ¬ j = 66 + 6 * nx → ¬ j = 66 + 6 * nx + (2 + 0) → ¬ j = 66 + 6 * nx + (2 + 1) → ¬ j = 66 + 6 * nx + (2 + 2) → ¬ j = 66 + 6 * nx + (2 + 3) → ¬ j = 6 → M6 j = M j := fun j q0 q1 q2 q3 q4 q5 => ((congrFun hM6 j).trans (up_ne _ _ q0)).trans (hex j q0 q1 q2 q3 q4 q5)
  have r_66_6_nx_2_0 : M6 (66 + 6 * nx + (2 + 0)) = M (46 + 5 * 0 + 4) := ((congrFun hM6 (66 + 6 * nx + (2 + 0))).trans (up_ne _ _ (by omega))).trans r_66_6_nx_2_0
  have r_66_6_nx_2_1 : M6 (66 + 6 * nx + (2 + 1)) = M (46 + 5 * 1 + 4) := ((congrFun hM6 (66 + 6 * nx + (2 + 1))).trans (up_ne _ _ (by omega))).trans r_66_6_nx_2_1
  have r_66_6_nx_2_2 : M6 (66 + 6 * nx + (2 + 2)) = M (46 + 5 * 2 + 4) := ((congrFun hM6 (66 + 6 * nx + (2 + 2))).trans (up_ne _ _ (by omega))).trans r_66_6_nx_2_2
  have r_66_6_nx_2_3 : M6 (66 + 6 * nx + (2 + 3)) = M (46 + 5 * 3 + 4) := ((congrFun hM6 (66 + 6 * nx + (2 + 3))).trans (up_ne _ _ (by omega))).trans r_66_6_nx_2_3
  have r_6 : M6 (6) = upd (upd (M 6) 0 (zI ((((nx + 1) % 10 : Nat)) : Int))) 1 (zI (((min (cn + 1) 10 : Nat)) : Int)) := ((congrFun hM6 (6)).trans (up_ne _ _ (by omega))).trans r_6
  have r_5 : M6 (5) = M 5 := ((congrFun hM6 (5)).trans (up_ne _ _ (by omega))).trans r_5
  have r_46_5_w : M6 (46 + 5 * w) = M (46 + 5 * w) := ((congrFun hM6 (46 + 5 * w)).trans (up_ne _ _ (by omega))).trans r_46_5_w
  have r_46_5_w_1 : M6 (46 + 5 * w + 1) = M (46 + 5 * w + 1) := ((congrFun hM6 (46 + 5 * w + 1)).trans (up_ne _ _ (by omega))).trans r_46_5_w_1
  have r_46_5_w_2 : M6 (46 + 5 * w + 2) = M (46 + 5 * w + 2) := ((congrFun hM6 (46 + 5 * w + 2)).trans (up_ne _ _ (by omega))).trans r_46_5_w_2
  have r_66_6_nx : M6 (66 + 6 * nx) = upd (upd (upd (upd (upd (upd (M (66 + 6 * nx)) 0 (td)) 1 (zI ((-1)))) 1 (zI (w))) 2 (zI (d))) 3 ((M (46 + 5 * w + 1)) d)) 4 ((M (46 + 5 * w + 2)) d) := ((congrFun hM6 _).trans (up_at _ _ _))
  have hW : cw g ad P (va_up (va_up (va_up (va_up (va_up (va_up M (66 + 6 * nx) (upd (upd (upd (upd (upd (upd (M (66 + 6 * nx)) 0 (td)) 1 (zI ((-1)))) 1 (zI (w))) 2 (zI (d))) 3 (M (46 + 5 * w + 1) d)) 4 (M (46 + 5 * w + 2) d))) (66 + 6 * nx + (2 + 0)) (M (46 + 5 * 0 + 4))) (66 + 6 * nx + (2 + 1)) (M (46 + 5 * 1 + 4))) (66 + 6 * nx + (2 + 2)) (M (46 + 5 * 2 + 4))) (66 + 6 * nx + (2 + 3)) (M (46 + 5 * 3 + 4))) (6) (upd (upd (M 6) 0 (zI ((((nx + 1) % 10 : Nat)) : Int))) 1 (zI (((min (cn + 1) 10 : Nat)) : Int)))) H := by
    have e9 : M6 = va_up (va_up (va_up (va_up (va_up (va_up M (66 + 6 * nx) (upd (upd (upd (upd (upd (upd (M (66 + 6 * nx)) 0 (td)) 1 (zI ((-1)))) 1 (zI (w))) 2 (zI (d))) 3 (M (46 + 5 * w + 1) d)) 4 (M (46 + 5 * w + 2) d))) (66 + 6 * nx + (2 + 0)) (M (46 + 5 * 0 + 4))) (66 + 6 * nx + (2 + 1)) (M (46 + 5 * 1 + 4))) (66 + 6 * nx + (2 + 2)) (M (46 + 5 * 2 + 4))) (66 + 6 * nx + (2 + 3)) (M (46 + 5 * 3 + 4))) (6) (upd (upd (M 6) 0 (zI ((((nx + 1) % 10 : Nat)) : Int))) 1 (zI (((min (cn + 1) 10 : Nat)) : Int))) := by
      funext i9
      by_cases q0 : i9 = 66 + 6 * nx
      · rw [q0]; exact (r_66_6_nx).trans ((up_ne _ _ (by omega)).trans ((up_ne _ _ (by omega)).trans ((up_ne _ _ (by omega)).trans ((up_ne _ _ (by omega)).trans ((up_ne _ _ (by omega)).trans (up_at _ _ _)))))).symm
      by_cases q1 : i9 = 66 + 6 * nx + (2 + 0)
      · rw [q1]; exact (r_66_6_nx_2_0).trans ((up_ne _ _ (by omega)).trans ((up_ne _ _ (by omega)).trans ((up_ne _ _ (by omega)).trans ((up_ne _ _ (by omega)).trans (up_at _ _ _))))).symm
      by_cases q2 : i9 = 66 + 6 * nx + (2 + 1)
      · rw [q2]; exact (r_66_6_nx_2_1).trans ((up_ne _ _ (by omega)).trans ((up_ne _ _ (by omega)).trans ((up_ne _ _ (by omega)).trans (up_at _ _ _)))).symm
      by_cases q3 : i9 = 66 + 6 * nx + (2 + 2)
      · rw [q3]; exact (r_66_6_nx_2_2).trans ((up_ne _ _ (by omega)).trans ((up_ne _ _ (by omega)).trans (up_at _ _ _))).symm
      by_cases q4 : i9 = 66 + 6 * nx + (2 + 3)
      · rw [q4]; exact (r_66_6_nx_2_3).trans ((up_ne _ _ (by omega)).trans (up_at _ _ _)).symm
      by_cases q5 : i9 = 6
      · rw [q5]; exact (r_6).trans (up_at _ _ _).symm
      exact (hex i9 q0 q1 q2 q3 q4 q5).trans ((up_ne _ _ q5).trans ((up_ne _ _ q4).trans ((up_ne _ _ q3).trans ((up_ne _ _ q2).trans ((up_ne _ _ q1).trans (up_ne _ _ q0)))))).symm
    rw [← e9]; exact hW
  exact W.vret hx hb hr (fun tX htX hWX => ⟨⟨(), rfl, trivial, g_at htX hW⟩, hS.F htX⟩) hS.2.2 dX1_rememberDay_49

set_option maxHeartbeats 4000000 in
set_option maxRecDepth 100000 in
theorem c_X1_takeBack (l : Launch) (g : GG) (ad : Nat → Nat) (hd9 : hD ad) (P : Nat → Nat) (M : Nat → Nat → Int32) (kk : KK) (nx cn jx : Nat) (hnx : nx < 10) (hjx : jx = (nx + 9) % 10) (hn6 : M 6 0 = zI nx) (hcn : 1 ≤ cn) (hcm : cn ≤ 10) (hc6 : M 6 1 = zI cn) (t : Nat) (ht : t ≤ 364) (h0 : M (66 + 6 * jx) 0 = zI t) (w d : Nat) (hw : w < 4) (hd : d < 364) (h1 : M (66 + 6 * jx) 1 = zI (-1) ∨ (M (66 + 6 * jx) 1 = zI w ∧ M (66 + 6 * jx) 2 = zI d)) : Met l yX1_takeBack wsX1_takeBack ({ frames := 1, cells := 0, slots := 0, locals := 21 }) (gkPc g kk ad [.ref ((ad 6)), .ref ((ad 5))] (cw g ad P M)) (va_Qi (fun (r : Int32) (u : Unit) => r = zI (t)) (fun (u : Unit) (tS : State) => cw g ad P (tkM M jx cn) tS.heap) (hbA ad)) 0 0 (hbA ad) := by
  refine Met.ofW (cc := cX1_takeBack) (maxL := 4) (ret := (some .int)) (by decide) rfl ?_
  intro p e s m args below meth c s₁ B hml hv
  obtain ⟨rfl, hW, hK, hC⟩ := hv
  have hx := B.exec
  have hb := B.bytes
  have hr := B.returns
  have hts := atoms_spec (ws := wsX1_takeBack) B.pre
  have hown : s.vm.findClass RX1 = some m.cls := findClass_of_methodNamed B.named
  have hlocks := B.notSynchronized
  have hinX1 : ∀ w ∈ wsX10, w ∈ wsX1_takeBack := by decide +kernel
  have hinX3 : ∀ w ∈ wsX30, w ∈ wsX1_takeBack := by decide +kernel
  have hinX4 : ∀ w ∈ wsX40, w ∈ wsX1_takeBack := by decide +kernel
  have k18 := hts (.fieldLink RX1 18 "HoursBank$History" "next" "I") (by decide +kernel)
  have k44 := hts (.fieldLink RX1 44 "HoursBank$History" "count" "I") (by decide +kernel)
  have k13 := hts (.fieldLink RX1 13 "HoursBank$History" "steps" "[LHoursBank$Step;") (by decide +kernel)
  have k32 := hts (.fieldLink RX1 32 "HoursBank$Sheet" "account" "LHoursBank$Account;") (by decide +kernel)
  have k28 := hts (.fieldLink RX1 28 "HoursBank$Step" "accounts" "[LHoursBank$Account;") (by decide +kernel)
  have k22 := hts (.fieldLink RX1 22 "HoursBank$Step" "today" "I") (by decide +kernel)
  have kIni := hts (.initialized RX8) (by decide +kernel)
  have kSta := hts (.static yX8_isDay) (by decide +kernel)
  have k25 := hts (.fieldLink RX1 25 "HoursBank$Step" "worker" "I") (by decide +kernel)
  have k60 := hts (.fieldLink RX1 60 "HoursBank$Sheet" "changed" "[I") (by decide +kernel)
  have k57 := hts (.fieldLink RX1 57 "HoursBank$Step" "day" "I") (by decide +kernel)
  have k64 := hts (.fieldLink RX1 64 "HoursBank$Step" "changed" "I") (by decide +kernel)
  have k66 := hts (.fieldLink RX1 66 "HoursBank$Sheet" "told" "[I") (by decide +kernel)
  have k69 := hts (.fieldLink RX1 69 "HoursBank$Step" "told" "I") (by decide +kernel)
  have k75 := hts (.fieldLink RX1 75 "HoursBank$Sheet" "flagged" "[Z") (by decide +kernel)
  have hl := lv_entry ([.ref ((ad 6)), .ref ((ad 5))]) (n := 4) (Nat.le_of_ble_eq_true rfl)
  rw [lg_entry_eq]
  generalize (lg_sl ([.ref ((ad 6)), .ref ((ad 5))]) ++ List.replicate (4 - (lg_sl ([.ref ((ad 6)), .ref ((ad 5))])).length) Slot.unset).toArray = ls at hl ⊢
  have hl : lv_has ls 4 [(0, .ref ((ad 6))), (1, .ref ((ad 5)))] := hl
  have hS : va_S (hbA ad) s.heap s.heap [] := va_S.rf
  obtain ⟨H, hH9⟩ : ∃ H, H = s.heap := ⟨_, rfl⟩
  obtain ⟨locs, hL9⟩ : ∃ x9l : List Loc, x9l = [] := ⟨_, rfl⟩
  have hW : cw g ad P M H := hH9 ▸ hW
  have hS : va_S (hbA ad) s.heap H locs := by rw [hH9, hL9]; exact hS
  refine z_start hH9 hL9 ?_
  clear hH9 hL9
  have hex : ∀ j : Nat, M j = M j := fun _ => rfl
  refine lv_aload_n hx hb dX1_takeBack_0 rfl (lv_at hl 0 rfl) ?_
  refine lv_aload_n hx hb dX1_takeBack_1 rfl (lv_at hl 0 rfl) ?_
  have r_6 : M (6) = M 6 := hex (6) 
  refine va_get (D := g.1) (ci := 1) (v := .int ((M 6) 0)) (C := RX1) (T := TX1) (N := 3) hx hb hts hinX1 hown hK (hb1 hW (show 6 < 126 by omega) (lcE r_6 sh_6)) 0 rfl rfl 1 (by decide) k18 (fun _ h9 => h9) rfl dX1_takeBack_2 ?_
  refine z_top (y := zI (nx)) (hn6) ?_
  refine lv_bipush (v := zI (10)) hx hb dX1_takeBack_5 (by decide) ?_
  refine z_iadd hx hb dX1_takeBack_7 ?_
  refine lv_iconst (v := zI (1)) hx hb dX1_takeBack_8 (by decide) ?_
  refine z_isub hx hb dX1_takeBack_9 ?_
  refine lv_bipush (v := zI (10)) hx hb dX1_takeBack_10 (by decide) ?_
  refine z_irem hx hb dX1_takeBack_12 (by omega) (by omega) ?_
  refine z_top (y := zI ((jx : Int))) (congrArg zI (by omega)) ?_
  refine y_put (ci := 1) (v := .int (zI ((jx : Int)))) (ty := .int) (C := RX1) (T := TX1) (N := 3) hx hb hts hinX1 tyX1 tyX1_ok nmX1 hown hK hW hd9 hS (6) (show 6 < 126 by omega) (lcE r_6 sh_6) rfl 1 (by decide) k18 (fun _ h9 => h9) rfl (by decide +kernel) rfl rfl (Nat.le_of_ble_eq_true rfl) dX1_takeBack_13 (fun H locs hW hS => ?_)
  have hW := cw_up (P := P) (M := M) (f := upd (M 6) 0 (zI ((jx : Int)))) ((sh_6).trans rfl) hW
  obtain ⟨M1, hM1⟩ : ∃ x9c : Nat → Nat → Int32, x9c = va_up M (6) (upd (M 6) 0 (zI ((jx : Int)))) := ⟨_, rfl⟩
  have hW : cw g ad P M1 H := by rw [hM1]; exact hW
  have hex : ∀ j : Nat, ¬ j = 6 → M1 j = M j := fun j q0 => ((congrFun hM1 j).trans (up_ne _ _ q0)).trans (hex j )
  have r_6 : M1 (6) = upd (M 6) 0 (zI ((jx : Int))) := ((congrFun hM1 _).trans (up_at _ _ _))
  refine lv_aload_n hx hb dX1_takeBack_16 rfl (lv_at hl 0 rfl) ?_
  refine lv_dup hx hb dX1_takeBack_17 rfl ?_
  refine va_get (D := g.1) (ci := 1) (v := .int ((M 6) 1)) (C := RX1) (T := TX1) (N := 3) hx hb hts hinX1 hown hK (hb1 hW (show 6 < 126 by omega) (lcE r_6 sh_6)) 0 rfl rfl 2 (by decide) k44 (fun _ h9 => h9) rfl dX1_takeBack_18 ?_
  refine z_top (y := zI (cn)) (hc6) ?_
  refine lv_iconst (v := zI (1)) hx hb dX1_takeBack_21 (by decide) ?_
  refine z_isub hx hb dX1_takeBack_22 ?_
  refine z_top (y := zI ((cn : Int) - 1)) (congrArg zI (by omega)) ?_
  refine y_put (ci := 1) (v := .int (zI ((cn : Int) - 1))) (ty := .int) (C := RX1) (T := TX1) (N := 3) hx hb hts hinX1 tyX1 tyX1_ok nmX1 hown hK hW hd9 hS (6) (show 6 < 126 by omega) (lcE r_6 sh_6) rfl 2 (by decide) k44 (fun _ h9 => h9) rfl (by decide +kernel) rfl rfl (Nat.le_of_ble_eq_true rfl) dX1_takeBack_23 (fun H locs hW hS => ?_)
  have hW := cw_up (P := P) (M := M1) (f := upd (upd (M 6) 0 (zI ((jx : Int)))) 1 (zI ((cn : Int) - 1))) ((sh_6).trans rfl) hW
  obtain ⟨M2, hM2⟩ : ∃ x9c : Nat → Nat → Int32, x9c = va_up M1 (6) (upd (upd (M 6) 0 (zI ((jx : Int)))) 1 (zI ((cn : Int) - 1))) := ⟨_, rfl⟩
  have hW : cw g ad P M2 H := by rw [hM2]; exact hW
  have hex : ∀ j : Nat, ¬ j = 6 → M2 j = M j := fun j q0 => ((congrFun hM2 j).trans (up_ne _ _ q0)).trans (hex j q0)
  have r_6 : M2 (6) = upd (upd (M 6) 0 (zI ((jx : Int)))) 1 (zI ((cn : Int) - 1)) := ((congrFun hM2 _).trans (up_at _ _ _))
  refine lv_aload_n hx hb dX1_takeBack_26 rfl (lv_at hl 0 rfl) ?_
  refine va_get (D := g.1) (ci := 1) (v := .ref ((ad 7))) (C := RX1) (T := TX1) (N := 3) hx hb hts hinX1 hown hK (hb1 hW (show 6 < 126 by omega) (lcE r_6 sh_6)) 0 rfl rfl 0 (by decide) k13 (fun _ h9 => h9) rfl dX1_takeBack_27 ?_
  refine lv_aload_n hx hb dX1_takeBack_30 rfl (lv_at hl 0 rfl) ?_
  refine va_get (D := g.1) (ci := 1) (v := .int (zI ((jx : Int)))) (C := RX1) (T := TX1) (N := 3) hx hb hts hinX1 hown hK (hb1 hW (show 6 < 126 by omega) (lcE r_6 sh_6)) 0 rfl rfl 1 (by decide) k18 (fun _ h9 => h9) rfl dX1_takeBack_31 ?_
  have r_7 : M2 (7) = M 7 := hex (7) (by omega)
  refine z_aald hx hb hK (hb1 hW (show 7 < 126 by omega) (lcE r_7 sh_7)) 0 5 rfl rfl rfl (by decide) (jx) (by omega) (by omega) rfl dX1_takeBack_34 ?_
  refine lv_astore_n (lv' := [(2, .ref ((ad (66 + 6 * jx)))), (0, .ref ((ad 6))), (1, .ref ((ad 5)))]) hx hb dX1_takeBack_35 rfl hl (by decide) rfl (fun ls hl => ?_)
  refine lv_iconst (v := zI (0)) hx hb dX1_takeBack_36 (by decide) ?_
  refine lv_istore_n (lv' := [(3, .int (zI (0))), (2, .ref ((ad (66 + 6 * jx)))), (0, .ref ((ad 6))), (1, .ref ((ad 5)))]) hx hb dX1_takeBack_37 rfl hl (by decide) rfl (fun ls hl => ?_)
  refine lv_iload_n hx hb dX1_takeBack_38 rfl (lv_at hl 0 rfl) ?_
  refine lv_iconst (v := zI (4)) hx hb dX1_takeBack_39 (by decide) ?_
  refine z_icmp_ge (tgt := 86) hx hb dX1_takeBack_40 (by decide) (by omega) (by omega) (fun h40 => ?_) (fun h40 => ?_)
  · exfalso; omega
  · refine lv_aload_n hx hb dX1_takeBack_43 rfl (lv_at hl 3 rfl) ?_
    refine lv_iload_n hx hb dX1_takeBack_44 rfl (lv_at hl 0 rfl) ?_
    have r_5 : M2 (5) = M 5 := hex (5) (by omega)
    refine z_aald hx hb hK (hb1 hW (show 5 < 126 by omega) (lcE r_5 sh_5)) 0 4 rfl rfl rfl (by decide) (0) (by omega) (by omega) rfl dX1_takeBack_45 ?_
    have r_46_5_0 : M2 (46 + 5 * 0) = M (46 + 5 * 0) := hex (46 + 5 * 0) (by omega)
    refine va_get (D := g.1) (ci := 3) (v := .ref ((ad (46 + 5 * 0 + 4)))) (C := RX3) (T := TX3) (N := 7) hx hb hts hinX3 hown hK (hb1 hW (show 46 + 5 * 0 < 126 by omega) (lcE r_46_5_0 (sh_S0 (w := 0) (by omega)))) 0 rfl rfl 3 (by decide) k32 (fun _ h9 => h9) rfl dX1_takeBack_46 ?_
    refine lv_aload_n hx hb dX1_takeBack_49 rfl (lv_at hl 1 rfl) ?_
    have r_66_6_jx : M2 (66 + 6 * jx) = M (66 + 6 * jx) := hex (66 + 6 * jx) (by omega)
    refine va_get (D := g.1) (ci := 4) (v := .ref ((ad (66 + 6 * jx + 1)))) (C := RX4) (T := TX4) (N := 6) hx hb hts hinX4 hown hK (hb1 hW (show 66 + 6 * jx < 126 by omega) (lcE r_66_6_jx sh_T0)) 0 rfl rfl 5 (by decide) k28 (fun _ h9 => h9) rfl dX1_takeBack_50 ?_
    refine lv_iload_n hx hb dX1_takeBack_53 rfl (lv_at hl 0 rfl) ?_
    have r_66_6_jx_1 : M2 (66 + 6 * jx + 1) = M (66 + 6 * jx + 1) := hex (66 + 6 * jx + 1) (by omega)
    refine z_aald hx hb hK (hb1 hW (show 66 + 6 * jx + 1 < 126 by omega) (lcE r_66_6_jx_1 sh_T1)) 0 3 rfl rfl rfl (by decide) (0) (by omega) (by omega) rfl dX1_takeBack_54 ?_
    have r_46_5_0_4 : M2 (46 + 5 * 0 + 4) = M (46 + 5 * 0 + 4) := hex (46 + 5 * 0 + 4) (by omega)
    have r_66_6_jx_2_0 : M2 (66 + 6 * jx + (2 + 0)) = M (66 + 6 * jx + (2 + 0)) := hex (66 + 6 * jx + (2 + 0)) (by omega)
    refine va_callv (va_runV (As := [.ref ((ad (66 + 6 * jx + (2 + 0))))]) (rest := []) ⟨hx, hb, hml, hown, hts⟩ (c_X0_copyFrom l g (ad) (hd9) (lc g ad P M2) (46 + 5 * 0 + 4) (66 + 6 * jx + (2 + 0)) (by omega) (by omega) (by omega) (M (46 + 5 * 0 + 4)) (M (66 + 6 * jx + (2 + 0))) (lcE r_46_5_0_4 (sh_S4 (w := 0) (by omega))) (lcE r_66_6_jx_2_0 (sh_T2 (i := 0) (by omega)))) (cwV 1 hts gX1_takeBack_X0_copyFrom rfl rfl rfl (by decide +kernel) ⟨Nat.le_of_ble_eq_true rfl, Nat.le_of_ble_eq_true rfl⟩) (g_preV hW hK (va_recv hK (hb1 hW (show 46 + 5 * 0 + 4 < 126 by omega) (lcE r_46_5_0_4 (sh_S4 (w := 0) (by omega)))) (q0 := 0) (ci := 0) rfl rfl)) rfl rfl hl.1 rfl (lv_room (Nat.le_of_ble_eq_true rfl)) dX1_takeBack_55 ⟨Nat.le_of_ble_eq_true rfl, Nat.le_of_ble_eq_true rfl⟩) hS (fun q _ h => h) (fun q h => h) (fun c3 t9 H1 locs ht9 hvm9 hw9 hB9 hz9 hk9 hS => ?_)
    rw [ht9] at hB9
    have hW := hB9
    clear hB9 hz9 hk9 hvm9 ht9
    generalize H1 = H at hW hS ⊢
    have hW : hbP g ad c3 H := hW
    try dsimp only at hw9
    have hW : cw g ad P (va_up M2 (46 + 5 * 0 + 4) (M (66 + 6 * jx + (2 + 0)))) H := cw_1 hW hw9.1 (((sh_S4 (w := 0) (by omega))).trans rfl) hw9.2
    obtain ⟨M4, hM4⟩ : ∃ x9c : Nat → Nat → Int32, x9c = va_up M2 (46 + 5 * 0 + 4) (M (66 + 6 * jx + (2 + 0))) := ⟨_, rfl⟩
    have hW : cw g ad P M4 H := by rw [hM4]; exact hW
    have hex : ∀ j : Nat, ¬ j = 6 → ¬ j = 46 + 5 * 0 + 4 → M4 j = M j := fun j q0 q1 => ((congrFun hM4 j).trans (up_ne _ _ q1)).trans (hex j q0)
    have r_6 : M4 (6) = upd (upd (M 6) 0 (zI ((jx : Int)))) 1 (zI ((cn : Int) - 1)) := ((congrFun hM4 (6)).trans (up_ne _ _ (by omega))).trans r_6
    have r_7 : M4 (7) = M 7 := ((congrFun hM4 (7)).trans (up_ne _ _ (by omega))).trans r_7
    have r_5 : M4 (5) = M 5 := ((congrFun hM4 (5)).trans (up_ne _ _ (by omega))).trans r_5
    have r_46_5_0 : M4 (46 + 5 * 0) = M (46 + 5 * 0) := ((congrFun hM4 (46 + 5 * 0)).trans (up_ne _ _ (by omega))).trans r_46_5_0
    have r_66_6_jx : M4 (66 + 6 * jx) = M (66 + 6 * jx) := ((congrFun hM4 (66 + 6 * jx)).trans (up_ne _ _ (by omega))).trans r_66_6_jx
    have r_66_6_jx_1 : M4 (66 + 6 * jx + 1) = M (66 + 6 * jx + 1) := ((congrFun hM4 (66 + 6 * jx + 1)).trans (up_ne _ _ (by omega))).trans r_66_6_jx_1
    have r_66_6_jx_2_0 : M4 (66 + 6 * jx + (2 + 0)) = M (66 + 6 * jx + (2 + 0)) := ((congrFun hM4 (66 + 6 * jx + (2 + 0))).trans (up_ne _ _ (by omega))).trans r_66_6_jx_2_0
    have r_46_5_0_4 : M4 (46 + 5 * 0 + 4) = M (66 + 6 * jx + (2 + 0)) := ((congrFun hM4 _).trans (up_at _ _ _))
    refine lv_aload_n hx hb dX1_takeBack_58 rfl (lv_at hl 1 rfl) ?_
    refine va_get (D := g.1) (ci := 4) (v := .int ((M (66 + 6 * jx)) 0)) (C := RX4) (T := TX4) (N := 6) hx hb hts hinX4 hown hK (hb1 hW (show 66 + 6 * jx < 126 by omega) (lcE r_66_6_jx sh_T0)) 0 rfl rfl 0 (by decide) k22 (fun _ h9 => h9) rfl dX1_takeBack_59 ?_
    refine z_top (y := zI (t)) (h0) ?_
    refine vp_callSi (va_Run.run (va_runSN (As := [.int (zI (t))]) (rest := []) ⟨hx, hb, hml, hown, hts⟩ (c_X8_isDay l (t) (by omega)) ⟨va_cnB 1 hts ggX1_takeBack_X8_isDay rfl rfl rfl hC.1 kIni (by decide +kernel) ⟨Nat.le_of_ble_eq_true rfl, Nat.le_of_ble_eq_true rfl⟩, kSta, trivial⟩ g_preS0 rfl rfl hl.1 rfl (lv_room (Nat.le_of_ble_eq_true rfl)) dX1_takeBack_62 ⟨Nat.le_of_ble_eq_true rfl, Nat.le_of_ble_eq_true rfl⟩)) (fun r hr9 => ?_)
    subst hr9
    refine z_bz_eq (tgt := 80) hx hb dX1_takeBack_65 (by decide) (fun h65 => ?_) (fun h65 => ?_)
    · refine z_iinc (lv' := [(3, .int (zI (0 + 1))), (2, .ref ((ad (66 + 6 * jx)))), (0, .ref ((ad 6))), (1, .ref ((ad 5)))]) hx hb dX1_takeBack_80 hl (k := 0) rfl (by decide) rfl (fun ls hl => ?_)
      refine lv_goto (tgt := 38) hx hb dX1_takeBack_83 (by decide) ?_
      refine lv_iload_n hx hb dX1_takeBack_38 rfl (lv_at hl 0 rfl) ?_
      refine lv_iconst (v := zI (4)) hx hb dX1_takeBack_39 (by decide) ?_
      refine z_icmp_ge (tgt := 86) hx hb dX1_takeBack_40 (by decide) (by omega) (by omega) (fun h40 => ?_) (fun h40 => ?_)
      · exfalso; omega
      · refine lv_aload_n hx hb dX1_takeBack_43 rfl (lv_at hl 3 rfl) ?_
        refine lv_iload_n hx hb dX1_takeBack_44 rfl (lv_at hl 0 rfl) ?_
        refine z_aald hx hb hK (hb1 hW (show 5 < 126 by omega) (lcE r_5 sh_5)) 0 4 rfl rfl rfl (by decide) (1) (by omega) (by omega) rfl dX1_takeBack_45 ?_
        have r_46_5_1 : M4 (46 + 5 * 1) = M (46 + 5 * 1) := hex (46 + 5 * 1) (by omega) (by omega)
        refine va_get (D := g.1) (ci := 3) (v := .ref ((ad (46 + 5 * 1 + 4)))) (C := RX3) (T := TX3) (N := 7) hx hb hts hinX3 hown hK (hb1 hW (show 46 + 5 * 1 < 126 by omega) (lcE r_46_5_1 (sh_S0 (w := 1) (by omega)))) 0 rfl rfl 3 (by decide) k32 (fun _ h9 => h9) rfl dX1_takeBack_46 ?_
        refine lv_aload_n hx hb dX1_takeBack_49 rfl (lv_at hl 1 rfl) ?_
        refine va_get (D := g.1) (ci := 4) (v := .ref ((ad (66 + 6 * jx + 1)))) (C := RX4) (T := TX4) (N := 6) hx hb hts hinX4 hown hK (hb1 hW (show 66 + 6 * jx < 126 by omega) (lcE r_66_6_jx sh_T0)) 0 rfl rfl 5 (by decide) k28 (fun _ h9 => h9) rfl dX1_takeBack_50 ?_
        refine lv_iload_n hx hb dX1_takeBack_53 rfl (lv_at hl 0 rfl) ?_
        refine z_aald hx hb hK (hb1 hW (show 66 + 6 * jx + 1 < 126 by omega) (lcE r_66_6_jx_1 sh_T1)) 0 3 rfl rfl rfl (by decide) (1) (by omega) (by omega) rfl dX1_takeBack_54 ?_
        have r_46_5_1_4 : M4 (46 + 5 * 1 + 4) = M (46 + 5 * 1 + 4) := hex (46 + 5 * 1 + 4) (by omega) (by omega)
        have r_66_6_jx_2_1 : M4 (66 + 6 * jx + (2 + 1)) = M (66 + 6 * jx + (2 + 1)) := hex (66 + 6 * jx + (2 + 1)) (by omega) (by omega)
        refine va_callv (va_runV (As := [.ref ((ad (66 + 6 * jx + (2 + 1))))]) (rest := []) ⟨hx, hb, hml, hown, hts⟩ (c_X0_copyFrom l g (ad) (hd9) (lc g ad P M4) (46 + 5 * 1 + 4) (66 + 6 * jx + (2 + 1)) (by omega) (by omega) (by omega) (M (46 + 5 * 1 + 4)) (M (66 + 6 * jx + (2 + 1))) (lcE r_46_5_1_4 (sh_S4 (w := 1) (by omega))) (lcE r_66_6_jx_2_1 (sh_T2 (i := 1) (by omega)))) (cwV 1 hts gX1_takeBack_X0_copyFrom rfl rfl rfl (by decide +kernel) ⟨Nat.le_of_ble_eq_true rfl, Nat.le_of_ble_eq_true rfl⟩) (g_preV hW hK (va_recv hK (hb1 hW (show 46 + 5 * 1 + 4 < 126 by omega) (lcE r_46_5_1_4 (sh_S4 (w := 1) (by omega)))) (q0 := 0) (ci := 0) rfl rfl)) rfl rfl hl.1 rfl (lv_room (Nat.le_of_ble_eq_true rfl)) dX1_takeBack_55 ⟨Nat.le_of_ble_eq_true rfl, Nat.le_of_ble_eq_true rfl⟩) hS (fun q _ h => h) (fun q h => h) (fun c5 t9 H1 locs ht9 hvm9 hw9 hB9 hz9 hk9 hS => ?_)
        rw [ht9] at hB9
        have hW := hB9
        clear hB9 hz9 hk9 hvm9 ht9
        generalize H1 = H at hW hS ⊢
        have hW : hbP g ad c5 H := hW
        try dsimp only at hw9
        have hW : cw g ad P (va_up M4 (46 + 5 * 1 + 4) (M (66 + 6 * jx + (2 + 1)))) H := cw_1 hW hw9.1 (((sh_S4 (w := 1) (by omega))).trans rfl) hw9.2
        obtain ⟨M6, hM6⟩ : ∃ x9c : Nat → Nat → Int32, x9c = va_up M4 (46 + 5 * 1 + 4) (M (66 + 6 * jx + (2 + 1))) := ⟨_, rfl⟩
        have hW : cw g ad P M6 H := by rw [hM6]; exact hW
        have hex : ∀ j : Nat, ¬ j = 6 → ¬ j = 46 + 5 * 0 + 4 → ¬ j = 46 + 5 * 1 + 4 → M6 j = M j := fun j q0 q1 q2 => ((congrFun hM6 j).trans (up_ne _ _ q2)).trans (hex j q0 q1)
        have r_6 : M6 (6) = upd (upd (M 6) 0 (zI ((jx : Int)))) 1 (zI ((cn : Int) - 1)) := ((congrFun hM6 (6)).trans (up_ne _ _ (by omega))).trans r_6
        have r_7 : M6 (7) = M 7 := ((congrFun hM6 (7)).trans (up_ne _ _ (by omega))).trans r_7
        have r_5 : M6 (5) = M 5 := ((congrFun hM6 (5)).trans (up_ne _ _ (by omega))).trans r_5
        have r_46_5_0 : M6 (46 + 5 * 0) = M (46 + 5 * 0) := ((congrFun hM6 (46 + 5 * 0)).trans (up_ne _ _ (by omega))).trans r_46_5_0
        have r_66_6_jx : M6 (66 + 6 * jx) = M (66 + 6 * jx) := ((congrFun hM6 (66 + 6 * jx)).trans (up_ne _ _ (by omega))).trans r_66_6_jx
        have r_66_6_jx_1 : M6 (66 + 6 * jx + 1) = M (66 + 6 * jx + 1) := ((congrFun hM6 (66 + 6 * jx + 1)).trans (up_ne _ _ (by omega))).trans r_66_6_jx_1
        have r_66_6_jx_2_0 : M6 (66 + 6 * jx + (2 + 0)) = M (66 + 6 * jx + (2 + 0)) := ((congrFun hM6 (66 + 6 * jx + (2 + 0))).trans (up_ne _ _ (by omega))).trans r_66_6_jx_2_0
        have r_46_5_0_4 : M6 (46 + 5 * 0 + 4) = M (66 + 6 * jx + (2 + 0)) := ((congrFun hM6 (46 + 5 * 0 + 4)).trans (up_ne _ _ (by omega))).trans r_46_5_0_4
        have r_46_5_1 : M6 (46 + 5 * 1) = M (46 + 5 * 1) := ((congrFun hM6 (46 + 5 * 1)).trans (up_ne _ _ (by omega))).trans r_46_5_1
        have r_66_6_jx_2_1 : M6 (66 + 6 * jx + (2 + 1)) = M (66 + 6 * jx + (2 + 1)) := ((congrFun hM6 (66 + 6 * jx + (2 + 1))).trans (up_ne _ _ (by omega))).trans r_66_6_jx_2_1
        have r_46_5_1_4 : M6 (46 + 5 * 1 + 4) = M (66 + 6 * jx + (2 + 1)) := ((congrFun hM6 _).trans (up_at _ _ _))
        refine lv_aload_n hx hb dX1_takeBack_58 rfl (lv_at hl 1 rfl) ?_
        refine va_get (D := g.1) (ci := 4) (v := .int ((M (66 + 6 * jx)) 0)) (C := RX4) (T := TX4) (N := 6) hx hb hts hinX4 hown hK (hb1 hW (show 66 + 6 * jx < 126 by omega) (lcE r_66_6_jx sh_T0)) 0 rfl rfl 0 (by decide) k22 (fun _ h9 => h9) rfl dX1_takeBack_59 ?_
        refine z_top (y := zI (t)) (h0) ?_
        refine vp_callSi (va_Run.run (va_runSN (As := [.int (zI (t))]) (rest := []) ⟨hx, hb, hml, hown, hts⟩ (c_X8_isDay l (t) (by omega)) ⟨va_cnB 1 hts ggX1_takeBack_X8_isDay rfl rfl rfl hC.1 kIni (by decide +kernel) ⟨Nat.le_of_ble_eq_true rfl, Nat.le_of_ble_eq_true rfl⟩, kSta, trivial⟩ g_preS0 rfl rfl hl.1 rfl (lv_room (Nat.le_of_ble_eq_true rfl)) dX1_takeBack_62 ⟨Nat.le_of_ble_eq_true rfl, Nat.le_of_ble_eq_true rfl⟩)) (fun r hr9 => ?_)
        subst hr9
        refine z_bz_eq (tgt := 80) hx hb dX1_takeBack_65 (by decide) (fun h65 => ?_) (fun h65 => ?_)
        · refine z_iinc (lv' := [(3, .int (zI ((0 + 1) + 1))), (2, .ref ((ad (66 + 6 * jx)))), (0, .ref ((ad 6))), (1, .ref ((ad 5)))]) hx hb dX1_takeBack_80 hl (k := 0) rfl (by decide) rfl (fun ls hl => ?_)
          refine lv_goto (tgt := 38) hx hb dX1_takeBack_83 (by decide) ?_
          refine lv_iload_n hx hb dX1_takeBack_38 rfl (lv_at hl 0 rfl) ?_
          refine lv_iconst (v := zI (4)) hx hb dX1_takeBack_39 (by decide) ?_
          refine z_icmp_ge (tgt := 86) hx hb dX1_takeBack_40 (by decide) (by omega) (by omega) (fun h40 => ?_) (fun h40 => ?_)
          · exfalso; omega
          · refine lv_aload_n hx hb dX1_takeBack_43 rfl (lv_at hl 3 rfl) ?_
            refine lv_iload_n hx hb dX1_takeBack_44 rfl (lv_at hl 0 rfl) ?_
            refine z_aald hx hb hK (hb1 hW (show 5 < 126 by omega) (lcE r_5 sh_5)) 0 4 rfl rfl rfl (by decide) (2) (by omega) (by omega) rfl dX1_takeBack_45 ?_
            have r_46_5_2 : M6 (46 + 5 * 2) = M (46 + 5 * 2) := hex (46 + 5 * 2) (by omega) (by omega) (by omega)
            refine va_get (D := g.1) (ci := 3) (v := .ref ((ad (46 + 5 * 2 + 4)))) (C := RX3) (T := TX3) (N := 7) hx hb hts hinX3 hown hK (hb1 hW (show 46 + 5 * 2 < 126 by omega) (lcE r_46_5_2 (sh_S0 (w := 2) (by omega)))) 0 rfl rfl 3 (by decide) k32 (fun _ h9 => h9) rfl dX1_takeBack_46 ?_
            refine lv_aload_n hx hb dX1_takeBack_49 rfl (lv_at hl 1 rfl) ?_
            refine va_get (D := g.1) (ci := 4) (v := .ref ((ad (66 + 6 * jx + 1)))) (C := RX4) (T := TX4) (N := 6) hx hb hts hinX4 hown hK (hb1 hW (show 66 + 6 * jx < 126 by omega) (lcE r_66_6_jx sh_T0)) 0 rfl rfl 5 (by decide) k28 (fun _ h9 => h9) rfl dX1_takeBack_50 ?_
            refine lv_iload_n hx hb dX1_takeBack_53 rfl (lv_at hl 0 rfl) ?_
            refine z_aald hx hb hK (hb1 hW (show 66 + 6 * jx + 1 < 126 by omega) (lcE r_66_6_jx_1 sh_T1)) 0 3 rfl rfl rfl (by decide) (2) (by omega) (by omega) rfl dX1_takeBack_54 ?_
            have r_46_5_2_4 : M6 (46 + 5 * 2 + 4) = M (46 + 5 * 2 + 4) := hex (46 + 5 * 2 + 4) (by omega) (by omega) (by omega)
            have r_66_6_jx_2_2 : M6 (66 + 6 * jx + (2 + 2)) = M (66 + 6 * jx + (2 + 2)) := hex (66 + 6 * jx + (2 + 2)) (by omega) (by omega) (by omega)
            refine va_callv (va_runV (As := [.ref ((ad (66 + 6 * jx + (2 + 2))))]) (rest := []) ⟨hx, hb, hml, hown, hts⟩ (c_X0_copyFrom l g (ad) (hd9) (lc g ad P M6) (46 + 5 * 2 + 4) (66 + 6 * jx + (2 + 2)) (by omega) (by omega) (by omega) (M (46 + 5 * 2 + 4)) (M (66 + 6 * jx + (2 + 2))) (lcE r_46_5_2_4 (sh_S4 (w := 2) (by omega))) (lcE r_66_6_jx_2_2 (sh_T2 (i := 2) (by omega)))) (cwV 1 hts gX1_takeBack_X0_copyFrom rfl rfl rfl (by decide +kernel) ⟨Nat.le_of_ble_eq_true rfl, Nat.le_of_ble_eq_true rfl⟩) (g_preV hW hK (va_recv hK (hb1 hW (show 46 + 5 * 2 + 4 < 126 by omega) (lcE r_46_5_2_4 (sh_S4 (w := 2) (by omega)))) (q0 := 0) (ci := 0) rfl rfl)) rfl rfl hl.1 rfl (lv_room (Nat.le_of_ble_eq_true rfl)) dX1_takeBack_55 ⟨Nat.le_of_ble_eq_true rfl, Nat.le_of_ble_eq_true rfl⟩) hS (fun q _ h => h) (fun q h => h) (fun c7 t9 H1 locs ht9 hvm9 hw9 hB9 hz9 hk9 hS => ?_)
            rw [ht9] at hB9
            have hW := hB9
            clear hB9 hz9 hk9 hvm9 ht9
            generalize H1 = H at hW hS ⊢
            have hW : hbP g ad c7 H := hW
            try dsimp only at hw9
            have hW : cw g ad P (va_up M6 (46 + 5 * 2 + 4) (M (66 + 6 * jx + (2 + 2)))) H := cw_1 hW hw9.1 (((sh_S4 (w := 2) (by omega))).trans rfl) hw9.2
            obtain ⟨M8, hM8⟩ : ∃ x9c : Nat → Nat → Int32, x9c = va_up M6 (46 + 5 * 2 + 4) (M (66 + 6 * jx + (2 + 2))) := ⟨_, rfl⟩
            have hW : cw g ad P M8 H := by rw [hM8]; exact hW
            have hex : ∀ j : Nat, ¬ j = 6 → ¬ j = 46 + 5 * 0 + 4 → ¬ j = 46 + 5 * 1 + 4 → ¬ j = 46 + 5 * 2 + 4 → M8 j = M j := fun j q0 q1 q2 q3 => ((congrFun hM8 j).trans (up_ne _ _ q3)).trans (hex j q0 q1 q2)
            have r_6 : M8 (6) = upd (upd (M 6) 0 (zI ((jx : Int)))) 1 (zI ((cn : Int) - 1)) := ((congrFun hM8 (6)).trans (up_ne _ _ (by omega))).trans r_6
            have r_7 : M8 (7) = M 7 := ((congrFun hM8 (7)).trans (up_ne _ _ (by omega))).trans r_7
            have r_5 : M8 (5) = M 5 := ((congrFun hM8 (5)).trans (up_ne _ _ (by omega))).trans r_5
            have r_46_5_0 : M8 (46 + 5 * 0) = M (46 + 5 * 0) := ((congrFun hM8 (46 + 5 * 0)).trans (up_ne _ _ (by omega))).trans r_46_5_0
            have r_66_6_jx : M8 (66 + 6 * jx) = M (66 + 6 * jx) := ((congrFun hM8 (66 + 6 * jx)).trans (up_ne _ _ (by omega))).trans r_66_6_jx
            have r_66_6_jx_1 : M8 (66 + 6 * jx + 1) = M (66 + 6 * jx + 1) := ((congrFun hM8 (66 + 6 * jx + 1)).trans (up_ne _ _ (by omega))).trans r_66_6_jx_1
            have r_66_6_jx_2_0 : M8 (66 + 6 * jx + (2 + 0)) = M (66 + 6 * jx + (2 + 0)) := ((congrFun hM8 (66 + 6 * jx + (2 + 0))).trans (up_ne _ _ (by omega))).trans r_66_6_jx_2_0
            have r_46_5_0_4 : M8 (46 + 5 * 0 + 4) = M (66 + 6 * jx + (2 + 0)) := ((congrFun hM8 (46 + 5 * 0 + 4)).trans (up_ne _ _ (by omega))).trans r_46_5_0_4
            have r_46_5_1 : M8 (46 + 5 * 1) = M (46 + 5 * 1) := ((congrFun hM8 (46 + 5 * 1)).trans (up_ne _ _ (by omega))).trans r_46_5_1
            have r_66_6_jx_2_1 : M8 (66 + 6 * jx + (2 + 1)) = M (66 + 6 * jx + (2 + 1)) := ((congrFun hM8 (66 + 6 * jx + (2 + 1))).trans (up_ne _ _ (by omega))).trans r_66_6_jx_2_1
            have r_46_5_1_4 : M8 (46 + 5 * 1 + 4) = M (66 + 6 * jx + (2 + 1)) := ((congrFun hM8 (46 + 5 * 1 + 4)).trans (up_ne _ _ (by omega))).trans r_46_5_1_4
            have r_46_5_2 : M8 (46 + 5 * 2) = M (46 + 5 * 2) := ((congrFun hM8 (46 + 5 * 2)).trans (up_ne _ _ (by omega))).trans r_46_5_2
            have r_66_6_jx_2_2 : M8 (66 + 6 * jx + (2 + 2)) = M (66 + 6 * jx + (2 + 2)) := ((congrFun hM8 (66 + 6 * jx + (2 + 2))).trans (up_ne _ _ (by omega))).trans r_66_6_jx_2_2
            have r_46_5_2_4 : M8 (46 + 5 * 2 + 4) = M (66 + 6 * jx + (2 + 2)) := ((congrFun hM8 _).trans (up_at _ _ _))
            refine lv_aload_n hx hb dX1_takeBack_58 rfl (lv_at hl 1 rfl) ?_
            refine va_get (D := g.1) (ci := 4) (v := .int ((M (66 + 6 * jx)) 0)) (C := RX4) (T := TX4) (N := 6) hx hb hts hinX4 hown hK (hb1 hW (show 66 + 6 * jx < 126 by omega) (lcE r_66_6_jx sh_T0)) 0 rfl rfl 0 (by decide) k22 (fun _ h9 => h9) rfl dX1_takeBack_59 ?_
            refine z_top (y := zI (t)) (h0) ?_
            refine vp_callSi (va_Run.run (va_runSN (As := [.int (zI (t))]) (rest := []) ⟨hx, hb, hml, hown, hts⟩ (c_X8_isDay l (t) (by omega)) ⟨va_cnB 1 hts ggX1_takeBack_X8_isDay rfl rfl rfl hC.1 kIni (by decide +kernel) ⟨Nat.le_of_ble_eq_true rfl, Nat.le_of_ble_eq_true rfl⟩, kSta, trivial⟩ g_preS0 rfl rfl hl.1 rfl (lv_room (Nat.le_of_ble_eq_true rfl)) dX1_takeBack_62 ⟨Nat.le_of_ble_eq_true rfl, Nat.le_of_ble_eq_true rfl⟩)) (fun r hr9 => ?_)
            subst hr9
            refine z_bz_eq (tgt := 80) hx hb dX1_takeBack_65 (by decide) (fun h65 => ?_) (fun h65 => ?_)
            · refine z_iinc (lv' := [(3, .int (zI (((0 + 1) + 1) + 1))), (2, .ref ((ad (66 + 6 * jx)))), (0, .ref ((ad 6))), (1, .ref ((ad 5)))]) hx hb dX1_takeBack_80 hl (k := 0) rfl (by decide) rfl (fun ls hl => ?_)
              refine lv_goto (tgt := 38) hx hb dX1_takeBack_83 (by decide) ?_
              refine lv_iload_n hx hb dX1_takeBack_38 rfl (lv_at hl 0 rfl) ?_
              refine lv_iconst (v := zI (4)) hx hb dX1_takeBack_39 (by decide) ?_
              refine z_icmp_ge (tgt := 86) hx hb dX1_takeBack_40 (by decide) (by omega) (by omega) (fun h40 => ?_) (fun h40 => ?_)
              · exfalso; omega
              · refine lv_aload_n hx hb dX1_takeBack_43 rfl (lv_at hl 3 rfl) ?_
                refine lv_iload_n hx hb dX1_takeBack_44 rfl (lv_at hl 0 rfl) ?_
                refine z_aald hx hb hK (hb1 hW (show 5 < 126 by omega) (lcE r_5 sh_5)) 0 4 rfl rfl rfl (by decide) (3) (by omega) (by omega) rfl dX1_takeBack_45 ?_
                have r_46_5_3 : M8 (46 + 5 * 3) = M (46 + 5 * 3) := hex (46 + 5 * 3) (by omega) (by omega) (by omega) (by omega)
                refine va_get (D := g.1) (ci := 3) (v := .ref ((ad (46 + 5 * 3 + 4)))) (C := RX3) (T := TX3) (N := 7) hx hb hts hinX3 hown hK (hb1 hW (show 46 + 5 * 3 < 126 by omega) (lcE r_46_5_3 (sh_S0 (w := 3) (by omega)))) 0 rfl rfl 3 (by decide) k32 (fun _ h9 => h9) rfl dX1_takeBack_46 ?_
                refine lv_aload_n hx hb dX1_takeBack_49 rfl (lv_at hl 1 rfl) ?_
                refine va_get (D := g.1) (ci := 4) (v := .ref ((ad (66 + 6 * jx + 1)))) (C := RX4) (T := TX4) (N := 6) hx hb hts hinX4 hown hK (hb1 hW (show 66 + 6 * jx < 126 by omega) (lcE r_66_6_jx sh_T0)) 0 rfl rfl 5 (by decide) k28 (fun _ h9 => h9) rfl dX1_takeBack_50 ?_
                refine lv_iload_n hx hb dX1_takeBack_53 rfl (lv_at hl 0 rfl) ?_
                refine z_aald hx hb hK (hb1 hW (show 66 + 6 * jx + 1 < 126 by omega) (lcE r_66_6_jx_1 sh_T1)) 0 3 rfl rfl rfl (by decide) (3) (by omega) (by omega) rfl dX1_takeBack_54 ?_
                have r_46_5_3_4 : M8 (46 + 5 * 3 + 4) = M (46 + 5 * 3 + 4) := hex (46 + 5 * 3 + 4) (by omega) (by omega) (by omega) (by omega)
                have r_66_6_jx_2_3 : M8 (66 + 6 * jx + (2 + 3)) = M (66 + 6 * jx + (2 + 3)) := hex (66 + 6 * jx + (2 + 3)) (by omega) (by omega) (by omega) (by omega)
                refine va_callv (va_runV (As := [.ref ((ad (66 + 6 * jx + (2 + 3))))]) (rest := []) ⟨hx, hb, hml, hown, hts⟩ (c_X0_copyFrom l g (ad) (hd9) (lc g ad P M8) (46 + 5 * 3 + 4) (66 + 6 * jx + (2 + 3)) (by omega) (by omega) (by omega) (M (46 + 5 * 3 + 4)) (M (66 + 6 * jx + (2 + 3))) (lcE r_46_5_3_4 (sh_S4 (w := 3) (by omega))) (lcE r_66_6_jx_2_3 (sh_T2 (i := 3) (by omega)))) (cwV 1 hts gX1_takeBack_X0_copyFrom rfl rfl rfl (by decide +kernel) ⟨Nat.le_of_ble_eq_true rfl, Nat.le_of_ble_eq_true rfl⟩) (g_preV hW hK (va_recv hK (hb1 hW (show 46 + 5 * 3 + 4 < 126 by omega) (lcE r_46_5_3_4 (sh_S4 (w := 3) (by omega)))) (q0 := 0) (ci := 0) rfl rfl)) rfl rfl hl.1 rfl (lv_room (Nat.le_of_ble_eq_true rfl)) dX1_takeBack_55 ⟨Nat.le_of_ble_eq_true rfl, Nat.le_of_ble_eq_true rfl⟩) hS (fun q _ h => h) (fun q h => h) (fun c9 t9 H1 locs ht9 hvm9 hw9 hB9 hz9 hk9 hS => ?_)
                rw [ht9] at hB9
                have hW := hB9
                clear hB9 hz9 hk9 hvm9 ht9
                generalize H1 = H at hW hS ⊢
                have hW : hbP g ad c9 H := hW
                try dsimp only at hw9
                have hW : cw g ad P (va_up M8 (46 + 5 * 3 + 4) (M (66 + 6 * jx + (2 + 3)))) H := cw_1 hW hw9.1 (((sh_S4 (w := 3) (by omega))).trans rfl) hw9.2
                obtain ⟨M10, hM10⟩ : ∃ x9c : Nat → Nat → Int32, x9c = va_up M8 (46 + 5 * 3 + 4) (M (66 + 6 * jx + (2 + 3))) := ⟨_, rfl⟩
                have hW : cw g ad P M10 H := by rw [hM10]; exact hW
                have hex : ∀ j : Nat, ¬ j = 6 → ¬ j = 46 + 5 * 0 + 4 → ¬ j = 46 + 5 * 1 + 4 → ¬ j = 46 + 5 * 2 + 4 → ¬ j = 46 + 5 * 3 + 4 → M10 j = M j := fun j q0 q1 q2 q3 q4 => ((congrFun hM10 j).trans (up_ne _ _ q4)).trans (hex j q0 q1 q2 q3)
                have r_6 : M10 (6) = upd (upd (M 6) 0 (zI ((jx : Int)))) 1 (zI ((cn : Int) - 1)) := ((congrFun hM10 (6)).trans (up_ne _ _ (by omega))).trans r_6
                have r_7 : M10 (7) = M 7 := ((congrFun hM10 (7)).trans (up_ne _ _ (by omega))).trans r_7
                have r_5 : M10 (5) = M 5 := ((congrFun hM10 (5)).trans (up_ne _ _ (by omega))).trans r_5
                have r_46_5_0 : M10 (46 + 5 * 0) = M (46 + 5 * 0) := ((congrFun hM10 (46 + 5 * 0)).trans (up_ne _ _ (by omega))).trans r_46_5_0
                have r_66_6_jx : M10 (66 + 6 * jx) = M (66 + 6 * jx) := ((congrFun hM10 (66 + 6 * jx)).trans (up_ne _ _ (by omega))).trans r_66_6_jx
                have r_66_6_jx_1 : M10 (66 + 6 * jx + 1) = M (66 + 6 * jx + 1) := ((congrFun hM10 (66 + 6 * jx + 1)).trans (up_ne _ _ (by omega))).trans r_66_6_jx_1
                have r_66_6_jx_2_0 : M10 (66 + 6 * jx + (2 + 0)) = M (66 + 6 * jx + (2 + 0)) := ((congrFun hM10 (66 + 6 * jx + (2 + 0))).trans (up_ne _ _ (by omega))).trans r_66_6_jx_2_0
                have r_46_5_0_4 : M10 (46 + 5 * 0 + 4) = M (66 + 6 * jx + (2 + 0)) := ((congrFun hM10 (46 + 5 * 0 + 4)).trans (up_ne _ _ (by omega))).trans r_46_5_0_4
                have r_46_5_1 : M10 (46 + 5 * 1) = M (46 + 5 * 1) := ((congrFun hM10 (46 + 5 * 1)).trans (up_ne _ _ (by omega))).trans r_46_5_1
                have r_66_6_jx_2_1 : M10 (66 + 6 * jx + (2 + 1)) = M (66 + 6 * jx + (2 + 1)) := ((congrFun hM10 (66 + 6 * jx + (2 + 1))).trans (up_ne _ _ (by omega))).trans r_66_6_jx_2_1
                have r_46_5_1_4 : M10 (46 + 5 * 1 + 4) = M (66 + 6 * jx + (2 + 1)) := ((congrFun hM10 (46 + 5 * 1 + 4)).trans (up_ne _ _ (by omega))).trans r_46_5_1_4
                have r_46_5_2 : M10 (46 + 5 * 2) = M (46 + 5 * 2) := ((congrFun hM10 (46 + 5 * 2)).trans (up_ne _ _ (by omega))).trans r_46_5_2
                have r_66_6_jx_2_2 : M10 (66 + 6 * jx + (2 + 2)) = M (66 + 6 * jx + (2 + 2)) := ((congrFun hM10 (66 + 6 * jx + (2 + 2))).trans (up_ne _ _ (by omega))).trans r_66_6_jx_2_2
                have r_46_5_2_4 : M10 (46 + 5 * 2 + 4) = M (66 + 6 * jx + (2 + 2)) := ((congrFun hM10 (46 + 5 * 2 + 4)).trans (up_ne _ _ (by omega))).trans r_46_5_2_4
                have r_46_5_3 : M10 (46 + 5 * 3) = M (46 + 5 * 3) := ((congrFun hM10 (46 + 5 * 3)).trans (up_ne _ _ (by omega))).trans r_46_5_3
                have r_66_6_jx_2_3 : M10 (66 + 6 * jx + (2 + 3)) = M (66 + 6 * jx + (2 + 3)) := ((congrFun hM10 (66 + 6 * jx + (2 + 3))).trans (up_ne _ _ (by omega))).trans r_66_6_jx_2_3
                have r_46_5_3_4 : M10 (46 + 5 * 3 + 4) = M (66 + 6 * jx + (2 + 3)) := ((congrFun hM10 _).trans (up_at _ _ _))
                refine lv_aload_n hx hb dX1_takeBack_58 rfl (lv_at hl 1 rfl) ?_
                refine va_get (D := g.1) (ci := 4) (v := .int ((M (66 + 6 * jx)) 0)) (C := RX4) (T := TX4) (N := 6) hx hb hts hinX4 hown hK (hb1 hW (show 66 + 6 * jx < 126 by omega) (lcE r_66_6_jx sh_T0)) 0 rfl rfl 0 (by decide) k22 (fun _ h9 => h9) rfl dX1_takeBack_59 ?_
                refine z_top (y := zI (t)) (h0) ?_
                refine vp_callSi (va_Run.run (va_runSN (As := [.int (zI (t))]) (rest := []) ⟨hx, hb, hml, hown, hts⟩ (c_X8_isDay l (t) (by omega)) ⟨va_cnB 1 hts ggX1_takeBack_X8_isDay rfl rfl rfl hC.1 kIni (by decide +kernel) ⟨Nat.le_of_ble_eq_true rfl, Nat.le_of_ble_eq_true rfl⟩, kSta, trivial⟩ g_preS0 rfl rfl hl.1 rfl (lv_room (Nat.le_of_ble_eq_true rfl)) dX1_takeBack_62 ⟨Nat.le_of_ble_eq_true rfl, Nat.le_of_ble_eq_true rfl⟩)) (fun r hr9 => ?_)
                subst hr9
                refine z_bz_eq (tgt := 80) hx hb dX1_takeBack_65 (by decide) (fun h65 => ?_) (fun h65 => ?_)
                · refine z_iinc (lv' := [(3, .int (zI ((((0 + 1) + 1) + 1) + 1))), (2, .ref ((ad (66 + 6 * jx)))), (0, .ref ((ad 6))), (1, .ref ((ad 5)))]) hx hb dX1_takeBack_80 hl (k := 0) rfl (by decide) rfl (fun ls hl => ?_)
                  refine lv_goto (tgt := 38) hx hb dX1_takeBack_83 (by decide) ?_
                  refine lv_iload_n hx hb dX1_takeBack_38 rfl (lv_at hl 0 rfl) ?_
                  refine lv_iconst (v := zI (4)) hx hb dX1_takeBack_39 (by decide) ?_
                  refine z_icmp_ge (tgt := 86) hx hb dX1_takeBack_40 (by decide) (by omega) (by omega) (fun h40 => ?_) (fun h40 => ?_)
                  · rcases h1 with h1 | h1
                    · refine lv_aload_n hx hb dX1_takeBack_86 rfl (lv_at hl 1 rfl) ?_
                      refine va_get (D := g.1) (ci := 4) (v := .int ((M (66 + 6 * jx)) 1)) (C := RX4) (T := TX4) (N := 6) hx hb hts hinX4 hown hK (hb1 hW (show 66 + 6 * jx < 126 by omega) (lcE r_66_6_jx sh_T0)) 0 rfl rfl 1 (by decide) k25 (fun _ h9 => h9) rfl dX1_takeBack_87 ?_
                      refine z_top (y := zI ((-1))) (h1) ?_
                      refine lv_iconst (v := zI (-1)) hx hb dX1_takeBack_90 (by decide) ?_
                      refine z_icmp_eq (tgt := 127) hx hb dX1_takeBack_91 (by decide) (by omega) (by omega) (fun h91 => ?_) (fun h91 => ?_)
                      · refine lv_aload_n hx hb dX1_takeBack_127 rfl (lv_at hl 1 rfl) ?_
                        refine va_get (D := g.1) (ci := 4) (v := .int ((M (66 + 6 * jx)) 0)) (C := RX4) (T := TX4) (N := 6) hx hb hts hinX4 hown hK (hb1 hW (show 66 + 6 * jx < 126 by omega) (lcE r_66_6_jx sh_T0)) 0 rfl rfl 0 (by decide) k22 (fun _ h9 => h9) rfl dX1_takeBack_128 ?_
                        refine z_top (y := zI (t)) (h0) ?_
                        have hW : cw g ad P (tkM M jx cn) H := by
                          have e9 : M10 = tkM M jx cn := by
                            refine tk_is ?_ (fun v hv k hk => ?_) (fun i h6 hi => hex i (by omega) (by omega) (by omega) (by omega) (by omega))
                            · rw [r_6]; rfl
                            · rcases (by omega : v = 0 ∨ v = 1 ∨ v = 2 ∨ v = 3) with rfl | rfl | rfl | rfl <;> rcases (by omega : k = 0 ∨ k = 1 ∨ k = 2 ∨ k = 3 ∨ k = 4) with rfl | rfl | rfl | rfl | rfl
                              · exact (hex _ (by omega) (by omega) (by omega) (by omega) (by omega)).trans (tk_ob (w := 0) (by omega)).symm
                              · exact (hex _ (by omega) (by omega) (by omega) (by omega) (by omega)).trans (tk_ctn (v := 0) (by omega) (by omega) h1).symm
                              · exact (hex _ (by omega) (by omega) (by omega) (by omega) (by omega)).trans (tk_ctn (v := 0) (by omega) (by omega) h1).symm
                              · exact (hex _ (by omega) (by omega) (by omega) (by omega) (by omega)).trans (tk_fl0 (w := 0) (by omega) (h0.trans (congrArg zI (by omega)))).symm
                              · exact r_46_5_0_4.trans (tk_acc (w := 0) (by omega)).symm
                              · exact (hex _ (by omega) (by omega) (by omega) (by omega) (by omega)).trans (tk_ob (w := 1) (by omega)).symm
                              · exact (hex _ (by omega) (by omega) (by omega) (by omega) (by omega)).trans (tk_ctn (v := 1) (by omega) (by omega) h1).symm
                              · exact (hex _ (by omega) (by omega) (by omega) (by omega) (by omega)).trans (tk_ctn (v := 1) (by omega) (by omega) h1).symm
                              · exact (hex _ (by omega) (by omega) (by omega) (by omega) (by omega)).trans (tk_fl0 (w := 1) (by omega) (h0.trans (congrArg zI (by omega)))).symm
                              · exact r_46_5_1_4.trans (tk_acc (w := 1) (by omega)).symm
                              · exact (hex _ (by omega) (by omega) (by omega) (by omega) (by omega)).trans (tk_ob (w := 2) (by omega)).symm
                              · exact (hex _ (by omega) (by omega) (by omega) (by omega) (by omega)).trans (tk_ctn (v := 2) (by omega) (by omega) h1).symm
                              · exact (hex _ (by omega) (by omega) (by omega) (by omega) (by omega)).trans (tk_ctn (v := 2) (by omega) (by omega) h1).symm
                              · exact (hex _ (by omega) (by omega) (by omega) (by omega) (by omega)).trans (tk_fl0 (w := 2) (by omega) (h0.trans (congrArg zI (by omega)))).symm
                              · exact r_46_5_2_4.trans (tk_acc (w := 2) (by omega)).symm
                              · exact (hex _ (by omega) (by omega) (by omega) (by omega) (by omega)).trans (tk_ob (w := 3) (by omega)).symm
                              · exact (hex _ (by omega) (by omega) (by omega) (by omega) (by omega)).trans (tk_ctn (v := 3) (by omega) (by omega) h1).symm
                              · exact (hex _ (by omega) (by omega) (by omega) (by omega) (by omega)).trans (tk_ctn (v := 3) (by omega) (by omega) h1).symm
                              · exact (hex _ (by omega) (by omega) (by omega) (by omega) (by omega)).trans (tk_fl0 (w := 3) (by omega) (h0.trans (congrArg zI (by omega)))).symm
                              · exact r_46_5_3_4.trans (tk_acc (w := 3) (by omega)).symm
                          rw [← e9]; exact hW
                        exact W.iret hx hb hr (fun tX htX hWX => ⟨⟨_, (), rfl, rfl, g_at htX hW⟩, hS.F htX⟩) hS.2.2 dX1_takeBack_131
                      · exfalso; omega
                    · refine lv_aload_n hx hb dX1_takeBack_86 rfl (lv_at hl 1 rfl) ?_
                      refine va_get (D := g.1) (ci := 4) (v := .int ((M (66 + 6 * jx)) 1)) (C := RX4) (T := TX4) (N := 6) hx hb hts hinX4 hown hK (hb1 hW (show 66 + 6 * jx < 126 by omega) (lcE r_66_6_jx sh_T0)) 0 rfl rfl 1 (by decide) k25 (fun _ h9 => h9) rfl dX1_takeBack_87 ?_
                      refine z_top (y := zI (w)) (h1.1) ?_
                      refine lv_iconst (v := zI (-1)) hx hb dX1_takeBack_90 (by decide) ?_
                      refine z_icmp_eq (tgt := 127) hx hb dX1_takeBack_91 (by decide) (by omega) (by omega) (fun h91 => ?_) (fun h91 => ?_)
                      · exfalso; omega
                      · refine lv_aload_n hx hb dX1_takeBack_94 rfl (lv_at hl 3 rfl) ?_
                        refine lv_aload_n hx hb dX1_takeBack_95 rfl (lv_at hl 1 rfl) ?_
                        refine va_get (D := g.1) (ci := 4) (v := .int ((M (66 + 6 * jx)) 1)) (C := RX4) (T := TX4) (N := 6) hx hb hts hinX4 hown hK (hb1 hW (show 66 + 6 * jx < 126 by omega) (lcE r_66_6_jx sh_T0)) 0 rfl rfl 1 (by decide) k25 (fun _ h9 => h9) rfl dX1_takeBack_96 ?_
                        refine z_top (y := zI (w)) (h1.1) ?_
                        refine z_aald hx hb hK (hb1 hW (show 5 < 126 by omega) (lcE r_5 sh_5)) 0 4 rfl rfl rfl (by decide) (w) (by omega) (by omega) rfl dX1_takeBack_99 ?_
                        refine lv_astore_n (lv' := [(3, .ref ((ad (46 + 5 * w)))), (2, .ref ((ad (66 + 6 * jx)))), (0, .ref ((ad 6))), (1, .ref ((ad 5)))]) hx hb dX1_takeBack_100 rfl hl (by decide) rfl (fun ls hl => ?_)
                        refine lv_aload_n hx hb dX1_takeBack_101 rfl (lv_at hl 0 rfl) ?_
                        have r_46_5_w : M10 (46 + 5 * w) = M (46 + 5 * w) := hex (46 + 5 * w) (by omega) (by omega) (by omega) (by omega) (by omega)
                        refine va_get (D := g.1) (ci := 3) (v := .ref ((ad (46 + 5 * w + 1)))) (C := RX3) (T := TX3) (N := 7) hx hb hts hinX3 hown hK (hb1 hW (show 46 + 5 * w < 126 by omega) (lcE r_46_5_w (sh_S0 (w := w) (by omega)))) 0 rfl rfl 0 (by decide) k60 (fun _ h9 => h9) rfl dX1_takeBack_102 ?_
                        refine lv_aload_n hx hb dX1_takeBack_105 rfl (lv_at hl 1 rfl) ?_
                        refine va_get (D := g.1) (ci := 4) (v := .int ((M (66 + 6 * jx)) 2)) (C := RX4) (T := TX4) (N := 6) hx hb hts hinX4 hown hK (hb1 hW (show 66 + 6 * jx < 126 by omega) (lcE r_66_6_jx sh_T0)) 0 rfl rfl 2 (by decide) k57 (fun _ h9 => h9) rfl dX1_takeBack_106 ?_
                        refine z_top (y := zI (d)) (h1.2) ?_
                        refine lv_aload_n hx hb dX1_takeBack_109 rfl (lv_at hl 1 rfl) ?_
                        refine va_get (D := g.1) (ci := 4) (v := .int ((M (66 + 6 * jx)) 3)) (C := RX4) (T := TX4) (N := 6) hx hb hts hinX4 hown hK (hb1 hW (show 66 + 6 * jx < 126 by omega) (lcE r_66_6_jx sh_T0)) 0 rfl rfl 3 (by decide) k64 (fun _ h9 => h9) rfl dX1_takeBack_110 ?_
                        have r_46_5_w_1 : M10 (46 + 5 * w + 1) = M (46 + 5 * w + 1) := hex (46 + 5 * w + 1) (by omega) (by omega) (by omega) (by omega) (by omega)
                        refine y_iast hx hb hK hW hd9 hS (46 + 5 * w + 1) (show 46 + 5 * w + 1 < 126 by omega) (lcE r_46_5_w_1 (sh_S1 (w := w) (by omega))) (by decide) (d) (by omega) (by omega) dX1_takeBack_113 (fun H locs hW hS => ?_)
                        have hW := cw_up (P := P) (M := M10) (f := upd (M (46 + 5 * w + 1)) d ((M (66 + 6 * jx)) 3)) ((sh_S1 (w := w) (by omega))) hW
                        obtain ⟨M11, hM11⟩ : ∃ x9c : Nat → Nat → Int32, x9c = va_up M10 (46 + 5 * w + 1) (upd (M (46 + 5 * w + 1)) d ((M (66 + 6 * jx)) 3)) := ⟨_, rfl⟩
                        have hW : cw g ad P M11 H := by rw [hM11]; exact hW
                        have hex : ∀ j : Nat, ¬ j = 6 → ¬ j = 46 + 5 * 0 + 4 → ¬ j = 46 + 5 * 1 + 4 → ¬ j = 46 + 5 * 2 + 4 → ¬ j = 46 + 5 * 3 + 4 → ¬ j = 46 + 5 * w + 1 → M11 j = M j := fun j q0 q1 q2 q3 q4 q5 => ((congrFun hM11 j).trans (up_ne _ _ q5)).trans (hex j q0 q1 q2 q3 q4)
                        have r_6 : M11 (6) = upd (upd (M 6) 0 (zI ((jx : Int)))) 1 (zI ((cn : Int) - 1)) := ((congrFun hM11 (6)).trans (up_ne _ _ (by omega))).trans r_6
                        have r_7 : M11 (7) = M 7 := ((congrFun hM11 (7)).trans (up_ne _ _ (by omega))).trans r_7
                        have r_5 : M11 (5) = M 5 := ((congrFun hM11 (5)).trans (up_ne _ _ (by omega))).trans r_5
                        have r_46_5_0 : M11 (46 + 5 * 0) = M (46 + 5 * 0) := ((congrFun hM11 (46 + 5 * 0)).trans (up_ne _ _ (by omega))).trans r_46_5_0
                        have r_66_6_jx : M11 (66 + 6 * jx) = M (66 + 6 * jx) := ((congrFun hM11 (66 + 6 * jx)).trans (up_ne _ _ (by omega))).trans r_66_6_jx
                        have r_66_6_jx_1 : M11 (66 + 6 * jx + 1) = M (66 + 6 * jx + 1) := ((congrFun hM11 (66 + 6 * jx + 1)).trans (up_ne _ _ (by omega))).trans r_66_6_jx_1
                        have r_66_6_jx_2_0 : M11 (66 + 6 * jx + (2 + 0)) = M (66 + 6 * jx + (2 + 0)) := ((congrFun hM11 (66 + 6 * jx + (2 + 0))).trans (up_ne _ _ (by omega))).trans r_66_6_jx_2_0
                        have r_46_5_0_4 : M11 (46 + 5 * 0 + 4) = M (66 + 6 * jx + (2 + 0)) := ((congrFun hM11 (46 + 5 * 0 + 4)).trans (up_ne _ _ (by omega))).trans r_46_5_0_4
                        have r_46_5_1 : M11 (46 + 5 * 1) = M (46 + 5 * 1) := ((congrFun hM11 (46 + 5 * 1)).trans (up_ne _ _ (by omega))).trans r_46_5_1
                        have r_66_6_jx_2_1 : M11 (66 + 6 * jx + (2 + 1)) = M (66 + 6 * jx + (2 + 1)) := ((congrFun hM11 (66 + 6 * jx + (2 + 1))).trans (up_ne _ _ (by omega))).trans r_66_6_jx_2_1
                        have r_46_5_1_4 : M11 (46 + 5 * 1 + 4) = M (66 + 6 * jx + (2 + 1)) := ((congrFun hM11 (46 + 5 * 1 + 4)).trans (up_ne _ _ (by omega))).trans r_46_5_1_4
                        have r_46_5_2 : M11 (46 + 5 * 2) = M (46 + 5 * 2) := ((congrFun hM11 (46 + 5 * 2)).trans (up_ne _ _ (by omega))).trans r_46_5_2
                        have r_66_6_jx_2_2 : M11 (66 + 6 * jx + (2 + 2)) = M (66 + 6 * jx + (2 + 2)) := ((congrFun hM11 (66 + 6 * jx + (2 + 2))).trans (up_ne _ _ (by omega))).trans r_66_6_jx_2_2
                        have r_46_5_2_4 : M11 (46 + 5 * 2 + 4) = M (66 + 6 * jx + (2 + 2)) := ((congrFun hM11 (46 + 5 * 2 + 4)).trans (up_ne _ _ (by omega))).trans r_46_5_2_4
                        have r_46_5_3 : M11 (46 + 5 * 3) = M (46 + 5 * 3) := ((congrFun hM11 (46 + 5 * 3)).trans (up_ne _ _ (by omega))).trans r_46_5_3
                        have r_66_6_jx_2_3 : M11 (66 + 6 * jx + (2 + 3)) = M (66 + 6 * jx + (2 + 3)) := ((congrFun hM11 (66 + 6 * jx + (2 + 3))).trans (up_ne _ _ (by omega))).trans r_66_6_jx_2_3
                        have r_46_5_3_4 : M11 (46 + 5 * 3 + 4) = M (66 + 6 * jx + (2 + 3)) := ((congrFun hM11 (46 + 5 * 3 + 4)).trans (up_ne _ _ (by omega))).trans r_46_5_3_4
                        have r_46_5_w : M11 (46 + 5 * w) = M (46 + 5 * w) := ((congrFun hM11 (46 + 5 * w)).trans (up_ne _ _ (by omega))).trans r_46_5_w
                        have r_46_5_w_1 : M11 (46 + 5 * w + 1) = upd (M (46 + 5 * w + 1)) d ((M (66 + 6 * jx)) 3) := ((congrFun hM11 _).trans (up_at _ _ _))
                        refine lv_aload_n hx hb dX1_takeBack_114 rfl (lv_at hl 0 rfl) ?_
                        refine va_get (D := g.1) (ci := 3) (v := .ref ((ad (46 + 5 * w + 2)))) (C := RX3) (T := TX3) (N := 7) hx hb hts hinX3 hown hK (hb1 hW (show 46 + 5 * w < 126 by omega) (lcE r_46_5_w (sh_S0 (w := w) (by omega)))) 0 rfl rfl 1 (by decide) k66 (fun _ h9 => h9) rfl dX1_takeBack_115 ?_
                        refine lv_aload_n hx hb dX1_takeBack_118 rfl (lv_at hl 1 rfl) ?_
                        refine va_get (D := g.1) (ci := 4) (v := .int ((M (66 + 6 * jx)) 2)) (C := RX4) (T := TX4) (N := 6) hx hb hts hinX4 hown hK (hb1 hW (show 66 + 6 * jx < 126 by omega) (lcE r_66_6_jx sh_T0)) 0 rfl rfl 2 (by decide) k57 (fun _ h9 => h9) rfl dX1_takeBack_119 ?_
                        refine z_top (y := zI (d)) (h1.2) ?_
                        refine lv_aload_n hx hb dX1_takeBack_122 rfl (lv_at hl 1 rfl) ?_
                        refine va_get (D := g.1) (ci := 4) (v := .int ((M (66 + 6 * jx)) 4)) (C := RX4) (T := TX4) (N := 6) hx hb hts hinX4 hown hK (hb1 hW (show 66 + 6 * jx < 126 by omega) (lcE r_66_6_jx sh_T0)) 0 rfl rfl 4 (by decide) k69 (fun _ h9 => h9) rfl dX1_takeBack_123 ?_
                        have r_46_5_w_2 : M11 (46 + 5 * w + 2) = M (46 + 5 * w + 2) := hex (46 + 5 * w + 2) (by omega) (by omega) (by omega) (by omega) (by omega) (by omega)
                        refine y_iast hx hb hK hW hd9 hS (46 + 5 * w + 2) (show 46 + 5 * w + 2 < 126 by omega) (lcE r_46_5_w_2 (sh_S2 (w := w) (by omega))) (by decide) (d) (by omega) (by omega) dX1_takeBack_126 (fun H locs hW hS => ?_)
                        have hW := cw_up (P := P) (M := M11) (f := upd (M (46 + 5 * w + 2)) d ((M (66 + 6 * jx)) 4)) ((sh_S2 (w := w) (by omega))) hW
                        obtain ⟨M12, hM12⟩ : ∃ x9c : Nat → Nat → Int32, x9c = va_up M11 (46 + 5 * w + 2) (upd (M (46 + 5 * w + 2)) d ((M (66 + 6 * jx)) 4)) := ⟨_, rfl⟩
                        have hW : cw g ad P M12 H := by rw [hM12]; exact hW
                        have hex : ∀ j : Nat, ¬ j = 6 → ¬ j = 46 + 5 * 0 + 4 → ¬ j = 46 + 5 * 1 + 4 → ¬ j = 46 + 5 * 2 + 4 → ¬ j = 46 + 5 * 3 + 4 → ¬ j = 46 + 5 * w + 1 → ¬ j = 46 + 5 * w + 2 → M12 j = M j := fun j q0 q1 q2 q3 q4 q5 q6 => ((congrFun hM12 j).trans (up_ne _ _ q6)).trans (hex j q0 q1 q2 q3 q4 q5)
                        have r_6 : M12 (6) = upd (upd (M 6) 0 (zI ((jx : Int)))) 1 (zI ((cn : Int) - 1)) := ((congrFun hM12 (6)).trans (up_ne _ _ (by omega))).trans r_6
                        have r_7 : M12 (7) = M 7 := ((congrFun hM12 (7)).trans (up_ne _ _ (by omega))).trans r_7
                        have r_5 : M12 (5) = M 5 := ((congrFun hM12 (5)).trans (up_ne _ _ (by omega))).trans r_5
                        have r_46_5_0 : M12 (46 + 5 * 0) = M (46 + 5 * 0) := ((congrFun hM12 (46 + 5 * 0)).trans (up_ne _ _ (by omega))).trans r_46_5_0
                        have r_66_6_jx : M12 (66 + 6 * jx) = M (66 + 6 * jx) := ((congrFun hM12 (66 + 6 * jx)).trans (up_ne _ _ (by omega))).trans r_66_6_jx
                        have r_66_6_jx_1 : M12 (66 + 6 * jx + 1) = M (66 + 6 * jx + 1) := ((congrFun hM12 (66 + 6 * jx + 1)).trans (up_ne _ _ (by omega))).trans r_66_6_jx_1
                        have r_66_6_jx_2_0 : M12 (66 + 6 * jx + (2 + 0)) = M (66 + 6 * jx + (2 + 0)) := ((congrFun hM12 (66 + 6 * jx + (2 + 0))).trans (up_ne _ _ (by omega))).trans r_66_6_jx_2_0
                        have r_46_5_0_4 : M12 (46 + 5 * 0 + 4) = M (66 + 6 * jx + (2 + 0)) := ((congrFun hM12 (46 + 5 * 0 + 4)).trans (up_ne _ _ (by omega))).trans r_46_5_0_4
                        have r_46_5_1 : M12 (46 + 5 * 1) = M (46 + 5 * 1) := ((congrFun hM12 (46 + 5 * 1)).trans (up_ne _ _ (by omega))).trans r_46_5_1
                        have r_66_6_jx_2_1 : M12 (66 + 6 * jx + (2 + 1)) = M (66 + 6 * jx + (2 + 1)) := ((congrFun hM12 (66 + 6 * jx + (2 + 1))).trans (up_ne _ _ (by omega))).trans r_66_6_jx_2_1
                        have r_46_5_1_4 : M12 (46 + 5 * 1 + 4) = M (66 + 6 * jx + (2 + 1)) := ((congrFun hM12 (46 + 5 * 1 + 4)).trans (up_ne _ _ (by omega))).trans r_46_5_1_4
                        have r_46_5_2 : M12 (46 + 5 * 2) = M (46 + 5 * 2) := ((congrFun hM12 (46 + 5 * 2)).trans (up_ne _ _ (by omega))).trans r_46_5_2
                        have r_66_6_jx_2_2 : M12 (66 + 6 * jx + (2 + 2)) = M (66 + 6 * jx + (2 + 2)) := ((congrFun hM12 (66 + 6 * jx + (2 + 2))).trans (up_ne _ _ (by omega))).trans r_66_6_jx_2_2
                        have r_46_5_2_4 : M12 (46 + 5 * 2 + 4) = M (66 + 6 * jx + (2 + 2)) := ((congrFun hM12 (46 + 5 * 2 + 4)).trans (up_ne _ _ (by omega))).trans r_46_5_2_4
                        have r_46_5_3 : M12 (46 + 5 * 3) = M (46 + 5 * 3) := ((congrFun hM12 (46 + 5 * 3)).trans (up_ne _ _ (by omega))).trans r_46_5_3
                        have r_66_6_jx_2_3 : M12 (66 + 6 * jx + (2 + 3)) = M (66 + 6 * jx + (2 + 3)) := ((congrFun hM12 (66 + 6 * jx + (2 + 3))).trans (up_ne _ _ (by omega))).trans r_66_6_jx_2_3
                        have r_46_5_3_4 : M12 (46 + 5 * 3 + 4) = M (66 + 6 * jx + (2 + 3)) := ((congrFun hM12 (46 + 5 * 3 + 4)).trans (up_ne _ _ (by omega))).trans r_46_5_3_4
                        have r_46_5_w : M12 (46 + 5 * w) = M (46 + 5 * w) := ((congrFun hM12 (46 + 5 * w)).trans (up_ne _ _ (by omega))).trans r_46_5_w
                        have r_46_5_w_1 : M12 (46 + 5 * w + 1) = upd (M (46 + 5 * w + 1)) d ((M (66 + 6 * jx)) 3) := ((congrFun hM12 (46 + 5 * w + 1)).trans (up_ne _ _ (by omega))).trans r_46_5_w_1
                        have r_46_5_w_2 : M12 (46 + 5 * w + 2) = upd (M (46 + 5 * w + 2)) d ((M (66 + 6 * jx)) 4) := ((congrFun hM12 _).trans (up_at _ _ _))
                        refine lv_aload_n hx hb dX1_takeBack_127 rfl (lv_at hl 1 rfl) ?_
                        refine va_get (D := g.1) (ci := 4) (v := .int ((M (66 + 6 * jx)) 0)) (C := RX4) (T := TX4) (N := 6) hx hb hts hinX4 hown hK (hb1 hW (show 66 + 6 * jx < 126 by omega) (lcE r_66_6_jx sh_T0)) 0 rfl rfl 0 (by decide) k22 (fun _ h9 => h9) rfl dX1_takeBack_128 ?_
                        refine z_top (y := zI (t)) (h0) ?_
                        have hW : cw g ad P (tkM M jx cn) H := by
                          have e9 : M12 = tkM M jx cn := by
                            refine tk_is ?_ (fun v hv k hk => ?_) (fun i h6 hi => hex i (by omega) (by omega) (by omega) (by omega) (by omega) (by omega) (by omega))
                            · rw [r_6]; rfl
                            · rcases (by omega : v = 0 ∨ v = 1 ∨ v = 2 ∨ v = 3) with rfl | rfl | rfl | rfl <;> rcases (by omega : k = 0 ∨ k = 1 ∨ k = 2 ∨ k = 3 ∨ k = 4) with rfl | rfl | rfl | rfl | rfl
                              · exact (hex _ (by omega) (by omega) (by omega) (by omega) (by omega) (by omega) (by omega)).trans (tk_ob (w := 0) (by omega)).symm
                              · by_cases qw : w = 0
                                · subst qw; exact r_46_5_w_1.trans (tk_ct1 (w := 0) (by omega) (by omega) hd h1.2 h1.1).symm
                                · exact (hex _ (by omega) (by omega) (by omega) (by omega) (by omega) (by omega) (by omega)).trans (tk_ct0 (w := w) (v := 0) hw (by omega) (by omega) h1.1 (by omega)).symm
                              · by_cases qw : w = 0
                                · subst qw; exact r_46_5_w_2.trans (tk_ct1 (w := 0) (by omega) (by omega) hd h1.2 h1.1).symm
                                · exact (hex _ (by omega) (by omega) (by omega) (by omega) (by omega) (by omega) (by omega)).trans (tk_ct0 (w := w) (v := 0) hw (by omega) (by omega) h1.1 (by omega)).symm
                              · exact (hex _ (by omega) (by omega) (by omega) (by omega) (by omega) (by omega) (by omega)).trans (tk_fl0 (w := 0) (by omega) (h0.trans (congrArg zI (by omega)))).symm
                              · exact r_46_5_0_4.trans (tk_acc (w := 0) (by omega)).symm
                              · exact (hex _ (by omega) (by omega) (by omega) (by omega) (by omega) (by omega) (by omega)).trans (tk_ob (w := 1) (by omega)).symm
                              · by_cases qw : w = 1
                                · subst qw; exact r_46_5_w_1.trans (tk_ct1 (w := 1) (by omega) (by omega) hd h1.2 h1.1).symm
                                · exact (hex _ (by omega) (by omega) (by omega) (by omega) (by omega) (by omega) (by omega)).trans (tk_ct0 (w := w) (v := 1) hw (by omega) (by omega) h1.1 (by omega)).symm
                              · by_cases qw : w = 1
                                · subst qw; exact r_46_5_w_2.trans (tk_ct1 (w := 1) (by omega) (by omega) hd h1.2 h1.1).symm
                                · exact (hex _ (by omega) (by omega) (by omega) (by omega) (by omega) (by omega) (by omega)).trans (tk_ct0 (w := w) (v := 1) hw (by omega) (by omega) h1.1 (by omega)).symm
                              · exact (hex _ (by omega) (by omega) (by omega) (by omega) (by omega) (by omega) (by omega)).trans (tk_fl0 (w := 1) (by omega) (h0.trans (congrArg zI (by omega)))).symm
                              · exact r_46_5_1_4.trans (tk_acc (w := 1) (by omega)).symm
                              · exact (hex _ (by omega) (by omega) (by omega) (by omega) (by omega) (by omega) (by omega)).trans (tk_ob (w := 2) (by omega)).symm
                              · by_cases qw : w = 2
                                · subst qw; exact r_46_5_w_1.trans (tk_ct1 (w := 2) (by omega) (by omega) hd h1.2 h1.1).symm
                                · exact (hex _ (by omega) (by omega) (by omega) (by omega) (by omega) (by omega) (by omega)).trans (tk_ct0 (w := w) (v := 2) hw (by omega) (by omega) h1.1 (by omega)).symm
                              · by_cases qw : w = 2
                                · subst qw; exact r_46_5_w_2.trans (tk_ct1 (w := 2) (by omega) (by omega) hd h1.2 h1.1).symm
                                · exact (hex _ (by omega) (by omega) (by omega) (by omega) (by omega) (by omega) (by omega)).trans (tk_ct0 (w := w) (v := 2) hw (by omega) (by omega) h1.1 (by omega)).symm
                              · exact (hex _ (by omega) (by omega) (by omega) (by omega) (by omega) (by omega) (by omega)).trans (tk_fl0 (w := 2) (by omega) (h0.trans (congrArg zI (by omega)))).symm
                              · exact r_46_5_2_4.trans (tk_acc (w := 2) (by omega)).symm
                              · exact (hex _ (by omega) (by omega) (by omega) (by omega) (by omega) (by omega) (by omega)).trans (tk_ob (w := 3) (by omega)).symm
                              · by_cases qw : w = 3
                                · subst qw; exact r_46_5_w_1.trans (tk_ct1 (w := 3) (by omega) (by omega) hd h1.2 h1.1).symm
                                · exact (hex _ (by omega) (by omega) (by omega) (by omega) (by omega) (by omega) (by omega)).trans (tk_ct0 (w := w) (v := 3) hw (by omega) (by omega) h1.1 (by omega)).symm
                              · by_cases qw : w = 3
                                · subst qw; exact r_46_5_w_2.trans (tk_ct1 (w := 3) (by omega) (by omega) hd h1.2 h1.1).symm
                                · exact (hex _ (by omega) (by omega) (by omega) (by omega) (by omega) (by omega) (by omega)).trans (tk_ct0 (w := w) (v := 3) hw (by omega) (by omega) h1.1 (by omega)).symm
                              · exact (hex _ (by omega) (by omega) (by omega) (by omega) (by omega) (by omega) (by omega)).trans (tk_fl0 (w := 3) (by omega) (h0.trans (congrArg zI (by omega)))).symm
                              · exact r_46_5_3_4.trans (tk_acc (w := 3) (by omega)).symm
                          rw [← e9]; exact hW
                        exact W.iret hx hb hr (fun tX htX hWX => ⟨⟨_, (), rfl, rfl, g_at htX hW⟩, hS.F htX⟩) hS.2.2 dX1_takeBack_131
                  · exfalso; omega
                · exfalso; omega
            · exfalso; omega
        · exfalso; omega
    · refine lv_aload_n hx hb dX1_takeBack_68 rfl (lv_at hl 3 rfl) ?_
      refine lv_iload_n hx hb dX1_takeBack_69 rfl (lv_at hl 0 rfl) ?_
      refine z_aald hx hb hK (hb1 hW (show 5 < 126 by omega) (lcE r_5 sh_5)) 0 4 rfl rfl rfl (by decide) (0) (by omega) (by omega) rfl dX1_takeBack_70 ?_
      refine va_get (D := g.1) (ci := 3) (v := .ref ((ad (46 + 5 * 0 + 3)))) (C := RX3) (T := TX3) (N := 7) hx hb hts hinX3 hown hK (hb1 hW (show 46 + 5 * 0 < 126 by omega) (lcE r_46_5_0 (sh_S0 (w := 0) (by omega)))) 0 rfl rfl 2 (by decide) k75 (fun _ h9 => h9) rfl dX1_takeBack_71 ?_
      refine lv_aload_n hx hb dX1_takeBack_74 rfl (lv_at hl 1 rfl) ?_
      refine va_get (D := g.1) (ci := 4) (v := .int ((M (66 + 6 * jx)) 0)) (C := RX4) (T := TX4) (N := 6) hx hb hts hinX4 hown hK (hb1 hW (show 66 + 6 * jx < 126 by omega) (lcE r_66_6_jx sh_T0)) 0 rfl rfl 0 (by decide) k22 (fun _ h9 => h9) rfl dX1_takeBack_75 ?_
      refine z_top (y := zI (t)) (h0) ?_
      refine lv_iconst (v := zI (0)) hx hb dX1_takeBack_78 (by decide) ?_
      have r_46_5_0_3 : M4 (46 + 5 * 0 + 3) = M (46 + 5 * 0 + 3) := hex (46 + 5 * 0 + 3) (by omega) (by omega)
      refine y_zast hx hb hK hW hd9 hS (46 + 5 * 0 + 3) (show 46 + 5 * 0 + 3 < 126 by omega) (lcE r_46_5_0_3 (sh_S3 (w := 0) (by omega))) (by decide) (t) (by omega) (by omega) dX1_takeBack_79 (fun H locs hW hS => ?_)
      rw [show vp_nar .boolean (zI (0)) = zI (0) from (by decide)] at hW
      have hW := cw_up (P := P) (M := M4) (f := upd (M (46 + 5 * 0 + 3)) t (zI (0))) ((sh_S3 (w := 0) (by omega))) hW
      obtain ⟨M13, hM13⟩ : ∃ x9c : Nat → Nat → Int32, x9c = va_up M4 (46 + 5 * 0 + 3) (upd (M (46 + 5 * 0 + 3)) t (zI (0))) := ⟨_, rfl⟩
      have hW : cw g ad P M13 H := by rw [hM13]; exact hW
      have hex : ∀ j : Nat, ¬ j = 6 → ¬ j = 46 + 5 * 0 + 4 → ¬ j = 46 + 5 * 0 + 3 → M13 j = M j := fun j q0 q1 q2 => ((congrFun hM13 j).trans (up_ne _ _ q2)).trans (hex j q0 q1)
      have r_6 : M13 (6) = upd (upd (M 6) 0 (zI ((jx : Int)))) 1 (zI ((cn : Int) - 1)) := ((congrFun hM13 (6)).trans (up_ne _ _ (by omega))).trans r_6
      have r_7 : M13 (7) = M 7 := ((congrFun hM13 (7)).trans (up_ne _ _ (by omega))).trans r_7
      have r_5 : M13 (5) = M 5 := ((congrFun hM13 (5)).trans (up_ne _ _ (by omega))).trans r_5
      have r_46_5_0 : M13 (46 + 5 * 0) = M (46 + 5 * 0) := ((congrFun hM13 (46 + 5 * 0)).trans (up_ne _ _ (by omega))).trans r_46_5_0
      have r_66_6_jx : M13 (66 + 6 * jx) = M (66 + 6 * jx) := ((congrFun hM13 (66 + 6 * jx)).trans (up_ne _ _ (by omega))).trans r_66_6_jx
      have r_66_6_jx_1 : M13 (66 + 6 * jx + 1) = M (66 + 6 * jx + 1) := ((congrFun hM13 (66 + 6 * jx + 1)).trans (up_ne _ _ (by omega))).trans r_66_6_jx_1
      have r_66_6_jx_2_0 : M13 (66 + 6 * jx + (2 + 0)) = M (66 + 6 * jx + (2 + 0)) := ((congrFun hM13 (66 + 6 * jx + (2 + 0))).trans (up_ne _ _ (by omega))).trans r_66_6_jx_2_0
      have r_46_5_0_4 : M13 (46 + 5 * 0 + 4) = M (66 + 6 * jx + (2 + 0)) := ((congrFun hM13 (46 + 5 * 0 + 4)).trans (up_ne _ _ (by omega))).trans r_46_5_0_4
      have r_46_5_0_3 : M13 (46 + 5 * 0 + 3) = upd (M (46 + 5 * 0 + 3)) t (zI (0)) := ((congrFun hM13 _).trans (up_at _ _ _))
      refine z_iinc (lv' := [(3, .int (zI (0 + 1))), (2, .ref ((ad (66 + 6 * jx)))), (0, .ref ((ad 6))), (1, .ref ((ad 5)))]) hx hb dX1_takeBack_80 hl (k := 0) rfl (by decide) rfl (fun ls hl => ?_)
      refine lv_goto (tgt := 38) hx hb dX1_takeBack_83 (by decide) ?_
      refine lv_iload_n hx hb dX1_takeBack_38 rfl (lv_at hl 0 rfl) ?_
      refine lv_iconst (v := zI (4)) hx hb dX1_takeBack_39 (by decide) ?_
      refine z_icmp_ge (tgt := 86) hx hb dX1_takeBack_40 (by decide) (by omega) (by omega) (fun h40 => ?_) (fun h40 => ?_)
      · exfalso; omega
      · refine lv_aload_n hx hb dX1_takeBack_43 rfl (lv_at hl 3 rfl) ?_
        refine lv_iload_n hx hb dX1_takeBack_44 rfl (lv_at hl 0 rfl) ?_
        refine z_aald hx hb hK (hb1 hW (show 5 < 126 by omega) (lcE r_5 sh_5)) 0 4 rfl rfl rfl (by decide) (1) (by omega) (by omega) rfl dX1_takeBack_45 ?_
        have r_46_5_1 : M13 (46 + 5 * 1) = M (46 + 5 * 1) := hex (46 + 5 * 1) (by omega) (by omega) (by omega)
        refine va_get (D := g.1) (ci := 3) (v := .ref ((ad (46 + 5 * 1 + 4)))) (C := RX3) (T := TX3) (N := 7) hx hb hts hinX3 hown hK (hb1 hW (show 46 + 5 * 1 < 126 by omega) (lcE r_46_5_1 (sh_S0 (w := 1) (by omega)))) 0 rfl rfl 3 (by decide) k32 (fun _ h9 => h9) rfl dX1_takeBack_46 ?_
        refine lv_aload_n hx hb dX1_takeBack_49 rfl (lv_at hl 1 rfl) ?_
        refine va_get (D := g.1) (ci := 4) (v := .ref ((ad (66 + 6 * jx + 1)))) (C := RX4) (T := TX4) (N := 6) hx hb hts hinX4 hown hK (hb1 hW (show 66 + 6 * jx < 126 by omega) (lcE r_66_6_jx sh_T0)) 0 rfl rfl 5 (by decide) k28 (fun _ h9 => h9) rfl dX1_takeBack_50 ?_
        refine lv_iload_n hx hb dX1_takeBack_53 rfl (lv_at hl 0 rfl) ?_
        refine z_aald hx hb hK (hb1 hW (show 66 + 6 * jx + 1 < 126 by omega) (lcE r_66_6_jx_1 sh_T1)) 0 3 rfl rfl rfl (by decide) (1) (by omega) (by omega) rfl dX1_takeBack_54 ?_
        have r_46_5_1_4 : M13 (46 + 5 * 1 + 4) = M (46 + 5 * 1 + 4) := hex (46 + 5 * 1 + 4) (by omega) (by omega) (by omega)
        have r_66_6_jx_2_1 : M13 (66 + 6 * jx + (2 + 1)) = M (66 + 6 * jx + (2 + 1)) := hex (66 + 6 * jx + (2 + 1)) (by omega) (by omega) (by omega)
        refine va_callv (va_runV (As := [.ref ((ad (66 + 6 * jx + (2 + 1))))]) (rest := []) ⟨hx, hb, hml, hown, hts⟩ (c_X0_copyFrom l g (ad) (hd9) (lc g ad P M13) (46 + 5 * 1 + 4) (66 + 6 * jx + (2 + 1)) (by omega) (by omega) (by omega) (M (46 + 5 * 1 + 4)) (M (66 + 6 * jx + (2 + 1))) (lcE r_46_5_1_4 (sh_S4 (w := 1) (by omega))) (lcE r_66_6_jx_2_1 (sh_T2 (i := 1) (by omega)))) (cwV 1 hts gX1_takeBack_X0_copyFrom rfl rfl rfl (by decide +kernel) ⟨Nat.le_of_ble_eq_true rfl, Nat.le_of_ble_eq_true rfl⟩) (g_preV hW hK (va_recv hK (hb1 hW (show 46 + 5 * 1 + 4 < 126 by omega) (lcE r_46_5_1_4 (sh_S4 (w := 1) (by omega)))) (q0 := 0) (ci := 0) rfl rfl)) rfl rfl hl.1 rfl (lv_room (Nat.le_of_ble_eq_true rfl)) dX1_takeBack_55 ⟨Nat.le_of_ble_eq_true rfl, Nat.le_of_ble_eq_true rfl⟩) hS (fun q _ h => h) (fun q h => h) (fun c14 t9 H1 locs ht9 hvm9 hw9 hB9 hz9 hk9 hS => ?_)
        rw [ht9] at hB9
        have hW := hB9
        clear hB9 hz9 hk9 hvm9 ht9
        generalize H1 = H at hW hS ⊢
        have hW : hbP g ad c14 H := hW
        try dsimp only at hw9
        have hW : cw g ad P (va_up M13 (46 + 5 * 1 + 4) (M (66 + 6 * jx + (2 + 1)))) H := cw_1 hW hw9.1 (((sh_S4 (w := 1) (by omega))).trans rfl) hw9.2
        obtain ⟨M15, hM15⟩ : ∃ x9c : Nat → Nat → Int32, x9c = va_up M13 (46 + 5 * 1 + 4) (M (66 + 6 * jx + (2 + 1))) := ⟨_, rfl⟩
        have hW : cw g ad P M15 H := by rw [hM15]; exact hW
        have hex : ∀ j : Nat, ¬ j = 6 → ¬ j = 46 + 5 * 0 + 4 → ¬ j = 46 + 5 * 0 + 3 → ¬ j = 46 + 5 * 1 + 4 → M15 j = M j := fun j q0 q1 q2 q3 => ((congrFun hM15 j).trans (up_ne _ _ q3)).trans (hex j q0 q1 q2)
        have r_6 : M15 (6) = upd (upd (M 6) 0 (zI ((jx : Int)))) 1 (zI ((cn : Int) - 1)) := ((congrFun hM15 (6)).trans (up_ne _ _ (by omega))).trans r_6
        have r_7 : M15 (7) = M 7 := ((congrFun hM15 (7)).trans (up_ne _ _ (by omega))).trans r_7
        have r_5 : M15 (5) = M 5 := ((congrFun hM15 (5)).trans (up_ne _ _ (by omega))).trans r_5
        have r_46_5_0 : M15 (46 + 5 * 0) = M (46 + 5 * 0) := ((congrFun hM15 (46 + 5 * 0)).trans (up_ne _ _ (by omega))).trans r_46_5_0
        have r_66_6_jx : M15 (66 + 6 * jx) = M (66 + 6 * jx) := ((congrFun hM15 (66 + 6 * jx)).trans (up_ne _ _ (by omega))).trans r_66_6_jx
        have r_66_6_jx_1 : M15 (66 + 6 * jx + 1) = M (66 + 6 * jx + 1) := ((congrFun hM15 (66 + 6 * jx + 1)).trans (up_ne _ _ (by omega))).trans r_66_6_jx_1
        have r_66_6_jx_2_0 : M15 (66 + 6 * jx + (2 + 0)) = M (66 + 6 * jx + (2 + 0)) := ((congrFun hM15 (66 + 6 * jx + (2 + 0))).trans (up_ne _ _ (by omega))).trans r_66_6_jx_2_0
        have r_46_5_0_4 : M15 (46 + 5 * 0 + 4) = M (66 + 6 * jx + (2 + 0)) := ((congrFun hM15 (46 + 5 * 0 + 4)).trans (up_ne _ _ (by omega))).trans r_46_5_0_4
        have r_46_5_0_3 : M15 (46 + 5 * 0 + 3) = upd (M (46 + 5 * 0 + 3)) t (zI (0)) := ((congrFun hM15 (46 + 5 * 0 + 3)).trans (up_ne _ _ (by omega))).trans r_46_5_0_3
        have r_46_5_1 : M15 (46 + 5 * 1) = M (46 + 5 * 1) := ((congrFun hM15 (46 + 5 * 1)).trans (up_ne _ _ (by omega))).trans r_46_5_1
        have r_66_6_jx_2_1 : M15 (66 + 6 * jx + (2 + 1)) = M (66 + 6 * jx + (2 + 1)) := ((congrFun hM15 (66 + 6 * jx + (2 + 1))).trans (up_ne _ _ (by omega))).trans r_66_6_jx_2_1
        have r_46_5_1_4 : M15 (46 + 5 * 1 + 4) = M (66 + 6 * jx + (2 + 1)) := ((congrFun hM15 _).trans (up_at _ _ _))
        refine lv_aload_n hx hb dX1_takeBack_58 rfl (lv_at hl 1 rfl) ?_
        refine va_get (D := g.1) (ci := 4) (v := .int ((M (66 + 6 * jx)) 0)) (C := RX4) (T := TX4) (N := 6) hx hb hts hinX4 hown hK (hb1 hW (show 66 + 6 * jx < 126 by omega) (lcE r_66_6_jx sh_T0)) 0 rfl rfl 0 (by decide) k22 (fun _ h9 => h9) rfl dX1_takeBack_59 ?_
        refine z_top (y := zI (t)) (h0) ?_
        refine vp_callSi (va_Run.run (va_runSN (As := [.int (zI (t))]) (rest := []) ⟨hx, hb, hml, hown, hts⟩ (c_X8_isDay l (t) (by omega)) ⟨va_cnB 1 hts ggX1_takeBack_X8_isDay rfl rfl rfl hC.1 kIni (by decide +kernel) ⟨Nat.le_of_ble_eq_true rfl, Nat.le_of_ble_eq_true rfl⟩, kSta, trivial⟩ g_preS0 rfl rfl hl.1 rfl (lv_room (Nat.le_of_ble_eq_true rfl)) dX1_takeBack_62 ⟨Nat.le_of_ble_eq_true rfl, Nat.le_of_ble_eq_true rfl⟩)) (fun r hr9 => ?_)
        subst hr9
        refine z_bz_eq (tgt := 80) hx hb dX1_takeBack_65 (by decide) (fun h65 => ?_) (fun h65 => ?_)
        · exfalso; omega
        · refine lv_aload_n hx hb dX1_takeBack_68 rfl (lv_at hl 3 rfl) ?_
          refine lv_iload_n hx hb dX1_takeBack_69 rfl (lv_at hl 0 rfl) ?_
          refine z_aald hx hb hK (hb1 hW (show 5 < 126 by omega) (lcE r_5 sh_5)) 0 4 rfl rfl rfl (by decide) (1) (by omega) (by omega) rfl dX1_takeBack_70 ?_
          refine va_get (D := g.1) (ci := 3) (v := .ref ((ad (46 + 5 * 1 + 3)))) (C := RX3) (T := TX3) (N := 7) hx hb hts hinX3 hown hK (hb1 hW (show 46 + 5 * 1 < 126 by omega) (lcE r_46_5_1 (sh_S0 (w := 1) (by omega)))) 0 rfl rfl 2 (by decide) k75 (fun _ h9 => h9) rfl dX1_takeBack_71 ?_
          refine lv_aload_n hx hb dX1_takeBack_74 rfl (lv_at hl 1 rfl) ?_
          refine va_get (D := g.1) (ci := 4) (v := .int ((M (66 + 6 * jx)) 0)) (C := RX4) (T := TX4) (N := 6) hx hb hts hinX4 hown hK (hb1 hW (show 66 + 6 * jx < 126 by omega) (lcE r_66_6_jx sh_T0)) 0 rfl rfl 0 (by decide) k22 (fun _ h9 => h9) rfl dX1_takeBack_75 ?_
          refine z_top (y := zI (t)) (h0) ?_
          refine lv_iconst (v := zI (0)) hx hb dX1_takeBack_78 (by decide) ?_
          have r_46_5_1_3 : M15 (46 + 5 * 1 + 3) = M (46 + 5 * 1 + 3) := hex (46 + 5 * 1 + 3) (by omega) (by omega) (by omega) (by omega)
          refine y_zast hx hb hK hW hd9 hS (46 + 5 * 1 + 3) (show 46 + 5 * 1 + 3 < 126 by omega) (lcE r_46_5_1_3 (sh_S3 (w := 1) (by omega))) (by decide) (t) (by omega) (by omega) dX1_takeBack_79 (fun H locs hW hS => ?_)
          rw [show vp_nar .boolean (zI (0)) = zI (0) from (by decide)] at hW
          have hW := cw_up (P := P) (M := M15) (f := upd (M (46 + 5 * 1 + 3)) t (zI (0))) ((sh_S3 (w := 1) (by omega))) hW
          obtain ⟨M16, hM16⟩ : ∃ x9c : Nat → Nat → Int32, x9c = va_up M15 (46 + 5 * 1 + 3) (upd (M (46 + 5 * 1 + 3)) t (zI (0))) := ⟨_, rfl⟩
          have hW : cw g ad P M16 H := by rw [hM16]; exact hW
          have hex : ∀ j : Nat, ¬ j = 6 → ¬ j = 46 + 5 * 0 + 4 → ¬ j = 46 + 5 * 0 + 3 → ¬ j = 46 + 5 * 1 + 4 → ¬ j = 46 + 5 * 1 + 3 → M16 j = M j := fun j q0 q1 q2 q3 q4 => ((congrFun hM16 j).trans (up_ne _ _ q4)).trans (hex j q0 q1 q2 q3)
          have r_6 : M16 (6) = upd (upd (M 6) 0 (zI ((jx : Int)))) 1 (zI ((cn : Int) - 1)) := ((congrFun hM16 (6)).trans (up_ne _ _ (by omega))).trans r_6
          have r_7 : M16 (7) = M 7 := ((congrFun hM16 (7)).trans (up_ne _ _ (by omega))).trans r_7
          have r_5 : M16 (5) = M 5 := ((congrFun hM16 (5)).trans (up_ne _ _ (by omega))).trans r_5
          have r_46_5_0 : M16 (46 + 5 * 0) = M (46 + 5 * 0) := ((congrFun hM16 (46 + 5 * 0)).trans (up_ne _ _ (by omega))).trans r_46_5_0
          have r_66_6_jx : M16 (66 + 6 * jx) = M (66 + 6 * jx) := ((congrFun hM16 (66 + 6 * jx)).trans (up_ne _ _ (by omega))).trans r_66_6_jx
          have r_66_6_jx_1 : M16 (66 + 6 * jx + 1) = M (66 + 6 * jx + 1) := ((congrFun hM16 (66 + 6 * jx + 1)).trans (up_ne _ _ (by omega))).trans r_66_6_jx_1
          have r_66_6_jx_2_0 : M16 (66 + 6 * jx + (2 + 0)) = M (66 + 6 * jx + (2 + 0)) := ((congrFun hM16 (66 + 6 * jx + (2 + 0))).trans (up_ne _ _ (by omega))).trans r_66_6_jx_2_0
          have r_46_5_0_4 : M16 (46 + 5 * 0 + 4) = M (66 + 6 * jx + (2 + 0)) := ((congrFun hM16 (46 + 5 * 0 + 4)).trans (up_ne _ _ (by omega))).trans r_46_5_0_4
          have r_46_5_0_3 : M16 (46 + 5 * 0 + 3) = upd (M (46 + 5 * 0 + 3)) t (zI (0)) := ((congrFun hM16 (46 + 5 * 0 + 3)).trans (up_ne _ _ (by omega))).trans r_46_5_0_3
          have r_46_5_1 : M16 (46 + 5 * 1) = M (46 + 5 * 1) := ((congrFun hM16 (46 + 5 * 1)).trans (up_ne _ _ (by omega))).trans r_46_5_1
          have r_66_6_jx_2_1 : M16 (66 + 6 * jx + (2 + 1)) = M (66 + 6 * jx + (2 + 1)) := ((congrFun hM16 (66 + 6 * jx + (2 + 1))).trans (up_ne _ _ (by omega))).trans r_66_6_jx_2_1
          have r_46_5_1_4 : M16 (46 + 5 * 1 + 4) = M (66 + 6 * jx + (2 + 1)) := ((congrFun hM16 (46 + 5 * 1 + 4)).trans (up_ne _ _ (by omega))).trans r_46_5_1_4
          have r_46_5_1_3 : M16 (46 + 5 * 1 + 3) = upd (M (46 + 5 * 1 + 3)) t (zI (0)) := ((congrFun hM16 _).trans (up_at _ _ _))
          refine z_iinc (lv' := [(3, .int (zI ((0 + 1) + 1))), (2, .ref ((ad (66 + 6 * jx)))), (0, .ref ((ad 6))), (1, .ref ((ad 5)))]) hx hb dX1_takeBack_80 hl (k := 0) rfl (by decide) rfl (fun ls hl => ?_)
          refine lv_goto (tgt := 38) hx hb dX1_takeBack_83 (by decide) ?_
          refine lv_iload_n hx hb dX1_takeBack_38 rfl (lv_at hl 0 rfl) ?_
          refine lv_iconst (v := zI (4)) hx hb dX1_takeBack_39 (by decide) ?_
          refine z_icmp_ge (tgt := 86) hx hb dX1_takeBack_40 (by decide) (by omega) (by omega) (fun h40 => ?_) (fun h40 => ?_)
          · exfalso; omega
          · refine lv_aload_n hx hb dX1_takeBack_43 rfl (lv_at hl 3 rfl) ?_
            refine lv_iload_n hx hb dX1_takeBack_44 rfl (lv_at hl 0 rfl) ?_
            refine z_aald hx hb hK (hb1 hW (show 5 < 126 by omega) (lcE r_5 sh_5)) 0 4 rfl rfl rfl (by decide) (2) (by omega) (by omega) rfl dX1_takeBack_45 ?_
            have r_46_5_2 : M16 (46 + 5 * 2) = M (46 + 5 * 2) := hex (46 + 5 * 2) (by omega) (by omega) (by omega) (by omega) (by omega)
            refine va_get (D := g.1) (ci := 3) (v := .ref ((ad (46 + 5 * 2 + 4)))) (C := RX3) (T := TX3) (N := 7) hx hb hts hinX3 hown hK (hb1 hW (show 46 + 5 * 2 < 126 by omega) (lcE r_46_5_2 (sh_S0 (w := 2) (by omega)))) 0 rfl rfl 3 (by decide) k32 (fun _ h9 => h9) rfl dX1_takeBack_46 ?_
            refine lv_aload_n hx hb dX1_takeBack_49 rfl (lv_at hl 1 rfl) ?_
            refine va_get (D := g.1) (ci := 4) (v := .ref ((ad (66 + 6 * jx + 1)))) (C := RX4) (T := TX4) (N := 6) hx hb hts hinX4 hown hK (hb1 hW (show 66 + 6 * jx < 126 by omega) (lcE r_66_6_jx sh_T0)) 0 rfl rfl 5 (by decide) k28 (fun _ h9 => h9) rfl dX1_takeBack_50 ?_
            refine lv_iload_n hx hb dX1_takeBack_53 rfl (lv_at hl 0 rfl) ?_
            refine z_aald hx hb hK (hb1 hW (show 66 + 6 * jx + 1 < 126 by omega) (lcE r_66_6_jx_1 sh_T1)) 0 3 rfl rfl rfl (by decide) (2) (by omega) (by omega) rfl dX1_takeBack_54 ?_
            have r_46_5_2_4 : M16 (46 + 5 * 2 + 4) = M (46 + 5 * 2 + 4) := hex (46 + 5 * 2 + 4) (by omega) (by omega) (by omega) (by omega) (by omega)
            have r_66_6_jx_2_2 : M16 (66 + 6 * jx + (2 + 2)) = M (66 + 6 * jx + (2 + 2)) := hex (66 + 6 * jx + (2 + 2)) (by omega) (by omega) (by omega) (by omega) (by omega)
            refine va_callv (va_runV (As := [.ref ((ad (66 + 6 * jx + (2 + 2))))]) (rest := []) ⟨hx, hb, hml, hown, hts⟩ (c_X0_copyFrom l g (ad) (hd9) (lc g ad P M16) (46 + 5 * 2 + 4) (66 + 6 * jx + (2 + 2)) (by omega) (by omega) (by omega) (M (46 + 5 * 2 + 4)) (M (66 + 6 * jx + (2 + 2))) (lcE r_46_5_2_4 (sh_S4 (w := 2) (by omega))) (lcE r_66_6_jx_2_2 (sh_T2 (i := 2) (by omega)))) (cwV 1 hts gX1_takeBack_X0_copyFrom rfl rfl rfl (by decide +kernel) ⟨Nat.le_of_ble_eq_true rfl, Nat.le_of_ble_eq_true rfl⟩) (g_preV hW hK (va_recv hK (hb1 hW (show 46 + 5 * 2 + 4 < 126 by omega) (lcE r_46_5_2_4 (sh_S4 (w := 2) (by omega)))) (q0 := 0) (ci := 0) rfl rfl)) rfl rfl hl.1 rfl (lv_room (Nat.le_of_ble_eq_true rfl)) dX1_takeBack_55 ⟨Nat.le_of_ble_eq_true rfl, Nat.le_of_ble_eq_true rfl⟩) hS (fun q _ h => h) (fun q h => h) (fun c17 t9 H1 locs ht9 hvm9 hw9 hB9 hz9 hk9 hS => ?_)
            rw [ht9] at hB9
            have hW := hB9
            clear hB9 hz9 hk9 hvm9 ht9
            generalize H1 = H at hW hS ⊢
            have hW : hbP g ad c17 H := hW
            try dsimp only at hw9
            have hW : cw g ad P (va_up M16 (46 + 5 * 2 + 4) (M (66 + 6 * jx + (2 + 2)))) H := cw_1 hW hw9.1 (((sh_S4 (w := 2) (by omega))).trans rfl) hw9.2
            obtain ⟨M18, hM18⟩ : ∃ x9c : Nat → Nat → Int32, x9c = va_up M16 (46 + 5 * 2 + 4) (M (66 + 6 * jx + (2 + 2))) := ⟨_, rfl⟩
            have hW : cw g ad P M18 H := by rw [hM18]; exact hW
            have hex : ∀ j : Nat, ¬ j = 6 → ¬ j = 46 + 5 * 0 + 4 → ¬ j = 46 + 5 * 0 + 3 → ¬ j = 46 + 5 * 1 + 4 → ¬ j = 46 + 5 * 1 + 3 → ¬ j = 46 + 5 * 2 + 4 → M18 j = M j := fun j q0 q1 q2 q3 q4 q5 => ((congrFun hM18 j).trans (up_ne _ _ q5)).trans (hex j q0 q1 q2 q3 q4)
            have r_6 : M18 (6) = upd (upd (M 6) 0 (zI ((jx : Int)))) 1 (zI ((cn : Int) - 1)) := ((congrFun hM18 (6)).trans (up_ne _ _ (by omega))).trans r_6
            have r_7 : M18 (7) = M 7 := ((congrFun hM18 (7)).trans (up_ne _ _ (by omega))).trans r_7
            have r_5 : M18 (5) = M 5 := ((congrFun hM18 (5)).trans (up_ne _ _ (by omega))).trans r_5
            have r_46_5_0 : M18 (46 + 5 * 0) = M (46 + 5 * 0) := ((congrFun hM18 (46 + 5 * 0)).trans (up_ne _ _ (by omega))).trans r_46_5_0
            have r_66_6_jx : M18 (66 + 6 * jx) = M (66 + 6 * jx) := ((congrFun hM18 (66 + 6 * jx)).trans (up_ne _ _ (by omega))).trans r_66_6_jx
            have r_66_6_jx_1 : M18 (66 + 6 * jx + 1) = M (66 + 6 * jx + 1) := ((congrFun hM18 (66 + 6 * jx + 1)).trans (up_ne _ _ (by omega))).trans r_66_6_jx_1
            have r_66_6_jx_2_0 : M18 (66 + 6 * jx + (2 + 0)) = M (66 + 6 * jx + (2 + 0)) := ((congrFun hM18 (66 + 6 * jx + (2 + 0))).trans (up_ne _ _ (by omega))).trans r_66_6_jx_2_0
            have r_46_5_0_4 : M18 (46 + 5 * 0 + 4) = M (66 + 6 * jx + (2 + 0)) := ((congrFun hM18 (46 + 5 * 0 + 4)).trans (up_ne _ _ (by omega))).trans r_46_5_0_4
            have r_46_5_0_3 : M18 (46 + 5 * 0 + 3) = upd (M (46 + 5 * 0 + 3)) t (zI (0)) := ((congrFun hM18 (46 + 5 * 0 + 3)).trans (up_ne _ _ (by omega))).trans r_46_5_0_3
            have r_46_5_1 : M18 (46 + 5 * 1) = M (46 + 5 * 1) := ((congrFun hM18 (46 + 5 * 1)).trans (up_ne _ _ (by omega))).trans r_46_5_1
            have r_66_6_jx_2_1 : M18 (66 + 6 * jx + (2 + 1)) = M (66 + 6 * jx + (2 + 1)) := ((congrFun hM18 (66 + 6 * jx + (2 + 1))).trans (up_ne _ _ (by omega))).trans r_66_6_jx_2_1
            have r_46_5_1_4 : M18 (46 + 5 * 1 + 4) = M (66 + 6 * jx + (2 + 1)) := ((congrFun hM18 (46 + 5 * 1 + 4)).trans (up_ne _ _ (by omega))).trans r_46_5_1_4
            have r_46_5_1_3 : M18 (46 + 5 * 1 + 3) = upd (M (46 + 5 * 1 + 3)) t (zI (0)) := ((congrFun hM18 (46 + 5 * 1 + 3)).trans (up_ne _ _ (by omega))).trans r_46_5_1_3
            have r_46_5_2 : M18 (46 + 5 * 2) = M (46 + 5 * 2) := ((congrFun hM18 (46 + 5 * 2)).trans (up_ne _ _ (by omega))).trans r_46_5_2
            have r_66_6_jx_2_2 : M18 (66 + 6 * jx + (2 + 2)) = M (66 + 6 * jx + (2 + 2)) := ((congrFun hM18 (66 + 6 * jx + (2 + 2))).trans (up_ne _ _ (by omega))).trans r_66_6_jx_2_2
            have r_46_5_2_4 : M18 (46 + 5 * 2 + 4) = M (66 + 6 * jx + (2 + 2)) := ((congrFun hM18 _).trans (up_at _ _ _))
            refine lv_aload_n hx hb dX1_takeBack_58 rfl (lv_at hl 1 rfl) ?_
            refine va_get (D := g.1) (ci := 4) (v := .int ((M (66 + 6 * jx)) 0)) (C := RX4) (T := TX4) (N := 6) hx hb hts hinX4 hown hK (hb1 hW (show 66 + 6 * jx < 126 by omega) (lcE r_66_6_jx sh_T0)) 0 rfl rfl 0 (by decide) k22 (fun _ h9 => h9) rfl dX1_takeBack_59 ?_
            refine z_top (y := zI (t)) (h0) ?_
            refine vp_callSi (va_Run.run (va_runSN (As := [.int (zI (t))]) (rest := []) ⟨hx, hb, hml, hown, hts⟩ (c_X8_isDay l (t) (by omega)) ⟨va_cnB 1 hts ggX1_takeBack_X8_isDay rfl rfl rfl hC.1 kIni (by decide +kernel) ⟨Nat.le_of_ble_eq_true rfl, Nat.le_of_ble_eq_true rfl⟩, kSta, trivial⟩ g_preS0 rfl rfl hl.1 rfl (lv_room (Nat.le_of_ble_eq_true rfl)) dX1_takeBack_62 ⟨Nat.le_of_ble_eq_true rfl, Nat.le_of_ble_eq_true rfl⟩)) (fun r hr9 => ?_)
            subst hr9
            refine z_bz_eq (tgt := 80) hx hb dX1_takeBack_65 (by decide) (fun h65 => ?_) (fun h65 => ?_)
            · exfalso; omega
            · refine lv_aload_n hx hb dX1_takeBack_68 rfl (lv_at hl 3 rfl) ?_
              refine lv_iload_n hx hb dX1_takeBack_69 rfl (lv_at hl 0 rfl) ?_
              refine z_aald hx hb hK (hb1 hW (show 5 < 126 by omega) (lcE r_5 sh_5)) 0 4 rfl rfl rfl (by decide) (2) (by omega) (by omega) rfl dX1_takeBack_70 ?_
              refine va_get (D := g.1) (ci := 3) (v := .ref ((ad (46 + 5 * 2 + 3)))) (C := RX3) (T := TX3) (N := 7) hx hb hts hinX3 hown hK (hb1 hW (show 46 + 5 * 2 < 126 by omega) (lcE r_46_5_2 (sh_S0 (w := 2) (by omega)))) 0 rfl rfl 2 (by decide) k75 (fun _ h9 => h9) rfl dX1_takeBack_71 ?_
              refine lv_aload_n hx hb dX1_takeBack_74 rfl (lv_at hl 1 rfl) ?_
              refine va_get (D := g.1) (ci := 4) (v := .int ((M (66 + 6 * jx)) 0)) (C := RX4) (T := TX4) (N := 6) hx hb hts hinX4 hown hK (hb1 hW (show 66 + 6 * jx < 126 by omega) (lcE r_66_6_jx sh_T0)) 0 rfl rfl 0 (by decide) k22 (fun _ h9 => h9) rfl dX1_takeBack_75 ?_
              refine z_top (y := zI (t)) (h0) ?_
              refine lv_iconst (v := zI (0)) hx hb dX1_takeBack_78 (by decide) ?_
              have r_46_5_2_3 : M18 (46 + 5 * 2 + 3) = M (46 + 5 * 2 + 3) := hex (46 + 5 * 2 + 3) (by omega) (by omega) (by omega) (by omega) (by omega) (by omega)
              refine y_zast hx hb hK hW hd9 hS (46 + 5 * 2 + 3) (show 46 + 5 * 2 + 3 < 126 by omega) (lcE r_46_5_2_3 (sh_S3 (w := 2) (by omega))) (by decide) (t) (by omega) (by omega) dX1_takeBack_79 (fun H locs hW hS => ?_)
              rw [show vp_nar .boolean (zI (0)) = zI (0) from (by decide)] at hW
              have hW := cw_up (P := P) (M := M18) (f := upd (M (46 + 5 * 2 + 3)) t (zI (0))) ((sh_S3 (w := 2) (by omega))) hW
              obtain ⟨M19, hM19⟩ : ∃ x9c : Nat → Nat → Int32, x9c = va_up M18 (46 + 5 * 2 + 3) (upd (M (46 + 5 * 2 + 3)) t (zI (0))) := ⟨_, rfl⟩
              have hW : cw g ad P M19 H := by rw [hM19]; exact hW
              have hex : ∀ j : Nat, ¬ j = 6 → ¬ j = 46 + 5 * 0 + 4 → ¬ j = 46 + 5 * 0 + 3 → ¬ j = 46 + 5 * 1 + 4 → ¬ j = 46 + 5 * 1 + 3 → ¬ j = 46 + 5 * 2 + 4 → ¬ j = 46 + 5 * 2 + 3 → M19 j = M j := fun j q0 q1 q2 q3 q4 q5 q6 => ((congrFun hM19 j).trans (up_ne _ _ q6)).trans (hex j q0 q1 q2 q3 q4 q5)
              have r_6 : M19 (6) = upd (upd (M 6) 0 (zI ((jx : Int)))) 1 (zI ((cn : Int) - 1)) := ((congrFun hM19 (6)).trans (up_ne _ _ (by omega))).trans r_6
              have r_7 : M19 (7) = M 7 := ((congrFun hM19 (7)).trans (up_ne _ _ (by omega))).trans r_7
              have r_5 : M19 (5) = M 5 := ((congrFun hM19 (5)).trans (up_ne _ _ (by omega))).trans r_5
              have r_46_5_0 : M19 (46 + 5 * 0) = M (46 + 5 * 0) := ((congrFun hM19 (46 + 5 * 0)).trans (up_ne _ _ (by omega))).trans r_46_5_0
              have r_66_6_jx : M19 (66 + 6 * jx) = M (66 + 6 * jx) := ((congrFun hM19 (66 + 6 * jx)).trans (up_ne _ _ (by omega))).trans r_66_6_jx
              have r_66_6_jx_1 : M19 (66 + 6 * jx + 1) = M (66 + 6 * jx + 1) := ((congrFun hM19 (66 + 6 * jx + 1)).trans (up_ne _ _ (by omega))).trans r_66_6_jx_1
              have r_66_6_jx_2_0 : M19 (66 + 6 * jx + (2 + 0)) = M (66 + 6 * jx + (2 + 0)) := ((congrFun hM19 (66 + 6 * jx + (2 + 0))).trans (up_ne _ _ (by omega))).trans r_66_6_jx_2_0
              have r_46_5_0_4 : M19 (46 + 5 * 0 + 4) = M (66 + 6 * jx + (2 + 0)) := ((congrFun hM19 (46 + 5 * 0 + 4)).trans (up_ne _ _ (by omega))).trans r_46_5_0_4
              have r_46_5_0_3 : M19 (46 + 5 * 0 + 3) = upd (M (46 + 5 * 0 + 3)) t (zI (0)) := ((congrFun hM19 (46 + 5 * 0 + 3)).trans (up_ne _ _ (by omega))).trans r_46_5_0_3
              have r_46_5_1 : M19 (46 + 5 * 1) = M (46 + 5 * 1) := ((congrFun hM19 (46 + 5 * 1)).trans (up_ne _ _ (by omega))).trans r_46_5_1
              have r_66_6_jx_2_1 : M19 (66 + 6 * jx + (2 + 1)) = M (66 + 6 * jx + (2 + 1)) := ((congrFun hM19 (66 + 6 * jx + (2 + 1))).trans (up_ne _ _ (by omega))).trans r_66_6_jx_2_1
              have r_46_5_1_4 : M19 (46 + 5 * 1 + 4) = M (66 + 6 * jx + (2 + 1)) := ((congrFun hM19 (46 + 5 * 1 + 4)).trans (up_ne _ _ (by omega))).trans r_46_5_1_4
              have r_46_5_1_3 : M19 (46 + 5 * 1 + 3) = upd (M (46 + 5 * 1 + 3)) t (zI (0)) := ((congrFun hM19 (46 + 5 * 1 + 3)).trans (up_ne _ _ (by omega))).trans r_46_5_1_3
              have r_46_5_2 : M19 (46 + 5 * 2) = M (46 + 5 * 2) := ((congrFun hM19 (46 + 5 * 2)).trans (up_ne _ _ (by omega))).trans r_46_5_2
              have r_66_6_jx_2_2 : M19 (66 + 6 * jx + (2 + 2)) = M (66 + 6 * jx + (2 + 2)) := ((congrFun hM19 (66 + 6 * jx + (2 + 2))).trans (up_ne _ _ (by omega))).trans r_66_6_jx_2_2
              have r_46_5_2_4 : M19 (46 + 5 * 2 + 4) = M (66 + 6 * jx + (2 + 2)) := ((congrFun hM19 (46 + 5 * 2 + 4)).trans (up_ne _ _ (by omega))).trans r_46_5_2_4
              have r_46_5_2_3 : M19 (46 + 5 * 2 + 3) = upd (M (46 + 5 * 2 + 3)) t (zI (0)) := ((congrFun hM19 _).trans (up_at _ _ _))
              refine z_iinc (lv' := [(3, .int (zI (((0 + 1) + 1) + 1))), (2, .ref ((ad (66 + 6 * jx)))), (0, .ref ((ad 6))), (1, .ref ((ad 5)))]) hx hb dX1_takeBack_80 hl (k := 0) rfl (by decide) rfl (fun ls hl => ?_)
              refine lv_goto (tgt := 38) hx hb dX1_takeBack_83 (by decide) ?_
              refine lv_iload_n hx hb dX1_takeBack_38 rfl (lv_at hl 0 rfl) ?_
              refine lv_iconst (v := zI (4)) hx hb dX1_takeBack_39 (by decide) ?_
              refine z_icmp_ge (tgt := 86) hx hb dX1_takeBack_40 (by decide) (by omega) (by omega) (fun h40 => ?_) (fun h40 => ?_)
              · exfalso; omega
              · refine lv_aload_n hx hb dX1_takeBack_43 rfl (lv_at hl 3 rfl) ?_
                refine lv_iload_n hx hb dX1_takeBack_44 rfl (lv_at hl 0 rfl) ?_
                refine z_aald hx hb hK (hb1 hW (show 5 < 126 by omega) (lcE r_5 sh_5)) 0 4 rfl rfl rfl (by decide) (3) (by omega) (by omega) rfl dX1_takeBack_45 ?_
                have r_46_5_3 : M19 (46 + 5 * 3) = M (46 + 5 * 3) := hex (46 + 5 * 3) (by omega) (by omega) (by omega) (by omega) (by omega) (by omega) (by omega)
                refine va_get (D := g.1) (ci := 3) (v := .ref ((ad (46 + 5 * 3 + 4)))) (C := RX3) (T := TX3) (N := 7) hx hb hts hinX3 hown hK (hb1 hW (show 46 + 5 * 3 < 126 by omega) (lcE r_46_5_3 (sh_S0 (w := 3) (by omega)))) 0 rfl rfl 3 (by decide) k32 (fun _ h9 => h9) rfl dX1_takeBack_46 ?_
                refine lv_aload_n hx hb dX1_takeBack_49 rfl (lv_at hl 1 rfl) ?_
                refine va_get (D := g.1) (ci := 4) (v := .ref ((ad (66 + 6 * jx + 1)))) (C := RX4) (T := TX4) (N := 6) hx hb hts hinX4 hown hK (hb1 hW (show 66 + 6 * jx < 126 by omega) (lcE r_66_6_jx sh_T0)) 0 rfl rfl 5 (by decide) k28 (fun _ h9 => h9) rfl dX1_takeBack_50 ?_
                refine lv_iload_n hx hb dX1_takeBack_53 rfl (lv_at hl 0 rfl) ?_
                refine z_aald hx hb hK (hb1 hW (show 66 + 6 * jx + 1 < 126 by omega) (lcE r_66_6_jx_1 sh_T1)) 0 3 rfl rfl rfl (by decide) (3) (by omega) (by omega) rfl dX1_takeBack_54 ?_
                have r_46_5_3_4 : M19 (46 + 5 * 3 + 4) = M (46 + 5 * 3 + 4) := hex (46 + 5 * 3 + 4) (by omega) (by omega) (by omega) (by omega) (by omega) (by omega) (by omega)
                have r_66_6_jx_2_3 : M19 (66 + 6 * jx + (2 + 3)) = M (66 + 6 * jx + (2 + 3)) := hex (66 + 6 * jx + (2 + 3)) (by omega) (by omega) (by omega) (by omega) (by omega) (by omega) (by omega)
                refine va_callv (va_runV (As := [.ref ((ad (66 + 6 * jx + (2 + 3))))]) (rest := []) ⟨hx, hb, hml, hown, hts⟩ (c_X0_copyFrom l g (ad) (hd9) (lc g ad P M19) (46 + 5 * 3 + 4) (66 + 6 * jx + (2 + 3)) (by omega) (by omega) (by omega) (M (46 + 5 * 3 + 4)) (M (66 + 6 * jx + (2 + 3))) (lcE r_46_5_3_4 (sh_S4 (w := 3) (by omega))) (lcE r_66_6_jx_2_3 (sh_T2 (i := 3) (by omega)))) (cwV 1 hts gX1_takeBack_X0_copyFrom rfl rfl rfl (by decide +kernel) ⟨Nat.le_of_ble_eq_true rfl, Nat.le_of_ble_eq_true rfl⟩) (g_preV hW hK (va_recv hK (hb1 hW (show 46 + 5 * 3 + 4 < 126 by omega) (lcE r_46_5_3_4 (sh_S4 (w := 3) (by omega)))) (q0 := 0) (ci := 0) rfl rfl)) rfl rfl hl.1 rfl (lv_room (Nat.le_of_ble_eq_true rfl)) dX1_takeBack_55 ⟨Nat.le_of_ble_eq_true rfl, Nat.le_of_ble_eq_true rfl⟩) hS (fun q _ h => h) (fun q h => h) (fun c20 t9 H1 locs ht9 hvm9 hw9 hB9 hz9 hk9 hS => ?_)
                rw [ht9] at hB9
                have hW := hB9
                clear hB9 hz9 hk9 hvm9 ht9
                generalize H1 = H at hW hS ⊢
                have hW : hbP g ad c20 H := hW
                try dsimp only at hw9
                have hW : cw g ad P (va_up M19 (46 + 5 * 3 + 4) (M (66 + 6 * jx + (2 + 3)))) H := cw_1 hW hw9.1 (((sh_S4 (w := 3) (by omega))).trans rfl) hw9.2
                obtain ⟨M21, hM21⟩ : ∃ x9c : Nat → Nat → Int32, x9c = va_up M19 (46 + 5 * 3 + 4) (M (66 + 6 * jx + (2 + 3))) := ⟨_, rfl⟩
                have hW : cw g ad P M21 H := by rw [hM21]; exact hW
                have hex : ∀ j : Nat, ¬ j = 6 → ¬ j = 46 + 5 * 0 + 4 → ¬ j = 46 + 5 * 0 + 3 → ¬ j = 46 + 5 * 1 + 4 → ¬ j = 46 + 5 * 1 + 3 → ¬ j = 46 + 5 * 2 + 4 → ¬ j = 46 + 5 * 2 + 3 → ¬ j = 46 + 5 * 3 + 4 → M21 j = M j := fun j q0 q1 q2 q3 q4 q5 q6 q7 => ((congrFun hM21 j).trans (up_ne _ _ q7)).trans (hex j q0 q1 q2 q3 q4 q5 q6)
                have r_6 : M21 (6) = upd (upd (M 6) 0 (zI ((jx : Int)))) 1 (zI ((cn : Int) - 1)) := ((congrFun hM21 (6)).trans (up_ne _ _ (by omega))).trans r_6
                have r_7 : M21 (7) = M 7 := ((congrFun hM21 (7)).trans (up_ne _ _ (by omega))).trans r_7
                have r_5 : M21 (5) = M 5 := ((congrFun hM21 (5)).trans (up_ne _ _ (by omega))).trans r_5
                have r_46_5_0 : M21 (46 + 5 * 0) = M (46 + 5 * 0) := ((congrFun hM21 (46 + 5 * 0)).trans (up_ne _ _ (by omega))).trans r_46_5_0
                have r_66_6_jx : M21 (66 + 6 * jx) = M (66 + 6 * jx) := ((congrFun hM21 (66 + 6 * jx)).trans (up_ne _ _ (by omega))).trans r_66_6_jx
                have r_66_6_jx_1 : M21 (66 + 6 * jx + 1) = M (66 + 6 * jx + 1) := ((congrFun hM21 (66 + 6 * jx + 1)).trans (up_ne _ _ (by omega))).trans r_66_6_jx_1
                have r_66_6_jx_2_0 : M21 (66 + 6 * jx + (2 + 0)) = M (66 + 6 * jx + (2 + 0)) := ((congrFun hM21 (66 + 6 * jx + (2 + 0))).trans (up_ne _ _ (by omega))).trans r_66_6_jx_2_0
                have r_46_5_0_4 : M21 (46 + 5 * 0 + 4) = M (66 + 6 * jx + (2 + 0)) := ((congrFun hM21 (46 + 5 * 0 + 4)).trans (up_ne _ _ (by omega))).trans r_46_5_0_4
                have r_46_5_0_3 : M21 (46 + 5 * 0 + 3) = upd (M (46 + 5 * 0 + 3)) t (zI (0)) := ((congrFun hM21 (46 + 5 * 0 + 3)).trans (up_ne _ _ (by omega))).trans r_46_5_0_3
                have r_46_5_1 : M21 (46 + 5 * 1) = M (46 + 5 * 1) := ((congrFun hM21 (46 + 5 * 1)).trans (up_ne _ _ (by omega))).trans r_46_5_1
                have r_66_6_jx_2_1 : M21 (66 + 6 * jx + (2 + 1)) = M (66 + 6 * jx + (2 + 1)) := ((congrFun hM21 (66 + 6 * jx + (2 + 1))).trans (up_ne _ _ (by omega))).trans r_66_6_jx_2_1
                have r_46_5_1_4 : M21 (46 + 5 * 1 + 4) = M (66 + 6 * jx + (2 + 1)) := ((congrFun hM21 (46 + 5 * 1 + 4)).trans (up_ne _ _ (by omega))).trans r_46_5_1_4
                have r_46_5_1_3 : M21 (46 + 5 * 1 + 3) = upd (M (46 + 5 * 1 + 3)) t (zI (0)) := ((congrFun hM21 (46 + 5 * 1 + 3)).trans (up_ne _ _ (by omega))).trans r_46_5_1_3
                have r_46_5_2 : M21 (46 + 5 * 2) = M (46 + 5 * 2) := ((congrFun hM21 (46 + 5 * 2)).trans (up_ne _ _ (by omega))).trans r_46_5_2
                have r_66_6_jx_2_2 : M21 (66 + 6 * jx + (2 + 2)) = M (66 + 6 * jx + (2 + 2)) := ((congrFun hM21 (66 + 6 * jx + (2 + 2))).trans (up_ne _ _ (by omega))).trans r_66_6_jx_2_2
                have r_46_5_2_4 : M21 (46 + 5 * 2 + 4) = M (66 + 6 * jx + (2 + 2)) := ((congrFun hM21 (46 + 5 * 2 + 4)).trans (up_ne _ _ (by omega))).trans r_46_5_2_4
                have r_46_5_2_3 : M21 (46 + 5 * 2 + 3) = upd (M (46 + 5 * 2 + 3)) t (zI (0)) := ((congrFun hM21 (46 + 5 * 2 + 3)).trans (up_ne _ _ (by omega))).trans r_46_5_2_3
                have r_46_5_3 : M21 (46 + 5 * 3) = M (46 + 5 * 3) := ((congrFun hM21 (46 + 5 * 3)).trans (up_ne _ _ (by omega))).trans r_46_5_3
                have r_66_6_jx_2_3 : M21 (66 + 6 * jx + (2 + 3)) = M (66 + 6 * jx + (2 + 3)) := ((congrFun hM21 (66 + 6 * jx + (2 + 3))).trans (up_ne _ _ (by omega))).trans r_66_6_jx_2_3
                have r_46_5_3_4 : M21 (46 + 5 * 3 + 4) = M (66 + 6 * jx + (2 + 3)) := ((congrFun hM21 _).trans (up_at _ _ _))
                refine lv_aload_n hx hb dX1_takeBack_58 rfl (lv_at hl 1 rfl) ?_
                refine va_get (D := g.1) (ci := 4) (v := .int ((M (66 + 6 * jx)) 0)) (C := RX4) (T := TX4) (N := 6) hx hb hts hinX4 hown hK (hb1 hW (show 66 + 6 * jx < 126 by omega) (lcE r_66_6_jx sh_T0)) 0 rfl rfl 0 (by decide) k22 (fun _ h9 => h9) rfl dX1_takeBack_59 ?_
                refine z_top (y := zI (t)) (h0) ?_
                refine vp_callSi (va_Run.run (va_runSN (As := [.int (zI (t))]) (rest := []) ⟨hx, hb, hml, hown, hts⟩ (c_X8_isDay l (t) (by omega)) ⟨va_cnB 1 hts ggX1_takeBack_X8_isDay rfl rfl rfl hC.1 kIni (by decide +kernel) ⟨Nat.le_of_ble_eq_true rfl, Nat.le_of_ble_eq_true rfl⟩, kSta, trivial⟩ g_preS0 rfl rfl hl.1 rfl (lv_room (Nat.le_of_ble_eq_true rfl)) dX1_takeBack_62 ⟨Nat.le_of_ble_eq_true rfl, Nat.le_of_ble_eq_true rfl⟩)) (fun r hr9 => ?_)
                subst hr9
                refine z_bz_eq (tgt := 80) hx hb dX1_takeBack_65 (by decide) (fun h65 => ?_) (fun h65 => ?_)
                · exfalso; omega
                · refine lv_aload_n hx hb dX1_takeBack_68 rfl (lv_at hl 3 rfl) ?_
                  refine lv_iload_n hx hb dX1_takeBack_69 rfl (lv_at hl 0 rfl) ?_
                  refine z_aald hx hb hK (hb1 hW (show 5 < 126 by omega) (lcE r_5 sh_5)) 0 4 rfl rfl rfl (by decide) (3) (by omega) (by omega) rfl dX1_takeBack_70 ?_
                  refine va_get (D := g.1) (ci := 3) (v := .ref ((ad (46 + 5 * 3 + 3)))) (C := RX3) (T := TX3) (N := 7) hx hb hts hinX3 hown hK (hb1 hW (show 46 + 5 * 3 < 126 by omega) (lcE r_46_5_3 (sh_S0 (w := 3) (by omega)))) 0 rfl rfl 2 (by decide) k75 (fun _ h9 => h9) rfl dX1_takeBack_71 ?_
                  refine lv_aload_n hx hb dX1_takeBack_74 rfl (lv_at hl 1 rfl) ?_
                  refine va_get (D := g.1) (ci := 4) (v := .int ((M (66 + 6 * jx)) 0)) (C := RX4) (T := TX4) (N := 6) hx hb hts hinX4 hown hK (hb1 hW (show 66 + 6 * jx < 126 by omega) (lcE r_66_6_jx sh_T0)) 0 rfl rfl 0 (by decide) k22 (fun _ h9 => h9) rfl dX1_takeBack_75 ?_
                  refine z_top (y := zI (t)) (h0) ?_
                  refine lv_iconst (v := zI (0)) hx hb dX1_takeBack_78 (by decide) ?_
                  have r_46_5_3_3 : M21 (46 + 5 * 3 + 3) = M (46 + 5 * 3 + 3) := hex (46 + 5 * 3 + 3) (by omega) (by omega) (by omega) (by omega) (by omega) (by omega) (by omega) (by omega)
                  refine y_zast hx hb hK hW hd9 hS (46 + 5 * 3 + 3) (show 46 + 5 * 3 + 3 < 126 by omega) (lcE r_46_5_3_3 (sh_S3 (w := 3) (by omega))) (by decide) (t) (by omega) (by omega) dX1_takeBack_79 (fun H locs hW hS => ?_)
                  rw [show vp_nar .boolean (zI (0)) = zI (0) from (by decide)] at hW
                  have hW := cw_up (P := P) (M := M21) (f := upd (M (46 + 5 * 3 + 3)) t (zI (0))) ((sh_S3 (w := 3) (by omega))) hW
                  obtain ⟨M22, hM22⟩ : ∃ x9c : Nat → Nat → Int32, x9c = va_up M21 (46 + 5 * 3 + 3) (upd (M (46 + 5 * 3 + 3)) t (zI (0))) := ⟨_, rfl⟩
                  have hW : cw g ad P M22 H := by rw [hM22]; exact hW
                  have hex : ∀ j : Nat, ¬ j = 6 → ¬ j = 46 + 5 * 0 + 4 → ¬ j = 46 + 5 * 0 + 3 → ¬ j = 46 + 5 * 1 + 4 → ¬ j = 46 + 5 * 1 + 3 → ¬ j = 46 + 5 * 2 + 4 → ¬ j = 46 + 5 * 2 + 3 → ¬ j = 46 + 5 * 3 + 4 → ¬ j = 46 + 5 * 3 + 3 → M22 j = M j := fun j q0 q1 q2 q3 q4 q5 q6 q7 q8 => ((congrFun hM22 j).trans (up_ne _ _ q8)).trans (hex j q0 q1 q2 q3 q4 q5 q6 q7)
                  have r_6 : M22 (6) = upd (upd (M 6) 0 (zI ((jx : Int)))) 1 (zI ((cn : Int) - 1)) := ((congrFun hM22 (6)).trans (up_ne _ _ (by omega))).trans r_6
                  have r_7 : M22 (7) = M 7 := ((congrFun hM22 (7)).trans (up_ne _ _ (by omega))).trans r_7
                  have r_5 : M22 (5) = M 5 := ((congrFun hM22 (5)).trans (up_ne _ _ (by omega))).trans r_5
                  have r_46_5_0 : M22 (46 + 5 * 0) = M (46 + 5 * 0) := ((congrFun hM22 (46 + 5 * 0)).trans (up_ne _ _ (by omega))).trans r_46_5_0
                  have r_66_6_jx : M22 (66 + 6 * jx) = M (66 + 6 * jx) := ((congrFun hM22 (66 + 6 * jx)).trans (up_ne _ _ (by omega))).trans r_66_6_jx
                  have r_66_6_jx_1 : M22 (66 + 6 * jx + 1) = M (66 + 6 * jx + 1) := ((congrFun hM22 (66 + 6 * jx + 1)).trans (up_ne _ _ (by omega))).trans r_66_6_jx_1
                  have r_66_6_jx_2_0 : M22 (66 + 6 * jx + (2 + 0)) = M (66 + 6 * jx + (2 + 0)) := ((congrFun hM22 (66 + 6 * jx + (2 + 0))).trans (up_ne _ _ (by omega))).trans r_66_6_jx_2_0
                  have r_46_5_0_4 : M22 (46 + 5 * 0 + 4) = M (66 + 6 * jx + (2 + 0)) := ((congrFun hM22 (46 + 5 * 0 + 4)).trans (up_ne _ _ (by omega))).trans r_46_5_0_4
                  have r_46_5_0_3 : M22 (46 + 5 * 0 + 3) = upd (M (46 + 5 * 0 + 3)) t (zI (0)) := ((congrFun hM22 (46 + 5 * 0 + 3)).trans (up_ne _ _ (by omega))).trans r_46_5_0_3
                  have r_46_5_1 : M22 (46 + 5 * 1) = M (46 + 5 * 1) := ((congrFun hM22 (46 + 5 * 1)).trans (up_ne _ _ (by omega))).trans r_46_5_1
                  have r_66_6_jx_2_1 : M22 (66 + 6 * jx + (2 + 1)) = M (66 + 6 * jx + (2 + 1)) := ((congrFun hM22 (66 + 6 * jx + (2 + 1))).trans (up_ne _ _ (by omega))).trans r_66_6_jx_2_1
                  have r_46_5_1_4 : M22 (46 + 5 * 1 + 4) = M (66 + 6 * jx + (2 + 1)) := ((congrFun hM22 (46 + 5 * 1 + 4)).trans (up_ne _ _ (by omega))).trans r_46_5_1_4
                  have r_46_5_1_3 : M22 (46 + 5 * 1 + 3) = upd (M (46 + 5 * 1 + 3)) t (zI (0)) := ((congrFun hM22 (46 + 5 * 1 + 3)).trans (up_ne _ _ (by omega))).trans r_46_5_1_3
                  have r_46_5_2 : M22 (46 + 5 * 2) = M (46 + 5 * 2) := ((congrFun hM22 (46 + 5 * 2)).trans (up_ne _ _ (by omega))).trans r_46_5_2
                  have r_66_6_jx_2_2 : M22 (66 + 6 * jx + (2 + 2)) = M (66 + 6 * jx + (2 + 2)) := ((congrFun hM22 (66 + 6 * jx + (2 + 2))).trans (up_ne _ _ (by omega))).trans r_66_6_jx_2_2
                  have r_46_5_2_4 : M22 (46 + 5 * 2 + 4) = M (66 + 6 * jx + (2 + 2)) := ((congrFun hM22 (46 + 5 * 2 + 4)).trans (up_ne _ _ (by omega))).trans r_46_5_2_4
                  have r_46_5_2_3 : M22 (46 + 5 * 2 + 3) = upd (M (46 + 5 * 2 + 3)) t (zI (0)) := ((congrFun hM22 (46 + 5 * 2 + 3)).trans (up_ne _ _ (by omega))).trans r_46_5_2_3
                  have r_46_5_3 : M22 (46 + 5 * 3) = M (46 + 5 * 3) := ((congrFun hM22 (46 + 5 * 3)).trans (up_ne _ _ (by omega))).trans r_46_5_3
                  have r_66_6_jx_2_3 : M22 (66 + 6 * jx + (2 + 3)) = M (66 + 6 * jx + (2 + 3)) := ((congrFun hM22 (66 + 6 * jx + (2 + 3))).trans (up_ne _ _ (by omega))).trans r_66_6_jx_2_3
                  have r_46_5_3_4 : M22 (46 + 5 * 3 + 4) = M (66 + 6 * jx + (2 + 3)) := ((congrFun hM22 (46 + 5 * 3 + 4)).trans (up_ne _ _ (by omega))).trans r_46_5_3_4
                  have r_46_5_3_3 : M22 (46 + 5 * 3 + 3) = upd (M (46 + 5 * 3 + 3)) t (zI (0)) := ((congrFun hM22 _).trans (up_at _ _ _))
                  refine z_iinc (lv' := [(3, .int (zI ((((0 + 1) + 1) + 1) + 1))), (2, .ref ((ad (66 + 6 * jx)))), (0, .ref ((ad 6))), (1, .ref ((ad 5)))]) hx hb dX1_takeBack_80 hl (k := 0) rfl (by decide) rfl (fun ls hl => ?_)
                  refine lv_goto (tgt := 38) hx hb dX1_takeBack_83 (by decide) ?_
                  refine lv_iload_n hx hb dX1_takeBack_38 rfl (lv_at hl 0 rfl) ?_
                  refine lv_iconst (v := zI (4)) hx hb dX1_takeBack_39 (by decide) ?_
                  refine z_icmp_ge (tgt := 86) hx hb dX1_takeBack_40 (by decide) (by omega) (by omega) (fun h40 => ?_) (fun h40 => ?_)
                  · rcases h1 with h1 | h1
                    · refine lv_aload_n hx hb dX1_takeBack_86 rfl (lv_at hl 1 rfl) ?_
                      refine va_get (D := g.1) (ci := 4) (v := .int ((M (66 + 6 * jx)) 1)) (C := RX4) (T := TX4) (N := 6) hx hb hts hinX4 hown hK (hb1 hW (show 66 + 6 * jx < 126 by omega) (lcE r_66_6_jx sh_T0)) 0 rfl rfl 1 (by decide) k25 (fun _ h9 => h9) rfl dX1_takeBack_87 ?_
                      refine z_top (y := zI ((-1))) (h1) ?_
                      refine lv_iconst (v := zI (-1)) hx hb dX1_takeBack_90 (by decide) ?_
                      refine z_icmp_eq (tgt := 127) hx hb dX1_takeBack_91 (by decide) (by omega) (by omega) (fun h91 => ?_) (fun h91 => ?_)
                      · refine lv_aload_n hx hb dX1_takeBack_127 rfl (lv_at hl 1 rfl) ?_
                        refine va_get (D := g.1) (ci := 4) (v := .int ((M (66 + 6 * jx)) 0)) (C := RX4) (T := TX4) (N := 6) hx hb hts hinX4 hown hK (hb1 hW (show 66 + 6 * jx < 126 by omega) (lcE r_66_6_jx sh_T0)) 0 rfl rfl 0 (by decide) k22 (fun _ h9 => h9) rfl dX1_takeBack_128 ?_
                        refine z_top (y := zI (t)) (h0) ?_
                        have hW : cw g ad P (tkM M jx cn) H := by
                          have e9 : M22 = tkM M jx cn := by
                            refine tk_is ?_ (fun v hv k hk => ?_) (fun i h6 hi => hex i (by omega) (by omega) (by omega) (by omega) (by omega) (by omega) (by omega) (by omega) (by omega))
                            · rw [r_6]; rfl
                            · rcases (by omega : v = 0 ∨ v = 1 ∨ v = 2 ∨ v = 3) with rfl | rfl | rfl | rfl <;> rcases (by omega : k = 0 ∨ k = 1 ∨ k = 2 ∨ k = 3 ∨ k = 4) with rfl | rfl | rfl | rfl | rfl
                              · exact (hex _ (by omega) (by omega) (by omega) (by omega) (by omega) (by omega) (by omega) (by omega) (by omega)).trans (tk_ob (w := 0) (by omega)).symm
                              · exact (hex _ (by omega) (by omega) (by omega) (by omega) (by omega) (by omega) (by omega) (by omega) (by omega)).trans (tk_ctn (v := 0) (by omega) (by omega) h1).symm
                              · exact (hex _ (by omega) (by omega) (by omega) (by omega) (by omega) (by omega) (by omega) (by omega) (by omega)).trans (tk_ctn (v := 0) (by omega) (by omega) h1).symm
                              · exact r_46_5_0_3.trans (tk_fl1 (w := 0) (by omega) (by omega) h0).symm
                              · exact r_46_5_0_4.trans (tk_acc (w := 0) (by omega)).symm
                              · exact (hex _ (by omega) (by omega) (by omega) (by omega) (by omega) (by omega) (by omega) (by omega) (by omega)).trans (tk_ob (w := 1) (by omega)).symm
                              · exact (hex _ (by omega) (by omega) (by omega) (by omega) (by omega) (by omega) (by omega) (by omega) (by omega)).trans (tk_ctn (v := 1) (by omega) (by omega) h1).symm
                              · exact (hex _ (by omega) (by omega) (by omega) (by omega) (by omega) (by omega) (by omega) (by omega) (by omega)).trans (tk_ctn (v := 1) (by omega) (by omega) h1).symm
                              · exact r_46_5_1_3.trans (tk_fl1 (w := 1) (by omega) (by omega) h0).symm
                              · exact r_46_5_1_4.trans (tk_acc (w := 1) (by omega)).symm
                              · exact (hex _ (by omega) (by omega) (by omega) (by omega) (by omega) (by omega) (by omega) (by omega) (by omega)).trans (tk_ob (w := 2) (by omega)).symm
                              · exact (hex _ (by omega) (by omega) (by omega) (by omega) (by omega) (by omega) (by omega) (by omega) (by omega)).trans (tk_ctn (v := 2) (by omega) (by omega) h1).symm
                              · exact (hex _ (by omega) (by omega) (by omega) (by omega) (by omega) (by omega) (by omega) (by omega) (by omega)).trans (tk_ctn (v := 2) (by omega) (by omega) h1).symm
                              · exact r_46_5_2_3.trans (tk_fl1 (w := 2) (by omega) (by omega) h0).symm
                              · exact r_46_5_2_4.trans (tk_acc (w := 2) (by omega)).symm
                              · exact (hex _ (by omega) (by omega) (by omega) (by omega) (by omega) (by omega) (by omega) (by omega) (by omega)).trans (tk_ob (w := 3) (by omega)).symm
                              · exact (hex _ (by omega) (by omega) (by omega) (by omega) (by omega) (by omega) (by omega) (by omega) (by omega)).trans (tk_ctn (v := 3) (by omega) (by omega) h1).symm
                              · exact (hex _ (by omega) (by omega) (by omega) (by omega) (by omega) (by omega) (by omega) (by omega) (by omega)).trans (tk_ctn (v := 3) (by omega) (by omega) h1).symm
                              · exact r_46_5_3_3.trans (tk_fl1 (w := 3) (by omega) (by omega) h0).symm
                              · exact r_46_5_3_4.trans (tk_acc (w := 3) (by omega)).symm
                          rw [← e9]; exact hW
                        exact W.iret hx hb hr (fun tX htX hWX => ⟨⟨_, (), rfl, rfl, g_at htX hW⟩, hS.F htX⟩) hS.2.2 dX1_takeBack_131
                      · exfalso; omega
                    · refine lv_aload_n hx hb dX1_takeBack_86 rfl (lv_at hl 1 rfl) ?_
                      refine va_get (D := g.1) (ci := 4) (v := .int ((M (66 + 6 * jx)) 1)) (C := RX4) (T := TX4) (N := 6) hx hb hts hinX4 hown hK (hb1 hW (show 66 + 6 * jx < 126 by omega) (lcE r_66_6_jx sh_T0)) 0 rfl rfl 1 (by decide) k25 (fun _ h9 => h9) rfl dX1_takeBack_87 ?_
                      refine z_top (y := zI (w)) (h1.1) ?_
                      refine lv_iconst (v := zI (-1)) hx hb dX1_takeBack_90 (by decide) ?_
                      refine z_icmp_eq (tgt := 127) hx hb dX1_takeBack_91 (by decide) (by omega) (by omega) (fun h91 => ?_) (fun h91 => ?_)
                      · exfalso; omega
                      · refine lv_aload_n hx hb dX1_takeBack_94 rfl (lv_at hl 3 rfl) ?_
                        refine lv_aload_n hx hb dX1_takeBack_95 rfl (lv_at hl 1 rfl) ?_
                        refine va_get (D := g.1) (ci := 4) (v := .int ((M (66 + 6 * jx)) 1)) (C := RX4) (T := TX4) (N := 6) hx hb hts hinX4 hown hK (hb1 hW (show 66 + 6 * jx < 126 by omega) (lcE r_66_6_jx sh_T0)) 0 rfl rfl 1 (by decide) k25 (fun _ h9 => h9) rfl dX1_takeBack_96 ?_
                        refine z_top (y := zI (w)) (h1.1) ?_
                        refine z_aald hx hb hK (hb1 hW (show 5 < 126 by omega) (lcE r_5 sh_5)) 0 4 rfl rfl rfl (by decide) (w) (by omega) (by omega) rfl dX1_takeBack_99 ?_
                        refine lv_astore_n (lv' := [(3, .ref ((ad (46 + 5 * w)))), (2, .ref ((ad (66 + 6 * jx)))), (0, .ref ((ad 6))), (1, .ref ((ad 5)))]) hx hb dX1_takeBack_100 rfl hl (by decide) rfl (fun ls hl => ?_)
                        refine lv_aload_n hx hb dX1_takeBack_101 rfl (lv_at hl 0 rfl) ?_
                        have r_46_5_w : M22 (46 + 5 * w) = M (46 + 5 * w) := hex (46 + 5 * w) (by omega) (by omega) (by omega) (by omega) (by omega) (by omega) (by omega) (by omega) (by omega)
                        refine va_get (D := g.1) (ci := 3) (v := .ref ((ad (46 + 5 * w + 1)))) (C := RX3) (T := TX3) (N := 7) hx hb hts hinX3 hown hK (hb1 hW (show 46 + 5 * w < 126 by omega) (lcE r_46_5_w (sh_S0 (w := w) (by omega)))) 0 rfl rfl 0 (by decide) k60 (fun _ h9 => h9) rfl dX1_takeBack_102 ?_
                        refine lv_aload_n hx hb dX1_takeBack_105 rfl (lv_at hl 1 rfl) ?_
                        refine va_get (D := g.1) (ci := 4) (v := .int ((M (66 + 6 * jx)) 2)) (C := RX4) (T := TX4) (N := 6) hx hb hts hinX4 hown hK (hb1 hW (show 66 + 6 * jx < 126 by omega) (lcE r_66_6_jx sh_T0)) 0 rfl rfl 2 (by decide) k57 (fun _ h9 => h9) rfl dX1_takeBack_106 ?_
                        refine z_top (y := zI (d)) (h1.2) ?_
                        refine lv_aload_n hx hb dX1_takeBack_109 rfl (lv_at hl 1 rfl) ?_
                        refine va_get (D := g.1) (ci := 4) (v := .int ((M (66 + 6 * jx)) 3)) (C := RX4) (T := TX4) (N := 6) hx hb hts hinX4 hown hK (hb1 hW (show 66 + 6 * jx < 126 by omega) (lcE r_66_6_jx sh_T0)) 0 rfl rfl 3 (by decide) k64 (fun _ h9 => h9) rfl dX1_takeBack_110 ?_
                        have r_46_5_w_1 : M22 (46 + 5 * w + 1) = M (46 + 5 * w + 1) := hex (46 + 5 * w + 1) (by omega) (by omega) (by omega) (by omega) (by omega) (by omega) (by omega) (by omega) (by omega)
                        refine y_iast hx hb hK hW hd9 hS (46 + 5 * w + 1) (show 46 + 5 * w + 1 < 126 by omega) (lcE r_46_5_w_1 (sh_S1 (w := w) (by omega))) (by decide) (d) (by omega) (by omega) dX1_takeBack_113 (fun H locs hW hS => ?_)
                        have hW := cw_up (P := P) (M := M22) (f := upd (M (46 + 5 * w + 1)) d ((M (66 + 6 * jx)) 3)) ((sh_S1 (w := w) (by omega))) hW
                        obtain ⟨M23, hM23⟩ : ∃ x9c : Nat → Nat → Int32, x9c = va_up M22 (46 + 5 * w + 1) (upd (M (46 + 5 * w + 1)) d ((M (66 + 6 * jx)) 3)) := ⟨_, rfl⟩
                        have hW : cw g ad P M23 H := by rw [hM23]; exact hW
                        have hex : ∀ j : Nat, ¬ j = 6 → ¬ j = 46 + 5 * 0 + 4 → ¬ j = 46 + 5 * 0 + 3 → ¬ j = 46 + 5 * 1 + 4 → ¬ j = 46 + 5 * 1 + 3 → ¬ j = 46 + 5 * 2 + 4 → ¬ j = 46 + 5 * 2 + 3 → ¬ j = 46 + 5 * 3 + 4 → ¬ j = 46 + 5 * 3 + 3 → ¬ j = 46 + 5 * w + 1 → M23 j = M j := fun j q0 q1 q2 q3 q4 q5 q6 q7 q8 q9 => ((congrFun hM23 j).trans (up_ne _ _ q9)).trans (hex j q0 q1 q2 q3 q4 q5 q6 q7 q8)
                        have r_6 : M23 (6) = upd (upd (M 6) 0 (zI ((jx : Int)))) 1 (zI ((cn : Int) - 1)) := ((congrFun hM23 (6)).trans (up_ne _ _ (by omega))).trans r_6
                        have r_7 : M23 (7) = M 7 := ((congrFun hM23 (7)).trans (up_ne _ _ (by omega))).trans r_7
                        have r_5 : M23 (5) = M 5 := ((congrFun hM23 (5)).trans (up_ne _ _ (by omega))).trans r_5
                        have r_46_5_0 : M23 (46 + 5 * 0) = M (46 + 5 * 0) := ((congrFun hM23 (46 + 5 * 0)).trans (up_ne _ _ (by omega))).trans r_46_5_0
                        have r_66_6_jx : M23 (66 + 6 * jx) = M (66 + 6 * jx) := ((congrFun hM23 (66 + 6 * jx)).trans (up_ne _ _ (by omega))).trans r_66_6_jx
                        have r_66_6_jx_1 : M23 (66 + 6 * jx + 1) = M (66 + 6 * jx + 1) := ((congrFun hM23 (66 + 6 * jx + 1)).trans (up_ne _ _ (by omega))).trans r_66_6_jx_1
                        have r_66_6_jx_2_0 : M23 (66 + 6 * jx + (2 + 0)) = M (66 + 6 * jx + (2 + 0)) := ((congrFun hM23 (66 + 6 * jx + (2 + 0))).trans (up_ne _ _ (by omega))).trans r_66_6_jx_2_0
                        have r_46_5_0_4 : M23 (46 + 5 * 0 + 4) = M (66 + 6 * jx + (2 + 0)) := ((congrFun hM23 (46 + 5 * 0 + 4)).trans (up_ne _ _ (by omega))).trans r_46_5_0_4
                        have r_46_5_0_3 : M23 (46 + 5 * 0 + 3) = upd (M (46 + 5 * 0 + 3)) t (zI (0)) := ((congrFun hM23 (46 + 5 * 0 + 3)).trans (up_ne _ _ (by omega))).trans r_46_5_0_3
                        have r_46_5_1 : M23 (46 + 5 * 1) = M (46 + 5 * 1) := ((congrFun hM23 (46 + 5 * 1)).trans (up_ne _ _ (by omega))).trans r_46_5_1
                        have r_66_6_jx_2_1 : M23 (66 + 6 * jx + (2 + 1)) = M (66 + 6 * jx + (2 + 1)) := ((congrFun hM23 (66 + 6 * jx + (2 + 1))).trans (up_ne _ _ (by omega))).trans r_66_6_jx_2_1
                        have r_46_5_1_4 : M23 (46 + 5 * 1 + 4) = M (66 + 6 * jx + (2 + 1)) := ((congrFun hM23 (46 + 5 * 1 + 4)).trans (up_ne _ _ (by omega))).trans r_46_5_1_4
                        have r_46_5_1_3 : M23 (46 + 5 * 1 + 3) = upd (M (46 + 5 * 1 + 3)) t (zI (0)) := ((congrFun hM23 (46 + 5 * 1 + 3)).trans (up_ne _ _ (by omega))).trans r_46_5_1_3
                        have r_46_5_2 : M23 (46 + 5 * 2) = M (46 + 5 * 2) := ((congrFun hM23 (46 + 5 * 2)).trans (up_ne _ _ (by omega))).trans r_46_5_2
                        have r_66_6_jx_2_2 : M23 (66 + 6 * jx + (2 + 2)) = M (66 + 6 * jx + (2 + 2)) := ((congrFun hM23 (66 + 6 * jx + (2 + 2))).trans (up_ne _ _ (by omega))).trans r_66_6_jx_2_2
                        have r_46_5_2_4 : M23 (46 + 5 * 2 + 4) = M (66 + 6 * jx + (2 + 2)) := ((congrFun hM23 (46 + 5 * 2 + 4)).trans (up_ne _ _ (by omega))).trans r_46_5_2_4
                        have r_46_5_2_3 : M23 (46 + 5 * 2 + 3) = upd (M (46 + 5 * 2 + 3)) t (zI (0)) := ((congrFun hM23 (46 + 5 * 2 + 3)).trans (up_ne _ _ (by omega))).trans r_46_5_2_3
                        have r_46_5_3 : M23 (46 + 5 * 3) = M (46 + 5 * 3) := ((congrFun hM23 (46 + 5 * 3)).trans (up_ne _ _ (by omega))).trans r_46_5_3
                        have r_66_6_jx_2_3 : M23 (66 + 6 * jx + (2 + 3)) = M (66 + 6 * jx + (2 + 3)) := ((congrFun hM23 (66 + 6 * jx + (2 + 3))).trans (up_ne _ _ (by omega))).trans r_66_6_jx_2_3
                        have r_46_5_3_4 : M23 (46 + 5 * 3 + 4) = M (66 + 6 * jx + (2 + 3)) := ((congrFun hM23 (46 + 5 * 3 + 4)).trans (up_ne _ _ (by omega))).trans r_46_5_3_4
                        have r_46_5_3_3 : M23 (46 + 5 * 3 + 3) = upd (M (46 + 5 * 3 + 3)) t (zI (0)) := ((congrFun hM23 (46 + 5 * 3 + 3)).trans (up_ne _ _ (by omega))).trans r_46_5_3_3
                        have r_46_5_w : M23 (46 + 5 * w) = M (46 + 5 * w) := ((congrFun hM23 (46 + 5 * w)).trans (up_ne _ _ (by omega))).trans r_46_5_w
                        have r_46_5_w_1 : M23 (46 + 5 * w + 1) = upd (M (46 + 5 * w + 1)) d ((M (66 + 6 * jx)) 3) := ((congrFun hM23 _).trans (up_at _ _ _))
                        refine lv_aload_n hx hb dX1_takeBack_114 rfl (lv_at hl 0 rfl) ?_
                        refine va_get (D := g.1) (ci := 3) (v := .ref ((ad (46 + 5 * w + 2)))) (C := RX3) (T := TX3) (N := 7) hx hb hts hinX3 hown hK (hb1 hW (show 46 + 5 * w < 126 by omega) (lcE r_46_5_w (sh_S0 (w := w) (by omega)))) 0 rfl rfl 1 (by decide) k66 (fun _ h9 => h9) rfl dX1_takeBack_115 ?_
                        refine lv_aload_n hx hb dX1_takeBack_118 rfl (lv_at hl 1 rfl) ?_
                        refine va_get (D := g.1) (ci := 4) (v := .int ((M (66 + 6 * jx)) 2)) (C := RX4) (T := TX4) (N := 6) hx hb hts hinX4 hown hK (hb1 hW (show 66 + 6 * jx < 126 by omega) (lcE r_66_6_jx sh_T0)) 0 rfl rfl 2 (by decide) k57 (fun _ h9 => h9) rfl dX1_takeBack_119 ?_
                        refine z_top (y := zI (d)) (h1.2) ?_
                        refine lv_aload_n hx hb dX1_takeBack_122 rfl (lv_at hl 1 rfl) ?_
                        refine va_get (D := g.1) (ci := 4) (v := .int ((M (66 + 6 * jx)) 4)) (C := RX4) (T := TX4) (N := 6) hx hb hts hinX4 hown hK (hb1 hW (show 66 + 6 * jx < 126 by omega) (lcE r_66_6_jx sh_T0)) 0 rfl rfl 4 (by decide) k69 (fun _ h9 => h9) rfl dX1_takeBack_123 ?_
                        have r_46_5_w_2 : M23 (46 + 5 * w + 2) = M (46 + 5 * w + 2) := hex (46 + 5 * w + 2) (by omega) (by omega) (by omega) (by omega) (by omega) (by omega) (by omega) (by omega) (by omega) (by omega)
                        refine y_iast hx hb hK hW hd9 hS (46 + 5 * w + 2) (show 46 + 5 * w + 2 < 126 by omega) (lcE r_46_5_w_2 (sh_S2 (w := w) (by omega))) (by decide) (d) (by omega) (by omega) dX1_takeBack_126 (fun H locs hW hS => ?_)
                        have hW := cw_up (P := P) (M := M23) (f := upd (M (46 + 5 * w + 2)) d ((M (66 + 6 * jx)) 4)) ((sh_S2 (w := w) (by omega))) hW
                        obtain ⟨M24, hM24⟩ : ∃ x9c : Nat → Nat → Int32, x9c = va_up M23 (46 + 5 * w + 2) (upd (M (46 + 5 * w + 2)) d ((M (66 + 6 * jx)) 4)) := ⟨_, rfl⟩
                        have hW : cw g ad P M24 H := by rw [hM24]; exact hW
                        have hex : ∀ j : Nat, ¬ j = 6 → ¬ j = 46 + 5 * 0 + 4 → ¬ j = 46 + 5 * 0 + 3 → ¬ j = 46 + 5 * 1 + 4 → ¬ j = 46 + 5 * 1 + 3 → ¬ j = 46 + 5 * 2 + 4 → ¬ j = 46 + 5 * 2 + 3 → ¬ j = 46 + 5 * 3 + 4 → ¬ j = 46 + 5 * 3 + 3 → ¬ j = 46 + 5 * w + 1 → ¬ j = 46 + 5 * w + 2 → M24 j = M j := fun j q0 q1 q2 q3 q4 q5 q6 q7 q8 q9 q10 => ((congrFun hM24 j).trans (up_ne _ _ q10)).trans (hex j q0 q1 q2 q3 q4 q5 q6 q7 q8 q9)
                        have r_6 : M24 (6) = upd (upd (M 6) 0 (zI ((jx : Int)))) 1 (zI ((cn : Int) - 1)) := ((congrFun hM24 (6)).trans (up_ne _ _ (by omega))).trans r_6
                        have r_7 : M24 (7) = M 7 := ((congrFun hM24 (7)).trans (up_ne _ _ (by omega))).trans r_7
                        have r_5 : M24 (5) = M 5 := ((congrFun hM24 (5)).trans (up_ne _ _ (by omega))).trans r_5
                        have r_46_5_0 : M24 (46 + 5 * 0) = M (46 + 5 * 0) := ((congrFun hM24 (46 + 5 * 0)).trans (up_ne _ _ (by omega))).trans r_46_5_0
                        have r_66_6_jx : M24 (66 + 6 * jx) = M (66 + 6 * jx) := ((congrFun hM24 (66 + 6 * jx)).trans (up_ne _ _ (by omega))).trans r_66_6_jx
                        have r_66_6_jx_1 : M24 (66 + 6 * jx + 1) = M (66 + 6 * jx + 1) := ((congrFun hM24 (66 + 6 * jx + 1)).trans (up_ne _ _ (by omega))).trans r_66_6_jx_1
                        have r_66_6_jx_2_0 : M24 (66 + 6 * jx + (2 + 0)) = M (66 + 6 * jx + (2 + 0)) := ((congrFun hM24 (66 + 6 * jx + (2 + 0))).trans (up_ne _ _ (by omega))).trans r_66_6_jx_2_0
                        have r_46_5_0_4 : M24 (46 + 5 * 0 + 4) = M (66 + 6 * jx + (2 + 0)) := ((congrFun hM24 (46 + 5 * 0 + 4)).trans (up_ne _ _ (by omega))).trans r_46_5_0_4
                        have r_46_5_0_3 : M24 (46 + 5 * 0 + 3) = upd (M (46 + 5 * 0 + 3)) t (zI (0)) := ((congrFun hM24 (46 + 5 * 0 + 3)).trans (up_ne _ _ (by omega))).trans r_46_5_0_3
                        have r_46_5_1 : M24 (46 + 5 * 1) = M (46 + 5 * 1) := ((congrFun hM24 (46 + 5 * 1)).trans (up_ne _ _ (by omega))).trans r_46_5_1
                        have r_66_6_jx_2_1 : M24 (66 + 6 * jx + (2 + 1)) = M (66 + 6 * jx + (2 + 1)) := ((congrFun hM24 (66 + 6 * jx + (2 + 1))).trans (up_ne _ _ (by omega))).trans r_66_6_jx_2_1
                        have r_46_5_1_4 : M24 (46 + 5 * 1 + 4) = M (66 + 6 * jx + (2 + 1)) := ((congrFun hM24 (46 + 5 * 1 + 4)).trans (up_ne _ _ (by omega))).trans r_46_5_1_4
                        have r_46_5_1_3 : M24 (46 + 5 * 1 + 3) = upd (M (46 + 5 * 1 + 3)) t (zI (0)) := ((congrFun hM24 (46 + 5 * 1 + 3)).trans (up_ne _ _ (by omega))).trans r_46_5_1_3
                        have r_46_5_2 : M24 (46 + 5 * 2) = M (46 + 5 * 2) := ((congrFun hM24 (46 + 5 * 2)).trans (up_ne _ _ (by omega))).trans r_46_5_2
                        have r_66_6_jx_2_2 : M24 (66 + 6 * jx + (2 + 2)) = M (66 + 6 * jx + (2 + 2)) := ((congrFun hM24 (66 + 6 * jx + (2 + 2))).trans (up_ne _ _ (by omega))).trans r_66_6_jx_2_2
                        have r_46_5_2_4 : M24 (46 + 5 * 2 + 4) = M (66 + 6 * jx + (2 + 2)) := ((congrFun hM24 (46 + 5 * 2 + 4)).trans (up_ne _ _ (by omega))).trans r_46_5_2_4
                        have r_46_5_2_3 : M24 (46 + 5 * 2 + 3) = upd (M (46 + 5 * 2 + 3)) t (zI (0)) := ((congrFun hM24 (46 + 5 * 2 + 3)).trans (up_ne _ _ (by omega))).trans r_46_5_2_3
                        have r_46_5_3 : M24 (46 + 5 * 3) = M (46 + 5 * 3) := ((congrFun hM24 (46 + 5 * 3)).trans (up_ne _ _ (by omega))).trans r_46_5_3
                        have r_66_6_jx_2_3 : M24 (66 + 6 * jx + (2 + 3)) = M (66 + 6 * jx + (2 + 3)) := ((congrFun hM24 (66 + 6 * jx + (2 + 3))).trans (up_ne _ _ (by omega))).trans r_66_6_jx_2_3
                        have r_46_5_3_4 : M24 (46 + 5 * 3 + 4) = M (66 + 6 * jx + (2 + 3)) := ((congrFun hM24 (46 + 5 * 3 + 4)).trans (up_ne _ _ (by omega))).trans r_46_5_3_4
                        have r_46_5_3_3 : M24 (46 + 5 * 3 + 3) = upd (M (46 + 5 * 3 + 3)) t (zI (0)) := ((congrFun hM24 (46 + 5 * 3 + 3)).trans (up_ne _ _ (by omega))).trans r_46_5_3_3
                        have r_46_5_w : M24 (46 + 5 * w) = M (46 + 5 * w) := ((congrFun hM24 (46 + 5 * w)).trans (up_ne _ _ (by omega))).trans r_46_5_w
                        have r_46_5_w_1 : M24 (46 + 5 * w + 1) = upd (M (46 + 5 * w + 1)) d ((M (66 + 6 * jx)) 3) := ((congrFun hM24 (46 + 5 * w + 1)).trans (up_ne _ _ (by omega))).trans r_46_5_w_1
                        have r_46_5_w_2 : M24 (46 + 5 * w + 2) = upd (M (46 + 5 * w + 2)) d ((M (66 + 6 * jx)) 4) := ((congrFun hM24 _).trans (up_at _ _ _))
                        refine lv_aload_n hx hb dX1_takeBack_127 rfl (lv_at hl 1 rfl) ?_
                        refine va_get (D := g.1) (ci := 4) (v := .int ((M (66 + 6 * jx)) 0)) (C := RX4) (T := TX4) (N := 6) hx hb hts hinX4 hown hK (hb1 hW (show 66 + 6 * jx < 126 by omega) (lcE r_66_6_jx sh_T0)) 0 rfl rfl 0 (by decide) k22 (fun _ h9 => h9) rfl dX1_takeBack_128 ?_
                        refine z_top (y := zI (t)) (h0) ?_
                        have hW : cw g ad P (tkM M jx cn) H := by
                          have e9 : M24 = tkM M jx cn := by
                            refine tk_is ?_ (fun v hv k hk => ?_) (fun i h6 hi => hex i (by omega) (by omega) (by omega) (by omega) (by omega) (by omega) (by omega) (by omega) (by omega) (by omega) (by omega))
                            · rw [r_6]; rfl
                            · rcases (by omega : v = 0 ∨ v = 1 ∨ v = 2 ∨ v = 3) with rfl | rfl | rfl | rfl <;> rcases (by omega : k = 0 ∨ k = 1 ∨ k = 2 ∨ k = 3 ∨ k = 4) with rfl | rfl | rfl | rfl | rfl
                              · exact (hex _ (by omega) (by omega) (by omega) (by omega) (by omega) (by omega) (by omega) (by omega) (by omega) (by omega) (by omega)).trans (tk_ob (w := 0) (by omega)).symm
                              · by_cases qw : w = 0
                                · subst qw; exact r_46_5_w_1.trans (tk_ct1 (w := 0) (by omega) (by omega) hd h1.2 h1.1).symm
                                · exact (hex _ (by omega) (by omega) (by omega) (by omega) (by omega) (by omega) (by omega) (by omega) (by omega) (by omega) (by omega)).trans (tk_ct0 (w := w) (v := 0) hw (by omega) (by omega) h1.1 (by omega)).symm
                              · by_cases qw : w = 0
                                · subst qw; exact r_46_5_w_2.trans (tk_ct1 (w := 0) (by omega) (by omega) hd h1.2 h1.1).symm
                                · exact (hex _ (by omega) (by omega) (by omega) (by omega) (by omega) (by omega) (by omega) (by omega) (by omega) (by omega) (by omega)).trans (tk_ct0 (w := w) (v := 0) hw (by omega) (by omega) h1.1 (by omega)).symm
                              · exact r_46_5_0_3.trans (tk_fl1 (w := 0) (by omega) (by omega) h0).symm
                              · exact r_46_5_0_4.trans (tk_acc (w := 0) (by omega)).symm
                              · exact (hex _ (by omega) (by omega) (by omega) (by omega) (by omega) (by omega) (by omega) (by omega) (by omega) (by omega) (by omega)).trans (tk_ob (w := 1) (by omega)).symm
                              · by_cases qw : w = 1
                                · subst qw; exact r_46_5_w_1.trans (tk_ct1 (w := 1) (by omega) (by omega) hd h1.2 h1.1).symm
                                · exact (hex _ (by omega) (by omega) (by omega) (by omega) (by omega) (by omega) (by omega) (by omega) (by omega) (by omega) (by omega)).trans (tk_ct0 (w := w) (v := 1) hw (by omega) (by omega) h1.1 (by omega)).symm
                              · by_cases qw : w = 1
                                · subst qw; exact r_46_5_w_2.trans (tk_ct1 (w := 1) (by omega) (by omega) hd h1.2 h1.1).symm
                                · exact (hex _ (by omega) (by omega) (by omega) (by omega) (by omega) (by omega) (by omega) (by omega) (by omega) (by omega) (by omega)).trans (tk_ct0 (w := w) (v := 1) hw (by omega) (by omega) h1.1 (by omega)).symm
                              · exact r_46_5_1_3.trans (tk_fl1 (w := 1) (by omega) (by omega) h0).symm
                              · exact r_46_5_1_4.trans (tk_acc (w := 1) (by omega)).symm
                              · exact (hex _ (by omega) (by omega) (by omega) (by omega) (by omega) (by omega) (by omega) (by omega) (by omega) (by omega) (by omega)).trans (tk_ob (w := 2) (by omega)).symm
                              · by_cases qw : w = 2
                                · subst qw; exact r_46_5_w_1.trans (tk_ct1 (w := 2) (by omega) (by omega) hd h1.2 h1.1).symm
                                · exact (hex _ (by omega) (by omega) (by omega) (by omega) (by omega) (by omega) (by omega) (by omega) (by omega) (by omega) (by omega)).trans (tk_ct0 (w := w) (v := 2) hw (by omega) (by omega) h1.1 (by omega)).symm
                              · by_cases qw : w = 2
                                · subst qw; exact r_46_5_w_2.trans (tk_ct1 (w := 2) (by omega) (by omega) hd h1.2 h1.1).symm
                                · exact (hex _ (by omega) (by omega) (by omega) (by omega) (by omega) (by omega) (by omega) (by omega) (by omega) (by omega) (by omega)).trans (tk_ct0 (w := w) (v := 2) hw (by omega) (by omega) h1.1 (by omega)).symm
                              · exact r_46_5_2_3.trans (tk_fl1 (w := 2) (by omega) (by omega) h0).symm
                              · exact r_46_5_2_4.trans (tk_acc (w := 2) (by omega)).symm
                              · exact (hex _ (by omega) (by omega) (by omega) (by omega) (by omega) (by omega) (by omega) (by omega) (by omega) (by omega) (by omega)).trans (tk_ob (w := 3) (by omega)).symm
                              · by_cases qw : w = 3
                                · subst qw; exact r_46_5_w_1.trans (tk_ct1 (w := 3) (by omega) (by omega) hd h1.2 h1.1).symm
                                · exact (hex _ (by omega) (by omega) (by omega) (by omega) (by omega) (by omega) (by omega) (by omega) (by omega) (by omega) (by omega)).trans (tk_ct0 (w := w) (v := 3) hw (by omega) (by omega) h1.1 (by omega)).symm
                              · by_cases qw : w = 3
                                · subst qw; exact r_46_5_w_2.trans (tk_ct1 (w := 3) (by omega) (by omega) hd h1.2 h1.1).symm
                                · exact (hex _ (by omega) (by omega) (by omega) (by omega) (by omega) (by omega) (by omega) (by omega) (by omega) (by omega) (by omega)).trans (tk_ct0 (w := w) (v := 3) hw (by omega) (by omega) h1.1 (by omega)).symm
                              · exact r_46_5_3_3.trans (tk_fl1 (w := 3) (by omega) (by omega) h0).symm
                              · exact r_46_5_3_4.trans (tk_acc (w := 3) (by omega)).symm
                          rw [← e9]; exact hW
                        exact W.iret hx hb hr (fun tX htX hWX => ⟨⟨_, (), rfl, rfl, g_at htX hW⟩, hS.F htX⟩) hS.2.2 dX1_takeBack_131
                  · exfalso; omega
