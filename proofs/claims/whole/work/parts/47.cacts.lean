set_option maxHeartbeats 4000000 in
set_option maxRecDepth 100000 in
theorem c_X8_tell (l : Launch) (g : GG) (ad : Nat → Nat) (hd9 : hD ad) (P : Nat → Nat) (M : Nat → Nat → Int32) (nx cn : Nat) (hnx : nx < 10) (hn6 : M 6 0 = zI nx) (hcn : cn ≤ 10) (hc6 : M 6 1 = zI cn) (w d : Nat) (hw : w < 4) (hd : d < 364) (tv : Int) : Met l yX8_tell wsX8_tell ({ frames := 3, cells := 0, slots := 0, locals := 70 }) (gPc g [.ref ((ad 0)), .int (zI (w)), .int (zI (d)), .int (zI (tv))] (cw g ad P M)) (va_Qv (fun (u : Unit) => True) (fun (u : Unit) (tS : State) => cw g ad P (va_up (va_up (va_up (va_up (va_up (va_up (va_up M (66 + 6 * nx) (upd (upd (upd (upd (upd (upd (M (66 + 6 * nx)) 0 (M 0 0)) 1 (zI ((-1)))) 1 (zI (w))) 2 (zI (d))) 3 (M (46 + 5 * w + 1) d)) 4 (M (46 + 5 * w + 2) d))) (66 + 6 * nx + (2 + 0)) (M (46 + 5 * 0 + 4))) (66 + 6 * nx + (2 + 1)) (M (46 + 5 * 1 + 4))) (66 + 6 * nx + (2 + 2)) (M (46 + 5 * 2 + 4))) (66 + 6 * nx + (2 + 3)) (M (46 + 5 * 3 + 4))) (6) (upd (upd (M 6) 0 (zI ((((nx + 1) % 10 : Nat)) : Int))) 1 (zI (((min (cn + 1) 10 : Nat)) : Int)))) (46 + 5 * w + 2) (upd (M (46 + 5 * w + 2)) d (zI (tv)))) tS.heap) (hbA ad)) 0 0 (hbA ad) := by
  refine Met.ofW (cc := cX8_tell) (maxL := 4) (ret := none) (by decide) rfl ?_
  intro p e s m args below meth c s₁ B hml hv
  obtain ⟨rfl, hW, hK⟩ := hv
  have hx := B.exec
  have hb := B.bytes
  have hr := B.returns
  have hts := atoms_spec (ws := wsX8_tell) B.pre
  have hown : s.vm.findClass RX8 = some m.cls := findClass_of_methodNamed B.named
  have hlocks := B.notSynchronized
  have hinX3 : ∀ w ∈ wsX30, w ∈ wsX8_tell := by decide +kernel
  have hinX8 : ∀ w ∈ wsX80, w ∈ wsX8_tell := by decide +kernel
  have k47 := hts (.fieldLink RX8 47 "HoursBank" "history" "LHoursBank$History;") (by decide +kernel)
  have k51 := hts (.fieldLink RX8 51 "HoursBank" "today" "I") (by decide +kernel)
  have k37 := hts (.fieldLink RX8 37 "HoursBank" "sheets" "[LHoursBank$Sheet;") (by decide +kernel)
  have k229 := hts (.fieldLink RX8 229 "HoursBank$Sheet" "told" "[I") (by decide +kernel)
  have hl := lv_entry ([.ref ((ad 0)), .int (zI (w)), .int (zI (d)), .int (zI (tv))]) (n := 4) (Nat.le_of_ble_eq_true rfl)
  rw [lg_entry_eq]
  generalize (lg_sl ([.ref ((ad 0)), .int (zI (w)), .int (zI (d)), .int (zI (tv))]) ++ List.replicate (4 - (lg_sl ([.ref ((ad 0)), .int (zI (w)), .int (zI (d)), .int (zI (tv))])).length) Slot.unset).toArray = ls at hl ⊢
  have hl : lv_has ls 4 [(0, .ref ((ad 0))), (1, .int (zI (w))), (2, .int (zI (d))), (3, .int (zI (tv)))] := hl
  have hS : va_S (hbA ad) s.heap s.heap [] := va_S.rf
  obtain ⟨H, hH9⟩ : ∃ H, H = s.heap := ⟨_, rfl⟩
  obtain ⟨locs, hL9⟩ : ∃ x9l : List Loc, x9l = [] := ⟨_, rfl⟩
  have hW : cw g ad P M H := hH9 ▸ hW
  have hS : va_S (hbA ad) s.heap H locs := by rw [hH9, hL9]; exact hS
  refine z_start hH9 hL9 ?_
  clear hH9 hL9
  have hex : ∀ j : Nat, M j = M j := fun _ => rfl
  refine lv_aload_n hx hb dX8_tell_0 rfl (lv_at hl 0 rfl) ?_
  have r_0 : M (0) = M 0 := hex (0) 
  refine va_get (D := g.1) (ci := 8) (v := .ref ((ad 6))) (C := RX8) (T := TX8) (N := 7) hx hb hts hinX8 hown hK (hb1 hW (show 0 < 126 by omega) (lcE r_0 sh_0)) 0 rfl rfl 3 (by decide) k47 (fun _ h9 => h9) rfl dX8_tell_1 ?_
  refine lv_aload_n hx hb dX8_tell_4 rfl (lv_at hl 0 rfl) ?_
  refine va_get (D := g.1) (ci := 8) (v := .int ((M 0) 0)) (C := RX8) (T := TX8) (N := 7) hx hb hts hinX8 hown hK (hb1 hW (show 0 < 126 by omega) (lcE r_0 sh_0)) 0 rfl rfl 6 (by decide) k51 (fun _ h9 => h9) rfl dX8_tell_5 ?_
  refine lv_aload_n hx hb dX8_tell_8 rfl (lv_at hl 0 rfl) ?_
  refine va_get (D := g.1) (ci := 8) (v := .ref ((ad 5))) (C := RX8) (T := TX8) (N := 7) hx hb hts hinX8 hown hK (hb1 hW (show 0 < 126 by omega) (lcE r_0 sh_0)) 0 rfl rfl 2 (by decide) k37 (fun _ h9 => h9) rfl dX8_tell_9 ?_
  refine lv_iload_n hx hb dX8_tell_12 rfl (lv_at hl 1 rfl) ?_
  refine lv_iload_n hx hb dX8_tell_13 rfl (lv_at hl 2 rfl) ?_
  have r_6 : M (6) = M 6 := hex (6) 
  refine va_callv (va_runV (As := [.int ((M 0) 0), .ref ((ad 5)), .int (zI (w)), .int (zI (d))]) (rest := []) ⟨hx, hb, hml, hown, hts⟩ (c_X1_rememberDay l g (ad) (hd9) (P) (M) (M 0 0) (nx) (cn) (hnx) (hn6) (hcn) (hc6) (w) (d) (hw) (hd)) (cwV 4 hts gX8_tell_X1_rememberDay rfl rfl rfl (by decide +kernel) ⟨Nat.le_of_ble_eq_true rfl, Nat.le_of_ble_eq_true rfl⟩) (g_preV hW hK (va_recv hK (hb1 hW (show 6 < 126 by omega) (lcE r_6 sh_6)) (q0 := 0) (ci := 1) rfl rfl)) rfl rfl hl.1 rfl (lv_room (Nat.le_of_ble_eq_true rfl)) dX8_tell_14 ⟨Nat.le_of_ble_eq_true rfl, Nat.le_of_ble_eq_true rfl⟩) hS (fun q _ h => h) (fun q h => h) (fun u0 t9 H1 locs ht9 hvm9 hw9 hB9 hz9 hk9 hS => ?_)
  rw [ht9] at hB9
  clear hz9 hk9 hvm9 ht9
  generalize H1 = H at hB9 hS ⊢
  have hW := hB9
  clear hB9
  have hW : cw g ad P (va_up (va_up (va_up (va_up (va_up (va_up M (66 + 6 * nx) (upd (upd (upd (upd (upd (upd (M (66 + 6 * nx)) 0 ((M 0 0))) 1 (zI ((-1)))) 1 (zI (w))) 2 (zI (d))) 3 (M (46 + 5 * w + 1) d)) 4 (M (46 + 5 * w + 2) d))) (66 + 6 * nx + (2 + 0)) (M (46 + 5 * 0 + 4))) (66 + 6 * nx + (2 + 1)) (M (46 + 5 * 1 + 4))) (66 + 6 * nx + (2 + 2)) (M (46 + 5 * 2 + 4))) (66 + 6 * nx + (2 + 3)) (M (46 + 5 * 3 + 4))) (6) (upd (upd (M 6) 0 (zI ((((nx + 1) % 10 : Nat)) : Int))) 1 (zI (((min (cn + 1) 10 : Nat)) : Int)))) H := hW
  obtain ⟨M2, hM2⟩ : ∃ x9c : Nat → Nat → Int32, x9c = va_up (va_up (va_up (va_up (va_up (va_up M (66 + 6 * nx) (upd (upd (upd (upd (upd (upd (M (66 + 6 * nx)) 0 ((M 0 0))) 1 (zI ((-1)))) 1 (zI (w))) 2 (zI (d))) 3 (M (46 + 5 * w + 1) d)) 4 (M (46 + 5 * w + 2) d))) (66 + 6 * nx + (2 + 0)) (M (46 + 5 * 0 + 4))) (66 + 6 * nx + (2 + 1)) (M (46 + 5 * 1 + 4))) (66 + 6 * nx + (2 + 2)) (M (46 + 5 * 2 + 4))) (66 + 6 * nx + (2 + 3)) (M (46 + 5 * 3 + 4))) (6) (upd (upd (M 6) 0 (zI ((((nx + 1) % 10 : Nat)) : Int))) 1 (zI (((min (cn + 1) 10 : Nat)) : Int))) := ⟨_, rfl⟩
  have hW : cw g ad P M2 H := by rw [hM2]; exact hW
  have hex : ∀ j : Nat, ¬ j = 66 + 6 * nx → ¬ j = 66 + 6 * nx + (2 + 0) → ¬ j = 66 + 6 * nx + (2 + 1) → ¬ j = 66 + 6 * nx + (2 + 2) → ¬ j = 66 + 6 * nx + (2 + 3) → ¬ j = 6 → M2 j = M j := fun j q0 q1 q2 q3 q4 q5 => ((congrFun hM2 j).trans ((up_ne _ _ q5).trans ((up_ne _ _ q4).trans ((up_ne _ _ q3).trans ((up_ne _ _ q2).trans ((up_ne _ _ q1).trans (up_ne _ _ q0))))))).trans (hex j )
  have r_0 : M2 (0) = M 0 := ((congrFun hM2 (0)).trans ((up_ne _ _ (by omega)).trans ((up_ne _ _ (by omega)).trans ((up_ne _ _ (by omega)).trans ((up_ne _ _ (by omega)).trans ((up_ne _ _ (by omega)).trans (up_ne _ _ (by omega)))))))).trans r_0
  have r_66_6_nx : M2 (66 + 6 * nx) = upd (upd (upd (upd (upd (upd (M (66 + 6 * nx)) 0 ((M 0 0))) 1 (zI ((-1)))) 1 (zI (w))) 2 (zI (d))) 3 (M (46 + 5 * w + 1) d)) 4 (M (46 + 5 * w + 2) d) := ((congrFun hM2 _).trans ((up_ne _ _ (by omega)).trans ((up_ne _ _ (by omega)).trans ((up_ne _ _ (by omega)).trans ((up_ne _ _ (by omega)).trans ((up_ne _ _ (by omega)).trans (up_at _ _ _)))))))
  have r_66_6_nx_2_0 : M2 (66 + 6 * nx + (2 + 0)) = M (46 + 5 * 0 + 4) := ((congrFun hM2 _).trans ((up_ne _ _ (by omega)).trans ((up_ne _ _ (by omega)).trans ((up_ne _ _ (by omega)).trans ((up_ne _ _ (by omega)).trans (up_at _ _ _))))))
  have r_66_6_nx_2_1 : M2 (66 + 6 * nx + (2 + 1)) = M (46 + 5 * 1 + 4) := ((congrFun hM2 _).trans ((up_ne _ _ (by omega)).trans ((up_ne _ _ (by omega)).trans ((up_ne _ _ (by omega)).trans (up_at _ _ _)))))
  have r_66_6_nx_2_2 : M2 (66 + 6 * nx + (2 + 2)) = M (46 + 5 * 2 + 4) := ((congrFun hM2 _).trans ((up_ne _ _ (by omega)).trans ((up_ne _ _ (by omega)).trans (up_at _ _ _))))
  have r_66_6_nx_2_3 : M2 (66 + 6 * nx + (2 + 3)) = M (46 + 5 * 3 + 4) := ((congrFun hM2 _).trans ((up_ne _ _ (by omega)).trans (up_at _ _ _)))
  have r_6 : M2 (6) = upd (upd (M 6) 0 (zI ((((nx + 1) % 10 : Nat)) : Int))) 1 (zI (((min (cn + 1) 10 : Nat)) : Int)) := ((congrFun hM2 _).trans (up_at _ _ _))
  refine lv_aload_n hx hb dX8_tell_17 rfl (lv_at hl 0 rfl) ?_
  refine va_get (D := g.1) (ci := 8) (v := .ref ((ad 5))) (C := RX8) (T := TX8) (N := 7) hx hb hts hinX8 hown hK (hb1 hW (show 0 < 126 by omega) (lcE r_0 sh_0)) 0 rfl rfl 2 (by decide) k37 (fun _ h9 => h9) rfl dX8_tell_18 ?_
  refine lv_iload_n hx hb dX8_tell_21 rfl (lv_at hl 1 rfl) ?_
  have r_5 : M2 (5) = M 5 := hex (5) (by omega) (by omega) (by omega) (by omega) (by omega) (by omega)
  refine z_aald hx hb hK (hb1 hW (show 5 < 126 by omega) (lcE r_5 sh_5)) 0 4 rfl rfl rfl (by decide) (w) (by omega) (by omega) rfl dX8_tell_22 ?_
  have r_46_5_w : M2 (46 + 5 * w) = M (46 + 5 * w) := hex (46 + 5 * w) (by omega) (by omega) (by omega) (by omega) (by omega) (by omega)
  refine va_get (D := g.1) (ci := 3) (v := .ref ((ad (46 + 5 * w + 2)))) (C := RX3) (T := TX3) (N := 7) hx hb hts hinX3 hown hK (hb1 hW (show 46 + 5 * w < 126 by omega) (lcE r_46_5_w (sh_S0 (w := w) (by omega)))) 0 rfl rfl 1 (by decide) k229 (fun _ h9 => h9) rfl dX8_tell_23 ?_
  refine lv_iload_n hx hb dX8_tell_26 rfl (lv_at hl 2 rfl) ?_
  refine lv_iload_n hx hb dX8_tell_27 rfl (lv_at hl 3 rfl) ?_
  have r_46_5_w_2 : M2 (46 + 5 * w + 2) = M (46 + 5 * w + 2) := hex (46 + 5 * w + 2) (by omega) (by omega) (by omega) (by omega) (by omega) (by omega)
  refine y_iast hx hb hK hW hd9 hS (46 + 5 * w + 2) (show 46 + 5 * w + 2 < 126 by omega) (lcE r_46_5_w_2 (sh_S2 (w := w) (by omega))) (by decide) (d) (by omega) (by omega) dX8_tell_28 (fun H locs hW hS => ?_)
  have hW := cw_up (P := P) (M := M2) (f := upd (M (46 + 5 * w + 2)) d (zI (tv))) ((sh_S2 (w := w) (by omega))) hW
  obtain ⟨M3, hM3⟩ : ∃ x9c : Nat → Nat → Int32, x9c = va_up M2 (46 + 5 * w + 2) (upd (M (46 + 5 * w + 2)) d (zI (tv))) := ⟨_, rfl⟩
  have hW : cw g ad P M3 H := by rw [hM3]; exact hW
  have hex : ∀ j : Nat, ¬ j = 66 + 6 * nx → ¬ j = 66 + 6 * nx + (2 + 0) → ¬ j = 66 + 6 * nx + (2 + 1) → ¬ j = 66 + 6 * nx + (2 + 2) → ¬ j = 66 + 6 * nx + (2 + 3) → ¬ j = 6 → ¬ j = 46 + 5 * w + 2 → M3 j = M j := fun j q0 q1 q2 q3 q4 q5 q6 => ((congrFun hM3 j).trans (up_ne _ _ q6)).trans (hex j q0 q1 q2 q3 q4 q5)
  have r_0 : M3 (0) = M 0 := ((congrFun hM3 (0)).trans (up_ne _ _ (by omega))).trans r_0
  have r_66_6_nx : M3 (66 + 6 * nx) = upd (upd (upd (upd (upd (upd (M (66 + 6 * nx)) 0 ((M 0 0))) 1 (zI ((-1)))) 1 (zI (w))) 2 (zI (d))) 3 (M (46 + 5 * w + 1) d)) 4 (M (46 + 5 * w + 2) d) := ((congrFun hM3 (66 + 6 * nx)).trans (up_ne _ _ (by omega))).trans r_66_6_nx
  have r_66_6_nx_2_0 : M3 (66 + 6 * nx + (2 + 0)) = M (46 + 5 * 0 + 4) := ((congrFun hM3 (66 + 6 * nx + (2 + 0))).trans (up_ne _ _ (by omega))).trans r_66_6_nx_2_0
  have r_66_6_nx_2_1 : M3 (66 + 6 * nx + (2 + 1)) = M (46 + 5 * 1 + 4) := ((congrFun hM3 (66 + 6 * nx + (2 + 1))).trans (up_ne _ _ (by omega))).trans r_66_6_nx_2_1
  have r_66_6_nx_2_2 : M3 (66 + 6 * nx + (2 + 2)) = M (46 + 5 * 2 + 4) := ((congrFun hM3 (66 + 6 * nx + (2 + 2))).trans (up_ne _ _ (by omega))).trans r_66_6_nx_2_2
  have r_66_6_nx_2_3 : M3 (66 + 6 * nx + (2 + 3)) = M (46 + 5 * 3 + 4) := ((congrFun hM3 (66 + 6 * nx + (2 + 3))).trans (up_ne _ _ (by omega))).trans r_66_6_nx_2_3
  have r_6 : M3 (6) = upd (upd (M 6) 0 (zI ((((nx + 1) % 10 : Nat)) : Int))) 1 (zI (((min (cn + 1) 10 : Nat)) : Int)) := ((congrFun hM3 (6)).trans (up_ne _ _ (by omega))).trans r_6
  have r_5 : M3 (5) = M 5 := ((congrFun hM3 (5)).trans (up_ne _ _ (by omega))).trans r_5
  have r_46_5_w : M3 (46 + 5 * w) = M (46 + 5 * w) := ((congrFun hM3 (46 + 5 * w)).trans (up_ne _ _ (by omega))).trans r_46_5_w
  have r_46_5_w_2 : M3 (46 + 5 * w + 2) = upd (M (46 + 5 * w + 2)) d (zI (tv)) := ((congrFun hM3 _).trans (up_at _ _ _))
  have hW : cw g ad P (va_up (va_up (va_up (va_up (va_up (va_up (va_up M (66 + 6 * nx) (upd (upd (upd (upd (upd (upd (M (66 + 6 * nx)) 0 (M 0 0)) 1 (zI ((-1)))) 1 (zI (w))) 2 (zI (d))) 3 (M (46 + 5 * w + 1) d)) 4 (M (46 + 5 * w + 2) d))) (66 + 6 * nx + (2 + 0)) (M (46 + 5 * 0 + 4))) (66 + 6 * nx + (2 + 1)) (M (46 + 5 * 1 + 4))) (66 + 6 * nx + (2 + 2)) (M (46 + 5 * 2 + 4))) (66 + 6 * nx + (2 + 3)) (M (46 + 5 * 3 + 4))) (6) (upd (upd (M 6) 0 (zI ((((nx + 1) % 10 : Nat)) : Int))) 1 (zI (((min (cn + 1) 10 : Nat)) : Int)))) (46 + 5 * w + 2) (upd (M (46 + 5 * w + 2)) d (zI (tv)))) H := by
    have e9 : M3 = va_up (va_up (va_up (va_up (va_up (va_up (va_up M (66 + 6 * nx) (upd (upd (upd (upd (upd (upd (M (66 + 6 * nx)) 0 (M 0 0)) 1 (zI ((-1)))) 1 (zI (w))) 2 (zI (d))) 3 (M (46 + 5 * w + 1) d)) 4 (M (46 + 5 * w + 2) d))) (66 + 6 * nx + (2 + 0)) (M (46 + 5 * 0 + 4))) (66 + 6 * nx + (2 + 1)) (M (46 + 5 * 1 + 4))) (66 + 6 * nx + (2 + 2)) (M (46 + 5 * 2 + 4))) (66 + 6 * nx + (2 + 3)) (M (46 + 5 * 3 + 4))) (6) (upd (upd (M 6) 0 (zI ((((nx + 1) % 10 : Nat)) : Int))) 1 (zI (((min (cn + 1) 10 : Nat)) : Int)))) (46 + 5 * w + 2) (upd (M (46 + 5 * w + 2)) d (zI (tv))) := by
      funext i9
      by_cases q0 : i9 = 66 + 6 * nx
      · rw [q0]; exact (r_66_6_nx).trans ((up_ne _ _ (by omega)).trans ((up_ne _ _ (by omega)).trans ((up_ne _ _ (by omega)).trans ((up_ne _ _ (by omega)).trans ((up_ne _ _ (by omega)).trans ((up_ne _ _ (by omega)).trans (up_at _ _ _))))))).symm
      by_cases q1 : i9 = 66 + 6 * nx + (2 + 0)
      · rw [q1]; exact (r_66_6_nx_2_0).trans ((up_ne _ _ (by omega)).trans ((up_ne _ _ (by omega)).trans ((up_ne _ _ (by omega)).trans ((up_ne _ _ (by omega)).trans ((up_ne _ _ (by omega)).trans (up_at _ _ _)))))).symm
      by_cases q2 : i9 = 66 + 6 * nx + (2 + 1)
      · rw [q2]; exact (r_66_6_nx_2_1).trans ((up_ne _ _ (by omega)).trans ((up_ne _ _ (by omega)).trans ((up_ne _ _ (by omega)).trans ((up_ne _ _ (by omega)).trans (up_at _ _ _))))).symm
      by_cases q3 : i9 = 66 + 6 * nx + (2 + 2)
      · rw [q3]; exact (r_66_6_nx_2_2).trans ((up_ne _ _ (by omega)).trans ((up_ne _ _ (by omega)).trans ((up_ne _ _ (by omega)).trans (up_at _ _ _)))).symm
      by_cases q4 : i9 = 66 + 6 * nx + (2 + 3)
      · rw [q4]; exact (r_66_6_nx_2_3).trans ((up_ne _ _ (by omega)).trans ((up_ne _ _ (by omega)).trans (up_at _ _ _))).symm
      by_cases q5 : i9 = 6
      · rw [q5]; exact (r_6).trans ((up_ne _ _ (by omega)).trans (up_at _ _ _)).symm
      by_cases q6 : i9 = 46 + 5 * w + 2
      · rw [q6]; exact (r_46_5_w_2).trans (up_at _ _ _).symm
      exact (hex i9 q0 q1 q2 q3 q4 q5 q6).trans ((up_ne _ _ q6).trans ((up_ne _ _ q5).trans ((up_ne _ _ q4).trans ((up_ne _ _ q3).trans ((up_ne _ _ q2).trans ((up_ne _ _ q1).trans (up_ne _ _ q0))))))).symm
    rw [← e9]; exact hW
  exact W.vret hx hb hr (fun tX htX hWX => ⟨⟨(), rfl, trivial, g_at htX hW⟩, hS.F htX⟩) hS.2.2 dX8_tell_29

set_option maxHeartbeats 4000000 in
set_option maxRecDepth 100000 in
theorem c_X8_plan (l : Launch) (g : GG) (ad : Nat → Nat) (hd9 : hD ad) (P : Nat → Nat) (M : Nat → Nat → Int32) (N sn : Nat → Int32) (k : Nat) (hI : INV P M N sn k) (v dd qq : Int) (hv : R32 v) (hdd : R32 dd) (hqq : R32 qq) : Met l yX8_plan wsX8_plan ({ frames := 5, cells := 0, slots := 0, locals := 107 }) (gPc g [.ref ((ad 0)), .int (zI (v)), .int (zI (dd)), .int (zI (qq))] (cw g ad P M)) (va_Qi (fun (r : Int32) (u : Nat → Nat → Int32) => r = costF N v dd qq ∧ actQ P M u (actN (planC N v dd qq) N (planN N v.toNat dd.toNat qq.toNat)) (actS (planC N v dd qq) sn N k) (actK (planC N v dd qq) k)) (fun (u : Nat → Nat → Int32) (tS : State) => cw g ad P u tS.heap) (hbA ad)) 0 0 (hbA ad) := by
  refine Met.ofW (cc := cX8_plan) (maxL := 5) (ret := (some .int)) (by decide) rfl ?_
  intro p e s m args below meth c s₁ B hml hv
  obtain ⟨rfl, hW, hK⟩ := hv
  have hx := B.exec
  have hb := B.bytes
  have hr := B.returns
  have hts := atoms_spec (ws := wsX8_plan) B.pre
  have hown : s.vm.findClass RX8 = some m.cls := findClass_of_methodNamed B.named
  have hlocks := B.notSynchronized
  have hinX0 : ∀ w ∈ wsX00, w ∈ wsX8_plan := by decide +kernel
  have hinX3 : ∀ w ∈ wsX30, w ∈ wsX8_plan := by decide +kernel
  have hinX8 : ∀ w ∈ wsX80, w ∈ wsX8_plan := by decide +kernel
  have k47 := hts (.fieldLink RX8 47 "HoursBank" "history" "LHoursBank$History;") (by decide +kernel)
  have k51 := hts (.fieldLink RX8 51 "HoursBank" "today" "I") (by decide +kernel)
  have k37 := hts (.fieldLink RX8 37 "HoursBank" "sheets" "[LHoursBank$Sheet;") (by decide +kernel)
  have k218 := hts (.fieldLink RX8 218 "HoursBank$Sheet" "changed" "[I") (by decide +kernel)
  have k112 := hts (.fieldLink RX8 112 "HoursBank$Sheet" "account" "LHoursBank$Account;") (by decide +kernel)
  have k133 := hts (.fieldLink RX8 133 "HoursBank$Account" "changeCoins" "I") (by decide +kernel)
  have hl := lv_entry ([.ref ((ad 0)), .int (zI (v)), .int (zI (dd)), .int (zI (qq))]) (n := 5) (Nat.le_of_ble_eq_true rfl)
  rw [lg_entry_eq]
  generalize (lg_sl ([.ref ((ad 0)), .int (zI (v)), .int (zI (dd)), .int (zI (qq))]) ++ List.replicate (5 - (lg_sl ([.ref ((ad 0)), .int (zI (v)), .int (zI (dd)), .int (zI (qq))])).length) Slot.unset).toArray = ls at hl ⊢
  have hl : lv_has ls 5 [(0, .ref ((ad 0))), (1, .int (zI (v))), (2, .int (zI (dd))), (3, .int (zI (qq)))] := hl
  have hS : va_S (hbA ad) s.heap s.heap [] := va_S.rf
  obtain ⟨H, hH9⟩ : ∃ H, H = s.heap := ⟨_, rfl⟩
  obtain ⟨locs, hL9⟩ : ∃ x9l : List Loc, x9l = [] := ⟨_, rfl⟩
  have hW : cw g ad P M H := hH9 ▸ hW
  have hS : va_S (hbA ad) s.heap H locs := by rw [hH9, hL9]; exact hS
  refine z_start hH9 hL9 ?_
  clear hH9 hL9
  have hex : ∀ j : Nat, M j = M j := fun _ => rfl
  obtain ⟨hP9, hc9, hk10, hk6, nx, hnx, hn6, hch9⟩ := id hI
  obtain ⟨hN, hZt, hst9, hRu, hSh, ht9, hfl9⟩ := id hc9
  have hq57 := hN.nw.le
  have hqtd := hN.td.le
  refine lv_aload_n hx hb dX8_plan_0 rfl (lv_at hl 0 rfl) ?_
  refine lv_iload_n hx hb dX8_plan_1 rfl (lv_at hl 1 rfl) ?_
  refine lv_iload_n hx hb dX8_plan_2 rfl (lv_at hl 2 rfl) ?_
  refine lv_iload_n hx hb dX8_plan_3 rfl (lv_at hl 3 rfl) ?_
  refine vp_callSi (va_Run.run (va_runV (As := [.int (zI (v)), .int (zI (dd)), .int (zI (qq))]) (rest := []) ⟨hx, hb, hml, hown, hts⟩ (c_X8_canChange l g ((ad 0)) (N) (hN) ((M 6 1)) ((M 1 0)) (v) (dd) (qq) (hv) (hdd) (hqq)) (cwV 3 hts gX8_plan_X8_canChange rfl rfl rfl (by decide +kernel) ⟨Nat.le_of_ble_eq_true rfl, Nat.le_of_ble_eq_true rfl⟩) (g_preV (cw_rdH hW hP9 hSh hRu ht9) hK (va_recv hK (hb1 hW (show 0 < 126 by omega) (lcE rfl sh_0)) (q0 := 0) (ci := 8) rfl rfl)) rfl rfl hl.1 rfl (lv_room (Nat.le_of_ble_eq_true rfl)) dX8_plan_4 ⟨Nat.le_of_ble_eq_true rfl, Nat.le_of_ble_eq_true rfl⟩)) (fun r hr9 => ?_)
  subst hr9
  refine z_bz_ne (tgt := 12) hx hb dX8_plan_7 (by decide) (fun h7 => ?_) (fun h7 => ?_)
  · obtain ⟨w, rfl⟩ := Int.eq_ofNat_of_zero_le h7.1.1.1
    obtain ⟨d, rfl⟩ := Int.eq_ofNat_of_zero_le (show 0 ≤ dd by omega)
    obtain ⟨q, rfl⟩ := Int.eq_ofNat_of_zero_le h7.2.2.1.1
    refine lv_aload_n hx hb dX8_plan_12 rfl (lv_at hl 0 rfl) ?_
    refine lv_iload_n hx hb dX8_plan_13 rfl (lv_at hl 1 rfl) ?_
    refine lv_iload_n hx hb dX8_plan_14 rfl (lv_at hl 2 rfl) ?_
    refine lv_iload_n hx hb dX8_plan_15 rfl (lv_at hl 3 rfl) ?_
    refine vp_callSi (va_Run.run (va_runV (As := [.int (zI ((w : Int))), .int (zI ((d : Int))), .int (zI ((q : Int)))]) (rest := []) ⟨hx, hb, hml, hown, hts⟩ (c_X8_priceOf l g ((ad 0)) (N) (hN) ((M 6 1)) ((M 1 0)) (w) (d) (q) (by omega) (by omega) (by omega) (by omega)) (cwV 3 hts gX8_plan_X8_priceOf rfl rfl rfl (by decide +kernel) ⟨Nat.le_of_ble_eq_true rfl, Nat.le_of_ble_eq_true rfl⟩) (g_preV (cw_rdH hW hP9 hSh hRu ht9) hK (va_recv hK (hb1 hW (show 0 < 126 by omega) (lcE rfl sh_0)) (q0 := 0) (ci := 8) rfl rfl)) rfl rfl hl.1 rfl (lv_room (Nat.le_of_ble_eq_true rfl)) dX8_plan_16 ⟨Nat.le_of_ble_eq_true rfl, Nat.le_of_ble_eq_true rfl⟩)) (fun r hr9 => ?_)
    subst hr9
    refine lv_istore (lv' := [(4, .int (zI (cst N w d q))), (0, .ref ((ad 0))), (1, .int (zI ((w : Int)))), (2, .int (zI ((d : Int)))), (3, .int (zI ((q : Int))))]) hx hb dX8_plan_19 hl (by decide) rfl (fun ls hl => ?_)
    refine lv_aload_n hx hb dX8_plan_21 rfl (lv_at hl 1 rfl) ?_
    have r_0 : M (0) = M 0 := hex (0) 
    refine va_get (D := g.1) (ci := 8) (v := .ref ((ad 6))) (C := RX8) (T := TX8) (N := 7) hx hb hts hinX8 hown hK (hb1 hW (show 0 < 126 by omega) (lcE r_0 sh_0)) 0 rfl rfl 3 (by decide) k47 (fun _ h9 => h9) rfl dX8_plan_22 ?_
    refine lv_aload_n hx hb dX8_plan_25 rfl (lv_at hl 1 rfl) ?_
    refine va_get (D := g.1) (ci := 8) (v := .int ((M 0) 0)) (C := RX8) (T := TX8) (N := 7) hx hb hts hinX8 hown hK (hb1 hW (show 0 < 126 by omega) (lcE r_0 sh_0)) 0 rfl rfl 6 (by decide) k51 (fun _ h9 => h9) rfl dX8_plan_26 ?_
    refine lv_aload_n hx hb dX8_plan_29 rfl (lv_at hl 1 rfl) ?_
    refine va_get (D := g.1) (ci := 8) (v := .ref ((ad 5))) (C := RX8) (T := TX8) (N := 7) hx hb hts hinX8 hown hK (hb1 hW (show 0 < 126 by omega) (lcE r_0 sh_0)) 0 rfl rfl 2 (by decide) k37 (fun _ h9 => h9) rfl dX8_plan_30 ?_
    refine lv_iload_n hx hb dX8_plan_33 rfl (lv_at hl 2 rfl) ?_
    refine lv_iload_n hx hb dX8_plan_34 rfl (lv_at hl 3 rfl) ?_
    have r_6 : M (6) = M 6 := hex (6) 
    refine va_callv (va_runV (As := [.int ((M 0) 0), .ref ((ad 5)), .int (zI ((w : Int))), .int (zI ((d : Int)))]) (rest := []) ⟨hx, hb, hml, hown, hts⟩ (c_X1_rememberDay l g (ad) (hd9) (P) (M) (M 0 0) (nx) (k) (hnx) (hn6) (hk10) (hk6) (w) (d) (by omega) (by omega)) (cwV 4 hts gX8_plan_X1_rememberDay rfl rfl rfl (by decide +kernel) ⟨Nat.le_of_ble_eq_true rfl, Nat.le_of_ble_eq_true rfl⟩) (g_preV hW hK (va_recv hK (hb1 hW (show 6 < 126 by omega) (lcE r_6 sh_6)) (q0 := 0) (ci := 1) rfl rfl)) rfl rfl hl.1 rfl (lv_room (Nat.le_of_ble_eq_true rfl)) dX8_plan_35 ⟨Nat.le_of_ble_eq_true rfl, Nat.le_of_ble_eq_true rfl⟩) hS (fun q _ h => h) (fun q h => h) (fun u0 t9 H1 locs ht9 hvm9 hw9 hB9 hz9 hk9 hS => ?_)
    rw [ht9] at hB9
    clear hz9 hk9 hvm9 ht9
    generalize H1 = H at hB9 hS ⊢
    have hW := hB9
    clear hB9
    have hW : cw g ad P (va_up (va_up (va_up (va_up (va_up (va_up M (66 + 6 * nx) (upd (upd (upd (upd (upd (upd (M (66 + 6 * nx)) 0 ((M 0 0))) 1 (zI ((-1)))) 1 (zI (w))) 2 (zI (d))) 3 (M (46 + 5 * w + 1) d)) 4 (M (46 + 5 * w + 2) d))) (66 + 6 * nx + (2 + 0)) (M (46 + 5 * 0 + 4))) (66 + 6 * nx + (2 + 1)) (M (46 + 5 * 1 + 4))) (66 + 6 * nx + (2 + 2)) (M (46 + 5 * 2 + 4))) (66 + 6 * nx + (2 + 3)) (M (46 + 5 * 3 + 4))) (6) (upd (upd (M 6) 0 (zI ((((nx + 1) % 10 : Nat)) : Int))) 1 (zI (((min (k + 1) 10 : Nat)) : Int)))) H := hW
    obtain ⟨M2, hM2⟩ : ∃ x9c : Nat → Nat → Int32, x9c = va_up (va_up (va_up (va_up (va_up (va_up M (66 + 6 * nx) (upd (upd (upd (upd (upd (upd (M (66 + 6 * nx)) 0 ((M 0 0))) 1 (zI ((-1)))) 1 (zI (w))) 2 (zI (d))) 3 (M (46 + 5 * w + 1) d)) 4 (M (46 + 5 * w + 2) d))) (66 + 6 * nx + (2 + 0)) (M (46 + 5 * 0 + 4))) (66 + 6 * nx + (2 + 1)) (M (46 + 5 * 1 + 4))) (66 + 6 * nx + (2 + 2)) (M (46 + 5 * 2 + 4))) (66 + 6 * nx + (2 + 3)) (M (46 + 5 * 3 + 4))) (6) (upd (upd (M 6) 0 (zI ((((nx + 1) % 10 : Nat)) : Int))) 1 (zI (((min (k + 1) 10 : Nat)) : Int))) := ⟨_, rfl⟩
    have hW : cw g ad P M2 H := by rw [hM2]; exact hW
    have hex : ∀ j : Nat, ¬ j = 66 + 6 * nx → ¬ j = 66 + 6 * nx + (2 + 0) → ¬ j = 66 + 6 * nx + (2 + 1) → ¬ j = 66 + 6 * nx + (2 + 2) → ¬ j = 66 + 6 * nx + (2 + 3) → ¬ j = 6 → M2 j = M j := fun j q0 q1 q2 q3 q4 q5 => ((congrFun hM2 j).trans ((up_ne _ _ q5).trans ((up_ne _ _ q4).trans ((up_ne _ _ q3).trans ((up_ne _ _ q2).trans ((up_ne _ _ q1).trans (up_ne _ _ q0))))))).trans (hex j )
    have r_0 : M2 (0) = M 0 := ((congrFun hM2 (0)).trans ((up_ne _ _ (by omega)).trans ((up_ne _ _ (by omega)).trans ((up_ne _ _ (by omega)).trans ((up_ne _ _ (by omega)).trans ((up_ne _ _ (by omega)).trans (up_ne _ _ (by omega)))))))).trans r_0
    have r_66_6_nx : M2 (66 + 6 * nx) = upd (upd (upd (upd (upd (upd (M (66 + 6 * nx)) 0 ((M 0 0))) 1 (zI ((-1)))) 1 (zI (w))) 2 (zI (d))) 3 (M (46 + 5 * w + 1) d)) 4 (M (46 + 5 * w + 2) d) := ((congrFun hM2 _).trans ((up_ne _ _ (by omega)).trans ((up_ne _ _ (by omega)).trans ((up_ne _ _ (by omega)).trans ((up_ne _ _ (by omega)).trans ((up_ne _ _ (by omega)).trans (up_at _ _ _)))))))
    have r_66_6_nx_2_0 : M2 (66 + 6 * nx + (2 + 0)) = M (46 + 5 * 0 + 4) := ((congrFun hM2 _).trans ((up_ne _ _ (by omega)).trans ((up_ne _ _ (by omega)).trans ((up_ne _ _ (by omega)).trans ((up_ne _ _ (by omega)).trans (up_at _ _ _))))))
    have r_66_6_nx_2_1 : M2 (66 + 6 * nx + (2 + 1)) = M (46 + 5 * 1 + 4) := ((congrFun hM2 _).trans ((up_ne _ _ (by omega)).trans ((up_ne _ _ (by omega)).trans ((up_ne _ _ (by omega)).trans (up_at _ _ _)))))
    have r_66_6_nx_2_2 : M2 (66 + 6 * nx + (2 + 2)) = M (46 + 5 * 2 + 4) := ((congrFun hM2 _).trans ((up_ne _ _ (by omega)).trans ((up_ne _ _ (by omega)).trans (up_at _ _ _))))
    have r_66_6_nx_2_3 : M2 (66 + 6 * nx + (2 + 3)) = M (46 + 5 * 3 + 4) := ((congrFun hM2 _).trans ((up_ne _ _ (by omega)).trans (up_at _ _ _)))
    have r_6 : M2 (6) = upd (upd (M 6) 0 (zI ((((nx + 1) % 10 : Nat)) : Int))) 1 (zI (((min (k + 1) 10 : Nat)) : Int)) := ((congrFun hM2 _).trans (up_at _ _ _))
    refine lv_aload_n hx hb dX8_plan_38 rfl (lv_at hl 1 rfl) ?_
    refine va_get (D := g.1) (ci := 8) (v := .ref ((ad 5))) (C := RX8) (T := TX8) (N := 7) hx hb hts hinX8 hown hK (hb1 hW (show 0 < 126 by omega) (lcE r_0 sh_0)) 0 rfl rfl 2 (by decide) k37 (fun _ h9 => h9) rfl dX8_plan_39 ?_
    refine lv_iload_n hx hb dX8_plan_42 rfl (lv_at hl 2 rfl) ?_
    have r_5 : M2 (5) = M 5 := hex (5) (by omega) (by omega) (by omega) (by omega) (by omega) (by omega)
    refine z_aald hx hb hK (hb1 hW (show 5 < 126 by omega) (lcE r_5 sh_5)) 0 4 rfl rfl rfl (by decide) (w) (by omega) (by omega) rfl dX8_plan_43 ?_
    have r_46_5_w : M2 (46 + 5 * w) = M (46 + 5 * w) := hex (46 + 5 * w) (by omega) (by omega) (by omega) (by omega) (by omega) (by omega)
    refine va_get (D := g.1) (ci := 3) (v := .ref ((ad (46 + 5 * w + 1)))) (C := RX3) (T := TX3) (N := 7) hx hb hts hinX3 hown hK (hb1 hW (show 46 + 5 * w < 126 by omega) (lcE r_46_5_w (sh_S0 (w := w) (by omega)))) 0 rfl rfl 0 (by decide) k218 (fun _ h9 => h9) rfl dX8_plan_44 ?_
    refine lv_iload_n hx hb dX8_plan_47 rfl (lv_at hl 3 rfl) ?_
    refine lv_iload_n hx hb dX8_plan_48 rfl (lv_at hl 4 rfl) ?_
    have r_46_5_w_1 : M2 (46 + 5 * w + 1) = M (46 + 5 * w + 1) := hex (46 + 5 * w + 1) (by omega) (by omega) (by omega) (by omega) (by omega) (by omega)
    refine y_iast hx hb hK hW hd9 hS (46 + 5 * w + 1) (show 46 + 5 * w + 1 < 126 by omega) (lcE r_46_5_w_1 (sh_S1 (w := w) (by omega))) (by decide) (d) (by omega) (by omega) dX8_plan_49 (fun H locs hW hS => ?_)
    have hW := cw_up (P := P) (M := M2) (f := upd (M (46 + 5 * w + 1)) d (zI ((q : Int)))) ((sh_S1 (w := w) (by omega))) hW
    obtain ⟨M3, hM3⟩ : ∃ x9c : Nat → Nat → Int32, x9c = va_up M2 (46 + 5 * w + 1) (upd (M (46 + 5 * w + 1)) d (zI ((q : Int)))) := ⟨_, rfl⟩
    have hW : cw g ad P M3 H := by rw [hM3]; exact hW
    have hex : ∀ j : Nat, ¬ j = 66 + 6 * nx → ¬ j = 66 + 6 * nx + (2 + 0) → ¬ j = 66 + 6 * nx + (2 + 1) → ¬ j = 66 + 6 * nx + (2 + 2) → ¬ j = 66 + 6 * nx + (2 + 3) → ¬ j = 6 → ¬ j = 46 + 5 * w + 1 → M3 j = M j := fun j q0 q1 q2 q3 q4 q5 q6 => ((congrFun hM3 j).trans (up_ne _ _ q6)).trans (hex j q0 q1 q2 q3 q4 q5)
    have r_0 : M3 (0) = M 0 := ((congrFun hM3 (0)).trans (up_ne _ _ (by omega))).trans r_0
    have r_66_6_nx : M3 (66 + 6 * nx) = upd (upd (upd (upd (upd (upd (M (66 + 6 * nx)) 0 ((M 0 0))) 1 (zI ((-1)))) 1 (zI (w))) 2 (zI (d))) 3 (M (46 + 5 * w + 1) d)) 4 (M (46 + 5 * w + 2) d) := ((congrFun hM3 (66 + 6 * nx)).trans (up_ne _ _ (by omega))).trans r_66_6_nx
    have r_66_6_nx_2_0 : M3 (66 + 6 * nx + (2 + 0)) = M (46 + 5 * 0 + 4) := ((congrFun hM3 (66 + 6 * nx + (2 + 0))).trans (up_ne _ _ (by omega))).trans r_66_6_nx_2_0
    have r_66_6_nx_2_1 : M3 (66 + 6 * nx + (2 + 1)) = M (46 + 5 * 1 + 4) := ((congrFun hM3 (66 + 6 * nx + (2 + 1))).trans (up_ne _ _ (by omega))).trans r_66_6_nx_2_1
    have r_66_6_nx_2_2 : M3 (66 + 6 * nx + (2 + 2)) = M (46 + 5 * 2 + 4) := ((congrFun hM3 (66 + 6 * nx + (2 + 2))).trans (up_ne _ _ (by omega))).trans r_66_6_nx_2_2
    have r_66_6_nx_2_3 : M3 (66 + 6 * nx + (2 + 3)) = M (46 + 5 * 3 + 4) := ((congrFun hM3 (66 + 6 * nx + (2 + 3))).trans (up_ne _ _ (by omega))).trans r_66_6_nx_2_3
    have r_6 : M3 (6) = upd (upd (M 6) 0 (zI ((((nx + 1) % 10 : Nat)) : Int))) 1 (zI (((min (k + 1) 10 : Nat)) : Int)) := ((congrFun hM3 (6)).trans (up_ne _ _ (by omega))).trans r_6
    have r_5 : M3 (5) = M 5 := ((congrFun hM3 (5)).trans (up_ne _ _ (by omega))).trans r_5
    have r_46_5_w : M3 (46 + 5 * w) = M (46 + 5 * w) := ((congrFun hM3 (46 + 5 * w)).trans (up_ne _ _ (by omega))).trans r_46_5_w
    have r_46_5_w_1 : M3 (46 + 5 * w + 1) = upd (M (46 + 5 * w + 1)) d (zI ((q : Int))) := ((congrFun hM3 _).trans (up_at _ _ _))
    refine lv_aload_n hx hb dX8_plan_50 rfl (lv_at hl 1 rfl) ?_
    refine va_get (D := g.1) (ci := 8) (v := .ref ((ad 5))) (C := RX8) (T := TX8) (N := 7) hx hb hts hinX8 hown hK (hb1 hW (show 0 < 126 by omega) (lcE r_0 sh_0)) 0 rfl rfl 2 (by decide) k37 (fun _ h9 => h9) rfl dX8_plan_51 ?_
    refine lv_iload_n hx hb dX8_plan_54 rfl (lv_at hl 2 rfl) ?_
    refine z_aald hx hb hK (hb1 hW (show 5 < 126 by omega) (lcE r_5 sh_5)) 0 4 rfl rfl rfl (by decide) (w) (by omega) (by omega) rfl dX8_plan_55 ?_
    refine va_get (D := g.1) (ci := 3) (v := .ref ((ad (46 + 5 * w + 4)))) (C := RX3) (T := TX3) (N := 7) hx hb hts hinX3 hown hK (hb1 hW (show 46 + 5 * w < 126 by omega) (lcE r_46_5_w (sh_S0 (w := w) (by omega)))) 0 rfl rfl 3 (by decide) k112 (fun _ h9 => h9) rfl dX8_plan_56 ?_
    refine lv_dup hx hb dX8_plan_59 rfl ?_
    have r_46_5_w_4 : M3 (46 + 5 * w + 4) = M (46 + 5 * w + 4) := hex (46 + 5 * w + 4) (by omega) (by omega) (by omega) (by omega) (by omega) (by omega) (by omega)
    refine va_get (D := g.1) (ci := 0) (v := .int ((M (46 + 5 * w + 4)) 4)) (C := RX0) (T := TX0) (N := 9) hx hb hts hinX0 hown hK (hb1 hW (show 46 + 5 * w + 4 < 126 by omega) (lcE r_46_5_w_4 (sh_S4 (w := w) (by omega)))) 0 rfl rfl 4 (by decide) k133 (fun _ h9 => h9) rfl dX8_plan_60 ?_
    refine lv_iload hx hb dX8_plan_63 (lv_at hl 0 rfl) ?_
    refine lv_iadd hx hb dX8_plan_65 ?_
    refine y_put (ci := 0) (v := .int (((M (46 + 5 * w + 4)) 4) + zI (cst N w d q))) (ty := .int) (C := RX0) (T := TX0) (N := 9) hx hb hts hinX0 tyX0 tyX0_ok nmX0 hown hK hW hd9 hS (46 + 5 * w + 4) (show 46 + 5 * w + 4 < 126 by omega) (lcE r_46_5_w_4 (sh_S4 (w := w) (by omega))) rfl 4 (by decide) k133 (fun _ h9 => h9) rfl (by decide +kernel) rfl rfl (Nat.le_of_ble_eq_true rfl) dX8_plan_66 (fun H locs hW hS => ?_)
    have hW := cw_up (P := P) (M := M3) (f := upd (M (46 + 5 * w + 4)) 4 (((M (46 + 5 * w + 4)) 4) + zI (cst N w d q))) (((sh_S4 (w := w) (by omega))).trans rfl) hW
    obtain ⟨M4, hM4⟩ : ∃ x9c : Nat → Nat → Int32, x9c = va_up M3 (46 + 5 * w + 4) (upd (M (46 + 5 * w + 4)) 4 (((M (46 + 5 * w + 4)) 4) + zI (cst N w d q))) := ⟨_, rfl⟩
    have hW : cw g ad P M4 H := by rw [hM4]; exact hW
    have hex : ∀ j : Nat, ¬ j = 66 + 6 * nx → ¬ j = 66 + 6 * nx + (2 + 0) → ¬ j = 66 + 6 * nx + (2 + 1) → ¬ j = 66 + 6 * nx + (2 + 2) → ¬ j = 66 + 6 * nx + (2 + 3) → ¬ j = 6 → ¬ j = 46 + 5 * w + 1 → ¬ j = 46 + 5 * w + 4 → M4 j = M j := fun j q0 q1 q2 q3 q4 q5 q6 q7 => ((congrFun hM4 j).trans (up_ne _ _ q7)).trans (hex j q0 q1 q2 q3 q4 q5 q6)
    have r_0 : M4 (0) = M 0 := ((congrFun hM4 (0)).trans (up_ne _ _ (by omega))).trans r_0
    have r_66_6_nx : M4 (66 + 6 * nx) = upd (upd (upd (upd (upd (upd (M (66 + 6 * nx)) 0 ((M 0 0))) 1 (zI ((-1)))) 1 (zI (w))) 2 (zI (d))) 3 (M (46 + 5 * w + 1) d)) 4 (M (46 + 5 * w + 2) d) := ((congrFun hM4 (66 + 6 * nx)).trans (up_ne _ _ (by omega))).trans r_66_6_nx
    have r_66_6_nx_2_0 : M4 (66 + 6 * nx + (2 + 0)) = M (46 + 5 * 0 + 4) := ((congrFun hM4 (66 + 6 * nx + (2 + 0))).trans (up_ne _ _ (by omega))).trans r_66_6_nx_2_0
    have r_66_6_nx_2_1 : M4 (66 + 6 * nx + (2 + 1)) = M (46 + 5 * 1 + 4) := ((congrFun hM4 (66 + 6 * nx + (2 + 1))).trans (up_ne _ _ (by omega))).trans r_66_6_nx_2_1
    have r_66_6_nx_2_2 : M4 (66 + 6 * nx + (2 + 2)) = M (46 + 5 * 2 + 4) := ((congrFun hM4 (66 + 6 * nx + (2 + 2))).trans (up_ne _ _ (by omega))).trans r_66_6_nx_2_2
    have r_66_6_nx_2_3 : M4 (66 + 6 * nx + (2 + 3)) = M (46 + 5 * 3 + 4) := ((congrFun hM4 (66 + 6 * nx + (2 + 3))).trans (up_ne _ _ (by omega))).trans r_66_6_nx_2_3
    have r_6 : M4 (6) = upd (upd (M 6) 0 (zI ((((nx + 1) % 10 : Nat)) : Int))) 1 (zI (((min (k + 1) 10 : Nat)) : Int)) := ((congrFun hM4 (6)).trans (up_ne _ _ (by omega))).trans r_6
    have r_5 : M4 (5) = M 5 := ((congrFun hM4 (5)).trans (up_ne _ _ (by omega))).trans r_5
    have r_46_5_w : M4 (46 + 5 * w) = M (46 + 5 * w) := ((congrFun hM4 (46 + 5 * w)).trans (up_ne _ _ (by omega))).trans r_46_5_w
    have r_46_5_w_1 : M4 (46 + 5 * w + 1) = upd (M (46 + 5 * w + 1)) d (zI ((q : Int))) := ((congrFun hM4 (46 + 5 * w + 1)).trans (up_ne _ _ (by omega))).trans r_46_5_w_1
    have r_46_5_w_4 : M4 (46 + 5 * w + 4) = upd (M (46 + 5 * w + 4)) 4 (((M (46 + 5 * w + 4)) 4) + zI (cst N w d q)) := ((congrFun hM4 _).trans (up_at _ _ _))
    refine lv_iload hx hb dX8_plan_69 (lv_at hl 0 rfl) ?_
    exact W.iret hx hb hr (fun tX htX hWX => ⟨⟨_, M4, rfl, ⟨by unfold costF; rw [if_pos h7]; rfl, actQ_yes (h7) (INV_day (w := w) (d := d) (x := q + 1) (y := wkd N w d) (u := knd N w d) hI hnx hn6 (by omega) (by omega) (by omega) (by omega) r_6 r_66_6_nx r_66_6_nx_2_0 r_66_6_nx_2_1 r_66_6_nx_2_2 r_66_6_nx_2_3 (fun j q1 q2 q3 q4 q5 => hex j (by omega) (by omega) (by omega) (by omega) (by omega) (by omega) (by omega) (by omega)) (fun e he => by rw [r_46_5_w_1]; exact upd_ne _ he _) (fun e _ => congrFun (hex _ (by omega) (by omega) (by omega) (by omega) (by omega) (by omega) (by omega) (by omega)) e) (by omega) (hN.wkd (by omega) (by omega)) (hN.knd (by omega) (by omega)) (okN_day (okN_acc hN (w := w) (by omega) (by omega) _) (by omega) (by omega) (by omega) (hN.wkd (by omega) (by omega)) (hN.knd (by omega) (by omega)) (by omega)) (upd_at _ _ _) (fun j q1 q2 => (upd_ne _ q1 _).trans (upd_ne _ (by omega) _)) (by rw [r_46_5_w_1, upd_at]; exact congrArg zI (by omega)) (fun gd hg => by obtain ⟨τ, t1, t2⟩ := hg.2.2.2.1 d (by omega); exact ⟨τ, by rw [hex _ (by omega) (by omega) (by omega) (by omega) (by omega) (by omega) (by omega) (by omega)]; exact t1, t2⟩) (fun gd hg q9 hq9 => by rw [r_46_5_w_4]; exact planA hg hq9 (by omega)) (by rw [r_46_5_w_4]; rfl) (by rw [r_46_5_w_4]; rfl)) (fun i h1 h2 => hex i (by omega) (by omega) (by omega) (by omega) (by omega) (by omega) (by omega) (by omega))⟩, g_at htX hW⟩, hS.F htX⟩) hS.2.2 dX8_plan_71
  · refine lv_iconst (v := zI (-1)) hx hb dX8_plan_10 (by decide) ?_
    exact W.iret hx hb hr (fun tX htX hWX => ⟨⟨_, M, rfl, ⟨by unfold costF; rw [if_neg h7], actQ_no hI h7⟩, g_at htX hW⟩, hS.F htX⟩) hS.2.2 dX8_plan_11

set_option maxHeartbeats 4000000 in
set_option maxRecDepth 100000 in
theorem c_X8_work (l : Launch) (g : GG) (ad : Nat → Nat) (hd9 : hD ad) (P : Nat → Nat) (M : Nat → Nat → Int32) (N sn : Nat → Int32) (k : Nat) (hI : INV P M N sn k) (v qq : Int) (hv : R32 v) (hqq : R32 qq) : Met l yX8_work wsX8_work ({ frames := 4, cells := 0, slots := 0, locals := 93 }) (gPc g [.ref ((ad 0)), .int (zI (v)), .int (zI (qq))] (cw g ad P M)) (va_Qi (fun (r : Int32) (u : Nat → Nat → Int32) => r = zI (bz (workC N v qq)) ∧ actQ P M u (actN (workC N v qq) N (workN N v.toNat qq.toNat)) (actS (workC N v qq) sn N k) (actK (workC N v qq) k)) (fun (u : Nat → Nat → Int32) (tS : State) => cw g ad P u tS.heap) (hbA ad)) 0 0 (hbA ad) := by
  refine Met.ofW (cc := cX8_work) (maxL := 3) (ret := (some .boolean)) (by decide) rfl ?_
  intro p e s m args below meth c s₁ B hml hv
  obtain ⟨rfl, hW, hK⟩ := hv
  have hx := B.exec
  have hb := B.bytes
  have hr := B.returns
  have hts := atoms_spec (ws := wsX8_work) B.pre
  have hown : s.vm.findClass RX8 = some m.cls := findClass_of_methodNamed B.named
  have hlocks := B.notSynchronized
  have hinX3 : ∀ w ∈ wsX30, w ∈ wsX8_work := by decide +kernel
  have hinX8 : ∀ w ∈ wsX80, w ∈ wsX8_work := by decide +kernel
  have k51 := hts (.fieldLink RX8 51 "HoursBank" "today" "I") (by decide +kernel)
  have k37 := hts (.fieldLink RX8 37 "HoursBank" "sheets" "[LHoursBank$Sheet;") (by decide +kernel)
  have k229 := hts (.fieldLink RX8 229 "HoursBank$Sheet" "told" "[I") (by decide +kernel)
  have hl := lv_entry ([.ref ((ad 0)), .int (zI (v)), .int (zI (qq))]) (n := 3) (Nat.le_of_ble_eq_true rfl)
  rw [lg_entry_eq]
  generalize (lg_sl ([.ref ((ad 0)), .int (zI (v)), .int (zI (qq))]) ++ List.replicate (3 - (lg_sl ([.ref ((ad 0)), .int (zI (v)), .int (zI (qq))])).length) Slot.unset).toArray = ls at hl ⊢
  have hl : lv_has ls 3 [(0, .ref ((ad 0))), (1, .int (zI (v))), (2, .int (zI (qq)))] := hl
  have hS : va_S (hbA ad) s.heap s.heap [] := va_S.rf
  obtain ⟨H, hH9⟩ : ∃ H, H = s.heap := ⟨_, rfl⟩
  obtain ⟨locs, hL9⟩ : ∃ x9l : List Loc, x9l = [] := ⟨_, rfl⟩
  have hW : cw g ad P M H := hH9 ▸ hW
  have hS : va_S (hbA ad) s.heap H locs := by rw [hH9, hL9]; exact hS
  refine z_start hH9 hL9 ?_
  clear hH9 hL9
  have hex : ∀ j : Nat, M j = M j := fun _ => rfl
  obtain ⟨hP9, hc9, hk10, hk6, nx, hnx, hn6, hch9⟩ := id hI
  obtain ⟨hN, hZt, hst9, hRu, hSh, ht9, hfl9⟩ := id hc9
  have hq57 := hN.nw.le
  have hqtd := hN.td.le
  refine lv_aload_n hx hb dX8_work_0 rfl (lv_at hl 0 rfl) ?_
  refine lv_iload_n hx hb dX8_work_1 rfl (lv_at hl 1 rfl) ?_
  refine lv_aload_n hx hb dX8_work_2 rfl (lv_at hl 0 rfl) ?_
  have r_0 : M (0) = M 0 := hex (0) 
  refine va_get (D := g.1) (ci := 8) (v := .int ((M 0) 0)) (C := RX8) (T := TX8) (N := 7) hx hb hts hinX8 hown hK (hb1 hW (show 0 < 126 by omega) (lcE r_0 sh_0)) 0 rfl rfl 6 (by decide) k51 (fun _ h9 => h9) rfl dX8_work_3 ?_
  refine z_top (y := zI (mn N 110)) (ht9.trans hN.td.eq) ?_
  refine vp_callSi (va_Run.run (va_runV (As := [.int (zI (v)), .int (zI (mn N 110))]) (rest := []) ⟨hx, hb, hml, hown, hts⟩ (c_X8_isOpen l g ((ad 0)) (N) (hN) ((M 6 1)) ((M 1 0)) (v) ((mn N 110 : Int)) (hv) (by omega)) (cwV 2 hts gX8_work_X8_isOpen rfl rfl rfl (by decide +kernel) ⟨Nat.le_of_ble_eq_true rfl, Nat.le_of_ble_eq_true rfl⟩) (g_preV (cw_rdH hW hP9 hSh hRu ht9) hK (va_recv hK (hb1 hW (show 0 < 126 by omega) (lcE rfl sh_0)) (q0 := 0) (ci := 8) rfl rfl)) rfl rfl hl.1 rfl (lv_room (Nat.le_of_ble_eq_true rfl)) dX8_work_6 ⟨Nat.le_of_ble_eq_true rfl, Nat.le_of_ble_eq_true rfl⟩)) (fun r hr9 => ?_)
  subst hr9
  refine z_bz_eq (tgt := 36) hx hb dX8_work_9 (by decide) (fun h9 => ?_) (fun h9 => ?_)
  · refine lv_iconst (v := zI (0)) hx hb dX8_work_36 (by decide) ?_
    exact W.zret hx hb hr (by decide) (fun tX htX hWX => ⟨⟨_, M, rfl, ⟨bz_0 (by first | exact fun q9 => h9 ⟨q9.1, by omega⟩ | (intro q9; exact h16 q9.2.1) | (intro q9; have q8 := q9.1.2; have q7 := q9.2.2.2; simp only [Int.toNat_natCast] at q7 q8; omega)), actQ_no hI (by first | exact fun q9 => h9 ⟨q9.1, by omega⟩ | (intro q9; exact h16 q9.2.1) | (intro q9; have q8 := q9.1.2; have q7 := q9.2.2.2; simp only [Int.toNat_natCast] at q7 q8; omega))⟩, g_at htX hW⟩, hS.F htX⟩) hS.2.2 dX8_work_37
  · refine lv_iload_n hx hb dX8_work_12 rfl (lv_at hl 2 rfl) ?_
    refine vp_callSi (va_Run.run (va_runS (As := [.int (zI (qq))]) (rest := []) ⟨hx, hb, hml, hown, hts⟩ (c_X8_isQuarters l (qq) (hqq)) (va_cwS 1 hts gX8_work_X8_isQuarters rfl rfl rfl (by decide +kernel) ⟨Nat.le_of_ble_eq_true rfl, Nat.le_of_ble_eq_true rfl⟩) g_preS0 rfl rfl hl.1 rfl (lv_room (Nat.le_of_ble_eq_true rfl)) dX8_work_13 ⟨Nat.le_of_ble_eq_true rfl, Nat.le_of_ble_eq_true rfl⟩)) (fun r hr9 => ?_)
    subst hr9
    refine z_bz_eq (tgt := 36) hx hb dX8_work_16 (by decide) (fun h16 => ?_) (fun h16 => ?_)
    · refine lv_iconst (v := zI (0)) hx hb dX8_work_36 (by decide) ?_
      exact W.zret hx hb hr (by decide) (fun tX htX hWX => ⟨⟨_, M, rfl, ⟨bz_0 (by first | exact fun q9 => h9 ⟨q9.1, by omega⟩ | (intro q9; exact h16 q9.2.1) | (intro q9; have q8 := q9.1.2; have q7 := q9.2.2.2; simp only [Int.toNat_natCast] at q7 q8; omega)), actQ_no hI (by first | exact fun q9 => h9 ⟨q9.1, by omega⟩ | (intro q9; exact h16 q9.2.1) | (intro q9; have q8 := q9.1.2; have q7 := q9.2.2.2; simp only [Int.toNat_natCast] at q7 q8; omega))⟩, g_at htX hW⟩, hS.F htX⟩) hS.2.2 dX8_work_37
    · obtain ⟨w, rfl⟩ := Int.eq_ofNat_of_zero_le h9.1.1.1
      obtain ⟨q, rfl⟩ := Int.eq_ofNat_of_zero_le h16.1
      have hgo : goneN N w = 0 := h9.1.2
      obtain ⟨gd, hg⟩ := hSh w (by omega) (by omega)
      have hg0 := hg.2.2.2.2.2.2.2.2.2.1
      obtain ⟨τ, hτ, hτ2⟩ := hg.2.2.2.1 ((mn N 110)) (by omega)
      have hkk := hN.knd (w := w) (d := (mn N 110)) (by omega) (by omega)
      have hkw := hN.wkd (w := w) (d := (mn N 110)) (by omega) (by omega)
      unfold tlOK at hτ2
      refine lv_aload_n hx hb dX8_work_19 rfl (lv_at hl 0 rfl) ?_
      refine va_get (D := g.1) (ci := 8) (v := .ref ((ad 5))) (C := RX8) (T := TX8) (N := 7) hx hb hts hinX8 hown hK (hb1 hW (show 0 < 126 by omega) (lcE r_0 sh_0)) 0 rfl rfl 2 (by decide) k37 (fun _ h9 => h9) rfl dX8_work_20 ?_
      refine lv_iload_n hx hb dX8_work_23 rfl (lv_at hl 1 rfl) ?_
      have r_5 : M (5) = M 5 := hex (5) 
      refine z_aald hx hb hK (hb1 hW (show 5 < 126 by omega) (lcE r_5 sh_5)) 0 4 rfl rfl rfl (by decide) (w) (by omega) (by omega) rfl dX8_work_24 ?_
      have r_46_5_w : M (46 + 5 * w) = M (46 + 5 * w) := hex (46 + 5 * w) 
      refine va_get (D := g.1) (ci := 3) (v := .ref ((ad (46 + 5 * w + 2)))) (C := RX3) (T := TX3) (N := 7) hx hb hts hinX3 hown hK (hb1 hW (show 46 + 5 * w < 126 by omega) (lcE r_46_5_w (sh_S0 (w := w) (by omega)))) 0 rfl rfl 1 (by decide) k229 (fun _ h9 => h9) rfl dX8_work_25 ?_
      refine lv_aload_n hx hb dX8_work_28 rfl (lv_at hl 0 rfl) ?_
      refine va_get (D := g.1) (ci := 8) (v := .int ((M 0) 0)) (C := RX8) (T := TX8) (N := 7) hx hb hts hinX8 hown hK (hb1 hW (show 0 < 126 by omega) (lcE r_0 sh_0)) 0 rfl rfl 6 (by decide) k51 (fun _ h9 => h9) rfl dX8_work_29 ?_
      refine z_top (y := zI (mn N 110)) (ht9.trans hN.td.eq) ?_
      have r_46_5_w_2 : M (46 + 5 * w + 2) = M (46 + 5 * w + 2) := hex (46 + 5 * w + 2) 
      refine z_iald hx hb hK (hb1 hW (show 46 + 5 * w + 2 < 126 by omega) (lcE r_46_5_w_2 (sh_S2 (w := w) (by omega)))) 0 0 rfl rfl (by decide) (mn N 110) (by omega) (by omega) dX8_work_32 ?_
      refine z_top (y := zI (τ)) (hτ) ?_
      refine z_if_ge (tgt := 38) hx hb dX8_work_33 (by decide) (by omega) (fun h33 => ?_) (fun h33 => ?_)
      · refine lv_aload_n hx hb dX8_work_38 rfl (lv_at hl 0 rfl) ?_
        refine lv_iload_n hx hb dX8_work_39 rfl (lv_at hl 1 rfl) ?_
        refine lv_aload_n hx hb dX8_work_40 rfl (lv_at hl 0 rfl) ?_
        refine va_get (D := g.1) (ci := 8) (v := .int ((M 0) 0)) (C := RX8) (T := TX8) (N := 7) hx hb hts hinX8 hown hK (hb1 hW (show 0 < 126 by omega) (lcE r_0 sh_0)) 0 rfl rfl 6 (by decide) k51 (fun _ h9 => h9) rfl dX8_work_41 ?_
        refine z_top (y := zI (mn N 110)) (ht9.trans hN.td.eq) ?_
        refine lv_iload_n hx hb dX8_work_44 rfl (lv_at hl 2 rfl) ?_
        refine va_callv (va_runV (As := [.int (zI ((w : Int))), .int (zI (mn N 110)), .int (zI ((q : Int)))]) (rest := []) ⟨hx, hb, hml, hown, hts⟩ (c_X8_tell l g (ad) (hd9) (P) (M) (nx) (k) (hnx) (hn6) (hk10) (hk6) (w) (mn N 110) (by omega) (by omega) ((q : Int))) (cwV 3 hts gX8_work_X8_tell rfl rfl rfl (by decide +kernel) ⟨Nat.le_of_ble_eq_true rfl, Nat.le_of_ble_eq_true rfl⟩) (g_preV hW hK (va_recv hK (hb1 hW (show 0 < 126 by omega) (lcE r_0 sh_0)) (q0 := 0) (ci := 8) rfl rfl)) rfl rfl hl.1 rfl (lv_room (Nat.le_of_ble_eq_true rfl)) dX8_work_45 ⟨Nat.le_of_ble_eq_true rfl, Nat.le_of_ble_eq_true rfl⟩) hS (fun q _ h => h) (fun q h => h) (fun u0 t9 H1 locs ht9 hvm9 hw9 hB9 hz9 hk9 hS => ?_)
        rw [ht9] at hB9
        clear hz9 hk9 hvm9 ht9
        generalize H1 = H at hB9 hS ⊢
        have hW := hB9
        clear hB9
        have hW : cw g ad P (va_up (va_up (va_up (va_up (va_up (va_up (va_up M (66 + 6 * nx) (upd (upd (upd (upd (upd (upd (M (66 + 6 * nx)) 0 (M 0 0)) 1 (zI ((-1)))) 1 (zI (w))) 2 (zI ((mn N 110)))) 3 (M (46 + 5 * w + 1) (mn N 110))) 4 (M (46 + 5 * w + 2) (mn N 110)))) (66 + 6 * nx + (2 + 0)) (M (46 + 5 * 0 + 4))) (66 + 6 * nx + (2 + 1)) (M (46 + 5 * 1 + 4))) (66 + 6 * nx + (2 + 2)) (M (46 + 5 * 2 + 4))) (66 + 6 * nx + (2 + 3)) (M (46 + 5 * 3 + 4))) (6) (upd (upd (M 6) 0 (zI ((((nx + 1) % 10 : Nat)) : Int))) 1 (zI (((min (k + 1) 10 : Nat)) : Int)))) (46 + 5 * w + 2) (upd (M (46 + 5 * w + 2)) (mn N 110) (zI ((q : Int))))) H := hW
        obtain ⟨M2, hM2⟩ : ∃ x9c : Nat → Nat → Int32, x9c = va_up (va_up (va_up (va_up (va_up (va_up (va_up M (66 + 6 * nx) (upd (upd (upd (upd (upd (upd (M (66 + 6 * nx)) 0 (M 0 0)) 1 (zI ((-1)))) 1 (zI (w))) 2 (zI ((mn N 110)))) 3 (M (46 + 5 * w + 1) (mn N 110))) 4 (M (46 + 5 * w + 2) (mn N 110)))) (66 + 6 * nx + (2 + 0)) (M (46 + 5 * 0 + 4))) (66 + 6 * nx + (2 + 1)) (M (46 + 5 * 1 + 4))) (66 + 6 * nx + (2 + 2)) (M (46 + 5 * 2 + 4))) (66 + 6 * nx + (2 + 3)) (M (46 + 5 * 3 + 4))) (6) (upd (upd (M 6) 0 (zI ((((nx + 1) % 10 : Nat)) : Int))) 1 (zI (((min (k + 1) 10 : Nat)) : Int)))) (46 + 5 * w + 2) (upd (M (46 + 5 * w + 2)) (mn N 110) (zI ((q : Int)))) := ⟨_, rfl⟩
        have hW : cw g ad P M2 H := by rw [hM2]; exact hW
        have hex : ∀ j : Nat, ¬ j = 66 + 6 * nx → ¬ j = 66 + 6 * nx + (2 + 0) → ¬ j = 66 + 6 * nx + (2 + 1) → ¬ j = 66 + 6 * nx + (2 + 2) → ¬ j = 66 + 6 * nx + (2 + 3) → ¬ j = 6 → ¬ j = 46 + 5 * w + 2 → M2 j = M j := fun j q0 q1 q2 q3 q4 q5 q6 => ((congrFun hM2 j).trans ((up_ne _ _ q6).trans ((up_ne _ _ q5).trans ((up_ne _ _ q4).trans ((up_ne _ _ q3).trans ((up_ne _ _ q2).trans ((up_ne _ _ q1).trans (up_ne _ _ q0)))))))).trans (hex j )
        have r_0 : M2 (0) = M 0 := ((congrFun hM2 (0)).trans ((up_ne _ _ (by omega)).trans ((up_ne _ _ (by omega)).trans ((up_ne _ _ (by omega)).trans ((up_ne _ _ (by omega)).trans ((up_ne _ _ (by omega)).trans ((up_ne _ _ (by omega)).trans (up_ne _ _ (by omega))))))))).trans r_0
        have r_5 : M2 (5) = M 5 := ((congrFun hM2 (5)).trans ((up_ne _ _ (by omega)).trans ((up_ne _ _ (by omega)).trans ((up_ne _ _ (by omega)).trans ((up_ne _ _ (by omega)).trans ((up_ne _ _ (by omega)).trans ((up_ne _ _ (by omega)).trans (up_ne _ _ (by omega))))))))).trans r_5
        have r_46_5_w : M2 (46 + 5 * w) = M (46 + 5 * w) := ((congrFun hM2 (46 + 5 * w)).trans ((up_ne _ _ (by omega)).trans ((up_ne _ _ (by omega)).trans ((up_ne _ _ (by omega)).trans ((up_ne _ _ (by omega)).trans ((up_ne _ _ (by omega)).trans ((up_ne _ _ (by omega)).trans (up_ne _ _ (by omega))))))))).trans r_46_5_w
        have r_66_6_nx : M2 (66 + 6 * nx) = upd (upd (upd (upd (upd (upd (M (66 + 6 * nx)) 0 (M 0 0)) 1 (zI ((-1)))) 1 (zI (w))) 2 (zI ((mn N 110)))) 3 (M (46 + 5 * w + 1) (mn N 110))) 4 (M (46 + 5 * w + 2) (mn N 110)) := ((congrFun hM2 _).trans ((up_ne _ _ (by omega)).trans ((up_ne _ _ (by omega)).trans ((up_ne _ _ (by omega)).trans ((up_ne _ _ (by omega)).trans ((up_ne _ _ (by omega)).trans ((up_ne _ _ (by omega)).trans (up_at _ _ _))))))))
        have r_66_6_nx_2_0 : M2 (66 + 6 * nx + (2 + 0)) = M (46 + 5 * 0 + 4) := ((congrFun hM2 _).trans ((up_ne _ _ (by omega)).trans ((up_ne _ _ (by omega)).trans ((up_ne _ _ (by omega)).trans ((up_ne _ _ (by omega)).trans ((up_ne _ _ (by omega)).trans (up_at _ _ _)))))))
        have r_66_6_nx_2_1 : M2 (66 + 6 * nx + (2 + 1)) = M (46 + 5 * 1 + 4) := ((congrFun hM2 _).trans ((up_ne _ _ (by omega)).trans ((up_ne _ _ (by omega)).trans ((up_ne _ _ (by omega)).trans ((up_ne _ _ (by omega)).trans (up_at _ _ _))))))
        have r_66_6_nx_2_2 : M2 (66 + 6 * nx + (2 + 2)) = M (46 + 5 * 2 + 4) := ((congrFun hM2 _).trans ((up_ne _ _ (by omega)).trans ((up_ne _ _ (by omega)).trans ((up_ne _ _ (by omega)).trans (up_at _ _ _)))))
        have r_66_6_nx_2_3 : M2 (66 + 6 * nx + (2 + 3)) = M (46 + 5 * 3 + 4) := ((congrFun hM2 _).trans ((up_ne _ _ (by omega)).trans ((up_ne _ _ (by omega)).trans (up_at _ _ _))))
        have r_6 : M2 (6) = upd (upd (M 6) 0 (zI ((((nx + 1) % 10 : Nat)) : Int))) 1 (zI (((min (k + 1) 10 : Nat)) : Int)) := ((congrFun hM2 _).trans ((up_ne _ _ (by omega)).trans (up_at _ _ _)))
        have r_46_5_w_2 : M2 (46 + 5 * w + 2) = upd (M (46 + 5 * w + 2)) (mn N 110) (zI ((q : Int))) := ((congrFun hM2 _).trans (up_at _ _ _))
        refine lv_iconst (v := zI (1)) hx hb dX8_work_48 (by decide) ?_
        exact W.zret hx hb hr (by decide) (fun tX htX hWX => ⟨⟨_, M2, rfl, ⟨bz_1 (⟨h9.1, h16, by omega, by simp only [Int.toNat_natCast]; omega⟩), actQ_yes (⟨h9.1, h16, by omega, by simp only [Int.toNat_natCast]; omega⟩) (INV_day (w := w) (d := (mn N 110)) (x := chg N w ((mn N 110))) (y := q) (u := 0) hI hnx hn6 (by omega) (by omega) (by omega) (by omega) r_6 r_66_6_nx r_66_6_nx_2_0 r_66_6_nx_2_1 r_66_6_nx_2_2 r_66_6_nx_2_3 (fun j q1 q2 q3 q4 q5 => hex j (by omega) (by omega) (by omega) (by omega) (by omega) (by omega) (by omega)) (fun e _ => congrFun (hex _ (by omega) (by omega) (by omega) (by omega) (by omega) (by omega) (by omega)) e) (fun e he => by rw [r_46_5_w_2]; exact upd_ne _ he _) (hN.chg (by omega) (by omega)) (by omega) (by omega) (okN_day hN (by omega) (by omega) (hN.chg (by omega) (by omega)) (by omega) (by omega) (by omega)) (upd_at _ _ _) (fun j q1 q2 => upd_ne _ q1 _) ((congrFun (hex _ (by omega) (by omega) (by omega) (by omega) (by omega) (by omega) (by omega)) _).trans (hg.2.2.1 _ (by omega))) (fun gd2 hg2 => ⟨(q : Int), (congrFun r_46_5_w_2 _).trans ((upd_at _ _ _).trans (congrArg zI (by omega))), by have hg3 := hg2.2.2.2.2.2.2.2.2.2.1; omega⟩) (fun gd2 hg2 q9 hq9 => (congrFun (hex _ (by omega) (by omega) (by omega) (by omega) (by omega) (by omega) (by omega)) _).trans ((hg2.2.2.2.2.2.1 q9 hq9).trans (upd_ne _ (by omega) _).symm)) (congrFun (hex _ (by omega) (by omega) (by omega) (by omega) (by omega) (by omega) (by omega)) 7) (congrFun (hex _ (by omega) (by omega) (by omega) (by omega) (by omega) (by omega) (by omega)) 8)) (fun i h1 h2 => hex i (by omega) (by omega) (by omega) (by omega) (by omega) (by omega) (by omega))⟩, g_at htX hW⟩, hS.F htX⟩) hS.2.2 dX8_work_49
      · refine lv_iconst (v := zI (0)) hx hb dX8_work_36 (by decide) ?_
        exact W.zret hx hb hr (by decide) (fun tX htX hWX => ⟨⟨_, M, rfl, ⟨bz_0 (by first | exact fun q9 => h9 ⟨q9.1, by omega⟩ | (intro q9; exact h16 q9.2.1) | (intro q9; have q8 := q9.1.2; have q7 := q9.2.2.2; simp only [Int.toNat_natCast] at q7 q8; omega)), actQ_no hI (by first | exact fun q9 => h9 ⟨q9.1, by omega⟩ | (intro q9; exact h16 q9.2.1) | (intro q9; have q8 := q9.1.2; have q7 := q9.2.2.2; simp only [Int.toNat_natCast] at q7 q8; omega))⟩, g_at htX hW⟩, hS.F htX⟩) hS.2.2 dX8_work_37

set_option maxHeartbeats 4000000 in
set_option maxRecDepth 100000 in
theorem c_X8_sick (l : Launch) (g : GG) (ad : Nat → Nat) (hd9 : hD ad) (P : Nat → Nat) (M : Nat → Nat → Int32) (N sn : Nat → Int32) (k : Nat) (hI : INV P M N sn k) (v f : Int) (hv : R32 v) (hf : f = 0 ∨ f = 1) : Met l yX8_sick wsX8_sick ({ frames := 4, cells := 0, slots := 0, locals := 93 }) (gPc g [.ref ((ad 0)), .int (zI (v)), .int (zI (f))] (cw g ad P M)) (va_Qi (fun (r : Int32) (u : Nat → Nat → Int32) => r = zI (bz (sickC N v f)) ∧ actQ P M u (actN (sickC N v f) N (sickN N v.toNat f)) (actS (sickC N v f) sn N k) (actK (sickC N v f) k)) (fun (u : Nat → Nat → Int32) (tS : State) => cw g ad P u tS.heap) (hbA ad)) 0 0 (hbA ad) := by
  refine Met.ofW (cc := cX8_sick) (maxL := 4) (ret := (some .boolean)) (by decide) rfl ?_
  intro p e s m args below meth c s₁ B hml hv
  obtain ⟨rfl, hW, hK⟩ := hv
  have hx := B.exec
  have hb := B.bytes
  have hr := B.returns
  have hts := atoms_spec (ws := wsX8_sick) B.pre
  have hown : s.vm.findClass RX8 = some m.cls := findClass_of_methodNamed B.named
  have hlocks := B.notSynchronized
  have hinX3 : ∀ w ∈ wsX30, w ∈ wsX8_sick := by decide +kernel
  have hinX8 : ∀ w ∈ wsX80, w ∈ wsX8_sick := by decide +kernel
  have k51 := hts (.fieldLink RX8 51 "HoursBank" "today" "I") (by decide +kernel)
  have k37 := hts (.fieldLink RX8 37 "HoursBank" "sheets" "[LHoursBank$Sheet;") (by decide +kernel)
  have k229 := hts (.fieldLink RX8 229 "HoursBank$Sheet" "told" "[I") (by decide +kernel)
  have hl := lv_entry ([.ref ((ad 0)), .int (zI (v)), .int (zI (f))]) (n := 4) (Nat.le_of_ble_eq_true rfl)
  rw [lg_entry_eq]
  generalize (lg_sl ([.ref ((ad 0)), .int (zI (v)), .int (zI (f))]) ++ List.replicate (4 - (lg_sl ([.ref ((ad 0)), .int (zI (v)), .int (zI (f))])).length) Slot.unset).toArray = ls at hl ⊢
  have hl : lv_has ls 4 [(0, .ref ((ad 0))), (1, .int (zI (v))), (2, .int (zI (f)))] := hl
  have hS : va_S (hbA ad) s.heap s.heap [] := va_S.rf
  obtain ⟨H, hH9⟩ : ∃ H, H = s.heap := ⟨_, rfl⟩
  obtain ⟨locs, hL9⟩ : ∃ x9l : List Loc, x9l = [] := ⟨_, rfl⟩
  have hW : cw g ad P M H := hH9 ▸ hW
  have hS : va_S (hbA ad) s.heap H locs := by rw [hH9, hL9]; exact hS
  refine z_start hH9 hL9 ?_
  clear hH9 hL9
  have hex : ∀ j : Nat, M j = M j := fun _ => rfl
  obtain ⟨hP9, hc9, hk10, hk6, nx, hnx, hn6, hch9⟩ := id hI
  obtain ⟨hN, hZt, hst9, hRu, hSh, ht9, hfl9⟩ := id hc9
  have hq57 := hN.nw.le
  have hqtd := hN.td.le
  refine lv_iload_n hx hb dX8_sick_0 rfl (lv_at hl 2 rfl) ?_
  refine z_if_eq (tgt := 8) hx hb dX8_sick_1 (by decide) (by omega) (fun h1 => ?_) (fun h1 => ?_)
  · refine lv_iconst (v := zI (-1)) hx hb dX8_sick_8 (by decide) ?_
    refine lv_istore_n (lv' := [(3, .int (zI ((-1)))), (0, .ref ((ad 0))), (1, .int (zI (v))), (2, .int (zI (f)))]) hx hb dX8_sick_9 rfl hl (by decide) rfl (fun ls hl => ?_)
    refine lv_aload_n hx hb dX8_sick_10 rfl (lv_at hl 1 rfl) ?_
    refine lv_iload_n hx hb dX8_sick_11 rfl (lv_at hl 2 rfl) ?_
    refine lv_aload_n hx hb dX8_sick_12 rfl (lv_at hl 1 rfl) ?_
    have r_0 : M (0) = M 0 := hex (0) 
    refine va_get (D := g.1) (ci := 8) (v := .int ((M 0) 0)) (C := RX8) (T := TX8) (N := 7) hx hb hts hinX8 hown hK (hb1 hW (show 0 < 126 by omega) (lcE r_0 sh_0)) 0 rfl rfl 6 (by decide) k51 (fun _ h9 => h9) rfl dX8_sick_13 ?_
    refine z_top (y := zI (mn N 110)) (ht9.trans hN.td.eq) ?_
    refine vp_callSi (va_Run.run (va_runV (As := [.int (zI (v)), .int (zI (mn N 110))]) (rest := []) ⟨hx, hb, hml, hown, hts⟩ (c_X8_isOpen l g ((ad 0)) (N) (hN) ((M 6 1)) ((M 1 0)) (v) ((mn N 110 : Int)) (hv) (by omega)) (cwV 2 hts gX8_sick_X8_isOpen rfl rfl rfl (by decide +kernel) ⟨Nat.le_of_ble_eq_true rfl, Nat.le_of_ble_eq_true rfl⟩) (g_preV (cw_rdH hW hP9 hSh hRu ht9) hK (va_recv hK (hb1 hW (show 0 < 126 by omega) (lcE rfl sh_0)) (q0 := 0) (ci := 8) rfl rfl)) rfl rfl hl.1 rfl (lv_room (Nat.le_of_ble_eq_true rfl)) dX8_sick_16 ⟨Nat.le_of_ble_eq_true rfl, Nat.le_of_ble_eq_true rfl⟩)) (fun r hr9 => ?_)
    subst hr9
    refine z_bz_eq (tgt := 40) hx hb dX8_sick_19 (by decide) (fun h19 => ?_) (fun h19 => ?_)
    · refine lv_iconst (v := zI (0)) hx hb dX8_sick_40 (by decide) ?_
      exact W.zret hx hb hr (by decide) (fun tX htX hWX => ⟨⟨_, M, rfl, ⟨bz_0 (by first | exact fun q9 => h19 ⟨q9.1, by omega⟩ | (intro q9; have q8 := q9.2.2.1; have q7 := q9.2.2.2; simp only [Int.toNat_natCast] at q7 q8; omega)), actQ_no hI (by first | exact fun q9 => h19 ⟨q9.1, by omega⟩ | (intro q9; have q8 := q9.2.2.1; have q7 := q9.2.2.2; simp only [Int.toNat_natCast] at q7 q8; omega))⟩, g_at htX hW⟩, hS.F htX⟩) hS.2.2 dX8_sick_41
    · obtain ⟨w, rfl⟩ := Int.eq_ofNat_of_zero_le h19.1.1.1
      have hgo : goneN N w = 0 := h19.1.2
      obtain ⟨gd, hg⟩ := hSh w (by omega) (by omega)
      have hg0 := hg.2.2.2.2.2.2.2.2.2.1
      obtain ⟨τ, hτ, hτ2⟩ := hg.2.2.2.1 ((mn N 110)) (by omega)
      have hkk := hN.knd (w := w) (d := (mn N 110)) (by omega) (by omega)
      have hkw := hN.wkd (w := w) (d := (mn N 110)) (by omega) (by omega)
      unfold tlOK at hτ2
      refine lv_aload_n hx hb dX8_sick_22 rfl (lv_at hl 1 rfl) ?_
      refine va_get (D := g.1) (ci := 8) (v := .ref ((ad 5))) (C := RX8) (T := TX8) (N := 7) hx hb hts hinX8 hown hK (hb1 hW (show 0 < 126 by omega) (lcE r_0 sh_0)) 0 rfl rfl 2 (by decide) k37 (fun _ h9 => h9) rfl dX8_sick_23 ?_
      refine lv_iload_n hx hb dX8_sick_26 rfl (lv_at hl 2 rfl) ?_
      have r_5 : M (5) = M 5 := hex (5) 
      refine z_aald hx hb hK (hb1 hW (show 5 < 126 by omega) (lcE r_5 sh_5)) 0 4 rfl rfl rfl (by decide) (w) (by omega) (by omega) rfl dX8_sick_27 ?_
      have r_46_5_w : M (46 + 5 * w) = M (46 + 5 * w) := hex (46 + 5 * w) 
      refine va_get (D := g.1) (ci := 3) (v := .ref ((ad (46 + 5 * w + 2)))) (C := RX3) (T := TX3) (N := 7) hx hb hts hinX3 hown hK (hb1 hW (show 46 + 5 * w < 126 by omega) (lcE r_46_5_w (sh_S0 (w := w) (by omega)))) 0 rfl rfl 1 (by decide) k229 (fun _ h9 => h9) rfl dX8_sick_28 ?_
      refine lv_aload_n hx hb dX8_sick_31 rfl (lv_at hl 1 rfl) ?_
      refine va_get (D := g.1) (ci := 8) (v := .int ((M 0) 0)) (C := RX8) (T := TX8) (N := 7) hx hb hts hinX8 hown hK (hb1 hW (show 0 < 126 by omega) (lcE r_0 sh_0)) 0 rfl rfl 6 (by decide) k51 (fun _ h9 => h9) rfl dX8_sick_32 ?_
      refine z_top (y := zI (mn N 110)) (ht9.trans hN.td.eq) ?_
      have r_46_5_w_2 : M (46 + 5 * w + 2) = M (46 + 5 * w + 2) := hex (46 + 5 * w + 2) 
      refine z_iald hx hb hK (hb1 hW (show 46 + 5 * w + 2 < 126 by omega) (lcE r_46_5_w_2 (sh_S2 (w := w) (by omega)))) 0 0 rfl rfl (by decide) (mn N 110) (by omega) (by omega) dX8_sick_35 ?_
      refine z_top (y := zI (τ)) (hτ) ?_
      refine lv_iload_n hx hb dX8_sick_36 rfl (lv_at hl 0 rfl) ?_
      refine z_icmp_eq (tgt := 42) hx hb dX8_sick_37 (by decide) (by omega) (by omega) (fun h37 => ?_) (fun h37 => ?_)
      · refine lv_aload_n hx hb dX8_sick_42 rfl (lv_at hl 1 rfl) ?_
        refine lv_iload_n hx hb dX8_sick_43 rfl (lv_at hl 2 rfl) ?_
        refine lv_aload_n hx hb dX8_sick_44 rfl (lv_at hl 1 rfl) ?_
        refine va_get (D := g.1) (ci := 8) (v := .int ((M 0) 0)) (C := RX8) (T := TX8) (N := 7) hx hb hts hinX8 hown hK (hb1 hW (show 0 < 126 by omega) (lcE r_0 sh_0)) 0 rfl rfl 6 (by decide) k51 (fun _ h9 => h9) rfl dX8_sick_45 ?_
        refine z_top (y := zI (mn N 110)) (ht9.trans hN.td.eq) ?_
        refine lv_iload_n hx hb dX8_sick_48 rfl (lv_at hl 3 rfl) ?_
        refine z_if_eq (tgt := 56) hx hb dX8_sick_49 (by decide) (by omega) (fun h49 => ?_) (fun h49 => ?_)
        · refine lv_iconst (v := zI (0)) hx hb dX8_sick_56 (by decide) ?_
          refine va_callv (va_runV (As := [.int (zI ((w : Int))), .int (zI (mn N 110)), .int (zI (0))]) (rest := []) ⟨hx, hb, hml, hown, hts⟩ (c_X8_tell l g (ad) (hd9) (P) (M) (nx) (k) (hnx) (hn6) (hk10) (hk6) (w) (mn N 110) (by omega) (by omega) (0)) (cwV 3 hts gX8_sick_X8_tell rfl rfl rfl (by decide +kernel) ⟨Nat.le_of_ble_eq_true rfl, Nat.le_of_ble_eq_true rfl⟩) (g_preV hW hK (va_recv hK (hb1 hW (show 0 < 126 by omega) (lcE r_0 sh_0)) (q0 := 0) (ci := 8) rfl rfl)) rfl rfl hl.1 rfl (lv_room (Nat.le_of_ble_eq_true rfl)) dX8_sick_57 ⟨Nat.le_of_ble_eq_true rfl, Nat.le_of_ble_eq_true rfl⟩) hS (fun q _ h => h) (fun q h => h) (fun u0 t9 H1 locs ht9 hvm9 hw9 hB9 hz9 hk9 hS => ?_)
          rw [ht9] at hB9
          clear hz9 hk9 hvm9 ht9
          generalize H1 = H at hB9 hS ⊢
          have hW := hB9
          clear hB9
          have hW : cw g ad P (va_up (va_up (va_up (va_up (va_up (va_up (va_up M (66 + 6 * nx) (upd (upd (upd (upd (upd (upd (M (66 + 6 * nx)) 0 (M 0 0)) 1 (zI ((-1)))) 1 (zI (w))) 2 (zI ((mn N 110)))) 3 (M (46 + 5 * w + 1) (mn N 110))) 4 (M (46 + 5 * w + 2) (mn N 110)))) (66 + 6 * nx + (2 + 0)) (M (46 + 5 * 0 + 4))) (66 + 6 * nx + (2 + 1)) (M (46 + 5 * 1 + 4))) (66 + 6 * nx + (2 + 2)) (M (46 + 5 * 2 + 4))) (66 + 6 * nx + (2 + 3)) (M (46 + 5 * 3 + 4))) (6) (upd (upd (M 6) 0 (zI ((((nx + 1) % 10 : Nat)) : Int))) 1 (zI (((min (k + 1) 10 : Nat)) : Int)))) (46 + 5 * w + 2) (upd (M (46 + 5 * w + 2)) (mn N 110) (zI (0)))) H := hW
          obtain ⟨M2, hM2⟩ : ∃ x9c : Nat → Nat → Int32, x9c = va_up (va_up (va_up (va_up (va_up (va_up (va_up M (66 + 6 * nx) (upd (upd (upd (upd (upd (upd (M (66 + 6 * nx)) 0 (M 0 0)) 1 (zI ((-1)))) 1 (zI (w))) 2 (zI ((mn N 110)))) 3 (M (46 + 5 * w + 1) (mn N 110))) 4 (M (46 + 5 * w + 2) (mn N 110)))) (66 + 6 * nx + (2 + 0)) (M (46 + 5 * 0 + 4))) (66 + 6 * nx + (2 + 1)) (M (46 + 5 * 1 + 4))) (66 + 6 * nx + (2 + 2)) (M (46 + 5 * 2 + 4))) (66 + 6 * nx + (2 + 3)) (M (46 + 5 * 3 + 4))) (6) (upd (upd (M 6) 0 (zI ((((nx + 1) % 10 : Nat)) : Int))) 1 (zI (((min (k + 1) 10 : Nat)) : Int)))) (46 + 5 * w + 2) (upd (M (46 + 5 * w + 2)) (mn N 110) (zI (0))) := ⟨_, rfl⟩
          have hW : cw g ad P M2 H := by rw [hM2]; exact hW
          have hex : ∀ j : Nat, ¬ j = 66 + 6 * nx → ¬ j = 66 + 6 * nx + (2 + 0) → ¬ j = 66 + 6 * nx + (2 + 1) → ¬ j = 66 + 6 * nx + (2 + 2) → ¬ j = 66 + 6 * nx + (2 + 3) → ¬ j = 6 → ¬ j = 46 + 5 * w + 2 → M2 j = M j := fun j q0 q1 q2 q3 q4 q5 q6 => ((congrFun hM2 j).trans ((up_ne _ _ q6).trans ((up_ne _ _ q5).trans ((up_ne _ _ q4).trans ((up_ne _ _ q3).trans ((up_ne _ _ q2).trans ((up_ne _ _ q1).trans (up_ne _ _ q0)))))))).trans (hex j )
          have r_0 : M2 (0) = M 0 := ((congrFun hM2 (0)).trans ((up_ne _ _ (by omega)).trans ((up_ne _ _ (by omega)).trans ((up_ne _ _ (by omega)).trans ((up_ne _ _ (by omega)).trans ((up_ne _ _ (by omega)).trans ((up_ne _ _ (by omega)).trans (up_ne _ _ (by omega))))))))).trans r_0
          have r_5 : M2 (5) = M 5 := ((congrFun hM2 (5)).trans ((up_ne _ _ (by omega)).trans ((up_ne _ _ (by omega)).trans ((up_ne _ _ (by omega)).trans ((up_ne _ _ (by omega)).trans ((up_ne _ _ (by omega)).trans ((up_ne _ _ (by omega)).trans (up_ne _ _ (by omega))))))))).trans r_5
          have r_46_5_w : M2 (46 + 5 * w) = M (46 + 5 * w) := ((congrFun hM2 (46 + 5 * w)).trans ((up_ne _ _ (by omega)).trans ((up_ne _ _ (by omega)).trans ((up_ne _ _ (by omega)).trans ((up_ne _ _ (by omega)).trans ((up_ne _ _ (by omega)).trans ((up_ne _ _ (by omega)).trans (up_ne _ _ (by omega))))))))).trans r_46_5_w
          have r_66_6_nx : M2 (66 + 6 * nx) = upd (upd (upd (upd (upd (upd (M (66 + 6 * nx)) 0 (M 0 0)) 1 (zI ((-1)))) 1 (zI (w))) 2 (zI ((mn N 110)))) 3 (M (46 + 5 * w + 1) (mn N 110))) 4 (M (46 + 5 * w + 2) (mn N 110)) := ((congrFun hM2 _).trans ((up_ne _ _ (by omega)).trans ((up_ne _ _ (by omega)).trans ((up_ne _ _ (by omega)).trans ((up_ne _ _ (by omega)).trans ((up_ne _ _ (by omega)).trans ((up_ne _ _ (by omega)).trans (up_at _ _ _))))))))
          have r_66_6_nx_2_0 : M2 (66 + 6 * nx + (2 + 0)) = M (46 + 5 * 0 + 4) := ((congrFun hM2 _).trans ((up_ne _ _ (by omega)).trans ((up_ne _ _ (by omega)).trans ((up_ne _ _ (by omega)).trans ((up_ne _ _ (by omega)).trans ((up_ne _ _ (by omega)).trans (up_at _ _ _)))))))
          have r_66_6_nx_2_1 : M2 (66 + 6 * nx + (2 + 1)) = M (46 + 5 * 1 + 4) := ((congrFun hM2 _).trans ((up_ne _ _ (by omega)).trans ((up_ne _ _ (by omega)).trans ((up_ne _ _ (by omega)).trans ((up_ne _ _ (by omega)).trans (up_at _ _ _))))))
          have r_66_6_nx_2_2 : M2 (66 + 6 * nx + (2 + 2)) = M (46 + 5 * 2 + 4) := ((congrFun hM2 _).trans ((up_ne _ _ (by omega)).trans ((up_ne _ _ (by omega)).trans ((up_ne _ _ (by omega)).trans (up_at _ _ _)))))
          have r_66_6_nx_2_3 : M2 (66 + 6 * nx + (2 + 3)) = M (46 + 5 * 3 + 4) := ((congrFun hM2 _).trans ((up_ne _ _ (by omega)).trans ((up_ne _ _ (by omega)).trans (up_at _ _ _))))
          have r_6 : M2 (6) = upd (upd (M 6) 0 (zI ((((nx + 1) % 10 : Nat)) : Int))) 1 (zI (((min (k + 1) 10 : Nat)) : Int)) := ((congrFun hM2 _).trans ((up_ne _ _ (by omega)).trans (up_at _ _ _)))
          have r_46_5_w_2 : M2 (46 + 5 * w + 2) = upd (M (46 + 5 * w + 2)) (mn N 110) (zI (0)) := ((congrFun hM2 _).trans (up_at _ _ _))
          refine lv_iconst (v := zI (1)) hx hb dX8_sick_60 (by decide) ?_
          obtain ⟨M9, hM9⟩ : ∃ x9, x9 = M2 := ⟨_, rfl⟩
          exact W.zret hx hb hr (by decide) (fun tX htX hWX => ⟨⟨_, M2, rfl, ⟨bz_1 (⟨h19.1, by omega, by simp only [Int.toNat_natCast]; omega, by simp only [Int.toNat_natCast]; omega⟩), actQ_yes (⟨h19.1, by omega, by simp only [Int.toNat_natCast]; omega, by simp only [Int.toNat_natCast]; omega⟩) (INV_day (w := w) (d := (mn N 110)) (x := chg N w ((mn N 110))) (y := 0) (u := f.toNat) hI hnx hn6 (by omega) (by omega) (by omega) (by omega) r_6 r_66_6_nx r_66_6_nx_2_0 r_66_6_nx_2_1 r_66_6_nx_2_2 r_66_6_nx_2_3 (fun j q1 q2 q3 q4 q5 => hex j (by omega) (by omega) (by omega) (by omega) (by omega) (by omega) (by omega)) (fun e _ => congrFun (hex _ (by omega) (by omega) (by omega) (by omega) (by omega) (by omega) (by omega)) e) (fun e he => by rw [r_46_5_w_2]; exact upd_ne _ he _) (hN.chg (by omega) (by omega)) (by omega) (by omega) (okN_day hN (by omega) (by omega) (hN.chg (by omega) (by omega)) (by omega) (by omega) (by omega)) (upd_at _ _ _) (fun j q1 q2 => upd_ne _ q1 _) ((congrFun (hex _ (by omega) (by omega) (by omega) (by omega) (by omega) (by omega) (by omega)) _).trans (hg.2.2.1 _ (by omega))) (fun gd2 hg2 => ⟨-f, (congrFun r_46_5_w_2 _).trans ((upd_at _ _ _).trans (congrArg zI (by omega))), by have hg3 := hg2.2.2.2.2.2.2.2.2.2.1; omega⟩) (fun gd2 hg2 q9 hq9 => (congrFun (hex _ (by omega) (by omega) (by omega) (by omega) (by omega) (by omega) (by omega)) _).trans ((hg2.2.2.2.2.2.1 q9 hq9).trans (upd_ne _ (by omega) _).symm)) (congrFun (hex _ (by omega) (by omega) (by omega) (by omega) (by omega) (by omega) (by omega)) 7) (congrFun (hex _ (by omega) (by omega) (by omega) (by omega) (by omega) (by omega) (by omega)) 8)) (fun i h1 h2 => hex i (by omega) (by omega) (by omega) (by omega) (by omega) (by omega) (by omega))⟩, g_at htX hW⟩, hS.F htX⟩) hS.2.2 dX8_sick_61
        · exfalso; omega
      · refine lv_iconst (v := zI (0)) hx hb dX8_sick_40 (by decide) ?_
        exact W.zret hx hb hr (by decide) (fun tX htX hWX => ⟨⟨_, M, rfl, ⟨bz_0 (by first | exact fun q9 => h19 ⟨q9.1, by omega⟩ | (intro q9; have q8 := q9.2.2.1; have q7 := q9.2.2.2; simp only [Int.toNat_natCast] at q7 q8; omega)), actQ_no hI (by first | exact fun q9 => h19 ⟨q9.1, by omega⟩ | (intro q9; have q8 := q9.2.2.1; have q7 := q9.2.2.2; simp only [Int.toNat_natCast] at q7 q8; omega))⟩, g_at htX hW⟩, hS.F htX⟩) hS.2.2 dX8_sick_41
  · refine lv_iconst (v := zI (0)) hx hb dX8_sick_4 (by decide) ?_
    refine lv_goto (tgt := 9) hx hb dX8_sick_5 (by decide) ?_
    refine lv_istore_n (lv' := [(3, .int (zI (0))), (0, .ref ((ad 0))), (1, .int (zI (v))), (2, .int (zI (f)))]) hx hb dX8_sick_9 rfl hl (by decide) rfl (fun ls hl => ?_)
    refine lv_aload_n hx hb dX8_sick_10 rfl (lv_at hl 1 rfl) ?_
    refine lv_iload_n hx hb dX8_sick_11 rfl (lv_at hl 2 rfl) ?_
    refine lv_aload_n hx hb dX8_sick_12 rfl (lv_at hl 1 rfl) ?_
    have r_0 : M (0) = M 0 := hex (0) 
    refine va_get (D := g.1) (ci := 8) (v := .int ((M 0) 0)) (C := RX8) (T := TX8) (N := 7) hx hb hts hinX8 hown hK (hb1 hW (show 0 < 126 by omega) (lcE r_0 sh_0)) 0 rfl rfl 6 (by decide) k51 (fun _ h9 => h9) rfl dX8_sick_13 ?_
    refine z_top (y := zI (mn N 110)) (ht9.trans hN.td.eq) ?_
    refine vp_callSi (va_Run.run (va_runV (As := [.int (zI (v)), .int (zI (mn N 110))]) (rest := []) ⟨hx, hb, hml, hown, hts⟩ (c_X8_isOpen l g ((ad 0)) (N) (hN) ((M 6 1)) ((M 1 0)) (v) ((mn N 110 : Int)) (hv) (by omega)) (cwV 2 hts gX8_sick_X8_isOpen rfl rfl rfl (by decide +kernel) ⟨Nat.le_of_ble_eq_true rfl, Nat.le_of_ble_eq_true rfl⟩) (g_preV (cw_rdH hW hP9 hSh hRu ht9) hK (va_recv hK (hb1 hW (show 0 < 126 by omega) (lcE rfl sh_0)) (q0 := 0) (ci := 8) rfl rfl)) rfl rfl hl.1 rfl (lv_room (Nat.le_of_ble_eq_true rfl)) dX8_sick_16 ⟨Nat.le_of_ble_eq_true rfl, Nat.le_of_ble_eq_true rfl⟩)) (fun r hr9 => ?_)
    subst hr9
    refine z_bz_eq (tgt := 40) hx hb dX8_sick_19 (by decide) (fun h19 => ?_) (fun h19 => ?_)
    · refine lv_iconst (v := zI (0)) hx hb dX8_sick_40 (by decide) ?_
      exact W.zret hx hb hr (by decide) (fun tX htX hWX => ⟨⟨_, M, rfl, ⟨bz_0 (by first | exact fun q9 => h19 ⟨q9.1, by omega⟩ | (intro q9; have q8 := q9.2.2.1; have q7 := q9.2.2.2; simp only [Int.toNat_natCast] at q7 q8; omega)), actQ_no hI (by first | exact fun q9 => h19 ⟨q9.1, by omega⟩ | (intro q9; have q8 := q9.2.2.1; have q7 := q9.2.2.2; simp only [Int.toNat_natCast] at q7 q8; omega))⟩, g_at htX hW⟩, hS.F htX⟩) hS.2.2 dX8_sick_41
    · obtain ⟨w, rfl⟩ := Int.eq_ofNat_of_zero_le h19.1.1.1
      have hgo : goneN N w = 0 := h19.1.2
      obtain ⟨gd, hg⟩ := hSh w (by omega) (by omega)
      have hg0 := hg.2.2.2.2.2.2.2.2.2.1
      obtain ⟨τ, hτ, hτ2⟩ := hg.2.2.2.1 ((mn N 110)) (by omega)
      have hkk := hN.knd (w := w) (d := (mn N 110)) (by omega) (by omega)
      have hkw := hN.wkd (w := w) (d := (mn N 110)) (by omega) (by omega)
      unfold tlOK at hτ2
      refine lv_aload_n hx hb dX8_sick_22 rfl (lv_at hl 1 rfl) ?_
      refine va_get (D := g.1) (ci := 8) (v := .ref ((ad 5))) (C := RX8) (T := TX8) (N := 7) hx hb hts hinX8 hown hK (hb1 hW (show 0 < 126 by omega) (lcE r_0 sh_0)) 0 rfl rfl 2 (by decide) k37 (fun _ h9 => h9) rfl dX8_sick_23 ?_
      refine lv_iload_n hx hb dX8_sick_26 rfl (lv_at hl 2 rfl) ?_
      have r_5 : M (5) = M 5 := hex (5) 
      refine z_aald hx hb hK (hb1 hW (show 5 < 126 by omega) (lcE r_5 sh_5)) 0 4 rfl rfl rfl (by decide) (w) (by omega) (by omega) rfl dX8_sick_27 ?_
      have r_46_5_w : M (46 + 5 * w) = M (46 + 5 * w) := hex (46 + 5 * w) 
      refine va_get (D := g.1) (ci := 3) (v := .ref ((ad (46 + 5 * w + 2)))) (C := RX3) (T := TX3) (N := 7) hx hb hts hinX3 hown hK (hb1 hW (show 46 + 5 * w < 126 by omega) (lcE r_46_5_w (sh_S0 (w := w) (by omega)))) 0 rfl rfl 1 (by decide) k229 (fun _ h9 => h9) rfl dX8_sick_28 ?_
      refine lv_aload_n hx hb dX8_sick_31 rfl (lv_at hl 1 rfl) ?_
      refine va_get (D := g.1) (ci := 8) (v := .int ((M 0) 0)) (C := RX8) (T := TX8) (N := 7) hx hb hts hinX8 hown hK (hb1 hW (show 0 < 126 by omega) (lcE r_0 sh_0)) 0 rfl rfl 6 (by decide) k51 (fun _ h9 => h9) rfl dX8_sick_32 ?_
      refine z_top (y := zI (mn N 110)) (ht9.trans hN.td.eq) ?_
      have r_46_5_w_2 : M (46 + 5 * w + 2) = M (46 + 5 * w + 2) := hex (46 + 5 * w + 2) 
      refine z_iald hx hb hK (hb1 hW (show 46 + 5 * w + 2 < 126 by omega) (lcE r_46_5_w_2 (sh_S2 (w := w) (by omega)))) 0 0 rfl rfl (by decide) (mn N 110) (by omega) (by omega) dX8_sick_35 ?_
      refine z_top (y := zI (τ)) (hτ) ?_
      refine lv_iload_n hx hb dX8_sick_36 rfl (lv_at hl 0 rfl) ?_
      refine z_icmp_eq (tgt := 42) hx hb dX8_sick_37 (by decide) (by omega) (by omega) (fun h37 => ?_) (fun h37 => ?_)
      · refine lv_aload_n hx hb dX8_sick_42 rfl (lv_at hl 1 rfl) ?_
        refine lv_iload_n hx hb dX8_sick_43 rfl (lv_at hl 2 rfl) ?_
        refine lv_aload_n hx hb dX8_sick_44 rfl (lv_at hl 1 rfl) ?_
        refine va_get (D := g.1) (ci := 8) (v := .int ((M 0) 0)) (C := RX8) (T := TX8) (N := 7) hx hb hts hinX8 hown hK (hb1 hW (show 0 < 126 by omega) (lcE r_0 sh_0)) 0 rfl rfl 6 (by decide) k51 (fun _ h9 => h9) rfl dX8_sick_45 ?_
        refine z_top (y := zI (mn N 110)) (ht9.trans hN.td.eq) ?_
        refine lv_iload_n hx hb dX8_sick_48 rfl (lv_at hl 3 rfl) ?_
        refine z_if_eq (tgt := 56) hx hb dX8_sick_49 (by decide) (by omega) (fun h49 => ?_) (fun h49 => ?_)
        · exfalso; omega
        · refine lv_iconst (v := zI (-1)) hx hb dX8_sick_52 (by decide) ?_
          refine lv_goto (tgt := 57) hx hb dX8_sick_53 (by decide) ?_
          refine va_callv (va_runV (As := [.int (zI ((w : Int))), .int (zI (mn N 110)), .int (zI ((-1)))]) (rest := []) ⟨hx, hb, hml, hown, hts⟩ (c_X8_tell l g (ad) (hd9) (P) (M) (nx) (k) (hnx) (hn6) (hk10) (hk6) (w) (mn N 110) (by omega) (by omega) ((-1))) (cwV 3 hts gX8_sick_X8_tell rfl rfl rfl (by decide +kernel) ⟨Nat.le_of_ble_eq_true rfl, Nat.le_of_ble_eq_true rfl⟩) (g_preV hW hK (va_recv hK (hb1 hW (show 0 < 126 by omega) (lcE r_0 sh_0)) (q0 := 0) (ci := 8) rfl rfl)) rfl rfl hl.1 rfl (lv_room (Nat.le_of_ble_eq_true rfl)) dX8_sick_57 ⟨Nat.le_of_ble_eq_true rfl, Nat.le_of_ble_eq_true rfl⟩) hS (fun q _ h => h) (fun q h => h) (fun u2 t9 H1 locs ht9 hvm9 hw9 hB9 hz9 hk9 hS => ?_)
          rw [ht9] at hB9
          clear hz9 hk9 hvm9 ht9
          generalize H1 = H at hB9 hS ⊢
          have hW := hB9
          clear hB9
          have hW : cw g ad P (va_up (va_up (va_up (va_up (va_up (va_up (va_up M (66 + 6 * nx) (upd (upd (upd (upd (upd (upd (M (66 + 6 * nx)) 0 (M 0 0)) 1 (zI ((-1)))) 1 (zI (w))) 2 (zI ((mn N 110)))) 3 (M (46 + 5 * w + 1) (mn N 110))) 4 (M (46 + 5 * w + 2) (mn N 110)))) (66 + 6 * nx + (2 + 0)) (M (46 + 5 * 0 + 4))) (66 + 6 * nx + (2 + 1)) (M (46 + 5 * 1 + 4))) (66 + 6 * nx + (2 + 2)) (M (46 + 5 * 2 + 4))) (66 + 6 * nx + (2 + 3)) (M (46 + 5 * 3 + 4))) (6) (upd (upd (M 6) 0 (zI ((((nx + 1) % 10 : Nat)) : Int))) 1 (zI (((min (k + 1) 10 : Nat)) : Int)))) (46 + 5 * w + 2) (upd (M (46 + 5 * w + 2)) (mn N 110) (zI ((-1))))) H := hW
          obtain ⟨M4, hM4⟩ : ∃ x9c : Nat → Nat → Int32, x9c = va_up (va_up (va_up (va_up (va_up (va_up (va_up M (66 + 6 * nx) (upd (upd (upd (upd (upd (upd (M (66 + 6 * nx)) 0 (M 0 0)) 1 (zI ((-1)))) 1 (zI (w))) 2 (zI ((mn N 110)))) 3 (M (46 + 5 * w + 1) (mn N 110))) 4 (M (46 + 5 * w + 2) (mn N 110)))) (66 + 6 * nx + (2 + 0)) (M (46 + 5 * 0 + 4))) (66 + 6 * nx + (2 + 1)) (M (46 + 5 * 1 + 4))) (66 + 6 * nx + (2 + 2)) (M (46 + 5 * 2 + 4))) (66 + 6 * nx + (2 + 3)) (M (46 + 5 * 3 + 4))) (6) (upd (upd (M 6) 0 (zI ((((nx + 1) % 10 : Nat)) : Int))) 1 (zI (((min (k + 1) 10 : Nat)) : Int)))) (46 + 5 * w + 2) (upd (M (46 + 5 * w + 2)) (mn N 110) (zI ((-1)))) := ⟨_, rfl⟩
          have hW : cw g ad P M4 H := by rw [hM4]; exact hW
          have hex : ∀ j : Nat, ¬ j = 66 + 6 * nx → ¬ j = 66 + 6 * nx + (2 + 0) → ¬ j = 66 + 6 * nx + (2 + 1) → ¬ j = 66 + 6 * nx + (2 + 2) → ¬ j = 66 + 6 * nx + (2 + 3) → ¬ j = 6 → ¬ j = 46 + 5 * w + 2 → M4 j = M j := fun j q0 q1 q2 q3 q4 q5 q6 => ((congrFun hM4 j).trans ((up_ne _ _ q6).trans ((up_ne _ _ q5).trans ((up_ne _ _ q4).trans ((up_ne _ _ q3).trans ((up_ne _ _ q2).trans ((up_ne _ _ q1).trans (up_ne _ _ q0)))))))).trans (hex j )
          have r_0 : M4 (0) = M 0 := ((congrFun hM4 (0)).trans ((up_ne _ _ (by omega)).trans ((up_ne _ _ (by omega)).trans ((up_ne _ _ (by omega)).trans ((up_ne _ _ (by omega)).trans ((up_ne _ _ (by omega)).trans ((up_ne _ _ (by omega)).trans (up_ne _ _ (by omega))))))))).trans r_0
          have r_5 : M4 (5) = M 5 := ((congrFun hM4 (5)).trans ((up_ne _ _ (by omega)).trans ((up_ne _ _ (by omega)).trans ((up_ne _ _ (by omega)).trans ((up_ne _ _ (by omega)).trans ((up_ne _ _ (by omega)).trans ((up_ne _ _ (by omega)).trans (up_ne _ _ (by omega))))))))).trans r_5
          have r_46_5_w : M4 (46 + 5 * w) = M (46 + 5 * w) := ((congrFun hM4 (46 + 5 * w)).trans ((up_ne _ _ (by omega)).trans ((up_ne _ _ (by omega)).trans ((up_ne _ _ (by omega)).trans ((up_ne _ _ (by omega)).trans ((up_ne _ _ (by omega)).trans ((up_ne _ _ (by omega)).trans (up_ne _ _ (by omega))))))))).trans r_46_5_w
          have r_66_6_nx : M4 (66 + 6 * nx) = upd (upd (upd (upd (upd (upd (M (66 + 6 * nx)) 0 (M 0 0)) 1 (zI ((-1)))) 1 (zI (w))) 2 (zI ((mn N 110)))) 3 (M (46 + 5 * w + 1) (mn N 110))) 4 (M (46 + 5 * w + 2) (mn N 110)) := ((congrFun hM4 _).trans ((up_ne _ _ (by omega)).trans ((up_ne _ _ (by omega)).trans ((up_ne _ _ (by omega)).trans ((up_ne _ _ (by omega)).trans ((up_ne _ _ (by omega)).trans ((up_ne _ _ (by omega)).trans (up_at _ _ _))))))))
          have r_66_6_nx_2_0 : M4 (66 + 6 * nx + (2 + 0)) = M (46 + 5 * 0 + 4) := ((congrFun hM4 _).trans ((up_ne _ _ (by omega)).trans ((up_ne _ _ (by omega)).trans ((up_ne _ _ (by omega)).trans ((up_ne _ _ (by omega)).trans ((up_ne _ _ (by omega)).trans (up_at _ _ _)))))))
          have r_66_6_nx_2_1 : M4 (66 + 6 * nx + (2 + 1)) = M (46 + 5 * 1 + 4) := ((congrFun hM4 _).trans ((up_ne _ _ (by omega)).trans ((up_ne _ _ (by omega)).trans ((up_ne _ _ (by omega)).trans ((up_ne _ _ (by omega)).trans (up_at _ _ _))))))
          have r_66_6_nx_2_2 : M4 (66 + 6 * nx + (2 + 2)) = M (46 + 5 * 2 + 4) := ((congrFun hM4 _).trans ((up_ne _ _ (by omega)).trans ((up_ne _ _ (by omega)).trans ((up_ne _ _ (by omega)).trans (up_at _ _ _)))))
          have r_66_6_nx_2_3 : M4 (66 + 6 * nx + (2 + 3)) = M (46 + 5 * 3 + 4) := ((congrFun hM4 _).trans ((up_ne _ _ (by omega)).trans ((up_ne _ _ (by omega)).trans (up_at _ _ _))))
          have r_6 : M4 (6) = upd (upd (M 6) 0 (zI ((((nx + 1) % 10 : Nat)) : Int))) 1 (zI (((min (k + 1) 10 : Nat)) : Int)) := ((congrFun hM4 _).trans ((up_ne _ _ (by omega)).trans (up_at _ _ _)))
          have r_46_5_w_2 : M4 (46 + 5 * w + 2) = upd (M (46 + 5 * w + 2)) (mn N 110) (zI ((-1))) := ((congrFun hM4 _).trans (up_at _ _ _))
          refine lv_iconst (v := zI (1)) hx hb dX8_sick_60 (by decide) ?_
          obtain ⟨M9, hM9⟩ : ∃ x9, x9 = M4 := ⟨_, rfl⟩
          exact W.zret hx hb hr (by decide) (fun tX htX hWX => ⟨⟨_, M4, rfl, ⟨bz_1 (⟨h19.1, by omega, by simp only [Int.toNat_natCast]; omega, by simp only [Int.toNat_natCast]; omega⟩), actQ_yes (⟨h19.1, by omega, by simp only [Int.toNat_natCast]; omega, by simp only [Int.toNat_natCast]; omega⟩) (INV_day (w := w) (d := (mn N 110)) (x := chg N w ((mn N 110))) (y := 0) (u := f.toNat) hI hnx hn6 (by omega) (by omega) (by omega) (by omega) r_6 r_66_6_nx r_66_6_nx_2_0 r_66_6_nx_2_1 r_66_6_nx_2_2 r_66_6_nx_2_3 (fun j q1 q2 q3 q4 q5 => hex j (by omega) (by omega) (by omega) (by omega) (by omega) (by omega) (by omega)) (fun e _ => congrFun (hex _ (by omega) (by omega) (by omega) (by omega) (by omega) (by omega) (by omega)) e) (fun e he => by rw [r_46_5_w_2]; exact upd_ne _ he _) (hN.chg (by omega) (by omega)) (by omega) (by omega) (okN_day hN (by omega) (by omega) (hN.chg (by omega) (by omega)) (by omega) (by omega) (by omega)) (upd_at _ _ _) (fun j q1 q2 => upd_ne _ q1 _) ((congrFun (hex _ (by omega) (by omega) (by omega) (by omega) (by omega) (by omega) (by omega)) _).trans (hg.2.2.1 _ (by omega))) (fun gd2 hg2 => ⟨-f, (congrFun r_46_5_w_2 _).trans ((upd_at _ _ _).trans (congrArg zI (by omega))), by have hg3 := hg2.2.2.2.2.2.2.2.2.2.1; omega⟩) (fun gd2 hg2 q9 hq9 => (congrFun (hex _ (by omega) (by omega) (by omega) (by omega) (by omega) (by omega) (by omega)) _).trans ((hg2.2.2.2.2.2.1 q9 hq9).trans (upd_ne _ (by omega) _).symm)) (congrFun (hex _ (by omega) (by omega) (by omega) (by omega) (by omega) (by omega) (by omega)) 7) (congrFun (hex _ (by omega) (by omega) (by omega) (by omega) (by omega) (by omega) (by omega)) 8)) (fun i h1 h2 => hex i (by omega) (by omega) (by omega) (by omega) (by omega) (by omega) (by omega))⟩, g_at htX hW⟩, hS.F htX⟩) hS.2.2 dX8_sick_61
      · refine lv_iconst (v := zI (0)) hx hb dX8_sick_40 (by decide) ?_
        exact W.zret hx hb hr (by decide) (fun tX htX hWX => ⟨⟨_, M, rfl, ⟨bz_0 (by first | exact fun q9 => h19 ⟨q9.1, by omega⟩ | (intro q9; have q8 := q9.2.2.1; have q7 := q9.2.2.2; simp only [Int.toNat_natCast] at q7 q8; omega)), actQ_no hI (by first | exact fun q9 => h19 ⟨q9.1, by omega⟩ | (intro q9; have q8 := q9.2.2.1; have q7 := q9.2.2.2; simp only [Int.toNat_natCast] at q7 q8; omega))⟩, g_at htX hW⟩, hS.F htX⟩) hS.2.2 dX8_sick_41
