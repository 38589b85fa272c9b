set_option maxHeartbeats 4000000 in
set_option maxRecDepth 100000 in
theorem c_X3_addToBalance (l : Launch) (g : GG) (ad : Nat → Nat) (hd9 : hD ad) (P : Nat → Nat) (M : Nat → Nat → Int32) (w : Nat) (hw : w < 4) (N : Nat → Int32) (hN : okN N) (hpo : P (46 + 5 * w) = 8 ∨ P (46 + 5 * w) = 27) (hRu : RuR N (fun k => M (P (46 + 5 * w) + 1 + k))) (b9 q : Int) (hb9 : M (46 + 5 * w + 4) 0 = zI b9) (hbr : -20000 ≤ b9 ∧ b9 ≤ 20000) (hq : -1000 ≤ q ∧ q ≤ 1000) (rt : Nat) (hrt : M (46 + 5 * w) 0 = zI rt) (hr9 : rt ≤ 999) : Met l yX3_addToBalance wsX3_addToBalance ({ frames := 1, cells := 0, slots := 0, locals := 20 }) (gPc g [.ref ((ad (46 + 5 * w))), .int (zI (q))] (cw g ad P M)) (va_Qv (fun (u : Unit) => True) (fun (u : Unit) (tS : State) => cw g ad P (va_up M (46 + 5 * w + 4) (addR (M (46 + 5 * w + 4)) (b9 + q) (mn N 1) (mn N 0) rt)) tS.heap) (hbA ad)) 0 0 (hbA ad) := by
  refine Met.ofW (cc := cX3_addToBalance) (maxL := 5) (ret := none) (by decide) rfl ?_
  intro p e s m args below meth c s₁ B hml hv
  obtain ⟨rfl, hW, hK⟩ := hv
  have hx := B.exec
  have hb := B.bytes
  have hr := B.returns
  have hts := atoms_spec (ws := wsX3_addToBalance) B.pre
  have hown : s.vm.findClass RX3 = some m.cls := findClass_of_methodNamed B.named
  have hlocks := B.notSynchronized
  have hinX0 : ∀ w ∈ wsX00, w ∈ wsX3_addToBalance := by decide +kernel
  have hinX3 : ∀ w ∈ wsX30, w ∈ wsX3_addToBalance := by decide +kernel
  have k25 := hts (.fieldLink RX3 25 "HoursBank$Sheet" "account" "LHoursBank$Account;") (by decide +kernel)
  have k101 := hts (.fieldLink RX3 101 "HoursBank$Account" "balance" "I") (by decide +kernel)
  have k33 := hts (.fieldLink RX3 33 "HoursBank$Sheet" "rules" "LHoursBank$Rules;") (by decide +kernel)
  have k69 := hts (.methodLink RX3 69 Lib.Math.max.name) (by decide +kernel)
  have kSmax := hts (.static Lib.Math.max.name) (by decide +kernel)
  have kM := hts (.initialized "java/lang/Math") (by decide +kernel)
  have kCmax := hts (.code Lib.Math.max.name Lib.Math.max.code 2 (some .int)) (by decide +kernel)
  have k126 := hts (.fieldLink RX3 126 "HoursBank$Account" "overtime" "I") (by decide +kernel)
  have k129 := hts (.fieldLink RX3 129 "HoursBank$Account" "overtimeCoins" "I") (by decide +kernel)
  have k43 := hts (.fieldLink RX3 43 "HoursBank$Sheet" "rate" "I") (by decide +kernel)
  have k132 := hts (.fieldLink RX3 132 "HoursBank$Account" "docked" "I") (by decide +kernel)
  have k135 := hts (.fieldLink RX3 135 "HoursBank$Account" "dockedCoins" "I") (by decide +kernel)
  have hl := lv_entry ([.ref ((ad (46 + 5 * w))), .int (zI (q))]) (n := 5) (Nat.le_of_ble_eq_true rfl)
  rw [lg_entry_eq]
  generalize (lg_sl ([.ref ((ad (46 + 5 * w))), .int (zI (q))]) ++ List.replicate (5 - (lg_sl ([.ref ((ad (46 + 5 * w))), .int (zI (q))])).length) Slot.unset).toArray = ls at hl ⊢
  have hl : lv_has ls 5 [(0, .ref ((ad (46 + 5 * w)))), (1, .int (zI (q)))] := hl
  have hS : va_S (hbA ad) s.heap s.heap [] := va_S.rf
  obtain ⟨H, hH9⟩ : ∃ H, H = s.heap := ⟨_, rfl⟩
  obtain ⟨locs, hL9⟩ : ∃ x9l : List Loc, x9l = [] := ⟨_, rfl⟩
  have hW : cw g ad P M H := hH9 ▸ hW
  have hS : va_S (hbA ad) s.heap H locs := by rw [hH9, hL9]; exact hS
  refine z_start hH9 hL9 ?_
  clear hH9 hL9
  have hex : ∀ j : Nat, M j = M j := fun _ => rfl
  refine lv_aload_n hx hb dX3_addToBalance_0 rfl (lv_at hl 0 rfl) ?_
  have r_46_5_w : M (46 + 5 * w) = M (46 + 5 * w) := hex (46 + 5 * w) 
  refine va_get (D := g.1) (ci := 3) (v := .ref ((ad (46 + 5 * w + 4)))) (C := RX3) (T := TX3) (N := 7) hx hb hts hinX3 hown hK (hb1 hW (show 46 + 5 * w < 126 by omega) (lcE r_46_5_w (sh_S0 (w := w) (by omega)))) 0 rfl rfl 3 (by decide) k25 (fun _ h9 => h9) rfl dX3_addToBalance_1 ?_
  have r_46_5_w_4 : M (46 + 5 * w + 4) = M (46 + 5 * w + 4) := hex (46 + 5 * w + 4) 
  refine va_get (D := g.1) (ci := 0) (v := .int ((M (46 + 5 * w + 4)) 0)) (C := RX0) (T := TX0) (N := 9) hx hb hts hinX0 hown hK (hb1 hW (show 46 + 5 * w + 4 < 126 by omega) (lcE r_46_5_w_4 (sh_S4 (w := w) (by omega)))) 0 rfl rfl 0 (by decide) k101 (fun _ h9 => h9) rfl dX3_addToBalance_4 ?_
  refine z_top (y := zI (b9)) (hb9) ?_
  refine lv_iload_n hx hb dX3_addToBalance_7 rfl (lv_at hl 1 rfl) ?_
  refine z_iadd hx hb dX3_addToBalance_8 ?_
  refine lv_istore_n (lv' := [(2, .int (zI (b9 + q))), (0, .ref ((ad (46 + 5 * w)))), (1, .int (zI (q)))]) hx hb dX3_addToBalance_9 rfl hl (by decide) rfl (fun ls hl => ?_)
  refine lv_iconst (v := zI (0)) hx hb dX3_addToBalance_10 (by decide) ?_
  refine lv_iload_n hx hb dX3_addToBalance_11 rfl (lv_at hl 0 rfl) ?_
  refine lv_aload_n hx hb dX3_addToBalance_12 rfl (lv_at hl 1 rfl) ?_
  refine va_get (D := g.1) (ci := 3) (v := .ref ((ad (P (46 + 5 * w))))) (C := RX3) (T := TX3) (N := 7) hx hb hts hinX3 hown hK (hb1 hW (show 46 + 5 * w < 126 by omega) (lcE r_46_5_w (sh_S0 (w := w) (by omega)))) 0 rfl rfl 6 (by decide) k33 (fun _ h9 => h9) rfl dX3_addToBalance_13 ?_
  refine vp_callSi (va_Run.run (va_runV (As := []) (rest := [.int (zI (b9 + q)), .int (zI (0))]) ⟨hx, hb, hml, hown, hts⟩ (c_X2_high l g ((ad (P (46 + 5 * w)))) (N) (hN)) (cwV 0 hts gX3_addToBalance_X2_high rfl rfl rfl (by decide +kernel) ⟨Nat.le_of_ble_eq_true rfl, Nat.le_of_ble_eq_true rfl⟩) (g_preV (cw_rdR hW hpo hRu) hK (rdR_recv hK (cw_rdR hW hpo hRu))) rfl rfl hl.1 rfl (lv_room (Nat.le_of_ble_eq_true rfl)) dX3_addToBalance_16 ⟨Nat.le_of_ble_eq_true rfl, Nat.le_of_ble_eq_true rfl⟩)) (fun r hr9 => ?_)
  subst hr9
  have hhi := hN.hi.le
  have hlo := hN.lo.le
  refine z_isub hx hb dX3_addToBalance_19 ?_
  refine z_mmax hx hb (hml.trans hl.1.symm) hown k69 kSmax kM kCmax (Nat.le_of_ble_eq_true rfl) (Nat.le_of_ble_eq_true rfl) (Nat.zero_le _) (Nat.zero_le _) (by omega) (by omega) dX3_addToBalance_20 ?_
  refine lv_istore_n (lv' := [(3, .int (zI (max (0) ((b9 + q) - (mn N 1))))), (2, .int (zI (b9 + q))), (0, .ref ((ad (46 + 5 * w)))), (1, .int (zI (q)))]) hx hb dX3_addToBalance_23 rfl hl (by decide) rfl (fun ls hl => ?_)
  refine lv_iconst (v := zI (0)) hx hb dX3_addToBalance_24 (by decide) ?_
  refine lv_aload_n hx hb dX3_addToBalance_25 rfl (lv_at hl 2 rfl) ?_
  refine va_get (D := g.1) (ci := 3) (v := .ref ((ad (P (46 + 5 * w))))) (C := RX3) (T := TX3) (N := 7) hx hb hts hinX3 hown hK (hb1 hW (show 46 + 5 * w < 126 by omega) (lcE r_46_5_w (sh_S0 (w := w) (by omega)))) 0 rfl rfl 6 (by decide) k33 (fun _ h9 => h9) rfl dX3_addToBalance_26 ?_
  refine vp_callSi (va_Run.run (va_runV (As := []) (rest := [.int (zI (0))]) ⟨hx, hb, hml, hown, hts⟩ (c_X2_low l g ((ad (P (46 + 5 * w)))) (N) (hN)) (cwV 0 hts gX3_addToBalance_X2_low rfl rfl rfl (by decide +kernel) ⟨Nat.le_of_ble_eq_true rfl, Nat.le_of_ble_eq_true rfl⟩) (g_preV (cw_rdR hW hpo hRu) hK (rdR_recv hK (cw_rdR hW hpo hRu))) rfl rfl hl.1 rfl (lv_room (Nat.le_of_ble_eq_true rfl)) dX3_addToBalance_29 ⟨Nat.le_of_ble_eq_true rfl, Nat.le_of_ble_eq_true rfl⟩)) (fun r hr9 => ?_)
  subst hr9
  refine z_ineg hx hb dX3_addToBalance_32 ?_
  refine lv_iload_n hx hb dX3_addToBalance_33 rfl (lv_at hl 1 rfl) ?_
  refine z_isub hx hb dX3_addToBalance_34 ?_
  refine z_mmax hx hb (hml.trans hl.1.symm) hown k69 kSmax kM kCmax (Nat.le_of_ble_eq_true rfl) (Nat.le_of_ble_eq_true rfl) (Nat.zero_le _) (Nat.zero_le _) (by omega) (by omega) dX3_addToBalance_35 ?_
  refine lv_istore (lv' := [(4, .int (zI (max (0) ((-(mn N 0)) - (b9 + q))))), (3, .int (zI (max (0) ((b9 + q) - (mn N 1))))), (2, .int (zI (b9 + q))), (0, .ref ((ad (46 + 5 * w)))), (1, .int (zI (q)))]) hx hb dX3_addToBalance_38 hl (by decide) rfl (fun ls hl => ?_)
  refine lv_aload_n hx hb dX3_addToBalance_40 rfl (lv_at hl 3 rfl) ?_
  refine va_get (D := g.1) (ci := 3) (v := .ref ((ad (46 + 5 * w + 4)))) (C := RX3) (T := TX3) (N := 7) hx hb hts hinX3 hown hK (hb1 hW (show 46 + 5 * w < 126 by omega) (lcE r_46_5_w (sh_S0 (w := w) (by omega)))) 0 rfl rfl 3 (by decide) k25 (fun _ h9 => h9) rfl dX3_addToBalance_41 ?_
  refine lv_iload_n hx hb dX3_addToBalance_44 rfl (lv_at hl 2 rfl) ?_
  refine lv_iload_n hx hb dX3_addToBalance_45 rfl (lv_at hl 1 rfl) ?_
  refine z_isub hx hb dX3_addToBalance_46 ?_
  refine lv_iload hx hb dX3_addToBalance_47 (lv_at hl 0 rfl) ?_
  refine z_iadd hx hb dX3_addToBalance_49 ?_
  refine y_put (ci := 0) (v := .int (zI (((b9 + q) - (max (0) ((b9 + q) - (mn N 1)))) + (max (0) ((-(mn N 0)) - (b9 + q)))))) (ty := .int) (C := RX0) (T := TX0) (N := 9) hx hb hts hinX0 tyX0 tyX0_ok nmX0 hown hK hW hd9 hS (46 + 5 * w + 4) (show 46 + 5 * w + 4 < 126 by omega) (lcE r_46_5_w_4 (sh_S4 (w := w) (by omega))) rfl 0 (by decide) k101 (fun _ h9 => h9) rfl (by decide +kernel) rfl rfl (Nat.le_of_ble_eq_true rfl) dX3_addToBalance_50 (fun H locs hW hS => ?_)
  have hW := cw_up (P := P) (M := M) (f := upd (M (46 + 5 * w + 4)) 0 (zI (((b9 + q) - (max (0) ((b9 + q) - (mn N 1)))) + (max (0) ((-(mn N 0)) - (b9 + q)))))) (((sh_S4 (w := w) (by omega))).trans rfl) hW
  obtain ⟨M1, hM1⟩ : ∃ x9c : Nat → Nat → Int32, x9c = va_up M (46 + 5 * w + 4) (upd (M (46 + 5 * w + 4)) 0 (zI (((b9 + q) - (max (0) ((b9 + q) - (mn N 1)))) + (max (0) ((-(mn N 0)) - (b9 + q)))))) := ⟨_, rfl⟩
  have hW : cw g ad P M1 H := by rw [hM1]; exact hW
  have hex : ∀ j : Nat, ¬ j = 46 + 5 * w + 4 → M1 j = M j := fun j q0 => ((congrFun hM1 j).trans (up_ne _ _ q0)).trans (hex j )
  have r_46_5_w : M1 (46 + 5 * w) = M (46 + 5 * w) := ((congrFun hM1 (46 + 5 * w)).trans (up_ne _ _ (by omega))).trans r_46_5_w
  have r_46_5_w_4 : M1 (46 + 5 * w + 4) = upd (M (46 + 5 * w + 4)) 0 (zI (((b9 + q) - (max (0) ((b9 + q) - (mn N 1)))) + (max (0) ((-(mn N 0)) - (b9 + q))))) := ((congrFun hM1 _).trans (up_at _ _ _))
  refine lv_aload_n hx hb dX3_addToBalance_53 rfl (lv_at hl 3 rfl) ?_
  refine va_get (D := g.1) (ci := 3) (v := .ref ((ad (46 + 5 * w + 4)))) (C := RX3) (T := TX3) (N := 7) hx hb hts hinX3 hown hK (hb1 hW (show 46 + 5 * w < 126 by omega) (lcE r_46_5_w (sh_S0 (w := w) (by omega)))) 0 rfl rfl 3 (by decide) k25 (fun _ h9 => h9) rfl dX3_addToBalance_54 ?_
  refine lv_dup hx hb dX3_addToBalance_57 rfl ?_
  refine va_get (D := g.1) (ci := 0) (v := .int ((M (46 + 5 * w + 4)) 1)) (C := RX0) (T := TX0) (N := 9) hx hb hts hinX0 hown hK (hb1 hW (show 46 + 5 * w + 4 < 126 by omega) (lcE r_46_5_w_4 (sh_S4 (w := w) (by omega)))) 0 rfl rfl 1 (by decide) k126 (fun _ h9 => h9) rfl dX3_addToBalance_58 ?_
  refine lv_iload_n hx hb dX3_addToBalance_61 rfl (lv_at hl 1 rfl) ?_
  refine lv_iadd hx hb dX3_addToBalance_62 ?_
  refine y_put (ci := 0) (v := .int (((M (46 + 5 * w + 4)) 1) + zI (max (0) ((b9 + q) - (mn N 1))))) (ty := .int) (C := RX0) (T := TX0) (N := 9) hx hb hts hinX0 tyX0 tyX0_ok nmX0 hown hK hW hd9 hS (46 + 5 * w + 4) (show 46 + 5 * w + 4 < 126 by omega) (lcE r_46_5_w_4 (sh_S4 (w := w) (by omega))) rfl 1 (by decide) k126 (fun _ h9 => h9) rfl (by decide +kernel) rfl rfl (Nat.le_of_ble_eq_true rfl) dX3_addToBalance_63 (fun H locs hW hS => ?_)
  have hW := cw_up (P := P) (M := M1) (f := upd (upd (M (46 + 5 * w + 4)) 0 (zI (((b9 + q) - (max (0) ((b9 + q) - (mn N 1)))) + (max (0) ((-(mn N 0)) - (b9 + q)))))) 1 (((M (46 + 5 * w + 4)) 1) + zI (max (0) ((b9 + q) - (mn N 1))))) (((sh_S4 (w := w) (by omega))).trans rfl) hW
  obtain ⟨M2, hM2⟩ : ∃ x9c : Nat → Nat → Int32, x9c = va_up M1 (46 + 5 * w + 4) (upd (upd (M (46 + 5 * w + 4)) 0 (zI (((b9 + q) - (max (0) ((b9 + q) - (mn N 1)))) + (max (0) ((-(mn N 0)) - (b9 + q)))))) 1 (((M (46 + 5 * w + 4)) 1) + zI (max (0) ((b9 + q) - (mn N 1))))) := ⟨_, rfl⟩
  have hW : cw g ad P M2 H := by rw [hM2]; exact hW
  have hex : ∀ j : Nat, ¬ j = 46 + 5 * w + 4 → M2 j = M j := fun j q0 => ((congrFun hM2 j).trans (up_ne _ _ q0)).trans (hex j q0)
  have r_46_5_w : M2 (46 + 5 * w) = M (46 + 5 * w) := ((congrFun hM2 (46 + 5 * w)).trans (up_ne _ _ (by omega))).trans r_46_5_w
  have r_46_5_w_4 : M2 (46 + 5 * w + 4) = upd (upd (M (46 + 5 * w + 4)) 0 (zI (((b9 + q) - (max (0) ((b9 + q) - (mn N 1)))) + (max (0) ((-(mn N 0)) - (b9 + q)))))) 1 (((M (46 + 5 * w + 4)) 1) + zI (max (0) ((b9 + q) - (mn N 1)))) := ((congrFun hM2 _).trans (up_at _ _ _))
  refine lv_aload_n hx hb dX3_addToBalance_66 rfl (lv_at hl 3 rfl) ?_
  refine va_get (D := g.1) (ci := 3) (v := .ref ((ad (46 + 5 * w + 4)))) (C := RX3) (T := TX3) (N := 7) hx hb hts hinX3 hown hK (hb1 hW (show 46 + 5 * w < 126 by omega) (lcE r_46_5_w (sh_S0 (w := w) (by omega)))) 0 rfl rfl 3 (by decide) k25 (fun _ h9 => h9) rfl dX3_addToBalance_67 ?_
  refine lv_dup hx hb dX3_addToBalance_70 rfl ?_
  refine va_get (D := g.1) (ci := 0) (v := .int ((M (46 + 5 * w + 4)) 3)) (C := RX0) (T := TX0) (N := 9) hx hb hts hinX0 hown hK (hb1 hW (show 46 + 5 * w + 4 < 126 by omega) (lcE r_46_5_w_4 (sh_S4 (w := w) (by omega)))) 0 rfl rfl 3 (by decide) k129 (fun _ h9 => h9) rfl dX3_addToBalance_71 ?_
  refine lv_iload_n hx hb dX3_addToBalance_74 rfl (lv_at hl 1 rfl) ?_
  refine lv_aload_n hx hb dX3_addToBalance_75 rfl (lv_at hl 3 rfl) ?_
  refine va_get (D := g.1) (ci := 3) (v := .int ((M (46 + 5 * w)) 0)) (C := RX3) (T := TX3) (N := 7) hx hb hts hinX3 hown hK (hb1 hW (show 46 + 5 * w < 126 by omega) (lcE r_46_5_w (sh_S0 (w := w) (by omega)))) 0 rfl rfl 4 (by decide) k43 (fun _ h9 => h9) rfl dX3_addToBalance_76 ?_
  refine z_top (y := zI (rt)) (hrt) ?_
  refine z_imul hx hb dX3_addToBalance_79 ?_
  refine lv_iconst (v := zI (3)) hx hb dX3_addToBalance_80 (by decide) ?_
  refine z_imul hx hb dX3_addToBalance_81 ?_
  refine lv_iconst (v := zI (2)) hx hb dX3_addToBalance_82 (by decide) ?_
  refine z_idiv hx hb dX3_addToBalance_83 (mul3r ⟨by omega, by omega⟩ ⟨by omega, by omega⟩) (by omega) ?_
  refine lv_iadd hx hb dX3_addToBalance_84 ?_
  refine y_put (ci := 0) (v := .int (((M (46 + 5 * w + 4)) 3) + zI ((((max (0) ((b9 + q) - (mn N 1))) * rt) * 3) / 2))) (ty := .int) (C := RX0) (T := TX0) (N := 9) hx hb hts hinX0 tyX0 tyX0_ok nmX0 hown hK hW hd9 hS (46 + 5 * w + 4) (show 46 + 5 * w + 4 < 126 by omega) (lcE r_46_5_w_4 (sh_S4 (w := w) (by omega))) rfl 3 (by decide) k129 (fun _ h9 => h9) rfl (by decide +kernel) rfl rfl (Nat.le_of_ble_eq_true rfl) dX3_addToBalance_85 (fun H locs hW hS => ?_)
  have hW := cw_up (P := P) (M := M2) (f := upd (upd (upd (M (46 + 5 * w + 4)) 0 (zI (((b9 + q) - (max (0) ((b9 + q) - (mn N 1)))) + (max (0) ((-(mn N 0)) - (b9 + q)))))) 1 (((M (46 + 5 * w + 4)) 1) + zI (max (0) ((b9 + q) - (mn N 1))))) 3 (((M (46 + 5 * w + 4)) 3) + zI ((((max (0) ((b9 + q) - (mn N 1))) * rt) * 3) / 2))) (((sh_S4 (w := w) (by omega))).trans rfl) hW
  obtain ⟨M3, hM3⟩ : ∃ x9c : Nat → Nat → Int32, x9c = va_up M2 (46 + 5 * w + 4) (upd (upd (upd (M (46 + 5 * w + 4)) 0 (zI (((b9 + q) - (max (0) ((b9 + q) - (mn N 1)))) + (max (0) ((-(mn N 0)) - (b9 + q)))))) 1 (((M (46 + 5 * w + 4)) 1) + zI (max (0) ((b9 + q) - (mn N 1))))) 3 (((M (46 + 5 * w + 4)) 3) + zI ((((max (0) ((b9 + q) - (mn N 1))) * rt) * 3) / 2))) := ⟨_, rfl⟩
  have hW : cw g ad P M3 H := by rw [hM3]; exact hW
  have hex : ∀ j : Nat, ¬ j = 46 + 5 * w + 4 → M3 j = M j := fun j q0 => ((congrFun hM3 j).trans (up_ne _ _ q0)).trans (hex j q0)
  have r_46_5_w : M3 (46 + 5 * w) = M (46 + 5 * w) := ((congrFun hM3 (46 + 5 * w)).trans (up_ne _ _ (by omega))).trans r_46_5_w
  have r_46_5_w_4 : M3 (46 + 5 * w + 4) = upd (upd (upd (M (46 + 5 * w + 4)) 0 (zI (((b9 + q) - (max (0) ((b9 + q) - (mn N 1)))) + (max (0) ((-(mn N 0)) - (b9 + q)))))) 1 (((M (46 + 5 * w + 4)) 1) + zI (max (0) ((b9 + q) - (mn N 1))))) 3 (((M (46 + 5 * w + 4)) 3) + zI ((((max (0) ((b9 + q) - (mn N 1))) * rt) * 3) / 2)) := ((congrFun hM3 _).trans (up_at _ _ _))
  refine lv_aload_n hx hb dX3_addToBalance_88 rfl (lv_at hl 3 rfl) ?_
  refine va_get (D := g.1) (ci := 3) (v := .ref ((ad (46 + 5 * w + 4)))) (C := RX3) (T := TX3) (N := 7) hx hb hts hinX3 hown hK (hb1 hW (show 46 + 5 * w < 126 by omega) (lcE r_46_5_w (sh_S0 (w := w) (by omega)))) 0 rfl rfl 3 (by decide) k25 (fun _ h9 => h9) rfl dX3_addToBalance_89 ?_
  refine lv_dup hx hb dX3_addToBalance_92 rfl ?_
  refine va_get (D := g.1) (ci := 0) (v := .int ((M (46 + 5 * w + 4)) 2)) (C := RX0) (T := TX0) (N := 9) hx hb hts hinX0 hown hK (hb1 hW (show 46 + 5 * w + 4 < 126 by omega) (lcE r_46_5_w_4 (sh_S4 (w := w) (by omega)))) 0 rfl rfl 2 (by decide) k132 (fun _ h9 => h9) rfl dX3_addToBalance_93 ?_
  refine lv_iload hx hb dX3_addToBalance_96 (lv_at hl 0 rfl) ?_
  refine lv_iadd hx hb dX3_addToBalance_98 ?_
  refine y_put (ci := 0) (v := .int (((M (46 + 5 * w + 4)) 2) + zI (max (0) ((-(mn N 0)) - (b9 + q))))) (ty := .int) (C := RX0) (T := TX0) (N := 9) hx hb hts hinX0 tyX0 tyX0_ok nmX0 hown hK hW hd9 hS (46 + 5 * w + 4) (show 46 + 5 * w + 4 < 126 by omega) (lcE r_46_5_w_4 (sh_S4 (w := w) (by omega))) rfl 2 (by decide) k132 (fun _ h9 => h9) rfl (by decide +kernel) rfl rfl (Nat.le_of_ble_eq_true rfl) dX3_addToBalance_99 (fun H locs hW hS => ?_)
  have hW := cw_up (P := P) (M := M3) (f := upd (upd (upd (upd (M (46 + 5 * w + 4)) 0 (zI (((b9 + q) - (max (0) ((b9 + q) - (mn N 1)))) + (max (0) ((-(mn N 0)) - (b9 + q)))))) 1 (((M (46 + 5 * w + 4)) 1) + zI (max (0) ((b9 + q) - (mn N 1))))) 3 (((M (46 + 5 * w + 4)) 3) + zI ((((max (0) ((b9 + q) - (mn N 1))) * rt) * 3) / 2))) 2 (((M (46 + 5 * w + 4)) 2) + zI (max (0) ((-(mn N 0)) - (b9 + q))))) (((sh_S4 (w := w) (by omega))).trans rfl) hW
  obtain ⟨M4, hM4⟩ : ∃ x9c : Nat → Nat → Int32, x9c = va_up M3 (46 + 5 * w + 4) (upd (upd (upd (upd (M (46 + 5 * w + 4)) 0 (zI (((b9 + q) - (max (0) ((b9 + q) - (mn N 1)))) + (max (0) ((-(mn N 0)) - (b9 + q)))))) 1 (((M (46 + 5 * w + 4)) 1) + zI (max (0) ((b9 + q) - (mn N 1))))) 3 (((M (46 + 5 * w + 4)) 3) + zI ((((max (0) ((b9 + q) - (mn N 1))) * rt) * 3) / 2))) 2 (((M (46 + 5 * w + 4)) 2) + zI (max (0) ((-(mn N 0)) - (b9 + q))))) := ⟨_, rfl⟩
  have hW : cw g ad P M4 H := by rw [hM4]; exact hW
  have hex : ∀ j : Nat, ¬ j = 46 + 5 * w + 4 → M4 j = M j := fun j q0 => ((congrFun hM4 j).trans (up_ne _ _ q0)).trans (hex j q0)
  have r_46_5_w : M4 (46 + 5 * w) = M (46 + 5 * w) := ((congrFun hM4 (46 + 5 * w)).trans (up_ne _ _ (by omega))).trans r_46_5_w
  have r_46_5_w_4 : M4 (46 + 5 * w + 4) = upd (upd (upd (upd (M (46 + 5 * w + 4)) 0 (zI (((b9 + q) - (max (0) ((b9 + q) - (mn N 1)))) + (max (0) ((-(mn N 0)) - (b9 + q)))))) 1 (((M (46 + 5 * w + 4)) 1) + zI (max (0) ((b9 + q) - (mn N 1))))) 3 (((M (46 + 5 * w + 4)) 3) + zI ((((max (0) ((b9 + q) - (mn N 1))) * rt) * 3) / 2))) 2 (((M (46 + 5 * w + 4)) 2) + zI (max (0) ((-(mn N 0)) - (b9 + q)))) := ((congrFun hM4 _).trans (up_at _ _ _))
  refine lv_aload_n hx hb dX3_addToBalance_102 rfl (lv_at hl 3 rfl) ?_
  refine va_get (D := g.1) (ci := 3) (v := .ref ((ad (46 + 5 * w + 4)))) (C := RX3) (T := TX3) (N := 7) hx hb hts hinX3 hown hK (hb1 hW (show 46 + 5 * w < 126 by omega) (lcE r_46_5_w (sh_S0 (w := w) (by omega)))) 0 rfl rfl 3 (by decide) k25 (fun _ h9 => h9) rfl dX3_addToBalance_103 ?_
  refine lv_dup hx hb dX3_addToBalance_106 rfl ?_
  refine va_get (D := g.1) (ci := 0) (v := .int ((M (46 + 5 * w + 4)) 5)) (C := RX0) (T := TX0) (N := 9) hx hb hts hinX0 hown hK (hb1 hW (show 46 + 5 * w + 4 < 126 by omega) (lcE r_46_5_w_4 (sh_S4 (w := w) (by omega)))) 0 rfl rfl 5 (by decide) k135 (fun _ h9 => h9) rfl dX3_addToBalance_107 ?_
  refine lv_iload hx hb dX3_addToBalance_110 (lv_at hl 0 rfl) ?_
  refine lv_aload_n hx hb dX3_addToBalance_112 rfl (lv_at hl 3 rfl) ?_
  refine va_get (D := g.1) (ci := 3) (v := .int ((M (46 + 5 * w)) 0)) (C := RX3) (T := TX3) (N := 7) hx hb hts hinX3 hown hK (hb1 hW (show 46 + 5 * w < 126 by omega) (lcE r_46_5_w (sh_S0 (w := w) (by omega)))) 0 rfl rfl 4 (by decide) k43 (fun _ h9 => h9) rfl dX3_addToBalance_113 ?_
  refine z_top (y := zI (rt)) (hrt) ?_
  refine z_imul hx hb dX3_addToBalance_116 ?_
  refine lv_iadd hx hb dX3_addToBalance_117 ?_
  refine y_put (ci := 0) (v := .int (((M (46 + 5 * w + 4)) 5) + zI ((max (0) ((-(mn N 0)) - (b9 + q))) * rt))) (ty := .int) (C := RX0) (T := TX0) (N := 9) hx hb hts hinX0 tyX0 tyX0_ok nmX0 hown hK hW hd9 hS (46 + 5 * w + 4) (show 46 + 5 * w + 4 < 126 by omega) (lcE r_46_5_w_4 (sh_S4 (w := w) (by omega))) rfl 5 (by decide) k135 (fun _ h9 => h9) rfl (by decide +kernel) rfl rfl (Nat.le_of_ble_eq_true rfl) dX3_addToBalance_118 (fun H locs hW hS => ?_)
  have hW := cw_up (P := P) (M := M4) (f := upd (upd (upd (upd (upd (M (46 + 5 * w + 4)) 0 (zI (((b9 + q) - (max (0) ((b9 + q) - (mn N 1)))) + (max (0) ((-(mn N 0)) - (b9 + q)))))) 1 (((M (46 + 5 * w + 4)) 1) + zI (max (0) ((b9 + q) - (mn N 1))))) 3 (((M (46 + 5 * w + 4)) 3) + zI ((((max (0) ((b9 + q) - (mn N 1))) * rt) * 3) / 2))) 2 (((M (46 + 5 * w + 4)) 2) + zI (max (0) ((-(mn N 0)) - (b9 + q))))) 5 (((M (46 + 5 * w + 4)) 5) + zI ((max (0) ((-(mn N 0)) - (b9 + q))) * rt))) (((sh_S4 (w := w) (by omega))).trans rfl) hW
  obtain ⟨M5, hM5⟩ : ∃ x9c : Nat → Nat → Int32, x9c = va_up M4 (46 + 5 * w + 4) (upd (upd (upd (upd (upd (M (46 + 5 * w + 4)) 0 (zI (((b9 + q) - (max (0) ((b9 + q) - (mn N 1)))) + (max (0) ((-(mn N 0)) - (b9 + q)))))) 1 (((M (46 + 5 * w + 4)) 1) + zI (max (0) ((b9 + q) - (mn N 1))))) 3 (((M (46 + 5 * w + 4)) 3) + zI ((((max (0) ((b9 + q) - (mn N 1))) * rt) * 3) / 2))) 2 (((M (46 + 5 * w + 4)) 2) + zI (max (0) ((-(mn N 0)) - (b9 + q))))) 5 (((M (46 + 5 * w + 4)) 5) + zI ((max (0) ((-(mn N 0)) - (b9 + q))) * rt))) := ⟨_, rfl⟩
  have hW : cw g ad P M5 H := by rw [hM5]; exact hW
  have hex : ∀ j : Nat, ¬ j = 46 + 5 * w + 4 → M5 j = M j := fun j q0 => ((congrFun hM5 j).trans (up_ne _ _ q0)).trans (hex j q0)
  have r_46_5_w : M5 (46 + 5 * w) = M (46 + 5 * w) := ((congrFun hM5 (46 + 5 * w)).trans (up_ne _ _ (by omega))).trans r_46_5_w
  have r_46_5_w_4 : M5 (46 + 5 * w + 4) = upd (upd (upd (upd (upd (M (46 + 5 * w + 4)) 0 (zI (((b9 + q) - (max (0) ((b9 + q) - (mn N 1)))) + (max (0) ((-(mn N 0)) - (b9 + q)))))) 1 (((M (46 + 5 * w + 4)) 1) + zI (max (0) ((b9 + q) - (mn N 1))))) 3 (((M (46 + 5 * w + 4)) 3) + zI ((((max (0) ((b9 + q) - (mn N 1))) * rt) * 3) / 2))) 2 (((M (46 + 5 * w + 4)) 2) + zI (max (0) ((-(mn N 0)) - (b9 + q))))) 5 (((M (46 + 5 * w + 4)) 5) + zI ((max (0) ((-(mn N 0)) - (b9 + q))) * rt)) := ((congrFun hM5 _).trans (up_at _ _ _))
  have hW : cw g ad P (va_up M (46 + 5 * w + 4) (addR (M (46 + 5 * w + 4)) (b9 + q) (mn N 1) (mn N 0) rt)) H := by
    have e9 : M5 = va_up M (46 + 5 * w + 4) (addR (M (46 + 5 * w + 4)) (b9 + q) (mn N 1) (mn N 0) rt) := by
      funext i9
      by_cases q0 : i9 = 46 + 5 * w + 4
      · rw [q0]; exact (r_46_5_w_4.trans (rfl)).trans (up_at _ _ _).symm
      exact (hex i9 q0).trans (up_ne _ _ q0).symm
    rw [← e9]; exact hW
  exact W.vret hx hb hr (fun tX htX hWX => ⟨⟨(), rfl, trivial, g_at htX hW⟩, hS.F htX⟩) hS.2.2 dX3_addToBalance_121

set_option maxHeartbeats 4000000 in
set_option maxRecDepth 100000 in
theorem c_X3_closeDay (l : Launch) (g : GG) (ad : Nat → Nat) (hd9 : hD ad) (P : Nat → Nat) (M : Nat → Nat → Int32) (w : Nat) (hw : w < 4) (N : Nat → Int32) (hN : okN N) (hpo : P (46 + 5 * w) = 8 ∨ P (46 + 5 * w) = 27) (hRu : RuR N (fun k => M (P (46 + 5 * w) + 1 + k))) (gd : Nat) (hg : shM N M w gd) (htd : mn N 110 < 364) (hfz : flg N w (mn N 110) = 0) : Met l yX3_closeDay wsX3_closeDay ({ frames := 5, cells := 0, slots := 0, locals := 108 }) (gPc g [.ref ((ad (46 + 5 * w))), .int (zI (mn N 110))] (cw g ad P M)) (va_Qi (fun (r : Int32) (u : Nat → Nat → Int32) => r = zI (bz (flgC N w)) ∧ clQ N M u w gd) (fun (u : Nat → Nat → Int32) (tS : State) => cw g ad P u tS.heap) (hbA ad)) 0 0 (hbA ad) := by
  refine Met.ofW (cc := cX3_closeDay) (maxL := 2) (ret := (some .boolean)) (by decide) rfl ?_
  intro p e s m args below meth c s₁ B hml hv
  obtain ⟨rfl, hW, hK⟩ := hv
  have hx := B.exec
  have hb := B.bytes
  have hr := B.returns
  have hts := atoms_spec (ws := wsX3_closeDay) B.pre
  have hown : s.vm.findClass RX3 = some m.cls := findClass_of_methodNamed B.named
  have hlocks := B.notSynchronized
  have hinX0 : ∀ w ∈ wsX00, w ∈ wsX3_closeDay := by decide +kernel
  have hinX3 : ∀ w ∈ wsX30, w ∈ wsX3_closeDay := by decide +kernel
  have k18 := hts (.fieldLink RX3 18 "HoursBank$Sheet" "flagged" "[Z") (by decide +kernel)
  have k33 := hts (.fieldLink RX3 33 "HoursBank$Sheet" "rules" "LHoursBank$Rules;") (by decide +kernel)
  have k25 := hts (.fieldLink RX3 25 "HoursBank$Sheet" "account" "LHoursBank$Account;") (by decide +kernel)
  have k123 := hts (.fieldLink RX3 123 "HoursBank$Account" "flaggedDays" "I") (by decide +kernel)
  have hl := lv_entry ([.ref ((ad (46 + 5 * w))), .int (zI (mn N 110))]) (n := 2) (Nat.le_of_ble_eq_true rfl)
  rw [lg_entry_eq]
  generalize (lg_sl ([.ref ((ad (46 + 5 * w))), .int (zI (mn N 110))]) ++ List.replicate (2 - (lg_sl ([.ref ((ad (46 + 5 * w))), .int (zI (mn N 110))])).length) Slot.unset).toArray = ls at hl ⊢
  have hl : lv_has ls 2 [(0, .ref ((ad (46 + 5 * w)))), (1, .int (zI (mn N 110)))] := hl
  have hS : va_S (hbA ad) s.heap s.heap [] := va_S.rf
  obtain ⟨H, hH9⟩ : ∃ H, H = s.heap := ⟨_, rfl⟩
  obtain ⟨locs, hL9⟩ : ∃ x9l : List Loc, x9l = [] := ⟨_, rfl⟩
  have hW : cw g ad P M H := hH9 ▸ hW
  have hS : va_S (hbA ad) s.heap H locs := by rw [hH9, hL9]; exact hS
  refine z_start hH9 hL9 ?_
  clear hH9 hL9
  have hex : ∀ j : Nat, M j = M j := fun _ => rfl
  have hbl := hN.bal hw
  rw [show 60 + 13 * w = 58 + 13 * w + 2 by omega] at hbl
  have hlo := hN.lo.le
  have hhi := hN.hi.le
  have hpl := plan_le hN hw htd
  have hwk := hN.wkd hw htd
  have hkn := hN.knd hw htd
  refine lv_aload_n hx hb dX3_closeDay_0 rfl (lv_at hl 0 rfl) ?_
  refine lv_iload_n hx hb dX3_closeDay_1 rfl (lv_at hl 1 rfl) ?_
  refine vp_callSi (va_Run.run (va_runV (As := [.int (zI (mn N 110))]) (rest := []) ⟨hx, hb, hml, hown, hts⟩ (c_X3_kindOn l g ((ad (46 + 5 * w))) (w) (N) (hN) (hw) ((mn N 110)) (htd)) (cwV 1 hts gX3_closeDay_X3_kindOn rfl rfl rfl (by decide +kernel) ⟨Nat.le_of_ble_eq_true rfl, Nat.le_of_ble_eq_true rfl⟩) (g_preV ((cw_rdS hW (w := w) (gd := gd) hw hpo hg hRu)) hK (rdS_recv hK (cw_rdS hW (w := w) (gd := gd) hw hpo hg hRu))) rfl rfl hl.1 rfl (lv_room (Nat.le_of_ble_eq_true rfl)) dX3_closeDay_2 ⟨Nat.le_of_ble_eq_true rfl, Nat.le_of_ble_eq_true rfl⟩)) (fun r hr9 => ?_)
  subst hr9
  refine z_if_ne (tgt := 23) hx hb dX3_closeDay_5 (by decide) (by omega) (fun h5 => ?_) (fun h5 => ?_)
  · have hA2 : ShR (clsN N w) w (M (46 + 5 * w + 1)) (M (46 + 5 * w + 2)) (M (46 + 5 * w + 3)) (M (46 + 5 * w + 4)) (M (46 + 5 * w) 0) (M (46 + 5 * w) 1) gd := by rw [cls_same (by omega)]; exact hg
    have hg2 : shM (clsN N w) M w gd := hA2
    have hN2 := okN_cls hN hw
    have hsd := sD_cls (N := N) hw
    have hRu2 : RuR (clsN N w) (fun k => M (P (46 + 5 * w) + 1 + k)) := RuR_cg (RuR_N (fun k hk => cls_in (by omega)) (fun i hi => ⟨cls_in (by omega), cls_in (by omega)⟩) hN.nw.le hN.ns.le hN.nn.le hRu) (fun k hk => hex _ ) hN2.ns.le hN2.nn.le hN2.nw.le
    refine lv_aload_n hx hb dX3_closeDay_23 rfl (lv_at hl 0 rfl) ?_
    have r_46_5_w : M (46 + 5 * w) = M (46 + 5 * w) := hex (46 + 5 * w) 
    refine va_get (D := g.1) (ci := 3) (v := .ref ((ad (46 + 5 * w + 3)))) (C := RX3) (T := TX3) (N := 7) hx hb hts hinX3 hown hK (hb1 hW (show 46 + 5 * w < 126 by omega) (lcE r_46_5_w (sh_S0 (w := w) (by omega)))) 0 rfl rfl 2 (by decide) k18 (fun _ h9 => h9) rfl dX3_closeDay_24 ?_
    refine lv_iload_n hx hb dX3_closeDay_27 rfl (lv_at hl 1 rfl) ?_
    refine lv_aload_n hx hb dX3_closeDay_28 rfl (lv_at hl 0 rfl) ?_
    refine lv_iload_n hx hb dX3_closeDay_29 rfl (lv_at hl 1 rfl) ?_
    refine vp_callSi (va_Run.run (va_runV (As := [.int (zI (mn N 110))]) (rest := [.int (zI (mn N 110)), .ref ((ad (46 + 5 * w + 3)))]) ⟨hx, hb, hml, hown, hts⟩ (c_X3_windowLoad l g ((ad (46 + 5 * w))) (w) ((clsN N w)) (hN2) (hw) ((mn N 110)) (htd)) (cwV 1 hts gX3_closeDay_X3_windowLoad rfl rfl rfl (by decide +kernel) ⟨Nat.le_of_ble_eq_true rfl, Nat.le_of_ble_eq_true rfl⟩) (g_preV ((cw_rdS hW (w := w) (gd := gd) hw hpo hg2 hRu2)) hK (rdS_recv hK (cw_rdS hW (w := w) (gd := gd) hw hpo hg2 hRu2))) rfl rfl hl.1 rfl (lv_room (Nat.le_of_ble_eq_true rfl)) dX3_closeDay_30 ⟨Nat.le_of_ble_eq_true rfl, Nat.le_of_ble_eq_true rfl⟩)) (fun r hr9 => ?_)
    subst hr9
    have hq2 := hN.win.le
    have hq3 := hN.lim.le
    have hq4 : ldS N w ((mn N 110 : Int) - mn N 2 + 1) (mn N 110) ≤ 1000000 := Nat.le_trans (sumN_le (B := 96) _ (fun i hi => load_le hN hw (by omega))) (by omega)
    refine z_top (y := zI (ldS N w ((mn N 110 : Int) - mn N 2 + 1) (mn N 110))) (zN_cg (by rw [sD_ldS hsd hN, sD_mn hsd (k := 2) (by omega)])) ?_
    refine lv_aload_n hx hb dX3_closeDay_33 rfl (lv_at hl 0 rfl) ?_
    refine va_get (D := g.1) (ci := 3) (v := .ref ((ad (P (46 + 5 * w))))) (C := RX3) (T := TX3) (N := 7) hx hb hts hinX3 hown hK (hb1 hW (show 46 + 5 * w < 126 by omega) (lcE r_46_5_w (sh_S0 (w := w) (by omega)))) 0 rfl rfl 6 (by decide) k33 (fun _ h9 => h9) rfl dX3_closeDay_34 ?_
    refine vp_callSi (va_Run.run (va_runV (As := []) (rest := [.int (zI (ldS N w ((mn N 110 : Int) - mn N 2 + 1) (mn N 110))), .int (zI (mn N 110)), .ref ((ad (46 + 5 * w + 3)))]) ⟨hx, hb, hml, hown, hts⟩ (c_X2_limit l g ((ad (P (46 + 5 * w)))) ((clsN N w)) (hN2)) (cwV 0 hts gX3_closeDay_X2_limit rfl rfl rfl (by decide +kernel) ⟨Nat.le_of_ble_eq_true rfl, Nat.le_of_ble_eq_true rfl⟩) (g_preV (cw_rdR hW hpo hRu2) hK (rdR_recv hK (cw_rdR hW hpo hRu2))) rfl rfl hl.1 rfl (lv_room (Nat.le_of_ble_eq_true rfl)) dX3_closeDay_37 ⟨Nat.le_of_ble_eq_true rfl, Nat.le_of_ble_eq_true rfl⟩)) (fun r hr9 => ?_)
    subst hr9
    refine z_top (y := zI (mn N 3)) (zN_cg (sD_mn hsd (by omega))) ?_
    refine z_icmp_le (tgt := 47) hx hb dX3_closeDay_40 (by decide) (by omega) (by omega) (fun h40 => ?_) (fun h40 => ?_)
    · refine lv_iconst (v := zI (0)) hx hb dX3_closeDay_47 (by decide) ?_
      have r_46_5_w_3 : M (46 + 5 * w + 3) = M (46 + 5 * w + 3) := hex (46 + 5 * w + 3) 
      refine y_zast hx hb hK hW hd9 hS (46 + 5 * w + 3) (show 46 + 5 * w + 3 < 126 by omega) (lcE r_46_5_w_3 (sh_S3 (w := w) (by omega))) (by decide) (mn N 110) (by omega) (by omega) dX3_closeDay_48 (fun H locs hW hS => ?_)
      rw [show vp_nar .boolean (zI (0)) = zI (0) from (by decide)] at hW
      have hW := cw_up (P := P) (M := M) (f := upd (M (46 + 5 * w + 3)) (mn N 110) (zI (0))) ((sh_S3 (w := w) (by omega))) hW
      obtain ⟨M1, hM1⟩ : ∃ x9c : Nat → Nat → Int32, x9c = va_up M (46 + 5 * w + 3) (upd (M (46 + 5 * w + 3)) (mn N 110) (zI (0))) := ⟨_, rfl⟩
      have hW : cw g ad P M1 H := by rw [hM1]; exact hW
      have hex : ∀ j : Nat, ¬ j = 46 + 5 * w + 3 → M1 j = M j := fun j q0 => ((congrFun hM1 j).trans (up_ne _ _ q0)).trans (hex j )
      have r_46_5_w : M1 (46 + 5 * w) = M (46 + 5 * w) := ((congrFun hM1 (46 + 5 * w)).trans (up_ne _ _ (by omega))).trans r_46_5_w
      have r_46_5_w_3 : M1 (46 + 5 * w + 3) = upd (M (46 + 5 * w + 3)) (mn N 110) (zI (0)) := ((congrFun hM1 _).trans (up_at _ _ _))
      refine lv_aload_n hx hb dX3_closeDay_49 rfl (lv_at hl 0 rfl) ?_
      refine va_get (D := g.1) (ci := 3) (v := .ref ((ad (46 + 5 * w + 3)))) (C := RX3) (T := TX3) (N := 7) hx hb hts hinX3 hown hK (hb1 hW (show 46 + 5 * w < 126 by omega) (lcE r_46_5_w (sh_S0 (w := w) (by omega)))) 0 rfl rfl 2 (by decide) k18 (fun _ h9 => h9) rfl dX3_closeDay_50 ?_
      refine lv_iload_n hx hb dX3_closeDay_53 rfl (lv_at hl 1 rfl) ?_
      refine z_zald hx hb hK (hb1 hW (show 46 + 5 * w + 3 < 126 by omega) (lcE r_46_5_w_3 (sh_S3 (w := w) (by omega)))) 0 2 rfl rfl (by decide) (mn N 110) (by omega) (by omega) dX3_closeDay_54 ?_
      refine z_top (y := zI (0)) (upd_at _ _ _) ?_
      refine z_if_eq (tgt := 71) hx hb dX3_closeDay_55 (by decide) (by omega) (fun h55 => ?_) (fun h55 => ?_)
      · refine lv_aload_n hx hb dX3_closeDay_71 rfl (lv_at hl 0 rfl) ?_
        refine va_get (D := g.1) (ci := 3) (v := .ref ((ad (46 + 5 * w + 3)))) (C := RX3) (T := TX3) (N := 7) hx hb hts hinX3 hown hK (hb1 hW (show 46 + 5 * w < 126 by omega) (lcE r_46_5_w (sh_S0 (w := w) (by omega)))) 0 rfl rfl 2 (by decide) k18 (fun _ h9 => h9) rfl dX3_closeDay_72 ?_
        refine lv_iload_n hx hb dX3_closeDay_75 rfl (lv_at hl 1 rfl) ?_
        refine z_zald hx hb hK (hb1 hW (show 46 + 5 * w + 3 < 126 by omega) (lcE r_46_5_w_3 (sh_S3 (w := w) (by omega)))) 0 2 rfl rfl (by decide) (mn N 110) (by omega) (by omega) dX3_closeDay_76 ?_
        refine z_top (y := zI (0)) (upd_at _ _ _) ?_
        have hfc : ¬ flgC N w := (show ¬ (mn N 3 : Int) < ldS N w ((mn N 110 : Int) - mn N 2 + 1) (mn N 110) by omega)
        exact W.zret hx hb hr (by decide) (fun tX htX hWX => ⟨⟨_, M1, rfl, ⟨bz_0 (hfc), clQ_0 hw hfz htd hA2 hfc r_46_5_w_3 (hex _ (by omega)) (fun j q1 q2 => hex j (by omega))⟩, g_at htX hW⟩, hS.F htX⟩) hS.2.2 dX3_closeDay_77
      · exfalso; omega
    · refine lv_iconst (v := zI (1)) hx hb dX3_closeDay_43 (by decide) ?_
      refine lv_goto (tgt := 48) hx hb dX3_closeDay_44 (by decide) ?_
      have r_46_5_w_3 : M (46 + 5 * w + 3) = M (46 + 5 * w + 3) := hex (46 + 5 * w + 3) 
      refine y_zast hx hb hK hW hd9 hS (46 + 5 * w + 3) (show 46 + 5 * w + 3 < 126 by omega) (lcE r_46_5_w_3 (sh_S3 (w := w) (by omega))) (by decide) (mn N 110) (by omega) (by omega) dX3_closeDay_48 (fun H locs hW hS => ?_)
      rw [show vp_nar .boolean (zI (1)) = zI (1) from (by decide)] at hW
      have hW := cw_up (P := P) (M := M) (f := upd (M (46 + 5 * w + 3)) (mn N 110) (zI (1))) ((sh_S3 (w := w) (by omega))) hW
      obtain ⟨M2, hM2⟩ : ∃ x9c : Nat → Nat → Int32, x9c = va_up M (46 + 5 * w + 3) (upd (M (46 + 5 * w + 3)) (mn N 110) (zI (1))) := ⟨_, rfl⟩
      have hW : cw g ad P M2 H := by rw [hM2]; exact hW
      have hex : ∀ j : Nat, ¬ j = 46 + 5 * w + 3 → M2 j = M j := fun j q0 => ((congrFun hM2 j).trans (up_ne _ _ q0)).trans (hex j )
      have r_46_5_w : M2 (46 + 5 * w) = M (46 + 5 * w) := ((congrFun hM2 (46 + 5 * w)).trans (up_ne _ _ (by omega))).trans r_46_5_w
      have r_46_5_w_3 : M2 (46 + 5 * w + 3) = upd (M (46 + 5 * w + 3)) (mn N 110) (zI (1)) := ((congrFun hM2 _).trans (up_at _ _ _))
      refine lv_aload_n hx hb dX3_closeDay_49 rfl (lv_at hl 0 rfl) ?_
      refine va_get (D := g.1) (ci := 3) (v := .ref ((ad (46 + 5 * w + 3)))) (C := RX3) (T := TX3) (N := 7) hx hb hts hinX3 hown hK (hb1 hW (show 46 + 5 * w < 126 by omega) (lcE r_46_5_w (sh_S0 (w := w) (by omega)))) 0 rfl rfl 2 (by decide) k18 (fun _ h9 => h9) rfl dX3_closeDay_50 ?_
      refine lv_iload_n hx hb dX3_closeDay_53 rfl (lv_at hl 1 rfl) ?_
      refine z_zald hx hb hK (hb1 hW (show 46 + 5 * w + 3 < 126 by omega) (lcE r_46_5_w_3 (sh_S3 (w := w) (by omega)))) 0 2 rfl rfl (by decide) (mn N 110) (by omega) (by omega) dX3_closeDay_54 ?_
      refine z_top (y := zI (1)) (upd_at _ _ _) ?_
      refine z_if_eq (tgt := 71) hx hb dX3_closeDay_55 (by decide) (by omega) (fun h55 => ?_) (fun h55 => ?_)
      · exfalso; omega
      · refine lv_aload_n hx hb dX3_closeDay_58 rfl (lv_at hl 0 rfl) ?_
        refine va_get (D := g.1) (ci := 3) (v := .ref ((ad (46 + 5 * w + 4)))) (C := RX3) (T := TX3) (N := 7) hx hb hts hinX3 hown hK (hb1 hW (show 46 + 5 * w < 126 by omega) (lcE r_46_5_w (sh_S0 (w := w) (by omega)))) 0 rfl rfl 3 (by decide) k25 (fun _ h9 => h9) rfl dX3_closeDay_59 ?_
        refine lv_dup hx hb dX3_closeDay_62 rfl ?_
        have r_46_5_w_4 : M2 (46 + 5 * w + 4) = M (46 + 5 * w + 4) := hex (46 + 5 * w + 4) (by omega)
        refine va_get (D := g.1) (ci := 0) (v := .int ((M (46 + 5 * w + 4)) 7)) (C := RX0) (T := TX0) (N := 9) hx hb hts hinX0 hown hK (hb1 hW (show 46 + 5 * w + 4 < 126 by omega) (lcE r_46_5_w_4 (sh_S4 (w := w) (by omega)))) 0 rfl rfl 7 (by decide) k123 (fun _ h9 => h9) rfl dX3_closeDay_63 ?_
        refine z_top (y := zI (((sumN (ind (clsN N w) w 3) 0 364 : Nat) : Int))) (hA2.2.2.2.2.2.2.1) ?_
        refine lv_iconst (v := zI (1)) hx hb dX3_closeDay_66 (by decide) ?_
        refine z_iadd hx hb dX3_closeDay_67 ?_
        refine y_put (ci := 0) (v := .int (zI (((sumN (ind (clsN N w) w 3) 0 364 : Nat) : Int) + 1))) (ty := .int) (C := RX0) (T := TX0) (N := 9) hx hb hts hinX0 tyX0 tyX0_ok nmX0 hown hK hW hd9 hS (46 + 5 * w + 4) (show 46 + 5 * w + 4 < 126 by omega) (lcE r_46_5_w_4 (sh_S4 (w := w) (by omega))) rfl 7 (by decide) k123 (fun _ h9 => h9) rfl (by decide +kernel) rfl rfl (Nat.le_of_ble_eq_true rfl) dX3_closeDay_68 (fun H locs hW hS => ?_)
        have hW := cw_up (P := P) (M := M2) (f := upd (M (46 + 5 * w + 4)) 7 (zI (((sumN (ind (clsN N w) w 3) 0 364 : Nat) : Int) + 1))) (((sh_S4 (w := w) (by omega))).trans rfl) hW
        obtain ⟨M3, hM3⟩ : ∃ x9c : Nat → Nat → Int32, x9c = va_up M2 (46 + 5 * w + 4) (upd (M (46 + 5 * w + 4)) 7 (zI (((sumN (ind (clsN N w) w 3) 0 364 : Nat) : Int) + 1))) := ⟨_, rfl⟩
        have hW : cw g ad P M3 H := by rw [hM3]; exact hW
        have hex : ∀ j : Nat, ¬ j = 46 + 5 * w + 3 → ¬ j = 46 + 5 * w + 4 → M3 j = M j := fun j q0 q1 => ((congrFun hM3 j).trans (up_ne _ _ q1)).trans (hex j q0)
        have r_46_5_w : M3 (46 + 5 * w) = M (46 + 5 * w) := ((congrFun hM3 (46 + 5 * w)).trans (up_ne _ _ (by omega))).trans r_46_5_w
        have r_46_5_w_3 : M3 (46 + 5 * w + 3) = upd (M (46 + 5 * w + 3)) (mn N 110) (zI (1)) := ((congrFun hM3 (46 + 5 * w + 3)).trans (up_ne _ _ (by omega))).trans r_46_5_w_3
        have r_46_5_w_4 : M3 (46 + 5 * w + 4) = upd (M (46 + 5 * w + 4)) 7 (zI (((sumN (ind (clsN N w) w 3) 0 364 : Nat) : Int) + 1)) := ((congrFun hM3 _).trans (up_at _ _ _))
        refine lv_aload_n hx hb dX3_closeDay_71 rfl (lv_at hl 0 rfl) ?_
        refine va_get (D := g.1) (ci := 3) (v := .ref ((ad (46 + 5 * w + 3)))) (C := RX3) (T := TX3) (N := 7) hx hb hts hinX3 hown hK (hb1 hW (show 46 + 5 * w < 126 by omega) (lcE r_46_5_w (sh_S0 (w := w) (by omega)))) 0 rfl rfl 2 (by decide) k18 (fun _ h9 => h9) rfl dX3_closeDay_72 ?_
        refine lv_iload_n hx hb dX3_closeDay_75 rfl (lv_at hl 1 rfl) ?_
        refine z_zald hx hb hK (hb1 hW (show 46 + 5 * w + 3 < 126 by omega) (lcE r_46_5_w_3 (sh_S3 (w := w) (by omega)))) 0 2 rfl rfl (by decide) (mn N 110) (by omega) (by omega) dX3_closeDay_76 ?_
        refine z_top (y := zI (1)) (upd_at _ _ _) ?_
        have hfc : flgC N w := (show (mn N 3 : Int) < ldS N w ((mn N 110 : Int) - mn N 2 + 1) (mn N 110) by omega)
        exact W.zret hx hb hr (by decide) (fun tX htX hWX => ⟨⟨_, M3, rfl, ⟨bz_1 (hfc), clQ_1 hN hw htd hfz hA2 hfc r_46_5_w_3 r_46_5_w_4 (fun j q1 q2 => hex j (by omega) (by omega))⟩, g_at htX hW⟩, hS.F htX⟩) hS.2.2 dX3_closeDay_77
  · refine lv_aload_n hx hb dX3_closeDay_8 rfl (lv_at hl 0 rfl) ?_
    refine lv_aload_n hx hb dX3_closeDay_9 rfl (lv_at hl 0 rfl) ?_
    refine lv_iload_n hx hb dX3_closeDay_10 rfl (lv_at hl 1 rfl) ?_
    refine vp_callSi (va_Run.run (va_runV (As := [.int (zI (mn N 110))]) (rest := [.ref ((ad (46 + 5 * w)))]) ⟨hx, hb, hml, hown, hts⟩ (c_X3_workedOn l g ((ad (46 + 5 * w))) (w) (N) (hN) (hw) ((mn N 110)) (htd)) (cwV 1 hts gX3_closeDay_X3_workedOn rfl rfl rfl (by decide +kernel) ⟨Nat.le_of_ble_eq_true rfl, Nat.le_of_ble_eq_true rfl⟩) (g_preV ((cw_rdS hW (w := w) (gd := gd) hw hpo hg hRu)) hK (rdS_recv hK (cw_rdS hW (w := w) (gd := gd) hw hpo hg hRu))) rfl rfl hl.1 rfl (lv_room (Nat.le_of_ble_eq_true rfl)) dX3_closeDay_11 ⟨Nat.le_of_ble_eq_true rfl, Nat.le_of_ble_eq_true rfl⟩)) (fun r hr9 => ?_)
    subst hr9
    refine lv_aload_n hx hb dX3_closeDay_14 rfl (lv_at hl 0 rfl) ?_
    refine lv_iload_n hx hb dX3_closeDay_15 rfl (lv_at hl 1 rfl) ?_
    refine vp_callSi (va_Run.run (va_runV (As := [.int (zI (mn N 110))]) (rest := [.int (zI (wkd N w (mn N 110))), .ref ((ad (46 + 5 * w)))]) ⟨hx, hb, hml, hown, hts⟩ (c_X3_planOn l g ((ad (46 + 5 * w))) (w) (N) (hN) (hw) ((mn N 110)) (htd)) (cwV 1 hts gX3_closeDay_X3_planOn rfl rfl rfl (by decide +kernel) ⟨Nat.le_of_ble_eq_true rfl, Nat.le_of_ble_eq_true rfl⟩) (g_preV ((cw_rdS hW (w := w) (gd := gd) hw hpo hg hRu)) hK (rdS_recv hK (cw_rdS hW (w := w) (gd := gd) hw hpo hg hRu))) rfl rfl hl.1 rfl (lv_room (Nat.le_of_ble_eq_true rfl)) dX3_closeDay_16 ⟨Nat.le_of_ble_eq_true rfl, Nat.le_of_ble_eq_true rfl⟩)) (fun r hr9 => ?_)
    subst hr9
    refine z_isub hx hb dX3_closeDay_19 ?_
    have r_46_5_w : M (46 + 5 * w) = M (46 + 5 * w) := hex (46 + 5 * w) 
    refine va_callv (va_runV (As := [.int (zI ((wkd N w (mn N 110)) - (plan N w (mn N 110))))]) (rest := []) ⟨hx, hb, hml, hown, hts⟩ (c_X3_addToBalance l g (ad) (hd9) (P) (M) (w) (hw) (N) (hN) (hpo) (hRu) ((N (58 + 13 * w + 2)).toInt) (((wkd N w (mn N 110) : Int) - plan N w (mn N 110))) ((hg.2.2.2.2.2.1 0 (by omega)).trans (zI_of _)) (by omega) (by omega) (mn N (58 + 13 * w)) (hg.1.trans (hN.rate hw).eq) ((hN.rate hw).le)) (cwV 1 hts gX3_closeDay_X3_addToBalance rfl rfl rfl (by decide +kernel) ⟨Nat.le_of_ble_eq_true rfl, Nat.le_of_ble_eq_true rfl⟩) (g_preV hW hK (va_recv hK (hb1 hW (show 46 + 5 * w < 126 by omega) (lcE r_46_5_w (sh_S0 (w := w) (by omega)))) (q0 := 0) (ci := 3) rfl rfl)) rfl rfl hl.1 rfl (lv_room (Nat.le_of_ble_eq_true rfl)) dX3_closeDay_20 ⟨Nat.le_of_ble_eq_true rfl, Nat.le_of_ble_eq_true rfl⟩) hS (fun q _ h => h) (fun q h => h) (fun u3 t9 H1 locs ht9 hvm9 hw9 hB9 hz9 hk9 hS => ?_)
    rw [ht9] at hB9
    clear hz9 hk9 hvm9 ht9
    generalize H1 = H at hB9 hS ⊢
    have hW := hB9
    clear hB9
    have hW : cw g ad P (va_up M (46 + 5 * w + 4) (addR (M (46 + 5 * w + 4)) (((N (58 + 13 * w + 2)).toInt) + ((wkd N w (mn N 110) : Int) - plan N w (mn N 110))) (mn N 1) (mn N 0) (mn N (58 + 13 * w)))) H := hW
    obtain ⟨M5, hM5⟩ : ∃ x9c : Nat → Nat → Int32, x9c = va_up M (46 + 5 * w + 4) (addR (M (46 + 5 * w + 4)) (((N (58 + 13 * w + 2)).toInt) + ((wkd N w (mn N 110) : Int) - plan N w (mn N 110))) (mn N 1) (mn N 0) (mn N (58 + 13 * w))) := ⟨_, rfl⟩
    have hW : cw g ad P M5 H := by rw [hM5]; exact hW
    have hex : ∀ j : Nat, ¬ j = 46 + 5 * w + 4 → M5 j = M j := fun j q0 => ((congrFun hM5 j).trans (up_ne _ _ q0)).trans (hex j )
    have r_46_5_w : M5 (46 + 5 * w) = M (46 + 5 * w) := ((congrFun hM5 (46 + 5 * w)).trans (up_ne _ _ (by omega))).trans r_46_5_w
    have r_46_5_w_4 : M5 (46 + 5 * w + 4) = addR (M (46 + 5 * w + 4)) (((N (58 + 13 * w + 2)).toInt) + ((wkd N w (mn N 110) : Int) - plan N w (mn N 110))) (mn N 1) (mn N 0) (mn N (58 + 13 * w)) := ((congrFun hM5 _).trans (up_at _ _ _))
    have hA2 : ShR (clsN N w) w (M (46 + 5 * w + 1)) (M (46 + 5 * w + 2)) (M (46 + 5 * w + 3)) (addR (M (46 + 5 * w + 4)) (balB N w) (mn N 1) (mn N 0) (mn N (58 + 13 * w))) (M (46 + 5 * w) 0) (M (46 + 5 * w) 1) gd := ShR_cls hN hg (by omega)
    have r_46_5_w_4 : M5 (46 + 5 * w + 4) = addR (M (46 + 5 * w + 4)) (balB N w) (mn N 1) (mn N 0) (mn N (58 + 13 * w)) := r_46_5_w_4
    have hg2 : shM (clsN N w) M5 w gd := by
      show ShR (clsN N w) w (M5 (46 + 5 * w + 1)) (M5 (46 + 5 * w + 2)) (M5 (46 + 5 * w + 3)) (M5 (46 + 5 * w + 4)) (M5 (46 + 5 * w) 0) (M5 (46 + 5 * w) 1) gd
      rw [hex (46 + 5 * w + 1) (by omega), hex (46 + 5 * w + 2) (by omega), hex (46 + 5 * w + 3) (by omega), hex (46 + 5 * w) (by omega), r_46_5_w_4]
      exact hA2
    have hN2 := okN_cls hN hw
    have hsd := sD_cls (N := N) hw
    have hRu2 : RuR (clsN N w) (fun k => M5 (P (46 + 5 * w) + 1 + k)) := RuR_cg (RuR_N (fun k hk => cls_in (by omega)) (fun i hi => ⟨cls_in (by omega), cls_in (by omega)⟩) hN.nw.le hN.ns.le hN.nn.le hRu) (fun k hk => hex _ (by omega)) hN2.ns.le hN2.nn.le hN2.nw.le
    refine lv_aload_n hx hb dX3_closeDay_23 rfl (lv_at hl 0 rfl) ?_
    refine va_get (D := g.1) (ci := 3) (v := .ref ((ad (46 + 5 * w + 3)))) (C := RX3) (T := TX3) (N := 7) hx hb hts hinX3 hown hK (hb1 hW (show 46 + 5 * w < 126 by omega) (lcE r_46_5_w (sh_S0 (w := w) (by omega)))) 0 rfl rfl 2 (by decide) k18 (fun _ h9 => h9) rfl dX3_closeDay_24 ?_
    refine lv_iload_n hx hb dX3_closeDay_27 rfl (lv_at hl 1 rfl) ?_
    refine lv_aload_n hx hb dX3_closeDay_28 rfl (lv_at hl 0 rfl) ?_
    refine lv_iload_n hx hb dX3_closeDay_29 rfl (lv_at hl 1 rfl) ?_
    refine vp_callSi (va_Run.run (va_runV (As := [.int (zI (mn N 110))]) (rest := [.int (zI (mn N 110)), .ref ((ad (46 + 5 * w + 3)))]) ⟨hx, hb, hml, hown, hts⟩ (c_X3_windowLoad l g ((ad (46 + 5 * w))) (w) ((clsN N w)) (hN2) (hw) ((mn N 110)) (htd)) (cwV 1 hts gX3_closeDay_X3_windowLoad rfl rfl rfl (by decide +kernel) ⟨Nat.le_of_ble_eq_true rfl, Nat.le_of_ble_eq_true rfl⟩) (g_preV ((cw_rdS hW (w := w) (gd := gd) hw hpo hg2 hRu2)) hK (rdS_recv hK (cw_rdS hW (w := w) (gd := gd) hw hpo hg2 hRu2))) rfl rfl hl.1 rfl (lv_room (Nat.le_of_ble_eq_true rfl)) dX3_closeDay_30 ⟨Nat.le_of_ble_eq_true rfl, Nat.le_of_ble_eq_true rfl⟩)) (fun r hr9 => ?_)
    subst hr9
    have hq2 := hN.win.le
    have hq3 := hN.lim.le
    have hq4 : ldS N w ((mn N 110 : Int) - mn N 2 + 1) (mn N 110) ≤ 1000000 := Nat.le_trans (sumN_le (B := 96) _ (fun i hi => load_le hN hw (by omega))) (by omega)
    refine z_top (y := zI (ldS N w ((mn N 110 : Int) - mn N 2 + 1) (mn N 110))) (zN_cg (by rw [sD_ldS hsd hN, sD_mn hsd (k := 2) (by omega)])) ?_
    refine lv_aload_n hx hb dX3_closeDay_33 rfl (lv_at hl 0 rfl) ?_
    refine va_get (D := g.1) (ci := 3) (v := .ref ((ad (P (46 + 5 * w))))) (C := RX3) (T := TX3) (N := 7) hx hb hts hinX3 hown hK (hb1 hW (show 46 + 5 * w < 126 by omega) (lcE r_46_5_w (sh_S0 (w := w) (by omega)))) 0 rfl rfl 6 (by decide) k33 (fun _ h9 => h9) rfl dX3_closeDay_34 ?_
    refine vp_callSi (va_Run.run (va_runV (As := []) (rest := [.int (zI (ldS N w ((mn N 110 : Int) - mn N 2 + 1) (mn N 110))), .int (zI (mn N 110)), .ref ((ad (46 + 5 * w + 3)))]) ⟨hx, hb, hml, hown, hts⟩ (c_X2_limit l g ((ad (P (46 + 5 * w)))) ((clsN N w)) (hN2)) (cwV 0 hts gX3_closeDay_X2_limit rfl rfl rfl (by decide +kernel) ⟨Nat.le_of_ble_eq_true rfl, Nat.le_of_ble_eq_true rfl⟩) (g_preV (cw_rdR hW hpo hRu2) hK (rdR_recv hK (cw_rdR hW hpo hRu2))) rfl rfl hl.1 rfl (lv_room (Nat.le_of_ble_eq_true rfl)) dX3_closeDay_37 ⟨Nat.le_of_ble_eq_true rfl, Nat.le_of_ble_eq_true rfl⟩)) (fun r hr9 => ?_)
    subst hr9
    refine z_top (y := zI (mn N 3)) (zN_cg (sD_mn hsd (by omega))) ?_
    refine z_icmp_le (tgt := 47) hx hb dX3_closeDay_40 (by decide) (by omega) (by omega) (fun h40 => ?_) (fun h40 => ?_)
    · refine lv_iconst (v := zI (0)) hx hb dX3_closeDay_47 (by decide) ?_
      have r_46_5_w_3 : M5 (46 + 5 * w + 3) = M (46 + 5 * w + 3) := hex (46 + 5 * w + 3) (by omega)
      refine y_zast hx hb hK hW hd9 hS (46 + 5 * w + 3) (show 46 + 5 * w + 3 < 126 by omega) (lcE r_46_5_w_3 (sh_S3 (w := w) (by omega))) (by decide) (mn N 110) (by omega) (by omega) dX3_closeDay_48 (fun H locs hW hS => ?_)
      rw [show vp_nar .boolean (zI (0)) = zI (0) from (by decide)] at hW
      have hW := cw_up (P := P) (M := M5) (f := upd (M (46 + 5 * w + 3)) (mn N 110) (zI (0))) ((sh_S3 (w := w) (by omega))) hW
      obtain ⟨M6, hM6⟩ : ∃ x9c : Nat → Nat → Int32, x9c = va_up M5 (46 + 5 * w + 3) (upd (M (46 + 5 * w + 3)) (mn N 110) (zI (0))) := ⟨_, rfl⟩
      have hW : cw g ad P M6 H := by rw [hM6]; exact hW
      have hex : ∀ j : Nat, ¬ j = 46 + 5 * w + 4 → ¬ j = 46 + 5 * w + 3 → M6 j = M j := fun j q0 q1 => ((congrFun hM6 j).trans (up_ne _ _ q1)).trans (hex j q0)
      have r_46_5_w : M6 (46 + 5 * w) = M (46 + 5 * w) := ((congrFun hM6 (46 + 5 * w)).trans (up_ne _ _ (by omega))).trans r_46_5_w
      have r_46_5_w_4 : M6 (46 + 5 * w + 4) = addR (M (46 + 5 * w + 4)) (balB N w) (mn N 1) (mn N 0) (mn N (58 + 13 * w)) := ((congrFun hM6 (46 + 5 * w + 4)).trans (up_ne _ _ (by omega))).trans r_46_5_w_4
      have r_46_5_w_3 : M6 (46 + 5 * w + 3) = upd (M (46 + 5 * w + 3)) (mn N 110) (zI (0)) := ((congrFun hM6 _).trans (up_at _ _ _))
      refine lv_aload_n hx hb dX3_closeDay_49 rfl (lv_at hl 0 rfl) ?_
      refine va_get (D := g.1) (ci := 3) (v := .ref ((ad (46 + 5 * w + 3)))) (C := RX3) (T := TX3) (N := 7) hx hb hts hinX3 hown hK (hb1 hW (show 46 + 5 * w < 126 by omega) (lcE r_46_5_w (sh_S0 (w := w) (by omega)))) 0 rfl rfl 2 (by decide) k18 (fun _ h9 => h9) rfl dX3_closeDay_50 ?_
      refine lv_iload_n hx hb dX3_closeDay_53 rfl (lv_at hl 1 rfl) ?_
      refine z_zald hx hb hK (hb1 hW (show 46 + 5 * w + 3 < 126 by omega) (lcE r_46_5_w_3 (sh_S3 (w := w) (by omega)))) 0 2 rfl rfl (by decide) (mn N 110) (by omega) (by omega) dX3_closeDay_54 ?_
      refine z_top (y := zI (0)) (upd_at _ _ _) ?_
      refine z_if_eq (tgt := 71) hx hb dX3_closeDay_55 (by decide) (by omega) (fun h55 => ?_) (fun h55 => ?_)
      · refine lv_aload_n hx hb dX3_closeDay_71 rfl (lv_at hl 0 rfl) ?_
        refine va_get (D := g.1) (ci := 3) (v := .ref ((ad (46 + 5 * w + 3)))) (C := RX3) (T := TX3) (N := 7) hx hb hts hinX3 hown hK (hb1 hW (show 46 + 5 * w < 126 by omega) (lcE r_46_5_w (sh_S0 (w := w) (by omega)))) 0 rfl rfl 2 (by decide) k18 (fun _ h9 => h9) rfl dX3_closeDay_72 ?_
        refine lv_iload_n hx hb dX3_closeDay_75 rfl (lv_at hl 1 rfl) ?_
        refine z_zald hx hb hK (hb1 hW (show 46 + 5 * w + 3 < 126 by omega) (lcE r_46_5_w_3 (sh_S3 (w := w) (by omega)))) 0 2 rfl rfl (by decide) (mn N 110) (by omega) (by omega) dX3_closeDay_76 ?_
        refine z_top (y := zI (0)) (upd_at _ _ _) ?_
        have hfc : ¬ flgC N w := (show ¬ (mn N 3 : Int) < ldS N w ((mn N 110 : Int) - mn N 2 + 1) (mn N 110) by omega)
        exact W.zret hx hb hr (by decide) (fun tX htX hWX => ⟨⟨_, M6, rfl, ⟨bz_0 (hfc), clQ_0 hw hfz htd hA2 hfc r_46_5_w_3 r_46_5_w_4 (fun j q1 q2 => hex j (by omega) (by omega))⟩, g_at htX hW⟩, hS.F htX⟩) hS.2.2 dX3_closeDay_77
      · exfalso; omega
    · refine lv_iconst (v := zI (1)) hx hb dX3_closeDay_43 (by decide) ?_
      refine lv_goto (tgt := 48) hx hb dX3_closeDay_44 (by decide) ?_
      have r_46_5_w_3 : M5 (46 + 5 * w + 3) = M (46 + 5 * w + 3) := hex (46 + 5 * w + 3) (by omega)
      refine y_zast hx hb hK hW hd9 hS (46 + 5 * w + 3) (show 46 + 5 * w + 3 < 126 by omega) (lcE r_46_5_w_3 (sh_S3 (w := w) (by omega))) (by decide) (mn N 110) (by omega) (by omega) dX3_closeDay_48 (fun H locs hW hS => ?_)
      rw [show vp_nar .boolean (zI (1)) = zI (1) from (by decide)] at hW
      have hW := cw_up (P := P) (M := M5) (f := upd (M (46 + 5 * w + 3)) (mn N 110) (zI (1))) ((sh_S3 (w := w) (by omega))) hW
      obtain ⟨M7, hM7⟩ : ∃ x9c : Nat → Nat → Int32, x9c = va_up M5 (46 + 5 * w + 3) (upd (M (46 + 5 * w + 3)) (mn N 110) (zI (1))) := ⟨_, rfl⟩
      have hW : cw g ad P M7 H := by rw [hM7]; exact hW
      have hex : ∀ j : Nat, ¬ j = 46 + 5 * w + 4 → ¬ j = 46 + 5 * w + 3 → M7 j = M j := fun j q0 q1 => ((congrFun hM7 j).trans (up_ne _ _ q1)).trans (hex j q0)
      have r_46_5_w : M7 (46 + 5 * w) = M (46 + 5 * w) := ((congrFun hM7 (46 + 5 * w)).trans (up_ne _ _ (by omega))).trans r_46_5_w
      have r_46_5_w_4 : M7 (46 + 5 * w + 4) = addR (M (46 + 5 * w + 4)) (balB N w) (mn N 1) (mn N 0) (mn N (58 + 13 * w)) := ((congrFun hM7 (46 + 5 * w + 4)).trans (up_ne _ _ (by omega))).trans r_46_5_w_4
      have r_46_5_w_3 : M7 (46 + 5 * w + 3) = upd (M (46 + 5 * w + 3)) (mn N 110) (zI (1)) := ((congrFun hM7 _).trans (up_at _ _ _))
      refine lv_aload_n hx hb dX3_closeDay_49 rfl (lv_at hl 0 rfl) ?_
      refine va_get (D := g.1) (ci := 3) (v := .ref ((ad (46 + 5 * w + 3)))) (C := RX3) (T := TX3) (N := 7) hx hb hts hinX3 hown hK (hb1 hW (show 46 + 5 * w < 126 by omega) (lcE r_46_5_w (sh_S0 (w := w) (by omega)))) 0 rfl rfl 2 (by decide) k18 (fun _ h9 => h9) rfl dX3_closeDay_50 ?_
      refine lv_iload_n hx hb dX3_closeDay_53 rfl (lv_at hl 1 rfl) ?_
      refine z_zald hx hb hK (hb1 hW (show 46 + 5 * w + 3 < 126 by omega) (lcE r_46_5_w_3 (sh_S3 (w := w) (by omega)))) 0 2 rfl rfl (by decide) (mn N 110) (by omega) (by omega) dX3_closeDay_54 ?_
      refine z_top (y := zI (1)) (upd_at _ _ _) ?_
      refine z_if_eq (tgt := 71) hx hb dX3_closeDay_55 (by decide) (by omega) (fun h55 => ?_) (fun h55 => ?_)
      · exfalso; omega
      · refine lv_aload_n hx hb dX3_closeDay_58 rfl (lv_at hl 0 rfl) ?_
        refine va_get (D := g.1) (ci := 3) (v := .ref ((ad (46 + 5 * w + 4)))) (C := RX3) (T := TX3) (N := 7) hx hb hts hinX3 hown hK (hb1 hW (show 46 + 5 * w < 126 by omega) (lcE r_46_5_w (sh_S0 (w := w) (by omega)))) 0 rfl rfl 3 (by decide) k25 (fun _ h9 => h9) rfl dX3_closeDay_59 ?_
        refine lv_dup hx hb dX3_closeDay_62 rfl ?_
        refine va_get (D := g.1) (ci := 0) (v := .int ((addR (M (46 + 5 * w + 4)) (balB N w) (mn N 1) (mn N 0) (mn N (58 + 13 * w))) 7)) (C := RX0) (T := TX0) (N := 9) hx hb hts hinX0 hown hK (hb1 hW (show 46 + 5 * w + 4 < 126 by omega) (lcE r_46_5_w_4 (sh_S4 (w := w) (by omega)))) 0 rfl rfl 7 (by decide) k123 (fun _ h9 => h9) rfl dX3_closeDay_63 ?_
        refine z_top (y := zI (((sumN (ind (clsN N w) w 3) 0 364 : Nat) : Int))) (hA2.2.2.2.2.2.2.1) ?_
        refine lv_iconst (v := zI (1)) hx hb dX3_closeDay_66 (by decide) ?_
        refine z_iadd hx hb dX3_closeDay_67 ?_
        refine y_put (ci := 0) (v := .int (zI (((sumN (ind (clsN N w) w 3) 0 364 : Nat) : Int) + 1))) (ty := .int) (C := RX0) (T := TX0) (N := 9) hx hb hts hinX0 tyX0 tyX0_ok nmX0 hown hK hW hd9 hS (46 + 5 * w + 4) (show 46 + 5 * w + 4 < 126 by omega) (lcE r_46_5_w_4 (sh_S4 (w := w) (by omega))) rfl 7 (by decide) k123 (fun _ h9 => h9) rfl (by decide +kernel) rfl rfl (Nat.le_of_ble_eq_true rfl) dX3_closeDay_68 (fun H locs hW hS => ?_)
        have hW := cw_up (P := P) (M := M7) (f := upd (addR (M (46 + 5 * w + 4)) (balB N w) (mn N 1) (mn N 0) (mn N (58 + 13 * w))) 7 (zI (((sumN (ind (clsN N w) w 3) 0 364 : Nat) : Int) + 1))) (((sh_S4 (w := w) (by omega))).trans rfl) hW
        obtain ⟨M8, hM8⟩ : ∃ x9c : Nat → Nat → Int32, x9c = va_up M7 (46 + 5 * w + 4) (upd (addR (M (46 + 5 * w + 4)) (balB N w) (mn N 1) (mn N 0) (mn N (58 + 13 * w))) 7 (zI (((sumN (ind (clsN N w) w 3) 0 364 : Nat) : Int) + 1))) := ⟨_, rfl⟩
        have hW : cw g ad P M8 H := by rw [hM8]; exact hW
        have hex : ∀ j : Nat, ¬ j = 46 + 5 * w + 4 → ¬ j = 46 + 5 * w + 3 → M8 j = M j := fun j q0 q1 => ((congrFun hM8 j).trans (up_ne _ _ q0)).trans (hex j q0 q1)
        have r_46_5_w : M8 (46 + 5 * w) = M (46 + 5 * w) := ((congrFun hM8 (46 + 5 * w)).trans (up_ne _ _ (by omega))).trans r_46_5_w
        have r_46_5_w_3 : M8 (46 + 5 * w + 3) = upd (M (46 + 5 * w + 3)) (mn N 110) (zI (1)) := ((congrFun hM8 (46 + 5 * w + 3)).trans (up_ne _ _ (by omega))).trans r_46_5_w_3
        have r_46_5_w_4 : M8 (46 + 5 * w + 4) = upd (addR (M (46 + 5 * w + 4)) (balB N w) (mn N 1) (mn N 0) (mn N (58 + 13 * w))) 7 (zI (((sumN (ind (clsN N w) w 3) 0 364 : Nat) : Int) + 1)) := ((congrFun hM8 _).trans (up_at _ _ _))
        refine lv_aload_n hx hb dX3_closeDay_71 rfl (lv_at hl 0 rfl) ?_
        refine va_get (D := g.1) (ci := 3) (v := .ref ((ad (46 + 5 * w + 3)))) (C := RX3) (T := TX3) (N := 7) hx hb hts hinX3 hown hK (hb1 hW (show 46 + 5 * w < 126 by omega) (lcE r_46_5_w (sh_S0 (w := w) (by omega)))) 0 rfl rfl 2 (by decide) k18 (fun _ h9 => h9) rfl dX3_closeDay_72 ?_
        refine lv_iload_n hx hb dX3_closeDay_75 rfl (lv_at hl 1 rfl) ?_
        refine z_zald hx hb hK (hb1 hW (show 46 + 5 * w + 3 < 126 by omega) (lcE r_46_5_w_3 (sh_S3 (w := w) (by omega)))) 0 2 rfl rfl (by decide) (mn N 110) (by omega) (by omega) dX3_closeDay_76 ?_
        refine z_top (y := zI (1)) (upd_at _ _ _) ?_
        have hfc : flgC N w := (show (mn N 3 : Int) < ldS N w ((mn N 110 : Int) - mn N 2 + 1) (mn N 110) by omega)
        exact W.zret hx hb hr (by decide) (fun tX htX hWX => ⟨⟨_, M8, rfl, ⟨bz_1 (hfc), clQ_1 hN hw htd hfz hA2 hfc r_46_5_w_3 r_46_5_w_4 (fun j q1 q2 => hex j (by omega) (by omega))⟩, g_at htX hW⟩, hS.F htX⟩) hS.2.2 dX3_closeDay_77
