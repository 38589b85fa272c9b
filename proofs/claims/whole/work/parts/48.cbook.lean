set_option maxHeartbeats 4000000 in
set_option maxRecDepth 100000 in
theorem c_X8_book (l : Launch) (g : GG) (ad : Nat → Nat) (hd9 : hD ad) (P : Nat → Nat) (M : Nat → Nat → Int32) (N sn : Nat → Int32) (k : Nat) (hI : INV P M N sn k) (v dd f : Int) (hv : R32 v) (hdd : R32 dd) (hf : f = 0 ∨ f = 1) : Met l yX8_book wsX8_book ({ frames := 4, cells := 0, slots := 0, locals := 93 }) (gPc g [.ref ((ad 0)), .int (zI (v)), .int (zI (dd)), .int (zI (f))] (cw g ad P M)) (va_Qi (fun (r : Int32) (u : Nat → Nat → Int32) => r = zI (bookR N v dd f) ∧ actQ P M u (actN (bookC1 N v dd f ∧ ¬ bookC2 N v dd f) N (bookN N v.toNat dd.toNat f)) (actS (bookC1 N v dd f ∧ ¬ bookC2 N v dd f) sn N k) (actK (bookC1 N v dd f ∧ ¬ bookC2 N v dd f) k)) (fun (u : Nat → Nat → Int32) (tS : State) => cw g ad P u tS.heap) (hbA ad)) 0 0 (hbA ad) := by
  refine Met.ofW (cc := cX8_book) (maxL := 6) (ret := (some .int)) (by decide) rfl ?_
  intro p e s m args below meth c s₁ B hml hv
  obtain ⟨rfl, hW, hK⟩ := hv
  have hx := B.exec
  have hb := B.bytes
  have hr := B.returns
  have hts := atoms_spec (ws := wsX8_book) B.pre
  have hown : s.vm.findClass RX8 = some m.cls := findClass_of_methodNamed B.named
  have hlocks := B.notSynchronized
  have hinX3 : ∀ w ∈ wsX30, w ∈ wsX8_book := by decide +kernel
  have hinX8 : ∀ w ∈ wsX80, w ∈ wsX8_book := by decide +kernel
  have k37 := hts (.fieldLink RX8 37 "HoursBank" "sheets" "[LHoursBank$Sheet;") (by decide +kernel)
  have k229 := hts (.fieldLink RX8 229 "HoursBank$Sheet" "told" "[I") (by decide +kernel)
  have hl := lv_entry ([.ref ((ad 0)), .int (zI (v)), .int (zI (dd)), .int (zI (f))]) (n := 6) (Nat.le_of_ble_eq_true rfl)
  rw [lg_entry_eq]
  generalize (lg_sl ([.ref ((ad 0)), .int (zI (v)), .int (zI (dd)), .int (zI (f))]) ++ List.replicate (6 - (lg_sl ([.ref ((ad 0)), .int (zI (v)), .int (zI (dd)), .int (zI (f))])).length) Slot.unset).toArray = ls at hl ⊢
  have hl : lv_has ls 6 [(0, .ref ((ad 0))), (1, .int (zI (v))), (2, .int (zI (dd))), (3, .int (zI (f)))] := hl
  have hS : va_S (hbA ad) s.heap s.heap [] := va_S.rf
  obtain ⟨H, hH9⟩ : ∃ H, H = s.heap := ⟨_, rfl⟩
  obtain ⟨locs, hL9⟩ : ∃ x9l : List Loc, x9l = [] := ⟨_, rfl⟩
  have hW : cw g ad P M H := hH9 ▸ hW
  have hS : va_S (hbA ad) s.heap H locs := by rw [hH9, hL9]; exact hS
  refine z_start hH9 hL9 ?_
  clear hH9 hL9
  have hex : ∀ j : Nat, M j = M j := fun _ => rfl
  obtain ⟨hP9, hc9, hk10, hk6, nx, hnx, hn6, hch9⟩ := id hI
  obtain ⟨hN, hZt, hst9, hRu, hSh, ht9, hfl9⟩ := id hc9
  have hq57 := hN.nw.le
  have hqtd := hN.td.le
  refine lv_iload_n hx hb dX8_book_0 rfl (lv_at hl 3 rfl) ?_
  refine z_if_eq (tgt := 8) hx hb dX8_book_1 (by decide) (by omega) (fun h1 => ?_) (fun h1 => ?_)
  · refine lv_bipush (v := zI (-2)) hx hb dX8_book_8 (by decide) ?_
    refine lv_istore (lv' := [(4, .int (zI ((-2)))), (0, .ref ((ad 0))), (1, .int (zI (v))), (2, .int (zI (dd))), (3, .int (zI (f)))]) hx hb dX8_book_10 hl (by decide) rfl (fun ls hl => ?_)
    refine lv_aload_n hx hb dX8_book_12 rfl (lv_at hl 1 rfl) ?_
    refine lv_iload_n hx hb dX8_book_13 rfl (lv_at hl 2 rfl) ?_
    refine lv_iload_n hx hb dX8_book_14 rfl (lv_at hl 3 rfl) ?_
    refine vp_callSi (va_Run.run (va_runV (As := [.int (zI (v)), .int (zI (dd))]) (rest := []) ⟨hx, hb, hml, hown, hts⟩ (c_X8_isOpen l g ((ad 0)) (N) (hN) ((M 6 1)) ((M 1 0)) (v) (dd) (hv) (hdd)) (cwV 2 hts gX8_book_X8_isOpen rfl rfl rfl (by decide +kernel) ⟨Nat.le_of_ble_eq_true rfl, Nat.le_of_ble_eq_true rfl⟩) (g_preV (cw_rdH hW hP9 hSh hRu ht9) hK (va_recv hK (hb1 hW (show 0 < 126 by omega) (lcE rfl sh_0)) (q0 := 0) (ci := 8) rfl rfl)) rfl rfl hl.1 rfl (lv_room (Nat.le_of_ble_eq_true rfl)) dX8_book_15 ⟨Nat.le_of_ble_eq_true rfl, Nat.le_of_ble_eq_true rfl⟩)) (fun r hr9 => ?_)
    subst hr9
    refine z_bz_eq (tgt := 37) hx hb dX8_book_18 (by decide) (fun h18 => ?_) (fun h18 => ?_)
    · refine lv_iconst (v := zI (-1)) hx hb dX8_book_37 (by decide) ?_
      exact W.iret hx hb hr (fun tX htX hWX => ⟨⟨_, M, rfl, ⟨congrArg zI (by unfold bookR; rw [if_neg (by first | exact fun q9 => h18 ⟨q9.1, q9.2.1⟩ | (intro q9; have q8 := q9.2.2.1; have q7 := q9.2.2.2; simp only [Int.toNat_natCast] at q7 q8; omega))]), actQ_no hI (by first | exact fun q9 => h18 ⟨q9.1.1, q9.1.2.1⟩ | (intro q9; have q8 := q9.1.2.2.1; have q7 := q9.1.2.2.2; simp only [Int.toNat_natCast] at q7 q8; omega))⟩, g_at htX hW⟩, hS.F htX⟩) hS.2.2 dX8_book_38
    · obtain ⟨w, rfl⟩ := Int.eq_ofNat_of_zero_le h18.1.1.1
      obtain ⟨d, rfl⟩ := Int.eq_ofNat_of_zero_le (show 0 ≤ dd by omega)
      have hgo : goneN N w = 0 := h18.1.2
      obtain ⟨gd, hg⟩ := hSh w (by omega) (by omega)
      have hg0 := hg.2.2.2.2.2.2.2.2.2.1
      obtain ⟨τ, hτ, hτ2⟩ := hg.2.2.2.1 (d) (by omega)
      have hkk := hN.knd (w := w) (d := d) (by omega) (by omega)
      have hkw := hN.wkd (w := w) (d := d) (by omega) (by omega)
      unfold tlOK at hτ2
      refine lv_aload_n hx hb dX8_book_21 rfl (lv_at hl 1 rfl) ?_
      have r_0 : M (0) = M 0 := hex (0) 
      refine va_get (D := g.1) (ci := 8) (v := .ref ((ad 5))) (C := RX8) (T := TX8) (N := 7) hx hb hts hinX8 hown hK (hb1 hW (show 0 < 126 by omega) (lcE r_0 sh_0)) 0 rfl rfl 2 (by decide) k37 (fun _ h9 => h9) rfl dX8_book_22 ?_
      refine lv_iload_n hx hb dX8_book_25 rfl (lv_at hl 2 rfl) ?_
      have r_5 : M (5) = M 5 := hex (5) 
      refine z_aald hx hb hK (hb1 hW (show 5 < 126 by omega) (lcE r_5 sh_5)) 0 4 rfl rfl rfl (by decide) (w) (by omega) (by omega) rfl dX8_book_26 ?_
      have r_46_5_w : M (46 + 5 * w) = M (46 + 5 * w) := hex (46 + 5 * w) 
      refine va_get (D := g.1) (ci := 3) (v := .ref ((ad (46 + 5 * w + 2)))) (C := RX3) (T := TX3) (N := 7) hx hb hts hinX3 hown hK (hb1 hW (show 46 + 5 * w < 126 by omega) (lcE r_46_5_w (sh_S0 (w := w) (by omega)))) 0 rfl rfl 1 (by decide) k229 (fun _ h9 => h9) rfl dX8_book_27 ?_
      refine lv_iload_n hx hb dX8_book_30 rfl (lv_at hl 3 rfl) ?_
      have r_46_5_w_2 : M (46 + 5 * w + 2) = M (46 + 5 * w + 2) := hex (46 + 5 * w + 2) 
      refine z_iald hx hb hK (hb1 hW (show 46 + 5 * w + 2 < 126 by omega) (lcE r_46_5_w_2 (sh_S2 (w := w) (by omega)))) 0 0 rfl rfl (by decide) (d) (by omega) (by omega) dX8_book_31 ?_
      refine z_top (y := zI (τ)) (hτ) ?_
      refine lv_iload hx hb dX8_book_32 (lv_at hl 0 rfl) ?_
      refine z_icmp_eq (tgt := 39) hx hb dX8_book_34 (by decide) (by omega) (by omega) (fun h34 => ?_) (fun h34 => ?_)
      · refine lv_aload_n hx hb dX8_book_39 rfl (lv_at hl 1 rfl) ?_
        refine va_get (D := g.1) (ci := 8) (v := .ref ((ad 5))) (C := RX8) (T := TX8) (N := 7) hx hb hts hinX8 hown hK (hb1 hW (show 0 < 126 by omega) (lcE r_0 sh_0)) 0 rfl rfl 2 (by decide) k37 (fun _ h9 => h9) rfl dX8_book_40 ?_
        refine lv_iload_n hx hb dX8_book_43 rfl (lv_at hl 2 rfl) ?_
        refine z_aald hx hb hK (hb1 hW (show 5 < 126 by omega) (lcE r_5 sh_5)) 0 4 rfl rfl rfl (by decide) (w) (by omega) (by omega) rfl dX8_book_44 ?_
        refine lv_astore (lv' := [(5, .ref ((ad (46 + 5 * w)))), (4, .int (zI ((-2)))), (0, .ref ((ad 0))), (1, .int (zI ((w : Int)))), (2, .int (zI ((d : Int)))), (3, .int (zI (f)))]) hx hb dX8_book_45 hl (by decide) rfl (fun ls hl => ?_)
        refine lv_iload_n hx hb dX8_book_47 rfl (lv_at hl 5 rfl) ?_
        refine z_if_eq (tgt := 68) hx hb dX8_book_48 (by decide) (by omega) (fun h48 => ?_) (fun h48 => ?_)
        · refine lv_aload_n hx hb dX8_book_68 rfl (lv_at hl 2 rfl) ?_
          refine lv_iload_n hx hb dX8_book_69 rfl (lv_at hl 3 rfl) ?_
          refine lv_iload_n hx hb dX8_book_70 rfl (lv_at hl 4 rfl) ?_
          refine lv_iload_n hx hb dX8_book_71 rfl (lv_at hl 5 rfl) ?_
          refine z_if_eq (tgt := 80) hx hb dX8_book_72 (by decide) (by omega) (fun h72 => ?_) (fun h72 => ?_)
          · refine lv_iconst (v := zI (0)) hx hb dX8_book_80 (by decide) ?_
            refine va_callv (va_runV (As := [.int (zI ((w : Int))), .int (zI ((d : Int))), .int (zI (0))]) (rest := []) ⟨hx, hb, hml, hown, hts⟩ (c_X8_tell l g (ad) (hd9) (P) (M) (nx) (k) (hnx) (hn6) (hk10) (hk6) (w) (d) (by omega) (by omega) (0)) (cwV 3 hts gX8_book_X8_tell rfl rfl rfl (by decide +kernel) ⟨Nat.le_of_ble_eq_true rfl, Nat.le_of_ble_eq_true rfl⟩) (g_preV hW hK (va_recv hK (hb1 hW (show 0 < 126 by omega) (lcE r_0 sh_0)) (q0 := 0) (ci := 8) rfl rfl)) rfl rfl hl.1 rfl (lv_room (Nat.le_of_ble_eq_true rfl)) dX8_book_81 ⟨Nat.le_of_ble_eq_true rfl, Nat.le_of_ble_eq_true rfl⟩) hS (fun q _ h => h) (fun q h => h) (fun u0 t9 H1 locs ht9 hvm9 hw9 hB9 hz9 hk9 hS => ?_)
            rw [ht9] at hB9
            clear hz9 hk9 hvm9 ht9
            generalize H1 = H at hB9 hS ⊢
            have hW := hB9
            clear hB9
            have hW : cw g ad P (va_up (va_up (va_up (va_up (va_up (va_up (va_up M (66 + 6 * nx) (upd (upd (upd (upd (upd (upd (M (66 + 6 * nx)) 0 (M 0 0)) 1 (zI ((-1)))) 1 (zI (w))) 2 (zI (d))) 3 (M (46 + 5 * w + 1) d)) 4 (M (46 + 5 * w + 2) d))) (66 + 6 * nx + (2 + 0)) (M (46 + 5 * 0 + 4))) (66 + 6 * nx + (2 + 1)) (M (46 + 5 * 1 + 4))) (66 + 6 * nx + (2 + 2)) (M (46 + 5 * 2 + 4))) (66 + 6 * nx + (2 + 3)) (M (46 + 5 * 3 + 4))) (6) (upd (upd (M 6) 0 (zI ((((nx + 1) % 10 : Nat)) : Int))) 1 (zI (((min (k + 1) 10 : Nat)) : Int)))) (46 + 5 * w + 2) (upd (M (46 + 5 * w + 2)) d (zI (0)))) H := hW
            obtain ⟨M2, hM2⟩ : ∃ x9c : Nat → Nat → Int32, x9c = va_up (va_up (va_up (va_up (va_up (va_up (va_up M (66 + 6 * nx) (upd (upd (upd (upd (upd (upd (M (66 + 6 * nx)) 0 (M 0 0)) 1 (zI ((-1)))) 1 (zI (w))) 2 (zI (d))) 3 (M (46 + 5 * w + 1) d)) 4 (M (46 + 5 * w + 2) d))) (66 + 6 * nx + (2 + 0)) (M (46 + 5 * 0 + 4))) (66 + 6 * nx + (2 + 1)) (M (46 + 5 * 1 + 4))) (66 + 6 * nx + (2 + 2)) (M (46 + 5 * 2 + 4))) (66 + 6 * nx + (2 + 3)) (M (46 + 5 * 3 + 4))) (6) (upd (upd (M 6) 0 (zI ((((nx + 1) % 10 : Nat)) : Int))) 1 (zI (((min (k + 1) 10 : Nat)) : Int)))) (46 + 5 * w + 2) (upd (M (46 + 5 * w + 2)) d (zI (0))) := ⟨_, rfl⟩
            have hW : cw g ad P M2 H := by rw [hM2]; exact hW
            have hex : ∀ j : Nat, ¬ j = 66 + 6 * nx → ¬ j = 66 + 6 * nx + (2 + 0) → ¬ j = 66 + 6 * nx + (2 + 1) → ¬ j = 66 + 6 * nx + (2 + 2) → ¬ j = 66 + 6 * nx + (2 + 3) → ¬ j = 6 → ¬ j = 46 + 5 * w + 2 → M2 j = M j := fun j q0 q1 q2 q3 q4 q5 q6 => ((congrFun hM2 j).trans ((up_ne _ _ q6).trans ((up_ne _ _ q5).trans ((up_ne _ _ q4).trans ((up_ne _ _ q3).trans ((up_ne _ _ q2).trans ((up_ne _ _ q1).trans (up_ne _ _ q0)))))))).trans (hex j )
            have r_0 : M2 (0) = M 0 := ((congrFun hM2 (0)).trans ((up_ne _ _ (by omega)).trans ((up_ne _ _ (by omega)).trans ((up_ne _ _ (by omega)).trans ((up_ne _ _ (by omega)).trans ((up_ne _ _ (by omega)).trans ((up_ne _ _ (by omega)).trans (up_ne _ _ (by omega))))))))).trans r_0
            have r_5 : M2 (5) = M 5 := ((congrFun hM2 (5)).trans ((up_ne _ _ (by omega)).trans ((up_ne _ _ (by omega)).trans ((up_ne _ _ (by omega)).trans ((up_ne _ _ (by omega)).trans ((up_ne _ _ (by omega)).trans ((up_ne _ _ (by omega)).trans (up_ne _ _ (by omega))))))))).trans r_5
            have r_46_5_w : M2 (46 + 5 * w) = M (46 + 5 * w) := ((congrFun hM2 (46 + 5 * w)).trans ((up_ne _ _ (by omega)).trans ((up_ne _ _ (by omega)).trans ((up_ne _ _ (by omega)).trans ((up_ne _ _ (by omega)).trans ((up_ne _ _ (by omega)).trans ((up_ne _ _ (by omega)).trans (up_ne _ _ (by omega))))))))).trans r_46_5_w
            have r_66_6_nx : M2 (66 + 6 * nx) = upd (upd (upd (upd (upd (upd (M (66 + 6 * nx)) 0 (M 0 0)) 1 (zI ((-1)))) 1 (zI (w))) 2 (zI (d))) 3 (M (46 + 5 * w + 1) d)) 4 (M (46 + 5 * w + 2) d) := ((congrFun hM2 _).trans ((up_ne _ _ (by omega)).trans ((up_ne _ _ (by omega)).trans ((up_ne _ _ (by omega)).trans ((up_ne _ _ (by omega)).trans ((up_ne _ _ (by omega)).trans ((up_ne _ _ (by omega)).trans (up_at _ _ _))))))))
            have r_66_6_nx_2_0 : M2 (66 + 6 * nx + (2 + 0)) = M (46 + 5 * 0 + 4) := ((congrFun hM2 _).trans ((up_ne _ _ (by omega)).trans ((up_ne _ _ (by omega)).trans ((up_ne _ _ (by omega)).trans ((up_ne _ _ (by omega)).trans ((up_ne _ _ (by omega)).trans (up_at _ _ _)))))))
            have r_66_6_nx_2_1 : M2 (66 + 6 * nx + (2 + 1)) = M (46 + 5 * 1 + 4) := ((congrFun hM2 _).trans ((up_ne _ _ (by omega)).trans ((up_ne _ _ (by omega)).trans ((up_ne _ _ (by omega)).trans ((up_ne _ _ (by omega)).trans (up_at _ _ _))))))
            have r_66_6_nx_2_2 : M2 (66 + 6 * nx + (2 + 2)) = M (46 + 5 * 2 + 4) := ((congrFun hM2 _).trans ((up_ne _ _ (by omega)).trans ((up_ne _ _ (by omega)).trans ((up_ne _ _ (by omega)).trans (up_at _ _ _)))))
            have r_66_6_nx_2_3 : M2 (66 + 6 * nx + (2 + 3)) = M (46 + 5 * 3 + 4) := ((congrFun hM2 _).trans ((up_ne _ _ (by omega)).trans ((up_ne _ _ (by omega)).trans (up_at _ _ _))))
            have r_6 : M2 (6) = upd (upd (M 6) 0 (zI ((((nx + 1) % 10 : Nat)) : Int))) 1 (zI (((min (k + 1) 10 : Nat)) : Int)) := ((congrFun hM2 _).trans ((up_ne _ _ (by omega)).trans (up_at _ _ _)))
            have r_46_5_w_2 : M2 (46 + 5 * w + 2) = upd (M (46 + 5 * w + 2)) d (zI (0)) := ((congrFun hM2 _).trans (up_at _ _ _))
            have hB2 : ¬ bookC2 N (w : Int) (d : Int) f := by first | (intro q9; omega) | (intro q9; have q8 := q9.2; simp only [Int.toNat_natCast] at q8; omega)
            have hI2 : INV P M2 (bookN N w d f) (snS sn N k) (min (k + 1) 10) := INV_day (w := w) (d := d) (x := chg N w (d)) (y := 0) (u := (2 * f).toNat) hI hnx hn6 (by omega) (by omega) (by omega) (by omega) r_6 r_66_6_nx r_66_6_nx_2_0 r_66_6_nx_2_1 r_66_6_nx_2_2 r_66_6_nx_2_3 (fun j q1 q2 q3 q4 q5 => hex j (by omega) (by omega) (by omega) (by omega) (by omega) (by omega) (by omega)) (fun e _ => congrFun (hex _ (by omega) (by omega) (by omega) (by omega) (by omega) (by omega) (by omega)) e) (fun e he => by rw [r_46_5_w_2]; exact upd_ne _ he _) (hN.chg (by omega) (by omega)) (by omega) (by omega) (okN_day hN (by omega) (by omega) (hN.chg (by omega) (by omega)) (by omega) (by omega) (by omega)) (upd_at _ _ _) (fun j q1 q2 => upd_ne _ q1 _) ((congrFun (hex _ (by omega) (by omega) (by omega) (by omega) (by omega) (by omega) (by omega)) _).trans (hg.2.2.1 _ (by omega))) (fun gd2 hg2 => ⟨(-2 * f), (congrFun r_46_5_w_2 _).trans ((upd_at _ _ _).trans (congrArg zI (by omega))), by have hg3 := hg2.2.2.2.2.2.2.2.2.2.1; omega⟩) (fun gd2 hg2 q9 hq9 => (congrFun (hex _ (by omega) (by omega) (by omega) (by omega) (by omega) (by omega) (by omega)) _).trans ((hg2.2.2.2.2.2.1 q9 hq9).trans (upd_ne _ (by omega) _).symm)) (congrFun (hex _ (by omega) (by omega) (by omega) (by omega) (by omega) (by omega) (by omega)) 7) (congrFun (hex _ (by omega) (by omega) (by omega) (by omega) (by omega) (by omega) (by omega)) 8)
            obtain ⟨-, hc2, -, -, -⟩ := id hI2
            obtain ⟨hN2, -, -, hRu2, hSh2, -, -⟩ := id hc2
            obtain ⟨gd2, hg2⟩ := hSh2 w (by omega) (by rw [mn_cg (show bookN N w d f 57 = N 57 from upd_ne _ (by omega) _)]; omega)
            refine lv_aload hx hb dX8_book_84 (lv_at hl 0 rfl) ?_
            refine vp_callSi (va_Run.run (va_runV (As := []) (rest := []) ⟨hx, hb, hml, hown, hts⟩ (c_X3_leaveLeft l g ((ad (46 + 5 * w))) (w) ((bookN N w d f)) (hN2) (by omega)) (cwV 0 hts gX8_book_X3_leaveLeft rfl rfl rfl (by decide +kernel) ⟨Nat.le_of_ble_eq_true rfl, Nat.le_of_ble_eq_true rfl⟩) (g_preV ((cw_rdS hW (w := w) (gd := gd2) (by omega) (hP9.s (by omega)) hg2 (by rw [hP9.2 w (by omega)]; exact hRu2))) hK (rdS_recv hK (cw_rdS hW (w := w) (gd := gd2) (by omega) (hP9.s (by omega)) hg2 (by rw [hP9.2 w (by omega)]; exact hRu2)))) rfl rfl hl.1 rfl (lv_room (Nat.le_of_ble_eq_true rfl)) dX8_book_86 ⟨Nat.le_of_ble_eq_true rfl, Nat.le_of_ble_eq_true rfl⟩)) (fun r hr9 => ?_)
            subst hr9
            exact W.iret hx hb hr (fun tX htX hWX => ⟨⟨_, M2, rfl, ⟨congrArg zI (by unfold bookR; rw [if_pos ⟨h18.1, h18.2, by simp only [Int.toNat_natCast]; omega, by simp only [Int.toNat_natCast]; omega⟩, if_neg hB2]; rfl), actQ_yes ⟨⟨h18.1, h18.2, by simp only [Int.toNat_natCast]; omega, by simp only [Int.toNat_natCast]; omega⟩, hB2⟩ hI2 (fun i h1 h2 => hex i (by omega) (by omega) (by omega) (by omega) (by omega) (by omega) (by omega))⟩, g_at htX hW⟩, hS.F htX⟩) hS.2.2 dX8_book_89
          · exfalso; omega
        · exfalso; omega
      · refine lv_iconst (v := zI (-1)) hx hb dX8_book_37 (by decide) ?_
        exact W.iret hx hb hr (fun tX htX hWX => ⟨⟨_, M, rfl, ⟨congrArg zI (by unfold bookR; rw [if_neg (by first | exact fun q9 => h18 ⟨q9.1, q9.2.1⟩ | (intro q9; have q8 := q9.2.2.1; have q7 := q9.2.2.2; simp only [Int.toNat_natCast] at q7 q8; omega))]), actQ_no hI (by first | exact fun q9 => h18 ⟨q9.1.1, q9.1.2.1⟩ | (intro q9; have q8 := q9.1.2.2.1; have q7 := q9.1.2.2.2; simp only [Int.toNat_natCast] at q7 q8; omega))⟩, g_at htX hW⟩, hS.F htX⟩) hS.2.2 dX8_book_38
  · refine lv_iconst (v := zI (0)) hx hb dX8_book_4 (by decide) ?_
    refine lv_goto (tgt := 10) hx hb dX8_book_5 (by decide) ?_
    refine lv_istore (lv' := [(4, .int (zI (0))), (0, .ref ((ad 0))), (1, .int (zI (v))), (2, .int (zI (dd))), (3, .int (zI (f)))]) hx hb dX8_book_10 hl (by decide) rfl (fun ls hl => ?_)
    refine lv_aload_n hx hb dX8_book_12 rfl (lv_at hl 1 rfl) ?_
    refine lv_iload_n hx hb dX8_book_13 rfl (lv_at hl 2 rfl) ?_
    refine lv_iload_n hx hb dX8_book_14 rfl (lv_at hl 3 rfl) ?_
    refine vp_callSi (va_Run.run (va_runV (As := [.int (zI (v)), .int (zI (dd))]) (rest := []) ⟨hx, hb, hml, hown, hts⟩ (c_X8_isOpen l g ((ad 0)) (N) (hN) ((M 6 1)) ((M 1 0)) (v) (dd) (hv) (hdd)) (cwV 2 hts gX8_book_X8_isOpen rfl rfl rfl (by decide +kernel) ⟨Nat.le_of_ble_eq_true rfl, Nat.le_of_ble_eq_true rfl⟩) (g_preV (cw_rdH hW hP9 hSh hRu ht9) hK (va_recv hK (hb1 hW (show 0 < 126 by omega) (lcE rfl sh_0)) (q0 := 0) (ci := 8) rfl rfl)) rfl rfl hl.1 rfl (lv_room (Nat.le_of_ble_eq_true rfl)) dX8_book_15 ⟨Nat.le_of_ble_eq_true rfl, Nat.le_of_ble_eq_true rfl⟩)) (fun r hr9 => ?_)
    subst hr9
    refine z_bz_eq (tgt := 37) hx hb dX8_book_18 (by decide) (fun h18 => ?_) (fun h18 => ?_)
    · refine lv_iconst (v := zI (-1)) hx hb dX8_book_37 (by decide) ?_
      exact W.iret hx hb hr (fun tX htX hWX => ⟨⟨_, M, rfl, ⟨congrArg zI (by unfold bookR; rw [if_neg (by first | exact fun q9 => h18 ⟨q9.1, q9.2.1⟩ | (intro q9; have q8 := q9.2.2.1; have q7 := q9.2.2.2; simp only [Int.toNat_natCast] at q7 q8; omega))]), actQ_no hI (by first | exact fun q9 => h18 ⟨q9.1.1, q9.1.2.1⟩ | (intro q9; have q8 := q9.1.2.2.1; have q7 := q9.1.2.2.2; simp only [Int.toNat_natCast] at q7 q8; omega))⟩, g_at htX hW⟩, hS.F htX⟩) hS.2.2 dX8_book_38
    · obtain ⟨w, rfl⟩ := Int.eq_ofNat_of_zero_le h18.1.1.1
      obtain ⟨d, rfl⟩ := Int.eq_ofNat_of_zero_le (show 0 ≤ dd by omega)
      have hgo : goneN N w = 0 := h18.1.2
      obtain ⟨gd, hg⟩ := hSh w (by omega) (by omega)
      have hg0 := hg.2.2.2.2.2.2.2.2.2.1
      obtain ⟨τ, hτ, hτ2⟩ := hg.2.2.2.1 (d) (by omega)
      have hkk := hN.knd (w := w) (d := d) (by omega) (by omega)
      have hkw := hN.wkd (w := w) (d := d) (by omega) (by omega)
      unfold tlOK at hτ2
      refine lv_aload_n hx hb dX8_book_21 rfl (lv_at hl 1 rfl) ?_
      have r_0 : M (0) = M 0 := hex (0) 
      refine va_get (D := g.1) (ci := 8) (v := .ref ((ad 5))) (C := RX8) (T := TX8) (N := 7) hx hb hts hinX8 hown hK (hb1 hW (show 0 < 126 by omega) (lcE r_0 sh_0)) 0 rfl rfl 2 (by decide) k37 (fun _ h9 => h9) rfl dX8_book_22 ?_
      refine lv_iload_n hx hb dX8_book_25 rfl (lv_at hl 2 rfl) ?_
      have r_5 : M (5) = M 5 := hex (5) 
      refine z_aald hx hb hK (hb1 hW (show 5 < 126 by omega) (lcE r_5 sh_5)) 0 4 rfl rfl rfl (by decide) (w) (by omega) (by omega) rfl dX8_book_26 ?_
      have r_46_5_w : M (46 + 5 * w) = M (46 + 5 * w) := hex (46 + 5 * w) 
      refine va_get (D := g.1) (ci := 3) (v := .ref ((ad (46 + 5 * w + 2)))) (C := RX3) (T := TX3) (N := 7) hx hb hts hinX3 hown hK (hb1 hW (show 46 + 5 * w < 126 by omega) (lcE r_46_5_w (sh_S0 (w := w) (by omega)))) 0 rfl rfl 1 (by decide) k229 (fun _ h9 => h9) rfl dX8_book_27 ?_
      refine lv_iload_n hx hb dX8_book_30 rfl (lv_at hl 3 rfl) ?_
      have r_46_5_w_2 : M (46 + 5 * w + 2) = M (46 + 5 * w + 2) := hex (46 + 5 * w + 2) 
      refine z_iald hx hb hK (hb1 hW (show 46 + 5 * w + 2 < 126 by omega) (lcE r_46_5_w_2 (sh_S2 (w := w) (by omega)))) 0 0 rfl rfl (by decide) (d) (by omega) (by omega) dX8_book_31 ?_
      refine z_top (y := zI (τ)) (hτ) ?_
      refine lv_iload hx hb dX8_book_32 (lv_at hl 0 rfl) ?_
      refine z_icmp_eq (tgt := 39) hx hb dX8_book_34 (by decide) (by omega) (by omega) (fun h34 => ?_) (fun h34 => ?_)
      · refine lv_aload_n hx hb dX8_book_39 rfl (lv_at hl 1 rfl) ?_
        refine va_get (D := g.1) (ci := 8) (v := .ref ((ad 5))) (C := RX8) (T := TX8) (N := 7) hx hb hts hinX8 hown hK (hb1 hW (show 0 < 126 by omega) (lcE r_0 sh_0)) 0 rfl rfl 2 (by decide) k37 (fun _ h9 => h9) rfl dX8_book_40 ?_
        refine lv_iload_n hx hb dX8_book_43 rfl (lv_at hl 2 rfl) ?_
        refine z_aald hx hb hK (hb1 hW (show 5 < 126 by omega) (lcE r_5 sh_5)) 0 4 rfl rfl rfl (by decide) (w) (by omega) (by omega) rfl dX8_book_44 ?_
        refine lv_astore (lv' := [(5, .ref ((ad (46 + 5 * w)))), (4, .int (zI (0))), (0, .ref ((ad 0))), (1, .int (zI ((w : Int)))), (2, .int (zI ((d : Int)))), (3, .int (zI (f)))]) hx hb dX8_book_45 hl (by decide) rfl (fun ls hl => ?_)
        refine lv_iload_n hx hb dX8_book_47 rfl (lv_at hl 5 rfl) ?_
        refine z_if_eq (tgt := 68) hx hb dX8_book_48 (by decide) (by omega) (fun h48 => ?_) (fun h48 => ?_)
        · exfalso; omega
        · refine lv_aload hx hb dX8_book_51 (lv_at hl 0 rfl) ?_
          refine vp_callSi (va_Run.run (va_runV (As := []) (rest := []) ⟨hx, hb, hml, hown, hts⟩ (c_X3_leaveLeft l g ((ad (46 + 5 * w))) (w) (N) (hN) (by omega)) (cwV 0 hts gX8_book_X3_leaveLeft rfl rfl rfl (by decide +kernel) ⟨Nat.le_of_ble_eq_true rfl, Nat.le_of_ble_eq_true rfl⟩) (g_preV ((cw_rdS hW (w := w) (gd := gd) (by omega) (hP9.s (by omega)) hg (by rw [hP9.2 w (by omega)]; exact hRu))) hK (rdS_recv hK (cw_rdS hW (w := w) (gd := gd) (by omega) (hP9.s (by omega)) hg (by rw [hP9.2 w (by omega)]; exact hRu)))) rfl rfl hl.1 rfl (lv_room (Nat.le_of_ble_eq_true rfl)) dX8_book_53 ⟨Nat.le_of_ble_eq_true rfl, Nat.le_of_ble_eq_true rfl⟩)) (fun r hr9 => ?_)
          subst hr9
          have hl9 : -100000 ≤ lft N w ∧ lft N w ≤ 100000 := lft_b hN (by omega)
          have hp9 := plan_le hN (w := w) (d := d) (by omega) (by omega)
          refine lv_aload hx hb dX8_book_56 (lv_at hl 0 rfl) ?_
          refine lv_iload_n hx hb dX8_book_58 rfl (lv_at hl 4 rfl) ?_
          refine vp_callSi (va_Run.run (va_runV (As := [.int (zI ((d : Int)))]) (rest := [.int (zI (lft N w))]) ⟨hx, hb, hml, hown, hts⟩ (c_X3_planOn l g ((ad (46 + 5 * w))) (w) (N) (hN) (by omega) (d) (by omega)) (cwV 1 hts gX8_book_X3_planOn rfl rfl rfl (by decide +kernel) ⟨Nat.le_of_ble_eq_true rfl, Nat.le_of_ble_eq_true rfl⟩) (g_preV ((cw_rdS hW (w := w) (gd := gd) (by omega) (hP9.s (by omega)) hg (by rw [hP9.2 w (by omega)]; exact hRu))) hK (rdS_recv hK (cw_rdS hW (w := w) (gd := gd) (by omega) (hP9.s (by omega)) hg (by rw [hP9.2 w (by omega)]; exact hRu)))) rfl rfl hl.1 rfl (lv_room (Nat.le_of_ble_eq_true rfl)) dX8_book_59 ⟨Nat.le_of_ble_eq_true rfl, Nat.le_of_ble_eq_true rfl⟩)) (fun r hr9 => ?_)
          subst hr9
          refine z_icmp_ge (tgt := 68) hx hb dX8_book_62 (by decide) (by omega) (by omega) (fun h62 => ?_) (fun h62 => ?_)
          · refine lv_aload_n hx hb dX8_book_68 rfl (lv_at hl 2 rfl) ?_
            refine lv_iload_n hx hb dX8_book_69 rfl (lv_at hl 3 rfl) ?_
            refine lv_iload_n hx hb dX8_book_70 rfl (lv_at hl 4 rfl) ?_
            refine lv_iload_n hx hb dX8_book_71 rfl (lv_at hl 5 rfl) ?_
            refine z_if_eq (tgt := 80) hx hb dX8_book_72 (by decide) (by omega) (fun h72 => ?_) (fun h72 => ?_)
            · exfalso; omega
            · refine lv_bipush (v := zI (-2)) hx hb dX8_book_75 (by decide) ?_
              refine lv_goto (tgt := 81) hx hb dX8_book_77 (by decide) ?_
              refine va_callv (va_runV (As := [.int (zI ((w : Int))), .int (zI ((d : Int))), .int (zI ((-2)))]) (rest := []) ⟨hx, hb, hml, hown, hts⟩ (c_X8_tell l g (ad) (hd9) (P) (M) (nx) (k) (hnx) (hn6) (hk10) (hk6) (w) (d) (by omega) (by omega) ((-2))) (cwV 3 hts gX8_book_X8_tell rfl rfl rfl (by decide +kernel) ⟨Nat.le_of_ble_eq_true rfl, Nat.le_of_ble_eq_true rfl⟩) (g_preV hW hK (va_recv hK (hb1 hW (show 0 < 126 by omega) (lcE r_0 sh_0)) (q0 := 0) (ci := 8) rfl rfl)) rfl rfl hl.1 rfl (lv_room (Nat.le_of_ble_eq_true rfl)) dX8_book_81 ⟨Nat.le_of_ble_eq_true rfl, Nat.le_of_ble_eq_true rfl⟩) hS (fun q _ h => h) (fun q h => h) (fun u2 t9 H1 locs ht9 hvm9 hw9 hB9 hz9 hk9 hS => ?_)
              rw [ht9] at hB9
              clear hz9 hk9 hvm9 ht9
              generalize H1 = H at hB9 hS ⊢
              have hW := hB9
              clear hB9
              have hW : cw g ad P (va_up (va_up (va_up (va_up (va_up (va_up (va_up M (66 + 6 * nx) (upd (upd (upd (upd (upd (upd (M (66 + 6 * nx)) 0 (M 0 0)) 1 (zI ((-1)))) 1 (zI (w))) 2 (zI (d))) 3 (M (46 + 5 * w + 1) d)) 4 (M (46 + 5 * w + 2) d))) (66 + 6 * nx + (2 + 0)) (M (46 + 5 * 0 + 4))) (66 + 6 * nx + (2 + 1)) (M (46 + 5 * 1 + 4))) (66 + 6 * nx + (2 + 2)) (M (46 + 5 * 2 + 4))) (66 + 6 * nx + (2 + 3)) (M (46 + 5 * 3 + 4))) (6) (upd (upd (M 6) 0 (zI ((((nx + 1) % 10 : Nat)) : Int))) 1 (zI (((min (k + 1) 10 : Nat)) : Int)))) (46 + 5 * w + 2) (upd (M (46 + 5 * w + 2)) d (zI ((-2))))) H := hW
              obtain ⟨M4, hM4⟩ : ∃ x9c : Nat → Nat → Int32, x9c = va_up (va_up (va_up (va_up (va_up (va_up (va_up M (66 + 6 * nx) (upd (upd (upd (upd (upd (upd (M (66 + 6 * nx)) 0 (M 0 0)) 1 (zI ((-1)))) 1 (zI (w))) 2 (zI (d))) 3 (M (46 + 5 * w + 1) d)) 4 (M (46 + 5 * w + 2) d))) (66 + 6 * nx + (2 + 0)) (M (46 + 5 * 0 + 4))) (66 + 6 * nx + (2 + 1)) (M (46 + 5 * 1 + 4))) (66 + 6 * nx + (2 + 2)) (M (46 + 5 * 2 + 4))) (66 + 6 * nx + (2 + 3)) (M (46 + 5 * 3 + 4))) (6) (upd (upd (M 6) 0 (zI ((((nx + 1) % 10 : Nat)) : Int))) 1 (zI (((min (k + 1) 10 : Nat)) : Int)))) (46 + 5 * w + 2) (upd (M (46 + 5 * w + 2)) d (zI ((-2)))) := ⟨_, rfl⟩
              have hW : cw g ad P M4 H := by rw [hM4]; exact hW
              have hex : ∀ j : Nat, ¬ j = 66 + 6 * nx → ¬ j = 66 + 6 * nx + (2 + 0) → ¬ j = 66 + 6 * nx + (2 + 1) → ¬ j = 66 + 6 * nx + (2 + 2) → ¬ j = 66 + 6 * nx + (2 + 3) → ¬ j = 6 → ¬ j = 46 + 5 * w + 2 → M4 j = M j := fun j q0 q1 q2 q3 q4 q5 q6 => ((congrFun hM4 j).trans ((up_ne _ _ q6).trans ((up_ne _ _ q5).trans ((up_ne _ _ q4).trans ((up_ne _ _ q3).trans ((up_ne _ _ q2).trans ((up_ne _ _ q1).trans (up_ne _ _ q0)))))))).trans (hex j )
              have r_0 : M4 (0) = M 0 := ((congrFun hM4 (0)).trans ((up_ne _ _ (by omega)).trans ((up_ne _ _ (by omega)).trans ((up_ne _ _ (by omega)).trans ((up_ne _ _ (by omega)).trans ((up_ne _ _ (by omega)).trans ((up_ne _ _ (by omega)).trans (up_ne _ _ (by omega))))))))).trans r_0
              have r_5 : M4 (5) = M 5 := ((congrFun hM4 (5)).trans ((up_ne _ _ (by omega)).trans ((up_ne _ _ (by omega)).trans ((up_ne _ _ (by omega)).trans ((up_ne _ _ (by omega)).trans ((up_ne _ _ (by omega)).trans ((up_ne _ _ (by omega)).trans (up_ne _ _ (by omega))))))))).trans r_5
              have r_46_5_w : M4 (46 + 5 * w) = M (46 + 5 * w) := ((congrFun hM4 (46 + 5 * w)).trans ((up_ne _ _ (by omega)).trans ((up_ne _ _ (by omega)).trans ((up_ne _ _ (by omega)).trans ((up_ne _ _ (by omega)).trans ((up_ne _ _ (by omega)).trans ((up_ne _ _ (by omega)).trans (up_ne _ _ (by omega))))))))).trans r_46_5_w
              have r_66_6_nx : M4 (66 + 6 * nx) = upd (upd (upd (upd (upd (upd (M (66 + 6 * nx)) 0 (M 0 0)) 1 (zI ((-1)))) 1 (zI (w))) 2 (zI (d))) 3 (M (46 + 5 * w + 1) d)) 4 (M (46 + 5 * w + 2) d) := ((congrFun hM4 _).trans ((up_ne _ _ (by omega)).trans ((up_ne _ _ (by omega)).trans ((up_ne _ _ (by omega)).trans ((up_ne _ _ (by omega)).trans ((up_ne _ _ (by omega)).trans ((up_ne _ _ (by omega)).trans (up_at _ _ _))))))))
              have r_66_6_nx_2_0 : M4 (66 + 6 * nx + (2 + 0)) = M (46 + 5 * 0 + 4) := ((congrFun hM4 _).trans ((up_ne _ _ (by omega)).trans ((up_ne _ _ (by omega)).trans ((up_ne _ _ (by omega)).trans ((up_ne _ _ (by omega)).trans ((up_ne _ _ (by omega)).trans (up_at _ _ _)))))))
              have r_66_6_nx_2_1 : M4 (66 + 6 * nx + (2 + 1)) = M (46 + 5 * 1 + 4) := ((congrFun hM4 _).trans ((up_ne _ _ (by omega)).trans ((up_ne _ _ (by omega)).trans ((up_ne _ _ (by omega)).trans ((up_ne _ _ (by omega)).trans (up_at _ _ _))))))
              have r_66_6_nx_2_2 : M4 (66 + 6 * nx + (2 + 2)) = M (46 + 5 * 2 + 4) := ((congrFun hM4 _).trans ((up_ne _ _ (by omega)).trans ((up_ne _ _ (by omega)).trans ((up_ne _ _ (by omega)).trans (up_at _ _ _)))))
              have r_66_6_nx_2_3 : M4 (66 + 6 * nx + (2 + 3)) = M (46 + 5 * 3 + 4) := ((congrFun hM4 _).trans ((up_ne _ _ (by omega)).trans ((up_ne _ _ (by omega)).trans (up_at _ _ _))))
              have r_6 : M4 (6) = upd (upd (M 6) 0 (zI ((((nx + 1) % 10 : Nat)) : Int))) 1 (zI (((min (k + 1) 10 : Nat)) : Int)) := ((congrFun hM4 _).trans ((up_ne _ _ (by omega)).trans (up_at _ _ _)))
              have r_46_5_w_2 : M4 (46 + 5 * w + 2) = upd (M (46 + 5 * w + 2)) d (zI ((-2))) := ((congrFun hM4 _).trans (up_at _ _ _))
              have hB2 : ¬ bookC2 N (w : Int) (d : Int) f := by first | (intro q9; omega) | (intro q9; have q8 := q9.2; simp only [Int.toNat_natCast] at q8; omega)
              have hI2 : INV P M4 (bookN N w d f) (snS sn N k) (min (k + 1) 10) := INV_day (w := w) (d := d) (x := chg N w (d)) (y := 0) (u := (2 * f).toNat) hI hnx hn6 (by omega) (by omega) (by omega) (by omega) r_6 r_66_6_nx r_66_6_nx_2_0 r_66_6_nx_2_1 r_66_6_nx_2_2 r_66_6_nx_2_3 (fun j q1 q2 q3 q4 q5 => hex j (by omega) (by omega) (by omega) (by omega) (by omega) (by omega) (by omega)) (fun e _ => congrFun (hex _ (by omega) (by omega) (by omega) (by omega) (by omega) (by omega) (by omega)) e) (fun e he => by rw [r_46_5_w_2]; exact upd_ne _ he _) (hN.chg (by omega) (by omega)) (by omega) (by omega) (okN_day hN (by omega) (by omega) (hN.chg (by omega) (by omega)) (by omega) (by omega) (by omega)) (upd_at _ _ _) (fun j q1 q2 => upd_ne _ q1 _) ((congrFun (hex _ (by omega) (by omega) (by omega) (by omega) (by omega) (by omega) (by omega)) _).trans (hg.2.2.1 _ (by omega))) (fun gd2 hg2 => ⟨(-2 * f), (congrFun r_46_5_w_2 _).trans ((upd_at _ _ _).trans (congrArg zI (by omega))), by have hg3 := hg2.2.2.2.2.2.2.2.2.2.1; omega⟩) (fun gd2 hg2 q9 hq9 => (congrFun (hex _ (by omega) (by omega) (by omega) (by omega) (by omega) (by omega) (by omega)) _).trans ((hg2.2.2.2.2.2.1 q9 hq9).trans (upd_ne _ (by omega) _).symm)) (congrFun (hex _ (by omega) (by omega) (by omega) (by omega) (by omega) (by omega) (by omega)) 7) (congrFun (hex _ (by omega) (by omega) (by omega) (by omega) (by omega) (by omega) (by omega)) 8)
              obtain ⟨-, hc2, -, -, -⟩ := id hI2
              obtain ⟨hN2, -, -, hRu2, hSh2, -, -⟩ := id hc2
              obtain ⟨gd2, hg2⟩ := hSh2 w (by omega) (by rw [mn_cg (show bookN N w d f 57 = N 57 from upd_ne _ (by omega) _)]; omega)
              refine lv_aload hx hb dX8_book_84 (lv_at hl 0 rfl) ?_
              refine vp_callSi (va_Run.run (va_runV (As := []) (rest := []) ⟨hx, hb, hml, hown, hts⟩ (c_X3_leaveLeft l g ((ad (46 + 5 * w))) (w) ((bookN N w d f)) (hN2) (by omega)) (cwV 0 hts gX8_book_X3_leaveLeft rfl rfl rfl (by decide +kernel) ⟨Nat.le_of_ble_eq_true rfl, Nat.le_of_ble_eq_true rfl⟩) (g_preV ((cw_rdS hW (w := w) (gd := gd2) (by omega) (hP9.s (by omega)) hg2 (by rw [hP9.2 w (by omega)]; exact hRu2))) hK (rdS_recv hK (cw_rdS hW (w := w) (gd := gd2) (by omega) (hP9.s (by omega)) hg2 (by rw [hP9.2 w (by omega)]; exact hRu2)))) rfl rfl hl.1 rfl (lv_room (Nat.le_of_ble_eq_true rfl)) dX8_book_86 ⟨Nat.le_of_ble_eq_true rfl, Nat.le_of_ble_eq_true rfl⟩)) (fun r hr9 => ?_)
              subst hr9
              exact W.iret hx hb hr (fun tX htX hWX => ⟨⟨_, M4, rfl, ⟨congrArg zI (by unfold bookR; rw [if_pos ⟨h18.1, h18.2, by simp only [Int.toNat_natCast]; omega, by simp only [Int.toNat_natCast]; omega⟩, if_neg hB2]; rfl), actQ_yes ⟨⟨h18.1, h18.2, by simp only [Int.toNat_natCast]; omega, by simp only [Int.toNat_natCast]; omega⟩, hB2⟩ hI2 (fun i h1 h2 => hex i (by omega) (by omega) (by omega) (by omega) (by omega) (by omega) (by omega))⟩, g_at htX hW⟩, hS.F htX⟩) hS.2.2 dX8_book_89
          · refine lv_bipush (v := zI (-2)) hx hb dX8_book_65 (by decide) ?_
            exact W.iret hx hb hr (fun tX htX hWX => ⟨⟨_, M, rfl, ⟨congrArg zI (by unfold bookR; rw [if_pos ⟨h18.1, h18.2, by simp only [Int.toNat_natCast]; omega, by simp only [Int.toNat_natCast]; omega⟩, if_pos ⟨by omega, by simp only [Int.toNat_natCast]; omega⟩]), actQ_no hI (fun q9 => q9.2 ⟨by omega, by simp only [Int.toNat_natCast]; omega⟩)⟩, g_at htX hW⟩, hS.F htX⟩) hS.2.2 dX8_book_67
      · refine lv_iconst (v := zI (-1)) hx hb dX8_book_37 (by decide) ?_
        exact W.iret hx hb hr (fun tX htX hWX => ⟨⟨_, M, rfl, ⟨congrArg zI (by unfold bookR; rw [if_neg (by first | exact fun q9 => h18 ⟨q9.1, q9.2.1⟩ | (intro q9; have q8 := q9.2.2.1; have q7 := q9.2.2.2; simp only [Int.toNat_natCast] at q7 q8; omega))]), actQ_no hI (by first | exact fun q9 => h18 ⟨q9.1.1, q9.1.2.1⟩ | (intro q9; have q8 := q9.1.2.2.1; have q7 := q9.1.2.2.2; simp only [Int.toNat_natCast] at q7 q8; omega))⟩, g_at htX hW⟩, hS.F htX⟩) hS.2.2 dX8_book_38
