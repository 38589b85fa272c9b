set_option maxHeartbeats 4000000 in
set_option maxRecDepth 100000 in
theorem c_X8_endDay (l : Launch) (g : GG) (ad : Nat → Nat) (hd9 : hD ad) (P : Nat → Nat) (M : Nat → Nat → Int32) (N sn : Nat → Int32) (k : Nat) (hI : INV P M N sn k)  : Met l yX8_endDay wsX8_endDay ({ frames := 6, cells := 0, slots := 0, locals := 129 }) (gPc g [.ref ((ad 0))] (cw g ad P M)) (va_Qi (fun (r : Int32) (u : Nat → Nat → Int32) => r = zI (if ¬ mn N 110 = 364 then ((edC N (mn N 57) : Nat) : Int) else -1) ∧ actQ P M u (actN (¬ mn N 110 = 364) N (endN N)) (actS (¬ mn N 110 = 364) sn N k) (actK (¬ mn N 110 = 364) k)) (fun (u : Nat → Nat → Int32) (tS : State) => cw g ad P u tS.heap) (hbA ad)) 0 0 (hbA ad) := by
  refine Met.ofW (cc := cX8_endDay) (maxL := 3) (ret := (some .int)) (by decide) rfl ?_
  intro p e s m args below meth c s₁ B hml hv
  obtain ⟨rfl, hW, hK⟩ := hv
  have hx := B.exec
  have hb := B.bytes
  have hr := B.returns
  have hts := atoms_spec (ws := wsX8_endDay) B.pre
  have hown : s.vm.findClass RX8 = some m.cls := findClass_of_methodNamed B.named
  have hlocks := B.notSynchronized
  have hinX3 : ∀ w ∈ wsX30, w ∈ wsX8_endDay := by decide +kernel
  have hinX8 : ∀ w ∈ wsX80, w ∈ wsX8_endDay := by decide +kernel
  have k51 := hts (.fieldLink RX8 51 "HoursBank" "today" "I") (by decide +kernel)
  have k47 := hts (.fieldLink RX8 47 "HoursBank" "history" "LHoursBank$History;") (by decide +kernel)
  have k37 := hts (.fieldLink RX8 37 "HoursBank" "sheets" "[LHoursBank$Sheet;") (by decide +kernel)
  have k28 := hts (.fieldLink RX8 28 "HoursBank" "rules" "LHoursBank$Rules;") (by decide +kernel)
  have k112 := hts (.fieldLink RX8 112 "HoursBank$Sheet" "account" "LHoursBank$Account;") (by decide +kernel)
  have hl := lv_entry ([.ref ((ad 0))]) (n := 3) (Nat.le_of_ble_eq_true rfl)
  rw [lg_entry_eq]
  generalize (lg_sl ([.ref ((ad 0))]) ++ List.replicate (3 - (lg_sl ([.ref ((ad 0))])).length) Slot.unset).toArray = ls at hl ⊢
  have hl : lv_has ls 3 [(0, .ref ((ad 0)))] := hl
  have hS : va_S (hbA ad) s.heap s.heap [] := va_S.rf
  obtain ⟨H, hH9⟩ : ∃ H, H = s.heap := ⟨_, rfl⟩
  obtain ⟨locs, hL9⟩ : ∃ x9l : List Loc, x9l = [] := ⟨_, rfl⟩
  have hW : cw g ad P M H := hH9 ▸ hW
  have hS : va_S (hbA ad) s.heap H locs := by rw [hH9, hL9]; exact hS
  refine z_start hH9 hL9 ?_
  clear hH9 hL9
  have hex : ∀ j : Nat, M j = M j := fun _ => rfl
  obtain ⟨hP9, hc9, hk10, hk6, nx, hnx, hn6, hch9⟩ := id hI
  obtain ⟨hN, hZt, hst9, hRu, hSh, ht9, hfl9⟩ := id hc9
  have hq57 := hN.nw.le
  have hqtd := hN.td.le
  refine lv_aload_n hx hb dX8_endDay_0 rfl (lv_at hl 0 rfl) ?_
  have r_0 : M (0) = M 0 := hex (0) 
  refine va_get (D := g.1) (ci := 8) (v := .int ((M 0) 0)) (C := RX8) (T := TX8) (N := 7) hx hb hts hinX8 hown hK (hb1 hW (show 0 < 126 by omega) (lcE r_0 sh_0)) 0 rfl rfl 6 (by decide) k51 (fun _ h9 => h9) rfl dX8_endDay_1 ?_
  refine z_top (y := zI (mn N 110)) (ht9.trans hN.td.eq) ?_
  refine vp_callSi (va_Run.run (va_runS (As := [.int (zI (mn N 110))]) (rest := []) ⟨hx, hb, hml, hown, hts⟩ (c_X8_isDay l ((mn N 110 : Int)) (by omega)) (va_cwS 1 hts gX8_endDay_X8_isDay rfl rfl rfl (by decide +kernel) ⟨Nat.le_of_ble_eq_true rfl, Nat.le_of_ble_eq_true rfl⟩) g_preS0 rfl rfl hl.1 rfl (lv_room (Nat.le_of_ble_eq_true rfl)) dX8_endDay_4 ⟨Nat.le_of_ble_eq_true rfl, Nat.le_of_ble_eq_true rfl⟩)) (fun r hr9 => ?_)
  subst hr9
  refine z_bz_ne (tgt := 12) hx hb dX8_endDay_7 (by decide) (fun h7 => ?_) (fun h7 => ?_)
  · have htd : mn N 110 < 364 := by omega
    refine lv_aload_n hx hb dX8_endDay_12 rfl (lv_at hl 0 rfl) ?_
    refine va_get (D := g.1) (ci := 8) (v := .ref ((ad 6))) (C := RX8) (T := TX8) (N := 7) hx hb hts hinX8 hown hK (hb1 hW (show 0 < 126 by omega) (lcE r_0 sh_0)) 0 rfl rfl 3 (by decide) k47 (fun _ h9 => h9) rfl dX8_endDay_13 ?_
    refine lv_aload_n hx hb dX8_endDay_16 rfl (lv_at hl 0 rfl) ?_
    refine va_get (D := g.1) (ci := 8) (v := .int ((M 0) 0)) (C := RX8) (T := TX8) (N := 7) hx hb hts hinX8 hown hK (hb1 hW (show 0 < 126 by omega) (lcE r_0 sh_0)) 0 rfl rfl 6 (by decide) k51 (fun _ h9 => h9) rfl dX8_endDay_17 ?_
    refine lv_aload_n hx hb dX8_endDay_20 rfl (lv_at hl 0 rfl) ?_
    refine va_get (D := g.1) (ci := 8) (v := .ref ((ad 5))) (C := RX8) (T := TX8) (N := 7) hx hb hts hinX8 hown hK (hb1 hW (show 0 < 126 by omega) (lcE r_0 sh_0)) 0 rfl rfl 2 (by decide) k37 (fun _ h9 => h9) rfl dX8_endDay_21 ?_
    have r_6 : M (6) = M 6 := hex (6) 
    refine va_callr (va_runV (As := [.int ((M 0) 0), .ref ((ad 5))]) (rest := []) ⟨hx, hb, hml, hown, hts⟩ (c_X1_remember l g (ad) (hd9) (P) (M) (M 0 0) (nx) (k) (hnx) (hn6) (hk10) (hk6)) (cwV 2 hts gX8_endDay_X1_remember rfl rfl rfl (by decide +kernel) ⟨Nat.le_of_ble_eq_true rfl, Nat.le_of_ble_eq_true rfl⟩) (g_preV hW hK (va_recv hK (hb1 hW (show 6 < 126 by omega) (lcE r_6 sh_6)) (q0 := 0) (ci := 1) rfl rfl)) rfl rfl hl.1 rfl (lv_room (Nat.le_of_ble_eq_true rfl)) dX8_endDay_24 ⟨Nat.le_of_ble_eq_true rfl, Nat.le_of_ble_eq_true rfl⟩) hS (fun q _ h => h) (fun q h => h) (fun u0 a9 t9 H1 locs ht9 hvm9 hw9 hB9 hz9 hk9 hS => ?_)
    rw [ht9] at hB9
    clear hz9 hk9 hvm9 ht9
    generalize H1 = H at hB9 hS ⊢
    obtain ⟨rfl, hW⟩ := hB9
    have hW := hW
    have hW : cw g ad P (va_up (va_up (va_up (va_up (va_up (va_up M (66 + 6 * nx) (upd (upd (M (66 + 6 * nx)) 0 ((M 0 0))) 1 (zI ((-1))))) (66 + 6 * nx + (2 + 0)) (M (46 + 5 * 0 + 4))) (66 + 6 * nx + (2 + 1)) (M (46 + 5 * 1 + 4))) (66 + 6 * nx + (2 + 2)) (M (46 + 5 * 2 + 4))) (66 + 6 * nx + (2 + 3)) (M (46 + 5 * 3 + 4))) (6) (upd (upd (M 6) 0 (zI ((((nx + 1) % 10 : Nat)) : Int))) 1 (zI (((min (k + 1) 10 : Nat)) : Int)))) H := hW
    obtain ⟨M2, hM2⟩ : ∃ x9c : Nat → Nat → Int32, x9c = va_up (va_up (va_up (va_up (va_up (va_up M (66 + 6 * nx) (upd (upd (M (66 + 6 * nx)) 0 ((M 0 0))) 1 (zI ((-1))))) (66 + 6 * nx + (2 + 0)) (M (46 + 5 * 0 + 4))) (66 + 6 * nx + (2 + 1)) (M (46 + 5 * 1 + 4))) (66 + 6 * nx + (2 + 2)) (M (46 + 5 * 2 + 4))) (66 + 6 * nx + (2 + 3)) (M (46 + 5 * 3 + 4))) (6) (upd (upd (M 6) 0 (zI ((((nx + 1) % 10 : Nat)) : Int))) 1 (zI (((min (k + 1) 10 : Nat)) : Int))) := ⟨_, rfl⟩
    have hW : cw g ad P M2 H := by rw [hM2]; exact hW
    have hex : ∀ j : Nat, ¬ j = 66 + 6 * nx → ¬ j = 66 + 6 * nx + (2 + 0) → ¬ j = 66 + 6 * nx + (2 + 1) → ¬ j = 66 + 6 * nx + (2 + 2) → ¬ j = 66 + 6 * nx + (2 + 3) → ¬ j = 6 → M2 j = M j := fun j q0 q1 q2 q3 q4 q5 => ((congrFun hM2 j).trans ((up_ne _ _ q5).trans ((up_ne _ _ q4).trans ((up_ne _ _ q3).trans ((up_ne _ _ q2).trans ((up_ne _ _ q1).trans (up_ne _ _ q0))))))).trans (hex j )
    have r_0 : M2 (0) = M 0 := ((congrFun hM2 (0)).trans ((up_ne _ _ (by omega)).trans ((up_ne _ _ (by omega)).trans ((up_ne _ _ (by omega)).trans ((up_ne _ _ (by omega)).trans ((up_ne _ _ (by omega)).trans (up_ne _ _ (by omega)))))))).trans r_0
    have r_66_6_nx : M2 (66 + 6 * nx) = upd (upd (M (66 + 6 * nx)) 0 ((M 0 0))) 1 (zI ((-1))) := ((congrFun hM2 _).trans ((up_ne _ _ (by omega)).trans ((up_ne _ _ (by omega)).trans ((up_ne _ _ (by omega)).trans ((up_ne _ _ (by omega)).trans ((up_ne _ _ (by omega)).trans (up_at _ _ _)))))))
    have r_66_6_nx_2_0 : M2 (66 + 6 * nx + (2 + 0)) = M (46 + 5 * 0 + 4) := ((congrFun hM2 _).trans ((up_ne _ _ (by omega)).trans ((up_ne _ _ (by omega)).trans ((up_ne _ _ (by omega)).trans ((up_ne _ _ (by omega)).trans (up_at _ _ _))))))
    have r_66_6_nx_2_1 : M2 (66 + 6 * nx + (2 + 1)) = M (46 + 5 * 1 + 4) := ((congrFun hM2 _).trans ((up_ne _ _ (by omega)).trans ((up_ne _ _ (by omega)).trans ((up_ne _ _ (by omega)).trans (up_at _ _ _)))))
    have r_66_6_nx_2_2 : M2 (66 + 6 * nx + (2 + 2)) = M (46 + 5 * 2 + 4) := ((congrFun hM2 _).trans ((up_ne _ _ (by omega)).trans ((up_ne _ _ (by omega)).trans (up_at _ _ _))))
    have r_66_6_nx_2_3 : M2 (66 + 6 * nx + (2 + 3)) = M (46 + 5 * 3 + 4) := ((congrFun hM2 _).trans ((up_ne _ _ (by omega)).trans (up_at _ _ _)))
    have r_6 : M2 (6) = upd (upd (M 6) 0 (zI ((((nx + 1) % 10 : Nat)) : Int))) 1 (zI (((min (k + 1) 10 : Nat)) : Int)) := ((congrFun hM2 _).trans (up_at _ _ _))
    refine lv_pop hx hb dX8_endDay_27 rfl ?_
    refine lv_iconst (v := zI (0)) hx hb dX8_endDay_28 (by decide) ?_
    refine lv_istore_n (lv' := [(1, .int (zI (0))), (0, .ref ((ad 0)))]) hx hb dX8_endDay_29 rfl hl (by decide) rfl (fun ls hl => ?_)
    have k6 := r_6
    have k66 := r_66_6_nx
    have kc0 := r_66_6_nx_2_0
    have kc1 := r_66_6_nx_2_1
    have kc2 := r_66_6_nx_2_2
    have kc3 := r_66_6_nx_2_3
    have hM1o : ∀ j, j ≠ 6 → ¬ (66 + 6 * nx ≤ j ∧ j < 66 + 6 * nx + 6 ∧ j ≠ 66 + 6 * nx + 1) → M2 j = M j := fun j q1 q2 => hex j (by omega) (by omega) (by omega) (by omega) (by omega) (by omega)
    refine lv_iconst (v := zI (0)) hx hb dX8_endDay_30 (by decide) ?_
    refine lv_istore_n (lv' := [(2, .int (zI (0))), (1, .int (zI (0))), (0, .ref ((ad 0)))]) hx hb dX8_endDay_31 rfl hl (by decide) rfl (fun ls hl => ?_)
    have loop32 : ∀ (K9 : Nat) (A : Nat → Nat → Int32) (i : Nat) (hK9 : mn N 57 - i < K9) (hi : i ≤ mn N 57) (hE : edI N M2 A i) (H : Heap) (locs : List Loc) (hW : cw g ad P A H) (hS : va_S (hbA ad) s.heap H locs) (ls : Array Slot) (hl : lv_has ls 3 [(2, .int (zI (((i : Nat) : Int)))), (1, .int (zI (edC N i))), (0, .ref ((ad 0)))]), W p l e (headSpec wsX8_endDay ({ frames := 6, cells := 0, slots := 0, locals := 129 })).room s m ([.ref ((ad 0))] : List Value).toArray below meth c H locs 0 0 (MQ below (va_Qi (fun (r : Int32) (u : Nat → Nat → Int32) => r = zI (if ¬ mn N 110 = 364 then ((edC N (mn N 57) : Nat) : Int) else -1) ∧ actQ P M u (actN (¬ mn N 110 = 364) N (endN N)) (actS (¬ mn N 110 = 364) sn N k) (actK (¬ mn N 110 = 364) k)) (fun (u : Nat → Nat → Int32) (tS : State) => cw g ad P u tS.heap) (hbA ad)) ([.ref ((ad 0))] : List Value).toArray s 0 0 (hbA ad)) (F0 m 32 ls []) := by
      intro K9
      induction K9 with
      | zero => intro A i hK9; exact absurd hK9 (Nat.not_lt_zero _)
      | succ K9 ih =>
        intro A i hK9 hi hE H locs hW hS ls hl
        have hex : ∀ j : Nat, A j = A j := fun _ => rfl
        have hRuA : RuR N (fun k => A (P 0 + 1 + k)) := RuR_cg hRu (fun k hk => (hE.1 _ (by have := hP9.r; omega)).trans (hM1o _ (by have := hP9.r; omega) (by have := hP9.r; omega))) hN.ns.le hN.nn.le hN.nw.le
        have hA00 : A 0 0 = zI (mn N 110) := (congrFun (hE.1 0 (by omega)) 0).trans ((congrFun (hM1o 0 (by omega) (by omega)) 0).trans (ht9.trans hN.td.eq))
        refine lv_iload_n hx hb dX8_endDay_32 rfl (lv_at hl 0 rfl) ?_
        refine lv_aload_n hx hb dX8_endDay_33 rfl (lv_at hl 2 rfl) ?_
        have r_0 : A (0) = A 0 := hex (0) 
        refine va_get (D := g.1) (ci := 8) (v := .ref ((ad (P 0)))) (C := RX8) (T := TX8) (N := 7) hx hb hts hinX8 hown hK (hb1 hW (show 0 < 126 by omega) (lcE r_0 sh_0)) 0 rfl rfl 4 (by decide) k28 (fun _ h9 => h9) rfl dX8_endDay_34 ?_
        refine vp_callSi (va_Run.run (va_runV (As := []) (rest := [.int (zI (((i : Nat) : Int)))]) ⟨hx, hb, hml, hown, hts⟩ (c_X2_workers l g ((ad (P 0))) (N) (hN)) (cwV 0 hts gX8_endDay_X2_workers rfl rfl rfl (by decide +kernel) ⟨Nat.le_of_ble_eq_true rfl, Nat.le_of_ble_eq_true rfl⟩) (g_preV (cw_rdR hW hP9.r hRuA) hK (rdR_recv hK (cw_rdR hW hP9.r hRuA))) rfl rfl hl.1 rfl (lv_room (Nat.le_of_ble_eq_true rfl)) dX8_endDay_37 ⟨Nat.le_of_ble_eq_true rfl, Nat.le_of_ble_eq_true rfl⟩)) (fun r hr9 => ?_)
        subst hr9
        refine z_icmp_ge (tgt := 83) hx hb dX8_endDay_40 (by decide) (by omega) (by omega) (fun h40 => ?_) (fun h40 => ?_)
        · refine lv_aload_n hx hb dX8_endDay_83 rfl (lv_at hl 2 rfl) ?_
          refine lv_dup hx hb dX8_endDay_84 rfl ?_
          refine va_get (D := g.1) (ci := 8) (v := .int ((A 0) 0)) (C := RX8) (T := TX8) (N := 7) hx hb hts hinX8 hown hK (hb1 hW (show 0 < 126 by omega) (lcE r_0 sh_0)) 0 rfl rfl 6 (by decide) k51 (fun _ h9 => h9) rfl dX8_endDay_85 ?_
          refine z_top (y := zI (mn N 110)) (hA00) ?_
          refine lv_iconst (v := zI (1)) hx hb dX8_endDay_88 (by decide) ?_
          refine z_iadd hx hb dX8_endDay_89 ?_
          refine y_put (ci := 8) (v := .int (zI ((mn N 110) + 1))) (ty := .int) (C := RX8) (T := TX8) (N := 7) hx hb hts hinX8 tyX8 tyX8_ok nmX8 hown hK hW hd9 hS (0) (show 0 < 126 by omega) (lcE r_0 sh_0) rfl 6 (by decide) k51 (fun _ h9 => h9) rfl (by decide +kernel) rfl rfl (Nat.le_of_ble_eq_true rfl) dX8_endDay_90 (fun H locs hW hS => ?_)
          have hW := cw_up (P := P) (M := A) (f := upd (A 0) 0 (zI ((mn N 110) + 1))) ((sh_0).trans rfl) hW
          obtain ⟨M3, hM3⟩ : ∃ x9c : Nat → Nat → Int32, x9c = va_up A (0) (upd (A 0) 0 (zI ((mn N 110) + 1))) := ⟨_, rfl⟩
          have hW : cw g ad P M3 H := by rw [hM3]; exact hW
          have hex : ∀ j : Nat, ¬ j = 0 → M3 j = A j := fun j q0 => ((congrFun hM3 j).trans (up_ne _ _ q0)).trans (hex j )
          have r_0 : M3 (0) = upd (A 0) 0 (zI ((mn N 110) + 1)) := ((congrFun hM3 _).trans (up_at _ _ _))
          refine lv_iload_n hx hb dX8_endDay_93 rfl (lv_at hl 1 rfl) ?_
          have hE2 : edI N M2 A (mn N 57) := (show i = mn N 57 by omega) ▸ hE
          exact W.iret hx hb hr (fun tX htX hWX => ⟨⟨_, M3, rfl, ⟨congrArg zI (by rw [if_pos (by omega), show i = mn N 57 by omega]), actQ_yes (by omega) (INV_end (M := M) (R := M2) (A := A) hI hnx hn6 htd k6 k66 kc0 kc1 kc2 kc3 hM1o hE2 (by rw [r_0]; exact congrArg zI (by omega)) (fun j hj => hex j hj)) (fun i h1 h2 => (hex i (by omega)).trans ((hE.1 i (by omega)).trans (hM1o i (by omega) (by omega))))⟩, g_at htX hW⟩, hS.F htX⟩) hS.2.2 dX8_endDay_94
        · obtain ⟨gd, hg⟩ := hE.2.1 i (by omega) (by omega)
          have hNi := okN_ed hN htd i (by omega)
          have e110i : mn (edN N i) 110 = mn N 110 := ed_mn (by omega) (by omega)
          have hg8 := hg.2.2.2.2.2.2.2.1
          have hgd := hg.2.2.2.2.2.2.2.2.1
          have hg0 := hg.2.2.2.2.2.2.2.2.2.1
          have hg1 := hg.2.2.2.2.2.2.2.2.2.2
          have hgn : goneN (edN N i) i ≤ 1 := (hNi.gone (by omega)).le
          have hfz9 : flg (edN N i) i (mn (edN N i) 110) = 0 := by
            have a1 := hg.2.2.2.2.1 (mn N 110) htd
            have a2 : A (46 + 5 * i + 3) (mn N 110) = zI 0 := by
              rw [hE.2.2.2 i (Nat.le_refl _) (by omega), hM1o _ (by omega) (by omega)]; exact hfl9 i (by omega) _ (Nat.le_refl _) htd
            have a3 := hNi.flg (w := i) (d := mn N 110) (by omega) htd
            rw [e110i]; exact (zIn_eq (by omega) (by omega)).mp (a1.symm.trans a2)
          refine lv_aload_n hx hb dX8_endDay_43 rfl (lv_at hl 2 rfl) ?_
          refine va_get (D := g.1) (ci := 8) (v := .ref ((ad 5))) (C := RX8) (T := TX8) (N := 7) hx hb hts hinX8 hown hK (hb1 hW (show 0 < 126 by omega) (lcE r_0 sh_0)) 0 rfl rfl 2 (by decide) k37 (fun _ h9 => h9) rfl dX8_endDay_44 ?_
          refine lv_iload_n hx hb dX8_endDay_47 rfl (lv_at hl 0 rfl) ?_
          have r_5 : A (5) = A 5 := hex (5) 
          refine z_aald hx hb hK (hb1 hW (show 5 < 126 by omega) (lcE r_5 sh_5)) 0 4 rfl rfl rfl (by decide) (i) (by omega) (by omega) rfl dX8_endDay_48 ?_
          have r_46_5_i : A (46 + 5 * i) = A (46 + 5 * i) := hex (46 + 5 * i) 
          refine va_get (D := g.1) (ci := 3) (v := .ref ((ad (46 + 5 * i + 4)))) (C := RX3) (T := TX3) (N := 7) hx hb hts hinX3 hown hK (hb1 hW (show 46 + 5 * i < 126 by omega) (lcE r_46_5_i (sh_S0 (w := i) (by omega)))) 0 rfl rfl 3 (by decide) k112 (fun _ h9 => h9) rfl dX8_endDay_49 ?_
          refine vp_callSi (va_Run.run (va_runV (As := []) (rest := []) ⟨hx, hb, hml, hown, hts⟩ (c_X0_isGone l g ((ad (46 + 5 * i + 4))) ((A (46 + 5 * i + 4))) (gd) (hg8) (hgd)) (cwV 0 hts gX8_endDay_X0_isGone rfl rfl rfl (by decide +kernel) ⟨Nat.le_of_ble_eq_true rfl, Nat.le_of_ble_eq_true rfl⟩) (g_preV ((hb1 hW (show 46 + 5 * i + 4 < 126 by omega) (lcE rfl (sh_S4 (w := i) (by omega))))) hK (va_recv hK (hb1 hW (show 46 + 5 * i + 4 < 126 by omega) (lcE rfl (sh_S4 (w := i) (by omega)))) (q0 := 0) (ci := 0) rfl rfl)) rfl rfl hl.1 rfl (lv_room (Nat.le_of_ble_eq_true rfl)) dX8_endDay_52 ⟨Nat.le_of_ble_eq_true rfl, Nat.le_of_ble_eq_true rfl⟩)) (fun r hr9 => ?_)
          subst hr9
          refine z_bz_ne (tgt := 77) hx hb dX8_endDay_55 (by decide) (fun h55 => ?_) (fun h55 => ?_)
          · have hgo9 : ¬ goneN (edN N i) i = 0 := by omega
            refine z_iinc (lv' := [(2, .int (zI (((i : Nat) : Int) + 1))), (1, .int (zI (edC N i))), (0, .ref ((ad 0)))]) hx hb dX8_endDay_77 hl (k := 0) rfl (by decide) rfl (fun ls hl => ?_)
            refine lv_goto (tgt := 32) hx hb dX8_endDay_80 (by decide) ?_
            have hl := lv_sub (l' := [(2, .int (zI (((i : Nat) : Int) + 1))), (1, .int (zI (edC N i))), (0, .ref ((ad 0)))]) hl [0, 1, 2] rfl
            have hl : lv_has ls 3 [(2, .int (zI ((((i + 1) : Nat) : Int)))), (1, .int (zI (edC N (i + 1)))), (0, .ref ((ad 0)))] := lv_cg (lvE (congrArg zI (by omega)) (lvE (congrArg zI (by have e8 : edC N (i + 1) = edC N i + (if goneN (edN N i) i = 0 ∧ flgC (edN N i) i then 1 else 0) := rfl; first | (rw [if_pos ⟨hgo9, h71⟩] at e8; omega) | (rw [if_neg (fun q9 => h71 q9.2)] at e8; omega) | (rw [if_neg (fun q9 => hgo9 q9.1)] at e8; omega))) (lvR (rfl)))) hl
            exact ih A (i + 1) (by omega) (by omega) (edI_g hE hgo9) H locs hW hS ls hl
          · have hgo9 : goneN (edN N i) i = 0 := by omega
            refine lv_aload_n hx hb dX8_endDay_58 rfl (lv_at hl 2 rfl) ?_
            refine va_get (D := g.1) (ci := 8) (v := .ref ((ad 5))) (C := RX8) (T := TX8) (N := 7) hx hb hts hinX8 hown hK (hb1 hW (show 0 < 126 by omega) (lcE r_0 sh_0)) 0 rfl rfl 2 (by decide) k37 (fun _ h9 => h9) rfl dX8_endDay_59 ?_
            refine lv_iload_n hx hb dX8_endDay_62 rfl (lv_at hl 0 rfl) ?_
            refine z_aald hx hb hK (hb1 hW (show 5 < 126 by omega) (lcE r_5 sh_5)) 0 4 rfl rfl rfl (by decide) (i) (by omega) (by omega) rfl dX8_endDay_63 ?_
            refine lv_aload_n hx hb dX8_endDay_64 rfl (lv_at hl 2 rfl) ?_
            refine va_get (D := g.1) (ci := 8) (v := .int ((A 0) 0)) (C := RX8) (T := TX8) (N := 7) hx hb hts hinX8 hown hK (hb1 hW (show 0 < 126 by omega) (lcE r_0 sh_0)) 0 rfl rfl 6 (by decide) k51 (fun _ h9 => h9) rfl dX8_endDay_65 ?_
            refine z_top (y := zI (mn (edN N i) 110)) (hA00.trans (by rw [e110i])) ?_
            refine va_calli (va_runV (As := [.int (zI (mn (edN N i) 110))]) (rest := []) ⟨hx, hb, hml, hown, hts⟩ (c_X3_closeDay l g (ad) (hd9) (P) (A) (i) (by omega) ((edN N i)) (hNi) (hP9.s (by omega)) (by rw [hP9.2 i (by omega)]; exact ed_ru hN hRuA (by omega)) (gd) (hg) (by omega) (hfz9)) (cwV 1 hts gX8_endDay_X3_closeDay rfl rfl rfl (by decide +kernel) ⟨Nat.le_of_ble_eq_true rfl, Nat.le_of_ble_eq_true rfl⟩) (g_preV hW hK (va_recv hK (hb1 hW (show 46 + 5 * i < 126 by omega) (lcE r_46_5_i (sh_S0 (w := i) (by omega)))) (q0 := 0) (ci := 3) rfl rfl)) rfl rfl hl.1 rfl (lv_room (Nat.le_of_ble_eq_true rfl)) dX8_endDay_68 ⟨Nat.le_of_ble_eq_true rfl, Nat.le_of_ble_eq_true rfl⟩) hS (fun q _ h => h) (fun q h => h) (fun r u3 t9 H1 locs ht9 hvm9 hw9 hB9 hz9 hk9 hS => ?_)
            rw [ht9] at hB9
            clear hz9 hk9 hvm9 ht9
            generalize H1 = H at hB9 hS ⊢
            have hW := hB9
            clear hB9
            have hW : cw g ad P u3 H := hW
            obtain ⟨hr9, hpo9⟩ := hw9
            subst hr9
            
            have hex : ∀ j : Nat, u3 j = u3 j := fun _ => rfl
            refine z_bz_eq (tgt := 77) hx hb dX8_endDay_71 (by decide) (fun h71 => ?_) (fun h71 => ?_)
            · refine z_iinc (lv' := [(2, .int (zI (((i : Nat) : Int) + 1))), (1, .int (zI (edC N i))), (0, .ref ((ad 0)))]) hx hb dX8_endDay_77 hl (k := 0) rfl (by decide) rfl (fun ls hl => ?_)
              refine lv_goto (tgt := 32) hx hb dX8_endDay_80 (by decide) ?_
              have hl := lv_sub (l' := [(2, .int (zI (((i : Nat) : Int) + 1))), (1, .int (zI (edC N i))), (0, .ref ((ad 0)))]) hl [0, 1, 2] rfl
              have hl : lv_has ls 3 [(2, .int (zI ((((i + 1) : Nat) : Int)))), (1, .int (zI (edC N (i + 1)))), (0, .ref ((ad 0)))] := lv_cg (lvE (congrArg zI (by omega)) (lvE (congrArg zI (by have e8 : edC N (i + 1) = edC N i + (if goneN (edN N i) i = 0 ∧ flgC (edN N i) i then 1 else 0) := rfl; first | (rw [if_pos ⟨hgo9, h71⟩] at e8; omega) | (rw [if_neg (fun q9 => h71 q9.2)] at e8; omega) | (rw [if_neg (fun q9 => hgo9 q9.1)] at e8; omega))) (lvR (rfl)))) hl
              exact ih u3 (i + 1) (by omega) (by omega) (edI_s (by omega) htd hE hgo9 hpo9) H locs hW hS ls hl
            · refine z_iinc (lv' := [(1, .int (zI ((edC N i) + 1))), (2, .int (zI (((i : Nat) : Int)))), (0, .ref ((ad 0)))]) hx hb dX8_endDay_74 hl (k := 1) rfl (by decide) rfl (fun ls hl => ?_)
              refine z_iinc (lv' := [(2, .int (zI (((i : Nat) : Int) + 1))), (1, .int (zI ((edC N i) + 1))), (0, .ref ((ad 0)))]) hx hb dX8_endDay_77 hl (k := 1) rfl (by decide) rfl (fun ls hl => ?_)
              refine lv_goto (tgt := 32) hx hb dX8_endDay_80 (by decide) ?_
              have hl := lv_sub (l' := [(2, .int (zI (((i : Nat) : Int) + 1))), (1, .int (zI ((edC N i) + 1))), (0, .ref ((ad 0)))]) hl [0, 1, 2] rfl
              have hl : lv_has ls 3 [(2, .int (zI ((((i + 1) : Nat) : Int)))), (1, .int (zI (edC N (i + 1)))), (0, .ref ((ad 0)))] := lv_cg (lvE (congrArg zI (by omega)) (lvE (congrArg zI (by have e8 : edC N (i + 1) = edC N i + (if goneN (edN N i) i = 0 ∧ flgC (edN N i) i then 1 else 0) := rfl; first | (rw [if_pos ⟨hgo9, h71⟩] at e8; omega) | (rw [if_neg (fun q9 => h71 q9.2)] at e8; omega) | (rw [if_neg (fun q9 => hgo9 q9.1)] at e8; omega))) (lvR (rfl)))) hl
              exact ih u3 (i + 1) (by omega) (by omega) (edI_s (by omega) htd hE hgo9 hpo9) H locs hW hS ls hl
    have hl := lv_sub (l' := [(2, .int (zI (0))), (1, .int (zI (0))), (0, .ref ((ad 0)))]) hl [0, 1, 2] rfl
    have hl : lv_has ls 3 [(2, .int (zI (((0 : Nat) : Int)))), (1, .int (zI (edC N 0))), (0, .ref ((ad 0)))] := lv_cg (lvE (congrArg zI (rfl)) (lvE (congrArg zI (rfl)) (lvR (rfl)))) hl
    exact loop32 _ M2 (0) (Nat.lt_succ_self _) (Nat.zero_le _) (edI_0 (shsM_cg (fun j q1 q2 => hM1o j (by omega) (by omega)) hSh)) H locs hW hS ls hl
  · refine lv_iconst (v := zI (-1)) hx hb dX8_endDay_10 (by decide) ?_
    exact W.iret hx hb hr (fun tX htX hWX => ⟨⟨_, M, rfl, ⟨congrArg zI (by rw [if_neg (by omega)]), actQ_no hI (by omega)⟩, g_at htX hW⟩, hS.F htX⟩) hS.2.2 dX8_endDay_11

set_option maxHeartbeats 4000000 in
set_option maxRecDepth 100000 in
theorem c_X8_undo (l : Launch) (g : GG) (ad : Nat → Nat) (hd9 : hD ad) (P : Nat → Nat) (M : Nat → Nat → Int32) (kk : KK) (N sn : Nat → Int32) (k : Nat) (hI : INV P M N sn k)  : Met l yX8_undo wsX8_undo ({ frames := 2, cells := 0, slots := 0, locals := 44 }) (gkPc g kk ad [.ref ((ad 0))] (cw g ad P M)) (va_Qi (fun (r : Int32) (u : Nat → Nat → Int32) => r = zI ((k : Int) - 1) ∧ undoQ P M u N sn k) (fun (u : Nat → Nat → Int32) (tS : State) => cw g ad P u tS.heap) (hbA ad)) 0 0 (hbA ad) := by
  refine Met.ofW (cc := cX8_undo) (maxL := 1) (ret := (some .int)) (by decide) rfl ?_
  intro p e s m args below meth c s₁ B hml hv
  obtain ⟨rfl, hW, hK, hC⟩ := hv
  have hx := B.exec
  have hb := B.bytes
  have hr := B.returns
  have hts := atoms_spec (ws := wsX8_undo) B.pre
  have hown : s.vm.findClass RX8 = some m.cls := findClass_of_methodNamed B.named
  have hlocks := B.notSynchronized
  have hinX1 : ∀ w ∈ wsX10, w ∈ wsX8_undo := by decide +kernel
  have hinX8 : ∀ w ∈ wsX80, w ∈ wsX8_undo := by decide +kernel
  have k47 := hts (.fieldLink RX8 47 "HoursBank" "history" "LHoursBank$History;") (by decide +kernel)
  have k72 := hts (.fieldLink RX8 72 "HoursBank$History" "count" "I") (by decide +kernel)
  have k37 := hts (.fieldLink RX8 37 "HoursBank" "sheets" "[LHoursBank$Sheet;") (by decide +kernel)
  have k51 := hts (.fieldLink RX8 51 "HoursBank" "today" "I") (by decide +kernel)
  have hl := lv_entry ([.ref ((ad 0))]) (n := 1) (Nat.le_of_ble_eq_true rfl)
  rw [lg_entry_eq]
  generalize (lg_sl ([.ref ((ad 0))]) ++ List.replicate (1 - (lg_sl ([.ref ((ad 0))])).length) Slot.unset).toArray = ls at hl ⊢
  have hl : lv_has ls 1 [(0, .ref ((ad 0)))] := hl
  have hS : va_S (hbA ad) s.heap s.heap [] := va_S.rf
  obtain ⟨H, hH9⟩ : ∃ H, H = s.heap := ⟨_, rfl⟩
  obtain ⟨locs, hL9⟩ : ∃ x9l : List Loc, x9l = [] := ⟨_, rfl⟩
  have hW : cw g ad P M H := hH9 ▸ hW
  have hS : va_S (hbA ad) s.heap H locs := by rw [hH9, hL9]; exact hS
  refine z_start hH9 hL9 ?_
  clear hH9 hL9
  have hex : ∀ j : Nat, M j = M j := fun _ => rfl
  obtain ⟨hP9, hc9, hk10, hk6, nx, hnx, hn6, hch9⟩ := id hI
  obtain ⟨hN, hZt, hst9, hRu, hSh, ht9, hfl9⟩ := id hc9
  have hq57 := hN.nw.le
  have hqtd := hN.td.le
  refine lv_aload_n hx hb dX8_undo_0 rfl (lv_at hl 0 rfl) ?_
  have r_0 : M (0) = M 0 := hex (0) 
  refine va_get (D := g.1) (ci := 8) (v := .ref ((ad 6))) (C := RX8) (T := TX8) (N := 7) hx hb hts hinX8 hown hK (hb1 hW (show 0 < 126 by omega) (lcE r_0 sh_0)) 0 rfl rfl 3 (by decide) k47 (fun _ h9 => h9) rfl dX8_undo_1 ?_
  have r_6 : M (6) = M 6 := hex (6) 
  refine va_get (D := g.1) (ci := 1) (v := .int ((M 6) 1)) (C := RX1) (T := TX1) (N := 3) hx hb hts hinX1 hown hK (hb1 hW (show 6 < 126 by omega) (lcE r_6 sh_6)) 0 rfl rfl 2 (by decide) k72 (fun _ h9 => h9) rfl dX8_undo_4 ?_
  refine z_top (y := zI (k)) (hk6) ?_
  refine z_if_ne (tgt := 12) hx hb dX8_undo_7 (by decide) (by omega) (fun h7 => ?_) (fun h7 => ?_)
  · obtain ⟨k2, rfl⟩ : ∃ k2, k = k2 + 1 := ⟨k - 1, by omega⟩
    obtain ⟨hsw, hcr, hch2⟩ := id hch9
    have hN3 := hcr.1
    have h03 : M (66 + 6 * ((nx + 9) % 10)) 0 = zI (mn (snp sn k2) 110) := hcr.2.2.2.2.2.1.trans hN3.td.eq
    obtain ⟨w, d, hw, hd, h1⟩ : ∃ w d : Nat, w < 4 ∧ d < 364 ∧ (M (66 + 6 * ((nx + 9) % 10)) 1 = zI (-1) ∨ (M (66 + 6 * ((nx + 9) % 10)) 1 = zI w ∧ M (66 + 6 * ((nx + 9) % 10)) 2 = zI d)) := by
      rcases hsw with h | ⟨w, d, a1, a2, a3, a4⟩
      · exact ⟨0, 0, by omega, by omega, Or.inl h⟩
      · exact ⟨w, d, a1, a2, Or.inr ⟨a3, a4⟩⟩
    refine lv_aload_n hx hb dX8_undo_12 rfl (lv_at hl 0 rfl) ?_
    refine lv_aload_n hx hb dX8_undo_13 rfl (lv_at hl 0 rfl) ?_
    refine va_get (D := g.1) (ci := 8) (v := .ref ((ad 6))) (C := RX8) (T := TX8) (N := 7) hx hb hts hinX8 hown hK (hb1 hW (show 0 < 126 by omega) (lcE r_0 sh_0)) 0 rfl rfl 3 (by decide) k47 (fun _ h9 => h9) rfl dX8_undo_14 ?_
    refine lv_aload_n hx hb dX8_undo_17 rfl (lv_at hl 0 rfl) ?_
    refine va_get (D := g.1) (ci := 8) (v := .ref ((ad 5))) (C := RX8) (T := TX8) (N := 7) hx hb hts hinX8 hown hK (hb1 hW (show 0 < 126 by omega) (lcE r_0 sh_0)) 0 rfl rfl 2 (by decide) k37 (fun _ h9 => h9) rfl dX8_undo_18 ?_
    refine va_calli (va_runV (As := [.ref ((ad 5))]) (rest := [.ref ((ad 0))]) ⟨hx, hb, hml, hown, hts⟩ (c_X1_takeBack l g (ad) (hd9) (P) (M) (kk) (nx) ((k2 + 1)) (((nx + 9) % 10)) (hnx) (rfl) (hn6) (by omega) (hk10) (hk6) ((mn (snp sn k2) 110)) (hN3.td.le) (h03) (w) (d) (hw) (hd) (h1)) (cwV 1 hts gX8_undo_X1_takeBack rfl rfl rfl (by decide +kernel) ⟨Nat.le_of_ble_eq_true rfl, Nat.le_of_ble_eq_true rfl⟩) (gk_preV hW hK hC hS (va_recv hK (hb1 hW (show 6 < 126 by omega) (lcE r_6 sh_6)) (q0 := 0) (ci := 1) rfl rfl)) rfl rfl hl.1 rfl (lv_room (Nat.le_of_ble_eq_true rfl)) dX8_undo_21 ⟨Nat.le_of_ble_eq_true rfl, Nat.le_of_ble_eq_true rfl⟩) hS (fun q _ h => h) (fun q h => h) (fun r u0 t9 H1 locs ht9 hvm9 hw9 hB9 hz9 hk9 hS => ?_)
    rw [ht9] at hB9
    clear hz9 hk9 hvm9 ht9
    generalize H1 = H at hB9 hS ⊢
    have hW := hB9
    clear hB9
    have hW : cw g ad P (tkM M ((nx + 9) % 10) (k2 + 1)) H := hW
    obtain rfl : r = zI ((mn (snp sn k2) 110)) := hw9
    obtain ⟨M2, hM2⟩ : ∃ x9c : Nat → Nat → Int32, x9c = tkM M ((nx + 9) % 10) (k2 + 1) := ⟨_, rfl⟩
    have hW : cw g ad P M2 H := by rw [hM2]; exact hW
    have hex : ∀ j : Nat, M2 j = M2 j := fun _ => rfl
    have r_0 : M2 (0) = M2 0 := hex (0) 
    refine y_put (ci := 8) (v := .int (zI ((mn (snp sn k2) 110)))) (ty := .int) (C := RX8) (T := TX8) (N := 7) hx hb hts hinX8 tyX8 tyX8_ok nmX8 hown hK hW hd9 hS (0) (show 0 < 126 by omega) (lcE r_0 sh_0) rfl 6 (by decide) k51 (fun _ h9 => h9) rfl (by decide +kernel) rfl rfl (Nat.le_of_ble_eq_true rfl) dX8_undo_24 (fun H locs hW hS => ?_)
    have hW := cw_up (P := P) (M := M2) (f := upd (M2 0) 0 (zI ((mn (snp sn k2) 110)))) ((sh_0).trans rfl) hW
    obtain ⟨M3, hM3⟩ : ∃ x9c : Nat → Nat → Int32, x9c = va_up M2 (0) (upd (M2 0) 0 (zI ((mn (snp sn k2) 110)))) := ⟨_, rfl⟩
    have hW : cw g ad P M3 H := by rw [hM3]; exact hW
    have hex : ∀ j : Nat, ¬ j = 0 → M3 j = M2 j := fun j q0 => ((congrFun hM3 j).trans (up_ne _ _ q0)).trans (hex j )
    have r_0 : M3 (0) = upd (M2 0) 0 (zI ((mn (snp sn k2) 110))) := ((congrFun hM3 _).trans (up_at _ _ _))
    refine lv_aload_n hx hb dX8_undo_27 rfl (lv_at hl 0 rfl) ?_
    refine va_get (D := g.1) (ci := 8) (v := .ref ((ad 6))) (C := RX8) (T := TX8) (N := 7) hx hb hts hinX8 hown hK (hb1 hW (show 0 < 126 by omega) (lcE r_0 sh_0)) 0 rfl rfl 3 (by decide) k47 (fun _ h9 => h9) rfl dX8_undo_28 ?_
    have r_6 : M3 (6) = M2 6 := hex (6) (by omega)
    refine va_get (D := g.1) (ci := 1) (v := .int ((M2 6) 1)) (C := RX1) (T := TX1) (N := 3) hx hb hts hinX1 hown hK (hb1 hW (show 6 < 126 by omega) (lcE r_6 sh_6)) 0 rfl rfl 2 (by decide) k72 (fun _ h9 => h9) rfl dX8_undo_31 ?_
    refine z_top (y := zI (k2)) (by rw [hM2]; exact congrArg zI (by omega)) ?_
    exact W.iret hx hb hr (fun tX htX hWX => ⟨⟨_, M3, rfl, ⟨congrArg zI (by omega), ⟨INV_undo hI hnx hn6 (by rw [hM3, hM2, tk_out (by omega) (by omega), h03]), fun i h1 h2 => (hex i (by omega)).trans (by rw [hM2]; exact tk_out (by omega) (by omega))⟩⟩, g_at htX hW⟩, hS.F htX⟩) hS.2.2 dX8_undo_34
  · refine lv_iconst (v := zI (-1)) hx hb dX8_undo_10 (by decide) ?_
    exact W.iret hx hb hr (fun tX htX hWX => ⟨⟨_, M, rfl, ⟨congrArg zI (by omega), undoQ_0 hI (by omega)⟩, g_at htX hW⟩, hS.F htX⟩) hS.2.2 dX8_undo_11
