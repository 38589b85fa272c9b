set_option maxHeartbeats 4000000 in
set_option maxRecDepth 100000 in
theorem c_X6_readNumbers_0 (l : Launch) (g : GG) (ad : Nat → Nat) (hd9 : hD ad) (P : Nat → Nat) (M : Nat → Nat → Int32) (kk : KK) (b : Nat) (hb9 : b = 8 ∨ b = 27) (ct : Nat) (hc : ct < 1) (β : Nat → Nat) (n : Nat) (hn : n ≤ 740) (hz : M 1 0 = zI n) (hβ : ∀ i, i < 740 → M 2 i = zI (sbI (β i)) ∧ β i < 256) (ps : Nat) (hps : ps ≤ n) (hp4 : M 4 0 = zI ps) (hf0 : M 3 0 = zI 0) (at0 : Nat) (rd : Nat → Int32) : Met l yX6_readNumbers wsX6_readNumbers ({ frames := 3, cells := 0, slots := 0, locals := 64 }) (gkPc g kk ad [.ref ((ad 3)), .int (zI (0)), .ref ((ad (b + 1 + (1 + ct))))] (cw g ad P M)) (va_Qv (fun (u : Nat → Nat → Int32) => rnQ n M u (b + 1 + (1 + ct)) at0 4 (numP β n 0 at0 4 ps rd)) (fun (u : Nat → Nat → Int32) (tS : State) => cw g ad P u tS.heap) (hbA ad)) 0 0 (hbA ad) := by
  refine Met.ofW (cc := cX6_readNumbers) (maxL := 4) (ret := none) (by decide) rfl ?_
  intro p e s m args below meth c s₁ B hml hv
  obtain ⟨rfl, hW, hK, hC⟩ := hv
  have hx := B.exec
  have hb := B.bytes
  have hr := B.returns
  have hts := atoms_spec (ws := wsX6_readNumbers) B.pre
  have hown : s.vm.findClass RX6 = some m.cls := findClass_of_methodNamed B.named
  have hlocks := B.notSynchronized
  have hinX6 : ∀ w ∈ wsX60, w ∈ wsX6_readNumbers := by decide +kernel
  have hinX7 : ∀ w ∈ wsX70, w ∈ wsX6_readNumbers := by decide +kernel
  have k32 := hts (.fieldLink RX6 32 "HoursBank$TextReader" "faultKind" "I") (by decide +kernel)
  have k20 := hts (.fieldLink RX6 20 "HoursBank$TextReader" "tokens" "LHoursBank$Tokens;") (by decide +kernel)
  have k44 := hts (.fieldLink RX6 44 "HoursBank$Tokens" "kind" "I") (by decide +kernel)
  have k89 := hts (.fieldLink RX6 89 "HoursBank$Tokens" "number" "I") (by decide +kernel)
  have hl := lv_entry ([.ref ((ad 3)), .int (zI (0)), .ref ((ad (b + 1 + (1 + ct))))]) (n := 4) (Nat.le_of_ble_eq_true rfl)
  rw [lg_entry_eq]
  generalize (lg_sl ([.ref ((ad 3)), .int (zI (0)), .ref ((ad (b + 1 + (1 + ct))))]) ++ List.replicate (4 - (lg_sl ([.ref ((ad 3)), .int (zI (0)), .ref ((ad (b + 1 + (1 + ct))))])).length) Slot.unset).toArray = ls at hl ⊢
  have hl : lv_has ls 4 [(0, .ref ((ad 3))), (1, .int (zI (0))), (2, .ref ((ad (b + 1 + (1 + ct)))))] := hl
  have hS : va_S (hbA ad) s.heap s.heap [] := va_S.rf
  obtain ⟨H, hH9⟩ : ∃ H, H = s.heap := ⟨_, rfl⟩
  obtain ⟨locs, hL9⟩ : ∃ x9l : List Loc, x9l = [] := ⟨_, rfl⟩
  have hW : cw g ad P M H := hH9 ▸ hW
  have hS : va_S (hbA ad) s.heap H locs := by rw [hH9, hL9]; exact hS
  refine z_start hH9 hL9 ?_
  clear hH9 hL9
  have hex : ∀ j : Nat, M j = M j := fun _ => rfl
  refine lv_iconst (v := zI (0)) hx hb dX6_readNumbers_0 (by decide) ?_
  refine lv_istore_n (lv' := [(3, .int (zI (0))), (0, .ref ((ad 3))), (1, .int (zI (0))), (2, .ref ((ad (b + 1 + (1 + ct)))))]) hx hb dX6_readNumbers_1 rfl hl (by decide) rfl (fun ls hl => ?_)
  have loop2 : ∀ (K9 : Nat) (A : Nat → Nat → Int32) (i : Nat) (hK9 : 4 - i < K9) (hi : i ≤ 4) (hE : rnQ n M A (b + 1 + (1 + ct)) at0 i (numP β n 0 at0 i ps rd)) (H : Heap) (locs : List Loc) (hW : cw g ad P A H) (hS : va_S (hbA ad) s.heap H locs) (ls : Array Slot) (hl : lv_has ls 4 [(3, .int (zI (((i : Nat) : Int)))), (0, .ref ((ad 3))), (1, .int (zI (0))), (2, .ref ((ad (b + 1 + (1 + ct)))))]), W p l e (headSpec wsX6_readNumbers ({ frames := 3, cells := 0, slots := 0, locals := 64 })).room s m ([.ref ((ad 3)), .int (zI (0)), .ref ((ad (b + 1 + (1 + ct))))] : List Value).toArray below meth c H locs 0 0 (MQ below (va_Qv (fun (u : Nat → Nat → Int32) => rnQ n M u (b + 1 + (1 + ct)) at0 4 (numP β n 0 at0 4 ps rd)) (fun (u : Nat → Nat → Int32) (tS : State) => cw g ad P u tS.heap) (hbA ad)) ([.ref ((ad 3)), .int (zI (0)), .ref ((ad (b + 1 + (1 + ct))))] : List Value).toArray s 0 0 (hbA ad)) (F0 m 2 ls []) := by
    intro K9
    induction K9 with
    | zero => intro A i hK9; exact absurd hK9 (Nat.not_lt_zero _)
    | succ K9 ih =>
      intro A i hK9 hi hE H locs hW hS ls hl
      have hex : ∀ j : Nat, A j = A j := fun _ => rfl
      refine lv_iload_n hx hb dX6_readNumbers_2 rfl (lv_at hl 0 rfl) ?_
      refine lv_aload_n hx hb dX6_readNumbers_3 rfl (lv_at hl 3 rfl) ?_
      have r_b_1_1_ct : A (b + 1 + (1 + ct)) = A (b + 1 + (1 + ct)) := hex (b + 1 + (1 + ct)) 
      refine va_alen hx hb hK (hb1 hW (show b + 1 + (1 + ct) < 126 by omega) (lcE r_b_1_1_ct (sh_Rw1 (i := ct) hb9 (by omega)))) 0 0 rfl rfl (v := zI 4) (show Int32.ofNat 4 = zI 4 by decide) dX6_readNumbers_4 ?_
      refine z_icmp_ge (tgt := 81) hx hb dX6_readNumbers_5 (by decide) (by omega) (by omega) (fun h5 => ?_) (fun h5 => ?_)
      · exact W.vret hx hb hr (fun tX htX hWX => ⟨⟨A, rfl, rn_end (by omega) hE, g_at htX hW⟩, hS.F htX⟩) hS.2.2 dX6_readNumbers_81
      · obtain ⟨er, hx9⟩ | ⟨qr, hx9⟩ := pr_cases (numP β n 0 at0 i ps rd)
        · refine lv_aload_n hx hb dX6_readNumbers_8 rfl (lv_at hl 1 rfl) ?_
          obtain ⟨f0, f1, f2, f3, f4⟩ := hE.2.1.1 er hx9
          have r_3 : A (3) = A 3 := hex (3) 
          refine va_get (D := g.1) (ci := 6) (v := .int ((A 3) 0)) (C := RX6) (T := TX6) (N := 4) hx hb hts hinX6 hown hK (hb1 hW (show 3 < 126 by omega) (lcE r_3 sh_3)) 0 rfl rfl 2 (by decide) k32 (fun _ h9 => h9) rfl dX6_readNumbers_9 ?_
          refine z_top (y := zI (((er.1 : Nat) : Int))) (f0) ?_
          refine z_if_ne (tgt := 81) hx hb dX6_readNumbers_12 (by decide) (by omega) (fun h12 => ?_) (fun h12 => ?_)
          · exact W.vret hx hb hr (fun tX htX hWX => ⟨⟨A, rfl, rn_l hE hx9 (by omega), g_at htX hW⟩, hS.F htX⟩) hS.2.2 dX6_readNumbers_81
          · exfalso; omega
        · refine lv_aload_n hx hb dX6_readNumbers_8 rfl (lv_at hl 1 rfl) ?_
          obtain ⟨f0, f1, f2⟩ := hE.2.1.2 qr hx9
          obtain ⟨xv, hxv1, hxv2, hxv3⟩ := rn_x hps hE hx9
          have r_3 : A (3) = A 3 := hex (3) 
          refine va_get (D := g.1) (ci := 6) (v := .int ((A 3) 0)) (C := RX6) (T := TX6) (N := 4) hx hb hts hinX6 hown hK (hb1 hW (show 3 < 126 by omega) (lcE r_3 sh_3)) 0 rfl rfl 2 (by decide) k32 (fun _ h9 => h9) rfl dX6_readNumbers_9 ?_
          refine z_top (y := zI (0)) (f0) ?_
          refine z_if_ne (tgt := 81) hx hb dX6_readNumbers_12 (by decide) (by omega) (fun h12 => ?_) (fun h12 => ?_)
          · exfalso; omega
          · refine lv_aload_n hx hb dX6_readNumbers_15 rfl (lv_at hl 1 rfl) ?_
            refine va_get (D := g.1) (ci := 6) (v := .ref ((ad 4))) (C := RX6) (T := TX6) (N := 4) hx hb hts hinX6 hown hK (hb1 hW (show 3 < 126 by omega) (lcE r_3 sh_3)) 0 rfl rfl 1 (by decide) k20 (fun _ h9 => h9) rfl dX6_readNumbers_16 ?_
            have r_4 : A (4) = A 4 := hex (4) 
            refine va_callv (va_runV (As := []) (rest := []) ⟨hx, hb, hml, hown, hts⟩ (c_X7_advance l g (ad) (hd9) (P) (A) (β) (n) (hn) ((congrFun (hE.1 1 (by omega) (by omega) (by omega)) 0).trans hz) (fun i9 hi9 => ⟨(congrFun (hE.1 2 (by omega) (by omega) (by omega)) i9).trans (hβ i9 hi9).1, (hβ i9 hi9).2⟩) (qr.1) (f2) (f1)) (cwV 0 hts gX6_readNumbers_X7_advance rfl rfl rfl (by decide +kernel) ⟨Nat.le_of_ble_eq_true rfl, Nat.le_of_ble_eq_true rfl⟩) (g_preV hW hK (va_recv hK (hb1 hW (show 4 < 126 by omega) (lcE r_4 sh_4)) (q0 := 0) (ci := 7) rfl rfl)) rfl rfl hl.1 rfl (lv_room (Nat.le_of_ble_eq_true rfl)) dX6_readNumbers_19 ⟨Nat.le_of_ble_eq_true rfl, Nat.le_of_ble_eq_true rfl⟩) hS (fun q _ h => h) (fun q h => h) (fun u0 t9 H1 locs ht9 hvm9 hw9 hB9 hz9 hk9 hS => ?_)
            rw [ht9] at hB9
            clear hz9 hk9 hvm9 ht9
            generalize H1 = H at hB9 hS ⊢
            have hW := hB9
            clear hB9
            have hW : cw g ad P (va_up A (4) (tokR (A 4) β n qr.1)) H := hW
            obtain ⟨M2, hM2⟩ : ∃ x9c : Nat → Nat → Int32, x9c = va_up A (4) (tokR (A 4) β n qr.1) := ⟨_, rfl⟩
            have hW : cw g ad P M2 H := by rw [hM2]; exact hW
            have hex : ∀ j : Nat, ¬ j = 4 → M2 j = A j := fun j q0 => ((congrFun hM2 j).trans (up_ne _ _ q0)).trans (hex j )
            have r_b_1_1_ct : M2 (b + 1 + (1 + ct)) = A (b + 1 + (1 + ct)) := ((congrFun hM2 (b + 1 + (1 + ct))).trans (up_ne _ _ (by omega))).trans r_b_1_1_ct
            have r_3 : M2 (3) = A 3 := ((congrFun hM2 (3)).trans (up_ne _ _ (by omega))).trans r_3
            have r_4 : M2 (4) = tokR (A 4) β n qr.1 := ((congrFun hM2 _).trans (up_at _ _ _))
            have hkl := ki_le β n qr.1
            refine lv_aload_n hx hb dX6_readNumbers_22 rfl (lv_at hl 1 rfl) ?_
            refine va_get (D := g.1) (ci := 6) (v := .ref ((ad 4))) (C := RX6) (T := TX6) (N := 4) hx hb hts hinX6 hown hK (hb1 hW (show 3 < 126 by omega) (lcE r_3 sh_3)) 0 rfl rfl 1 (by decide) k20 (fun _ h9 => h9) rfl dX6_readNumbers_23 ?_
            refine va_get (D := g.1) (ci := 7) (v := .int ((tokR (A 4) β n qr.1) 1)) (C := RX7) (T := TX7) (N := 5) hx hb hts hinX7 hown hK (hb1 hW (show 4 < 126 by omega) (lcE r_4 sh_4)) 0 rfl rfl 2 (by decide) k44 (fun _ h9 => h9) rfl dX6_readNumbers_26 ?_
            refine z_top (y := zI (((cKi β n qr.1 : Nat) : Int))) (rfl) ?_
            refine lv_iconst (v := zI (2)) hx hb dX6_readNumbers_29 (by decide) ?_
            refine z_icmp_eq (tgt := 41) hx hb dX6_readNumbers_30 (by decide) (by omega) (by omega) (fun h30 => ?_) (fun h30 => ?_)
            · have hg3 := (tok_n (β := β) f2).mp (by omega)
              have hv9 := gV_le f2 hg3
              refine lv_iload_n hx hb dX6_readNumbers_41 rfl (lv_at hl 2 rfl) ?_
              refine lv_aload_n hx hb dX6_readNumbers_42 rfl (lv_at hl 3 rfl) ?_
              refine lv_iload_n hx hb dX6_readNumbers_43 rfl (lv_at hl 0 rfl) ?_
              refine lv_aload_n hx hb dX6_readNumbers_44 rfl (lv_at hl 1 rfl) ?_
              refine va_get (D := g.1) (ci := 6) (v := .ref ((ad 4))) (C := RX6) (T := TX6) (N := 4) hx hb hts hinX6 hown hK (hb1 hW (show 3 < 126 by omega) (lcE r_3 sh_3)) 0 rfl rfl 1 (by decide) k20 (fun _ h9 => h9) rfl dX6_readNumbers_45 ?_
              refine va_get (D := g.1) (ci := 7) (v := .int ((tokR (A 4) β n qr.1) 3)) (C := RX7) (T := TX7) (N := 5) hx hb hts hinX7 hown hK (hb1 hW (show 4 < 126 by omega) (lcE r_4 sh_4)) 0 rfl rfl 4 (by decide) k89 (fun _ h9 => h9) rfl dX6_readNumbers_48 ?_
              refine z_top (y := zI (((gV β n qr.1 : Nat) : Int))) (tok_nu f2 _ hg3) ?_
              refine va_calli (va_runS (As := [.int (zI (0)), .ref ((ad (b + 1 + (1 + ct)))), .int (zI (((i : Nat) : Int))), .int (zI (((gV β n qr.1 : Nat) : Int)))]) (rest := []) ⟨hx, hb, hml, hown, hts⟩ (c_X2_isAsTold_0 l g (ad) (hd9) (P) (M2) (kk) (b) (hb9) (ct) (hc) (i) (by omega) (gV β n qr.1) (xv) (hv9) (hxv1)) (va_cwS 4 hts gX6_readNumbers_X2_isAsTold rfl rfl rfl (by decide +kernel) ⟨Nat.le_of_ble_eq_true rfl, Nat.le_of_ble_eq_true rfl⟩) (gk_preS hW hK hC hS) rfl rfl hl.1 rfl (lv_room (Nat.le_of_ble_eq_true rfl)) dX6_readNumbers_51 ⟨Nat.le_of_ble_eq_true rfl, Nat.le_of_ble_eq_true rfl⟩) hS (fun q _ h => h) (fun q h => h) (fun r u2 t9 H1 locs ht9 hvm9 hw9 hB9 hz9 hk9 hS => ?_)
              rw [ht9] at hB9
              clear hz9 hk9 hvm9 ht9
              generalize H1 = H at hB9 hS ⊢
              have hW := hB9
              clear hB9
              have hW : cw g ad P M2 H := hW
              obtain rfl : r = zI (bz (loC 0 i xv ≤ (gV β n qr.1) ∧ (gV β n qr.1) ≤ sL 4 i)) := hw9
              refine z_bz_ne (tgt := 65) hx hb dX6_readNumbers_54 (by decide) (fun h54 => ?_) (fun h54 => ?_)
              · rw [hxv2] at h54
                refine lv_aload_n hx hb dX6_readNumbers_65 rfl (lv_at hl 3 rfl) ?_
                refine lv_iload_n hx hb dX6_readNumbers_66 rfl (lv_at hl 0 rfl) ?_
                refine lv_aload_n hx hb dX6_readNumbers_67 rfl (lv_at hl 1 rfl) ?_
                refine va_get (D := g.1) (ci := 6) (v := .ref ((ad 4))) (C := RX6) (T := TX6) (N := 4) hx hb hts hinX6 hown hK (hb1 hW (show 3 < 126 by omega) (lcE r_3 sh_3)) 0 rfl rfl 1 (by decide) k20 (fun _ h9 => h9) rfl dX6_readNumbers_68 ?_
                refine va_get (D := g.1) (ci := 7) (v := .int ((tokR (A 4) β n qr.1) 3)) (C := RX7) (T := TX7) (N := 5) hx hb hts hinX7 hown hK (hb1 hW (show 4 < 126 by omega) (lcE r_4 sh_4)) 0 rfl rfl 4 (by decide) k89 (fun _ h9 => h9) rfl dX6_readNumbers_71 ?_
                refine z_top (y := zI (((gV β n qr.1 : Nat) : Int))) (tok_nu f2 _ hg3) ?_
                refine y_iast hx hb hK hW hd9 hS (b + 1 + (1 + ct)) (show b + 1 + (1 + ct) < 126 by omega) (lcE r_b_1_1_ct (sh_Rw1 (i := ct) hb9 (by omega))) (by decide) (i) (by omega) (by omega) dX6_readNumbers_74 (fun H locs hW hS => ?_)
                have hW := cw_up (P := P) (M := M2) (f := upd (A (b + 1 + (1 + ct))) i (zI (((gV β n qr.1 : Nat) : Int)))) ((sh_Rw1 (i := ct) hb9 (by omega))) hW
                obtain ⟨M4, hM4⟩ : ∃ x9c : Nat → Nat → Int32, x9c = va_up M2 (b + 1 + (1 + ct)) (upd (A (b + 1 + (1 + ct))) i (zI (((gV β n qr.1 : Nat) : Int)))) := ⟨_, rfl⟩
                have hW : cw g ad P M4 H := by rw [hM4]; exact hW
                have hex : ∀ j : Nat, ¬ j = 4 → ¬ j = b + 1 + (1 + ct) → M4 j = A j := fun j q0 q1 => ((congrFun hM4 j).trans (up_ne _ _ q1)).trans (hex j q0)
                have r_3 : M4 (3) = A 3 := ((congrFun hM4 (3)).trans (up_ne _ _ (by omega))).trans r_3
                have r_4 : M4 (4) = tokR (A 4) β n qr.1 := ((congrFun hM4 (4)).trans (up_ne _ _ (by omega))).trans r_4
                have r_b_1_1_ct : M4 (b + 1 + (1 + ct)) = upd (A (b + 1 + (1 + ct))) i (zI (((gV β n qr.1 : Nat) : Int))) := ((congrFun hM4 _).trans (up_at _ _ _))
                refine z_iinc (lv' := [(3, .int (zI (((i : Nat) : Int) + 1))), (0, .ref ((ad 3))), (1, .int (zI (0))), (2, .ref ((ad (b + 1 + (1 + ct)))))]) hx hb dX6_readNumbers_75 hl (k := 0) rfl (by decide) rfl (fun ls hl => ?_)
                refine lv_goto (tgt := 2) hx hb dX6_readNumbers_78 (by decide) ?_
                have hl := lv_sub (l' := [(3, .int (zI (((i : Nat) : Int) + 1))), (0, .ref ((ad 3))), (1, .int (zI (0))), (2, .ref ((ad (b + 1 + (1 + ct)))))]) hl [0, 1, 2, 3] rfl
                have hl : lv_has ls 4 [(3, .int (zI ((((i + 1) : Nat) : Int)))), (0, .ref ((ad 3))), (1, .int (zI (0))), (2, .ref ((ad (b + 1 + (1 + ct)))))] := lv_cg (lvE (congrArg zI (by omega)) (lvR (lvR (lvR (rfl))))) hl
                exact ih M4 (i + 1) (by omega) (by omega) (rn_s (t := gTo β n qr.1) (v := gV β n qr.1) hE hx9 (by rw [num_1 hx9, tel_3 hg3 h54]) (gto_le f2).1 (by omega) (congrFun (hex 3 (by omega) (by omega)) 0) ((congrFun r_4 0).trans (tok_to f2 (by omega))) r_b_1_1_ct (fun j q1 q2 q3 => hex j (by omega) (by omega))) H locs hW hS ls hl
              · rw [hxv2] at h54
                refine lv_aload_n hx hb dX6_readNumbers_57 rfl (lv_at hl 1 rfl) ?_
                refine lv_iconst (v := zI (2)) hx hb dX6_readNumbers_58 (by decide) ?_
                have rk4 := r_4
                refine va_callv (va_runV (As := [.int (zI (2))]) (rest := []) ⟨hx, hb, hml, hown, hts⟩ (c_X6_fail l g (ad) (hd9) (P) (M2) (2)) (cwV 1 hts gX6_readNumbers_X6_fail rfl rfl rfl (by decide +kernel) ⟨Nat.le_of_ble_eq_true rfl, Nat.le_of_ble_eq_true rfl⟩) (g_preV hW hK (va_recv hK (hb1 hW (show 3 < 126 by omega) (lcE r_3 sh_3)) (q0 := 0) (ci := 6) rfl rfl)) rfl rfl hl.1 rfl (lv_room (Nat.le_of_ble_eq_true rfl)) dX6_readNumbers_59 ⟨Nat.le_of_ble_eq_true rfl, Nat.le_of_ble_eq_true rfl⟩) hS (fun q _ h => h) (fun q h => h) (fun u4 t9 H1 locs ht9 hvm9 hw9 hB9 hz9 hk9 hS => ?_)
                rw [ht9] at hB9
                clear hz9 hk9 hvm9 ht9
                generalize H1 = H at hB9 hS ⊢
                have hW := hB9
                clear hB9
                have hW : cw g ad P (va_up M2 (3) (upd (upd (M2 3) 0 (zI (2))) 1 (M2 4 2))) H := hW
                obtain ⟨M6, hM6⟩ : ∃ x9c : Nat → Nat → Int32, x9c = va_up M2 (3) (upd (upd (M2 3) 0 (zI (2))) 1 (M2 4 2)) := ⟨_, rfl⟩
                have hW : cw g ad P M6 H := by rw [hM6]; exact hW
                have hex : ∀ j : Nat, ¬ j = 4 → ¬ j = 3 → M6 j = A j := fun j q0 q1 => ((congrFun hM6 j).trans (up_ne _ _ q1)).trans (hex j q0)
                have r_b_1_1_ct : M6 (b + 1 + (1 + ct)) = A (b + 1 + (1 + ct)) := ((congrFun hM6 (b + 1 + (1 + ct))).trans (up_ne _ _ (by omega))).trans r_b_1_1_ct
                have r_4 : M6 (4) = tokR (A 4) β n qr.1 := ((congrFun hM6 (4)).trans (up_ne _ _ (by omega))).trans r_4
                have r_3 : M6 (3) = upd (upd (M2 3) 0 (zI (2))) 1 (M2 4 2) := ((congrFun hM6 _).trans (up_at _ _ _))
                refine lv_goto (tgt := 75) hx hb dX6_readNumbers_62 (by decide) ?_
                refine z_iinc (lv' := [(3, .int (zI (((i : Nat) : Int) + 1))), (0, .ref ((ad 3))), (1, .int (zI (0))), (2, .ref ((ad (b + 1 + (1 + ct)))))]) hx hb dX6_readNumbers_75 hl (k := 0) rfl (by decide) rfl (fun ls hl => ?_)
                refine lv_goto (tgt := 2) hx hb dX6_readNumbers_78 (by decide) ?_
                have hl := lv_sub (l' := [(3, .int (zI (((i : Nat) : Int) + 1))), (0, .ref ((ad 3))), (1, .int (zI (0))), (2, .ref ((ad (b + 1 + (1 + ct)))))]) hl [0, 1, 2, 3] rfl
                have hl : lv_has ls 4 [(3, .int (zI ((((i + 1) : Nat) : Int)))), (0, .ref ((ad 3))), (1, .int (zI (0))), (2, .ref ((ad (b + 1 + (1 + ct)))))] := lv_cg (lvE (congrArg zI (by omega)) (lvR (lvR (lvR (rfl))))) hl
                exact ih M6 (i + 1) (by omega) (by omega) (rn_f (a := 2) (b := gFr β n qr.1) hE (by rw [num_1 hx9, tel_2 hg3 h54]) (by omega) (gfr_7 f2 hn) (by rw [r_3]; rfl) ((congrFun r_3 1).trans ((upd_at _ _ _).trans ((congrFun rk4 2).trans (tok_fr f2)))) (fun j q1 q2 => hex j (by omega) (by omega))) H locs hW hS ls hl
            · have hg3 : ¬ gSo β n qr.1 = 3 := fun z9 => by have := (tok_n (β := β) f2).mpr z9; omega
              refine lv_aload_n hx hb dX6_readNumbers_33 rfl (lv_at hl 1 rfl) ?_
              refine lv_iconst (v := zI (1)) hx hb dX6_readNumbers_34 (by decide) ?_
              have rk4 := r_4
              refine va_callv (va_runV (As := [.int (zI (1))]) (rest := []) ⟨hx, hb, hml, hown, hts⟩ (c_X6_fail l g (ad) (hd9) (P) (M2) (1)) (cwV 1 hts gX6_readNumbers_X6_fail rfl rfl rfl (by decide +kernel) ⟨Nat.le_of_ble_eq_true rfl, Nat.le_of_ble_eq_true rfl⟩) (g_preV hW hK (va_recv hK (hb1 hW (show 3 < 126 by omega) (lcE r_3 sh_3)) (q0 := 0) (ci := 6) rfl rfl)) rfl rfl hl.1 rfl (lv_room (Nat.le_of_ble_eq_true rfl)) dX6_readNumbers_35 ⟨Nat.le_of_ble_eq_true rfl, Nat.le_of_ble_eq_true rfl⟩) hS (fun q _ h => h) (fun q h => h) (fun u6 t9 H1 locs ht9 hvm9 hw9 hB9 hz9 hk9 hS => ?_)
              rw [ht9] at hB9
              clear hz9 hk9 hvm9 ht9
              generalize H1 = H at hB9 hS ⊢
              have hW := hB9
              clear hB9
              have hW : cw g ad P (va_up M2 (3) (upd (upd (M2 3) 0 (zI (1))) 1 (M2 4 2))) H := hW
              obtain ⟨M8, hM8⟩ : ∃ x9c : Nat → Nat → Int32, x9c = va_up M2 (3) (upd (upd (M2 3) 0 (zI (1))) 1 (M2 4 2)) := ⟨_, rfl⟩
              have hW : cw g ad P M8 H := by rw [hM8]; exact hW
              have hex : ∀ j : Nat, ¬ j = 4 → ¬ j = 3 → M8 j = A j := fun j q0 q1 => ((congrFun hM8 j).trans (up_ne _ _ q1)).trans (hex j q0)
              have r_b_1_1_ct : M8 (b + 1 + (1 + ct)) = A (b + 1 + (1 + ct)) := ((congrFun hM8 (b + 1 + (1 + ct))).trans (up_ne _ _ (by omega))).trans r_b_1_1_ct
              have r_4 : M8 (4) = tokR (A 4) β n qr.1 := ((congrFun hM8 (4)).trans (up_ne _ _ (by omega))).trans r_4
              have r_3 : M8 (3) = upd (upd (M2 3) 0 (zI (1))) 1 (M2 4 2) := ((congrFun hM8 _).trans (up_at _ _ _))
              refine lv_goto (tgt := 75) hx hb dX6_readNumbers_38 (by decide) ?_
              refine z_iinc (lv' := [(3, .int (zI (((i : Nat) : Int) + 1))), (0, .ref ((ad 3))), (1, .int (zI (0))), (2, .ref ((ad (b + 1 + (1 + ct)))))]) hx hb dX6_readNumbers_75 hl (k := 0) rfl (by decide) rfl (fun ls hl => ?_)
              refine lv_goto (tgt := 2) hx hb dX6_readNumbers_78 (by decide) ?_
              have hl := lv_sub (l' := [(3, .int (zI (((i : Nat) : Int) + 1))), (0, .ref ((ad 3))), (1, .int (zI (0))), (2, .ref ((ad (b + 1 + (1 + ct)))))]) hl [0, 1, 2, 3] rfl
              have hl : lv_has ls 4 [(3, .int (zI ((((i + 1) : Nat) : Int)))), (0, .ref ((ad 3))), (1, .int (zI (0))), (2, .ref ((ad (b + 1 + (1 + ct)))))] := lv_cg (lvE (congrArg zI (by omega)) (lvR (lvR (lvR (rfl))))) hl
              exact ih M8 (i + 1) (by omega) (by omega) (rn_f (a := 1) (b := gFr β n qr.1) hE (by rw [num_1 hx9, tel_1 hg3]) (by omega) (gfr_7 f2 hn) (by rw [r_3]; rfl) ((congrFun r_3 1).trans ((upd_at _ _ _).trans ((congrFun rk4 2).trans (tok_fr f2)))) (fun j q1 q2 => hex j (by omega) (by omega))) H locs hW hS ls hl
  have hl := lv_sub (l' := [(3, .int (zI (0))), (0, .ref ((ad 3))), (1, .int (zI (0))), (2, .ref ((ad (b + 1 + (1 + ct)))))]) hl [0, 1, 2, 3] rfl
  have hl : lv_has ls 4 [(3, .int (zI (((0 : Nat) : Int)))), (0, .ref ((ad 3))), (1, .int (zI (0))), (2, .ref ((ad (b + 1 + (1 + ct)))))] := lv_cg (lvE (congrArg zI (rfl)) (lvR (lvR (lvR (rfl))))) hl
  exact loop2 _ M (0) (Nat.lt_succ_self _) (Nat.zero_le _) (rn_0 hf0 hp4 hps) H locs hW hS ls hl

set_option maxHeartbeats 4000000 in
set_option maxRecDepth 100000 in
theorem c_X6_readNumbers_1 (l : Launch) (g : GG) (ad : Nat → Nat) (hd9 : hD ad) (P : Nat → Nat) (M : Nat → Nat → Int32) (kk : KK) (b : Nat) (hb9 : b = 8 ∨ b = 27) (ct : Nat) (hc : ct < 5) (β : Nat → Nat) (n : Nat) (hn : n ≤ 740) (hz : M 1 0 = zI n) (hβ : ∀ i, i < 740 → M 2 i = zI (sbI (β i)) ∧ β i < 256) (ps : Nat) (hps : ps ≤ n) (hp4 : M 4 0 = zI ps) (hf0 : M 3 0 = zI 0) (at0 : Nat) (rd : Nat → Int32) : Met l yX6_readNumbers wsX6_readNumbers ({ frames := 3, cells := 0, slots := 0, locals := 64 }) (gkPc g kk ad [.ref ((ad 3)), .int (zI (1)), .ref ((ad (b + 1 + (3 + ct))))] (cw g ad P M)) (va_Qv (fun (u : Nat → Nat → Int32) => rnQ n M u (b + 1 + (3 + ct)) at0 9 (numP β n 1 at0 9 ps rd)) (fun (u : Nat → Nat → Int32) (tS : State) => cw g ad P u tS.heap) (hbA ad)) 0 0 (hbA ad) := by
  refine Met.ofW (cc := cX6_readNumbers) (maxL := 4) (ret := none) (by decide) rfl ?_
  intro p e s m args below meth c s₁ B hml hv
  obtain ⟨rfl, hW, hK, hC⟩ := hv
  have hx := B.exec
  have hb := B.bytes
  have hr := B.returns
  have hts := atoms_spec (ws := wsX6_readNumbers) B.pre
  have hown : s.vm.findClass RX6 = some m.cls := findClass_of_methodNamed B.named
  have hlocks := B.notSynchronized
  have hinX6 : ∀ w ∈ wsX60, w ∈ wsX6_readNumbers := by decide +kernel
  have hinX7 : ∀ w ∈ wsX70, w ∈ wsX6_readNumbers := by decide +kernel
  have k32 := hts (.fieldLink RX6 32 "HoursBank$TextReader" "faultKind" "I") (by decide +kernel)
  have k20 := hts (.fieldLink RX6 20 "HoursBank$TextReader" "tokens" "LHoursBank$Tokens;") (by decide +kernel)
  have k44 := hts (.fieldLink RX6 44 "HoursBank$Tokens" "kind" "I") (by decide +kernel)
  have k89 := hts (.fieldLink RX6 89 "HoursBank$Tokens" "number" "I") (by decide +kernel)
  have hl := lv_entry ([.ref ((ad 3)), .int (zI (1)), .ref ((ad (b + 1 + (3 + ct))))]) (n := 4) (Nat.le_of_ble_eq_true rfl)
  rw [lg_entry_eq]
  generalize (lg_sl ([.ref ((ad 3)), .int (zI (1)), .ref ((ad (b + 1 + (3 + ct))))]) ++ List.replicate (4 - (lg_sl ([.ref ((ad 3)), .int (zI (1)), .ref ((ad (b + 1 + (3 + ct))))])).length) Slot.unset).toArray = ls at hl ⊢
  have hl : lv_has ls 4 [(0, .ref ((ad 3))), (1, .int (zI (1))), (2, .ref ((ad (b + 1 + (3 + ct)))))] := hl
  have hS : va_S (hbA ad) s.heap s.heap [] := va_S.rf
  obtain ⟨H, hH9⟩ : ∃ H, H = s.heap := ⟨_, rfl⟩
  obtain ⟨locs, hL9⟩ : ∃ x9l : List Loc, x9l = [] := ⟨_, rfl⟩
  have hW : cw g ad P M H := hH9 ▸ hW
  have hS : va_S (hbA ad) s.heap H locs := by rw [hH9, hL9]; exact hS
  refine z_start hH9 hL9 ?_
  clear hH9 hL9
  have hex : ∀ j : Nat, M j = M j := fun _ => rfl
  refine lv_iconst (v := zI (0)) hx hb dX6_readNumbers_0 (by decide) ?_
  refine lv_istore_n (lv' := [(3, .int (zI (0))), (0, .ref ((ad 3))), (1, .int (zI (1))), (2, .ref ((ad (b + 1 + (3 + ct)))))]) hx hb dX6_readNumbers_1 rfl hl (by decide) rfl (fun ls hl => ?_)
  have loop2 : ∀ (K9 : Nat) (A : Nat → Nat → Int32) (i : Nat) (hK9 : 9 - i < K9) (hi : i ≤ 9) (hE : rnQ n M A (b + 1 + (3 + ct)) at0 i (numP β n 1 at0 i ps rd)) (H : Heap) (locs : List Loc) (hW : cw g ad P A H) (hS : va_S (hbA ad) s.heap H locs) (ls : Array Slot) (hl : lv_has ls 4 [(3, .int (zI (((i : Nat) : Int)))), (0, .ref ((ad 3))), (1, .int (zI (1))), (2, .ref ((ad (b + 1 + (3 + ct)))))]), W p l e (headSpec wsX6_readNumbers ({ frames := 3, cells := 0, slots := 0, locals := 64 })).room s m ([.ref ((ad 3)), .int (zI (1)), .ref ((ad (b + 1 + (3 + ct))))] : List Value).toArray below meth c H locs 0 0 (MQ below (va_Qv (fun (u : Nat → Nat → Int32) => rnQ n M u (b + 1 + (3 + ct)) at0 9 (numP β n 1 at0 9 ps rd)) (fun (u : Nat → Nat → Int32) (tS : State) => cw g ad P u tS.heap) (hbA ad)) ([.ref ((ad 3)), .int (zI (1)), .ref ((ad (b + 1 + (3 + ct))))] : List Value).toArray s 0 0 (hbA ad)) (F0 m 2 ls []) := by
    intro K9
    induction K9 with
    | zero => intro A i hK9; exact absurd hK9 (Nat.not_lt_zero _)
    | succ K9 ih =>
      intro A i hK9 hi hE H locs hW hS ls hl
      have hex : ∀ j : Nat, A j = A j := fun _ => rfl
      refine lv_iload_n hx hb dX6_readNumbers_2 rfl (lv_at hl 0 rfl) ?_
      refine lv_aload_n hx hb dX6_readNumbers_3 rfl (lv_at hl 3 rfl) ?_
      have r_b_1_3_ct : A (b + 1 + (3 + ct)) = A (b + 1 + (3 + ct)) := hex (b + 1 + (3 + ct)) 
      refine va_alen hx hb hK (hb1 hW (show b + 1 + (3 + ct) < 126 by omega) (lcE r_b_1_3_ct (sh_Rw3 (i := ct) hb9 (by omega)))) 0 0 rfl rfl (v := zI 9) (show Int32.ofNat 9 = zI 9 by decide) dX6_readNumbers_4 ?_
      refine z_icmp_ge (tgt := 81) hx hb dX6_readNumbers_5 (by decide) (by omega) (by omega) (fun h5 => ?_) (fun h5 => ?_)
      · exact W.vret hx hb hr (fun tX htX hWX => ⟨⟨A, rfl, rn_end (by omega) hE, g_at htX hW⟩, hS.F htX⟩) hS.2.2 dX6_readNumbers_81
      · obtain ⟨er, hx9⟩ | ⟨qr, hx9⟩ := pr_cases (numP β n 1 at0 i ps rd)
        · refine lv_aload_n hx hb dX6_readNumbers_8 rfl (lv_at hl 1 rfl) ?_
          obtain ⟨f0, f1, f2, f3, f4⟩ := hE.2.1.1 er hx9
          have r_3 : A (3) = A 3 := hex (3) 
          refine va_get (D := g.1) (ci := 6) (v := .int ((A 3) 0)) (C := RX6) (T := TX6) (N := 4) hx hb hts hinX6 hown hK (hb1 hW (show 3 < 126 by omega) (lcE r_3 sh_3)) 0 rfl rfl 2 (by decide) k32 (fun _ h9 => h9) rfl dX6_readNumbers_9 ?_
          refine z_top (y := zI (((er.1 : Nat) : Int))) (f0) ?_
          refine z_if_ne (tgt := 81) hx hb dX6_readNumbers_12 (by decide) (by omega) (fun h12 => ?_) (fun h12 => ?_)
          · exact W.vret hx hb hr (fun tX htX hWX => ⟨⟨A, rfl, rn_l hE hx9 (by omega), g_at htX hW⟩, hS.F htX⟩) hS.2.2 dX6_readNumbers_81
          · exfalso; omega
        · refine lv_aload_n hx hb dX6_readNumbers_8 rfl (lv_at hl 1 rfl) ?_
          obtain ⟨f0, f1, f2⟩ := hE.2.1.2 qr hx9
          obtain ⟨xv, hxv1, hxv2, hxv3⟩ := rn_x hps hE hx9
          have r_3 : A (3) = A 3 := hex (3) 
          refine va_get (D := g.1) (ci := 6) (v := .int ((A 3) 0)) (C := RX6) (T := TX6) (N := 4) hx hb hts hinX6 hown hK (hb1 hW (show 3 < 126 by omega) (lcE r_3 sh_3)) 0 rfl rfl 2 (by decide) k32 (fun _ h9 => h9) rfl dX6_readNumbers_9 ?_
          refine z_top (y := zI (0)) (f0) ?_
          refine z_if_ne (tgt := 81) hx hb dX6_readNumbers_12 (by decide) (by omega) (fun h12 => ?_) (fun h12 => ?_)
          · exfalso; omega
          · refine lv_aload_n hx hb dX6_readNumbers_15 rfl (lv_at hl 1 rfl) ?_
            refine va_get (D := g.1) (ci := 6) (v := .ref ((ad 4))) (C := RX6) (T := TX6) (N := 4) hx hb hts hinX6 hown hK (hb1 hW (show 3 < 126 by omega) (lcE r_3 sh_3)) 0 rfl rfl 1 (by decide) k20 (fun _ h9 => h9) rfl dX6_readNumbers_16 ?_
            have r_4 : A (4) = A 4 := hex (4) 
            refine va_callv (va_runV (As := []) (rest := []) ⟨hx, hb, hml, hown, hts⟩ (c_X7_advance l g (ad) (hd9) (P) (A) (β) (n) (hn) ((congrFun (hE.1 1 (by omega) (by omega) (by omega)) 0).trans hz) (fun i9 hi9 => ⟨(congrFun (hE.1 2 (by omega) (by omega) (by omega)) i9).trans (hβ i9 hi9).1, (hβ i9 hi9).2⟩) (qr.1) (f2) (f1)) (cwV 0 hts gX6_readNumbers_X7_advance rfl rfl rfl (by decide +kernel) ⟨Nat.le_of_ble_eq_true rfl, Nat.le_of_ble_eq_true rfl⟩) (g_preV hW hK (va_recv hK (hb1 hW (show 4 < 126 by omega) (lcE r_4 sh_4)) (q0 := 0) (ci := 7) rfl rfl)) rfl rfl hl.1 rfl (lv_room (Nat.le_of_ble_eq_true rfl)) dX6_readNumbers_19 ⟨Nat.le_of_ble_eq_true rfl, Nat.le_of_ble_eq_true rfl⟩) hS (fun q _ h => h) (fun q h => h) (fun u0 t9 H1 locs ht9 hvm9 hw9 hB9 hz9 hk9 hS => ?_)
            rw [ht9] at hB9
            clear hz9 hk9 hvm9 ht9
            generalize H1 = H at hB9 hS ⊢
            have hW := hB9
            clear hB9
            have hW : cw g ad P (va_up A (4) (tokR (A 4) β n qr.1)) H := hW
            obtain ⟨M2, hM2⟩ : ∃ x9c : Nat → Nat → Int32, x9c = va_up A (4) (tokR (A 4) β n qr.1) := ⟨_, rfl⟩
            have hW : cw g ad P M2 H := by rw [hM2]; exact hW
            have hex : ∀ j : Nat, ¬ j = 4 → M2 j = A j := fun j q0 => ((congrFun hM2 j).trans (up_ne _ _ q0)).trans (hex j )
            have r_b_1_3_ct : M2 (b + 1 + (3 + ct)) = A (b + 1 + (3 + ct)) := ((congrFun hM2 (b + 1 + (3 + ct))).trans (up_ne _ _ (by omega))).trans r_b_1_3_ct
            have r_3 : M2 (3) = A 3 := ((congrFun hM2 (3)).trans (up_ne _ _ (by omega))).trans r_3
            have r_4 : M2 (4) = tokR (A 4) β n qr.1 := ((congrFun hM2 _).trans (up_at _ _ _))
            have hkl := ki_le β n qr.1
            refine lv_aload_n hx hb dX6_readNumbers_22 rfl (lv_at hl 1 rfl) ?_
            refine va_get (D := g.1) (ci := 6) (v := .ref ((ad 4))) (C := RX6) (T := TX6) (N := 4) hx hb hts hinX6 hown hK (hb1 hW (show 3 < 126 by omega) (lcE r_3 sh_3)) 0 rfl rfl 1 (by decide) k20 (fun _ h9 => h9) rfl dX6_readNumbers_23 ?_
            refine va_get (D := g.1) (ci := 7) (v := .int ((tokR (A 4) β n qr.1) 1)) (C := RX7) (T := TX7) (N := 5) hx hb hts hinX7 hown hK (hb1 hW (show 4 < 126 by omega) (lcE r_4 sh_4)) 0 rfl rfl 2 (by decide) k44 (fun _ h9 => h9) rfl dX6_readNumbers_26 ?_
            refine z_top (y := zI (((cKi β n qr.1 : Nat) : Int))) (rfl) ?_
            refine lv_iconst (v := zI (2)) hx hb dX6_readNumbers_29 (by decide) ?_
            refine z_icmp_eq (tgt := 41) hx hb dX6_readNumbers_30 (by decide) (by omega) (by omega) (fun h30 => ?_) (fun h30 => ?_)
            · have hg3 := (tok_n (β := β) f2).mp (by omega)
              have hv9 := gV_le f2 hg3
              refine lv_iload_n hx hb dX6_readNumbers_41 rfl (lv_at hl 2 rfl) ?_
              refine lv_aload_n hx hb dX6_readNumbers_42 rfl (lv_at hl 3 rfl) ?_
              refine lv_iload_n hx hb dX6_readNumbers_43 rfl (lv_at hl 0 rfl) ?_
              refine lv_aload_n hx hb dX6_readNumbers_44 rfl (lv_at hl 1 rfl) ?_
              refine va_get (D := g.1) (ci := 6) (v := .ref ((ad 4))) (C := RX6) (T := TX6) (N := 4) hx hb hts hinX6 hown hK (hb1 hW (show 3 < 126 by omega) (lcE r_3 sh_3)) 0 rfl rfl 1 (by decide) k20 (fun _ h9 => h9) rfl dX6_readNumbers_45 ?_
              refine va_get (D := g.1) (ci := 7) (v := .int ((tokR (A 4) β n qr.1) 3)) (C := RX7) (T := TX7) (N := 5) hx hb hts hinX7 hown hK (hb1 hW (show 4 < 126 by omega) (lcE r_4 sh_4)) 0 rfl rfl 4 (by decide) k89 (fun _ h9 => h9) rfl dX6_readNumbers_48 ?_
              refine z_top (y := zI (((gV β n qr.1 : Nat) : Int))) (tok_nu f2 _ hg3) ?_
              refine va_calli (va_runS (As := [.int (zI (1)), .ref ((ad (b + 1 + (3 + ct)))), .int (zI (((i : Nat) : Int))), .int (zI (((gV β n qr.1 : Nat) : Int)))]) (rest := []) ⟨hx, hb, hml, hown, hts⟩ (c_X2_isAsTold_1 l g (ad) (hd9) (P) (M2) (kk) (b) (hb9) (ct) (hc) (i) (by omega) (gV β n qr.1) (xv) (hv9) (hxv1) (fun z9 => (congrFun (hex _ (by omega)) 0).trans (hxv3 z9))) (va_cwS 4 hts gX6_readNumbers_X2_isAsTold rfl rfl rfl (by decide +kernel) ⟨Nat.le_of_ble_eq_true rfl, Nat.le_of_ble_eq_true rfl⟩) (gk_preS hW hK hC hS) rfl rfl hl.1 rfl (lv_room (Nat.le_of_ble_eq_true rfl)) dX6_readNumbers_51 ⟨Nat.le_of_ble_eq_true rfl, Nat.le_of_ble_eq_true rfl⟩) hS (fun q _ h => h) (fun q h => h) (fun r u2 t9 H1 locs ht9 hvm9 hw9 hB9 hz9 hk9 hS => ?_)
              rw [ht9] at hB9
              clear hz9 hk9 hvm9 ht9
              generalize H1 = H at hB9 hS ⊢
              have hW := hB9
              clear hB9
              have hW : cw g ad P M2 H := hW
              obtain rfl : r = zI (bz (loC 1 i xv ≤ (gV β n qr.1) ∧ (gV β n qr.1) ≤ sL 5 i)) := hw9
              refine z_bz_ne (tgt := 65) hx hb dX6_readNumbers_54 (by decide) (fun h54 => ?_) (fun h54 => ?_)
              · rw [hxv2] at h54
                refine lv_aload_n hx hb dX6_readNumbers_65 rfl (lv_at hl 3 rfl) ?_
                refine lv_iload_n hx hb dX6_readNumbers_66 rfl (lv_at hl 0 rfl) ?_
                refine lv_aload_n hx hb dX6_readNumbers_67 rfl (lv_at hl 1 rfl) ?_
                refine va_get (D := g.1) (ci := 6) (v := .ref ((ad 4))) (C := RX6) (T := TX6) (N := 4) hx hb hts hinX6 hown hK (hb1 hW (show 3 < 126 by omega) (lcE r_3 sh_3)) 0 rfl rfl 1 (by decide) k20 (fun _ h9 => h9) rfl dX6_readNumbers_68 ?_
                refine va_get (D := g.1) (ci := 7) (v := .int ((tokR (A 4) β n qr.1) 3)) (C := RX7) (T := TX7) (N := 5) hx hb hts hinX7 hown hK (hb1 hW (show 4 < 126 by omega) (lcE r_4 sh_4)) 0 rfl rfl 4 (by decide) k89 (fun _ h9 => h9) rfl dX6_readNumbers_71 ?_
                refine z_top (y := zI (((gV β n qr.1 : Nat) : Int))) (tok_nu f2 _ hg3) ?_
                refine y_iast hx hb hK hW hd9 hS (b + 1 + (3 + ct)) (show b + 1 + (3 + ct) < 126 by omega) (lcE r_b_1_3_ct (sh_Rw3 (i := ct) hb9 (by omega))) (by decide) (i) (by omega) (by omega) dX6_readNumbers_74 (fun H locs hW hS => ?_)
                have hW := cw_up (P := P) (M := M2) (f := upd (A (b + 1 + (3 + ct))) i (zI (((gV β n qr.1 : Nat) : Int)))) ((sh_Rw3 (i := ct) hb9 (by omega))) hW
                obtain ⟨M4, hM4⟩ : ∃ x9c : Nat → Nat → Int32, x9c = va_up M2 (b + 1 + (3 + ct)) (upd (A (b + 1 + (3 + ct))) i (zI (((gV β n qr.1 : Nat) : Int)))) := ⟨_, rfl⟩
                have hW : cw g ad P M4 H := by rw [hM4]; exact hW
                have hex : ∀ j : Nat, ¬ j = 4 → ¬ j = b + 1 + (3 + ct) → M4 j = A j := fun j q0 q1 => ((congrFun hM4 j).trans (up_ne _ _ q1)).trans (hex j q0)
                have r_3 : M4 (3) = A 3 := ((congrFun hM4 (3)).trans (up_ne _ _ (by omega))).trans r_3
                have r_4 : M4 (4) = tokR (A 4) β n qr.1 := ((congrFun hM4 (4)).trans (up_ne _ _ (by omega))).trans r_4
                have r_b_1_3_ct : M4 (b + 1 + (3 + ct)) = upd (A (b + 1 + (3 + ct))) i (zI (((gV β n qr.1 : Nat) : Int))) := ((congrFun hM4 _).trans (up_at _ _ _))
                refine z_iinc (lv' := [(3, .int (zI (((i : Nat) : Int) + 1))), (0, .ref ((ad 3))), (1, .int (zI (1))), (2, .ref ((ad (b + 1 + (3 + ct)))))]) hx hb dX6_readNumbers_75 hl (k := 0) rfl (by decide) rfl (fun ls hl => ?_)
                refine lv_goto (tgt := 2) hx hb dX6_readNumbers_78 (by decide) ?_
                have hl := lv_sub (l' := [(3, .int (zI (((i : Nat) : Int) + 1))), (0, .ref ((ad 3))), (1, .int (zI (1))), (2, .ref ((ad (b + 1 + (3 + ct)))))]) hl [0, 1, 2, 3] rfl
                have hl : lv_has ls 4 [(3, .int (zI ((((i + 1) : Nat) : Int)))), (0, .ref ((ad 3))), (1, .int (zI (1))), (2, .ref ((ad (b + 1 + (3 + ct)))))] := lv_cg (lvE (congrArg zI (by omega)) (lvR (lvR (lvR (rfl))))) hl
                exact ih M4 (i + 1) (by omega) (by omega) (rn_s (t := gTo β n qr.1) (v := gV β n qr.1) hE hx9 (by rw [num_1 hx9, tel_3 hg3 h54]) (gto_le f2).1 (by omega) (congrFun (hex 3 (by omega) (by omega)) 0) ((congrFun r_4 0).trans (tok_to f2 (by omega))) r_b_1_3_ct (fun j q1 q2 q3 => hex j (by omega) (by omega))) H locs hW hS ls hl
              · rw [hxv2] at h54
                refine lv_aload_n hx hb dX6_readNumbers_57 rfl (lv_at hl 1 rfl) ?_
                refine lv_iconst (v := zI (2)) hx hb dX6_readNumbers_58 (by decide) ?_
                have rk4 := r_4
                refine va_callv (va_runV (As := [.int (zI (2))]) (rest := []) ⟨hx, hb, hml, hown, hts⟩ (c_X6_fail l g (ad) (hd9) (P) (M2) (2)) (cwV 1 hts gX6_readNumbers_X6_fail rfl rfl rfl (by decide +kernel) ⟨Nat.le_of_ble_eq_true rfl, Nat.le_of_ble_eq_true rfl⟩) (g_preV hW hK (va_recv hK (hb1 hW (show 3 < 126 by omega) (lcE r_3 sh_3)) (q0 := 0) (ci := 6) rfl rfl)) rfl rfl hl.1 rfl (lv_room (Nat.le_of_ble_eq_true rfl)) dX6_readNumbers_59 ⟨Nat.le_of_ble_eq_true rfl, Nat.le_of_ble_eq_true rfl⟩) hS (fun q _ h => h) (fun q h => h) (fun u4 t9 H1 locs ht9 hvm9 hw9 hB9 hz9 hk9 hS => ?_)
                rw [ht9] at hB9
                clear hz9 hk9 hvm9 ht9
                generalize H1 = H at hB9 hS ⊢
                have hW := hB9
                clear hB9
                have hW : cw g ad P (va_up M2 (3) (upd (upd (M2 3) 0 (zI (2))) 1 (M2 4 2))) H := hW
                obtain ⟨M6, hM6⟩ : ∃ x9c : Nat → Nat → Int32, x9c = va_up M2 (3) (upd (upd (M2 3) 0 (zI (2))) 1 (M2 4 2)) := ⟨_, rfl⟩
                have hW : cw g ad P M6 H := by rw [hM6]; exact hW
                have hex : ∀ j : Nat, ¬ j = 4 → ¬ j = 3 → M6 j = A j := fun j q0 q1 => ((congrFun hM6 j).trans (up_ne _ _ q1)).trans (hex j q0)
                have r_b_1_3_ct : M6 (b + 1 + (3 + ct)) = A (b + 1 + (3 + ct)) := ((congrFun hM6 (b + 1 + (3 + ct))).trans (up_ne _ _ (by omega))).trans r_b_1_3_ct
                have r_4 : M6 (4) = tokR (A 4) β n qr.1 := ((congrFun hM6 (4)).trans (up_ne _ _ (by omega))).trans r_4
                have r_3 : M6 (3) = upd (upd (M2 3) 0 (zI (2))) 1 (M2 4 2) := ((congrFun hM6 _).trans (up_at _ _ _))
                refine lv_goto (tgt := 75) hx hb dX6_readNumbers_62 (by decide) ?_
                refine z_iinc (lv' := [(3, .int (zI (((i : Nat) : Int) + 1))), (0, .ref ((ad 3))), (1, .int (zI (1))), (2, .ref ((ad (b + 1 + (3 + ct)))))]) hx hb dX6_readNumbers_75 hl (k := 0) rfl (by decide) rfl (fun ls hl => ?_)
                refine lv_goto (tgt := 2) hx hb dX6_readNumbers_78 (by decide) ?_
                have hl := lv_sub (l' := [(3, .int (zI (((i : Nat) : Int) + 1))), (0, .ref ((ad 3))), (1, .int (zI (1))), (2, .ref ((ad (b + 1 + (3 + ct)))))]) hl [0, 1, 2, 3] rfl
                have hl : lv_has ls 4 [(3, .int (zI ((((i + 1) : Nat) : Int)))), (0, .ref ((ad 3))), (1, .int (zI (1))), (2, .ref ((ad (b + 1 + (3 + ct)))))] := lv_cg (lvE (congrArg zI (by omega)) (lvR (lvR (lvR (rfl))))) hl
                exact ih M6 (i + 1) (by omega) (by omega) (rn_f (a := 2) (b := gFr β n qr.1) hE (by rw [num_1 hx9, tel_2 hg3 h54]) (by omega) (gfr_7 f2 hn) (by rw [r_3]; rfl) ((congrFun r_3 1).trans ((upd_at _ _ _).trans ((congrFun rk4 2).trans (tok_fr f2)))) (fun j q1 q2 => hex j (by omega) (by omega))) H locs hW hS ls hl
            · have hg3 : ¬ gSo β n qr.1 = 3 := fun z9 => by have := (tok_n (β := β) f2).mpr z9; omega
              refine lv_aload_n hx hb dX6_readNumbers_33 rfl (lv_at hl 1 rfl) ?_
              refine lv_iconst (v := zI (1)) hx hb dX6_readNumbers_34 (by decide) ?_
              have rk4 := r_4
              refine va_callv (va_runV (As := [.int (zI (1))]) (rest := []) ⟨hx, hb, hml, hown, hts⟩ (c_X6_fail l g (ad) (hd9) (P) (M2) (1)) (cwV 1 hts gX6_readNumbers_X6_fail rfl rfl rfl (by decide +kernel) ⟨Nat.le_of_ble_eq_true rfl, Nat.le_of_ble_eq_true rfl⟩) (g_preV hW hK (va_recv hK (hb1 hW (show 3 < 126 by omega) (lcE r_3 sh_3)) (q0 := 0) (ci := 6) rfl rfl)) rfl rfl hl.1 rfl (lv_room (Nat.le_of_ble_eq_true rfl)) dX6_readNumbers_35 ⟨Nat.le_of_ble_eq_true rfl, Nat.le_of_ble_eq_true rfl⟩) hS (fun q _ h => h) (fun q h => h) (fun u6 t9 H1 locs ht9 hvm9 hw9 hB9 hz9 hk9 hS => ?_)
              rw [ht9] at hB9
              clear hz9 hk9 hvm9 ht9
              generalize H1 = H at hB9 hS ⊢
              have hW := hB9
              clear hB9
              have hW : cw g ad P (va_up M2 (3) (upd (upd (M2 3) 0 (zI (1))) 1 (M2 4 2))) H := hW
              obtain ⟨M8, hM8⟩ : ∃ x9c : Nat → Nat → Int32, x9c = va_up M2 (3) (upd (upd (M2 3) 0 (zI (1))) 1 (M2 4 2)) := ⟨_, rfl⟩
              have hW : cw g ad P M8 H := by rw [hM8]; exact hW
              have hex : ∀ j : Nat, ¬ j = 4 → ¬ j = 3 → M8 j = A j := fun j q0 q1 => ((congrFun hM8 j).trans (up_ne _ _ q1)).trans (hex j q0)
              have r_b_1_3_ct : M8 (b + 1 + (3 + ct)) = A (b + 1 + (3 + ct)) := ((congrFun hM8 (b + 1 + (3 + ct))).trans (up_ne _ _ (by omega))).trans r_b_1_3_ct
              have r_4 : M8 (4) = tokR (A 4) β n qr.1 := ((congrFun hM8 (4)).trans (up_ne _ _ (by omega))).trans r_4
              have r_3 : M8 (3) = upd (upd (M2 3) 0 (zI (1))) 1 (M2 4 2) := ((congrFun hM8 _).trans (up_at _ _ _))
              refine lv_goto (tgt := 75) hx hb dX6_readNumbers_38 (by decide) ?_
              refine z_iinc (lv' := [(3, .int (zI (((i : Nat) : Int) + 1))), (0, .ref ((ad 3))), (1, .int (zI (1))), (2, .ref ((ad (b + 1 + (3 + ct)))))]) hx hb dX6_readNumbers_75 hl (k := 0) rfl (by decide) rfl (fun ls hl => ?_)
              refine lv_goto (tgt := 2) hx hb dX6_readNumbers_78 (by decide) ?_
              have hl := lv_sub (l' := [(3, .int (zI (((i : Nat) : Int) + 1))), (0, .ref ((ad 3))), (1, .int (zI (1))), (2, .ref ((ad (b + 1 + (3 + ct)))))]) hl [0, 1, 2, 3] rfl
              have hl : lv_has ls 4 [(3, .int (zI ((((i + 1) : Nat) : Int)))), (0, .ref ((ad 3))), (1, .int (zI (1))), (2, .ref ((ad (b + 1 + (3 + ct)))))] := lv_cg (lvE (congrArg zI (by omega)) (lvR (lvR (lvR (rfl))))) hl
              exact ih M8 (i + 1) (by omega) (by omega) (rn_f (a := 1) (b := gFr β n qr.1) hE (by rw [num_1 hx9, tel_1 hg3]) (by omega) (gfr_7 f2 hn) (by rw [r_3]; rfl) ((congrFun r_3 1).trans ((upd_at _ _ _).trans ((congrFun rk4 2).trans (tok_fr f2)))) (fun j q1 q2 => hex j (by omega) (by omega))) H locs hW hS ls hl
  have hl := lv_sub (l' := [(3, .int (zI (0))), (0, .ref ((ad 3))), (1, .int (zI (1))), (2, .ref ((ad (b + 1 + (3 + ct)))))]) hl [0, 1, 2, 3] rfl
  have hl : lv_has ls 4 [(3, .int (zI (((0 : Nat) : Int)))), (0, .ref ((ad 3))), (1, .int (zI (1))), (2, .ref ((ad (b + 1 + (3 + ct)))))] := lv_cg (lvE (congrArg zI (rfl)) (lvR (lvR (lvR (rfl))))) hl
  exact loop2 _ M (0) (Nat.lt_succ_self _) (Nat.zero_le _) (rn_0 hf0 hp4 hps) H locs hW hS ls hl

set_option maxHeartbeats 4000000 in
set_option maxRecDepth 100000 in
theorem c_X6_readNumbers_2 (l : Launch) (g : GG) (ad : Nat → Nat) (hd9 : hD ad) (P : Nat → Nat) (M : Nat → Nat → Int32) (kk : KK) (b : Nat) (hb9 : b = 8 ∨ b = 27) (ct : Nat) (hc : ct < 3) (β : Nat → Nat) (n : Nat) (hn : n ≤ 740) (hz : M 1 0 = zI n) (hβ : ∀ i, i < 740 → M 2 i = zI (sbI (β i)) ∧ β i < 256) (ps : Nat) (hps : ps ≤ n) (hp4 : M 4 0 = zI ps) (hf0 : M 3 0 = zI 0) (at0 : Nat) (rd : Nat → Int32) : Met l yX6_readNumbers wsX6_readNumbers ({ frames := 3, cells := 0, slots := 0, locals := 64 }) (gkPc g kk ad [.ref ((ad 3)), .int (zI (2)), .ref ((ad (b + 1 + (9 + ct))))] (cw g ad P M)) (va_Qv (fun (u : Nat → Nat → Int32) => rnQ n M u (b + 1 + (9 + ct)) at0 2 (numP β n 2 at0 2 ps rd)) (fun (u : Nat → Nat → Int32) (tS : State) => cw g ad P u tS.heap) (hbA ad)) 0 0 (hbA ad) := by
  refine Met.ofW (cc := cX6_readNumbers) (maxL := 4) (ret := none) (by decide) rfl ?_
  intro p e s m args below meth c s₁ B hml hv
  obtain ⟨rfl, hW, hK, hC⟩ := hv
  have hx := B.exec
  have hb := B.bytes
  have hr := B.returns
  have hts := atoms_spec (ws := wsX6_readNumbers) B.pre
  have hown : s.vm.findClass RX6 = some m.cls := findClass_of_methodNamed B.named
  have hlocks := B.notSynchronized
  have hinX6 : ∀ w ∈ wsX60, w ∈ wsX6_readNumbers := by decide +kernel
  have hinX7 : ∀ w ∈ wsX70, w ∈ wsX6_readNumbers := by decide +kernel
  have k32 := hts (.fieldLink RX6 32 "HoursBank$TextReader" "faultKind" "I") (by decide +kernel)
  have k20 := hts (.fieldLink RX6 20 "HoursBank$TextReader" "tokens" "LHoursBank$Tokens;") (by decide +kernel)
  have k44 := hts (.fieldLink RX6 44 "HoursBank$Tokens" "kind" "I") (by decide +kernel)
  have k89 := hts (.fieldLink RX6 89 "HoursBank$Tokens" "number" "I") (by decide +kernel)
  have hl := lv_entry ([.ref ((ad 3)), .int (zI (2)), .ref ((ad (b + 1 + (9 + ct))))]) (n := 4) (Nat.le_of_ble_eq_true rfl)
  rw [lg_entry_eq]
  generalize (lg_sl ([.ref ((ad 3)), .int (zI (2)), .ref ((ad (b + 1 + (9 + ct))))]) ++ List.replicate (4 - (lg_sl ([.ref ((ad 3)), .int (zI (2)), .ref ((ad (b + 1 + (9 + ct))))])).length) Slot.unset).toArray = ls at hl ⊢
  have hl : lv_has ls 4 [(0, .ref ((ad 3))), (1, .int (zI (2))), (2, .ref ((ad (b + 1 + (9 + ct)))))] := hl
  have hS : va_S (hbA ad) s.heap s.heap [] := va_S.rf
  obtain ⟨H, hH9⟩ : ∃ H, H = s.heap := ⟨_, rfl⟩
  obtain ⟨locs, hL9⟩ : ∃ x9l : List Loc, x9l = [] := ⟨_, rfl⟩
  have hW : cw g ad P M H := hH9 ▸ hW
  have hS : va_S (hbA ad) s.heap H locs := by rw [hH9, hL9]; exact hS
  refine z_start hH9 hL9 ?_
  clear hH9 hL9
  have hex : ∀ j : Nat, M j = M j := fun _ => rfl
  refine lv_iconst (v := zI (0)) hx hb dX6_readNumbers_0 (by decide) ?_
  refine lv_istore_n (lv' := [(3, .int (zI (0))), (0, .ref ((ad 3))), (1, .int (zI (2))), (2, .ref ((ad (b + 1 + (9 + ct)))))]) hx hb dX6_readNumbers_1 rfl hl (by decide) rfl (fun ls hl => ?_)
  have loop2 : ∀ (K9 : Nat) (A : Nat → Nat → Int32) (i : Nat) (hK9 : 2 - i < K9) (hi : i ≤ 2) (hE : rnQ n M A (b + 1 + (9 + ct)) at0 i (numP β n 2 at0 i ps rd)) (H : Heap) (locs : List Loc) (hW : cw g ad P A H) (hS : va_S (hbA ad) s.heap H locs) (ls : Array Slot) (hl : lv_has ls 4 [(3, .int (zI (((i : Nat) : Int)))), (0, .ref ((ad 3))), (1, .int (zI (2))), (2, .ref ((ad (b + 1 + (9 + ct)))))]), W p l e (headSpec wsX6_readNumbers ({ frames := 3, cells := 0, slots := 0, locals := 64 })).room s m ([.ref ((ad 3)), .int (zI (2)), .ref ((ad (b + 1 + (9 + ct))))] : List Value).toArray below meth c H locs 0 0 (MQ below (va_Qv (fun (u : Nat → Nat → Int32) => rnQ n M u (b + 1 + (9 + ct)) at0 2 (numP β n 2 at0 2 ps rd)) (fun (u : Nat → Nat → Int32) (tS : State) => cw g ad P u tS.heap) (hbA ad)) ([.ref ((ad 3)), .int (zI (2)), .ref ((ad (b + 1 + (9 + ct))))] : List Value).toArray s 0 0 (hbA ad)) (F0 m 2 ls []) := by
    intro K9
    induction K9 with
    | zero => intro A i hK9; exact absurd hK9 (Nat.not_lt_zero _)
    | succ K9 ih =>
      intro A i hK9 hi hE H locs hW hS ls hl
      have hex : ∀ j : Nat, A j = A j := fun _ => rfl
      refine lv_iload_n hx hb dX6_readNumbers_2 rfl (lv_at hl 0 rfl) ?_
      refine lv_aload_n hx hb dX6_readNumbers_3 rfl (lv_at hl 3 rfl) ?_
      have r_b_1_9_ct : A (b + 1 + (9 + ct)) = A (b + 1 + (9 + ct)) := hex (b + 1 + (9 + ct)) 
      refine va_alen hx hb hK (hb1 hW (show b + 1 + (9 + ct) < 126 by omega) (lcE r_b_1_9_ct (sh_Rw9 (i := ct) hb9 (by omega)))) 0 0 rfl rfl (v := zI 2) (show Int32.ofNat 2 = zI 2 by decide) dX6_readNumbers_4 ?_
      refine z_icmp_ge (tgt := 81) hx hb dX6_readNumbers_5 (by decide) (by omega) (by omega) (fun h5 => ?_) (fun h5 => ?_)
      · exact W.vret hx hb hr (fun tX htX hWX => ⟨⟨A, rfl, rn_end (by omega) hE, g_at htX hW⟩, hS.F htX⟩) hS.2.2 dX6_readNumbers_81
      · obtain ⟨er, hx9⟩ | ⟨qr, hx9⟩ := pr_cases (numP β n 2 at0 i ps rd)
        · refine lv_aload_n hx hb dX6_readNumbers_8 rfl (lv_at hl 1 rfl) ?_
          obtain ⟨f0, f1, f2, f3, f4⟩ := hE.2.1.1 er hx9
          have r_3 : A (3) = A 3 := hex (3) 
          refine va_get (D := g.1) (ci := 6) (v := .int ((A 3) 0)) (C := RX6) (T := TX6) (N := 4) hx hb hts hinX6 hown hK (hb1 hW (show 3 < 126 by omega) (lcE r_3 sh_3)) 0 rfl rfl 2 (by decide) k32 (fun _ h9 => h9) rfl dX6_readNumbers_9 ?_
          refine z_top (y := zI (((er.1 : Nat) : Int))) (f0) ?_
          refine z_if_ne (tgt := 81) hx hb dX6_readNumbers_12 (by decide) (by omega) (fun h12 => ?_) (fun h12 => ?_)
          · exact W.vret hx hb hr (fun tX htX hWX => ⟨⟨A, rfl, rn_l hE hx9 (by omega), g_at htX hW⟩, hS.F htX⟩) hS.2.2 dX6_readNumbers_81
          · exfalso; omega
        · refine lv_aload_n hx hb dX6_readNumbers_8 rfl (lv_at hl 1 rfl) ?_
          obtain ⟨f0, f1, f2⟩ := hE.2.1.2 qr hx9
          obtain ⟨xv, hxv1, hxv2, hxv3⟩ := rn_x hps hE hx9
          have r_3 : A (3) = A 3 := hex (3) 
          refine va_get (D := g.1) (ci := 6) (v := .int ((A 3) 0)) (C := RX6) (T := TX6) (N := 4) hx hb hts hinX6 hown hK (hb1 hW (show 3 < 126 by omega) (lcE r_3 sh_3)) 0 rfl rfl 2 (by decide) k32 (fun _ h9 => h9) rfl dX6_readNumbers_9 ?_
          refine z_top (y := zI (0)) (f0) ?_
          refine z_if_ne (tgt := 81) hx hb dX6_readNumbers_12 (by decide) (by omega) (fun h12 => ?_) (fun h12 => ?_)
          · exfalso; omega
          · refine lv_aload_n hx hb dX6_readNumbers_15 rfl (lv_at hl 1 rfl) ?_
            refine va_get (D := g.1) (ci := 6) (v := .ref ((ad 4))) (C := RX6) (T := TX6) (N := 4) hx hb hts hinX6 hown hK (hb1 hW (show 3 < 126 by omega) (lcE r_3 sh_3)) 0 rfl rfl 1 (by decide) k20 (fun _ h9 => h9) rfl dX6_readNumbers_16 ?_
            have r_4 : A (4) = A 4 := hex (4) 
            refine va_callv (va_runV (As := []) (rest := []) ⟨hx, hb, hml, hown, hts⟩ (c_X7_advance l g (ad) (hd9) (P) (A) (β) (n) (hn) ((congrFun (hE.1 1 (by omega) (by omega) (by omega)) 0).trans hz) (fun i9 hi9 => ⟨(congrFun (hE.1 2 (by omega) (by omega) (by omega)) i9).trans (hβ i9 hi9).1, (hβ i9 hi9).2⟩) (qr.1) (f2) (f1)) (cwV 0 hts gX6_readNumbers_X7_advance rfl rfl rfl (by decide +kernel) ⟨Nat.le_of_ble_eq_true rfl, Nat.le_of_ble_eq_true rfl⟩) (g_preV hW hK (va_recv hK (hb1 hW (show 4 < 126 by omega) (lcE r_4 sh_4)) (q0 := 0) (ci := 7) rfl rfl)) rfl rfl hl.1 rfl (lv_room (Nat.le_of_ble_eq_true rfl)) dX6_readNumbers_19 ⟨Nat.le_of_ble_eq_true rfl, Nat.le_of_ble_eq_true rfl⟩) hS (fun q _ h => h) (fun q h => h) (fun u0 t9 H1 locs ht9 hvm9 hw9 hB9 hz9 hk9 hS => ?_)
            rw [ht9] at hB9
            clear hz9 hk9 hvm9 ht9
            generalize H1 = H at hB9 hS ⊢
            have hW := hB9
            clear hB9
            have hW : cw g ad P (va_up A (4) (tokR (A 4) β n qr.1)) H := hW
            obtain ⟨M2, hM2⟩ : ∃ x9c : Nat → Nat → Int32, x9c = va_up A (4) (tokR (A 4) β n qr.1) := ⟨_, rfl⟩
            have hW : cw g ad P M2 H := by rw [hM2]; exact hW
            have hex : ∀ j : Nat, ¬ j = 4 → M2 j = A j := fun j q0 => ((congrFun hM2 j).trans (up_ne _ _ q0)).trans (hex j )
            have r_b_1_9_ct : M2 (b + 1 + (9 + ct)) = A (b + 1 + (9 + ct)) := ((congrFun hM2 (b + 1 + (9 + ct))).trans (up_ne _ _ (by omega))).trans r_b_1_9_ct
            have r_3 : M2 (3) = A 3 := ((congrFun hM2 (3)).trans (up_ne _ _ (by omega))).trans r_3
            have r_4 : M2 (4) = tokR (A 4) β n qr.1 := ((congrFun hM2 _).trans (up_at _ _ _))
            have hkl := ki_le β n qr.1
            refine lv_aload_n hx hb dX6_readNumbers_22 rfl (lv_at hl 1 rfl) ?_
            refine va_get (D := g.1) (ci := 6) (v := .ref ((ad 4))) (C := RX6) (T := TX6) (N := 4) hx hb hts hinX6 hown hK (hb1 hW (show 3 < 126 by omega) (lcE r_3 sh_3)) 0 rfl rfl 1 (by decide) k20 (fun _ h9 => h9) rfl dX6_readNumbers_23 ?_
            refine va_get (D := g.1) (ci := 7) (v := .int ((tokR (A 4) β n qr.1) 1)) (C := RX7) (T := TX7) (N := 5) hx hb hts hinX7 hown hK (hb1 hW (show 4 < 126 by omega) (lcE r_4 sh_4)) 0 rfl rfl 2 (by decide) k44 (fun _ h9 => h9) rfl dX6_readNumbers_26 ?_
            refine z_top (y := zI (((cKi β n qr.1 : Nat) : Int))) (rfl) ?_
            refine lv_iconst (v := zI (2)) hx hb dX6_readNumbers_29 (by decide) ?_
            refine z_icmp_eq (tgt := 41) hx hb dX6_readNumbers_30 (by decide) (by omega) (by omega) (fun h30 => ?_) (fun h30 => ?_)
            · have hg3 := (tok_n (β := β) f2).mp (by omega)
              have hv9 := gV_le f2 hg3
              refine lv_iload_n hx hb dX6_readNumbers_41 rfl (lv_at hl 2 rfl) ?_
              refine lv_aload_n hx hb dX6_readNumbers_42 rfl (lv_at hl 3 rfl) ?_
              refine lv_iload_n hx hb dX6_readNumbers_43 rfl (lv_at hl 0 rfl) ?_
              refine lv_aload_n hx hb dX6_readNumbers_44 rfl (lv_at hl 1 rfl) ?_
              refine va_get (D := g.1) (ci := 6) (v := .ref ((ad 4))) (C := RX6) (T := TX6) (N := 4) hx hb hts hinX6 hown hK (hb1 hW (show 3 < 126 by omega) (lcE r_3 sh_3)) 0 rfl rfl 1 (by decide) k20 (fun _ h9 => h9) rfl dX6_readNumbers_45 ?_
              refine va_get (D := g.1) (ci := 7) (v := .int ((tokR (A 4) β n qr.1) 3)) (C := RX7) (T := TX7) (N := 5) hx hb hts hinX7 hown hK (hb1 hW (show 4 < 126 by omega) (lcE r_4 sh_4)) 0 rfl rfl 4 (by decide) k89 (fun _ h9 => h9) rfl dX6_readNumbers_48 ?_
              refine z_top (y := zI (((gV β n qr.1 : Nat) : Int))) (tok_nu f2 _ hg3) ?_
              refine va_calli (va_runS (As := [.int (zI (2)), .ref ((ad (b + 1 + (9 + ct)))), .int (zI (((i : Nat) : Int))), .int (zI (((gV β n qr.1 : Nat) : Int)))]) (rest := []) ⟨hx, hb, hml, hown, hts⟩ (c_X2_isAsTold_2 l g (ad) (hd9) (P) (M2) (kk) (b) (hb9) (ct) (hc) (i) (by omega) (gV β n qr.1) (xv) (hv9) (hxv1)) (va_cwS 4 hts gX6_readNumbers_X2_isAsTold rfl rfl rfl (by decide +kernel) ⟨Nat.le_of_ble_eq_true rfl, Nat.le_of_ble_eq_true rfl⟩) (gk_preS hW hK hC hS) rfl rfl hl.1 rfl (lv_room (Nat.le_of_ble_eq_true rfl)) dX6_readNumbers_51 ⟨Nat.le_of_ble_eq_true rfl, Nat.le_of_ble_eq_true rfl⟩) hS (fun q _ h => h) (fun q h => h) (fun r u2 t9 H1 locs ht9 hvm9 hw9 hB9 hz9 hk9 hS => ?_)
              rw [ht9] at hB9
              clear hz9 hk9 hvm9 ht9
              generalize H1 = H at hB9 hS ⊢
              have hW := hB9
              clear hB9
              have hW : cw g ad P M2 H := hW
              obtain rfl : r = zI (bz (loC 2 i xv ≤ (gV β n qr.1) ∧ (gV β n qr.1) ≤ sL 6 i)) := hw9
              refine z_bz_ne (tgt := 65) hx hb dX6_readNumbers_54 (by decide) (fun h54 => ?_) (fun h54 => ?_)
              · rw [hxv2] at h54
                refine lv_aload_n hx hb dX6_readNumbers_65 rfl (lv_at hl 3 rfl) ?_
                refine lv_iload_n hx hb dX6_readNumbers_66 rfl (lv_at hl 0 rfl) ?_
                refine lv_aload_n hx hb dX6_readNumbers_67 rfl (lv_at hl 1 rfl) ?_
                refine va_get (D := g.1) (ci := 6) (v := .ref ((ad 4))) (C := RX6) (T := TX6) (N := 4) hx hb hts hinX6 hown hK (hb1 hW (show 3 < 126 by omega) (lcE r_3 sh_3)) 0 rfl rfl 1 (by decide) k20 (fun _ h9 => h9) rfl dX6_readNumbers_68 ?_
                refine va_get (D := g.1) (ci := 7) (v := .int ((tokR (A 4) β n qr.1) 3)) (C := RX7) (T := TX7) (N := 5) hx hb hts hinX7 hown hK (hb1 hW (show 4 < 126 by omega) (lcE r_4 sh_4)) 0 rfl rfl 4 (by decide) k89 (fun _ h9 => h9) rfl dX6_readNumbers_71 ?_
                refine z_top (y := zI (((gV β n qr.1 : Nat) : Int))) (tok_nu f2 _ hg3) ?_
                refine y_iast hx hb hK hW hd9 hS (b + 1 + (9 + ct)) (show b + 1 + (9 + ct) < 126 by omega) (lcE r_b_1_9_ct (sh_Rw9 (i := ct) hb9 (by omega))) (by decide) (i) (by omega) (by omega) dX6_readNumbers_74 (fun H locs hW hS => ?_)
                have hW := cw_up (P := P) (M := M2) (f := upd (A (b + 1 + (9 + ct))) i (zI (((gV β n qr.1 : Nat) : Int)))) ((sh_Rw9 (i := ct) hb9 (by omega))) hW
                obtain ⟨M4, hM4⟩ : ∃ x9c : Nat → Nat → Int32, x9c = va_up M2 (b + 1 + (9 + ct)) (upd (A (b + 1 + (9 + ct))) i (zI (((gV β n qr.1 : Nat) : Int)))) := ⟨_, rfl⟩
                have hW : cw g ad P M4 H := by rw [hM4]; exact hW
                have hex : ∀ j : Nat, ¬ j = 4 → ¬ j = b + 1 + (9 + ct) → M4 j = A j := fun j q0 q1 => ((congrFun hM4 j).trans (up_ne _ _ q1)).trans (hex j q0)
                have r_3 : M4 (3) = A 3 := ((congrFun hM4 (3)).trans (up_ne _ _ (by omega))).trans r_3
                have r_4 : M4 (4) = tokR (A 4) β n qr.1 := ((congrFun hM4 (4)).trans (up_ne _ _ (by omega))).trans r_4
                have r_b_1_9_ct : M4 (b + 1 + (9 + ct)) = upd (A (b + 1 + (9 + ct))) i (zI (((gV β n qr.1 : Nat) : Int))) := ((congrFun hM4 _).trans (up_at _ _ _))
                refine z_iinc (lv' := [(3, .int (zI (((i : Nat) : Int) + 1))), (0, .ref ((ad 3))), (1, .int (zI (2))), (2, .ref ((ad (b + 1 + (9 + ct)))))]) hx hb dX6_readNumbers_75 hl (k := 0) rfl (by decide) rfl (fun ls hl => ?_)
                refine lv_goto (tgt := 2) hx hb dX6_readNumbers_78 (by decide) ?_
                have hl := lv_sub (l' := [(3, .int (zI (((i : Nat) : Int) + 1))), (0, .ref ((ad 3))), (1, .int (zI (2))), (2, .ref ((ad (b + 1 + (9 + ct)))))]) hl [0, 1, 2, 3] rfl
                have hl : lv_has ls 4 [(3, .int (zI ((((i + 1) : Nat) : Int)))), (0, .ref ((ad 3))), (1, .int (zI (2))), (2, .ref ((ad (b + 1 + (9 + ct)))))] := lv_cg (lvE (congrArg zI (by omega)) (lvR (lvR (lvR (rfl))))) hl
                exact ih M4 (i + 1) (by omega) (by omega) (rn_s (t := gTo β n qr.1) (v := gV β n qr.1) hE hx9 (by rw [num_1 hx9, tel_3 hg3 h54]) (gto_le f2).1 (by omega) (congrFun (hex 3 (by omega) (by omega)) 0) ((congrFun r_4 0).trans (tok_to f2 (by omega))) r_b_1_9_ct (fun j q1 q2 q3 => hex j (by omega) (by omega))) H locs hW hS ls hl
              · rw [hxv2] at h54
                refine lv_aload_n hx hb dX6_readNumbers_57 rfl (lv_at hl 1 rfl) ?_
                refine lv_iconst (v := zI (2)) hx hb dX6_readNumbers_58 (by decide) ?_
                have rk4 := r_4
                refine va_callv (va_runV (As := [.int (zI (2))]) (rest := []) ⟨hx, hb, hml, hown, hts⟩ (c_X6_fail l g (ad) (hd9) (P) (M2) (2)) (cwV 1 hts gX6_readNumbers_X6_fail rfl rfl rfl (by decide +kernel) ⟨Nat.le_of_ble_eq_true rfl, Nat.le_of_ble_eq_true rfl⟩) (g_preV hW hK (va_recv hK (hb1 hW (show 3 < 126 by omega) (lcE r_3 sh_3)) (q0 := 0) (ci := 6) rfl rfl)) rfl rfl hl.1 rfl (lv_room (Nat.le_of_ble_eq_true rfl)) dX6_readNumbers_59 ⟨Nat.le_of_ble_eq_true rfl, Nat.le_of_ble_eq_true rfl⟩) hS (fun q _ h => h) (fun q h => h) (fun u4 t9 H1 locs ht9 hvm9 hw9 hB9 hz9 hk9 hS => ?_)
                rw [ht9] at hB9
                clear hz9 hk9 hvm9 ht9
                generalize H1 = H at hB9 hS ⊢
                have hW := hB9
                clear hB9
                have hW : cw g ad P (va_up M2 (3) (upd (upd (M2 3) 0 (zI (2))) 1 (M2 4 2))) H := hW
                obtain ⟨M6, hM6⟩ : ∃ x9c : Nat → Nat → Int32, x9c = va_up M2 (3) (upd (upd (M2 3) 0 (zI (2))) 1 (M2 4 2)) := ⟨_, rfl⟩
                have hW : cw g ad P M6 H := by rw [hM6]; exact hW
                have hex : ∀ j : Nat, ¬ j = 4 → ¬ j = 3 → M6 j = A j := fun j q0 q1 => ((congrFun hM6 j).trans (up_ne _ _ q1)).trans (hex j q0)
                have r_b_1_9_ct : M6 (b + 1 + (9 + ct)) = A (b + 1 + (9 + ct)) := ((congrFun hM6 (b + 1 + (9 + ct))).trans (up_ne _ _ (by omega))).trans r_b_1_9_ct
                have r_4 : M6 (4) = tokR (A 4) β n qr.1 := ((congrFun hM6 (4)).trans (up_ne _ _ (by omega))).trans r_4
                have r_3 : M6 (3) = upd (upd (M2 3) 0 (zI (2))) 1 (M2 4 2) := ((congrFun hM6 _).trans (up_at _ _ _))
                refine lv_goto (tgt := 75) hx hb dX6_readNumbers_62 (by decide) ?_
                refine z_iinc (lv' := [(3, .int (zI (((i : Nat) : Int) + 1))), (0, .ref ((ad 3))), (1, .int (zI (2))), (2, .ref ((ad (b + 1 + (9 + ct)))))]) hx hb dX6_readNumbers_75 hl (k := 0) rfl (by decide) rfl (fun ls hl => ?_)
                refine lv_goto (tgt := 2) hx hb dX6_readNumbers_78 (by decide) ?_
                have hl := lv_sub (l' := [(3, .int (zI (((i : Nat) : Int) + 1))), (0, .ref ((ad 3))), (1, .int (zI (2))), (2, .ref ((ad (b + 1 + (9 + ct)))))]) hl [0, 1, 2, 3] rfl
                have hl : lv_has ls 4 [(3, .int (zI ((((i + 1) : Nat) : Int)))), (0, .ref ((ad 3))), (1, .int (zI (2))), (2, .ref ((ad (b + 1 + (9 + ct)))))] := lv_cg (lvE (congrArg zI (by omega)) (lvR (lvR (lvR (rfl))))) hl
                exact ih M6 (i + 1) (by omega) (by omega) (rn_f (a := 2) (b := gFr β n qr.1) hE (by rw [num_1 hx9, tel_2 hg3 h54]) (by omega) (gfr_7 f2 hn) (by rw [r_3]; rfl) ((congrFun r_3 1).trans ((upd_at _ _ _).trans ((congrFun rk4 2).trans (tok_fr f2)))) (fun j q1 q2 => hex j (by omega) (by omega))) H locs hW hS ls hl
            · have hg3 : ¬ gSo β n qr.1 = 3 := fun z9 => by have := (tok_n (β := β) f2).mpr z9; omega
              refine lv_aload_n hx hb dX6_readNumbers_33 rfl (lv_at hl 1 rfl) ?_
              refine lv_iconst (v := zI (1)) hx hb dX6_readNumbers_34 (by decide) ?_
              have rk4 := r_4
              refine va_callv (va_runV (As := [.int (zI (1))]) (rest := []) ⟨hx, hb, hml, hown, hts⟩ (c_X6_fail l g (ad) (hd9) (P) (M2) (1)) (cwV 1 hts gX6_readNumbers_X6_fail rfl rfl rfl (by decide +kernel) ⟨Nat.le_of_ble_eq_true rfl, Nat.le_of_ble_eq_true rfl⟩) (g_preV hW hK (va_recv hK (hb1 hW (show 3 < 126 by omega) (lcE r_3 sh_3)) (q0 := 0) (ci := 6) rfl rfl)) rfl rfl hl.1 rfl (lv_room (Nat.le_of_ble_eq_true rfl)) dX6_readNumbers_35 ⟨Nat.le_of_ble_eq_true rfl, Nat.le_of_ble_eq_true rfl⟩) hS (fun q _ h => h) (fun q h => h) (fun u6 t9 H1 locs ht9 hvm9 hw9 hB9 hz9 hk9 hS => ?_)
              rw [ht9] at hB9
              clear hz9 hk9 hvm9 ht9
              generalize H1 = H at hB9 hS ⊢
              have hW := hB9
              clear hB9
              have hW : cw g ad P (va_up M2 (3) (upd (upd (M2 3) 0 (zI (1))) 1 (M2 4 2))) H := hW
              obtain ⟨M8, hM8⟩ : ∃ x9c : Nat → Nat → Int32, x9c = va_up M2 (3) (upd (upd (M2 3) 0 (zI (1))) 1 (M2 4 2)) := ⟨_, rfl⟩
              have hW : cw g ad P M8 H := by rw [hM8]; exact hW
              have hex : ∀ j : Nat, ¬ j = 4 → ¬ j = 3 → M8 j = A j := fun j q0 q1 => ((congrFun hM8 j).trans (up_ne _ _ q1)).trans (hex j q0)
              have r_b_1_9_ct : M8 (b + 1 + (9 + ct)) = A (b + 1 + (9 + ct)) := ((congrFun hM8 (b + 1 + (9 + ct))).trans (up_ne _ _ (by omega))).trans r_b_1_9_ct
              have r_4 : M8 (4) = tokR (A 4) β n qr.1 := ((congrFun hM8 (4)).trans (up_ne _ _ (by omega))).trans r_4
              have r_3 : M8 (3) = upd (upd (M2 3) 0 (zI (1))) 1 (M2 4 2) := ((congrFun hM8 _).trans (up_at _ _ _))
              refine lv_goto (tgt := 75) hx hb dX6_readNumbers_38 (by decide) ?_
              refine z_iinc (lv' := [(3, .int (zI (((i : Nat) : Int) + 1))), (0, .ref ((ad 3))), (1, .int (zI (2))), (2, .ref ((ad (b + 1 + (9 + ct)))))]) hx hb dX6_readNumbers_75 hl (k := 0) rfl (by decide) rfl (fun ls hl => ?_)
              refine lv_goto (tgt := 2) hx hb dX6_readNumbers_78 (by decide) ?_
              have hl := lv_sub (l' := [(3, .int (zI (((i : Nat) : Int) + 1))), (0, .ref ((ad 3))), (1, .int (zI (2))), (2, .ref ((ad (b + 1 + (9 + ct)))))]) hl [0, 1, 2, 3] rfl
              have hl : lv_has ls 4 [(3, .int (zI ((((i + 1) : Nat) : Int)))), (0, .ref ((ad 3))), (1, .int (zI (2))), (2, .ref ((ad (b + 1 + (9 + ct)))))] := lv_cg (lvE (congrArg zI (by omega)) (lvR (lvR (lvR (rfl))))) hl
              exact ih M8 (i + 1) (by omega) (by omega) (rn_f (a := 1) (b := gFr β n qr.1) hE (by rw [num_1 hx9, tel_1 hg3]) (by omega) (gfr_7 f2 hn) (by rw [r_3]; rfl) ((congrFun r_3 1).trans ((upd_at _ _ _).trans ((congrFun rk4 2).trans (tok_fr f2)))) (fun j q1 q2 => hex j (by omega) (by omega))) H locs hW hS ls hl
  have hl := lv_sub (l' := [(3, .int (zI (0))), (0, .ref ((ad 3))), (1, .int (zI (2))), (2, .ref ((ad (b + 1 + (9 + ct)))))]) hl [0, 1, 2, 3] rfl
  have hl : lv_has ls 4 [(3, .int (zI (((0 : Nat) : Int)))), (0, .ref ((ad 3))), (1, .int (zI (2))), (2, .ref ((ad (b + 1 + (9 + ct)))))] := lv_cg (lvE (congrArg zI (rfl)) (lvR (lvR (lvR (rfl))))) hl
  exact loop2 _ M (0) (Nat.lt_succ_self _) (Nat.zero_le _) (rn_0 hf0 hp4 hps) H locs hW hS ls hl

set_option maxHeartbeats 4000000 in
set_option maxRecDepth 100000 in
theorem c_X6_readNumbers_3 (l : Launch) (g : GG) (ad : Nat → Nat) (hd9 : hD ad) (P : Nat → Nat) (M : Nat → Nat → Int32) (kk : KK) (b : Nat) (hb9 : b = 8 ∨ b = 27) (ct : Nat) (hc : ct < 4) (β : Nat → Nat) (n : Nat) (hn : n ≤ 740) (hz : M 1 0 = zI n) (hβ : ∀ i, i < 740 → M 2 i = zI (sbI (β i)) ∧ β i < 256) (ps : Nat) (hps : ps ≤ n) (hp4 : M 4 0 = zI ps) (hf0 : M 3 0 = zI 0) (at0 : Nat) (rd : Nat → Int32) : Met l yX6_readNumbers wsX6_readNumbers ({ frames := 3, cells := 0, slots := 0, locals := 64 }) (gkPc g kk ad [.ref ((ad 3)), .int (zI (3)), .ref ((ad (b + 1 + (13 + ct))))] (cw g ad P M)) (va_Qv (fun (u : Nat → Nat → Int32) => rnQ n M u (b + 1 + (13 + ct)) at0 2 (numP β n 3 at0 2 ps rd)) (fun (u : Nat → Nat → Int32) (tS : State) => cw g ad P u tS.heap) (hbA ad)) 0 0 (hbA ad) := by
  refine Met.ofW (cc := cX6_readNumbers) (maxL := 4) (ret := none) (by decide) rfl ?_
  intro p e s m args below meth c s₁ B hml hv
  obtain ⟨rfl, hW, hK, hC⟩ := hv
  have hx := B.exec
  have hb := B.bytes
  have hr := B.returns
  have hts := atoms_spec (ws := wsX6_readNumbers) B.pre
  have hown : s.vm.findClass RX6 = some m.cls := findClass_of_methodNamed B.named
  have hlocks := B.notSynchronized
  have hinX6 : ∀ w ∈ wsX60, w ∈ wsX6_readNumbers := by decide +kernel
  have hinX7 : ∀ w ∈ wsX70, w ∈ wsX6_readNumbers := by decide +kernel
  have k32 := hts (.fieldLink RX6 32 "HoursBank$TextReader" "faultKind" "I") (by decide +kernel)
  have k20 := hts (.fieldLink RX6 20 "HoursBank$TextReader" "tokens" "LHoursBank$Tokens;") (by decide +kernel)
  have k44 := hts (.fieldLink RX6 44 "HoursBank$Tokens" "kind" "I") (by decide +kernel)
  have k89 := hts (.fieldLink RX6 89 "HoursBank$Tokens" "number" "I") (by decide +kernel)
  have hl := lv_entry ([.ref ((ad 3)), .int (zI (3)), .ref ((ad (b + 1 + (13 + ct))))]) (n := 4) (Nat.le_of_ble_eq_true rfl)
  rw [lg_entry_eq]
  generalize (lg_sl ([.ref ((ad 3)), .int (zI (3)), .ref ((ad (b + 1 + (13 + ct))))]) ++ List.replicate (4 - (lg_sl ([.ref ((ad 3)), .int (zI (3)), .ref ((ad (b + 1 + (13 + ct))))])).length) Slot.unset).toArray = ls at hl ⊢
  have hl : lv_has ls 4 [(0, .ref ((ad 3))), (1, .int (zI (3))), (2, .ref ((ad (b + 1 + (13 + ct)))))] := hl
  have hS : va_S (hbA ad) s.heap s.heap [] := va_S.rf
  obtain ⟨H, hH9⟩ : ∃ H, H = s.heap := ⟨_, rfl⟩
  obtain ⟨locs, hL9⟩ : ∃ x9l : List Loc, x9l = [] := ⟨_, rfl⟩
  have hW : cw g ad P M H := hH9 ▸ hW
  have hS : va_S (hbA ad) s.heap H locs := by rw [hH9, hL9]; exact hS
  refine z_start hH9 hL9 ?_
  clear hH9 hL9
  have hex : ∀ j : Nat, M j = M j := fun _ => rfl
  refine lv_iconst (v := zI (0)) hx hb dX6_readNumbers_0 (by decide) ?_
  refine lv_istore_n (lv' := [(3, .int (zI (0))), (0, .ref ((ad 3))), (1, .int (zI (3))), (2, .ref ((ad (b + 1 + (13 + ct)))))]) hx hb dX6_readNumbers_1 rfl hl (by decide) rfl (fun ls hl => ?_)
  have loop2 : ∀ (K9 : Nat) (A : Nat → Nat → Int32) (i : Nat) (hK9 : 2 - i < K9) (hi : i ≤ 2) (hE : rnQ n M A (b + 1 + (13 + ct)) at0 i (numP β n 3 at0 i ps rd)) (H : Heap) (locs : List Loc) (hW : cw g ad P A H) (hS : va_S (hbA ad) s.heap H locs) (ls : Array Slot) (hl : lv_has ls 4 [(3, .int (zI (((i : Nat) : Int)))), (0, .ref ((ad 3))), (1, .int (zI (3))), (2, .ref ((ad (b + 1 + (13 + ct)))))]), W p l e (headSpec wsX6_readNumbers ({ frames := 3, cells := 0, slots := 0, locals := 64 })).room s m ([.ref ((ad 3)), .int (zI (3)), .ref ((ad (b + 1 + (13 + ct))))] : List Value).toArray below meth c H locs 0 0 (MQ below (va_Qv (fun (u : Nat → Nat → Int32) => rnQ n M u (b + 1 + (13 + ct)) at0 2 (numP β n 3 at0 2 ps rd)) (fun (u : Nat → Nat → Int32) (tS : State) => cw g ad P u tS.heap) (hbA ad)) ([.ref ((ad 3)), .int (zI (3)), .ref ((ad (b + 1 + (13 + ct))))] : List Value).toArray s 0 0 (hbA ad)) (F0 m 2 ls []) := by
    intro K9
    induction K9 with
    | zero => intro A i hK9; exact absurd hK9 (Nat.not_lt_zero _)
    | succ K9 ih =>
      intro A i hK9 hi hE H locs hW hS ls hl
      have hex : ∀ j : Nat, A j = A j := fun _ => rfl
      refine lv_iload_n hx hb dX6_readNumbers_2 rfl (lv_at hl 0 rfl) ?_
      refine lv_aload_n hx hb dX6_readNumbers_3 rfl (lv_at hl 3 rfl) ?_
      have r_b_1_13_ct : A (b + 1 + (13 + ct)) = A (b + 1 + (13 + ct)) := hex (b + 1 + (13 + ct)) 
      refine va_alen hx hb hK (hb1 hW (show b + 1 + (13 + ct) < 126 by omega) (lcE r_b_1_13_ct (sh_Rw13 (i := ct) hb9 (by omega)))) 0 0 rfl rfl (v := zI 2) (show Int32.ofNat 2 = zI 2 by decide) dX6_readNumbers_4 ?_
      refine z_icmp_ge (tgt := 81) hx hb dX6_readNumbers_5 (by decide) (by omega) (by omega) (fun h5 => ?_) (fun h5 => ?_)
      · exact W.vret hx hb hr (fun tX htX hWX => ⟨⟨A, rfl, rn_end (by omega) hE, g_at htX hW⟩, hS.F htX⟩) hS.2.2 dX6_readNumbers_81
      · obtain ⟨er, hx9⟩ | ⟨qr, hx9⟩ := pr_cases (numP β n 3 at0 i ps rd)
        · refine lv_aload_n hx hb dX6_readNumbers_8 rfl (lv_at hl 1 rfl) ?_
          obtain ⟨f0, f1, f2, f3, f4⟩ := hE.2.1.1 er hx9
          have r_3 : A (3) = A 3 := hex (3) 
          refine va_get (D := g.1) (ci := 6) (v := .int ((A 3) 0)) (C := RX6) (T := TX6) (N := 4) hx hb hts hinX6 hown hK (hb1 hW (show 3 < 126 by omega) (lcE r_3 sh_3)) 0 rfl rfl 2 (by decide) k32 (fun _ h9 => h9) rfl dX6_readNumbers_9 ?_
          refine z_top (y := zI (((er.1 : Nat) : Int))) (f0) ?_
          refine z_if_ne (tgt := 81) hx hb dX6_readNumbers_12 (by decide) (by omega) (fun h12 => ?_) (fun h12 => ?_)
          · exact W.vret hx hb hr (fun tX htX hWX => ⟨⟨A, rfl, rn_l hE hx9 (by omega), g_at htX hW⟩, hS.F htX⟩) hS.2.2 dX6_readNumbers_81
          · exfalso; omega
        · refine lv_aload_n hx hb dX6_readNumbers_8 rfl (lv_at hl 1 rfl) ?_
          obtain ⟨f0, f1, f2⟩ := hE.2.1.2 qr hx9
          obtain ⟨xv, hxv1, hxv2, hxv3⟩ := rn_x hps hE hx9
          have r_3 : A (3) = A 3 := hex (3) 
          refine va_get (D := g.1) (ci := 6) (v := .int ((A 3) 0)) (C := RX6) (T := TX6) (N := 4) hx hb hts hinX6 hown hK (hb1 hW (show 3 < 126 by omega) (lcE r_3 sh_3)) 0 rfl rfl 2 (by decide) k32 (fun _ h9 => h9) rfl dX6_readNumbers_9 ?_
          refine z_top (y := zI (0)) (f0) ?_
          refine z_if_ne (tgt := 81) hx hb dX6_readNumbers_12 (by decide) (by omega) (fun h12 => ?_) (fun h12 => ?_)
          · exfalso; omega
          · refine lv_aload_n hx hb dX6_readNumbers_15 rfl (lv_at hl 1 rfl) ?_
            refine va_get (D := g.1) (ci := 6) (v := .ref ((ad 4))) (C := RX6) (T := TX6) (N := 4) hx hb hts hinX6 hown hK (hb1 hW (show 3 < 126 by omega) (lcE r_3 sh_3)) 0 rfl rfl 1 (by decide) k20 (fun _ h9 => h9) rfl dX6_readNumbers_16 ?_
            have r_4 : A (4) = A 4 := hex (4) 
            refine va_callv (va_runV (As := []) (rest := []) ⟨hx, hb, hml, hown, hts⟩ (c_X7_advance l g (ad) (hd9) (P) (A) (β) (n) (hn) ((congrFun (hE.1 1 (by omega) (by omega) (by omega)) 0).trans hz) (fun i9 hi9 => ⟨(congrFun (hE.1 2 (by omega) (by omega) (by omega)) i9).trans (hβ i9 hi9).1, (hβ i9 hi9).2⟩) (qr.1) (f2) (f1)) (cwV 0 hts gX6_readNumbers_X7_advance rfl rfl rfl (by decide +kernel) ⟨Nat.le_of_ble_eq_true rfl, Nat.le_of_ble_eq_true rfl⟩) (g_preV hW hK (va_recv hK (hb1 hW (show 4 < 126 by omega) (lcE r_4 sh_4)) (q0 := 0) (ci := 7) rfl rfl)) rfl rfl hl.1 rfl (lv_room (Nat.le_of_ble_eq_true rfl)) dX6_readNumbers_19 ⟨Nat.le_of_ble_eq_true rfl, Nat.le_of_ble_eq_true rfl⟩) hS (fun q _ h => h) (fun q h => h) (fun u0 t9 H1 locs ht9 hvm9 hw9 hB9 hz9 hk9 hS => ?_)
            rw [ht9] at hB9
            clear hz9 hk9 hvm9 ht9
            generalize H1 = H at hB9 hS ⊢
            have hW := hB9
            clear hB9
            have hW : cw g ad P (va_up A (4) (tokR (A 4) β n qr.1)) H := hW
            obtain ⟨M2, hM2⟩ : ∃ x9c : Nat → Nat → Int32, x9c = va_up A (4) (tokR (A 4) β n qr.1) := ⟨_, rfl⟩
            have hW : cw g ad P M2 H := by rw [hM2]; exact hW
            have hex : ∀ j : Nat, ¬ j = 4 → M2 j = A j := fun j q0 => ((congrFun hM2 j).trans (up_ne _ _ q0)).trans (hex j )
            have r_b_1_13_ct : M2 (b + 1 + (13 + ct)) = A (b + 1 + (13 + ct)) := ((congrFun hM2 (b + 1 + (13 + ct))).trans (up_ne _ _ (by omega))).trans r_b_1_13_ct
            have r_3 : M2 (3) = A 3 := ((congrFun hM2 (3)).trans (up_ne _ _ (by omega))).trans r_3
            have r_4 : M2 (4) = tokR (A 4) β n qr.1 := ((congrFun hM2 _).trans (up_at _ _ _))
            have hkl := ki_le β n qr.1
            refine lv_aload_n hx hb dX6_readNumbers_22 rfl (lv_at hl 1 rfl) ?_
            refine va_get (D := g.1) (ci := 6) (v := .ref ((ad 4))) (C := RX6) (T := TX6) (N := 4) hx hb hts hinX6 hown hK (hb1 hW (show 3 < 126 by omega) (lcE r_3 sh_3)) 0 rfl rfl 1 (by decide) k20 (fun _ h9 => h9) rfl dX6_readNumbers_23 ?_
            refine va_get (D := g.1) (ci := 7) (v := .int ((tokR (A 4) β n qr.1) 1)) (C := RX7) (T := TX7) (N := 5) hx hb hts hinX7 hown hK (hb1 hW (show 4 < 126 by omega) (lcE r_4 sh_4)) 0 rfl rfl 2 (by decide) k44 (fun _ h9 => h9) rfl dX6_readNumbers_26 ?_
            refine z_top (y := zI (((cKi β n qr.1 : Nat) : Int))) (rfl) ?_
            refine lv_iconst (v := zI (2)) hx hb dX6_readNumbers_29 (by decide) ?_
            refine z_icmp_eq (tgt := 41) hx hb dX6_readNumbers_30 (by decide) (by omega) (by omega) (fun h30 => ?_) (fun h30 => ?_)
            · have hg3 := (tok_n (β := β) f2).mp (by omega)
              have hv9 := gV_le f2 hg3
              refine lv_iload_n hx hb dX6_readNumbers_41 rfl (lv_at hl 2 rfl) ?_
              refine lv_aload_n hx hb dX6_readNumbers_42 rfl (lv_at hl 3 rfl) ?_
              refine lv_iload_n hx hb dX6_readNumbers_43 rfl (lv_at hl 0 rfl) ?_
              refine lv_aload_n hx hb dX6_readNumbers_44 rfl (lv_at hl 1 rfl) ?_
              refine va_get (D := g.1) (ci := 6) (v := .ref ((ad 4))) (C := RX6) (T := TX6) (N := 4) hx hb hts hinX6 hown hK (hb1 hW (show 3 < 126 by omega) (lcE r_3 sh_3)) 0 rfl rfl 1 (by decide) k20 (fun _ h9 => h9) rfl dX6_readNumbers_45 ?_
              refine va_get (D := g.1) (ci := 7) (v := .int ((tokR (A 4) β n qr.1) 3)) (C := RX7) (T := TX7) (N := 5) hx hb hts hinX7 hown hK (hb1 hW (show 4 < 126 by omega) (lcE r_4 sh_4)) 0 rfl rfl 4 (by decide) k89 (fun _ h9 => h9) rfl dX6_readNumbers_48 ?_
              refine z_top (y := zI (((gV β n qr.1 : Nat) : Int))) (tok_nu f2 _ hg3) ?_
              refine va_calli (va_runS (As := [.int (zI (3)), .ref ((ad (b + 1 + (13 + ct)))), .int (zI (((i : Nat) : Int))), .int (zI (((gV β n qr.1 : Nat) : Int)))]) (rest := []) ⟨hx, hb, hml, hown, hts⟩ (c_X2_isAsTold_3 l g (ad) (hd9) (P) (M2) (kk) (b) (hb9) (ct) (hc) (i) (by omega) (gV β n qr.1) (xv) (hv9) (hxv1)) (va_cwS 4 hts gX6_readNumbers_X2_isAsTold rfl rfl rfl (by decide +kernel) ⟨Nat.le_of_ble_eq_true rfl, Nat.le_of_ble_eq_true rfl⟩) (gk_preS hW hK hC hS) rfl rfl hl.1 rfl (lv_room (Nat.le_of_ble_eq_true rfl)) dX6_readNumbers_51 ⟨Nat.le_of_ble_eq_true rfl, Nat.le_of_ble_eq_true rfl⟩) hS (fun q _ h => h) (fun q h => h) (fun r u2 t9 H1 locs ht9 hvm9 hw9 hB9 hz9 hk9 hS => ?_)
              rw [ht9] at hB9
              clear hz9 hk9 hvm9 ht9
              generalize H1 = H at hB9 hS ⊢
              have hW := hB9
              clear hB9
              have hW : cw g ad P M2 H := hW
              obtain rfl : r = zI (bz (loC 3 i xv ≤ (gV β n qr.1) ∧ (gV β n qr.1) ≤ sL 7 i)) := hw9
              refine z_bz_ne (tgt := 65) hx hb dX6_readNumbers_54 (by decide) (fun h54 => ?_) (fun h54 => ?_)
              · rw [hxv2] at h54
                refine lv_aload_n hx hb dX6_readNumbers_65 rfl (lv_at hl 3 rfl) ?_
                refine lv_iload_n hx hb dX6_readNumbers_66 rfl (lv_at hl 0 rfl) ?_
                refine lv_aload_n hx hb dX6_readNumbers_67 rfl (lv_at hl 1 rfl) ?_
                refine va_get (D := g.1) (ci := 6) (v := .ref ((ad 4))) (C := RX6) (T := TX6) (N := 4) hx hb hts hinX6 hown hK (hb1 hW (show 3 < 126 by omega) (lcE r_3 sh_3)) 0 rfl rfl 1 (by decide) k20 (fun _ h9 => h9) rfl dX6_readNumbers_68 ?_
                refine va_get (D := g.1) (ci := 7) (v := .int ((tokR (A 4) β n qr.1) 3)) (C := RX7) (T := TX7) (N := 5) hx hb hts hinX7 hown hK (hb1 hW (show 4 < 126 by omega) (lcE r_4 sh_4)) 0 rfl rfl 4 (by decide) k89 (fun _ h9 => h9) rfl dX6_readNumbers_71 ?_
                refine z_top (y := zI (((gV β n qr.1 : Nat) : Int))) (tok_nu f2 _ hg3) ?_
                refine y_iast hx hb hK hW hd9 hS (b + 1 + (13 + ct)) (show b + 1 + (13 + ct) < 126 by omega) (lcE r_b_1_13_ct (sh_Rw13 (i := ct) hb9 (by omega))) (by decide) (i) (by omega) (by omega) dX6_readNumbers_74 (fun H locs hW hS => ?_)
                have hW := cw_up (P := P) (M := M2) (f := upd (A (b + 1 + (13 + ct))) i (zI (((gV β n qr.1 : Nat) : Int)))) ((sh_Rw13 (i := ct) hb9 (by omega))) hW
                obtain ⟨M4, hM4⟩ : ∃ x9c : Nat → Nat → Int32, x9c = va_up M2 (b + 1 + (13 + ct)) (upd (A (b + 1 + (13 + ct))) i (zI (((gV β n qr.1 : Nat) : Int)))) := ⟨_, rfl⟩
                have hW : cw g ad P M4 H := by rw [hM4]; exact hW
                have hex : ∀ j : Nat, ¬ j = 4 → ¬ j = b + 1 + (13 + ct) → M4 j = A j := fun j q0 q1 => ((congrFun hM4 j).trans (up_ne _ _ q1)).trans (hex j q0)
                have r_3 : M4 (3) = A 3 := ((congrFun hM4 (3)).trans (up_ne _ _ (by omega))).trans r_3
                have r_4 : M4 (4) = tokR (A 4) β n qr.1 := ((congrFun hM4 (4)).trans (up_ne _ _ (by omega))).trans r_4
                have r_b_1_13_ct : M4 (b + 1 + (13 + ct)) = upd (A (b + 1 + (13 + ct))) i (zI (((gV β n qr.1 : Nat) : Int))) := ((congrFun hM4 _).trans (up_at _ _ _))
                refine z_iinc (lv' := [(3, .int (zI (((i : Nat) : Int) + 1))), (0, .ref ((ad 3))), (1, .int (zI (3))), (2, .ref ((ad (b + 1 + (13 + ct)))))]) hx hb dX6_readNumbers_75 hl (k := 0) rfl (by decide) rfl (fun ls hl => ?_)
                refine lv_goto (tgt := 2) hx hb dX6_readNumbers_78 (by decide) ?_
                have hl := lv_sub (l' := [(3, .int (zI (((i : Nat) : Int) + 1))), (0, .ref ((ad 3))), (1, .int (zI (3))), (2, .ref ((ad (b + 1 + (13 + ct)))))]) hl [0, 1, 2, 3] rfl
                have hl : lv_has ls 4 [(3, .int (zI ((((i + 1) : Nat) : Int)))), (0, .ref ((ad 3))), (1, .int (zI (3))), (2, .ref ((ad (b + 1 + (13 + ct)))))] := lv_cg (lvE (congrArg zI (by omega)) (lvR (lvR (lvR (rfl))))) hl
                exact ih M4 (i + 1) (by omega) (by omega) (rn_s (t := gTo β n qr.1) (v := gV β n qr.1) hE hx9 (by rw [num_1 hx9, tel_3 hg3 h54]) (gto_le f2).1 (by omega) (congrFun (hex 3 (by omega) (by omega)) 0) ((congrFun r_4 0).trans (tok_to f2 (by omega))) r_b_1_13_ct (fun j q1 q2 q3 => hex j (by omega) (by omega))) H locs hW hS ls hl
              · rw [hxv2] at h54
                refine lv_aload_n hx hb dX6_readNumbers_57 rfl (lv_at hl 1 rfl) ?_
                refine lv_iconst (v := zI (2)) hx hb dX6_readNumbers_58 (by decide) ?_
                have rk4 := r_4
                refine va_callv (va_runV (As := [.int (zI (2))]) (rest := []) ⟨hx, hb, hml, hown, hts⟩ (c_X6_fail l g (ad) (hd9) (P) (M2) (2)) (cwV 1 hts gX6_readNumbers_X6_fail rfl rfl rfl (by decide +kernel) ⟨Nat.le_of_ble_eq_true rfl, Nat.le_of_ble_eq_true rfl⟩) (g_preV hW hK (va_recv hK (hb1 hW (show 3 < 126 by omega) (lcE r_3 sh_3)) (q0 := 0) (ci := 6) rfl rfl)) rfl rfl hl.1 rfl (lv_room (Nat.le_of_ble_eq_true rfl)) dX6_readNumbers_59 ⟨Nat.le_of_ble_eq_true rfl, Nat.le_of_ble_eq_true rfl⟩) hS (fun q _ h => h) (fun q h => h) (fun u4 t9 H1 locs ht9 hvm9 hw9 hB9 hz9 hk9 hS => ?_)
                rw [ht9] at hB9
                clear hz9 hk9 hvm9 ht9
                generalize H1 = H at hB9 hS ⊢
                have hW := hB9
                clear hB9
                have hW : cw g ad P (va_up M2 (3) (upd (upd (M2 3) 0 (zI (2))) 1 (M2 4 2))) H := hW
                obtain ⟨M6, hM6⟩ : ∃ x9c : Nat → Nat → Int32, x9c = va_up M2 (3) (upd (upd (M2 3) 0 (zI (2))) 1 (M2 4 2)) := ⟨_, rfl⟩
                have hW : cw g ad P M6 H := by rw [hM6]; exact hW
                have hex : ∀ j : Nat, ¬ j = 4 → ¬ j = 3 → M6 j = A j := fun j q0 q1 => ((congrFun hM6 j).trans (up_ne _ _ q1)).trans (hex j q0)
                have r_b_1_13_ct : M6 (b + 1 + (13 + ct)) = A (b + 1 + (13 + ct)) := ((congrFun hM6 (b + 1 + (13 + ct))).trans (up_ne _ _ (by omega))).trans r_b_1_13_ct
                have r_4 : M6 (4) = tokR (A 4) β n qr.1 := ((congrFun hM6 (4)).trans (up_ne _ _ (by omega))).trans r_4
                have r_3 : M6 (3) = upd (upd (M2 3) 0 (zI (2))) 1 (M2 4 2) := ((congrFun hM6 _).trans (up_at _ _ _))
                refine lv_goto (tgt := 75) hx hb dX6_readNumbers_62 (by decide) ?_
                refine z_iinc (lv' := [(3, .int (zI (((i : Nat) : Int) + 1))), (0, .ref ((ad 3))), (1, .int (zI (3))), (2, .ref ((ad (b + 1 + (13 + ct)))))]) hx hb dX6_readNumbers_75 hl (k := 0) rfl (by decide) rfl (fun ls hl => ?_)
                refine lv_goto (tgt := 2) hx hb dX6_readNumbers_78 (by decide) ?_
                have hl := lv_sub (l' := [(3, .int (zI (((i : Nat) : Int) + 1))), (0, .ref ((ad 3))), (1, .int (zI (3))), (2, .ref ((ad (b + 1 + (13 + ct)))))]) hl [0, 1, 2, 3] rfl
                have hl : lv_has ls 4 [(3, .int (zI ((((i + 1) : Nat) : Int)))), (0, .ref ((ad 3))), (1, .int (zI (3))), (2, .ref ((ad (b + 1 + (13 + ct)))))] := lv_cg (lvE (congrArg zI (by omega)) (lvR (lvR (lvR (rfl))))) hl
                exact ih M6 (i + 1) (by omega) (by omega) (rn_f (a := 2) (b := gFr β n qr.1) hE (by rw [num_1 hx9, tel_2 hg3 h54]) (by omega) (gfr_7 f2 hn) (by rw [r_3]; rfl) ((congrFun r_3 1).trans ((upd_at _ _ _).trans ((congrFun rk4 2).trans (tok_fr f2)))) (fun j q1 q2 => hex j (by omega) (by omega))) H locs hW hS ls hl
            · have hg3 : ¬ gSo β n qr.1 = 3 := fun z9 => by have := (tok_n (β := β) f2).mpr z9; omega
              refine lv_aload_n hx hb dX6_readNumbers_33 rfl (lv_at hl 1 rfl) ?_
              refine lv_iconst (v := zI (1)) hx hb dX6_readNumbers_34 (by decide) ?_
              have rk4 := r_4
              refine va_callv (va_runV (As := [.int (zI (1))]) (rest := []) ⟨hx, hb, hml, hown, hts⟩ (c_X6_fail l g (ad) (hd9) (P) (M2) (1)) (cwV 1 hts gX6_readNumbers_X6_fail rfl rfl rfl (by decide +kernel) ⟨Nat.le_of_ble_eq_true rfl, Nat.le_of_ble_eq_true rfl⟩) (g_preV hW hK (va_recv hK (hb1 hW (show 3 < 126 by omega) (lcE r_3 sh_3)) (q0 := 0) (ci := 6) rfl rfl)) rfl rfl hl.1 rfl (lv_room (Nat.le_of_ble_eq_true rfl)) dX6_readNumbers_35 ⟨Nat.le_of_ble_eq_true rfl, Nat.le_of_ble_eq_true rfl⟩) hS (fun q _ h => h) (fun q h => h) (fun u6 t9 H1 locs ht9 hvm9 hw9 hB9 hz9 hk9 hS => ?_)
              rw [ht9] at hB9
              clear hz9 hk9 hvm9 ht9
              generalize H1 = H at hB9 hS ⊢
              have hW := hB9
              clear hB9
              have hW : cw g ad P (va_up M2 (3) (upd (upd (M2 3) 0 (zI (1))) 1 (M2 4 2))) H := hW
              obtain ⟨M8, hM8⟩ : ∃ x9c : Nat → Nat → Int32, x9c = va_up M2 (3) (upd (upd (M2 3) 0 (zI (1))) 1 (M2 4 2)) := ⟨_, rfl⟩
              have hW : cw g ad P M8 H := by rw [hM8]; exact hW
              have hex : ∀ j : Nat, ¬ j = 4 → ¬ j = 3 → M8 j = A j := fun j q0 q1 => ((congrFun hM8 j).trans (up_ne _ _ q1)).trans (hex j q0)
              have r_b_1_13_ct : M8 (b + 1 + (13 + ct)) = A (b + 1 + (13 + ct)) := ((congrFun hM8 (b + 1 + (13 + ct))).trans (up_ne _ _ (by omega))).trans r_b_1_13_ct
              have r_4 : M8 (4) = tokR (A 4) β n qr.1 := ((congrFun hM8 (4)).trans (up_ne _ _ (by omega))).trans r_4
              have r_3 : M8 (3) = upd (upd (M2 3) 0 (zI (1))) 1 (M2 4 2) := ((congrFun hM8 _).trans (up_at _ _ _))
              refine lv_goto (tgt := 75) hx hb dX6_readNumbers_38 (by decide) ?_
              refine z_iinc (lv' := [(3, .int (zI (((i : Nat) : Int) + 1))), (0, .ref ((ad 3))), (1, .int (zI (3))), (2, .ref ((ad (b + 1 + (13 + ct)))))]) hx hb dX6_readNumbers_75 hl (k := 0) rfl (by decide) rfl (fun ls hl => ?_)
              refine lv_goto (tgt := 2) hx hb dX6_readNumbers_78 (by decide) ?_
              have hl := lv_sub (l' := [(3, .int (zI (((i : Nat) : Int) + 1))), (0, .ref ((ad 3))), (1, .int (zI (3))), (2, .ref ((ad (b + 1 + (13 + ct)))))]) hl [0, 1, 2, 3] rfl
              have hl : lv_has ls 4 [(3, .int (zI ((((i + 1) : Nat) : Int)))), (0, .ref ((ad 3))), (1, .int (zI (3))), (2, .ref ((ad (b + 1 + (13 + ct)))))] := lv_cg (lvE (congrArg zI (by omega)) (lvR (lvR (lvR (rfl))))) hl
              exact ih M8 (i + 1) (by omega) (by omega) (rn_f (a := 1) (b := gFr β n qr.1) hE (by rw [num_1 hx9, tel_1 hg3]) (by omega) (gfr_7 f2 hn) (by rw [r_3]; rfl) ((congrFun r_3 1).trans ((upd_at _ _ _).trans ((congrFun rk4 2).trans (tok_fr f2)))) (fun j q1 q2 => hex j (by omega) (by omega))) H locs hW hS ls hl
  have hl := lv_sub (l' := [(3, .int (zI (0))), (0, .ref ((ad 3))), (1, .int (zI (3))), (2, .ref ((ad (b + 1 + (13 + ct)))))]) hl [0, 1, 2, 3] rfl
  have hl : lv_has ls 4 [(3, .int (zI (((0 : Nat) : Int)))), (0, .ref ((ad 3))), (1, .int (zI (3))), (2, .ref ((ad (b + 1 + (13 + ct)))))] := lv_cg (lvE (congrArg zI (rfl)) (lvR (lvR (lvR (rfl))))) hl
  exact loop2 _ M (0) (Nat.lt_succ_self _) (Nat.zero_le _) (rn_0 hf0 hp4 hps) H locs hW hS ls hl

set_option maxHeartbeats 4000000 in
set_option maxRecDepth 100000 in
theorem c_X6_readLineEnd (l : Launch) (g : GG) (ad : Nat → Nat) (hd9 : hD ad) (P : Nat → Nat) (M : Nat → Nat → Int32) (β : Nat → Nat) (n : Nat) (hn : n ≤ 740) (hz : M 1 0 = zI n) (hβ : ∀ i, i < 740 → M 2 i = zI (sbI (β i)) ∧ β i < 256) (X : PR) (hX : ftQ n M X) : Met l yX6_readLineEnd wsX6_readLineEnd ({ frames := 3, cells := 0, slots := 0, locals := 64 }) (gPc g [.ref ((ad 3))] (cw g ad P M)) (va_Qv (fun (u : Nat → Nat → Int32) => (∀ j, j ≠ 3 → j ≠ 4 → u j = M j) ∧ ftQ n u (bnd X (endP β n))) (fun (u : Nat → Nat → Int32) (tS : State) => cw g ad P u tS.heap) (hbA ad)) 0 0 (hbA ad) := by
  refine Met.ofW (cc := cX6_readLineEnd) (maxL := 1) (ret := none) (by decide) rfl ?_
  intro p e s m args below meth c s₁ B hml hv
  obtain ⟨rfl, hW, hK⟩ := hv
  have hx := B.exec
  have hb := B.bytes
  have hr := B.returns
  have hts := atoms_spec (ws := wsX6_readLineEnd) B.pre
  have hown : s.vm.findClass RX6 = some m.cls := findClass_of_methodNamed B.named
  have hlocks := B.notSynchronized
  have hinX6 : ∀ w ∈ wsX60, w ∈ wsX6_readLineEnd := by decide +kernel
  have hinX7 : ∀ w ∈ wsX70, w ∈ wsX6_readLineEnd := by decide +kernel
  have k32 := hts (.fieldLink RX6 32 "HoursBank$TextReader" "faultKind" "I") (by decide +kernel)
  have k20 := hts (.fieldLink RX6 20 "HoursBank$TextReader" "tokens" "LHoursBank$Tokens;") (by decide +kernel)
  have k44 := hts (.fieldLink RX6 44 "HoursBank$Tokens" "kind" "I") (by decide +kernel)
  have hl := lv_entry ([.ref ((ad 3))]) (n := 1) (Nat.le_of_ble_eq_true rfl)
  rw [lg_entry_eq]
  generalize (lg_sl ([.ref ((ad 3))]) ++ List.replicate (1 - (lg_sl ([.ref ((ad 3))])).length) Slot.unset).toArray = ls at hl ⊢
  have hl : lv_has ls 1 [(0, .ref ((ad 3)))] := hl
  have hS : va_S (hbA ad) s.heap s.heap [] := va_S.rf
  obtain ⟨H, hH9⟩ : ∃ H, H = s.heap := ⟨_, rfl⟩
  obtain ⟨locs, hL9⟩ : ∃ x9l : List Loc, x9l = [] := ⟨_, rfl⟩
  have hW : cw g ad P M H := hH9 ▸ hW
  have hS : va_S (hbA ad) s.heap H locs := by rw [hH9, hL9]; exact hS
  refine z_start hH9 hL9 ?_
  clear hH9 hL9
  have hex : ∀ j : Nat, M j = M j := fun _ => rfl
  obtain ⟨er, hx9⟩ | ⟨qr, hx9⟩ := pr_cases X
  · refine lv_aload_n hx hb dX6_readLineEnd_0 rfl (lv_at hl 0 rfl) ?_
    obtain ⟨f0, f1, f2, f3, f4⟩ := hX.1 er hx9
    have r_3 : M (3) = M 3 := hex (3) 
    refine va_get (D := g.1) (ci := 6) (v := .int ((M 3) 0)) (C := RX6) (T := TX6) (N := 4) hx hb hts hinX6 hown hK (hb1 hW (show 3 < 126 by omega) (lcE r_3 sh_3)) 0 rfl rfl 2 (by decide) k32 (fun _ h9 => h9) rfl dX6_readLineEnd_1 ?_
    refine z_top (y := zI (((er.1 : Nat) : Int))) (f0) ?_
    refine z_if_eq (tgt := 8) hx hb dX6_readLineEnd_4 (by decide) (by omega) (fun h4 => ?_) (fun h4 => ?_)
    · exfalso; omega
    · exact W.vret hx hb hr (fun tX htX hWX => ⟨⟨M, rfl, ⟨fun _ _ _ => rfl, by rw [bnd_l hx9, ← hx9]; exact hX⟩, g_at htX hW⟩, hS.F htX⟩) hS.2.2 dX6_readLineEnd_7
  · refine lv_aload_n hx hb dX6_readLineEnd_0 rfl (lv_at hl 0 rfl) ?_
    obtain ⟨f0, f1, f2⟩ := hX.2 qr hx9
    have r_3 : M (3) = M 3 := hex (3) 
    refine va_get (D := g.1) (ci := 6) (v := .int ((M 3) 0)) (C := RX6) (T := TX6) (N := 4) hx hb hts hinX6 hown hK (hb1 hW (show 3 < 126 by omega) (lcE r_3 sh_3)) 0 rfl rfl 2 (by decide) k32 (fun _ h9 => h9) rfl dX6_readLineEnd_1 ?_
    refine z_top (y := zI (0)) (f0) ?_
    refine z_if_eq (tgt := 8) hx hb dX6_readLineEnd_4 (by decide) (by omega) (fun h4 => ?_) (fun h4 => ?_)
    · refine lv_aload_n hx hb dX6_readLineEnd_8 rfl (lv_at hl 0 rfl) ?_
      refine va_get (D := g.1) (ci := 6) (v := .ref ((ad 4))) (C := RX6) (T := TX6) (N := 4) hx hb hts hinX6 hown hK (hb1 hW (show 3 < 126 by omega) (lcE r_3 sh_3)) 0 rfl rfl 1 (by decide) k20 (fun _ h9 => h9) rfl dX6_readLineEnd_9 ?_
      have r_4 : M (4) = M 4 := hex (4) 
      refine va_callv (va_runV (As := []) (rest := []) ⟨hx, hb, hml, hown, hts⟩ (c_X7_advance l g (ad) (hd9) (P) (M) (β) (n) (hn) (hz) (hβ) (qr.1) (f2) (f1)) (cwV 0 hts gX6_readLineEnd_X7_advance rfl rfl rfl (by decide +kernel) ⟨Nat.le_of_ble_eq_true rfl, Nat.le_of_ble_eq_true rfl⟩) (g_preV hW hK (va_recv hK (hb1 hW (show 4 < 126 by omega) (lcE r_4 sh_4)) (q0 := 0) (ci := 7) rfl rfl)) rfl rfl hl.1 rfl (lv_room (Nat.le_of_ble_eq_true rfl)) dX6_readLineEnd_12 ⟨Nat.le_of_ble_eq_true rfl, Nat.le_of_ble_eq_true rfl⟩) hS (fun q _ h => h) (fun q h => h) (fun u0 t9 H1 locs ht9 hvm9 hw9 hB9 hz9 hk9 hS => ?_)
      rw [ht9] at hB9
      clear hz9 hk9 hvm9 ht9
      generalize H1 = H at hB9 hS ⊢
      have hW := hB9
      clear hB9
      have hW : cw g ad P (va_up M (4) (tokR (M 4) β n qr.1)) H := hW
      obtain ⟨M2, hM2⟩ : ∃ x9c : Nat → Nat → Int32, x9c = va_up M (4) (tokR (M 4) β n qr.1) := ⟨_, rfl⟩
      have hW : cw g ad P M2 H := by rw [hM2]; exact hW
      have hex : ∀ j : Nat, ¬ j = 4 → M2 j = M j := fun j q0 => ((congrFun hM2 j).trans (up_ne _ _ q0)).trans (hex j )
      have r_3 : M2 (3) = M 3 := ((congrFun hM2 (3)).trans (up_ne _ _ (by omega))).trans r_3
      have r_4 : M2 (4) = tokR (M 4) β n qr.1 := ((congrFun hM2 _).trans (up_at _ _ _))
      have hkl := ki_le β n qr.1
      refine lv_aload_n hx hb dX6_readLineEnd_15 rfl (lv_at hl 0 rfl) ?_
      refine va_get (D := g.1) (ci := 6) (v := .ref ((ad 4))) (C := RX6) (T := TX6) (N := 4) hx hb hts hinX6 hown hK (hb1 hW (show 3 < 126 by omega) (lcE r_3 sh_3)) 0 rfl rfl 1 (by decide) k20 (fun _ h9 => h9) rfl dX6_readLineEnd_16 ?_
      refine va_get (D := g.1) (ci := 7) (v := .int ((tokR (M 4) β n qr.1) 1)) (C := RX7) (T := TX7) (N := 5) hx hb hts hinX7 hown hK (hb1 hW (show 4 < 126 by omega) (lcE r_4 sh_4)) 0 rfl rfl 2 (by decide) k44 (fun _ h9 => h9) rfl dX6_readLineEnd_19 ?_
      refine z_top (y := zI (((cKi β n qr.1 : Nat) : Int))) (rfl) ?_
      refine lv_iconst (v := zI (3)) hx hb dX6_readLineEnd_22 (by decide) ?_
      refine z_icmp_eq (tgt := 31) hx hb dX6_readLineEnd_23 (by decide) (by omega) (by omega) (fun h23 => ?_) (fun h23 => ?_)
      · have hg4 := (tok_s (β := β) f2).mp (by omega)
        exact W.vret hx hb hr (fun tX htX hWX => ⟨⟨M2, rfl, ⟨fun j q1 q2 => hex j (by omega), ft_r (t := gTo β n qr.1) (r := qr.2) (by rw [bnd_r hx9]; unfold endP; rw [if_pos hg4]) ((congrFun (hex 3 (by omega)) 0).trans f0) ((congrFun r_4 0).trans (tok_to f2 (by omega))) (gto_le f2).1⟩, g_at htX hW⟩, hS.F htX⟩) hS.2.2 dX6_readLineEnd_31
      · have hg4 : ¬ gSo β n qr.1 = 4 := fun z9 => by have := (tok_s (β := β) f2).mpr z9; omega
        refine lv_aload_n hx hb dX6_readLineEnd_26 rfl (lv_at hl 0 rfl) ?_
        refine lv_iconst (v := zI (1)) hx hb dX6_readLineEnd_27 (by decide) ?_
        have rk4 := r_4
        refine va_callv (va_runV (As := [.int (zI (1))]) (rest := []) ⟨hx, hb, hml, hown, hts⟩ (c_X6_fail l g (ad) (hd9) (P) (M2) (1)) (cwV 1 hts gX6_readLineEnd_X6_fail rfl rfl rfl (by decide +kernel) ⟨Nat.le_of_ble_eq_true rfl, Nat.le_of_ble_eq_true rfl⟩) (g_preV hW hK (va_recv hK (hb1 hW (show 3 < 126 by omega) (lcE r_3 sh_3)) (q0 := 0) (ci := 6) rfl rfl)) rfl rfl hl.1 rfl (lv_room (Nat.le_of_ble_eq_true rfl)) dX6_readLineEnd_28 ⟨Nat.le_of_ble_eq_true rfl, Nat.le_of_ble_eq_true rfl⟩) hS (fun q _ h => h) (fun q h => h) (fun u2 t9 H1 locs ht9 hvm9 hw9 hB9 hz9 hk9 hS => ?_)
        rw [ht9] at hB9
        clear hz9 hk9 hvm9 ht9
        generalize H1 = H at hB9 hS ⊢
        have hW := hB9
        clear hB9
        have hW : cw g ad P (va_up M2 (3) (upd (upd (M2 3) 0 (zI (1))) 1 (M2 4 2))) H := hW
        obtain ⟨M4, hM4⟩ : ∃ x9c : Nat → Nat → Int32, x9c = va_up M2 (3) (upd (upd (M2 3) 0 (zI (1))) 1 (M2 4 2)) := ⟨_, rfl⟩
        have hW : cw g ad P M4 H := by rw [hM4]; exact hW
        have hex : ∀ j : Nat, ¬ j = 4 → ¬ j = 3 → M4 j = M j := fun j q0 q1 => ((congrFun hM4 j).trans (up_ne _ _ q1)).trans (hex j q0)
        have r_4 : M4 (4) = tokR (M 4) β n qr.1 := ((congrFun hM4 (4)).trans (up_ne _ _ (by omega))).trans r_4
        have r_3 : M4 (3) = upd (upd (M2 3) 0 (zI (1))) 1 (M2 4 2) := ((congrFun hM4 _).trans (up_at _ _ _))
        exact W.vret hx hb hr (fun tX htX hWX => ⟨⟨M4, rfl, ⟨fun j q1 q2 => hex j (by omega) (by omega), ft_l (a := 1) (b := gFr β n qr.1) (by rw [bnd_r hx9]; unfold endP; rw [if_neg hg4]) (by rw [r_3]; rfl) ((congrFun r_3 1).trans ((upd_at _ _ _).trans ((congrFun rk4 2).trans (tok_fr f2)))) (by omega) (gfr_7 f2 hn)⟩, g_at htX hW⟩, hS.F htX⟩) hS.2.2 dX6_readLineEnd_31
    · exfalso; omega
