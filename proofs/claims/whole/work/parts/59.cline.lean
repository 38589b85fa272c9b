set_option maxHeartbeats 4000000 in
set_option maxRecDepth 100000 in
theorem c_X6_readLine (l : Launch) (g : GG) (ad : Nat → Nat) (hd9 : hD ad) (P : Nat → Nat) (M : Nat → Nat → Int32) (kk : KK) (b : Nat) (hb9 : b = 8 ∨ b = 27) (β : Nat → Nat) (n : Nat) (hn : n ≤ 740) (hz : M 1 0 = zI n) (hβ : ∀ i, i < 740 → M 2 i = zI (sbI (β i)) ∧ β i < 256) (ps : Nat) (hps : ps ≤ n) (hk0 : ¬ cKi β n ps = 0) (h40 : M 4 0 = zI (cNx β n ps)) (h41 : M 4 1 = zI (cKi β n ps)) (h42 : M 4 2 = zI (cPl β n ps)) (hf0 : M 3 0 = zI 0) (rd : Nat → Int32) (hO : okP rd) (hR : dR b M rd) (f : Int) (hf : f = 0 ∨ f = 1) (h18 : M (b + 18) 0 = zI (1 - f)) : Met l yX6_readLine wsX6_readLine ({ frames := 6, cells := 0, slots := 0, locals := 128 }) (gkPc g kk ad [.ref ((ad 3)), .ref ((ad b)), .int (zI (f))] (cw g ad P M)) (va_Qv (fun (u : Nat → Nat → Int32) => lnQ b n M u (bnd (lineP β n (f = 1) ps rd) (endP β n))) (fun (u : Nat → Nat → Int32) (tS : State) => cw g ad P u tS.heap) (hbA ad)) 0 0 (hbA ad) := by
  refine Met.ofW (cc := cX6_readLine) (maxL := 4) (ret := none) (by decide) rfl ?_
  intro p e s m args below meth c s₁ B hml hv
  obtain ⟨rfl, hW, hK, hC⟩ := hv
  have hx := B.exec
  have hb := B.bytes
  have hr := B.returns
  have hts := atoms_spec (ws := wsX6_readLine) B.pre
  have hown : s.vm.findClass RX6 = some m.cls := findClass_of_methodNamed B.named
  have hlocks := B.notSynchronized
  have hl := lv_entry ([.ref ((ad 3)), .ref ((ad b)), .int (zI (f))]) (n := 4) (Nat.le_of_ble_eq_true rfl)
  rw [lg_entry_eq]
  generalize (lg_sl ([.ref ((ad 3)), .ref ((ad b)), .int (zI (f))]) ++ List.replicate (4 - (lg_sl ([.ref ((ad 3)), .ref ((ad b)), .int (zI (f))])).length) Slot.unset).toArray = ls at hl ⊢
  have hl : lv_has ls 4 [(0, .ref ((ad 3))), (1, .ref ((ad b))), (2, .int (zI (f)))] := hl
  have hS : va_S (hbA ad) s.heap s.heap [] := va_S.rf
  obtain ⟨H, hH9⟩ : ∃ H, H = s.heap := ⟨_, rfl⟩
  obtain ⟨locs, hL9⟩ : ∃ x9l : List Loc, x9l = [] := ⟨_, rfl⟩
  have hW : cw g ad P M H := hH9 ▸ hW
  have hS : va_S (hbA ad) s.heap H locs := by rw [hH9, hL9]; exact hS
  refine z_start hH9 hL9 ?_
  clear hH9 hL9
  have hex : ∀ j : Nat, M j = M j := fun _ => rfl
  have hcx := cnx_le hps hk0
  have hq4 := hO.1.ns.le
  have hq50 := hO.1.nn.le
  have hq57 := hO.1.nw.le
  refine lv_aload_n hx hb dX6_readLine_0 rfl (lv_at hl 0 rfl) ?_
  have r_3 : M (3) = M 3 := hex (3) 
  refine va_calli (va_runV (As := []) (rest := []) ⟨hx, hb, hml, hown, hts⟩ (c_X6_sortOfLine l g (ad) (hd9) (P) (M) (kk) (β) (hβ) ((cNx β n ps)) ((cKi β n ps)) ((cPl β n ps)) (by omega) (hcx.2) (ki_le β n ps) (h40) (h41) (h42)) (cwV 0 hts gX6_readLine_X6_sortOfLine rfl rfl rfl (by decide +kernel) ⟨Nat.le_of_ble_eq_true rfl, Nat.le_of_ble_eq_true rfl⟩) (gk_preV hW hK hC hS (va_recv hK (hb1 hW (show 3 < 126 by omega) (lcE r_3 sh_3)) (q0 := 0) (ci := 6) rfl rfl)) rfl rfl hl.1 rfl (lv_room (Nat.le_of_ble_eq_true rfl)) dX6_readLine_1 ⟨Nat.le_of_ble_eq_true rfl, Nat.le_of_ble_eq_true rfl⟩) hS (fun q _ h => h) (fun q h => h) (fun r u0 t9 H1 locs ht9 hvm9 hw9 hB9 hz9 hk9 hS => ?_)
  rw [ht9] at hB9
  clear hz9 hk9 hvm9 ht9
  generalize H1 = H at hB9 hS ⊢
  have hW := hB9
  clear hB9
  have hW : cw g ad P M H := hW
  obtain rfl : r = zI (soL β (cKi β n ps) (cNx β n ps) (cPl β n ps)) := hw9
  rcases soL_cases β (cKi β n ps) (cNx β n ps) (cPl β n ps) with hs9 | hs9 | hs9 | hs9 | hs9
  · refine z_top (y := zI ((-1))) (congrArg zI hs9.1) ?_
    refine lv_istore_n (lv' := [(3, .int (zI ((-1)))), (0, .ref ((ad 3))), (1, .ref ((ad b))), (2, .int (zI (f)))]) hx hb dX6_readLine_4 rfl hl (by decide) rfl (fun ls hl => ?_)
    refine lv_iload_n hx hb dX6_readLine_5 rfl (lv_at hl 0 rfl) ?_
    refine lv_iconst (v := zI (-1)) hx hb dX6_readLine_6 (by decide) ?_
    refine z_icmp_eq (tgt := 23) hx hb dX6_readLine_7 (by decide) (by omega) (by omega) (fun h7 => ?_) (fun h7 => ?_)
    · refine lv_aload_n hx hb dX6_readLine_23 rfl (lv_at hl 1 rfl) ?_
      refine lv_iconst (v := zI (1)) hx hb dX6_readLine_24 (by decide) ?_
      refine va_callv (va_runV (As := [.int (zI (1))]) (rest := []) ⟨hx, hb, hml, hown, hts⟩ (c_X6_fail l g (ad) (hd9) (P) (M) (1)) (cwV 1 hts gX6_readLine_X6_fail rfl rfl rfl (by decide +kernel) ⟨Nat.le_of_ble_eq_true rfl, Nat.le_of_ble_eq_true rfl⟩) (g_preV hW hK (va_recv hK (hb1 hW (show 3 < 126 by omega) (lcE r_3 sh_3)) (q0 := 0) (ci := 6) rfl rfl)) rfl rfl hl.1 rfl (lv_room (Nat.le_of_ble_eq_true rfl)) dX6_readLine_25 ⟨Nat.le_of_ble_eq_true rfl, Nat.le_of_ble_eq_true rfl⟩) hS (fun q _ h => h) (fun q h => h) (fun u1 t9 H1 locs ht9 hvm9 hw9 hB9 hz9 hk9 hS => ?_)
      rw [ht9] at hB9
      clear hz9 hk9 hvm9 ht9
      generalize H1 = H at hB9 hS ⊢
      have hW := hB9
      clear hB9
      have hW : cw g ad P (va_up M (3) (upd (upd (M 3) 0 (zI (1))) 1 (M 4 2))) H := hW
      obtain ⟨M3, hM3⟩ : ∃ x9c : Nat → Nat → Int32, x9c = va_up M (3) (upd (upd (M 3) 0 (zI (1))) 1 (M 4 2)) := ⟨_, rfl⟩
      have hW : cw g ad P M3 H := by rw [hM3]; exact hW
      have hex : ∀ j : Nat, ¬ j = 3 → M3 j = M j := fun j q0 => ((congrFun hM3 j).trans (up_ne _ _ q0)).trans (hex j )
      have r_3 : M3 (3) = upd (upd (M 3) 0 (zI (1))) 1 (M 4 2) := ((congrFun hM3 _).trans (up_at _ _ _))
      refine lv_goto (tgt := 61) hx hb dX6_readLine_28 (by decide) ?_
      exact W.vret hx hb hr (fun tX htX hWX => ⟨⟨M3, rfl, ln_fail (a := 1) (d := gFr β n ps) (line_no hps hs9.2.1 hs9.2.2.1 hs9.2.2.2.1 hs9.2.2.2.2) (by omega) (gfr_7 hps hn) (by rw [r_3]; rfl) ((congrFun r_3 1).trans ((upd_at _ _ _).trans (h42.trans (congrArg zI (by rw [tok_pl hps]))))) (fun j q1 q2 q3 => hex j (by omega)), g_at htX hW⟩, hS.F htX⟩) hS.2.2 dX6_readLine_61
    · exfalso; omega
  · refine z_top (y := zI (0)) (congrArg zI hs9.1) ?_
    refine lv_istore_n (lv' := [(3, .int (zI (0))), (0, .ref ((ad 3))), (1, .ref ((ad b))), (2, .int (zI (f)))]) hx hb dX6_readLine_4 rfl hl (by decide) rfl (fun ls hl => ?_)
    refine lv_iload_n hx hb dX6_readLine_5 rfl (lv_at hl 0 rfl) ?_
    refine lv_iconst (v := zI (-1)) hx hb dX6_readLine_6 (by decide) ?_
    refine z_icmp_eq (tgt := 23) hx hb dX6_readLine_7 (by decide) (by omega) (by omega) (fun h7 => ?_) (fun h7 => ?_)
    · exfalso; omega
    · refine lv_iload_n hx hb dX6_readLine_10 rfl (lv_at hl 0 rfl) ?_
      refine z_if_ne (tgt := 18) hx hb dX6_readLine_11 (by decide) (by omega) (fun h11 => ?_) (fun h11 => ?_)
      · exfalso; omega
      · refine lv_iconst (v := zI (1)) hx hb dX6_readLine_14 (by decide) ?_
        refine lv_goto (tgt := 19) hx hb dX6_readLine_15 (by decide) ?_
        refine lv_iload_n hx hb dX6_readLine_19 rfl (lv_at hl 3 rfl) ?_
        refine z_icmp_eq (tgt := 31) hx hb dX6_readLine_20 (by decide) (by omega) (by omega) (fun h20 => ?_) (fun h20 => ?_)
        · refine lv_aload_n hx hb dX6_readLine_31 rfl (lv_at hl 2 rfl) ?_
          refine lv_iload_n hx hb dX6_readLine_32 rfl (lv_at hl 0 rfl) ?_
          have r_b : M (b) = M (b) := hex (b) 
          refine va_calli (va_runV (As := [.int (zI (0))]) (rest := []) ⟨hx, hb, hml, hown, hts⟩ (c_X2_isFull_0 l g (ad) (hd9) (P) (M) (b) (hb9) (0) (by omega) (h18.trans (congrArg zI (by omega)))) (cwV 1 hts gX6_readLine_X2_isFull rfl rfl rfl (by decide +kernel) ⟨Nat.le_of_ble_eq_true rfl, Nat.le_of_ble_eq_true rfl⟩) (g_preV hW hK (va_recv hK (hb1 hW (show b < 126 by omega) (lcE r_b (sh_R0 hb9))) (q0 := 0) (ci := 2) rfl rfl)) rfl rfl hl.1 rfl (lv_room (Nat.le_of_ble_eq_true rfl)) dX6_readLine_33 ⟨Nat.le_of_ble_eq_true rfl, Nat.le_of_ble_eq_true rfl⟩) hS (fun q _ h => h) (fun q h => h) (fun r u3 t9 H1 locs ht9 hvm9 hw9 hB9 hz9 hk9 hS => ?_)
          rw [ht9] at hB9
          clear hz9 hk9 hvm9 ht9
          generalize H1 = H at hB9 hS ⊢
          have hW := hB9
          clear hB9
          have hW : cw g ad P M H := hW
          obtain rfl : r = zI (bz (1 ≤ 0)) := hw9
          refine z_bz_eq (tgt := 47) hx hb dX6_readLine_36 (by decide) (fun h36 => ?_) (fun h36 => ?_)
          · refine lv_aload_n hx hb dX6_readLine_47 rfl (lv_at hl 1 rfl) ?_
            refine lv_iload_n hx hb dX6_readLine_48 rfl (lv_at hl 0 rfl) ?_
            refine lv_aload_n hx hb dX6_readLine_49 rfl (lv_at hl 2 rfl) ?_
            refine lv_iload_n hx hb dX6_readLine_50 rfl (lv_at hl 0 rfl) ?_
            refine va_callr (va_runV (As := [.int (zI (0))]) (rest := [.int (zI (0)), .ref ((ad 3))]) ⟨hx, hb, hml, hown, hts⟩ (c_X2_openRow_0 l g (ad) (hd9) (P) (M) (b) (hb9) (0) (by omega) (h18.trans (congrArg zI (by omega)))) (cwV 1 hts gX6_readLine_X2_openRow rfl rfl rfl (by decide +kernel) ⟨Nat.le_of_ble_eq_true rfl, Nat.le_of_ble_eq_true rfl⟩) (g_preV hW hK (va_recv hK (hb1 hW (show b < 126 by omega) (lcE r_b (sh_R0 hb9))) (q0 := 0) (ci := 2) rfl rfl)) rfl rfl hl.1 rfl (lv_room (Nat.le_of_ble_eq_true rfl)) dX6_readLine_51 ⟨Nat.le_of_ble_eq_true rfl, Nat.le_of_ble_eq_true rfl⟩) hS (fun q _ h => h) (fun q h => h) (fun u4 a9 t9 H1 locs ht9 hvm9 hw9 hB9 hz9 hk9 hS => ?_)
            rw [ht9] at hB9
            clear hz9 hk9 hvm9 ht9
            generalize H1 = H at hB9 hS ⊢
            obtain ⟨rfl, hW⟩ := hB9
            have hW := hW
            have hW : cw g ad P (va_up M (b + 18) (upd (M (b + 18)) 0 (zI (0 + 1)))) H := hW
            obtain ⟨M6, hM6⟩ : ∃ x9c : Nat → Nat → Int32, x9c = va_up M (b + 18) (upd (M (b + 18)) 0 (zI (0 + 1))) := ⟨_, rfl⟩
            have hW : cw g ad P M6 H := by rw [hM6]; exact hW
            have hex : ∀ j : Nat, ¬ j = b + 18 → M6 j = M j := fun j q0 => ((congrFun hM6 j).trans (up_ne _ _ q0)).trans (hex j )
            have r_3 : M6 (3) = M 3 := ((congrFun hM6 (3)).trans (up_ne _ _ (by omega))).trans r_3
            have r_b : M6 (b) = M (b) := ((congrFun hM6 (b)).trans (up_ne _ _ (by omega))).trans r_b
            have r_b_18 : M6 (b + 18) = upd (M (b + 18)) 0 (zI (0 + 1)) := ((congrFun hM6 _).trans (up_at _ _ _))
            have hM1x := hex
            have hM18 := r_b_18
            refine va_callv (va_runV (As := [.int (zI (0)), .ref ((ad (b + 1 + (1 + 0))))]) (rest := []) ⟨hx, hb, hml, hown, hts⟩ (c_X6_readNumbers_0 l g (ad) (hd9) (P) (M6) (kk) (b) (hb9) (0) (by omega) (β) (n) (hn) ((congrFun (hex 1 (by omega)) 0).trans hz) (fun i9 hi9 => ⟨(congrFun (hex 2 (by omega)) i9).trans (hβ i9 hi9).1, (hβ i9 hi9).2⟩) (gTo β n ps) ((gto_le hps).1) ((congrFun (hex 4 (by omega)) 0).trans (h40.trans (congrArg zI (by rw [(tok_nx hps hk0).1])))) ((congrFun (hex 3 (by omega)) 0).trans hf0) (0) (rd)) (cwV 2 hts gX6_readLine_X6_readNumbers rfl rfl rfl (by decide +kernel) ⟨Nat.le_of_ble_eq_true rfl, Nat.le_of_ble_eq_true rfl⟩) (gk_preV hW hK hC hS (va_recv hK (hb1 hW (show 3 < 126 by omega) (lcE r_3 sh_3)) (q0 := 0) (ci := 6) rfl rfl)) rfl rfl hl.1 rfl (lv_room (Nat.le_of_ble_eq_true rfl)) dX6_readLine_54 ⟨Nat.le_of_ble_eq_true rfl, Nat.le_of_ble_eq_true rfl⟩) hS (fun q _ h => h) (fun q h => h) (fun u6 t9 H1 locs ht9 hvm9 hw9 hB9 hz9 hk9 hS => ?_)
            rw [ht9] at hB9
            clear hz9 hk9 hvm9 ht9
            generalize H1 = H at hB9 hS ⊢
            have hW := hB9
            clear hB9
            have hW : cw g ad P u6 H := hW
            have hpo9 := hw9
            have hrn9 := hpo9
            have hex : ∀ j : Nat, u6 j = u6 j := fun _ => rfl
            refine lv_aload_n hx hb dX6_readLine_57 rfl (lv_at hl 1 rfl) ?_
            have r_3 : u6 (3) = u6 3 := hex (3) 
            refine va_callv (va_runV (As := []) (rest := []) ⟨hx, hb, hml, hown, hts⟩ (c_X6_readLineEnd l g (ad) (hd9) (P) (u6) (β) (n) (hn) ((congrFun ((hrn9.1 1 (by omega) (by omega) (by omega)).trans (hM1x 1 (by omega))) 0).trans hz) (fun i9 hi9 => ⟨(congrFun ((hrn9.1 2 (by omega) (by omega) (by omega)).trans (hM1x 2 (by omega))) i9).trans (hβ i9 hi9).1, (hβ i9 hi9).2⟩) ((numP β n 0 (0) 4 (gTo β n ps) rd)) (hrn9.2.1)) (cwV 0 hts gX6_readLine_X6_readLineEnd rfl rfl rfl (by decide +kernel) ⟨Nat.le_of_ble_eq_true rfl, Nat.le_of_ble_eq_true rfl⟩) (g_preV hW hK (va_recv hK (hb1 hW (show 3 < 126 by omega) (lcE r_3 sh_3)) (q0 := 0) (ci := 6) rfl rfl)) rfl rfl hl.1 rfl (lv_room (Nat.le_of_ble_eq_true rfl)) dX6_readLine_58 ⟨Nat.le_of_ble_eq_true rfl, Nat.le_of_ble_eq_true rfl⟩) hS (fun q _ h => h) (fun q h => h) (fun u8 t9 H1 locs ht9 hvm9 hw9 hB9 hz9 hk9 hS => ?_)
            rw [ht9] at hB9
            clear hz9 hk9 hvm9 ht9
            generalize H1 = H at hB9 hS ⊢
            have hW := hB9
            clear hB9
            have hW : cw g ad P u8 H := hW
            have hpo9 := hw9
            have hle9 := hpo9
            have hex : ∀ j : Nat, u8 j = u8 j := fun _ => rfl
            exact W.vret hx hb hr (fun tX htX hWX => ⟨⟨u8, rfl, ln_num (so := 0) (R := b + 1 + (1 + (0))) (at0 := 0) (len := 4) (gg := fun r => r) hb9 (by omega) hM1x hM18 hrn9 hle9.1 hle9.2 ((line_bank hps h20.symm hs9.2).trans (bnd_id _).symm) ((upd_at _ _ _).trans (congrArg zI (by omega))) (fun qd hqd z1 z2 z3 => dR_bank (x := (0 : Nat) + 1) hb9 hR hO.1.ns.le hO.1.nn.le hO.1.nw.le z1 z2 z3 (numP_in (gto_le hps).1 4 qd hqd).2.2.1), g_at htX hW⟩, hS.F htX⟩) hS.2.2 dX6_readLine_61
          · exfalso; omega
        · refine lv_aload_n hx hb dX6_readLine_23 rfl (lv_at hl 1 rfl) ?_
          refine lv_iconst (v := zI (1)) hx hb dX6_readLine_24 (by decide) ?_
          refine va_callv (va_runV (As := [.int (zI (1))]) (rest := []) ⟨hx, hb, hml, hown, hts⟩ (c_X6_fail l g (ad) (hd9) (P) (M) (1)) (cwV 1 hts gX6_readLine_X6_fail rfl rfl rfl (by decide +kernel) ⟨Nat.le_of_ble_eq_true rfl, Nat.le_of_ble_eq_true rfl⟩) (g_preV hW hK (va_recv hK (hb1 hW (show 3 < 126 by omega) (lcE r_3 sh_3)) (q0 := 0) (ci := 6) rfl rfl)) rfl rfl hl.1 rfl (lv_room (Nat.le_of_ble_eq_true rfl)) dX6_readLine_25 ⟨Nat.le_of_ble_eq_true rfl, Nat.le_of_ble_eq_true rfl⟩) hS (fun q _ h => h) (fun q h => h) (fun u10 t9 H1 locs ht9 hvm9 hw9 hB9 hz9 hk9 hS => ?_)
          rw [ht9] at hB9
          clear hz9 hk9 hvm9 ht9
          generalize H1 = H at hB9 hS ⊢
          have hW := hB9
          clear hB9
          have hW : cw g ad P (va_up M (3) (upd (upd (M 3) 0 (zI (1))) 1 (M 4 2))) H := hW
          obtain ⟨M12, hM12⟩ : ∃ x9c : Nat → Nat → Int32, x9c = va_up M (3) (upd (upd (M 3) 0 (zI (1))) 1 (M 4 2)) := ⟨_, rfl⟩
          have hW : cw g ad P M12 H := by rw [hM12]; exact hW
          have hex : ∀ j : Nat, ¬ j = 3 → M12 j = M j := fun j q0 => ((congrFun hM12 j).trans (up_ne _ _ q0)).trans (hex j )
          have r_3 : M12 (3) = upd (upd (M 3) 0 (zI (1))) 1 (M 4 2) := ((congrFun hM12 _).trans (up_at _ _ _))
          refine lv_goto (tgt := 61) hx hb dX6_readLine_28 (by decide) ?_
          exact W.vret hx hb hr (fun tX htX hWX => ⟨⟨M12, rfl, ln_fail (a := 1) (d := gFr β n ps) (line_bank0 hps (by omega) hs9.2) (by omega) (gfr_7 hps hn) (by rw [r_3]; rfl) ((congrFun r_3 1).trans ((upd_at _ _ _).trans (h42.trans (congrArg zI (by rw [tok_pl hps]))))) (fun j q1 q2 q3 => hex j (by omega)), g_at htX hW⟩, hS.F htX⟩) hS.2.2 dX6_readLine_61
  · refine z_top (y := zI (1)) (congrArg zI hs9.1) ?_
    refine lv_istore_n (lv' := [(3, .int (zI (1))), (0, .ref ((ad 3))), (1, .ref ((ad b))), (2, .int (zI (f)))]) hx hb dX6_readLine_4 rfl hl (by decide) rfl (fun ls hl => ?_)
    refine lv_iload_n hx hb dX6_readLine_5 rfl (lv_at hl 0 rfl) ?_
    refine lv_iconst (v := zI (-1)) hx hb dX6_readLine_6 (by decide) ?_
    refine z_icmp_eq (tgt := 23) hx hb dX6_readLine_7 (by decide) (by omega) (by omega) (fun h7 => ?_) (fun h7 => ?_)
    · exfalso; omega
    · refine lv_iload_n hx hb dX6_readLine_10 rfl (lv_at hl 0 rfl) ?_
      refine z_if_ne (tgt := 18) hx hb dX6_readLine_11 (by decide) (by omega) (fun h11 => ?_) (fun h11 => ?_)
      · refine lv_iconst (v := zI (0)) hx hb dX6_readLine_18 (by decide) ?_
        refine lv_iload_n hx hb dX6_readLine_19 rfl (lv_at hl 3 rfl) ?_
        refine z_icmp_eq (tgt := 31) hx hb dX6_readLine_20 (by decide) (by omega) (by omega) (fun h20 => ?_) (fun h20 => ?_)
        · refine lv_aload_n hx hb dX6_readLine_31 rfl (lv_at hl 2 rfl) ?_
          refine lv_iload_n hx hb dX6_readLine_32 rfl (lv_at hl 0 rfl) ?_
          have r_b : M (b) = M (b) := hex (b) 
          refine va_calli (va_runV (As := [.int (zI (1))]) (rest := []) ⟨hx, hb, hml, hown, hts⟩ (c_X2_isFull_1 l g (ad) (hd9) (P) (M) (b) (hb9) (mn rd 4) (by omega) (hR.2.1.trans hO.1.ns.eq)) (cwV 1 hts gX6_readLine_X2_isFull rfl rfl rfl (by decide +kernel) ⟨Nat.le_of_ble_eq_true rfl, Nat.le_of_ble_eq_true rfl⟩) (g_preV hW hK (va_recv hK (hb1 hW (show b < 126 by omega) (lcE r_b (sh_R0 hb9))) (q0 := 0) (ci := 2) rfl rfl)) rfl rfl hl.1 rfl (lv_room (Nat.le_of_ble_eq_true rfl)) dX6_readLine_33 ⟨Nat.le_of_ble_eq_true rfl, Nat.le_of_ble_eq_true rfl⟩) hS (fun q _ h => h) (fun q h => h) (fun r u12 t9 H1 locs ht9 hvm9 hw9 hB9 hz9 hk9 hS => ?_)
          rw [ht9] at hB9
          clear hz9 hk9 hvm9 ht9
          generalize H1 = H at hB9 hS ⊢
          have hW := hB9
          clear hB9
          have hW : cw g ad P M H := hW
          obtain rfl : r = zI (bz (5 ≤ (mn rd 4))) := hw9
          refine z_bz_eq (tgt := 47) hx hb dX6_readLine_36 (by decide) (fun h36 => ?_) (fun h36 => ?_)
          · refine lv_aload_n hx hb dX6_readLine_47 rfl (lv_at hl 1 rfl) ?_
            refine lv_iload_n hx hb dX6_readLine_48 rfl (lv_at hl 0 rfl) ?_
            refine lv_aload_n hx hb dX6_readLine_49 rfl (lv_at hl 2 rfl) ?_
            refine lv_iload_n hx hb dX6_readLine_50 rfl (lv_at hl 0 rfl) ?_
            refine va_callr (va_runV (As := [.int (zI (1))]) (rest := [.int (zI (1)), .ref ((ad 3))]) ⟨hx, hb, hml, hown, hts⟩ (c_X2_openRow_1 l g (ad) (hd9) (P) (M) (b) (hb9) (mn rd 4) (by omega) (hR.2.1.trans hO.1.ns.eq)) (cwV 1 hts gX6_readLine_X2_openRow rfl rfl rfl (by decide +kernel) ⟨Nat.le_of_ble_eq_true rfl, Nat.le_of_ble_eq_true rfl⟩) (g_preV hW hK (va_recv hK (hb1 hW (show b < 126 by omega) (lcE r_b (sh_R0 hb9))) (q0 := 0) (ci := 2) rfl rfl)) rfl rfl hl.1 rfl (lv_room (Nat.le_of_ble_eq_true rfl)) dX6_readLine_51 ⟨Nat.le_of_ble_eq_true rfl, Nat.le_of_ble_eq_true rfl⟩) hS (fun q _ h => h) (fun q h => h) (fun u13 a9 t9 H1 locs ht9 hvm9 hw9 hB9 hz9 hk9 hS => ?_)
            rw [ht9] at hB9
            clear hz9 hk9 hvm9 ht9
            generalize H1 = H at hB9 hS ⊢
            obtain ⟨rfl, hW⟩ := hB9
            have hW := hW
            have hW : cw g ad P (va_up M (b + 18) (upd (M (b + 18)) 1 (zI ((mn rd 4) + 1)))) H := hW
            obtain ⟨M15, hM15⟩ : ∃ x9c : Nat → Nat → Int32, x9c = va_up M (b + 18) (upd (M (b + 18)) 1 (zI ((mn rd 4) + 1))) := ⟨_, rfl⟩
            have hW : cw g ad P M15 H := by rw [hM15]; exact hW
            have hex : ∀ j : Nat, ¬ j = b + 18 → M15 j = M j := fun j q0 => ((congrFun hM15 j).trans (up_ne _ _ q0)).trans (hex j )
            have r_3 : M15 (3) = M 3 := ((congrFun hM15 (3)).trans (up_ne _ _ (by omega))).trans r_3
            have r_b : M15 (b) = M (b) := ((congrFun hM15 (b)).trans (up_ne _ _ (by omega))).trans r_b
            have r_b_18 : M15 (b + 18) = upd (M (b + 18)) 1 (zI ((mn rd 4) + 1)) := ((congrFun hM15 _).trans (up_at _ _ _))
            have hM1x := hex
            have hM18 := r_b_18
            refine va_callv (va_runV (As := [.int (zI (1)), .ref ((ad (b + 1 + (3 + (mn rd 4)))))]) (rest := []) ⟨hx, hb, hml, hown, hts⟩ (c_X6_readNumbers_1 l g (ad) (hd9) (P) (M15) (kk) (b) (hb9) (mn rd 4) (by omega) (β) (n) (hn) ((congrFun (hex 1 (by omega)) 0).trans hz) (fun i9 hi9 => ⟨(congrFun (hex 2 (by omega)) i9).trans (hβ i9 hi9).1, (hβ i9 hi9).2⟩) (gTo β n ps) ((gto_le hps).1) ((congrFun (hex 4 (by omega)) 0).trans (h40.trans (congrArg zI (by rw [(tok_nx hps hk0).1])))) ((congrFun (hex 3 (by omega)) 0).trans hf0) (5 + 9 * mn rd 4) (rd)) (cwV 2 hts gX6_readLine_X6_readNumbers rfl rfl rfl (by decide +kernel) ⟨Nat.le_of_ble_eq_true rfl, Nat.le_of_ble_eq_true rfl⟩) (gk_preV hW hK hC hS (va_recv hK (hb1 hW (show 3 < 126 by omega) (lcE r_3 sh_3)) (q0 := 0) (ci := 6) rfl rfl)) rfl rfl hl.1 rfl (lv_room (Nat.le_of_ble_eq_true rfl)) dX6_readLine_54 ⟨Nat.le_of_ble_eq_true rfl, Nat.le_of_ble_eq_true rfl⟩) hS (fun q _ h => h) (fun q h => h) (fun u15 t9 H1 locs ht9 hvm9 hw9 hB9 hz9 hk9 hS => ?_)
            rw [ht9] at hB9
            clear hz9 hk9 hvm9 ht9
            generalize H1 = H at hB9 hS ⊢
            have hW := hB9
            clear hB9
            have hW : cw g ad P u15 H := hW
            have hpo9 := hw9
            have hrn9 := hpo9
            have hex : ∀ j : Nat, u15 j = u15 j := fun _ => rfl
            refine lv_aload_n hx hb dX6_readLine_57 rfl (lv_at hl 1 rfl) ?_
            have r_3 : u15 (3) = u15 3 := hex (3) 
            refine va_callv (va_runV (As := []) (rest := []) ⟨hx, hb, hml, hown, hts⟩ (c_X6_readLineEnd l g (ad) (hd9) (P) (u15) (β) (n) (hn) ((congrFun ((hrn9.1 1 (by omega) (by omega) (by omega)).trans (hM1x 1 (by omega))) 0).trans hz) (fun i9 hi9 => ⟨(congrFun ((hrn9.1 2 (by omega) (by omega) (by omega)).trans (hM1x 2 (by omega))) i9).trans (hβ i9 hi9).1, (hβ i9 hi9).2⟩) ((numP β n 1 (5 + 9 * mn rd 4) 9 (gTo β n ps) rd)) (hrn9.2.1)) (cwV 0 hts gX6_readLine_X6_readLineEnd rfl rfl rfl (by decide +kernel) ⟨Nat.le_of_ble_eq_true rfl, Nat.le_of_ble_eq_true rfl⟩) (g_preV hW hK (va_recv hK (hb1 hW (show 3 < 126 by omega) (lcE r_3 sh_3)) (q0 := 0) (ci := 6) rfl rfl)) rfl rfl hl.1 rfl (lv_room (Nat.le_of_ble_eq_true rfl)) dX6_readLine_58 ⟨Nat.le_of_ble_eq_true rfl, Nat.le_of_ble_eq_true rfl⟩) hS (fun q _ h => h) (fun q h => h) (fun u17 t9 H1 locs ht9 hvm9 hw9 hB9 hz9 hk9 hS => ?_)
            rw [ht9] at hB9
            clear hz9 hk9 hvm9 ht9
            generalize H1 = H at hB9 hS ⊢
            have hW := hB9
            clear hB9
            have hW : cw g ad P u17 H := hW
            have hpo9 := hw9
            have hle9 := hpo9
            have hex : ∀ j : Nat, u17 j = u17 j := fun _ => rfl
            exact W.vret hx hb hr (fun tX htX hWX => ⟨⟨u17, rfl, ln_num (so := 1) (R := b + 1 + (3 + (mn rd 4))) (at0 := 5 + 9 * mn rd 4) (len := 9) (gg := fun r => upd r 4 (zI ((mn rd 4 + 1 : Nat)))) hb9 (by omega) hM1x hM18 hrn9 hle9.1 hle9.2 ((line_sea hps (by omega) hs9.2.1).trans (seasP_num (by omega))) ((upd_ne _ (by omega) _).trans (h18.trans (congrArg zI (by omega)))) (fun qd hqd z1 z2 z3 => dR_sea (ct := mn rd 4) hb9 hR rfl (by omega) hO.1.ns.le hO.1.nn.le hO.1.nw.le z1 z2 z3 (numP_in (gto_le hps).1 9 qd hqd).2.2.1), g_at htX hW⟩, hS.F htX⟩) hS.2.2 dX6_readLine_61
          · refine lv_aload_n hx hb dX6_readLine_39 rfl (lv_at hl 1 rfl) ?_
            refine lv_iconst (v := zI (3)) hx hb dX6_readLine_40 (by decide) ?_
            refine va_callv (va_runV (As := [.int (zI (3))]) (rest := []) ⟨hx, hb, hml, hown, hts⟩ (c_X6_fail l g (ad) (hd9) (P) (M) (3)) (cwV 1 hts gX6_readLine_X6_fail rfl rfl rfl (by decide +kernel) ⟨Nat.le_of_ble_eq_true rfl, Nat.le_of_ble_eq_true rfl⟩) (g_preV hW hK (va_recv hK (hb1 hW (show 3 < 126 by omega) (lcE r_3 sh_3)) (q0 := 0) (ci := 6) rfl rfl)) rfl rfl hl.1 rfl (lv_room (Nat.le_of_ble_eq_true rfl)) dX6_readLine_41 ⟨Nat.le_of_ble_eq_true rfl, Nat.le_of_ble_eq_true rfl⟩) hS (fun q _ h => h) (fun q h => h) (fun u19 t9 H1 locs ht9 hvm9 hw9 hB9 hz9 hk9 hS => ?_)
            rw [ht9] at hB9
            clear hz9 hk9 hvm9 ht9
            generalize H1 = H at hB9 hS ⊢
            have hW := hB9
            clear hB9
            have hW : cw g ad P (va_up M (3) (upd (upd (M 3) 0 (zI (3))) 1 (M 4 2))) H := hW
            obtain ⟨M21, hM21⟩ : ∃ x9c : Nat → Nat → Int32, x9c = va_up M (3) (upd (upd (M 3) 0 (zI (3))) 1 (M 4 2)) := ⟨_, rfl⟩
            have hW : cw g ad P M21 H := by rw [hM21]; exact hW
            have hex : ∀ j : Nat, ¬ j = 3 → M21 j = M j := fun j q0 => ((congrFun hM21 j).trans (up_ne _ _ q0)).trans (hex j )
            have r_b : M21 (b) = M (b) := ((congrFun hM21 (b)).trans (up_ne _ _ (by omega))).trans r_b
            have r_3 : M21 (3) = upd (upd (M 3) 0 (zI (3))) 1 (M 4 2) := ((congrFun hM21 _).trans (up_at _ _ _))
            refine lv_goto (tgt := 61) hx hb dX6_readLine_44 (by decide) ?_
            exact W.vret hx hb hr (fun tX htX hWX => ⟨⟨M21, rfl, ln_fail (a := 3) (d := gFr β n ps) ((line_sea hps (by omega) hs9.2.1).trans (if_pos (by omega))) (by omega) (gfr_7 hps hn) (by rw [r_3]; rfl) ((congrFun r_3 1).trans ((upd_at _ _ _).trans (h42.trans (congrArg zI (by rw [tok_pl hps]))))) (fun j q1 q2 q3 => hex j (by omega)), g_at htX hW⟩, hS.F htX⟩) hS.2.2 dX6_readLine_61
        · refine lv_aload_n hx hb dX6_readLine_23 rfl (lv_at hl 1 rfl) ?_
          refine lv_iconst (v := zI (1)) hx hb dX6_readLine_24 (by decide) ?_
          refine va_callv (va_runV (As := [.int (zI (1))]) (rest := []) ⟨hx, hb, hml, hown, hts⟩ (c_X6_fail l g (ad) (hd9) (P) (M) (1)) (cwV 1 hts gX6_readLine_X6_fail rfl rfl rfl (by decide +kernel) ⟨Nat.le_of_ble_eq_true rfl, Nat.le_of_ble_eq_true rfl⟩) (g_preV hW hK (va_recv hK (hb1 hW (show 3 < 126 by omega) (lcE r_3 sh_3)) (q0 := 0) (ci := 6) rfl rfl)) rfl rfl hl.1 rfl (lv_room (Nat.le_of_ble_eq_true rfl)) dX6_readLine_25 ⟨Nat.le_of_ble_eq_true rfl, Nat.le_of_ble_eq_true rfl⟩) hS (fun q _ h => h) (fun q h => h) (fun u21 t9 H1 locs ht9 hvm9 hw9 hB9 hz9 hk9 hS => ?_)
          rw [ht9] at hB9
          clear hz9 hk9 hvm9 ht9
          generalize H1 = H at hB9 hS ⊢
          have hW := hB9
          clear hB9
          have hW : cw g ad P (va_up M (3) (upd (upd (M 3) 0 (zI (1))) 1 (M 4 2))) H := hW
          obtain ⟨M23, hM23⟩ : ∃ x9c : Nat → Nat → Int32, x9c = va_up M (3) (upd (upd (M 3) 0 (zI (1))) 1 (M 4 2)) := ⟨_, rfl⟩
          have hW : cw g ad P M23 H := by rw [hM23]; exact hW
          have hex : ∀ j : Nat, ¬ j = 3 → M23 j = M j := fun j q0 => ((congrFun hM23 j).trans (up_ne _ _ q0)).trans (hex j )
          have r_3 : M23 (3) = upd (upd (M 3) 0 (zI (1))) 1 (M 4 2) := ((congrFun hM23 _).trans (up_at _ _ _))
          refine lv_goto (tgt := 61) hx hb dX6_readLine_28 (by decide) ?_
          exact W.vret hx hb hr (fun tX htX hWX => ⟨⟨M23, rfl, ln_fail (a := 1) (d := gFr β n ps) (line_first hps (by omega) hs9.2.2) (by omega) (gfr_7 hps hn) (by rw [r_3]; rfl) ((congrFun r_3 1).trans ((upd_at _ _ _).trans (h42.trans (congrArg zI (by rw [tok_pl hps]))))) (fun j q1 q2 q3 => hex j (by omega)), g_at htX hW⟩, hS.F htX⟩) hS.2.2 dX6_readLine_61
      · exfalso; omega
  · refine z_top (y := zI (2)) (congrArg zI hs9.1) ?_
    refine lv_istore_n (lv' := [(3, .int (zI (2))), (0, .ref ((ad 3))), (1, .ref ((ad b))), (2, .int (zI (f)))]) hx hb dX6_readLine_4 rfl hl (by decide) rfl (fun ls hl => ?_)
    refine lv_iload_n hx hb dX6_readLine_5 rfl (lv_at hl 0 rfl) ?_
    refine lv_iconst (v := zI (-1)) hx hb dX6_readLine_6 (by decide) ?_
    refine z_icmp_eq (tgt := 23) hx hb dX6_readLine_7 (by decide) (by omega) (by omega) (fun h7 => ?_) (fun h7 => ?_)
    · exfalso; omega
    · refine lv_iload_n hx hb dX6_readLine_10 rfl (lv_at hl 0 rfl) ?_
      refine z_if_ne (tgt := 18) hx hb dX6_readLine_11 (by decide) (by omega) (fun h11 => ?_) (fun h11 => ?_)
      · refine lv_iconst (v := zI (0)) hx hb dX6_readLine_18 (by decide) ?_
        refine lv_iload_n hx hb dX6_readLine_19 rfl (lv_at hl 3 rfl) ?_
        refine z_icmp_eq (tgt := 31) hx hb dX6_readLine_20 (by decide) (by omega) (by omega) (fun h20 => ?_) (fun h20 => ?_)
        · refine lv_aload_n hx hb dX6_readLine_31 rfl (lv_at hl 2 rfl) ?_
          refine lv_iload_n hx hb dX6_readLine_32 rfl (lv_at hl 0 rfl) ?_
          have r_b : M (b) = M (b) := hex (b) 
          refine va_calli (va_runV (As := [.int (zI (2))]) (rest := []) ⟨hx, hb, hml, hown, hts⟩ (c_X2_isFull_2 l g (ad) (hd9) (P) (M) (b) (hb9) (mn rd 50) (by omega) (hR.2.2.1.trans hO.1.nn.eq)) (cwV 1 hts gX6_readLine_X2_isFull rfl rfl rfl (by decide +kernel) ⟨Nat.le_of_ble_eq_true rfl, Nat.le_of_ble_eq_true rfl⟩) (g_preV hW hK (va_recv hK (hb1 hW (show b < 126 by omega) (lcE r_b (sh_R0 hb9))) (q0 := 0) (ci := 2) rfl rfl)) rfl rfl hl.1 rfl (lv_room (Nat.le_of_ble_eq_true rfl)) dX6_readLine_33 ⟨Nat.le_of_ble_eq_true rfl, Nat.le_of_ble_eq_true rfl⟩) hS (fun q _ h => h) (fun q h => h) (fun r u23 t9 H1 locs ht9 hvm9 hw9 hB9 hz9 hk9 hS => ?_)
          rw [ht9] at hB9
          clear hz9 hk9 hvm9 ht9
          generalize H1 = H at hB9 hS ⊢
          have hW := hB9
          clear hB9
          have hW : cw g ad P M H := hW
          obtain rfl : r = zI (bz (3 ≤ (mn rd 50))) := hw9
          refine z_bz_eq (tgt := 47) hx hb dX6_readLine_36 (by decide) (fun h36 => ?_) (fun h36 => ?_)
          · refine lv_aload_n hx hb dX6_readLine_47 rfl (lv_at hl 1 rfl) ?_
            refine lv_iload_n hx hb dX6_readLine_48 rfl (lv_at hl 0 rfl) ?_
            refine lv_aload_n hx hb dX6_readLine_49 rfl (lv_at hl 2 rfl) ?_
            refine lv_iload_n hx hb dX6_readLine_50 rfl (lv_at hl 0 rfl) ?_
            refine va_callr (va_runV (As := [.int (zI (2))]) (rest := [.int (zI (2)), .ref ((ad 3))]) ⟨hx, hb, hml, hown, hts⟩ (c_X2_openRow_2 l g (ad) (hd9) (P) (M) (b) (hb9) (mn rd 50) (by omega) (hR.2.2.1.trans hO.1.nn.eq)) (cwV 1 hts gX6_readLine_X2_openRow rfl rfl rfl (by decide +kernel) ⟨Nat.le_of_ble_eq_true rfl, Nat.le_of_ble_eq_true rfl⟩) (g_preV hW hK (va_recv hK (hb1 hW (show b < 126 by omega) (lcE r_b (sh_R0 hb9))) (q0 := 0) (ci := 2) rfl rfl)) rfl rfl hl.1 rfl (lv_room (Nat.le_of_ble_eq_true rfl)) dX6_readLine_51 ⟨Nat.le_of_ble_eq_true rfl, Nat.le_of_ble_eq_true rfl⟩) hS (fun q _ h => h) (fun q h => h) (fun u24 a9 t9 H1 locs ht9 hvm9 hw9 hB9 hz9 hk9 hS => ?_)
            rw [ht9] at hB9
            clear hz9 hk9 hvm9 ht9
            generalize H1 = H at hB9 hS ⊢
            obtain ⟨rfl, hW⟩ := hB9
            have hW := hW
            have hW : cw g ad P (va_up M (b + 18) (upd (M (b + 18)) 2 (zI ((mn rd 50) + 1)))) H := hW
            obtain ⟨M26, hM26⟩ : ∃ x9c : Nat → Nat → Int32, x9c = va_up M (b + 18) (upd (M (b + 18)) 2 (zI ((mn rd 50) + 1))) := ⟨_, rfl⟩
            have hW : cw g ad P M26 H := by rw [hM26]; exact hW
            have hex : ∀ j : Nat, ¬ j = b + 18 → M26 j = M j := fun j q0 => ((congrFun hM26 j).trans (up_ne _ _ q0)).trans (hex j )
            have r_3 : M26 (3) = M 3 := ((congrFun hM26 (3)).trans (up_ne _ _ (by omega))).trans r_3
            have r_b : M26 (b) = M (b) := ((congrFun hM26 (b)).trans (up_ne _ _ (by omega))).trans r_b
            have r_b_18 : M26 (b + 18) = upd (M (b + 18)) 2 (zI ((mn rd 50) + 1)) := ((congrFun hM26 _).trans (up_at _ _ _))
            have hM1x := hex
            have hM18 := r_b_18
            refine va_callv (va_runV (As := [.int (zI (2)), .ref ((ad (b + 1 + (9 + (mn rd 50)))))]) (rest := []) ⟨hx, hb, hml, hown, hts⟩ (c_X6_readNumbers_2 l g (ad) (hd9) (P) (M26) (kk) (b) (hb9) (mn rd 50) (by omega) (β) (n) (hn) ((congrFun (hex 1 (by omega)) 0).trans hz) (fun i9 hi9 => ⟨(congrFun (hex 2 (by omega)) i9).trans (hβ i9 hi9).1, (hβ i9 hi9).2⟩) (gTo β n ps) ((gto_le hps).1) ((congrFun (hex 4 (by omega)) 0).trans (h40.trans (congrArg zI (by rw [(tok_nx hps hk0).1])))) ((congrFun (hex 3 (by omega)) 0).trans hf0) (51 + 2 * mn rd 50) (rd)) (cwV 2 hts gX6_readLine_X6_readNumbers rfl rfl rfl (by decide +kernel) ⟨Nat.le_of_ble_eq_true rfl, Nat.le_of_ble_eq_true rfl⟩) (gk_preV hW hK hC hS (va_recv hK (hb1 hW (show 3 < 126 by omega) (lcE r_3 sh_3)) (q0 := 0) (ci := 6) rfl rfl)) rfl rfl hl.1 rfl (lv_room (Nat.le_of_ble_eq_true rfl)) dX6_readLine_54 ⟨Nat.le_of_ble_eq_true rfl, Nat.le_of_ble_eq_true rfl⟩) hS (fun q _ h => h) (fun q h => h) (fun u26 t9 H1 locs ht9 hvm9 hw9 hB9 hz9 hk9 hS => ?_)
            rw [ht9] at hB9
            clear hz9 hk9 hvm9 ht9
            generalize H1 = H at hB9 hS ⊢
            have hW := hB9
            clear hB9
            have hW : cw g ad P u26 H := hW
            have hpo9 := hw9
            have hrn9 := hpo9
            have hex : ∀ j : Nat, u26 j = u26 j := fun _ => rfl
            refine lv_aload_n hx hb dX6_readLine_57 rfl (lv_at hl 1 rfl) ?_
            have r_3 : u26 (3) = u26 3 := hex (3) 
            refine va_callv (va_runV (As := []) (rest := []) ⟨hx, hb, hml, hown, hts⟩ (c_X6_readLineEnd l g (ad) (hd9) (P) (u26) (β) (n) (hn) ((congrFun ((hrn9.1 1 (by omega) (by omega) (by omega)).trans (hM1x 1 (by omega))) 0).trans hz) (fun i9 hi9 => ⟨(congrFun ((hrn9.1 2 (by omega) (by omega) (by omega)).trans (hM1x 2 (by omega))) i9).trans (hβ i9 hi9).1, (hβ i9 hi9).2⟩) ((numP β n 2 (51 + 2 * mn rd 50) 2 (gTo β n ps) rd)) (hrn9.2.1)) (cwV 0 hts gX6_readLine_X6_readLineEnd rfl rfl rfl (by decide +kernel) ⟨Nat.le_of_ble_eq_true rfl, Nat.le_of_ble_eq_true rfl⟩) (g_preV hW hK (va_recv hK (hb1 hW (show 3 < 126 by omega) (lcE r_3 sh_3)) (q0 := 0) (ci := 6) rfl rfl)) rfl rfl hl.1 rfl (lv_room (Nat.le_of_ble_eq_true rfl)) dX6_readLine_58 ⟨Nat.le_of_ble_eq_true rfl, Nat.le_of_ble_eq_true rfl⟩) hS (fun q _ h => h) (fun q h => h) (fun u28 t9 H1 locs ht9 hvm9 hw9 hB9 hz9 hk9 hS => ?_)
            rw [ht9] at hB9
            clear hz9 hk9 hvm9 ht9
            generalize H1 = H at hB9 hS ⊢
            have hW := hB9
            clear hB9
            have hW : cw g ad P u28 H := hW
            have hpo9 := hw9
            have hle9 := hpo9
            have hex : ∀ j : Nat, u28 j = u28 j := fun _ => rfl
            exact W.vret hx hb hr (fun tX htX hWX => ⟨⟨u28, rfl, ln_num (so := 2) (R := b + 1 + (9 + (mn rd 50))) (at0 := 51 + 2 * mn rd 50) (len := 2) (gg := fun r => upd r 50 (zI ((mn rd 50 + 1 : Nat)))) hb9 (by omega) hM1x hM18 hrn9 hle9.1 hle9.2 ((line_not hps (by omega) hs9.2.2.2 hs9.2.1).trans (notP_num (by omega))) ((upd_ne _ (by omega) _).trans (h18.trans (congrArg zI (by omega)))) (fun qd hqd z1 z2 z3 => dR_not (ct := mn rd 50) hb9 hR rfl (by omega) hO.1.ns.le hO.1.nn.le hO.1.nw.le z1 z2 z3 (numP_in (gto_le hps).1 2 qd hqd).2.2.1), g_at htX hW⟩, hS.F htX⟩) hS.2.2 dX6_readLine_61
          · refine lv_aload_n hx hb dX6_readLine_39 rfl (lv_at hl 1 rfl) ?_
            refine lv_iconst (v := zI (3)) hx hb dX6_readLine_40 (by decide) ?_
            refine va_callv (va_runV (As := [.int (zI (3))]) (rest := []) ⟨hx, hb, hml, hown, hts⟩ (c_X6_fail l g (ad) (hd9) (P) (M) (3)) (cwV 1 hts gX6_readLine_X6_fail rfl rfl rfl (by decide +kernel) ⟨Nat.le_of_ble_eq_true rfl, Nat.le_of_ble_eq_true rfl⟩) (g_preV hW hK (va_recv hK (hb1 hW (show 3 < 126 by omega) (lcE r_3 sh_3)) (q0 := 0) (ci := 6) rfl rfl)) rfl rfl hl.1 rfl (lv_room (Nat.le_of_ble_eq_true rfl)) dX6_readLine_41 ⟨Nat.le_of_ble_eq_true rfl, Nat.le_of_ble_eq_true rfl⟩) hS (fun q _ h => h) (fun q h => h) (fun u30 t9 H1 locs ht9 hvm9 hw9 hB9 hz9 hk9 hS => ?_)
            rw [ht9] at hB9
            clear hz9 hk9 hvm9 ht9
            generalize H1 = H at hB9 hS ⊢
            have hW := hB9
            clear hB9
            have hW : cw g ad P (va_up M (3) (upd (upd (M 3) 0 (zI (3))) 1 (M 4 2))) H := hW
            obtain ⟨M32, hM32⟩ : ∃ x9c : Nat → Nat → Int32, x9c = va_up M (3) (upd (upd (M 3) 0 (zI (3))) 1 (M 4 2)) := ⟨_, rfl⟩
            have hW : cw g ad P M32 H := by rw [hM32]; exact hW
            have hex : ∀ j : Nat, ¬ j = 3 → M32 j = M j := fun j q0 => ((congrFun hM32 j).trans (up_ne _ _ q0)).trans (hex j )
            have r_b : M32 (b) = M (b) := ((congrFun hM32 (b)).trans (up_ne _ _ (by omega))).trans r_b
            have r_3 : M32 (3) = upd (upd (M 3) 0 (zI (3))) 1 (M 4 2) := ((congrFun hM32 _).trans (up_at _ _ _))
            refine lv_goto (tgt := 61) hx hb dX6_readLine_44 (by decide) ?_
            exact W.vret hx hb hr (fun tX htX hWX => ⟨⟨M32, rfl, ln_fail (a := 3) (d := gFr β n ps) ((line_not hps (by omega) hs9.2.2.2 hs9.2.1).trans (if_pos (by omega))) (by omega) (gfr_7 hps hn) (by rw [r_3]; rfl) ((congrFun r_3 1).trans ((upd_at _ _ _).trans (h42.trans (congrArg zI (by rw [tok_pl hps]))))) (fun j q1 q2 q3 => hex j (by omega)), g_at htX hW⟩, hS.F htX⟩) hS.2.2 dX6_readLine_61
        · refine lv_aload_n hx hb dX6_readLine_23 rfl (lv_at hl 1 rfl) ?_
          refine lv_iconst (v := zI (1)) hx hb dX6_readLine_24 (by decide) ?_
          refine va_callv (va_runV (As := [.int (zI (1))]) (rest := []) ⟨hx, hb, hml, hown, hts⟩ (c_X6_fail l g (ad) (hd9) (P) (M) (1)) (cwV 1 hts gX6_readLine_X6_fail rfl rfl rfl (by decide +kernel) ⟨Nat.le_of_ble_eq_true rfl, Nat.le_of_ble_eq_true rfl⟩) (g_preV hW hK (va_recv hK (hb1 hW (show 3 < 126 by omega) (lcE r_3 sh_3)) (q0 := 0) (ci := 6) rfl rfl)) rfl rfl hl.1 rfl (lv_room (Nat.le_of_ble_eq_true rfl)) dX6_readLine_25 ⟨Nat.le_of_ble_eq_true rfl, Nat.le_of_ble_eq_true rfl⟩) hS (fun q _ h => h) (fun q h => h) (fun u32 t9 H1 locs ht9 hvm9 hw9 hB9 hz9 hk9 hS => ?_)
          rw [ht9] at hB9
          clear hz9 hk9 hvm9 ht9
          generalize H1 = H at hB9 hS ⊢
          have hW := hB9
          clear hB9
          have hW : cw g ad P (va_up M (3) (upd (upd (M 3) 0 (zI (1))) 1 (M 4 2))) H := hW
          obtain ⟨M34, hM34⟩ : ∃ x9c : Nat → Nat → Int32, x9c = va_up M (3) (upd (upd (M 3) 0 (zI (1))) 1 (M 4 2)) := ⟨_, rfl⟩
          have hW : cw g ad P M34 H := by rw [hM34]; exact hW
          have hex : ∀ j : Nat, ¬ j = 3 → M34 j = M j := fun j q0 => ((congrFun hM34 j).trans (up_ne _ _ q0)).trans (hex j )
          have r_3 : M34 (3) = upd (upd (M 3) 0 (zI (1))) 1 (M 4 2) := ((congrFun hM34 _).trans (up_at _ _ _))
          refine lv_goto (tgt := 61) hx hb dX6_readLine_28 (by decide) ?_
          exact W.vret hx hb hr (fun tX htX hWX => ⟨⟨M34, rfl, ln_fail (a := 1) (d := gFr β n ps) (line_first hps (by omega) hs9.2.2.1) (by omega) (gfr_7 hps hn) (by rw [r_3]; rfl) ((congrFun r_3 1).trans ((upd_at _ _ _).trans (h42.trans (congrArg zI (by rw [tok_pl hps]))))) (fun j q1 q2 q3 => hex j (by omega)), g_at htX hW⟩, hS.F htX⟩) hS.2.2 dX6_readLine_61
      · exfalso; omega
  · refine z_top (y := zI (3)) (congrArg zI hs9.1) ?_
    refine lv_istore_n (lv' := [(3, .int (zI (3))), (0, .ref ((ad 3))), (1, .ref ((ad b))), (2, .int (zI (f)))]) hx hb dX6_readLine_4 rfl hl (by decide) rfl (fun ls hl => ?_)
    refine lv_iload_n hx hb dX6_readLine_5 rfl (lv_at hl 0 rfl) ?_
    refine lv_iconst (v := zI (-1)) hx hb dX6_readLine_6 (by decide) ?_
    refine z_icmp_eq (tgt := 23) hx hb dX6_readLine_7 (by decide) (by omega) (by omega) (fun h7 => ?_) (fun h7 => ?_)
    · exfalso; omega
    · refine lv_iload_n hx hb dX6_readLine_10 rfl (lv_at hl 0 rfl) ?_
      refine z_if_ne (tgt := 18) hx hb dX6_readLine_11 (by decide) (by omega) (fun h11 => ?_) (fun h11 => ?_)
      · refine lv_iconst (v := zI (0)) hx hb dX6_readLine_18 (by decide) ?_
        refine lv_iload_n hx hb dX6_readLine_19 rfl (lv_at hl 3 rfl) ?_
        refine z_icmp_eq (tgt := 31) hx hb dX6_readLine_20 (by decide) (by omega) (by omega) (fun h20 => ?_) (fun h20 => ?_)
        · refine lv_aload_n hx hb dX6_readLine_31 rfl (lv_at hl 2 rfl) ?_
          refine lv_iload_n hx hb dX6_readLine_32 rfl (lv_at hl 0 rfl) ?_
          have r_b : M (b) = M (b) := hex (b) 
          refine va_calli (va_runV (As := [.int (zI (3))]) (rest := []) ⟨hx, hb, hml, hown, hts⟩ (c_X2_isFull_3 l g (ad) (hd9) (P) (M) (b) (hb9) (mn rd 57) (by omega) (hR.2.2.2.1.trans hO.1.nw.eq)) (cwV 1 hts gX6_readLine_X2_isFull rfl rfl rfl (by decide +kernel) ⟨Nat.le_of_ble_eq_true rfl, Nat.le_of_ble_eq_true rfl⟩) (g_preV hW hK (va_recv hK (hb1 hW (show b < 126 by omega) (lcE r_b (sh_R0 hb9))) (q0 := 0) (ci := 2) rfl rfl)) rfl rfl hl.1 rfl (lv_room (Nat.le_of_ble_eq_true rfl)) dX6_readLine_33 ⟨Nat.le_of_ble_eq_true rfl, Nat.le_of_ble_eq_true rfl⟩) hS (fun q _ h => h) (fun q h => h) (fun r u34 t9 H1 locs ht9 hvm9 hw9 hB9 hz9 hk9 hS => ?_)
          rw [ht9] at hB9
          clear hz9 hk9 hvm9 ht9
          generalize H1 = H at hB9 hS ⊢
          have hW := hB9
          clear hB9
          have hW : cw g ad P M H := hW
          obtain rfl : r = zI (bz (4 ≤ (mn rd 57))) := hw9
          refine z_bz_eq (tgt := 47) hx hb dX6_readLine_36 (by decide) (fun h36 => ?_) (fun h36 => ?_)
          · refine lv_aload_n hx hb dX6_readLine_47 rfl (lv_at hl 1 rfl) ?_
            refine lv_iload_n hx hb dX6_readLine_48 rfl (lv_at hl 0 rfl) ?_
            refine lv_aload_n hx hb dX6_readLine_49 rfl (lv_at hl 2 rfl) ?_
            refine lv_iload_n hx hb dX6_readLine_50 rfl (lv_at hl 0 rfl) ?_
            refine va_callr (va_runV (As := [.int (zI (3))]) (rest := [.int (zI (3)), .ref ((ad 3))]) ⟨hx, hb, hml, hown, hts⟩ (c_X2_openRow_3 l g (ad) (hd9) (P) (M) (b) (hb9) (mn rd 57) (by omega) (hR.2.2.2.1.trans hO.1.nw.eq)) (cwV 1 hts gX6_readLine_X2_openRow rfl rfl rfl (by decide +kernel) ⟨Nat.le_of_ble_eq_true rfl, Nat.le_of_ble_eq_true rfl⟩) (g_preV hW hK (va_recv hK (hb1 hW (show b < 126 by omega) (lcE r_b (sh_R0 hb9))) (q0 := 0) (ci := 2) rfl rfl)) rfl rfl hl.1 rfl (lv_room (Nat.le_of_ble_eq_true rfl)) dX6_readLine_51 ⟨Nat.le_of_ble_eq_true rfl, Nat.le_of_ble_eq_true rfl⟩) hS (fun q _ h => h) (fun q h => h) (fun u35 a9 t9 H1 locs ht9 hvm9 hw9 hB9 hz9 hk9 hS => ?_)
            rw [ht9] at hB9
            clear hz9 hk9 hvm9 ht9
            generalize H1 = H at hB9 hS ⊢
            obtain ⟨rfl, hW⟩ := hB9
            have hW := hW
            have hW : cw g ad P (va_up M (b + 18) (upd (M (b + 18)) 3 (zI ((mn rd 57) + 1)))) H := hW
            obtain ⟨M37, hM37⟩ : ∃ x9c : Nat → Nat → Int32, x9c = va_up M (b + 18) (upd (M (b + 18)) 3 (zI ((mn rd 57) + 1))) := ⟨_, rfl⟩
            have hW : cw g ad P M37 H := by rw [hM37]; exact hW
            have hex : ∀ j : Nat, ¬ j = b + 18 → M37 j = M j := fun j q0 => ((congrFun hM37 j).trans (up_ne _ _ q0)).trans (hex j )
            have r_3 : M37 (3) = M 3 := ((congrFun hM37 (3)).trans (up_ne _ _ (by omega))).trans r_3
            have r_b : M37 (b) = M (b) := ((congrFun hM37 (b)).trans (up_ne _ _ (by omega))).trans r_b
            have r_b_18 : M37 (b + 18) = upd (M (b + 18)) 3 (zI ((mn rd 57) + 1)) := ((congrFun hM37 _).trans (up_at _ _ _))
            have hM1x := hex
            have hM18 := r_b_18
            refine va_callv (va_runV (As := [.int (zI (3)), .ref ((ad (b + 1 + (13 + (mn rd 57)))))]) (rest := []) ⟨hx, hb, hml, hown, hts⟩ (c_X6_readNumbers_3 l g (ad) (hd9) (P) (M37) (kk) (b) (hb9) (mn rd 57) (by omega) (β) (n) (hn) ((congrFun (hex 1 (by omega)) 0).trans hz) (fun i9 hi9 => ⟨(congrFun (hex 2 (by omega)) i9).trans (hβ i9 hi9).1, (hβ i9 hi9).2⟩) (gTo β n ps) ((gto_le hps).1) ((congrFun (hex 4 (by omega)) 0).trans (h40.trans (congrArg zI (by rw [(tok_nx hps hk0).1])))) ((congrFun (hex 3 (by omega)) 0).trans hf0) (58 + 13 * mn rd 57) (rd)) (cwV 2 hts gX6_readLine_X6_readNumbers rfl rfl rfl (by decide +kernel) ⟨Nat.le_of_ble_eq_true rfl, Nat.le_of_ble_eq_true rfl⟩) (gk_preV hW hK hC hS (va_recv hK (hb1 hW (show 3 < 126 by omega) (lcE r_3 sh_3)) (q0 := 0) (ci := 6) rfl rfl)) rfl rfl hl.1 rfl (lv_room (Nat.le_of_ble_eq_true rfl)) dX6_readLine_54 ⟨Nat.le_of_ble_eq_true rfl, Nat.le_of_ble_eq_true rfl⟩) hS (fun q _ h => h) (fun q h => h) (fun u37 t9 H1 locs ht9 hvm9 hw9 hB9 hz9 hk9 hS => ?_)
            rw [ht9] at hB9
            clear hz9 hk9 hvm9 ht9
            generalize H1 = H at hB9 hS ⊢
            have hW := hB9
            clear hB9
            have hW : cw g ad P u37 H := hW
            have hpo9 := hw9
            have hrn9 := hpo9
            have hex : ∀ j : Nat, u37 j = u37 j := fun _ => rfl
            refine lv_aload_n hx hb dX6_readLine_57 rfl (lv_at hl 1 rfl) ?_
            have r_3 : u37 (3) = u37 3 := hex (3) 
            refine va_callv (va_runV (As := []) (rest := []) ⟨hx, hb, hml, hown, hts⟩ (c_X6_readLineEnd l g (ad) (hd9) (P) (u37) (β) (n) (hn) ((congrFun ((hrn9.1 1 (by omega) (by omega) (by omega)).trans (hM1x 1 (by omega))) 0).trans hz) (fun i9 hi9 => ⟨(congrFun ((hrn9.1 2 (by omega) (by omega) (by omega)).trans (hM1x 2 (by omega))) i9).trans (hβ i9 hi9).1, (hβ i9 hi9).2⟩) ((numP β n 3 (58 + 13 * mn rd 57) 2 (gTo β n ps) rd)) (hrn9.2.1)) (cwV 0 hts gX6_readLine_X6_readLineEnd rfl rfl rfl (by decide +kernel) ⟨Nat.le_of_ble_eq_true rfl, Nat.le_of_ble_eq_true rfl⟩) (g_preV hW hK (va_recv hK (hb1 hW (show 3 < 126 by omega) (lcE r_3 sh_3)) (q0 := 0) (ci := 6) rfl rfl)) rfl rfl hl.1 rfl (lv_room (Nat.le_of_ble_eq_true rfl)) dX6_readLine_58 ⟨Nat.le_of_ble_eq_true rfl, Nat.le_of_ble_eq_true rfl⟩) hS (fun q _ h => h) (fun q h => h) (fun u39 t9 H1 locs ht9 hvm9 hw9 hB9 hz9 hk9 hS => ?_)
            rw [ht9] at hB9
            clear hz9 hk9 hvm9 ht9
            generalize H1 = H at hB9 hS ⊢
            have hW := hB9
            clear hB9
            have hW : cw g ad P u39 H := hW
            have hpo9 := hw9
            have hle9 := hpo9
            have hex : ∀ j : Nat, u39 j = u39 j := fun _ => rfl
            exact W.vret hx hb hr (fun tX htX hWX => ⟨⟨u39, rfl, ln_num (so := 3) (R := b + 1 + (13 + (mn rd 57))) (at0 := 58 + 13 * mn rd 57) (len := 2) (gg := fun r => upd r 57 (zI ((mn rd 57 + 1 : Nat)))) hb9 (by omega) hM1x hM18 hrn9 hle9.1 hle9.2 ((line_wrk hps (by omega) hs9.2.2.2.1 hs9.2.2.2.2 hs9.2.1).trans (workP_num (by omega))) ((upd_ne _ (by omega) _).trans (h18.trans (congrArg zI (by omega)))) (fun qd hqd z1 z2 z3 => dR_wrk (ct := mn rd 57) hb9 hR rfl (by omega) hO.1.ns.le hO.1.nn.le hO.1.nw.le z1 z2 z3 (numP_in (gto_le hps).1 2 qd hqd).2.2.1), g_at htX hW⟩, hS.F htX⟩) hS.2.2 dX6_readLine_61
          · refine lv_aload_n hx hb dX6_readLine_39 rfl (lv_at hl 1 rfl) ?_
            refine lv_iconst (v := zI (3)) hx hb dX6_readLine_40 (by decide) ?_
            refine va_callv (va_runV (As := [.int (zI (3))]) (rest := []) ⟨hx, hb, hml, hown, hts⟩ (c_X6_fail l g (ad) (hd9) (P) (M) (3)) (cwV 1 hts gX6_readLine_X6_fail rfl rfl rfl (by decide +kernel) ⟨Nat.le_of_ble_eq_true rfl, Nat.le_of_ble_eq_true rfl⟩) (g_preV hW hK (va_recv hK (hb1 hW (show 3 < 126 by omega) (lcE r_3 sh_3)) (q0 := 0) (ci := 6) rfl rfl)) rfl rfl hl.1 rfl (lv_room (Nat.le_of_ble_eq_true rfl)) dX6_readLine_41 ⟨Nat.le_of_ble_eq_true rfl, Nat.le_of_ble_eq_true rfl⟩) hS (fun q _ h => h) (fun q h => h) (fun u41 t9 H1 locs ht9 hvm9 hw9 hB9 hz9 hk9 hS => ?_)
            rw [ht9] at hB9
            clear hz9 hk9 hvm9 ht9
            generalize H1 = H at hB9 hS ⊢
            have hW := hB9
            clear hB9
            have hW : cw g ad P (va_up M (3) (upd (upd (M 3) 0 (zI (3))) 1 (M 4 2))) H := hW
            obtain ⟨M43, hM43⟩ : ∃ x9c : Nat → Nat → Int32, x9c = va_up M (3) (upd (upd (M 3) 0 (zI (3))) 1 (M 4 2)) := ⟨_, rfl⟩
            have hW : cw g ad P M43 H := by rw [hM43]; exact hW
            have hex : ∀ j : Nat, ¬ j = 3 → M43 j = M j := fun j q0 => ((congrFun hM43 j).trans (up_ne _ _ q0)).trans (hex j )
            have r_b : M43 (b) = M (b) := ((congrFun hM43 (b)).trans (up_ne _ _ (by omega))).trans r_b
            have r_3 : M43 (3) = upd (upd (M 3) 0 (zI (3))) 1 (M 4 2) := ((congrFun hM43 _).trans (up_at _ _ _))
            refine lv_goto (tgt := 61) hx hb dX6_readLine_44 (by decide) ?_
            exact W.vret hx hb hr (fun tX htX hWX => ⟨⟨M43, rfl, ln_fail (a := 3) (d := gFr β n ps) ((line_wrk hps (by omega) hs9.2.2.2.1 hs9.2.2.2.2 hs9.2.1).trans (if_pos (by omega))) (by omega) (gfr_7 hps hn) (by rw [r_3]; rfl) ((congrFun r_3 1).trans ((upd_at _ _ _).trans (h42.trans (congrArg zI (by rw [tok_pl hps]))))) (fun j q1 q2 q3 => hex j (by omega)), g_at htX hW⟩, hS.F htX⟩) hS.2.2 dX6_readLine_61
        · refine lv_aload_n hx hb dX6_readLine_23 rfl (lv_at hl 1 rfl) ?_
          refine lv_iconst (v := zI (1)) hx hb dX6_readLine_24 (by decide) ?_
          refine va_callv (va_runV (As := [.int (zI (1))]) (rest := []) ⟨hx, hb, hml, hown, hts⟩ (c_X6_fail l g (ad) (hd9) (P) (M) (1)) (cwV 1 hts gX6_readLine_X6_fail rfl rfl rfl (by decide +kernel) ⟨Nat.le_of_ble_eq_true rfl, Nat.le_of_ble_eq_true rfl⟩) (g_preV hW hK (va_recv hK (hb1 hW (show 3 < 126 by omega) (lcE r_3 sh_3)) (q0 := 0) (ci := 6) rfl rfl)) rfl rfl hl.1 rfl (lv_room (Nat.le_of_ble_eq_true rfl)) dX6_readLine_25 ⟨Nat.le_of_ble_eq_true rfl, Nat.le_of_ble_eq_true rfl⟩) hS (fun q _ h => h) (fun q h => h) (fun u43 t9 H1 locs ht9 hvm9 hw9 hB9 hz9 hk9 hS => ?_)
          rw [ht9] at hB9
          clear hz9 hk9 hvm9 ht9
          generalize H1 = H at hB9 hS ⊢
          have hW := hB9
          clear hB9
          have hW : cw g ad P (va_up M (3) (upd (upd (M 3) 0 (zI (1))) 1 (M 4 2))) H := hW
          obtain ⟨M45, hM45⟩ : ∃ x9c : Nat → Nat → Int32, x9c = va_up M (3) (upd (upd (M 3) 0 (zI (1))) 1 (M 4 2)) := ⟨_, rfl⟩
          have hW : cw g ad P M45 H := by rw [hM45]; exact hW
          have hex : ∀ j : Nat, ¬ j = 3 → M45 j = M j := fun j q0 => ((congrFun hM45 j).trans (up_ne _ _ q0)).trans (hex j )
          have r_3 : M45 (3) = upd (upd (M 3) 0 (zI (1))) 1 (M 4 2) := ((congrFun hM45 _).trans (up_at _ _ _))
          refine lv_goto (tgt := 61) hx hb dX6_readLine_28 (by decide) ?_
          exact W.vret hx hb hr (fun tX htX hWX => ⟨⟨M45, rfl, ln_fail (a := 1) (d := gFr β n ps) (line_first hps (by omega) hs9.2.2.1) (by omega) (gfr_7 hps hn) (by rw [r_3]; rfl) ((congrFun r_3 1).trans ((upd_at _ _ _).trans (h42.trans (congrArg zI (by rw [tok_pl hps]))))) (fun j q1 q2 q3 => hex j (by omega)), g_at htX hW⟩, hS.F htX⟩) hS.2.2 dX6_readLine_61
      · exfalso; omega
