set_option maxHeartbeats 4000000 in
set_option maxRecDepth 100000 in
theorem c_X9_readBank (l : Launch) (g : GG) (a : Nat → Nat) (ha : aD a) (sc : Nat → Int32) (wd : Int64) (tp N rd sn : Nat → Int32) (n ps : Nat) (hn : n ≤ 740) (hp : ps ≤ n) (hz : sc 2 = zI n) (hT : okT tp) (hc : cur (mn tp) n ps sc wd)  : Met l yX9_readBank wsX9_readBank ({ frames := 3, cells := 0, slots := 0, locals := 68 }) (gPc g [.ref ((a 0))] (gP g (mW g a sc wd tp N rd sn))) (va_Qi (fun (r : Int32) (u : (Nat → Int32) × Int64 × (Nat → Int32)) => prQ (mn tp) n (bankP (mn tp) n ps rd) r sc u.1 u.2.1 u.2.2) (fun u (tS : State) => gP g (mW g a u.1 u.2.1 tp N u.2.2 sn) tS.heap) (mA a)) 0 0 (mA a) := by
  refine Met.ofW (cc := cX9_readBank) (maxL := 1) (ret := (some .boolean)) (by decide) rfl ?_
  intro p e s m args below meth c s₁ B hml hv
  obtain ⟨rfl, hP, hK⟩ := hv
  have hx := B.exec
  have hb := B.bytes
  have hr := B.returns
  have hts := atoms_spec (ws := wsX9_readBank) B.pre
  have hown : s.vm.findClass RX9 = some m.cls := findClass_of_methodNamed B.named
  have hlocks := B.notSynchronized
  have k48 := hts (.constantLong RX9 48 (27)) (by decide +kernel)
  have k89 := hts (.constantLong RX9 89 (11)) (by decide +kernel)
  have hl := lv_entry ([.ref ((a 0))]) (n := 1) (Nat.le_of_ble_eq_true rfl)
  rw [lg_entry_eq]
  generalize (lg_sl ([.ref ((a 0))]) ++ List.replicate (1 - (lg_sl ([.ref ((a 0))])).length) Slot.unset).toArray = ls at hl ⊢
  have hl : lv_has ls 1 [(0, .ref ((a 0)))] := hl
  have hS : va_S (mA a) s.heap s.heap [] := va_S.rf
  obtain ⟨H, hH9⟩ : ∃ H, H = s.heap := ⟨_, rfl⟩
  obtain ⟨locs, hL9⟩ : ∃ x : List Loc, x = [] := ⟨_, rfl⟩
  have hP : gP g (mW g a sc wd tp N rd sn) H := hH9 ▸ hP
  have hS : va_S (mA a) s.heap H locs := by rw [hH9, hL9]; exact hS
  refine z_start hH9 hL9 ?_
  clear hH9 hL9
  have ak : kp sc sc := kp_refl
  have a7 : sc 7 = sc 7 := rfl
  have hs4 := gso_le (mn tp) n ps
  refine lv_aload_n hx hb dX9_readBank_0 rfl (lv_at hl 0 rfl) ?_
  refine lv_ldc2 (v := 27) hx hb hown k48 dX9_readBank_1 ?_
  refine z_topl (y := zL (27)) (by decide) ?_
  refine lv_bipush (v := zI (98)) hx hb dX9_readBank_4 (by decide) ?_
  refine lv_bipush (v := zI (97)) hx hb dX9_readBank_6 (by decide) ?_
  refine lv_bipush (v := zI (110)) hx hb dX9_readBank_8 (by decide) ?_
  refine vp_callSl (va_Run.run (va_runS (As := [.int (zI (98)), .int (zI (97)), .int (zI (110))]) (rest := [.long (zL (27)), .ref ((a 0))]) ⟨hx, hb, hml, hown, hts⟩ (c_X9_three l (98) (97) (110) (by omega) (by omega) (by omega)) (va_cwS 3 hts gX9_readBank_X9_three rfl rfl rfl (by decide +kernel) ⟨Nat.le_of_ble_eq_true rfl, Nat.le_of_ble_eq_true rfl⟩) g_preS0 rfl rfl hl.1 rfl (lv_room (Nat.le_of_ble_eq_true rfl)) dX9_readBank_10 ⟨Nat.le_of_ble_eq_true rfl, Nat.le_of_ble_eq_true rfl⟩)) (fun r hr9 => ?_)
  subst hr9
  refine z_lmul hx hb dX9_readBank_13 ?_
  refine lv_ldc2 (v := 11) hx hb hown k89 dX9_readBank_14 ?_
  refine z_topl (y := zL (11)) (by decide) ?_
  refine z_ladd hx hb dX9_readBank_17 ?_
  refine vp_callSi (va_Run.run (va_runV (As := [.long (zL ((27 * (hsh3 98 97 110)) + 11))]) (rest := []) ⟨hx, hb, hml, hown, hts⟩ (c_X9_isWord l g (a) (sc) (wd) (tp) (N) (rd) (sn) ((gSo (mn tp) n ps)) ((wvT (mn tp) (skipT (mn tp) n ps) (gLen (mn tp) n ps))) ((27 * hsh3 98 97 110 + 11)) (hc.2.2.1) (gso_le _ _ _) (hc.2.2.2.2) (wv_rng hT hn hp) (by unfold hsh3; omega)) (cwV 1 hts gX9_readBank_X9_isWord rfl rfl rfl (by decide +kernel) ⟨Nat.le_of_ble_eq_true rfl, Nat.le_of_ble_eq_true rfl⟩) (g_preV hP hK (va_recv hK hP (q0 := 0) (ci := 9) rfl rfl)) rfl rfl hl.1 rfl (lv_room (Nat.le_of_ble_eq_true rfl)) dX9_readBank_18 ⟨Nat.le_of_ble_eq_true rfl, Nat.le_of_ble_eq_true rfl⟩)) (fun r hr9 => ?_)
  subst hr9
  refine z_bz_ne (tgt := 30) hx hb dX9_readBank_21 (by decide) (fun h21 => ?_) (fun h21 => ?_)
  · have hwB : wIs4 (mn tp) n ps 98 97 110 107 := (bankW hp).mp h21
    refine lv_aload_n hx hb dX9_readBank_30 rfl (lv_at hl 0 rfl) ?_
    refine va_callv (va_runV (As := []) (rest := []) ⟨hx, hb, hml, hown, hts⟩ (c_X9_go l g (a) (ha) (sc) (wd) (tp) (N) (rd) (sn) (n) ((gTo (mn tp) n ps)) (hn) ((gto_le hp).1) (hz) (hc.1) (hT)) (cwV 0 hts gX9_readBank_X9_go rfl rfl rfl (by decide +kernel) ⟨Nat.le_of_ble_eq_true rfl, Nat.le_of_ble_eq_true rfl⟩) (g_preV hP hK (va_recv hK hP (q0 := 0) (ci := 9) rfl rfl)) rfl rfl hl.1 rfl (lv_room (Nat.le_of_ble_eq_true rfl)) dX9_readBank_31 ⟨Nat.le_of_ble_eq_true rfl, Nat.le_of_ble_eq_true rfl⟩) hS (fun q _ h => h) (fun q h => h) (fun u9 t9 H1 locs ht9 hvm9 hw9 hB9 hz9 hk9 hS => ?_)
    rw [ht9] at hB9
    have hP := hB9
    clear hB9 hz9 hk9 hvm9 ht9
    generalize H1 = H at hP hS ⊢
    have hP : gP g (mW g a (upd (upd (upd (upd sc 3 (zI ((gTo (mn tp) n (gTo (mn tp) n ps) : Nat)))) 4 (zI ((gFr (mn tp) n (gTo (mn tp) n ps) : Nat)))) 5 (zI ((gSo (mn tp) n (gTo (mn tp) n ps) : Nat)))) 6 (gNu (mn tp) n (gTo (mn tp) n ps) (sc 6))) (gWo (mn tp) n (gTo (mn tp) n ps) wd) tp N rd sn) H := hP
    refine lv_aload_n hx hb dX9_readBank_34 rfl (lv_at hl 0 rfl) ?_
    refine lv_iconst (v := zI (0)) hx hb dX9_readBank_35 (by decide) ?_
    refine lv_iconst (v := zI (0)) hx hb dX9_readBank_36 (by decide) ?_
    refine lv_sipush (v := zI (9999)) hx hb dX9_readBank_37 (by decide) ?_
    refine va_calli (va_runV (As := [.int (zI (0)), .int (zI (0)), .int (zI (9999))]) (rest := []) ⟨hx, hb, hml, hown, hts⟩ (c_X9_told l g (a) (ha) ((upd (upd (upd (upd sc 3 (zI ((gTo (mn tp) n (gTo (mn tp) n ps) : Nat)))) 4 (zI ((gFr (mn tp) n (gTo (mn tp) n ps) : Nat)))) 5 (zI ((gSo (mn tp) n (gTo (mn tp) n ps) : Nat)))) 6 (gNu (mn tp) n (gTo (mn tp) n ps) (sc 6)))) ((gWo (mn tp) n (gTo (mn tp) n ps) wd)) (tp) (N) (rd) (sn) (n) ((gTo (mn tp) n ps)) (hn) ((gto_le hp).1) (hz) (hT) (cur_go (gto_le hp).1 _ _ _) (0) (0) (9999) (by omega) (by omega) (by omega)) (cwV 3 hts gX9_readBank_X9_told rfl rfl rfl (by decide +kernel) ⟨Nat.le_of_ble_eq_true rfl, Nat.le_of_ble_eq_true rfl⟩) (g_preV hP hK (va_recv hK hP (q0 := 0) (ci := 9) rfl rfl)) rfl rfl hl.1 rfl (lv_room (Nat.le_of_ble_eq_true rfl)) dX9_readBank_40 ⟨Nat.le_of_ble_eq_true rfl, Nat.le_of_ble_eq_true rfl⟩) hS (fun q _ h => h) (fun q h => h) (fun r1 u9 t9 H1 locs ht9 hvm9 hw1 hB9 hz9 hk9 hS => ?_)
    obtain ⟨sc1, wd1, rd1⟩ := u9
    rw [ht9] at hB9
    have hP := hB9
    clear hB9 hz9 hk9 hvm9 ht9
    generalize H1 = H at hP hS ⊢
    try dsimp only at hw1
    have hP : gP g (mW g a sc1 wd1 tp N rd1 sn) H := hP
    obtain ⟨e1, hx1⟩ | ⟨q1, hx1⟩ := pr_cases (tel (mn tp) n 0 0 9999 (gTo (mn tp) n ps) rd)
    · obtain ⟨rfl, b7, b8, bk⟩ := prQ_l' hx1 hw1
      have ak := kp_trans ak bk
      refine z_if_eq (tgt := 85) hx hb dX9_readBank_43 (by decide) (by omega) (fun h43 => ?_) (fun h43 => ?_)
      · refine lv_iconst (v := zI (0)) hx hb dX9_readBank_85 (by decide) ?_
        exact W.zret hx hb hr (by decide) (fun tX htX hWX => ⟨⟨_, (sc1, wd1, rd1), rfl, prQ_l (by unfold bankP; rw [if_pos hwB, bnd_l hx1]) rfl b7 b8 ak, g_at htX (hP)⟩, hS.F htX⟩) hS.2.2 dX9_readBank_86
      · exfalso; omega
    · obtain ⟨rfl, cu, pn, rfl, bk, b7⟩ := prQ_r' hx1 hw1
      have ak := kp_trans ak bk
      have a7 := b7.trans a7
      have hP : gP g (mW g a sc1 wd1 tp N q1.2 sn) H := hP
      refine z_if_eq (tgt := 85) hx hb dX9_readBank_43 (by decide) (by omega) (fun h43 => ?_) (fun h43 => ?_)
      · exfalso; omega
      · refine lv_aload_n hx hb dX9_readBank_46 rfl (lv_at hl 0 rfl) ?_
        refine lv_iconst (v := zI (1)) hx hb dX9_readBank_47 (by decide) ?_
        refine lv_iconst (v := zI (0)) hx hb dX9_readBank_48 (by decide) ?_
        refine lv_sipush (v := zI (9999)) hx hb dX9_readBank_49 (by decide) ?_
        refine va_calli (va_runV (As := [.int (zI (1)), .int (zI (0)), .int (zI (9999))]) (rest := []) ⟨hx, hb, hml, hown, hts⟩ (c_X9_told l g (a) (ha) (sc1) (wd1) (tp) (N) (q1.2) (sn) (n) (q1.1) (hn) (pn) (ak.2.2.1.trans hz) (hT) (cu) (1) (0) (9999) (by omega) (by omega) (by omega)) (cwV 3 hts gX9_readBank_X9_told rfl rfl rfl (by decide +kernel) ⟨Nat.le_of_ble_eq_true rfl, Nat.le_of_ble_eq_true rfl⟩) (g_preV hP hK (va_recv hK hP (q0 := 0) (ci := 9) rfl rfl)) rfl rfl hl.1 rfl (lv_room (Nat.le_of_ble_eq_true rfl)) dX9_readBank_52 ⟨Nat.le_of_ble_eq_true rfl, Nat.le_of_ble_eq_true rfl⟩) hS (fun q _ h => h) (fun q h => h) (fun r2 u9 t9 H1 locs ht9 hvm9 hw2 hB9 hz9 hk9 hS => ?_)
        obtain ⟨sc2, wd2, rd2⟩ := u9
        rw [ht9] at hB9
        have hP := hB9
        clear hB9 hz9 hk9 hvm9 ht9
        generalize H1 = H at hP hS ⊢
        try dsimp only at hw2
        have hP : gP g (mW g a sc2 wd2 tp N rd2 sn) H := hP
        obtain ⟨e2, hx2⟩ | ⟨q2, hx2⟩ := pr_cases (tel (mn tp) n 1 0 9999 q1.1 q1.2)
        · obtain ⟨rfl, b7, b8, bk⟩ := prQ_l' hx2 hw2
          have ak := kp_trans ak bk
          refine z_if_eq (tgt := 85) hx hb dX9_readBank_55 (by decide) (by omega) (fun h55 => ?_) (fun h55 => ?_)
          · refine lv_iconst (v := zI (0)) hx hb dX9_readBank_85 (by decide) ?_
            exact W.zret hx hb hr (by decide) (fun tX htX hWX => ⟨⟨_, (sc2, wd2, rd2), rfl, prQ_l (by unfold bankP; rw [if_pos hwB, bnd_r hx1, bnd_l hx2]) rfl b7 b8 ak, g_at htX (hP)⟩, hS.F htX⟩) hS.2.2 dX9_readBank_86
          · exfalso; omega
        · obtain ⟨rfl, cu, pn, rfl, bk, b7⟩ := prQ_r' hx2 hw2
          have ak := kp_trans ak bk
          have a7 := b7.trans a7
          have hP : gP g (mW g a sc2 wd2 tp N q2.2 sn) H := hP
          refine z_if_eq (tgt := 85) hx hb dX9_readBank_55 (by decide) (by omega) (fun h55 => ?_) (fun h55 => ?_)
          · exfalso; omega
          · refine lv_aload_n hx hb dX9_readBank_58 rfl (lv_at hl 0 rfl) ?_
            refine lv_iconst (v := zI (2)) hx hb dX9_readBank_59 (by decide) ?_
            refine lv_iconst (v := zI (1)) hx hb dX9_readBank_60 (by decide) ?_
            refine lv_bipush (v := zI (60)) hx hb dX9_readBank_61 (by decide) ?_
            refine va_calli (va_runV (As := [.int (zI (2)), .int (zI (1)), .int (zI (60))]) (rest := []) ⟨hx, hb, hml, hown, hts⟩ (c_X9_told l g (a) (ha) (sc2) (wd2) (tp) (N) (q2.2) (sn) (n) (q2.1) (hn) (pn) (ak.2.2.1.trans hz) (hT) (cu) (2) (1) (60) (by omega) (by omega) (by omega)) (cwV 3 hts gX9_readBank_X9_told rfl rfl rfl (by decide +kernel) ⟨Nat.le_of_ble_eq_true rfl, Nat.le_of_ble_eq_true rfl⟩) (g_preV hP hK (va_recv hK hP (q0 := 0) (ci := 9) rfl rfl)) rfl rfl hl.1 rfl (lv_room (Nat.le_of_ble_eq_true rfl)) dX9_readBank_63 ⟨Nat.le_of_ble_eq_true rfl, Nat.le_of_ble_eq_true rfl⟩) hS (fun q _ h => h) (fun q h => h) (fun r3 u9 t9 H1 locs ht9 hvm9 hw3 hB9 hz9 hk9 hS => ?_)
            obtain ⟨sc3, wd3, rd3⟩ := u9
            rw [ht9] at hB9
            have hP := hB9
            clear hB9 hz9 hk9 hvm9 ht9
            generalize H1 = H at hP hS ⊢
            try dsimp only at hw3
            have hP : gP g (mW g a sc3 wd3 tp N rd3 sn) H := hP
            obtain ⟨e3, hx3⟩ | ⟨q3, hx3⟩ := pr_cases (tel (mn tp) n 2 1 60 q2.1 q2.2)
            · obtain ⟨rfl, b7, b8, bk⟩ := prQ_l' hx3 hw3
              have ak := kp_trans ak bk
              refine z_if_eq (tgt := 85) hx hb dX9_readBank_66 (by decide) (by omega) (fun h66 => ?_) (fun h66 => ?_)
              · refine lv_iconst (v := zI (0)) hx hb dX9_readBank_85 (by decide) ?_
                exact W.zret hx hb hr (by decide) (fun tX htX hWX => ⟨⟨_, (sc3, wd3, rd3), rfl, prQ_l (by unfold bankP; rw [if_pos hwB, bnd_r hx1, bnd_r hx2, bnd_l hx3]) rfl b7 b8 ak, g_at htX (hP)⟩, hS.F htX⟩) hS.2.2 dX9_readBank_86
              · exfalso; omega
            · obtain ⟨rfl, cu, pn, rfl, bk, b7⟩ := prQ_r' hx3 hw3
              have ak := kp_trans ak bk
              have a7 := b7.trans a7
              have hP : gP g (mW g a sc3 wd3 tp N q3.2 sn) H := hP
              refine z_if_eq (tgt := 85) hx hb dX9_readBank_66 (by decide) (by omega) (fun h66 => ?_) (fun h66 => ?_)
              · exfalso; omega
              · refine lv_aload_n hx hb dX9_readBank_69 rfl (lv_at hl 0 rfl) ?_
                refine lv_iconst (v := zI (3)) hx hb dX9_readBank_70 (by decide) ?_
                refine lv_iconst (v := zI (0)) hx hb dX9_readBank_71 (by decide) ?_
                refine lv_sipush (v := zI (9999)) hx hb dX9_readBank_72 (by decide) ?_
                refine va_calli (va_runV (As := [.int (zI (3)), .int (zI (0)), .int (zI (9999))]) (rest := []) ⟨hx, hb, hml, hown, hts⟩ (c_X9_told l g (a) (ha) (sc3) (wd3) (tp) (N) (q3.2) (sn) (n) (q3.1) (hn) (pn) (ak.2.2.1.trans hz) (hT) (cu) (3) (0) (9999) (by omega) (by omega) (by omega)) (cwV 3 hts gX9_readBank_X9_told rfl rfl rfl (by decide +kernel) ⟨Nat.le_of_ble_eq_true rfl, Nat.le_of_ble_eq_true rfl⟩) (g_preV hP hK (va_recv hK hP (q0 := 0) (ci := 9) rfl rfl)) rfl rfl hl.1 rfl (lv_room (Nat.le_of_ble_eq_true rfl)) dX9_readBank_75 ⟨Nat.le_of_ble_eq_true rfl, Nat.le_of_ble_eq_true rfl⟩) hS (fun q _ h => h) (fun q h => h) (fun r4 u9 t9 H1 locs ht9 hvm9 hw4 hB9 hz9 hk9 hS => ?_)
                obtain ⟨sc4, wd4, rd4⟩ := u9
                rw [ht9] at hB9
                have hP := hB9
                clear hB9 hz9 hk9 hvm9 ht9
                generalize H1 = H at hP hS ⊢
                try dsimp only at hw4
                have hP : gP g (mW g a sc4 wd4 tp N rd4 sn) H := hP
                obtain ⟨e4, hx4⟩ | ⟨q4, hx4⟩ := pr_cases (tel (mn tp) n 3 0 9999 q3.1 q3.2)
                · obtain ⟨rfl, b7, b8, bk⟩ := prQ_l' hx4 hw4
                  have ak := kp_trans ak bk
                  refine z_if_eq (tgt := 85) hx hb dX9_readBank_78 (by decide) (by omega) (fun h78 => ?_) (fun h78 => ?_)
                  · refine lv_iconst (v := zI (0)) hx hb dX9_readBank_85 (by decide) ?_
                    exact W.zret hx hb hr (by decide) (fun tX htX hWX => ⟨⟨_, (sc4, wd4, rd4), rfl, prQ_l (by unfold bankP; rw [if_pos hwB, bnd_r hx1, bnd_r hx2, bnd_r hx3, hx4]) rfl b7 b8 ak, g_at htX (hP)⟩, hS.F htX⟩) hS.2.2 dX9_readBank_86
                  · exfalso; omega
                · obtain ⟨rfl, cu, pn, rfl, bk, b7⟩ := prQ_r' hx4 hw4
                  have ak := kp_trans ak bk
                  have a7 := b7.trans a7
                  have hP : gP g (mW g a sc4 wd4 tp N q4.2 sn) H := hP
                  refine z_if_eq (tgt := 85) hx hb dX9_readBank_78 (by decide) (by omega) (fun h78 => ?_) (fun h78 => ?_)
                  · exfalso; omega
                  · refine lv_iconst (v := zI (1)) hx hb dX9_readBank_81 (by decide) ?_
                    refine lv_goto (tgt := 86) hx hb dX9_readBank_82 (by decide) ?_
                    exact W.zret hx hb hr (by decide) (fun tX htX hWX => ⟨⟨_, (sc4, wd4, q4.2), rfl, prQ_r (by unfold bankP; rw [if_pos hwB, bnd_r hx1, bnd_r hx2, bnd_r hx3, hx4]) rfl cu pn rfl ak a7, g_at htX (hP)⟩, hS.F htX⟩) hS.2.2 dX9_readBank_86
  · have hwB : ¬ wIs4 (mn tp) n ps 98 97 110 107 := fun z => h21 ((bankW hp).mpr z)
    refine lv_aload_n hx hb dX9_readBank_24 rfl (lv_at hl 0 rfl) ?_
    refine lv_iconst (v := zI (1)) hx hb dX9_readBank_25 (by decide) ?_
    refine va_calli (va_runV (As := [.int (zI (1))]) (rest := []) ⟨hx, hb, hml, hown, hts⟩ (c_X9_bad l g (a) (ha) (sc) (wd) (tp) (N) (rd) (sn) ((gSo (mn tp) n ps)) ((gFr (mn tp) n ps)) (1) (hc.2.2.1) (hc.2.1) (gso_le _ _ _)) (cwV 1 hts gX9_readBank_X9_bad rfl rfl rfl (by decide +kernel) ⟨Nat.le_of_ble_eq_true rfl, Nat.le_of_ble_eq_true rfl⟩) (g_preV hP hK (va_recv hK hP (q0 := 0) (ci := 9) rfl rfl)) rfl rfl hl.1 rfl (lv_room (Nat.le_of_ble_eq_true rfl)) dX9_readBank_26 ⟨Nat.le_of_ble_eq_true rfl, Nat.le_of_ble_eq_true rfl⟩) hS (fun q _ h => h) (fun q h => h) (fun r u9 t9 H1 locs ht9 hvm9 hw9 hB9 hz9 hk9 hS => ?_)
    rw [ht9] at hB9
    have hP := hB9
    clear hB9 hz9 hk9 hvm9 ht9
    generalize H1 = H at hP hS ⊢
    have hP : gP g (mW g a (upd (upd sc 7 (zI ((if (gSo (mn tp) n ps) = 1 then 1 else 1 : Nat)))) 8 (zI ((gFr (mn tp) n ps)))) wd tp N rd sn) H := hP
    try dsimp only at hw9
    subst hw9
    exact W.zret hx hb hr (by decide) (fun tX htX hWX => ⟨⟨_, ((upd (upd sc 7 (zI ((if (gSo (mn tp) n ps) = 1 then 1 else 1 : Nat)))) 8 (zI ((gFr (mn tp) n ps)))), wd, rd), rfl, prQ_l (show bankP (mn tp) n ps rd = .inl (1, gFr (mn tp) n ps) from if_neg hwB) rfl (zN_cg (by split <;> rfl)) rfl ⟨rfl, rfl, rfl, rfl⟩, g_at htX (hP)⟩, hS.F htX⟩) hS.2.2 dX9_readBank_29

set_option maxHeartbeats 4000000 in
set_option maxRecDepth 100000 in
theorem c_X9_readNotice (l : Launch) (g : GG) (a : Nat → Nat) (ha : aD a) (sc : Nat → Int32) (wd : Int64) (tp N rd sn : Nat → Int32) (n ps : Nat) (hn : n ≤ 740) (hp : ps ≤ n) (hz : sc 2 = zI n) (hT : okT tp) (hc : cur (mn tp) n ps sc wd) (h2 : gSo (mn tp) n ps = 2) (hcn : isN rd 50 3) : Met l yX9_readNotice wsX9_readNotice ({ frames := 3, cells := 0, slots := 0, locals := 68 }) (gPc g [.ref ((a 0))] (gP g (mW g a sc wd tp N rd sn))) (va_Qi (fun (r : Int32) (u : (Nat → Int32) × Int64 × (Nat → Int32)) => prQ (mn tp) n (notP (mn tp) n ps rd) r sc u.1 u.2.1 u.2.2) (fun u (tS : State) => gP g (mW g a u.1 u.2.1 tp N u.2.2 sn) tS.heap) (mA a)) 0 0 (mA a) := by
  refine Met.ofW (cc := cX9_readNotice) (maxL := 2) (ret := (some .boolean)) (by decide) rfl ?_
  intro p e s m args below meth c s₁ B hml hv
  obtain ⟨rfl, hP, hK⟩ := hv
  have hx := B.exec
  have hb := B.bytes
  have hr := B.returns
  have hts := atoms_spec (ws := wsX9_readNotice) B.pre
  have hown : s.vm.findClass RX9 = some m.cls := findClass_of_methodNamed B.named
  have hlocks := B.notSynchronized
  have hinX9 : ∀ w ∈ wsX90, w ∈ wsX9_readNotice := by decide +kernel
  have k73 := hts (.fieldLink RX9 73 "HoursBankModel" "read" "[I") (by decide +kernel)
  have hl := lv_entry ([.ref ((a 0))]) (n := 2) (Nat.le_of_ble_eq_true rfl)
  rw [lg_entry_eq]
  generalize (lg_sl ([.ref ((a 0))]) ++ List.replicate (2 - (lg_sl ([.ref ((a 0))])).length) Slot.unset).toArray = ls at hl ⊢
  have hl : lv_has ls 2 [(0, .ref ((a 0)))] := hl
  have hS : va_S (mA a) s.heap s.heap [] := va_S.rf
  obtain ⟨H, hH9⟩ : ∃ H, H = s.heap := ⟨_, rfl⟩
  obtain ⟨locs, hL9⟩ : ∃ x : List Loc, x = [] := ⟨_, rfl⟩
  have hP : gP g (mW g a sc wd tp N rd sn) H := hH9 ▸ hP
  have hS : va_S (mA a) s.heap H locs := by rw [hH9, hL9]; exact hS
  refine z_start hH9 hL9 ?_
  clear hH9 hL9
  have ak : kp sc sc := kp_refl
  have a7 : sc 7 = sc 7 := rfl
  have hs4 := gso_le (mn tp) n ps
  have hcl := hcn.le
  refine lv_aload_n hx hb dX9_readNotice_0 rfl (lv_at hl 0 rfl) ?_
  refine va_get (D := g.1) (ci := 9) (v := .ref ((a 3))) (C := RX9) (T := TX9) (N := 15) hx hb hts hinX9 hown hK hP 0 rfl rfl 12 (by decide) k73 (fun _ h9 => h9) rfl dX9_readNotice_1 ?_
  refine lv_bipush (v := zI (50)) hx hb dX9_readNotice_4 (by decide) ?_
  refine z_iald hx hb hK hP 3 0 rfl rfl (by decide) (50) (by omega) (by omega) dX9_readNotice_6 ?_
  refine z_top (y := zI (mn rd 50)) (hcn.eq) ?_
  refine lv_iconst (v := zI (3)) hx hb dX9_readNotice_7 (by decide) ?_
  refine z_icmp_ne (tgt := 17) hx hb dX9_readNotice_8 (by decide) (by omega) (by omega) (fun h8 => ?_) (fun h8 => ?_)
  · refine lv_aload_n hx hb dX9_readNotice_17 rfl (lv_at hl 0 rfl) ?_
    refine va_callv (va_runV (As := []) (rest := []) ⟨hx, hb, hml, hown, hts⟩ (c_X9_go l g (a) (ha) (sc) (wd) (tp) (N) (rd) (sn) (n) ((gTo (mn tp) n ps)) (hn) ((gto_le hp).1) (hz) (hc.1) (hT)) (cwV 0 hts gX9_readNotice_X9_go rfl rfl rfl (by decide +kernel) ⟨Nat.le_of_ble_eq_true rfl, Nat.le_of_ble_eq_true rfl⟩) (g_preV hP hK (va_recv hK hP (q0 := 0) (ci := 9) rfl rfl)) rfl rfl hl.1 rfl (lv_room (Nat.le_of_ble_eq_true rfl)) dX9_readNotice_18 ⟨Nat.le_of_ble_eq_true rfl, Nat.le_of_ble_eq_true rfl⟩) hS (fun q _ h => h) (fun q h => h) (fun u9 t9 H1 locs ht9 hvm9 hw9 hB9 hz9 hk9 hS => ?_)
    rw [ht9] at hB9
    have hP := hB9
    clear hB9 hz9 hk9 hvm9 ht9
    generalize H1 = H at hP hS ⊢
    have hP : gP g (mW g a (upd (upd (upd (upd sc 3 (zI ((gTo (mn tp) n (gTo (mn tp) n ps) : Nat)))) 4 (zI ((gFr (mn tp) n (gTo (mn tp) n ps) : Nat)))) 5 (zI ((gSo (mn tp) n (gTo (mn tp) n ps) : Nat)))) 6 (gNu (mn tp) n (gTo (mn tp) n ps) (sc 6))) (gWo (mn tp) n (gTo (mn tp) n ps) wd) tp N rd sn) H := hP
    refine lv_bipush (v := zI (51)) hx hb dX9_readNotice_21 (by decide) ?_
    refine lv_iconst (v := zI (2)) hx hb dX9_readNotice_23 (by decide) ?_
    refine lv_aload_n hx hb dX9_readNotice_24 rfl (lv_at hl 0 rfl) ?_
    refine va_get (D := g.1) (ci := 9) (v := .ref ((a 3))) (C := RX9) (T := TX9) (N := 15) hx hb hts hinX9 hown hK hP 0 rfl rfl 12 (by decide) k73 (fun _ h9 => h9) rfl dX9_readNotice_25 ?_
    refine lv_bipush (v := zI (50)) hx hb dX9_readNotice_28 (by decide) ?_
    refine z_iald hx hb hK hP 3 0 rfl rfl (by decide) (50) (by omega) (by omega) dX9_readNotice_30 ?_
    refine z_top (y := zI (mn rd 50)) (hcn.eq) ?_
    refine z_imul hx hb dX9_readNotice_31 ?_
    refine z_iadd hx hb dX9_readNotice_32 ?_
    refine z_top (y := zI (((51 + 2 * mn rd 50 : Nat) : Int))) (congrArg zI (by omega)) ?_
    refine lv_istore_n (lv' := [(1, .int (zI (((51 + 2 * mn rd 50 : Nat) : Int)))), (0, .ref ((a 0)))]) hx hb dX9_readNotice_33 rfl hl (by decide) rfl (fun ls hl => ?_)
    refine lv_aload_n hx hb dX9_readNotice_34 rfl (lv_at hl 1 rfl) ?_
    refine lv_iload_n hx hb dX9_readNotice_35 rfl (lv_at hl 0 rfl) ?_
    refine lv_iconst (v := zI (1)) hx hb dX9_readNotice_36 (by decide) ?_
    refine lv_bipush (v := zI (60)) hx hb dX9_readNotice_37 (by decide) ?_
    refine va_calli (va_runV (As := [.int (zI (((51 + 2 * mn rd 50 : Nat) : Int))), .int (zI (1)), .int (zI (60))]) (rest := []) ⟨hx, hb, hml, hown, hts⟩ (c_X9_told l g (a) (ha) ((upd (upd (upd (upd sc 3 (zI ((gTo (mn tp) n (gTo (mn tp) n ps) : Nat)))) 4 (zI ((gFr (mn tp) n (gTo (mn tp) n ps) : Nat)))) 5 (zI ((gSo (mn tp) n (gTo (mn tp) n ps) : Nat)))) 6 (gNu (mn tp) n (gTo (mn tp) n ps) (sc 6)))) ((gWo (mn tp) n (gTo (mn tp) n ps) wd)) (tp) (N) (rd) (sn) (n) ((gTo (mn tp) n ps)) (hn) ((gto_le hp).1) (hz) (hT) (cur_go (gto_le hp).1 _ _ _) ((51 + 2 * mn rd 50)) (1) (60) (by omega) (by omega) (by omega)) (cwV 3 hts gX9_readNotice_X9_told rfl rfl rfl (by decide +kernel) ⟨Nat.le_of_ble_eq_true rfl, Nat.le_of_ble_eq_true rfl⟩) (g_preV hP hK (va_recv hK hP (q0 := 0) (ci := 9) rfl rfl)) rfl rfl hl.1 rfl (lv_room (Nat.le_of_ble_eq_true rfl)) dX9_readNotice_39 ⟨Nat.le_of_ble_eq_true rfl, Nat.le_of_ble_eq_true rfl⟩) hS (fun q _ h => h) (fun q h => h) (fun r1 u9 t9 H1 locs ht9 hvm9 hw1 hB9 hz9 hk9 hS => ?_)
    obtain ⟨sc1, wd1, rd1⟩ := u9
    rw [ht9] at hB9
    have hP := hB9
    clear hB9 hz9 hk9 hvm9 ht9
    generalize H1 = H at hP hS ⊢
    try dsimp only at hw1
    have hP : gP g (mW g a sc1 wd1 tp N rd1 sn) H := hP
    obtain ⟨e1, hx1⟩ | ⟨q1, hx1⟩ := pr_cases (tel (mn tp) n (51 + 2 * mn rd 50) 1 60 (gTo (mn tp) n ps) rd)
    · obtain ⟨rfl, b7, b8, bk⟩ := prQ_l' hx1 hw1
      have ak := kp_trans ak bk
      refine z_if_eq (tgt := 59) hx hb dX9_readNotice_42 (by decide) (by omega) (fun h42 => ?_) (fun h42 => ?_)
      · refine lv_iconst (v := zI (0)) hx hb dX9_readNotice_59 (by decide) ?_
        exact W.zret hx hb hr (by decide) (fun tX htX hWX => ⟨⟨_, (sc1, wd1, rd1), rfl, prQ_l (by unfold notP; rw [if_neg (show ¬ mn rd 50 = 3 by omega), bnd_l hx1]) rfl b7 b8 ak, g_at htX (hP)⟩, hS.F htX⟩) hS.2.2 dX9_readNotice_60
      · exfalso; omega
    · obtain ⟨rfl, cu, pn, rfl, bk, b7⟩ := prQ_r' hx1 hw1
      have ak := kp_trans ak bk
      have a7 := b7.trans a7
      have hP : gP g (mW g a sc1 wd1 tp N q1.2 sn) H := hP
      have t1 := tel_in (gto_le hp).1 hx1
      refine z_if_eq (tgt := 59) hx hb dX9_readNotice_42 (by decide) (by omega) (fun h42 => ?_) (fun h42 => ?_)
      · exfalso; omega
      · refine lv_aload_n hx hb dX9_readNotice_45 rfl (lv_at hl 1 rfl) ?_
        refine lv_iload_n hx hb dX9_readNotice_46 rfl (lv_at hl 0 rfl) ?_
        refine lv_iconst (v := zI (1)) hx hb dX9_readNotice_47 (by decide) ?_
        refine z_iadd hx hb dX9_readNotice_48 ?_
        refine z_top (y := zI (((51 + 2 * mn rd 50 + 1 : Nat) : Int))) (congrArg zI (by omega)) ?_
        refine lv_iconst (v := zI (0)) hx hb dX9_readNotice_49 (by decide) ?_
        refine lv_sipush (v := zI (300)) hx hb dX9_readNotice_50 (by decide) ?_
        refine va_calli (va_runV (As := [.int (zI (((51 + 2 * mn rd 50 + 1 : Nat) : Int))), .int (zI (0)), .int (zI (300))]) (rest := []) ⟨hx, hb, hml, hown, hts⟩ (c_X9_told l g (a) (ha) (sc1) (wd1) (tp) (N) (q1.2) (sn) (n) (q1.1) (hn) (pn) (ak.2.2.1.trans hz) (hT) (cu) ((51 + 2 * mn rd 50 + 1)) (0) (300) (by omega) (by omega) (by omega)) (cwV 3 hts gX9_readNotice_X9_told rfl rfl rfl (by decide +kernel) ⟨Nat.le_of_ble_eq_true rfl, Nat.le_of_ble_eq_true rfl⟩) (g_preV hP hK (va_recv hK hP (q0 := 0) (ci := 9) rfl rfl)) rfl rfl hl.1 rfl (lv_room (Nat.le_of_ble_eq_true rfl)) dX9_readNotice_53 ⟨Nat.le_of_ble_eq_true rfl, Nat.le_of_ble_eq_true rfl⟩) hS (fun q _ h => h) (fun q h => h) (fun r2 u9 t9 H1 locs ht9 hvm9 hw2 hB9 hz9 hk9 hS => ?_)
        obtain ⟨sc2, wd2, rd2⟩ := u9
        rw [ht9] at hB9
        have hP := hB9
        clear hB9 hz9 hk9 hvm9 ht9
        generalize H1 = H at hP hS ⊢
        try dsimp only at hw2
        have hP : gP g (mW g a sc2 wd2 tp N rd2 sn) H := hP
        obtain ⟨e2, hx2⟩ | ⟨q2, hx2⟩ := pr_cases (tel (mn tp) n (51 + 2 * mn rd 50 + 1) 0 300 q1.1 q1.2)
        · obtain ⟨rfl, b7, b8, bk⟩ := prQ_l' hx2 hw2
          have ak := kp_trans ak bk
          refine z_if_ne (tgt := 61) hx hb dX9_readNotice_56 (by decide) (by omega) (fun h56 => ?_) (fun h56 => ?_)
          · exfalso; omega
          · refine lv_iconst (v := zI (0)) hx hb dX9_readNotice_59 (by decide) ?_
            exact W.zret hx hb hr (by decide) (fun tX htX hWX => ⟨⟨_, (sc2, wd2, rd2), rfl, prQ_l (by unfold notP; rw [if_neg (show ¬ mn rd 50 = 3 by omega), bnd_r hx1, bnd_l hx2]) rfl b7 b8 ak, g_at htX (hP)⟩, hS.F htX⟩) hS.2.2 dX9_readNotice_60
        · obtain ⟨rfl, cu, pn, rfl, bk, b7⟩ := prQ_r' hx2 hw2
          have ak := kp_trans ak bk
          have a7 := b7.trans a7
          have hP : gP g (mW g a sc2 wd2 tp N q2.2 sn) H := hP
          have t2 := tel_in t1.2.2.2.2.2.2 hx2
          refine z_if_ne (tgt := 61) hx hb dX9_readNotice_56 (by decide) (by omega) (fun h56 => ?_) (fun h56 => ?_)
          · refine lv_aload_n hx hb dX9_readNotice_61 rfl (lv_at hl 1 rfl) ?_
            refine va_get (D := g.1) (ci := 9) (v := .ref ((a 3))) (C := RX9) (T := TX9) (N := 15) hx hb hts hinX9 hown hK hP 0 rfl rfl 12 (by decide) k73 (fun _ h9 => h9) rfl dX9_readNotice_62 ?_
            refine lv_bipush (v := zI (50)) hx hb dX9_readNotice_65 (by decide) ?_
            refine lv_dup2_11 hx hb dX9_readNotice_67 rfl rfl ?_
            refine z_iald hx hb hK hP 3 0 rfl rfl (by decide) (50) (by omega) (by omega) dX9_readNotice_68 ?_
            refine z_top (y := zI (mn rd 50)) (by rw [t2.2.2.2.2.1, upd_ne _ (by omega), t1.2.2.2.2.1, upd_ne _ (by omega)]; exact hcn.eq) ?_
            refine lv_iconst (v := zI (1)) hx hb dX9_readNotice_69 (by decide) ?_
            refine z_iadd hx hb dX9_readNotice_70 ?_
            refine z_iast hx hb hK hP (mD ha) hS 3 0 rfl rfl (by decide) (50) (by omega) (by omega) dX9_readNotice_71 (fun H locs hP _ hS => ?_)
            have hP : gP g (mW g a sc2 wd2 tp N (upd q2.2 50 (zI ((mn rd 50) + 1))) sn) H := hP
            refine lv_iconst (v := zI (1)) hx hb dX9_readNotice_72 (by decide) ?_
            exact W.zret hx hb hr (by decide) (fun tX htX hWX => ⟨⟨_, (sc2, wd2, (upd q2.2 50 (zI ((mn rd 50) + 1)))), rfl, prQ_r (q := (q2.1, upd q2.2 50 (zI ((mn rd 50 + 1 : Nat))))) (by unfold notP; rw [if_neg (show ¬ mn rd 50 = 3 by omega), bnd_r hx1, bnd_r hx2]) rfl cu pn (by rw [show ((mn rd 50 + 1 : Nat) : Int) = (mn rd 50 : Int) + 1 by omega]) ak a7, g_at htX (hP)⟩, hS.F htX⟩) hS.2.2 dX9_readNotice_73
          · exfalso; omega
  · refine lv_aload_n hx hb dX9_readNotice_11 rfl (lv_at hl 0 rfl) ?_
    refine lv_iconst (v := zI (3)) hx hb dX9_readNotice_12 (by decide) ?_
    refine va_calli (va_runV (As := [.int (zI (3))]) (rest := []) ⟨hx, hb, hml, hown, hts⟩ (c_X9_bad l g (a) (ha) (sc) (wd) (tp) (N) (rd) (sn) ((gSo (mn tp) n ps)) ((gFr (mn tp) n ps)) (3) (hc.2.2.1) (hc.2.1) (gso_le _ _ _)) (cwV 1 hts gX9_readNotice_X9_bad rfl rfl rfl (by decide +kernel) ⟨Nat.le_of_ble_eq_true rfl, Nat.le_of_ble_eq_true rfl⟩) (g_preV hP hK (va_recv hK hP (q0 := 0) (ci := 9) rfl rfl)) rfl rfl hl.1 rfl (lv_room (Nat.le_of_ble_eq_true rfl)) dX9_readNotice_13 ⟨Nat.le_of_ble_eq_true rfl, Nat.le_of_ble_eq_true rfl⟩) hS (fun q _ h => h) (fun q h => h) (fun r u9 t9 H1 locs ht9 hvm9 hw9 hB9 hz9 hk9 hS => ?_)
    rw [ht9] at hB9
    have hP := hB9
    clear hB9 hz9 hk9 hvm9 ht9
    generalize H1 = H at hP hS ⊢
    have hP : gP g (mW g a (upd (upd sc 7 (zI ((if (gSo (mn tp) n ps) = 1 then 1 else 3 : Nat)))) 8 (zI ((gFr (mn tp) n ps)))) wd tp N rd sn) H := hP
    try dsimp only at hw9
    subst hw9
    exact W.zret hx hb hr (by decide) (fun tX htX hWX => ⟨⟨_, ((upd (upd sc 7 (zI ((if (gSo (mn tp) n ps) = 1 then 1 else 3 : Nat)))) 8 (zI ((gFr (mn tp) n ps)))), wd, rd), rfl, prQ_l (show notP (mn tp) n ps rd = .inl (3, gFr (mn tp) n ps) from if_pos (by omega)) rfl (zN_cg (by rw [if_neg (by omega)])) rfl ⟨rfl, rfl, rfl, rfl⟩, g_at htX (hP)⟩, hS.F htX⟩) hS.2.2 dX9_readNotice_16

set_option maxHeartbeats 4000000 in
set_option maxRecDepth 100000 in
theorem c_X9_readWorker (l : Launch) (g : GG) (a : Nat → Nat) (ha : aD a) (sc : Nat → Int32) (wd : Int64) (tp N rd sn : Nat → Int32) (n ps : Nat) (hn : n ≤ 740) (hp : ps ≤ n) (hz : sc 2 = zI n) (hT : okT tp) (hc : cur (mn tp) n ps sc wd) (h2 : gSo (mn tp) n ps = 2) (hcn : isN rd 57 4) : Met l yX9_readWorker wsX9_readWorker ({ frames := 3, cells := 0, slots := 0, locals := 68 }) (gPc g [.ref ((a 0))] (gP g (mW g a sc wd tp N rd sn))) (va_Qi (fun (r : Int32) (u : (Nat → Int32) × Int64 × (Nat → Int32)) => prQ (mn tp) n (workP (mn tp) n ps rd) r sc u.1 u.2.1 u.2.2) (fun u (tS : State) => gP g (mW g a u.1 u.2.1 tp N u.2.2 sn) tS.heap) (mA a)) 0 0 (mA a) := by
  refine Met.ofW (cc := cX9_readWorker) (maxL := 2) (ret := (some .boolean)) (by decide) rfl ?_
  intro p e s m args below meth c s₁ B hml hv
  obtain ⟨rfl, hP, hK⟩ := hv
  have hx := B.exec
  have hb := B.bytes
  have hr := B.returns
  have hts := atoms_spec (ws := wsX9_readWorker) B.pre
  have hown : s.vm.findClass RX9 = some m.cls := findClass_of_methodNamed B.named
  have hlocks := B.notSynchronized
  have hinX9 : ∀ w ∈ wsX90, w ∈ wsX9_readWorker := by decide +kernel
  have k73 := hts (.fieldLink RX9 73 "HoursBankModel" "read" "[I") (by decide +kernel)
  have hl := lv_entry ([.ref ((a 0))]) (n := 2) (Nat.le_of_ble_eq_true rfl)
  rw [lg_entry_eq]
  generalize (lg_sl ([.ref ((a 0))]) ++ List.replicate (2 - (lg_sl ([.ref ((a 0))])).length) Slot.unset).toArray = ls at hl ⊢
  have hl : lv_has ls 2 [(0, .ref ((a 0)))] := hl
  have hS : va_S (mA a) s.heap s.heap [] := va_S.rf
  obtain ⟨H, hH9⟩ : ∃ H, H = s.heap := ⟨_, rfl⟩
  obtain ⟨locs, hL9⟩ : ∃ x : List Loc, x = [] := ⟨_, rfl⟩
  have hP : gP g (mW g a sc wd tp N rd sn) H := hH9 ▸ hP
  have hS : va_S (mA a) s.heap H locs := by rw [hH9, hL9]; exact hS
  refine z_start hH9 hL9 ?_
  clear hH9 hL9
  have ak : kp sc sc := kp_refl
  have a7 : sc 7 = sc 7 := rfl
  have hs4 := gso_le (mn tp) n ps
  have hcl := hcn.le
  refine lv_aload_n hx hb dX9_readWorker_0 rfl (lv_at hl 0 rfl) ?_
  refine va_get (D := g.1) (ci := 9) (v := .ref ((a 3))) (C := RX9) (T := TX9) (N := 15) hx hb hts hinX9 hown hK hP 0 rfl rfl 12 (by decide) k73 (fun _ h9 => h9) rfl dX9_readWorker_1 ?_
  refine lv_bipush (v := zI (57)) hx hb dX9_readWorker_4 (by decide) ?_
  refine z_iald hx hb hK hP 3 0 rfl rfl (by decide) (57) (by omega) (by omega) dX9_readWorker_6 ?_
  refine z_top (y := zI (mn rd 57)) (hcn.eq) ?_
  refine lv_iconst (v := zI (4)) hx hb dX9_readWorker_7 (by decide) ?_
  refine z_icmp_ne (tgt := 17) hx hb dX9_readWorker_8 (by decide) (by omega) (by omega) (fun h8 => ?_) (fun h8 => ?_)
  · refine lv_aload_n hx hb dX9_readWorker_17 rfl (lv_at hl 0 rfl) ?_
    refine va_callv (va_runV (As := []) (rest := []) ⟨hx, hb, hml, hown, hts⟩ (c_X9_go l g (a) (ha) (sc) (wd) (tp) (N) (rd) (sn) (n) ((gTo (mn tp) n ps)) (hn) ((gto_le hp).1) (hz) (hc.1) (hT)) (cwV 0 hts gX9_readWorker_X9_go rfl rfl rfl (by decide +kernel) ⟨Nat.le_of_ble_eq_true rfl, Nat.le_of_ble_eq_true rfl⟩) (g_preV hP hK (va_recv hK hP (q0 := 0) (ci := 9) rfl rfl)) rfl rfl hl.1 rfl (lv_room (Nat.le_of_ble_eq_true rfl)) dX9_readWorker_18 ⟨Nat.le_of_ble_eq_true rfl, Nat.le_of_ble_eq_true rfl⟩) hS (fun q _ h => h) (fun q h => h) (fun u9 t9 H1 locs ht9 hvm9 hw9 hB9 hz9 hk9 hS => ?_)
    rw [ht9] at hB9
    have hP := hB9
    clear hB9 hz9 hk9 hvm9 ht9
    generalize H1 = H at hP hS ⊢
    have hP : gP g (mW g a (upd (upd (upd (upd sc 3 (zI ((gTo (mn tp) n (gTo (mn tp) n ps) : Nat)))) 4 (zI ((gFr (mn tp) n (gTo (mn tp) n ps) : Nat)))) 5 (zI ((gSo (mn tp) n (gTo (mn tp) n ps) : Nat)))) 6 (gNu (mn tp) n (gTo (mn tp) n ps) (sc 6))) (gWo (mn tp) n (gTo (mn tp) n ps) wd) tp N rd sn) H := hP
    refine lv_bipush (v := zI (58)) hx hb dX9_readWorker_21 (by decide) ?_
    refine lv_bipush (v := zI (13)) hx hb dX9_readWorker_23 (by decide) ?_
    refine lv_aload_n hx hb dX9_readWorker_25 rfl (lv_at hl 0 rfl) ?_
    refine va_get (D := g.1) (ci := 9) (v := .ref ((a 3))) (C := RX9) (T := TX9) (N := 15) hx hb hts hinX9 hown hK hP 0 rfl rfl 12 (by decide) k73 (fun _ h9 => h9) rfl dX9_readWorker_26 ?_
    refine lv_bipush (v := zI (57)) hx hb dX9_readWorker_29 (by decide) ?_
    refine z_iald hx hb hK hP 3 0 rfl rfl (by decide) (57) (by omega) (by omega) dX9_readWorker_31 ?_
    refine z_top (y := zI (mn rd 57)) (hcn.eq) ?_
    refine z_imul hx hb dX9_readWorker_32 ?_
    refine z_iadd hx hb dX9_readWorker_33 ?_
    refine z_top (y := zI (((58 + 13 * mn rd 57 : Nat) : Int))) (congrArg zI (by omega)) ?_
    refine lv_istore_n (lv' := [(1, .int (zI (((58 + 13 * mn rd 57 : Nat) : Int)))), (0, .ref ((a 0)))]) hx hb dX9_readWorker_34 rfl hl (by decide) rfl (fun ls hl => ?_)
    refine lv_aload_n hx hb dX9_readWorker_35 rfl (lv_at hl 1 rfl) ?_
    refine lv_iload_n hx hb dX9_readWorker_36 rfl (lv_at hl 0 rfl) ?_
    refine lv_iconst (v := zI (0)) hx hb dX9_readWorker_37 (by decide) ?_
    refine z_iadd hx hb dX9_readWorker_38 ?_
    refine z_top (y := zI (((58 + 13 * mn rd 57 : Nat) : Int))) (congrArg zI (by omega)) ?_
    refine lv_iconst (v := zI (1)) hx hb dX9_readWorker_39 (by decide) ?_
    refine lv_sipush (v := zI (999)) hx hb dX9_readWorker_40 (by decide) ?_
    refine va_calli (va_runV (As := [.int (zI (((58 + 13 * mn rd 57 : Nat) : Int))), .int (zI (1)), .int (zI (999))]) (rest := []) ⟨hx, hb, hml, hown, hts⟩ (c_X9_told l g (a) (ha) ((upd (upd (upd (upd sc 3 (zI ((gTo (mn tp) n (gTo (mn tp) n ps) : Nat)))) 4 (zI ((gFr (mn tp) n (gTo (mn tp) n ps) : Nat)))) 5 (zI ((gSo (mn tp) n (gTo (mn tp) n ps) : Nat)))) 6 (gNu (mn tp) n (gTo (mn tp) n ps) (sc 6)))) ((gWo (mn tp) n (gTo (mn tp) n ps) wd)) (tp) (N) (rd) (sn) (n) ((gTo (mn tp) n ps)) (hn) ((gto_le hp).1) (hz) (hT) (cur_go (gto_le hp).1 _ _ _) ((58 + 13 * mn rd 57)) (1) (999) (by omega) (by omega) (by omega)) (cwV 3 hts gX9_readWorker_X9_told rfl rfl rfl (by decide +kernel) ⟨Nat.le_of_ble_eq_true rfl, Nat.le_of_ble_eq_true rfl⟩) (g_preV hP hK (va_recv hK hP (q0 := 0) (ci := 9) rfl rfl)) rfl rfl hl.1 rfl (lv_room (Nat.le_of_ble_eq_true rfl)) dX9_readWorker_43 ⟨Nat.le_of_ble_eq_true rfl, Nat.le_of_ble_eq_true rfl⟩) hS (fun q _ h => h) (fun q h => h) (fun r1 u9 t9 H1 locs ht9 hvm9 hw1 hB9 hz9 hk9 hS => ?_)
    obtain ⟨sc1, wd1, rd1⟩ := u9
    rw [ht9] at hB9
    have hP := hB9
    clear hB9 hz9 hk9 hvm9 ht9
    generalize H1 = H at hP hS ⊢
    try dsimp only at hw1
    have hP : gP g (mW g a sc1 wd1 tp N rd1 sn) H := hP
    obtain ⟨e1, hx1⟩ | ⟨q1, hx1⟩ := pr_cases (tel (mn tp) n (58 + 13 * mn rd 57) 1 999 (gTo (mn tp) n ps) rd)
    · obtain ⟨rfl, b7, b8, bk⟩ := prQ_l' hx1 hw1
      have ak := kp_trans ak bk
      refine z_if_eq (tgt := 63) hx hb dX9_readWorker_46 (by decide) (by omega) (fun h46 => ?_) (fun h46 => ?_)
      · refine lv_iconst (v := zI (0)) hx hb dX9_readWorker_63 (by decide) ?_
        exact W.zret hx hb hr (by decide) (fun tX htX hWX => ⟨⟨_, (sc1, wd1, rd1), rfl, prQ_l (by unfold workP; rw [if_neg (show ¬ mn rd 57 = 4 by omega), bnd_l hx1]) rfl b7 b8 ak, g_at htX (hP)⟩, hS.F htX⟩) hS.2.2 dX9_readWorker_64
      · exfalso; omega
    · obtain ⟨rfl, cu, pn, rfl, bk, b7⟩ := prQ_r' hx1 hw1
      have ak := kp_trans ak bk
      have a7 := b7.trans a7
      have hP : gP g (mW g a sc1 wd1 tp N q1.2 sn) H := hP
      have t1 := tel_in (gto_le hp).1 hx1
      refine z_if_eq (tgt := 63) hx hb dX9_readWorker_46 (by decide) (by omega) (fun h46 => ?_) (fun h46 => ?_)
      · exfalso; omega
      · refine lv_aload_n hx hb dX9_readWorker_49 rfl (lv_at hl 1 rfl) ?_
        refine lv_iload_n hx hb dX9_readWorker_50 rfl (lv_at hl 0 rfl) ?_
        refine lv_iconst (v := zI (1)) hx hb dX9_readWorker_51 (by decide) ?_
        refine z_iadd hx hb dX9_readWorker_52 ?_
        refine z_top (y := zI (((58 + 13 * mn rd 57 + 1 : Nat) : Int))) (congrArg zI (by omega)) ?_
        refine lv_iconst (v := zI (0)) hx hb dX9_readWorker_53 (by decide) ?_
        refine lv_sipush (v := zI (9999)) hx hb dX9_readWorker_54 (by decide) ?_
        refine va_calli (va_runV (As := [.int (zI (((58 + 13 * mn rd 57 + 1 : Nat) : Int))), .int (zI (0)), .int (zI (9999))]) (rest := []) ⟨hx, hb, hml, hown, hts⟩ (c_X9_told l g (a) (ha) (sc1) (wd1) (tp) (N) (q1.2) (sn) (n) (q1.1) (hn) (pn) (ak.2.2.1.trans hz) (hT) (cu) ((58 + 13 * mn rd 57 + 1)) (0) (9999) (by omega) (by omega) (by omega)) (cwV 3 hts gX9_readWorker_X9_told rfl rfl rfl (by decide +kernel) ⟨Nat.le_of_ble_eq_true rfl, Nat.le_of_ble_eq_true rfl⟩) (g_preV hP hK (va_recv hK hP (q0 := 0) (ci := 9) rfl rfl)) rfl rfl hl.1 rfl (lv_room (Nat.le_of_ble_eq_true rfl)) dX9_readWorker_57 ⟨Nat.le_of_ble_eq_true rfl, Nat.le_of_ble_eq_true rfl⟩) hS (fun q _ h => h) (fun q h => h) (fun r2 u9 t9 H1 locs ht9 hvm9 hw2 hB9 hz9 hk9 hS => ?_)
        obtain ⟨sc2, wd2, rd2⟩ := u9
        rw [ht9] at hB9
        have hP := hB9
        clear hB9 hz9 hk9 hvm9 ht9
        generalize H1 = H at hP hS ⊢
        try dsimp only at hw2
        have hP : gP g (mW g a sc2 wd2 tp N rd2 sn) H := hP
        obtain ⟨e2, hx2⟩ | ⟨q2, hx2⟩ := pr_cases (tel (mn tp) n (58 + 13 * mn rd 57 + 1) 0 9999 q1.1 q1.2)
        · obtain ⟨rfl, b7, b8, bk⟩ := prQ_l' hx2 hw2
          have ak := kp_trans ak bk
          refine z_if_ne (tgt := 65) hx hb dX9_readWorker_60 (by decide) (by omega) (fun h60 => ?_) (fun h60 => ?_)
          · exfalso; omega
          · refine lv_iconst (v := zI (0)) hx hb dX9_readWorker_63 (by decide) ?_
            exact W.zret hx hb hr (by decide) (fun tX htX hWX => ⟨⟨_, (sc2, wd2, rd2), rfl, prQ_l (by unfold workP; rw [if_neg (show ¬ mn rd 57 = 4 by omega), bnd_r hx1, bnd_l hx2]) rfl b7 b8 ak, g_at htX (hP)⟩, hS.F htX⟩) hS.2.2 dX9_readWorker_64
        · obtain ⟨rfl, cu, pn, rfl, bk, b7⟩ := prQ_r' hx2 hw2
          have ak := kp_trans ak bk
          have a7 := b7.trans a7
          have hP : gP g (mW g a sc2 wd2 tp N q2.2 sn) H := hP
          have t2 := tel_in t1.2.2.2.2.2.2 hx2
          refine z_if_ne (tgt := 65) hx hb dX9_readWorker_60 (by decide) (by omega) (fun h60 => ?_) (fun h60 => ?_)
          · refine lv_aload_n hx hb dX9_readWorker_65 rfl (lv_at hl 1 rfl) ?_
            refine va_get (D := g.1) (ci := 9) (v := .ref ((a 3))) (C := RX9) (T := TX9) (N := 15) hx hb hts hinX9 hown hK hP 0 rfl rfl 12 (by decide) k73 (fun _ h9 => h9) rfl dX9_readWorker_66 ?_
            refine lv_bipush (v := zI (57)) hx hb dX9_readWorker_69 (by decide) ?_
            refine lv_dup2_11 hx hb dX9_readWorker_71 rfl rfl ?_
            refine z_iald hx hb hK hP 3 0 rfl rfl (by decide) (57) (by omega) (by omega) dX9_readWorker_72 ?_
            refine z_top (y := zI (mn rd 57)) (by rw [t2.2.2.2.2.1, upd_ne _ (by omega), t1.2.2.2.2.1, upd_ne _ (by omega)]; exact hcn.eq) ?_
            refine lv_iconst (v := zI (1)) hx hb dX9_readWorker_73 (by decide) ?_
            refine z_iadd hx hb dX9_readWorker_74 ?_
            refine z_iast hx hb hK hP (mD ha) hS 3 0 rfl rfl (by decide) (57) (by omega) (by omega) dX9_readWorker_75 (fun H locs hP _ hS => ?_)
            have hP : gP g (mW g a sc2 wd2 tp N (upd q2.2 57 (zI ((mn rd 57) + 1))) sn) H := hP
            refine lv_iconst (v := zI (1)) hx hb dX9_readWorker_76 (by decide) ?_
            exact W.zret hx hb hr (by decide) (fun tX htX hWX => ⟨⟨_, (sc2, wd2, (upd q2.2 57 (zI ((mn rd 57) + 1)))), rfl, prQ_r (q := (q2.1, upd q2.2 57 (zI ((mn rd 57 + 1 : Nat))))) (by unfold workP; rw [if_neg (show ¬ mn rd 57 = 4 by omega), bnd_r hx1, bnd_r hx2]) rfl cu pn (by rw [show ((mn rd 57 + 1 : Nat) : Int) = (mn rd 57 : Int) + 1 by omega]) ak a7, g_at htX (hP)⟩, hS.F htX⟩) hS.2.2 dX9_readWorker_77
          · exfalso; omega
  · refine lv_aload_n hx hb dX9_readWorker_11 rfl (lv_at hl 0 rfl) ?_
    refine lv_iconst (v := zI (3)) hx hb dX9_readWorker_12 (by decide) ?_
    refine va_calli (va_runV (As := [.int (zI (3))]) (rest := []) ⟨hx, hb, hml, hown, hts⟩ (c_X9_bad l g (a) (ha) (sc) (wd) (tp) (N) (rd) (sn) ((gSo (mn tp) n ps)) ((gFr (mn tp) n ps)) (3) (hc.2.2.1) (hc.2.1) (gso_le _ _ _)) (cwV 1 hts gX9_readWorker_X9_bad rfl rfl rfl (by decide +kernel) ⟨Nat.le_of_ble_eq_true rfl, Nat.le_of_ble_eq_true rfl⟩) (g_preV hP hK (va_recv hK hP (q0 := 0) (ci := 9) rfl rfl)) rfl rfl hl.1 rfl (lv_room (Nat.le_of_ble_eq_true rfl)) dX9_readWorker_13 ⟨Nat.le_of_ble_eq_true rfl, Nat.le_of_ble_eq_true rfl⟩) hS (fun q _ h => h) (fun q h => h) (fun r u9 t9 H1 locs ht9 hvm9 hw9 hB9 hz9 hk9 hS => ?_)
    rw [ht9] at hB9
    have hP := hB9
    clear hB9 hz9 hk9 hvm9 ht9
    generalize H1 = H at hP hS ⊢
    have hP : gP g (mW g a (upd (upd sc 7 (zI ((if (gSo (mn tp) n ps) = 1 then 1 else 3 : Nat)))) 8 (zI ((gFr (mn tp) n ps)))) wd tp N rd sn) H := hP
    try dsimp only at hw9
    subst hw9
    exact W.zret hx hb hr (by decide) (fun tX htX hWX => ⟨⟨_, ((upd (upd sc 7 (zI ((if (gSo (mn tp) n ps) = 1 then 1 else 3 : Nat)))) 8 (zI ((gFr (mn tp) n ps)))), wd, rd), rfl, prQ_l (show workP (mn tp) n ps rd = .inl (3, gFr (mn tp) n ps) from if_pos (by omega)) rfl (zN_cg (by rw [if_neg (by omega)])) rfl ⟨rfl, rfl, rfl, rfl⟩, g_at htX (hP)⟩, hS.F htX⟩) hS.2.2 dX9_readWorker_16

set_option maxHeartbeats 4000000 in
set_option maxRecDepth 100000 in
theorem c_X9_readSeason (l : Launch) (g : GG) (a : Nat → Nat) (ha : aD a) (sc : Nat → Int32) (wd : Int64) (tp N rd sn : Nat → Int32) (n ps : Nat) (hn : n ≤ 740) (hp : ps ≤ n) (hz : sc 2 = zI n) (hT : okT tp) (hc : cur (mn tp) n ps sc wd) (h2 : gSo (mn tp) n ps = 2) (hcn : isN rd 4 5) : Met l yX9_readSeason wsX9_readSeason ({ frames := 3, cells := 0, slots := 0, locals := 68 }) (gPc g [.ref ((a 0))] (gP g (mW g a sc wd tp N rd sn))) (va_Qi (fun (r : Int32) (u : (Nat → Int32) × Int64 × (Nat → Int32)) => prQ (mn tp) n (seasP (mn tp) n ps rd) r sc u.1 u.2.1 u.2.2) (fun u (tS : State) => gP g (mW g a u.1 u.2.1 tp N u.2.2 sn) tS.heap) (mA a)) 0 0 (mA a) := by
  refine Met.ofW (cc := cX9_readSeason) (maxL := 3) (ret := (some .boolean)) (by decide) rfl ?_
  intro p e s m args below meth c s₁ B hml hv
  obtain ⟨rfl, hP, hK⟩ := hv
  have hx := B.exec
  have hb := B.bytes
  have hr := B.returns
  have hts := atoms_spec (ws := wsX9_readSeason) B.pre
  have hown : s.vm.findClass RX9 = some m.cls := findClass_of_methodNamed B.named
  have hlocks := B.notSynchronized
  have hinX9 : ∀ w ∈ wsX90, w ∈ wsX9_readSeason := by decide +kernel
  have k73 := hts (.fieldLink RX9 73 "HoursBankModel" "read" "[I") (by decide +kernel)
  have hl := lv_entry ([.ref ((a 0))]) (n := 3) (Nat.le_of_ble_eq_true rfl)
  rw [lg_entry_eq]
  generalize (lg_sl ([.ref ((a 0))]) ++ List.replicate (3 - (lg_sl ([.ref ((a 0))])).length) Slot.unset).toArray = ls at hl ⊢
  have hl : lv_has ls 3 [(0, .ref ((a 0)))] := hl
  have hS : va_S (mA a) s.heap s.heap [] := va_S.rf
  obtain ⟨H, hH9⟩ : ∃ H, H = s.heap := ⟨_, rfl⟩
  obtain ⟨locs, hL9⟩ : ∃ x : List Loc, x = [] := ⟨_, rfl⟩
  have hP : gP g (mW g a sc wd tp N rd sn) H := hH9 ▸ hP
  have hS : va_S (mA a) s.heap H locs := by rw [hH9, hL9]; exact hS
  refine z_start hH9 hL9 ?_
  clear hH9 hL9
  have ak : kp sc sc := kp_refl
  have a7 : sc 7 = sc 7 := rfl
  have hs4 := gso_le (mn tp) n ps
  have hcl := hcn.le
  refine lv_aload_n hx hb dX9_readSeason_0 rfl (lv_at hl 0 rfl) ?_
  refine va_get (D := g.1) (ci := 9) (v := .ref ((a 3))) (C := RX9) (T := TX9) (N := 15) hx hb hts hinX9 hown hK hP 0 rfl rfl 12 (by decide) k73 (fun _ h9 => h9) rfl dX9_readSeason_1 ?_
  refine lv_iconst (v := zI (4)) hx hb dX9_readSeason_4 (by decide) ?_
  refine z_iald hx hb hK hP 3 0 rfl rfl (by decide) (4) (by omega) (by omega) dX9_readSeason_5 ?_
  refine z_top (y := zI (mn rd 4)) (hcn.eq) ?_
  refine lv_iconst (v := zI (5)) hx hb dX9_readSeason_6 (by decide) ?_
  refine z_icmp_ne (tgt := 16) hx hb dX9_readSeason_7 (by decide) (by omega) (by omega) (fun h7 => ?_) (fun h7 => ?_)
  · refine lv_aload_n hx hb dX9_readSeason_16 rfl (lv_at hl 0 rfl) ?_
    refine va_callv (va_runV (As := []) (rest := []) ⟨hx, hb, hml, hown, hts⟩ (c_X9_go l g (a) (ha) (sc) (wd) (tp) (N) (rd) (sn) (n) ((gTo (mn tp) n ps)) (hn) ((gto_le hp).1) (hz) (hc.1) (hT)) (cwV 0 hts gX9_readSeason_X9_go rfl rfl rfl (by decide +kernel) ⟨Nat.le_of_ble_eq_true rfl, Nat.le_of_ble_eq_true rfl⟩) (g_preV hP hK (va_recv hK hP (q0 := 0) (ci := 9) rfl rfl)) rfl rfl hl.1 rfl (lv_room (Nat.le_of_ble_eq_true rfl)) dX9_readSeason_17 ⟨Nat.le_of_ble_eq_true rfl, Nat.le_of_ble_eq_true rfl⟩) hS (fun q _ h => h) (fun q h => h) (fun u9 t9 H1 locs ht9 hvm9 hw9 hB9 hz9 hk9 hS => ?_)
    rw [ht9] at hB9
    have hP := hB9
    clear hB9 hz9 hk9 hvm9 ht9
    generalize H1 = H at hP hS ⊢
    have hP : gP g (mW g a (upd (upd (upd (upd sc 3 (zI ((gTo (mn tp) n (gTo (mn tp) n ps) : Nat)))) 4 (zI ((gFr (mn tp) n (gTo (mn tp) n ps) : Nat)))) 5 (zI ((gSo (mn tp) n (gTo (mn tp) n ps) : Nat)))) 6 (gNu (mn tp) n (gTo (mn tp) n ps) (sc 6))) (gWo (mn tp) n (gTo (mn tp) n ps) wd) tp N rd sn) H := hP
    refine lv_iconst (v := zI (5)) hx hb dX9_readSeason_20 (by decide) ?_
    refine lv_bipush (v := zI (9)) hx hb dX9_readSeason_21 (by decide) ?_
    refine lv_aload_n hx hb dX9_readSeason_23 rfl (lv_at hl 0 rfl) ?_
    refine va_get (D := g.1) (ci := 9) (v := .ref ((a 3))) (C := RX9) (T := TX9) (N := 15) hx hb hts hinX9 hown hK hP 0 rfl rfl 12 (by decide) k73 (fun _ h9 => h9) rfl dX9_readSeason_24 ?_
    refine lv_iconst (v := zI (4)) hx hb dX9_readSeason_27 (by decide) ?_
    refine z_iald hx hb hK hP 3 0 rfl rfl (by decide) (4) (by omega) (by omega) dX9_readSeason_28 ?_
    refine z_top (y := zI (mn rd 4)) (hcn.eq) ?_
    refine z_imul hx hb dX9_readSeason_29 ?_
    refine z_iadd hx hb dX9_readSeason_30 ?_
    refine z_top (y := zI (((5 + 9 * mn rd 4 : Nat) : Int))) (congrArg zI (by omega)) ?_
    refine lv_istore_n (lv' := [(1, .int (zI (((5 + 9 * mn rd 4 : Nat) : Int)))), (0, .ref ((a 0)))]) hx hb dX9_readSeason_31 rfl hl (by decide) rfl (fun ls hl => ?_)
    refine lv_aload_n hx hb dX9_readSeason_32 rfl (lv_at hl 1 rfl) ?_
    refine lv_iload_n hx hb dX9_readSeason_33 rfl (lv_at hl 0 rfl) ?_
    refine lv_iconst (v := zI (0)) hx hb dX9_readSeason_34 (by decide) ?_
    refine lv_sipush (v := zI (363)) hx hb dX9_readSeason_35 (by decide) ?_
    refine va_calli (va_runV (As := [.int (zI (((5 + 9 * mn rd 4 : Nat) : Int))), .int (zI (0)), .int (zI (363))]) (rest := []) ⟨hx, hb, hml, hown, hts⟩ (c_X9_told l g (a) (ha) ((upd (upd (upd (upd sc 3 (zI ((gTo (mn tp) n (gTo (mn tp) n ps) : Nat)))) 4 (zI ((gFr (mn tp) n (gTo (mn tp) n ps) : Nat)))) 5 (zI ((gSo (mn tp) n (gTo (mn tp) n ps) : Nat)))) 6 (gNu (mn tp) n (gTo (mn tp) n ps) (sc 6)))) ((gWo (mn tp) n (gTo (mn tp) n ps) wd)) (tp) (N) (rd) (sn) (n) ((gTo (mn tp) n ps)) (hn) ((gto_le hp).1) (hz) (hT) (cur_go (gto_le hp).1 _ _ _) ((5 + 9 * mn rd 4)) (0) (363) (by omega) (by omega) (by omega)) (cwV 3 hts gX9_readSeason_X9_told rfl rfl rfl (by decide +kernel) ⟨Nat.le_of_ble_eq_true rfl, Nat.le_of_ble_eq_true rfl⟩) (g_preV hP hK (va_recv hK hP (q0 := 0) (ci := 9) rfl rfl)) rfl rfl hl.1 rfl (lv_room (Nat.le_of_ble_eq_true rfl)) dX9_readSeason_38 ⟨Nat.le_of_ble_eq_true rfl, Nat.le_of_ble_eq_true rfl⟩) hS (fun q _ h => h) (fun q h => h) (fun r1 u9 t9 H1 locs ht9 hvm9 hw1 hB9 hz9 hk9 hS => ?_)
    obtain ⟨sc1, wd1, rd1⟩ := u9
    rw [ht9] at hB9
    have hP := hB9
    clear hB9 hz9 hk9 hvm9 ht9
    generalize H1 = H at hP hS ⊢
    try dsimp only at hw1
    have hP : gP g (mW g a sc1 wd1 tp N rd1 sn) H := hP
    obtain ⟨e1, hx1⟩ | ⟨q1, hx1⟩ := pr_cases (tel (mn tp) n (5 + 9 * mn rd 4) 0 363 (gTo (mn tp) n ps) rd)
    · obtain ⟨rfl, b7, b8, bk⟩ := prQ_l' hx1 hw1
      have ak := kp_trans ak bk
      refine z_if_eq (tgt := 63) hx hb dX9_readSeason_41 (by decide) (by omega) (fun h41 => ?_) (fun h41 => ?_)
      · refine lv_iconst (v := zI (0)) hx hb dX9_readSeason_63 (by decide) ?_
        exact W.zret hx hb hr (by decide) (fun tX htX hWX => ⟨⟨_, (sc1, wd1, rd1), rfl, prQ_l (by unfold seasP; rw [if_neg (show ¬ mn rd 4 = 5 by omega), bnd_l hx1]) rfl b7 b8 ak, g_at htX (hP)⟩, hS.F htX⟩) hS.2.2 dX9_readSeason_64
      · exfalso; omega
    · obtain ⟨rfl, cu, pn, rfl, bk, b7⟩ := prQ_r' hx1 hw1
      have ak := kp_trans ak bk
      have a7 := b7.trans a7
      have hP : gP g (mW g a sc1 wd1 tp N q1.2 sn) H := hP
      have t1 := tel_in (gto_le hp).1 hx1
      have hA : q1.2 (5 + 9 * mn rd 4) = zI (gV (mn tp) n (gTo (mn tp) n ps)) := by rw [t1.2.2.2.2.1, upd_at]
      have hA2 : mn q1.2 (5 + 9 * mn rd 4) = gV (mn tp) n (gTo (mn tp) n ps) := mn_of hA (by omega)
      refine z_if_eq (tgt := 63) hx hb dX9_readSeason_41 (by decide) (by omega) (fun h41 => ?_) (fun h41 => ?_)
      · exfalso; omega
      · refine lv_aload_n hx hb dX9_readSeason_44 rfl (lv_at hl 1 rfl) ?_
        refine lv_iload_n hx hb dX9_readSeason_45 rfl (lv_at hl 0 rfl) ?_
        refine lv_iconst (v := zI (1)) hx hb dX9_readSeason_46 (by decide) ?_
        refine z_iadd hx hb dX9_readSeason_47 ?_
        refine z_top (y := zI (((5 + 9 * mn rd 4 + 1 : Nat) : Int))) (congrArg zI (by omega)) ?_
        refine lv_aload_n hx hb dX9_readSeason_48 rfl (lv_at hl 1 rfl) ?_
        refine va_get (D := g.1) (ci := 9) (v := .ref ((a 3))) (C := RX9) (T := TX9) (N := 15) hx hb hts hinX9 hown hK hP 0 rfl rfl 12 (by decide) k73 (fun _ h9 => h9) rfl dX9_readSeason_49 ?_
        refine lv_iload_n hx hb dX9_readSeason_52 rfl (lv_at hl 0 rfl) ?_
        refine z_iald hx hb hK hP 3 0 rfl rfl (by decide) (5 + 9 * mn rd 4) (by omega) (by omega) dX9_readSeason_53 ?_
        refine z_top (y := zI (mn q1.2 (5 + 9 * mn rd 4))) (by rw [hA2]; exact hA) ?_
        refine lv_sipush (v := zI (363)) hx hb dX9_readSeason_54 (by decide) ?_
        refine va_calli (va_runV (As := [.int (zI (((5 + 9 * mn rd 4 + 1 : Nat) : Int))), .int (zI (mn q1.2 (5 + 9 * mn rd 4))), .int (zI (363))]) (rest := []) ⟨hx, hb, hml, hown, hts⟩ (c_X9_told l g (a) (ha) (sc1) (wd1) (tp) (N) (q1.2) (sn) (n) (q1.1) (hn) (pn) (ak.2.2.1.trans hz) (hT) (cu) ((5 + 9 * mn rd 4 + 1)) ((mn q1.2 (5 + 9 * mn rd 4))) (363) (by omega) (by omega) (by omega)) (cwV 3 hts gX9_readSeason_X9_told rfl rfl rfl (by decide +kernel) ⟨Nat.le_of_ble_eq_true rfl, Nat.le_of_ble_eq_true rfl⟩) (g_preV hP hK (va_recv hK hP (q0 := 0) (ci := 9) rfl rfl)) rfl rfl hl.1 rfl (lv_room (Nat.le_of_ble_eq_true rfl)) dX9_readSeason_57 ⟨Nat.le_of_ble_eq_true rfl, Nat.le_of_ble_eq_true rfl⟩) hS (fun q _ h => h) (fun q h => h) (fun r2 u9 t9 H1 locs ht9 hvm9 hw2 hB9 hz9 hk9 hS => ?_)
        obtain ⟨sc2, wd2, rd2⟩ := u9
        rw [ht9] at hB9
        have hP := hB9
        clear hB9 hz9 hk9 hvm9 ht9
        generalize H1 = H at hP hS ⊢
        try dsimp only at hw2
        have hP : gP g (mW g a sc2 wd2 tp N rd2 sn) H := hP
        obtain ⟨e2, hx2⟩ | ⟨q2, hx2⟩ := pr_cases (tel (mn tp) n (5 + 9 * mn rd 4 + 1) (mn q1.2 (5 + 9 * mn rd 4)) 363 q1.1 q1.2)
        · obtain ⟨rfl, b7, b8, bk⟩ := prQ_l' hx2 hw2
          have ak := kp_trans ak bk
          refine z_if_ne (tgt := 65) hx hb dX9_readSeason_60 (by decide) (by omega) (fun h60 => ?_) (fun h60 => ?_)
          · exfalso; omega
          · refine lv_iconst (v := zI (0)) hx hb dX9_readSeason_63 (by decide) ?_
            exact W.zret hx hb hr (by decide) (fun tX htX hWX => ⟨⟨_, (sc2, wd2, rd2), rfl, prQ_l (by unfold seasP; rw [if_neg (show ¬ mn rd 4 = 5 by omega), bnd_r hx1, bnd_l hx2]) rfl b7 b8 ak, g_at htX (hP)⟩, hS.F htX⟩) hS.2.2 dX9_readSeason_64
        · obtain ⟨rfl, cu, pn, rfl, bk, b7⟩ := prQ_r' hx2 hw2
          have ak := kp_trans ak bk
          have a7 := b7.trans a7
          have hP : gP g (mW g a sc2 wd2 tp N q2.2 sn) H := hP
          have t2 := tel_in t1.2.2.2.2.2.2 hx2
          refine z_if_ne (tgt := 65) hx hb dX9_readSeason_60 (by decide) (by omega) (fun h60 => ?_) (fun h60 => ?_)
          · refine lv_iconst (v := zI (2)) hx hb dX9_readSeason_65 (by decide) ?_
            refine lv_istore_n (lv' := [(2, .int (zI (2))), (1, .int (zI (((5 + 9 * mn rd 4 : Nat) : Int)))), (0, .ref ((a 0)))]) hx hb dX9_readSeason_66 rfl hl (by decide) rfl (fun ls hl => ?_)
            have loop67 : ∀ (K9 : Nat) (k : Nat) (q3 : Nat × (Nat → Int32)) (sc3 : Nat → Int32) (wd3 : Int64) (hK9 : 7 - k < K9) (hk : k ≤ 7) (hx3 : telN (mn tp) n (5 + 9 * mn rd 4) k q2.1 q2.2 = .inr q3) (cu : cur (mn tp) n q3.1 sc3 wd3) (pn0 : q3.1 ≤ n) (ak : kp sc sc3) (a7 : sc3 7 = sc 7) (hr4 : q3.2 4 = rd 4) (H : Heap) (locs : List Loc) (hP : gP g (mW g a sc3 wd3 tp N q3.2 sn) H) (hS : va_S (mA a) s.heap H locs) (ls : Array Slot) (hl : lv_has ls 3 [(2, .int (zI (((2 + k : Nat) : Int)))), (1, .int (zI (((5 + 9 * mn rd 4 : Nat) : Int)))), (0, .ref ((a 0)))]), W p l e (headSpec wsX9_readSeason ({ frames := 3, cells := 0, slots := 0, locals := 68 })).room s m ([.ref ((a 0))] : List Value).toArray below meth c H locs 0 0 (MQ below (va_Qi (fun (r : Int32) (u : (Nat → Int32) × Int64 × (Nat → Int32)) => prQ (mn tp) n (seasP (mn tp) n ps rd) r sc u.1 u.2.1 u.2.2) (fun u (tS : State) => gP g (mW g a u.1 u.2.1 tp N u.2.2 sn) tS.heap) (mA a)) ([.ref ((a 0))] : List Value).toArray s 0 0 (mA a)) (F0 m 67 ls []) := by
              intro K9
              induction K9 with
              | zero => intro k q3 sc3 wd3 hK9; exact absurd hK9 (Nat.not_lt_zero _)
              | succ K9 ih =>
                intro k q3 sc3 wd3 hK9 hk hx3 cu pn0 ak a7 hr4 H locs hP hS ls hl
                refine lv_iload_n hx hb dX9_readSeason_67 rfl (lv_at hl 0 rfl) ?_
                refine lv_bipush (v := zI (9)) hx hb dX9_readSeason_68 (by decide) ?_
                refine z_icmp_ge (tgt := 94) hx hb dX9_readSeason_70 (by decide) (by omega) (by omega) (fun h70 => ?_) (fun h70 => ?_)
                · obtain rfl : k = 7 := by omega
                  refine lv_aload_n hx hb dX9_readSeason_94 rfl (lv_at hl 2 rfl) ?_
                  refine va_get (D := g.1) (ci := 9) (v := .ref ((a 3))) (C := RX9) (T := TX9) (N := 15) hx hb hts hinX9 hown hK hP 0 rfl rfl 12 (by decide) k73 (fun _ h9 => h9) rfl dX9_readSeason_95 ?_
                  refine lv_iconst (v := zI (4)) hx hb dX9_readSeason_98 (by decide) ?_
                  refine lv_dup2_11 hx hb dX9_readSeason_99 rfl rfl ?_
                  refine z_iald hx hb hK hP 3 0 rfl rfl (by decide) (4) (by omega) (by omega) dX9_readSeason_100 ?_
                  refine z_top (y := zI (mn rd 4)) (hr4.trans hcn.eq) ?_
                  refine lv_iconst (v := zI (1)) hx hb dX9_readSeason_101 (by decide) ?_
                  refine z_iadd hx hb dX9_readSeason_102 ?_
                  refine z_iast hx hb hK hP (mD ha) hS 3 0 rfl rfl (by decide) (4) (by omega) (by omega) dX9_readSeason_103 (fun H locs hP _ hS => ?_)
                  have hP : gP g (mW g a sc3 wd3 tp N (upd q3.2 4 (zI ((mn rd 4) + 1))) sn) H := hP
                  refine lv_iconst (v := zI (1)) hx hb dX9_readSeason_104 (by decide) ?_
                  exact W.zret hx hb hr (by decide) (fun tX htX hWX => ⟨⟨_, (sc3, wd3, (upd q3.2 4 (zI ((mn rd 4) + 1)))), rfl, prQ_r (q := (q3.1, upd q3.2 4 (zI ((mn rd 4 + 1 : Nat))))) (by unfold seasP; rw [if_neg (show ¬ mn rd 4 = 5 by omega), bnd_r hx1, bnd_r hx2, bnd_r hx3]) rfl cu pn0 (by rw [show ((mn rd 4 + 1 : Nat) : Int) = (mn rd 4 : Int) + 1 by omega]) ak a7, g_at htX (hP)⟩, hS.F htX⟩) hS.2.2 dX9_readSeason_105
                · refine lv_aload_n hx hb dX9_readSeason_73 rfl (lv_at hl 2 rfl) ?_
                  refine lv_iload_n hx hb dX9_readSeason_74 rfl (lv_at hl 1 rfl) ?_
                  refine lv_iload_n hx hb dX9_readSeason_75 rfl (lv_at hl 0 rfl) ?_
                  refine z_iadd hx hb dX9_readSeason_76 ?_
                  refine z_top (y := zI (((5 + 9 * mn rd 4 + (2 + k) : Nat) : Int))) (congrArg zI (by omega)) ?_
                  refine lv_iconst (v := zI (0)) hx hb dX9_readSeason_77 (by decide) ?_
                  refine lv_bipush (v := zI (96)) hx hb dX9_readSeason_78 (by decide) ?_
                  refine va_calli (va_runV (As := [.int (zI (((5 + 9 * mn rd 4 + (2 + k) : Nat) : Int))), .int (zI (0)), .int (zI (96))]) (rest := []) ⟨hx, hb, hml, hown, hts⟩ (c_X9_told l g (a) (ha) (sc3) (wd3) (tp) (N) (q3.2) (sn) (n) (q3.1) (hn) (pn0) (ak.2.2.1.trans hz) (hT) (cu) ((5 + 9 * mn rd 4 + (2 + k))) (0) (96) (by omega) (by omega) (by omega)) (cwV 3 hts gX9_readSeason_X9_told rfl rfl rfl (by decide +kernel) ⟨Nat.le_of_ble_eq_true rfl, Nat.le_of_ble_eq_true rfl⟩) (g_preV hP hK (va_recv hK hP (q0 := 0) (ci := 9) rfl rfl)) rfl rfl hl.1 rfl (lv_room (Nat.le_of_ble_eq_true rfl)) dX9_readSeason_80 ⟨Nat.le_of_ble_eq_true rfl, Nat.le_of_ble_eq_true rfl⟩) hS (fun q _ h => h) (fun q h => h) (fun r3 u9 t9 H1 locs ht9 hvm9 hw3 hB9 hz9 hk9 hS => ?_)
                  obtain ⟨sc3, wd3, rd3⟩ := u9
                  rw [ht9] at hB9
                  have hP := hB9
                  clear hB9 hz9 hk9 hvm9 ht9
                  generalize H1 = H at hP hS ⊢
                  try dsimp only at hw3
                  have hP : gP g (mW g a sc3 wd3 tp N rd3 sn) H := hP
                  obtain ⟨e4, hx4⟩ | ⟨q4, hx4⟩ := pr_cases (tel (mn tp) n (5 + 9 * mn rd 4 + (2 + k)) 0 96 q3.1 q3.2)
                  · obtain ⟨rfl, b7, b8, bk⟩ := prQ_l' hx4 hw3
                    have ak := kp_trans ak bk
                    refine z_if_ne (tgt := 88) hx hb dX9_readSeason_83 (by decide) (by omega) (fun h83 => ?_) (fun h83 => ?_)
                    · exfalso; omega
                    · refine lv_iconst (v := zI (0)) hx hb dX9_readSeason_86 (by decide) ?_
                      exact W.zret hx hb hr (by decide) (fun tX htX hWX => ⟨⟨_, (sc3, wd3, rd3), rfl, prQ_l (by unfold seasP; rw [if_neg (show ¬ mn rd 4 = 5 by omega), bnd_r hx1, bnd_r hx2, bnd_l (telN_fail (k := k + 1) (by rw [telN, bnd_r hx3]; exact hx4) 7 (by omega))]) rfl b7 b8 ak, g_at htX (hP)⟩, hS.F htX⟩) hS.2.2 dX9_readSeason_87
                  · obtain ⟨rfl, cu, pn, rfl, bk, b7⟩ := prQ_r' hx4 hw3
                    have ak := kp_trans ak bk
                    have a7 := b7.trans a7
                    have hP : gP g (mW g a sc3 wd3 tp N q4.2 sn) H := hP
                    have t4 := tel_in pn0 hx4
                    refine z_if_ne (tgt := 88) hx hb dX9_readSeason_83 (by decide) (by omega) (fun h83 => ?_) (fun h83 => ?_)
                    · refine z_iinc (lv' := [(2, .int (zI (((2 + k : Nat) : Int) + 1))), (1, .int (zI (((5 + 9 * mn rd 4 : Nat) : Int)))), (0, .ref ((a 0)))]) hx hb dX9_readSeason_88 hl (k := 0) rfl (by decide) rfl (fun ls hl => ?_)
                      refine lv_goto (tgt := 67) hx hb dX9_readSeason_91 (by decide) ?_
                      have hl := lv_sub (l' := [(2, .int (zI (((2 + k : Nat) : Int) + 1))), (1, .int (zI (((5 + 9 * mn rd 4 : Nat) : Int)))), (0, .ref ((a 0)))]) hl [0, 1, 2] rfl
                      have hl : lv_has ls 3 [(2, .int (zI (((2 + (k + 1) : Nat) : Int)))), (1, .int (zI (((5 + 9 * mn rd 4 : Nat) : Int)))), (0, .ref ((a 0)))] := lv_cg (lvE (congrArg zI (by omega)) (lvR (lvR (rfl)))) hl
                      exact ih (k + 1) (q4) (sc3) (wd3) (by omega) (by omega) (by rw [telN, bnd_r hx3]; exact hx4) (cu) (pn) (ak) (a7) (by rw [t4.2.2.2.2.1, upd_ne _ (by omega)]; exact hr4) H locs (hP) hS ls hl
                    · exfalso; omega
            have hl := lv_sub (l' := [(2, .int (zI (2))), (1, .int (zI (((5 + 9 * mn rd 4 : Nat) : Int)))), (0, .ref ((a 0)))]) hl [0, 1, 2] rfl
            have hl : lv_has ls 3 [(2, .int (zI (((2 + 0 : Nat) : Int)))), (1, .int (zI (((5 + 9 * mn rd 4 : Nat) : Int)))), (0, .ref ((a 0)))] := lv_cg (lvE (congrArg zI (by omega)) (lvR (lvR (rfl)))) hl
            exact loop67 _ (0) (q2) (sc2) (wd2) (Nat.lt_succ_self _) (by omega) (rfl) (cu) (pn) (ak) (a7) (by rw [t2.2.2.2.2.1, upd_ne _ (by omega), t1.2.2.2.2.1, upd_ne _ (by omega)]) H locs (hP) hS ls hl
          · exfalso; omega
  · refine lv_aload_n hx hb dX9_readSeason_10 rfl (lv_at hl 0 rfl) ?_
    refine lv_iconst (v := zI (3)) hx hb dX9_readSeason_11 (by decide) ?_
    refine va_calli (va_runV (As := [.int (zI (3))]) (rest := []) ⟨hx, hb, hml, hown, hts⟩ (c_X9_bad l g (a) (ha) (sc) (wd) (tp) (N) (rd) (sn) ((gSo (mn tp) n ps)) ((gFr (mn tp) n ps)) (3) (hc.2.2.1) (hc.2.1) (gso_le _ _ _)) (cwV 1 hts gX9_readSeason_X9_bad rfl rfl rfl (by decide +kernel) ⟨Nat.le_of_ble_eq_true rfl, Nat.le_of_ble_eq_true rfl⟩) (g_preV hP hK (va_recv hK hP (q0 := 0) (ci := 9) rfl rfl)) rfl rfl hl.1 rfl (lv_room (Nat.le_of_ble_eq_true rfl)) dX9_readSeason_12 ⟨Nat.le_of_ble_eq_true rfl, Nat.le_of_ble_eq_true rfl⟩) hS (fun q _ h => h) (fun q h => h) (fun r u9 t9 H1 locs ht9 hvm9 hw9 hB9 hz9 hk9 hS => ?_)
    rw [ht9] at hB9
    have hP := hB9
    clear hB9 hz9 hk9 hvm9 ht9
    generalize H1 = H at hP hS ⊢
    have hP : gP g (mW g a (upd (upd sc 7 (zI ((if (gSo (mn tp) n ps) = 1 then 1 else 3 : Nat)))) 8 (zI ((gFr (mn tp) n ps)))) wd tp N rd sn) H := hP
    try dsimp only at hw9
    subst hw9
    exact W.zret hx hb hr (by decide) (fun tX htX hWX => ⟨⟨_, ((upd (upd sc 7 (zI ((if (gSo (mn tp) n ps) = 1 then 1 else 3 : Nat)))) 8 (zI ((gFr (mn tp) n ps)))), wd, rd), rfl, prQ_l (show seasP (mn tp) n ps rd = .inl (3, gFr (mn tp) n ps) from if_pos (by omega)) rfl (zN_cg (by rw [if_neg (by omega)])) rfl ⟨rfl, rfl, rfl, rfl⟩, g_at htX (hP)⟩, hS.F htX⟩) hS.2.2 dX9_readSeason_15

set_option maxHeartbeats 4000000 in
set_option maxRecDepth 100000 in
theorem c_X9_readLine (l : Launch) (g : GG) (a : Nat → Nat) (ha : aD a) (sc : Nat → Int32) (wd : Int64) (tp N rd sn : Nat → Int32) (n ps : Nat) (hn : n ≤ 740) (hp : ps ≤ n) (hz : sc 2 = zI n) (hT : okT tp) (hc : cur (mn tp) n ps sc wd) (f : Int) (hf : f = 0 ∨ f = 1) (hc4 : isN rd 4 5) (hc50 : isN rd 50 3) (hc57 : isN rd 57 4) : Met l yX9_readLine wsX9_readLine ({ frames := 4, cells := 0, slots := 0, locals := 90 }) (gPc g [.ref ((a 0)), .int (zI (f))] (gP g (mW g a sc wd tp N rd sn))) (va_Qi (fun (r : Int32) (u : (Nat → Int32) × Int64 × (Nat → Int32)) => prQ (mn tp) n (lineP (mn tp) n (f = 1) ps rd) r sc u.1 u.2.1 u.2.2) (fun u (tS : State) => gP g (mW g a u.1 u.2.1 tp N u.2.2 sn) tS.heap) (mA a)) 0 0 (mA a) := by
  refine Met.ofW (cc := cX9_readLine) (maxL := 2) (ret := (some .boolean)) (by decide) rfl ?_
  intro p e s m args below meth c s₁ B hml hv
  obtain ⟨rfl, hP, hK⟩ := hv
  have hx := B.exec
  have hb := B.bytes
  have hr := B.returns
  have hts := atoms_spec (ws := wsX9_readLine) B.pre
  have hown : s.vm.findClass RX9 = some m.cls := findClass_of_methodNamed B.named
  have hlocks := B.notSynchronized
  have hl := lv_entry ([.ref ((a 0)), .int (zI (f))]) (n := 2) (Nat.le_of_ble_eq_true rfl)
  rw [lg_entry_eq]
  generalize (lg_sl ([.ref ((a 0)), .int (zI (f))]) ++ List.replicate (2 - (lg_sl ([.ref ((a 0)), .int (zI (f))])).length) Slot.unset).toArray = ls at hl ⊢
  have hl : lv_has ls 2 [(0, .ref ((a 0))), (1, .int (zI (f)))] := hl
  have hS : va_S (mA a) s.heap s.heap [] := va_S.rf
  obtain ⟨H, hH9⟩ : ∃ H, H = s.heap := ⟨_, rfl⟩
  obtain ⟨locs, hL9⟩ : ∃ x : List Loc, x = [] := ⟨_, rfl⟩
  have hP : gP g (mW g a sc wd tp N rd sn) H := hH9 ▸ hP
  have hS : va_S (mA a) s.heap H locs := by rw [hH9, hL9]; exact hS
  refine z_start hH9 hL9 ?_
  clear hH9 hL9
  have hs4 := gso_le (mn tp) n ps
  refine lv_iload_n hx hb dX9_readLine_0 rfl (lv_at hl 1 rfl) ?_
  refine z_if_eq (tgt := 9) hx hb dX9_readLine_1 (by decide) (by omega) (fun h1 => ?_) (fun h1 => ?_)
  · refine lv_aload_n hx hb dX9_readLine_9 rfl (lv_at hl 0 rfl) ?_
    refine lv_bipush (v := zI (115)) hx hb dX9_readLine_10 (by decide) ?_
    refine lv_bipush (v := zI (101)) hx hb dX9_readLine_12 (by decide) ?_
    refine lv_bipush (v := zI (97)) hx hb dX9_readLine_14 (by decide) ?_
    refine lv_bipush (v := zI (115)) hx hb dX9_readLine_16 (by decide) ?_
    refine lv_bipush (v := zI (111)) hx hb dX9_readLine_18 (by decide) ?_
    refine lv_bipush (v := zI (110)) hx hb dX9_readLine_20 (by decide) ?_
    refine vp_callSl (va_Run.run (va_runS (As := [.int (zI (115)), .int (zI (101)), .int (zI (97)), .int (zI (115)), .int (zI (111)), .int (zI (110))]) (rest := [.ref ((a 0))]) ⟨hx, hb, hml, hown, hts⟩ (c_X9_six l (115) (101) (97) (115) (111) (110) (by omega) (by omega) (by omega) (by omega) (by omega) (by omega)) (va_cwS 6 hts gX9_readLine_X9_six rfl rfl rfl (by decide +kernel) ⟨Nat.le_of_ble_eq_true rfl, Nat.le_of_ble_eq_true rfl⟩) g_preS0 rfl rfl hl.1 rfl (lv_room (Nat.le_of_ble_eq_true rfl)) dX9_readLine_22 ⟨Nat.le_of_ble_eq_true rfl, Nat.le_of_ble_eq_true rfl⟩)) (fun r hr9 => ?_)
    subst hr9
    refine vp_callSi (va_Run.run (va_runV (As := [.long (zL (19683 * hsh3 115 101 97 + hsh3 115 111 110))]) (rest := []) ⟨hx, hb, hml, hown, hts⟩ (c_X9_isWord l g (a) (sc) (wd) (tp) (N) (rd) (sn) ((gSo (mn tp) n ps)) ((wvT (mn tp) (skipT (mn tp) n ps) (gLen (mn tp) n ps))) ((19683 * hsh3 115 101 97 + hsh3 115 111 110)) (hc.2.2.1) (gso_le _ _ _) (hc.2.2.2.2) (wv_rng hT hn hp) (by unfold hsh3; omega)) (cwV 1 hts gX9_readLine_X9_isWord rfl rfl rfl (by decide +kernel) ⟨Nat.le_of_ble_eq_true rfl, Nat.le_of_ble_eq_true rfl⟩) (g_preV hP hK (va_recv hK hP (q0 := 0) (ci := 9) rfl rfl)) rfl rfl hl.1 rfl (lv_room (Nat.le_of_ble_eq_true rfl)) dX9_readLine_25 ⟨Nat.le_of_ble_eq_true rfl, Nat.le_of_ble_eq_true rfl⟩)) (fun r hr9 => ?_)
    subst hr9
    refine z_bz_eq (tgt := 36) hx hb dX9_readLine_28 (by decide) (fun h28 => ?_) (fun h28 => ?_)
    · have w1 : ¬ wIs6 (mn tp) n ps 115 101 97 115 111 110 := fun z => h28 ((sixW hp (a := 115) (b := 101) (c := 97) (d := 115) (x := 111) (y := 110) (by omega) (by omega) (by omega) (by omega) (by omega) (by omega)).mpr z)
      refine lv_aload_n hx hb dX9_readLine_36 rfl (lv_at hl 0 rfl) ?_
      refine lv_bipush (v := zI (110)) hx hb dX9_readLine_37 (by decide) ?_
      refine lv_bipush (v := zI (111)) hx hb dX9_readLine_39 (by decide) ?_
      refine lv_bipush (v := zI (116)) hx hb dX9_readLine_41 (by decide) ?_
      refine lv_bipush (v := zI (105)) hx hb dX9_readLine_43 (by decide) ?_
      refine lv_bipush (v := zI (99)) hx hb dX9_readLine_45 (by decide) ?_
      refine lv_bipush (v := zI (101)) hx hb dX9_readLine_47 (by decide) ?_
      refine vp_callSl (va_Run.run (va_runS (As := [.int (zI (110)), .int (zI (111)), .int (zI (116)), .int (zI (105)), .int (zI (99)), .int (zI (101))]) (rest := [.ref ((a 0))]) ⟨hx, hb, hml, hown, hts⟩ (c_X9_six l (110) (111) (116) (105) (99) (101) (by omega) (by omega) (by omega) (by omega) (by omega) (by omega)) (va_cwS 6 hts gX9_readLine_X9_six rfl rfl rfl (by decide +kernel) ⟨Nat.le_of_ble_eq_true rfl, Nat.le_of_ble_eq_true rfl⟩) g_preS0 rfl rfl hl.1 rfl (lv_room (Nat.le_of_ble_eq_true rfl)) dX9_readLine_49 ⟨Nat.le_of_ble_eq_true rfl, Nat.le_of_ble_eq_true rfl⟩)) (fun r hr9 => ?_)
      subst hr9
      refine vp_callSi (va_Run.run (va_runV (As := [.long (zL (19683 * hsh3 110 111 116 + hsh3 105 99 101))]) (rest := []) ⟨hx, hb, hml, hown, hts⟩ (c_X9_isWord l g (a) (sc) (wd) (tp) (N) (rd) (sn) ((gSo (mn tp) n ps)) ((wvT (mn tp) (skipT (mn tp) n ps) (gLen (mn tp) n ps))) ((19683 * hsh3 110 111 116 + hsh3 105 99 101)) (hc.2.2.1) (gso_le _ _ _) (hc.2.2.2.2) (wv_rng hT hn hp) (by unfold hsh3; omega)) (cwV 1 hts gX9_readLine_X9_isWord rfl rfl rfl (by decide +kernel) ⟨Nat.le_of_ble_eq_true rfl, Nat.le_of_ble_eq_true rfl⟩) (g_preV hP hK (va_recv hK hP (q0 := 0) (ci := 9) rfl rfl)) rfl rfl hl.1 rfl (lv_room (Nat.le_of_ble_eq_true rfl)) dX9_readLine_52 ⟨Nat.le_of_ble_eq_true rfl, Nat.le_of_ble_eq_true rfl⟩)) (fun r hr9 => ?_)
      subst hr9
      refine z_bz_eq (tgt := 63) hx hb dX9_readLine_55 (by decide) (fun h55 => ?_) (fun h55 => ?_)
      · have w2 : ¬ wIs6 (mn tp) n ps 110 111 116 105 99 101 := fun z => h55 ((sixW hp (a := 110) (b := 111) (c := 116) (d := 105) (x := 99) (y := 101) (by omega) (by omega) (by omega) (by omega) (by omega) (by omega)).mpr z)
        refine lv_aload_n hx hb dX9_readLine_63 rfl (lv_at hl 0 rfl) ?_
        refine lv_bipush (v := zI (119)) hx hb dX9_readLine_64 (by decide) ?_
        refine lv_bipush (v := zI (111)) hx hb dX9_readLine_66 (by decide) ?_
        refine lv_bipush (v := zI (114)) hx hb dX9_readLine_68 (by decide) ?_
        refine lv_bipush (v := zI (107)) hx hb dX9_readLine_70 (by decide) ?_
        refine lv_bipush (v := zI (101)) hx hb dX9_readLine_72 (by decide) ?_
        refine lv_bipush (v := zI (114)) hx hb dX9_readLine_74 (by decide) ?_
        refine vp_callSl (va_Run.run (va_runS (As := [.int (zI (119)), .int (zI (111)), .int (zI (114)), .int (zI (107)), .int (zI (101)), .int (zI (114))]) (rest := [.ref ((a 0))]) ⟨hx, hb, hml, hown, hts⟩ (c_X9_six l (119) (111) (114) (107) (101) (114) (by omega) (by omega) (by omega) (by omega) (by omega) (by omega)) (va_cwS 6 hts gX9_readLine_X9_six rfl rfl rfl (by decide +kernel) ⟨Nat.le_of_ble_eq_true rfl, Nat.le_of_ble_eq_true rfl⟩) g_preS0 rfl rfl hl.1 rfl (lv_room (Nat.le_of_ble_eq_true rfl)) dX9_readLine_76 ⟨Nat.le_of_ble_eq_true rfl, Nat.le_of_ble_eq_true rfl⟩)) (fun r hr9 => ?_)
        subst hr9
        refine vp_callSi (va_Run.run (va_runV (As := [.long (zL (19683 * hsh3 119 111 114 + hsh3 107 101 114))]) (rest := []) ⟨hx, hb, hml, hown, hts⟩ (c_X9_isWord l g (a) (sc) (wd) (tp) (N) (rd) (sn) ((gSo (mn tp) n ps)) ((wvT (mn tp) (skipT (mn tp) n ps) (gLen (mn tp) n ps))) ((19683 * hsh3 119 111 114 + hsh3 107 101 114)) (hc.2.2.1) (gso_le _ _ _) (hc.2.2.2.2) (wv_rng hT hn hp) (by unfold hsh3; omega)) (cwV 1 hts gX9_readLine_X9_isWord rfl rfl rfl (by decide +kernel) ⟨Nat.le_of_ble_eq_true rfl, Nat.le_of_ble_eq_true rfl⟩) (g_preV hP hK (va_recv hK hP (q0 := 0) (ci := 9) rfl rfl)) rfl rfl hl.1 rfl (lv_room (Nat.le_of_ble_eq_true rfl)) dX9_readLine_79 ⟨Nat.le_of_ble_eq_true rfl, Nat.le_of_ble_eq_true rfl⟩)) (fun r hr9 => ?_)
        subst hr9
        refine z_bz_eq (tgt := 92) hx hb dX9_readLine_82 (by decide) (fun h82 => ?_) (fun h82 => ?_)
        · have w3 : ¬ wIs6 (mn tp) n ps 119 111 114 107 101 114 := fun z => h82 ((sixW hp (a := 119) (b := 111) (c := 114) (d := 107) (x := 101) (y := 114) (by omega) (by omega) (by omega) (by omega) (by omega) (by omega)).mpr z)
          refine lv_aload_n hx hb dX9_readLine_92 rfl (lv_at hl 0 rfl) ?_
          refine lv_iconst (v := zI (1)) hx hb dX9_readLine_93 (by decide) ?_
          refine va_calli (va_runV (As := [.int (zI (1))]) (rest := []) ⟨hx, hb, hml, hown, hts⟩ (c_X9_bad l g (a) (ha) (sc) (wd) (tp) (N) (rd) (sn) ((gSo (mn tp) n ps)) ((gFr (mn tp) n ps)) (1) (hc.2.2.1) (hc.2.1) (gso_le _ _ _)) (cwV 1 hts gX9_readLine_X9_bad rfl rfl rfl (by decide +kernel) ⟨Nat.le_of_ble_eq_true rfl, Nat.le_of_ble_eq_true rfl⟩) (g_preV hP hK (va_recv hK hP (q0 := 0) (ci := 9) rfl rfl)) rfl rfl hl.1 rfl (lv_room (Nat.le_of_ble_eq_true rfl)) dX9_readLine_94 ⟨Nat.le_of_ble_eq_true rfl, Nat.le_of_ble_eq_true rfl⟩) hS (fun q _ h => h) (fun q h => h) (fun r u9 t9 H1 locs ht9 hvm9 hw9 hB9 hz9 hk9 hS => ?_)
          rw [ht9] at hB9
          have hP := hB9
          clear hB9 hz9 hk9 hvm9 ht9
          generalize H1 = H at hP hS ⊢
          have hP : gP g (mW g a (upd (upd sc 7 (zI ((if (gSo (mn tp) n ps) = 1 then 1 else 1 : Nat)))) 8 (zI ((gFr (mn tp) n ps)))) wd tp N rd sn) H := hP
          try dsimp only at hw9
          subst hw9
          exact W.zret hx hb hr (by decide) (fun tX htX hWX => ⟨⟨_, ((upd (upd sc 7 (zI ((if (gSo (mn tp) n ps) = 1 then 1 else 1 : Nat)))) 8 (zI ((gFr (mn tp) n ps)))), wd, rd), rfl, (by unfold lineP; rw [if_neg (show ¬ f = 1 by omega), if_neg w1, if_neg w2, if_neg w3]; exact prQ_l rfl rfl (zN_cg (by split <;> rfl)) rfl ⟨rfl, rfl, rfl, rfl⟩), g_at htX (hP)⟩, hS.F htX⟩) hS.2.2 dX9_readLine_97
        · have w3 : wIs6 (mn tp) n ps 119 111 114 107 101 114 := (sixW hp (a := 119) (b := 111) (c := 114) (d := 107) (x := 101) (y := 114) (by omega) (by omega) (by omega) (by omega) (by omega) (by omega)).mp h82
          refine lv_aload_n hx hb dX9_readLine_85 rfl (lv_at hl 0 rfl) ?_
          refine va_calli (va_runV (As := []) (rest := []) ⟨hx, hb, hml, hown, hts⟩ (c_X9_readWorker l g (a) (ha) (sc) (wd) (tp) (N) (rd) (sn) (n) (ps) (hn) (hp) (hz) (hT) (hc) (w3.1) (hc57)) (cwV 0 hts gX9_readLine_X9_readWorker rfl rfl rfl (by decide +kernel) ⟨Nat.le_of_ble_eq_true rfl, Nat.le_of_ble_eq_true rfl⟩) (g_preV hP hK (va_recv hK hP (q0 := 0) (ci := 9) rfl rfl)) rfl rfl hl.1 rfl (lv_room (Nat.le_of_ble_eq_true rfl)) dX9_readLine_86 ⟨Nat.le_of_ble_eq_true rfl, Nat.le_of_ble_eq_true rfl⟩) hS (fun q _ h => h) (fun q h => h) (fun r1 u9 t9 H1 locs ht9 hvm9 hw1 hB9 hz9 hk9 hS => ?_)
          obtain ⟨sc1, wd1, rd1⟩ := u9
          rw [ht9] at hB9
          have hP := hB9
          clear hB9 hz9 hk9 hvm9 ht9
          generalize H1 = H at hP hS ⊢
          try dsimp only at hw1
          have hP : gP g (mW g a sc1 wd1 tp N rd1 sn) H := hP
          refine lv_goto (tgt := 97) hx hb dX9_readLine_89 (by decide) ?_
          exact W.zret hx hb hr (prQ_nar hw1) (fun tX htX hWX => ⟨⟨_, (sc1, wd1, rd1), rfl, (by unfold lineP; rw [if_neg (show ¬ f = 1 by omega), if_neg w1, if_neg w2, if_pos w3]; exact hw1), g_at htX (hP)⟩, hS.F htX⟩) hS.2.2 dX9_readLine_97
      · have w2 : wIs6 (mn tp) n ps 110 111 116 105 99 101 := (sixW hp (a := 110) (b := 111) (c := 116) (d := 105) (x := 99) (y := 101) (by omega) (by omega) (by omega) (by omega) (by omega) (by omega)).mp h55
        refine lv_aload_n hx hb dX9_readLine_58 rfl (lv_at hl 0 rfl) ?_
        refine va_calli (va_runV (As := []) (rest := []) ⟨hx, hb, hml, hown, hts⟩ (c_X9_readNotice l g (a) (ha) (sc) (wd) (tp) (N) (rd) (sn) (n) (ps) (hn) (hp) (hz) (hT) (hc) (w2.1) (hc50)) (cwV 0 hts gX9_readLine_X9_readNotice rfl rfl rfl (by decide +kernel) ⟨Nat.le_of_ble_eq_true rfl, Nat.le_of_ble_eq_true rfl⟩) (g_preV hP hK (va_recv hK hP (q0 := 0) (ci := 9) rfl rfl)) rfl rfl hl.1 rfl (lv_room (Nat.le_of_ble_eq_true rfl)) dX9_readLine_59 ⟨Nat.le_of_ble_eq_true rfl, Nat.le_of_ble_eq_true rfl⟩) hS (fun q _ h => h) (fun q h => h) (fun r1 u9 t9 H1 locs ht9 hvm9 hw1 hB9 hz9 hk9 hS => ?_)
        obtain ⟨sc1, wd1, rd1⟩ := u9
        rw [ht9] at hB9
        have hP := hB9
        clear hB9 hz9 hk9 hvm9 ht9
        generalize H1 = H at hP hS ⊢
        try dsimp only at hw1
        have hP : gP g (mW g a sc1 wd1 tp N rd1 sn) H := hP
        exact W.zret hx hb hr (prQ_nar hw1) (fun tX htX hWX => ⟨⟨_, (sc1, wd1, rd1), rfl, (by unfold lineP; rw [if_neg (show ¬ f = 1 by omega), if_neg w1, if_pos w2]; exact hw1), g_at htX (hP)⟩, hS.F htX⟩) hS.2.2 dX9_readLine_62
    · have w1 : wIs6 (mn tp) n ps 115 101 97 115 111 110 := (sixW hp (a := 115) (b := 101) (c := 97) (d := 115) (x := 111) (y := 110) (by omega) (by omega) (by omega) (by omega) (by omega) (by omega)).mp h28
      refine lv_aload_n hx hb dX9_readLine_31 rfl (lv_at hl 0 rfl) ?_
      refine va_calli (va_runV (As := []) (rest := []) ⟨hx, hb, hml, hown, hts⟩ (c_X9_readSeason l g (a) (ha) (sc) (wd) (tp) (N) (rd) (sn) (n) (ps) (hn) (hp) (hz) (hT) (hc) (w1.1) (hc4)) (cwV 0 hts gX9_readLine_X9_readSeason rfl rfl rfl (by decide +kernel) ⟨Nat.le_of_ble_eq_true rfl, Nat.le_of_ble_eq_true rfl⟩) (g_preV hP hK (va_recv hK hP (q0 := 0) (ci := 9) rfl rfl)) rfl rfl hl.1 rfl (lv_room (Nat.le_of_ble_eq_true rfl)) dX9_readLine_32 ⟨Nat.le_of_ble_eq_true rfl, Nat.le_of_ble_eq_true rfl⟩) hS (fun q _ h => h) (fun q h => h) (fun r1 u9 t9 H1 locs ht9 hvm9 hw1 hB9 hz9 hk9 hS => ?_)
      obtain ⟨sc1, wd1, rd1⟩ := u9
      rw [ht9] at hB9
      have hP := hB9
      clear hB9 hz9 hk9 hvm9 ht9
      generalize H1 = H at hP hS ⊢
      try dsimp only at hw1
      have hP : gP g (mW g a sc1 wd1 tp N rd1 sn) H := hP
      exact W.zret hx hb hr (prQ_nar hw1) (fun tX htX hWX => ⟨⟨_, (sc1, wd1, rd1), rfl, (by unfold lineP; rw [if_neg (show ¬ f = 1 by omega), if_pos w1]; exact hw1), g_at htX (hP)⟩, hS.F htX⟩) hS.2.2 dX9_readLine_35
  · refine lv_aload_n hx hb dX9_readLine_4 rfl (lv_at hl 0 rfl) ?_
    refine va_calli (va_runV (As := []) (rest := []) ⟨hx, hb, hml, hown, hts⟩ (c_X9_readBank l g (a) (ha) (sc) (wd) (tp) (N) (rd) (sn) (n) (ps) (hn) (hp) (hz) (hT) (hc)) (cwV 0 hts gX9_readLine_X9_readBank rfl rfl rfl (by decide +kernel) ⟨Nat.le_of_ble_eq_true rfl, Nat.le_of_ble_eq_true rfl⟩) (g_preV hP hK (va_recv hK hP (q0 := 0) (ci := 9) rfl rfl)) rfl rfl hl.1 rfl (lv_room (Nat.le_of_ble_eq_true rfl)) dX9_readLine_5 ⟨Nat.le_of_ble_eq_true rfl, Nat.le_of_ble_eq_true rfl⟩) hS (fun q _ h => h) (fun q h => h) (fun r1 u9 t9 H1 locs ht9 hvm9 hw1 hB9 hz9 hk9 hS => ?_)
    obtain ⟨sc1, wd1, rd1⟩ := u9
    rw [ht9] at hB9
    have hP := hB9
    clear hB9 hz9 hk9 hvm9 ht9
    generalize H1 = H at hP hS ⊢
    try dsimp only at hw1
    have hP : gP g (mW g a sc1 wd1 tp N rd1 sn) H := hP
    exact W.zret hx hb hr (prQ_nar hw1) (fun tX htX hWX => ⟨⟨_, (sc1, wd1, rd1), rfl, (by unfold lineP; rw [if_pos (by omega)]; exact hw1), g_at htX (hP)⟩, hS.F htX⟩) hS.2.2 dX9_readLine_8
