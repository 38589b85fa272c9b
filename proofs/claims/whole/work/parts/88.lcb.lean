set_option maxHeartbeats 4000000 in
set_option maxRecDepth 100000 in
theorem lc_5 {p : Program} {l : Launch} {e : Env} {s : State} {m : MethodId} {below : List Frame} {meth : Method} {c : Code} {b L : Nat} {xs : Nat → Int32} {g : GG} {ad a : Nat → Nat} {ao : Nat} {xk : Nat → Nat} {kq : KK} {H : Heap} {locs : List Loc} {cells slots : Nat} {Q : State → Prop} {ls : Array Slot} {i : Nat} (F : LF p l s m c b L xs g ad a ao xk kq) (hi : i + 6 ≤ L) (hLI : LI g ad a ao H) (hS : va_S (lA s) s.heap H locs) (hl : lv_has ls 7 (lvL b ad a ao i)) (hcl : cells + 1 ≤ room_1.cells) (hsl : slots + 6 ≤ room_1.slots)
    (kk9 : ∀ (H1 : Heap) (locs1 : List Loc) (ls1 : Array Slot), LI g ad a ao H1 → va_S (lA s) s.heap H1 locs1 → lv_has ls1 7 (lvL b ad a ao i) → W p l e room_1 s m #[Value.ref b] below meth c H1 locs1 (cells + 1) (slots + 6) Q (F0 m 941 ls1 [])) : W p l e room_1 s m #[Value.ref b] below meth c H locs cells slots Q (F0 m 285 ls []) := by
  obtain ⟨S, hl9, hK, hkC, hkY, hd9, ha, hdis, hao, ham, hA8, hA9, hAo, hX, hbl, hL⟩ := F
  obtain ⟨hx, hb, hml, hown, hts⟩ := id S
  obtain ⟨P, M, sc, wd, tp, N, rd, sn, f, k, t, hW, hM, hO, hI, e9, e1, ht7, m1, m2, hT, m3⟩ := hLI
  obtain ⟨hP9, hc9, hk10, hk6, nx, hnx, hn6, hch9⟩ := id hI
  obtain ⟨hN, hZt, hst9, hRu, hSh, ht9, hfl9⟩ := id hc9
  have hS8 : va_S (hbA ad) s.heap H [] := ⟨hS.1, fun q h1 _ => hS.2.1 q h1 (Nat.not_le.mpr h1), fun _ h => nomatch h⟩
  have r8 := va_recv hK (hb1 hW (show 0 < 126 by omega) (lcE rfl sh_0)) (q0 := 0) (ci := 8) rfl rfl
  have hc0 : cells + 0 ≤ room_1.cells ∧ slots + 0 ≤ room_1.slots := ⟨Nat.le_trans (Nat.le_succ _) hcl, Nat.le_trans (Nat.le_add_right _ 6) hsl⟩
  refine lv_aload_n hx hb dL_law_285 rfl (lv_at hl 1 rfl) ?_
  refine ls_rd (i := i) (j := 1) hx hb hX hbl hS dL_law_286 dL_law_287 dL_law_289 dL_law_290 dL_law_291 rfl (by omega) hL (lv_at hl 0 rfl) (lv_at hl 4 rfl) ?_
  refine ls_rd (i := i) (j := 2) hx hb hX hbl hS dL_law_292 dL_law_293 dL_law_295 dL_law_296 dL_law_297 rfl (by omega) hL (lv_at hl 0 rfl) (lv_at hl 4 rfl) ?_
  refine lv_aload_n hx hb dL_law_298 rfl (lv_at hl 3 rfl) ?_
  have hoA : ∀ q, oA ad ao q → lA s q := fun q h => h.elim (hA8 q) (fun h1 => h1 ▸ hAo)
  refine va_calli (A0 := lA s) (vx_runSW (As := [.ref (ad 0), .int (zI ((xs (i + 1)).toInt)), .int (zI ((xs (i + 2)).toInt)), .ref ao]) (rest := []) S (c_L_worker l hl9 g xk ad hd9 ao hao P M N sn k hI ((xs (i + 1)).toInt) ((xs (i + 2)).toInt) (R32_of _) (R32_of _) f) (vx_cwSW 4 hts gL_law0_L_worker rfl rfl rfl (by decide +kernel) ⟨Nat.le_of_ble_eq_true rfl, Nat.le_of_ble_eq_true rfl⟩) (gy_preS ⟨hW, hO⟩ hK hkY hS8) rfl rfl hl.1 rfl (lv_room (Nat.le_of_ble_eq_true rfl)) dL_law_299 ⟨hcl, hsl⟩) hS (fun q _ h => hoA q h) hoA (fun r1 u1 t1 H1 locs1 et1 _ hr1 hW1 _ hkp1 hS1 => ?_)
  rw [et1] at hW1
  obtain ⟨hW1, hO1⟩ := hW1
  have hM1 := li_mW hdis hM (A := oA ad ao) (fun q h1 h2 => h2.elim (fun h3 => hdis q h3 h1) (fun h3 => ham (h3 ▸ h1))) hkp1
  have hc1 : cells + 1 + 0 ≤ room_1.cells ∧ slots + 6 + 0 ≤ room_1.slots := ⟨hcl, hsl⟩
  refine lv_istore (lv' := [(5, .int r1), (0, .ref b), (1, .ref (ad 0)), (2, .ref (a 0)), (3, .ref ao), (4, .int (zI (i : Int)))]) hx hb dL_law_302 hl (by decide) rfl (fun ls hl => ?_)
  refine lv_aload_n hx hb dL_law_304 rfl (lv_at hl 3 rfl) ?_
  refine ls_rd (i := i) (j := 1) hx hb hX hbl hS1 dL_law_305 dL_law_306 dL_law_308 dL_law_309 dL_law_310 rfl (by omega) hL (lv_at hl 1 rfl) (lv_at hl 5 rfl) ?_
  refine ls_rd (i := i) (j := 2) hx hb hX hbl hS1 dL_law_311 dL_law_312 dL_law_314 dL_law_315 dL_law_316 rfl (by omega) hL (lv_at hl 1 rfl) (lv_at hl 5 rfl) ?_
  refine va_calli (A0 := lA s) (va_runV (As := [.int (zI ((xs (i + 1)).toInt)), .int (zI ((xs (i + 2)).toInt))]) (rest := []) S (c_X9_worker l g a ha sc wd tp N rd sn hN ((xs (i + 1)).toInt) ((xs (i + 2)).toInt) (R32_of _) (R32_of _)) (cwV 2 hts gL_law0_X9_worker rfl rfl rfl (by decide +kernel) ⟨Nat.le_of_ble_eq_true rfl, Nat.le_of_ble_eq_true rfl⟩) (g_preV hM1 hK (va_recv hK hM1 (q0 := 0) (ci := 9) rfl rfl)) rfl rfl hl.1 rfl (lv_room (Nat.le_of_ble_eq_true rfl)) dL_law_317 hc1) hS1 (fun q _ h => hA9 q h) hA9 (fun r2 u2 t2 H2 locs2 et2 _ hr2 hB _ hkp2 hS2 => ?_)
  rw [et2] at hB
  refine lv_istore (lv' := [(6, .int r2), (5, .int r1), (0, .ref b), (1, .ref (ad 0)), (2, .ref (a 0)), (3, .ref ao), (4, .int (zI (i : Int)))]) hx hb dL_law_320 hl (by decide) rfl (fun ls hl => ?_)
  refine lv_aload_n hx hb dL_law_322 rfl (lv_at hl 4 rfl) ?_
  refine vp_callSi (va_Run.run (va_runV (As := []) (rest := []) S (c_X9_thrown l g a _ _ _ _ _ _) (cwV 0 hts gL_law0_X9_thrown rfl rfl rfl (by decide +kernel) ⟨Nat.le_of_ble_eq_true rfl, Nat.le_of_ble_eq_true rfl⟩) (g_preV hB hK (va_recv hK hB (q0 := 0) (ci := 9) rfl rfl)) rfl rfl hl.1 rfl (lv_room (Nat.le_of_ble_eq_true rfl)) dL_law_323 hc1)) (fun r3 hr3 => ?_)
  have hr3 : r3 = r1 := hr3.trans hr1.1.symm
  refine lv_iload hx hb dL_law_326 (lv_at hl 1 rfl) ?_
  refine lv_icmp_eq (tgt := 333) hx hb dL_law_328 (by decide) (fun _ => ?_) (fun h9 => (h9 hr3).elim)
  have hk5 : W p l e room_1 s m #[Value.ref b] below meth c H2 locs2 (cells + 1 + 0) (slots + 6 + 0) Q (F0 m 941 ls []) := by
    exact kk9 H2 locs2 ls ⟨P, M, _, _, _, _, _, _, u1, k, t, li_cw hdis hW1 hkp2, hB, o_kept hO1 hkp2 ham, hI, e9, e1, ht7, m1, m2, hT, m3⟩ hS2 (lvx_sub hl (fun q h => List.mem_cons_of_mem _ (List.mem_cons_of_mem _ h)))
  refine lv_iload hx hb dL_law_333 (lv_at hl 1 rfl) ?_
  refine lv_if_ne (tgt := 350) hx hb dL_law_335 (by decide) (fun _ => ?_) (fun h0 => ?_)
  · exact lv_goto (tgt := 941) hx hb dL_law_350 (by decide) hk5
  · refine lv_aload_n hx hb dL_law_338 rfl (lv_at hl 5 rfl) ?_
    refine lv_iconst (v := zI (0)) hx hb dL_law_339 (by decide) ?_
    refine va_lald hx hb hK (o_kept hO1 hkp2 ham) 0 7 rfl rfl (by unfold vp_in; decide) dL_law_340 ?_
    refine lv_iload hx hb dL_law_341 (lv_at hl 0 rfl) ?_
    refine lv_i2l hx hb dL_law_343 rfl ?_
    refine W.lcmp hx hb dL_law_344 ?_
    refine lv_if_eq (tgt := 350) hx hb dL_law_345 (by decide) (fun _ => ?_) (fun h9 => (h9 ((lgc_0 _ _).mpr ?_)).elim)
    · exact lv_goto (tgt := 941) hx hb dL_law_350 (by decide) hk5
    · rw [hr2]; exact hr1.2 h0

set_option maxHeartbeats 4000000 in
set_option maxRecDepth 100000 in
theorem lc_12 {p : Program} {l : Launch} {e : Env} {s : State} {m : MethodId} {below : List Frame} {meth : Method} {c : Code} {b L : Nat} {xs : Nat → Int32} {g : GG} {ad a : Nat → Nat} {ao : Nat} {xk : Nat → Nat} {kq : KK} {H : Heap} {locs : List Loc} {cells slots : Nat} {Q : State → Prop} {ls : Array Slot} {i : Nat} (F : LF p l s m c b L xs g ad a ao xk kq) (hi : i + 6 ≤ L) (hLI : LI g ad a ao H) (hS : va_S (lA s) s.heap H locs) (hl : lv_has ls 7 (lvL b ad a ao i)) (hcl : cells + 1 ≤ room_1.cells) (hsl : slots + 6 ≤ room_1.slots)
    (kk9 : ∀ (H1 : Heap) (locs1 : List Loc) (ls1 : Array Slot), LI g ad a ao H1 → va_S (lA s) s.heap H1 locs1 → lv_has ls1 7 (lvL b ad a ao i) → W p l e room_1 s m #[Value.ref b] below meth c H1 locs1 (cells + 1) (slots + 6) Q (F0 m 941 ls1 [])) : W p l e room_1 s m #[Value.ref b] below meth c H locs cells slots Q (F0 m 599 ls []) := by
  obtain ⟨S, hl9, hK, hkC, hkY, hd9, ha, hdis, hao, ham, hA8, hA9, hAo, hX, hbl, hL⟩ := F
  obtain ⟨hx, hb, hml, hown, hts⟩ := id S
  obtain ⟨P, M, sc, wd, tp, N, rd, sn, f, k, t, hW, hM, hO, hI, e9, e1, ht7, m1, m2, hT, m3⟩ := hLI
  obtain ⟨hP9, hc9, hk10, hk6, nx, hnx, hn6, hch9⟩ := id hI
  obtain ⟨hN, hZt, hst9, hRu, hSh, ht9, hfl9⟩ := id hc9
  have hS8 : va_S (hbA ad) s.heap H [] := ⟨hS.1, fun q h1 _ => hS.2.1 q h1 (Nat.not_le.mpr h1), fun _ h => nomatch h⟩
  have r8 := va_recv hK (hb1 hW (show 0 < 126 by omega) (lcE rfl sh_0)) (q0 := 0) (ci := 8) rfl rfl
  have hc0 : cells + 0 ≤ room_1.cells ∧ slots + 0 ≤ room_1.slots := ⟨Nat.le_trans (Nat.le_succ _) hcl, Nat.le_trans (Nat.le_add_right _ 6) hsl⟩
  refine lv_aload_n hx hb dL_law_599 rfl (lv_at hl 1 rfl) ?_
  refine ls_rd (i := i) (j := 1) hx hb hX hbl hS dL_law_600 dL_law_601 dL_law_603 dL_law_604 dL_law_605 rfl (by omega) hL (lv_at hl 0 rfl) (lv_at hl 4 rfl) ?_
  refine lv_aload_n hx hb dL_law_606 rfl (lv_at hl 3 rfl) ?_
  have hoA : ∀ q, oA ad ao q → lA s q := fun q h => h.elim (hA8 q) (fun h1 => h1 ▸ hAo)
  refine va_calli (A0 := lA s) (vx_runSW (As := [.ref (ad 0), .int (zI ((xs (i + 1)).toInt)), .ref ao]) (rest := []) S (c_L_due l hl9 g xk ad hd9 ao hao P M N sn k hI ((xs (i + 1)).toInt) (R32_of _) f) (vx_cwSW 3 hts gL_law0_L_due rfl rfl rfl (by decide +kernel) ⟨Nat.le_of_ble_eq_true rfl, Nat.le_of_ble_eq_true rfl⟩) (gy_preS ⟨hW, hO⟩ hK hkY hS8) rfl rfl hl.1 rfl (lv_room (Nat.le_of_ble_eq_true rfl)) dL_law_607 ⟨hcl, hsl⟩) hS (fun q _ h => hoA q h) hoA (fun r1 u1 t1 H1 locs1 et1 _ hr1 hW1 _ hkp1 hS1 => ?_)
  rw [et1] at hW1
  obtain ⟨hW1, hO1⟩ := hW1
  have hM1 := li_mW hdis hM (A := oA ad ao) (fun q h1 h2 => h2.elim (fun h3 => hdis q h3 h1) (fun h3 => ham (h3 ▸ h1))) hkp1
  have hc1 : cells + 1 + 0 ≤ room_1.cells ∧ slots + 6 + 0 ≤ room_1.slots := ⟨hcl, hsl⟩
  refine lv_istore (lv' := [(5, .int r1), (0, .ref b), (1, .ref (ad 0)), (2, .ref (a 0)), (3, .ref ao), (4, .int (zI (i : Int)))]) hx hb dL_law_610 hl (by decide) rfl (fun ls hl => ?_)
  refine lv_aload_n hx hb dL_law_612 rfl (lv_at hl 3 rfl) ?_
  refine ls_rd (i := i) (j := 1) hx hb hX hbl hS1 dL_law_613 dL_law_614 dL_law_616 dL_law_617 dL_law_618 rfl (by omega) hL (lv_at hl 1 rfl) (lv_at hl 5 rfl) ?_
  refine va_calli (A0 := lA s) (va_runV (As := [.int (zI ((xs (i + 1)).toInt))]) (rest := []) S (c_X9_due l g a ha sc wd tp N rd sn hN ((xs (i + 1)).toInt) (R32_of _)) (cwV 1 hts gL_law0_X9_due rfl rfl rfl (by decide +kernel) ⟨Nat.le_of_ble_eq_true rfl, Nat.le_of_ble_eq_true rfl⟩) (g_preV hM1 hK (va_recv hK hM1 (q0 := 0) (ci := 9) rfl rfl)) rfl rfl hl.1 rfl (lv_room (Nat.le_of_ble_eq_true rfl)) dL_law_619 hc1) hS1 (fun q _ h => hA9 q h) hA9 (fun r2 u2 t2 H2 locs2 et2 _ hr2 hB _ hkp2 hS2 => ?_)
  rw [et2] at hB
  refine lv_istore (lv' := [(6, .int r2), (5, .int r1), (0, .ref b), (1, .ref (ad 0)), (2, .ref (a 0)), (3, .ref ao), (4, .int (zI (i : Int)))]) hx hb dL_law_622 hl (by decide) rfl (fun ls hl => ?_)
  refine lv_aload_n hx hb dL_law_624 rfl (lv_at hl 4 rfl) ?_
  refine vp_callSi (va_Run.run (va_runV (As := []) (rest := []) S (c_X9_thrown l g a _ _ _ _ _ _) (cwV 0 hts gL_law0_X9_thrown rfl rfl rfl (by decide +kernel) ⟨Nat.le_of_ble_eq_true rfl, Nat.le_of_ble_eq_true rfl⟩) (g_preV hB hK (va_recv hK hB (q0 := 0) (ci := 9) rfl rfl)) rfl rfl hl.1 rfl (lv_room (Nat.le_of_ble_eq_true rfl)) dL_law_625 hc1)) (fun r3 hr3 => ?_)
  have hr3 : r3 = r1 := hr3.trans hr1.1.symm
  refine lv_iload hx hb dL_law_628 (lv_at hl 1 rfl) ?_
  refine lv_icmp_eq (tgt := 635) hx hb dL_law_630 (by decide) (fun _ => ?_) (fun h9 => (h9 hr3).elim)
  have hk5 : W p l e room_1 s m #[Value.ref b] below meth c H2 locs2 (cells + 1 + 0) (slots + 6 + 0) Q (F0 m 941 ls []) := by
    exact kk9 H2 locs2 ls ⟨P, M, _, _, _, _, _, _, u1, k, t, li_cw hdis hW1 hkp2, hB, o_kept hO1 hkp2 ham, hI, e9, e1, ht7, m1, m2, hT, m3⟩ hS2 (lvx_sub hl (fun q h => List.mem_cons_of_mem _ (List.mem_cons_of_mem _ h)))
  refine lv_iload hx hb dL_law_635 (lv_at hl 1 rfl) ?_
  refine lv_if_ne (tgt := 652) hx hb dL_law_637 (by decide) (fun _ => ?_) (fun h0 => ?_)
  · exact lv_goto (tgt := 941) hx hb dL_law_652 (by decide) hk5
  · refine lv_aload_n hx hb dL_law_640 rfl (lv_at hl 5 rfl) ?_
    refine lv_iconst (v := zI (0)) hx hb dL_law_641 (by decide) ?_
    refine va_lald hx hb hK (o_kept hO1 hkp2 ham) 0 7 rfl rfl (by unfold vp_in; decide) dL_law_642 ?_
    refine lv_iload hx hb dL_law_643 (lv_at hl 0 rfl) ?_
    refine lv_i2l hx hb dL_law_645 rfl ?_
    refine W.lcmp hx hb dL_law_646 ?_
    refine lv_if_eq (tgt := 652) hx hb dL_law_647 (by decide) (fun _ => ?_) (fun h9 => (h9 ((lgc_0 _ _).mpr ?_)).elim)
    · exact lv_goto (tgt := 941) hx hb dL_law_652 (by decide) hk5
    · rw [hr2]; exact hr1.2 h0

set_option maxHeartbeats 4000000 in
set_option maxRecDepth 100000 in
theorem lc_13 {p : Program} {l : Launch} {e : Env} {s : State} {m : MethodId} {below : List Frame} {meth : Method} {c : Code} {b L : Nat} {xs : Nat → Int32} {g : GG} {ad a : Nat → Nat} {ao : Nat} {xk : Nat → Nat} {kq : KK} {H : Heap} {locs : List Loc} {cells slots : Nat} {Q : State → Prop} {ls : Array Slot} {i : Nat} (F : LF p l s m c b L xs g ad a ao xk kq) (hi : i + 6 ≤ L) (hLI : LI g ad a ao H) (hS : va_S (lA s) s.heap H locs) (hl : lv_has ls 7 (lvL b ad a ao i)) (hcl : cells + 1 ≤ room_1.cells) (hsl : slots + 6 ≤ room_1.slots)
    (kk9 : ∀ (H1 : Heap) (locs1 : List Loc) (ls1 : Array Slot), LI g ad a ao H1 → va_S (lA s) s.heap H1 locs1 → lv_has ls1 7 (lvL b ad a ao i) → W p l e room_1 s m #[Value.ref b] below meth c H1 locs1 (cells + 1) (slots + 6) Q (F0 m 941 ls1 [])) : W p l e room_1 s m #[Value.ref b] below meth c H locs cells slots Q (F0 m 655 ls []) := by
  obtain ⟨S, hl9, hK, hkC, hkY, hd9, ha, hdis, hao, ham, hA8, hA9, hAo, hX, hbl, hL⟩ := F
  obtain ⟨hx, hb, hml, hown, hts⟩ := id S
  obtain ⟨P, M, sc, wd, tp, N, rd, sn, f, k, t, hW, hM, hO, hI, e9, e1, ht7, m1, m2, hT, m3⟩ := hLI
  obtain ⟨hP9, hc9, hk10, hk6, nx, hnx, hn6, hch9⟩ := id hI
  obtain ⟨hN, hZt, hst9, hRu, hSh, ht9, hfl9⟩ := id hc9
  have hS8 : va_S (hbA ad) s.heap H [] := ⟨hS.1, fun q h1 _ => hS.2.1 q h1 (Nat.not_le.mpr h1), fun _ h => nomatch h⟩
  have r8 := va_recv hK (hb1 hW (show 0 < 126 by omega) (lcE rfl sh_0)) (q0 := 0) (ci := 8) rfl rfl
  have hc0 : cells + 0 ≤ room_1.cells ∧ slots + 0 ≤ room_1.slots := ⟨Nat.le_trans (Nat.le_succ _) hcl, Nat.le_trans (Nat.le_add_right _ 6) hsl⟩
  refine lv_aload_n hx hb dL_law_655 rfl (lv_at hl 1 rfl) ?_
  refine ls_rd (i := i) (j := 1) hx hb hX hbl hS dL_law_656 dL_law_657 dL_law_659 dL_law_660 dL_law_661 rfl (by omega) hL (lv_at hl 0 rfl) (lv_at hl 4 rfl) ?_
  refine ls_rd (i := i) (j := 2) hx hb hX hbl hS dL_law_662 dL_law_663 dL_law_665 dL_law_666 dL_law_667 rfl (by omega) hL (lv_at hl 0 rfl) (lv_at hl 4 rfl) ?_
  refine ls_rd (i := i) (j := 3) hx hb hX hbl hS dL_law_668 dL_law_669 dL_law_671 dL_law_672 dL_law_673 rfl (by omega) hL (lv_at hl 0 rfl) (lv_at hl 4 rfl) ?_
  refine va_calli (A0 := lA s) (va_runV (As := [.int (zI ((xs (i + 1)).toInt)), .int (zI ((xs (i + 2)).toInt)), .int (zI ((xs (i + 3)).toInt))]) (rest := []) S (c_X8_plan l g ad hd9 P M N sn k hI ((xs (i + 1)).toInt) ((xs (i + 2)).toInt) ((xs (i + 3)).toInt) (R32_of _) (R32_of _) (R32_of _)) (cwV 3 hts gL_law0_X8_plan rfl rfl rfl (by decide +kernel) ⟨Nat.le_of_ble_eq_true rfl, Nat.le_of_ble_eq_true rfl⟩) (g_preV hW hK r8) rfl rfl hl.1 rfl (lv_room (Nat.le_of_ble_eq_true rfl)) dL_law_674 hc0) hS (fun q _ h => hA8 q h) hA8 (fun r1 u1 t1 H1 locs1 et1 _ hr1 hW1 _ hkp1 hS1 => ?_)
  rw [et1] at hW1
  have hM1 := li_mW hdis hM (fun q h1 h2 => hdis q h2 h1) hkp1
  have hO1 := o_kept hO hkp1 hao
  refine lv_aload_n hx hb dL_law_677 rfl (lv_at hl 2 rfl) ?_
  refine ls_rd (i := i) (j := 1) hx hb hX hbl hS1 dL_law_678 dL_law_679 dL_law_681 dL_law_682 dL_law_683 rfl (by omega) hL (lv_at hl 0 rfl) (lv_at hl 4 rfl) ?_
  refine ls_rd (i := i) (j := 2) hx hb hX hbl hS1 dL_law_684 dL_law_685 dL_law_687 dL_law_688 dL_law_689 rfl (by omega) hL (lv_at hl 0 rfl) (lv_at hl 4 rfl) ?_
  refine ls_rd (i := i) (j := 3) hx hb hX hbl hS1 dL_law_690 dL_law_691 dL_law_693 dL_law_694 dL_law_695 rfl (by omega) hL (lv_at hl 0 rfl) (lv_at hl 4 rfl) ?_
  refine va_calli (A0 := lA s) (va_runV (As := [.int (zI ((xs (i + 1)).toInt)), .int (zI ((xs (i + 2)).toInt)), .int (zI ((xs (i + 3)).toInt))]) (rest := [.int r1]) S (c_X9_plan l g a ha sc wd tp N rd sn hN k e9 hk10 ((xs (i + 1)).toInt) ((xs (i + 2)).toInt) ((xs (i + 3)).toInt) (R32_of _) (R32_of _) (R32_of _)) (cwV 3 hts gL_law0_X9_plan rfl rfl rfl (by decide +kernel) ⟨Nat.le_of_ble_eq_true rfl, Nat.le_of_ble_eq_true rfl⟩) (g_preV hM1 hK (va_recv hK hM1 (q0 := 0) (ci := 9) rfl rfl)) rfl rfl hl.1 rfl (lv_room (Nat.le_of_ble_eq_true rfl)) dL_law_696 hc0) hS1 (fun q _ h => hA9 q h) hA9 (fun r2 u2 t2 H2 locs2 et2 _ hr2 hB _ hkp2 hS2 => ?_)
  rw [et2] at hB
  have hQ := hr1.2.2
  refine lv_icmp_eq (tgt := 941) hx hb dL_law_699 (by decide) (fun _ => ?_) (fun h9 => (h9 (by rw [hr1.1, hr2])).elim)
  refine W.widen (Nat.le_add_right _ 1) (Nat.le_add_right _ 6) ?_
  exact kk9 H2 locs2 ls ⟨P, u1, _, _, _, _, _, _, f, _, t, li_cw hdis hW1 hkp2, hB, o_kept hO1 hkp2 ham, hr1.2.1, rfl, e1, ht7, (congrFun (hQ 1 (by omega) (by omega)) 0).trans m1, fun i9 h9 => (congrFun (hQ 2 (by omega) (by omega)) i9).trans (m2 i9 h9), hT, (congrFun (hQ 3 (by omega) (by omega)) 0).trans m3⟩ hS2 hl

set_option maxHeartbeats 4000000 in
set_option maxRecDepth 100000 in
theorem lc_14 {p : Program} {l : Launch} {e : Env} {s : State} {m : MethodId} {below : List Frame} {meth : Method} {c : Code} {b L : Nat} {xs : Nat → Int32} {g : GG} {ad a : Nat → Nat} {ao : Nat} {xk : Nat → Nat} {kq : KK} {H : Heap} {locs : List Loc} {cells slots : Nat} {Q : State → Prop} {ls : Array Slot} {i : Nat} (F : LF p l s m c b L xs g ad a ao xk kq) (hi : i + 6 ≤ L) (hLI : LI g ad a ao H) (hS : va_S (lA s) s.heap H locs) (hl : lv_has ls 7 (lvL b ad a ao i)) (hcl : cells + 1 ≤ room_1.cells) (hsl : slots + 6 ≤ room_1.slots)
    (kk9 : ∀ (H1 : Heap) (locs1 : List Loc) (ls1 : Array Slot), LI g ad a ao H1 → va_S (lA s) s.heap H1 locs1 → lv_has ls1 7 (lvL b ad a ao i) → W p l e room_1 s m #[Value.ref b] below meth c H1 locs1 (cells + 1) (slots + 6) Q (F0 m 941 ls1 [])) : W p l e room_1 s m #[Value.ref b] below meth c H locs cells slots Q (F0 m 704 ls []) := by
  obtain ⟨S, hl9, hK, hkC, hkY, hd9, ha, hdis, hao, ham, hA8, hA9, hAo, hX, hbl, hL⟩ := F
  obtain ⟨hx, hb, hml, hown, hts⟩ := id S
  obtain ⟨P, M, sc, wd, tp, N, rd, sn, f, k, t, hW, hM, hO, hI, e9, e1, ht7, m1, m2, hT, m3⟩ := hLI
  obtain ⟨hP9, hc9, hk10, hk6, nx, hnx, hn6, hch9⟩ := id hI
  obtain ⟨hN, hZt, hst9, hRu, hSh, ht9, hfl9⟩ := id hc9
  have hS8 : va_S (hbA ad) s.heap H [] := ⟨hS.1, fun q h1 _ => hS.2.1 q h1 (Nat.not_le.mpr h1), fun _ h => nomatch h⟩
  have r8 := va_recv hK (hb1 hW (show 0 < 126 by omega) (lcE rfl sh_0)) (q0 := 0) (ci := 8) rfl rfl
  have hc0 : cells + 0 ≤ room_1.cells ∧ slots + 0 ≤ room_1.slots := ⟨Nat.le_trans (Nat.le_succ _) hcl, Nat.le_trans (Nat.le_add_right _ 6) hsl⟩
  refine lv_aload_n hx hb dL_law_704 rfl (lv_at hl 1 rfl) ?_
  refine ls_rd (i := i) (j := 1) hx hb hX hbl hS dL_law_705 dL_law_706 dL_law_708 dL_law_709 dL_law_710 rfl (by omega) hL (lv_at hl 0 rfl) (lv_at hl 4 rfl) ?_
  refine ls_rd (i := i) (j := 2) hx hb hX hbl hS dL_law_711 dL_law_712 dL_law_714 dL_law_715 dL_law_716 rfl (by omega) hL (lv_at hl 0 rfl) (lv_at hl 4 rfl) ?_
  refine va_calli (A0 := lA s) (va_runV (As := [.int (zI ((xs (i + 1)).toInt)), .int (zI ((xs (i + 2)).toInt))]) (rest := []) S (c_X8_work l g ad hd9 P M N sn k hI ((xs (i + 1)).toInt) ((xs (i + 2)).toInt) (R32_of _) (R32_of _)) (cwV 2 hts gL_law0_X8_work rfl rfl rfl (by decide +kernel) ⟨Nat.le_of_ble_eq_true rfl, Nat.le_of_ble_eq_true rfl⟩) (g_preV hW hK r8) rfl rfl hl.1 rfl (lv_room (Nat.le_of_ble_eq_true rfl)) dL_law_717 hc0) hS (fun q _ h => hA8 q h) hA8 (fun r1 u1 t1 H1 locs1 et1 _ hr1 hW1 _ hkp1 hS1 => ?_)
  rw [et1] at hW1
  have hM1 := li_mW hdis hM (fun q h1 h2 => hdis q h2 h1) hkp1
  have hO1 := o_kept hO hkp1 hao
  refine lv_aload_n hx hb dL_law_720 rfl (lv_at hl 2 rfl) ?_
  refine ls_rd (i := i) (j := 1) hx hb hX hbl hS1 dL_law_721 dL_law_722 dL_law_724 dL_law_725 dL_law_726 rfl (by omega) hL (lv_at hl 0 rfl) (lv_at hl 4 rfl) ?_
  refine ls_rd (i := i) (j := 2) hx hb hX hbl hS1 dL_law_727 dL_law_728 dL_law_730 dL_law_731 dL_law_732 rfl (by omega) hL (lv_at hl 0 rfl) (lv_at hl 4 rfl) ?_
  refine va_calli (A0 := lA s) (va_runV (As := [.int (zI ((xs (i + 1)).toInt)), .int (zI ((xs (i + 2)).toInt))]) (rest := [.int r1]) S (c_X9_work l g a ha sc wd tp N rd sn hN k e9 hk10 ((xs (i + 1)).toInt) ((xs (i + 2)).toInt) (R32_of _) (R32_of _)) (cwV 2 hts gL_law0_X9_work rfl rfl rfl (by decide +kernel) ⟨Nat.le_of_ble_eq_true rfl, Nat.le_of_ble_eq_true rfl⟩) (g_preV hM1 hK (va_recv hK hM1 (q0 := 0) (ci := 9) rfl rfl)) rfl rfl hl.1 rfl (lv_room (Nat.le_of_ble_eq_true rfl)) dL_law_733 hc0) hS1 (fun q _ h => hA9 q h) hA9 (fun r2 u2 t2 H2 locs2 et2 _ hr2 hB _ hkp2 hS2 => ?_)
  rw [et2] at hB
  have hQ := hr1.2.2
  refine lv_icmp_eq (tgt := 941) hx hb dL_law_736 (by decide) (fun _ => ?_) (fun h9 => (h9 (by rw [hr1.1, hr2])).elim)
  refine W.widen (Nat.le_add_right _ 1) (Nat.le_add_right _ 6) ?_
  exact kk9 H2 locs2 ls ⟨P, u1, _, _, _, _, _, _, f, _, t, li_cw hdis hW1 hkp2, hB, o_kept hO1 hkp2 ham, hr1.2.1, rfl, e1, ht7, (congrFun (hQ 1 (by omega) (by omega)) 0).trans m1, fun i9 h9 => (congrFun (hQ 2 (by omega) (by omega)) i9).trans (m2 i9 h9), hT, (congrFun (hQ 3 (by omega) (by omega)) 0).trans m3⟩ hS2 hl

set_option maxHeartbeats 4000000 in
set_option maxRecDepth 100000 in
theorem lc_15 {p : Program} {l : Launch} {e : Env} {s : State} {m : MethodId} {below : List Frame} {meth : Method} {c : Code} {b L : Nat} {xs : Nat → Int32} {g : GG} {ad a : Nat → Nat} {ao : Nat} {xk : Nat → Nat} {kq : KK} {H : Heap} {locs : List Loc} {cells slots : Nat} {Q : State → Prop} {ls : Array Slot} {i : Nat} (F : LF p l s m c b L xs g ad a ao xk kq) (hi : i + 6 ≤ L) (hLI : LI g ad a ao H) (hS : va_S (lA s) s.heap H locs) (hl : lv_has ls 7 (lvL b ad a ao i)) (hcl : cells + 1 ≤ room_1.cells) (hsl : slots + 6 ≤ room_1.slots)
    (kk9 : ∀ (H1 : Heap) (locs1 : List Loc) (ls1 : Array Slot), LI g ad a ao H1 → va_S (lA s) s.heap H1 locs1 → lv_has ls1 7 (lvL b ad a ao i) → W p l e room_1 s m #[Value.ref b] below meth c H1 locs1 (cells + 1) (slots + 6) Q (F0 m 941 ls1 [])) : W p l e room_1 s m #[Value.ref b] below meth c H locs cells slots Q (F0 m 741 ls []) := by
  obtain ⟨S, hl9, hK, hkC, hkY, hd9, ha, hdis, hao, ham, hA8, hA9, hAo, hX, hbl, hL⟩ := F
  obtain ⟨hx, hb, hml, hown, hts⟩ := id S
  obtain ⟨P, M, sc, wd, tp, N, rd, sn, f, k, t, hW, hM, hO, hI, e9, e1, ht7, m1, m2, hT, m3⟩ := hLI
  obtain ⟨hP9, hc9, hk10, hk6, nx, hnx, hn6, hch9⟩ := id hI
  obtain ⟨hN, hZt, hst9, hRu, hSh, ht9, hfl9⟩ := id hc9
  have hS8 : va_S (hbA ad) s.heap H [] := ⟨hS.1, fun q h1 _ => hS.2.1 q h1 (Nat.not_le.mpr h1), fun _ h => nomatch h⟩
  have r8 := va_recv hK (hb1 hW (show 0 < 126 by omega) (lcE rfl sh_0)) (q0 := 0) (ci := 8) rfl rfl
  have hc0 : cells + 0 ≤ room_1.cells ∧ slots + 0 ≤ room_1.slots := ⟨Nat.le_trans (Nat.le_succ _) hcl, Nat.le_trans (Nat.le_add_right _ 6) hsl⟩
  refine lv_aload_n hx hb dL_law_741 rfl (lv_at hl 1 rfl) ?_
  refine ls_rd (i := i) (j := 1) hx hb hX hbl hS dL_law_742 dL_law_743 dL_law_745 dL_law_746 dL_law_747 rfl (by omega) hL (lv_at hl 0 rfl) (lv_at hl 4 rfl) ?_
  refine ls_rd (i := i) (j := 2) hx hb hX hbl hS dL_law_748 dL_law_749 dL_law_751 dL_law_752 dL_law_753 rfl (by omega) hL (lv_at hl 0 rfl) (lv_at hl 4 rfl) ?_
  refine ls_nz hx hb (R32_of _) dL_law_754 dL_law_757 dL_law_758 dL_law_761 ?_
  refine va_calli (A0 := lA s) (va_runV (As := [.int (zI ((xs (i + 1)).toInt)), .int (zI (nz ((xs (i + 2)).toInt)))]) (rest := []) S (c_X8_sick l g ad hd9 P M N sn k hI ((xs (i + 1)).toInt) (nz ((xs (i + 2)).toInt)) (R32_of _) (nz_b _)) (cwV 2 hts gL_law0_X8_sick rfl rfl rfl (by decide +kernel) ⟨Nat.le_of_ble_eq_true rfl, Nat.le_of_ble_eq_true rfl⟩) (g_preV hW hK r8) rfl rfl hl.1 rfl (lv_room (Nat.le_of_ble_eq_true rfl)) dL_law_762 hc0) hS (fun q _ h => hA8 q h) hA8 (fun r1 u1 t1 H1 locs1 et1 _ hr1 hW1 _ hkp1 hS1 => ?_)
  rw [et1] at hW1
  have hM1 := li_mW hdis hM (fun q h1 h2 => hdis q h2 h1) hkp1
  have hO1 := o_kept hO hkp1 hao
  refine lv_aload_n hx hb dL_law_765 rfl (lv_at hl 2 rfl) ?_
  refine ls_rd (i := i) (j := 1) hx hb hX hbl hS1 dL_law_766 dL_law_767 dL_law_769 dL_law_770 dL_law_771 rfl (by omega) hL (lv_at hl 0 rfl) (lv_at hl 4 rfl) ?_
  refine ls_rd (i := i) (j := 2) hx hb hX hbl hS1 dL_law_772 dL_law_773 dL_law_775 dL_law_776 dL_law_777 rfl (by omega) hL (lv_at hl 0 rfl) (lv_at hl 4 rfl) ?_
  refine ls_nz hx hb (R32_of _) dL_law_778 dL_law_781 dL_law_782 dL_law_785 ?_
  refine va_calli (A0 := lA s) (va_runV (As := [.int (zI ((xs (i + 1)).toInt)), .int (zI (nz ((xs (i + 2)).toInt)))]) (rest := [.int r1]) S (c_X9_sick l g a ha sc wd tp N rd sn hN k e9 hk10 ((xs (i + 1)).toInt) (nz ((xs (i + 2)).toInt)) (R32_of _) (nz_b _)) (cwV 2 hts gL_law0_X9_sick rfl rfl rfl (by decide +kernel) ⟨Nat.le_of_ble_eq_true rfl, Nat.le_of_ble_eq_true rfl⟩) (g_preV hM1 hK (va_recv hK hM1 (q0 := 0) (ci := 9) rfl rfl)) rfl rfl hl.1 rfl (lv_room (Nat.le_of_ble_eq_true rfl)) dL_law_786 hc0) hS1 (fun q _ h => hA9 q h) hA9 (fun r2 u2 t2 H2 locs2 et2 _ hr2 hB _ hkp2 hS2 => ?_)
  rw [et2] at hB
  have hQ := hr1.2.2
  refine lv_icmp_eq (tgt := 941) hx hb dL_law_789 (by decide) (fun _ => ?_) (fun h9 => (h9 (by rw [hr1.1, hr2])).elim)
  refine W.widen (Nat.le_add_right _ 1) (Nat.le_add_right _ 6) ?_
  exact kk9 H2 locs2 ls ⟨P, u1, _, _, _, _, _, _, f, _, t, li_cw hdis hW1 hkp2, hB, o_kept hO1 hkp2 ham, hr1.2.1, rfl, e1, ht7, (congrFun (hQ 1 (by omega) (by omega)) 0).trans m1, fun i9 h9 => (congrFun (hQ 2 (by omega) (by omega)) i9).trans (m2 i9 h9), hT, (congrFun (hQ 3 (by omega) (by omega)) 0).trans m3⟩ hS2 hl

set_option maxHeartbeats 4000000 in
set_option maxRecDepth 100000 in
theorem lc_16 {p : Program} {l : Launch} {e : Env} {s : State} {m : MethodId} {below : List Frame} {meth : Method} {c : Code} {b L : Nat} {xs : Nat → Int32} {g : GG} {ad a : Nat → Nat} {ao : Nat} {xk : Nat → Nat} {kq : KK} {H : Heap} {locs : List Loc} {cells slots : Nat} {Q : State → Prop} {ls : Array Slot} {i : Nat} (F : LF p l s m c b L xs g ad a ao xk kq) (hi : i + 6 ≤ L) (hLI : LI g ad a ao H) (hS : va_S (lA s) s.heap H locs) (hl : lv_has ls 7 (lvL b ad a ao i)) (hcl : cells + 1 ≤ room_1.cells) (hsl : slots + 6 ≤ room_1.slots)
    (kk9 : ∀ (H1 : Heap) (locs1 : List Loc) (ls1 : Array Slot), LI g ad a ao H1 → va_S (lA s) s.heap H1 locs1 → lv_has ls1 7 (lvL b ad a ao i) → W p l e room_1 s m #[Value.ref b] below meth c H1 locs1 (cells + 1) (slots + 6) Q (F0 m 941 ls1 [])) : W p l e room_1 s m #[Value.ref b] below meth c H locs cells slots Q (F0 m 794 ls []) := by
  obtain ⟨S, hl9, hK, hkC, hkY, hd9, ha, hdis, hao, ham, hA8, hA9, hAo, hX, hbl, hL⟩ := F
  obtain ⟨hx, hb, hml, hown, hts⟩ := id S
  obtain ⟨P, M, sc, wd, tp, N, rd, sn, f, k, t, hW, hM, hO, hI, e9, e1, ht7, m1, m2, hT, m3⟩ := hLI
  obtain ⟨hP9, hc9, hk10, hk6, nx, hnx, hn6, hch9⟩ := id hI
  obtain ⟨hN, hZt, hst9, hRu, hSh, ht9, hfl9⟩ := id hc9
  have hS8 : va_S (hbA ad) s.heap H [] := ⟨hS.1, fun q h1 _ => hS.2.1 q h1 (Nat.not_le.mpr h1), fun _ h => nomatch h⟩
  have r8 := va_recv hK (hb1 hW (show 0 < 126 by omega) (lcE rfl sh_0)) (q0 := 0) (ci := 8) rfl rfl
  have hc0 : cells + 0 ≤ room_1.cells ∧ slots + 0 ≤ room_1.slots := ⟨Nat.le_trans (Nat.le_succ _) hcl, Nat.le_trans (Nat.le_add_right _ 6) hsl⟩
  refine lv_aload_n hx hb dL_law_794 rfl (lv_at hl 1 rfl) ?_
  refine ls_rd (i := i) (j := 1) hx hb hX hbl hS dL_law_795 dL_law_796 dL_law_798 dL_law_799 dL_law_800 rfl (by omega) hL (lv_at hl 0 rfl) (lv_at hl 4 rfl) ?_
  refine ls_rd (i := i) (j := 2) hx hb hX hbl hS dL_law_801 dL_law_802 dL_law_804 dL_law_805 dL_law_806 rfl (by omega) hL (lv_at hl 0 rfl) (lv_at hl 4 rfl) ?_
  refine ls_rd (i := i) (j := 3) hx hb hX hbl hS dL_law_807 dL_law_808 dL_law_810 dL_law_811 dL_law_812 rfl (by omega) hL (lv_at hl 0 rfl) (lv_at hl 4 rfl) ?_
  refine ls_nz hx hb (R32_of _) dL_law_813 dL_law_816 dL_law_817 dL_law_820 ?_
  refine va_calli (A0 := lA s) (va_runV (As := [.int (zI ((xs (i + 1)).toInt)), .int (zI ((xs (i + 2)).toInt)), .int (zI (nz ((xs (i + 3)).toInt)))]) (rest := []) S (c_X8_book l g ad hd9 P M N sn k hI ((xs (i + 1)).toInt) ((xs (i + 2)).toInt) (nz ((xs (i + 3)).toInt)) (R32_of _) (R32_of _) (nz_b _)) (cwV 3 hts gL_law0_X8_book rfl rfl rfl (by decide +kernel) ⟨Nat.le_of_ble_eq_true rfl, Nat.le_of_ble_eq_true rfl⟩) (g_preV hW hK r8) rfl rfl hl.1 rfl (lv_room (Nat.le_of_ble_eq_true rfl)) dL_law_821 hc0) hS (fun q _ h => hA8 q h) hA8 (fun r1 u1 t1 H1 locs1 et1 _ hr1 hW1 _ hkp1 hS1 => ?_)
  rw [et1] at hW1
  have hM1 := li_mW hdis hM (fun q h1 h2 => hdis q h2 h1) hkp1
  have hO1 := o_kept hO hkp1 hao
  refine lv_aload_n hx hb dL_law_824 rfl (lv_at hl 2 rfl) ?_
  refine ls_rd (i := i) (j := 1) hx hb hX hbl hS1 dL_law_825 dL_law_826 dL_law_828 dL_law_829 dL_law_830 rfl (by omega) hL (lv_at hl 0 rfl) (lv_at hl 4 rfl) ?_
  refine ls_rd (i := i) (j := 2) hx hb hX hbl hS1 dL_law_831 dL_law_832 dL_law_834 dL_law_835 dL_law_836 rfl (by omega) hL (lv_at hl 0 rfl) (lv_at hl 4 rfl) ?_
  refine ls_rd (i := i) (j := 3) hx hb hX hbl hS1 dL_law_837 dL_law_838 dL_law_840 dL_law_841 dL_law_842 rfl (by omega) hL (lv_at hl 0 rfl) (lv_at hl 4 rfl) ?_
  refine ls_nz hx hb (R32_of _) dL_law_843 dL_law_846 dL_law_847 dL_law_850 ?_
  refine va_calli (A0 := lA s) (va_runV (As := [.int (zI ((xs (i + 1)).toInt)), .int (zI ((xs (i + 2)).toInt)), .int (zI (nz ((xs (i + 3)).toInt)))]) (rest := [.int r1]) S (c_X9_book l g a ha sc wd tp N rd sn hN k e9 hk10 ((xs (i + 1)).toInt) ((xs (i + 2)).toInt) (nz ((xs (i + 3)).toInt)) (R32_of _) (R32_of _) (nz_b _)) (cwV 3 hts gL_law0_X9_book rfl rfl rfl (by decide +kernel) ⟨Nat.le_of_ble_eq_true rfl, Nat.le_of_ble_eq_true rfl⟩) (g_preV hM1 hK (va_recv hK hM1 (q0 := 0) (ci := 9) rfl rfl)) rfl rfl hl.1 rfl (lv_room (Nat.le_of_ble_eq_true rfl)) dL_law_851 hc0) hS1 (fun q _ h => hA9 q h) hA9 (fun r2 u2 t2 H2 locs2 et2 _ hr2 hB _ hkp2 hS2 => ?_)
  rw [et2] at hB
  have hQ := hr1.2.2
  refine lv_icmp_eq (tgt := 941) hx hb dL_law_854 (by decide) (fun _ => ?_) (fun h9 => (h9 (by rw [hr1.1, hr2])).elim)
  refine W.widen (Nat.le_add_right _ 1) (Nat.le_add_right _ 6) ?_
  exact kk9 H2 locs2 ls ⟨P, u1, _, _, _, _, _, _, f, _, t, li_cw hdis hW1 hkp2, hB, o_kept hO1 hkp2 ham, hr1.2.1, rfl, e1, ht7, (congrFun (hQ 1 (by omega) (by omega)) 0).trans m1, fun i9 h9 => (congrFun (hQ 2 (by omega) (by omega)) i9).trans (m2 i9 h9), hT, (congrFun (hQ 3 (by omega) (by omega)) 0).trans m3⟩ hS2 hl

set_option maxHeartbeats 4000000 in
set_option maxRecDepth 100000 in
theorem lc_17 {p : Program} {l : Launch} {e : Env} {s : State} {m : MethodId} {below : List Frame} {meth : Method} {c : Code} {b L : Nat} {xs : Nat → Int32} {g : GG} {ad a : Nat → Nat} {ao : Nat} {xk : Nat → Nat} {kq : KK} {H : Heap} {locs : List Loc} {cells slots : Nat} {Q : State → Prop} {ls : Array Slot} {i : Nat} (F : LF p l s m c b L xs g ad a ao xk kq) (hi : i + 6 ≤ L) (hLI : LI g ad a ao H) (hS : va_S (lA s) s.heap H locs) (hl : lv_has ls 7 (lvL b ad a ao i)) (hcl : cells + 1 ≤ room_1.cells) (hsl : slots + 6 ≤ room_1.slots)
    (kk9 : ∀ (H1 : Heap) (locs1 : List Loc) (ls1 : Array Slot), LI g ad a ao H1 → va_S (lA s) s.heap H1 locs1 → lv_has ls1 7 (lvL b ad a ao i) → W p l e room_1 s m #[Value.ref b] below meth c H1 locs1 (cells + 1) (slots + 6) Q (F0 m 941 ls1 [])) : W p l e room_1 s m #[Value.ref b] below meth c H locs cells slots Q (F0 m 859 ls []) := by
  obtain ⟨S, hl9, hK, hkC, hkY, hd9, ha, hdis, hao, ham, hA8, hA9, hAo, hX, hbl, hL⟩ := F
  obtain ⟨hx, hb, hml, hown, hts⟩ := id S
  obtain ⟨P, M, sc, wd, tp, N, rd, sn, f, k, t, hW, hM, hO, hI, e9, e1, ht7, m1, m2, hT, m3⟩ := hLI
  obtain ⟨hP9, hc9, hk10, hk6, nx, hnx, hn6, hch9⟩ := id hI
  obtain ⟨hN, hZt, hst9, hRu, hSh, ht9, hfl9⟩ := id hc9
  have hS8 : va_S (hbA ad) s.heap H [] := ⟨hS.1, fun q h1 _ => hS.2.1 q h1 (Nat.not_le.mpr h1), fun _ h => nomatch h⟩
  have r8 := va_recv hK (hb1 hW (show 0 < 126 by omega) (lcE rfl sh_0)) (q0 := 0) (ci := 8) rfl rfl
  have hc0 : cells + 0 ≤ room_1.cells ∧ slots + 0 ≤ room_1.slots := ⟨Nat.le_trans (Nat.le_succ _) hcl, Nat.le_trans (Nat.le_add_right _ 6) hsl⟩
  refine lv_aload_n hx hb dL_law_859 rfl (lv_at hl 1 rfl) ?_
  refine va_calli (A0 := lA s) (va_runV (As := []) (rest := []) S (c_X8_endDay l g ad hd9 P M N sn k hI  ) (cwV 0 hts gL_law0_X8_endDay rfl rfl rfl (by decide +kernel) ⟨Nat.le_of_ble_eq_true rfl, Nat.le_of_ble_eq_true rfl⟩) (g_preV hW hK r8) rfl rfl hl.1 rfl (lv_room (Nat.le_of_ble_eq_true rfl)) dL_law_860 hc0) hS (fun q _ h => hA8 q h) hA8 (fun r1 u1 t1 H1 locs1 et1 _ hr1 hW1 _ hkp1 hS1 => ?_)
  rw [et1] at hW1
  have hM1 := li_mW hdis hM (fun q h1 h2 => hdis q h2 h1) hkp1
  have hO1 := o_kept hO hkp1 hao
  refine lv_aload_n hx hb dL_law_863 rfl (lv_at hl 2 rfl) ?_
  refine va_calli (A0 := lA s) (va_runV (As := []) (rest := [.int r1]) S (c_X9_endDay l g a ha sc wd tp N rd sn hN k e9 hk10  ) (cwV 0 hts gL_law0_X9_endDay rfl rfl rfl (by decide +kernel) ⟨Nat.le_of_ble_eq_true rfl, Nat.le_of_ble_eq_true rfl⟩) (g_preV hM1 hK (va_recv hK hM1 (q0 := 0) (ci := 9) rfl rfl)) rfl rfl hl.1 rfl (lv_room (Nat.le_of_ble_eq_true rfl)) dL_law_864 hc0) hS1 (fun q _ h => hA9 q h) hA9 (fun r2 u2 t2 H2 locs2 et2 _ hr2 hB _ hkp2 hS2 => ?_)
  rw [et2] at hB
  have hQ := hr1.2.2
  refine lv_icmp_eq (tgt := 941) hx hb dL_law_867 (by decide) (fun _ => ?_) (fun h9 => (h9 (by rw [hr1.1, hr2])).elim)
  refine W.widen (Nat.le_add_right _ 1) (Nat.le_add_right _ 6) ?_
  exact kk9 H2 locs2 ls ⟨P, u1, _, _, _, _, _, _, f, _, t, li_cw hdis hW1 hkp2, hB, o_kept hO1 hkp2 ham, hr1.2.1, rfl, e1, ht7, (congrFun (hQ 1 (by omega) (by omega)) 0).trans m1, fun i9 h9 => (congrFun (hQ 2 (by omega) (by omega)) i9).trans (m2 i9 h9), hT, (congrFun (hQ 3 (by omega) (by omega)) 0).trans m3⟩ hS2 hl

set_option maxHeartbeats 4000000 in
set_option maxRecDepth 100000 in
theorem lc_18 {p : Program} {l : Launch} {e : Env} {s : State} {m : MethodId} {below : List Frame} {meth : Method} {c : Code} {b L : Nat} {xs : Nat → Int32} {g : GG} {ad a : Nat → Nat} {ao : Nat} {xk : Nat → Nat} {kq : KK} {H : Heap} {locs : List Loc} {cells slots : Nat} {Q : State → Prop} {ls : Array Slot} {i : Nat} (F : LF p l s m c b L xs g ad a ao xk kq) (hi : i + 6 ≤ L) (hLI : LI g ad a ao H) (hS : va_S (lA s) s.heap H locs) (hl : lv_has ls 7 (lvL b ad a ao i)) (hcl : cells + 1 ≤ room_1.cells) (hsl : slots + 6 ≤ room_1.slots)
    (kk9 : ∀ (H1 : Heap) (locs1 : List Loc) (ls1 : Array Slot), LI g ad a ao H1 → va_S (lA s) s.heap H1 locs1 → lv_has ls1 7 (lvL b ad a ao i) → W p l e room_1 s m #[Value.ref b] below meth c H1 locs1 (cells + 1) (slots + 6) Q (F0 m 941 ls1 [])) : W p l e room_1 s m #[Value.ref b] below meth c H locs cells slots Q (F0 m 872 ls []) := by
  obtain ⟨S, hl9, hK, hkC, hkY, hd9, ha, hdis, hao, ham, hA8, hA9, hAo, hX, hbl, hL⟩ := F
  obtain ⟨hx, hb, hml, hown, hts⟩ := id S
  obtain ⟨P, M, sc, wd, tp, N, rd, sn, f, k, t, hW, hM, hO, hI, e9, e1, ht7, m1, m2, hT, m3⟩ := hLI
  obtain ⟨hP9, hc9, hk10, hk6, nx, hnx, hn6, hch9⟩ := id hI
  obtain ⟨hN, hZt, hst9, hRu, hSh, ht9, hfl9⟩ := id hc9
  have hS8 : va_S (hbA ad) s.heap H [] := ⟨hS.1, fun q h1 _ => hS.2.1 q h1 (Nat.not_le.mpr h1), fun _ h => nomatch h⟩
  have r8 := va_recv hK (hb1 hW (show 0 < 126 by omega) (lcE rfl sh_0)) (q0 := 0) (ci := 8) rfl rfl
  have hc0 : cells + 0 ≤ room_1.cells ∧ slots + 0 ≤ room_1.slots := ⟨Nat.le_trans (Nat.le_succ _) hcl, Nat.le_trans (Nat.le_add_right _ 6) hsl⟩
  refine lv_aload_n hx hb dL_law_872 rfl (lv_at hl 1 rfl) ?_
  refine ls_rd (i := i) (j := 1) hx hb hX hbl hS dL_law_873 dL_law_874 dL_law_876 dL_law_877 dL_law_878 rfl (by omega) hL (lv_at hl 0 rfl) (lv_at hl 4 rfl) ?_
  refine lv_aload_n hx hb dL_law_879 rfl (lv_at hl 3 rfl) ?_
  have hoA : ∀ q, oA ad ao q → lA s q := fun q h => h.elim (hA8 q) (fun h1 => h1 ▸ hAo)
  refine va_calli (A0 := lA s) (vx_runSW (As := [.ref (ad 0), .int (zI ((xs (i + 1)).toInt)), .ref ao]) (rest := []) S (c_L_leave l hl9 g xk ad hd9 ao hao P M N sn k hI ((xs (i + 1)).toInt) (R32_of _) f) (vx_cwSW 3 hts gL_law0_L_leave rfl rfl rfl (by decide +kernel) ⟨Nat.le_of_ble_eq_true rfl, Nat.le_of_ble_eq_true rfl⟩) (gy_preS ⟨hW, hO⟩ hK hkY hS8) rfl rfl hl.1 rfl (lv_room (Nat.le_of_ble_eq_true rfl)) dL_law_880 ⟨hcl, hsl⟩) hS (fun q _ h => hoA q h) hoA (fun r1 u1 t1 H1 locs1 et1 _ hr1 hW1 _ hkp1 hS1 => ?_)
  rw [et1] at hW1
  obtain ⟨hW1, hO1⟩ := hW1
  have hM1 := li_mW hdis hM (A := oA ad ao) (fun q h1 h2 => h2.elim (fun h3 => hdis q h3 h1) (fun h3 => ham (h3 ▸ h1))) hkp1
  have hc1 : cells + 1 + 0 ≤ room_1.cells ∧ slots + 6 + 0 ≤ room_1.slots := ⟨hcl, hsl⟩
  refine lv_istore (lv' := [(5, .int r1), (0, .ref b), (1, .ref (ad 0)), (2, .ref (a 0)), (3, .ref ao), (4, .int (zI (i : Int)))]) hx hb dL_law_883 hl (by decide) rfl (fun ls hl => ?_)
  refine lv_aload_n hx hb dL_law_885 rfl (lv_at hl 3 rfl) ?_
  refine ls_rd (i := i) (j := 1) hx hb hX hbl hS1 dL_law_886 dL_law_887 dL_law_889 dL_law_890 dL_law_891 rfl (by omega) hL (lv_at hl 1 rfl) (lv_at hl 5 rfl) ?_
  refine va_calli (A0 := lA s) (va_runV (As := [.int (zI ((xs (i + 1)).toInt))]) (rest := []) S (c_X9_leave l g a ha sc wd tp N rd sn hN k e9 hk10 ((xs (i + 1)).toInt) (R32_of _)) (cwV 1 hts gL_law0_X9_leave rfl rfl rfl (by decide +kernel) ⟨Nat.le_of_ble_eq_true rfl, Nat.le_of_ble_eq_true rfl⟩) (g_preV hM1 hK (va_recv hK hM1 (q0 := 0) (ci := 9) rfl rfl)) rfl rfl hl.1 rfl (lv_room (Nat.le_of_ble_eq_true rfl)) dL_law_892 hc1) hS1 (fun q _ h => hA9 q h) hA9 (fun r2 u2 t2 H2 locs2 et2 _ hr2 hB _ hkp2 hS2 => ?_)
  rw [et2] at hB
  refine lv_istore (lv' := [(6, .int r2), (5, .int r1), (0, .ref b), (1, .ref (ad 0)), (2, .ref (a 0)), (3, .ref ao), (4, .int (zI (i : Int)))]) hx hb dL_law_895 hl (by decide) rfl (fun ls hl => ?_)
  refine lv_aload_n hx hb dL_law_897 rfl (lv_at hl 4 rfl) ?_
  refine vp_callSi (va_Run.run (va_runV (As := []) (rest := []) S (c_X9_thrown l g a _ _ _ _ _ _) (cwV 0 hts gL_law0_X9_thrown rfl rfl rfl (by decide +kernel) ⟨Nat.le_of_ble_eq_true rfl, Nat.le_of_ble_eq_true rfl⟩) (g_preV hB hK (va_recv hK hB (q0 := 0) (ci := 9) rfl rfl)) rfl rfl hl.1 rfl (lv_room (Nat.le_of_ble_eq_true rfl)) dL_law_898 hc1)) (fun r3 hr3 => ?_)
  have hr3 : r3 = r1 := hr3.trans hr1.1.symm
  refine lv_iload hx hb dL_law_901 (lv_at hl 1 rfl) ?_
  refine lv_icmp_eq (tgt := 908) hx hb dL_law_903 (by decide) (fun _ => ?_) (fun h9 => (h9 hr3).elim)
  have hk5 : W p l e room_1 s m #[Value.ref b] below meth c H2 locs2 (cells + 1 + 0) (slots + 6 + 0) Q (F0 m 941 ls []) := by
    have hQ := hr1.2.2.2
    exact kk9 H2 locs2 ls ⟨P, u1.1, _, _, _, _, _, _, u1.2, _, t, li_cw hdis hW1 hkp2, hB, o_kept hO1 hkp2 ham, hr1.2.2.1, rfl, e1, ht7, (congrFun (hQ 1 (by omega) (by omega)) 0).trans m1, fun i9 h9 => (congrFun (hQ 2 (by omega) (by omega)) i9).trans (m2 i9 h9), hT, (congrFun (hQ 3 (by omega) (by omega)) 0).trans m3⟩ hS2 (lvx_sub hl (fun q h => List.mem_cons_of_mem _ (List.mem_cons_of_mem _ h)))
  refine lv_iload hx hb dL_law_908 (lv_at hl 1 rfl) ?_
  refine lv_if_ne (tgt := 925) hx hb dL_law_910 (by decide) (fun _ => ?_) (fun h0 => ?_)
  · exact lv_goto (tgt := 941) hx hb dL_law_925 (by decide) hk5
  · refine lv_aload_n hx hb dL_law_913 rfl (lv_at hl 5 rfl) ?_
    refine lv_iconst (v := zI (0)) hx hb dL_law_914 (by decide) ?_
    refine va_lald hx hb hK (o_kept hO1 hkp2 ham) 0 7 rfl rfl (by unfold vp_in; decide) dL_law_915 ?_
    refine lv_iload hx hb dL_law_916 (lv_at hl 0 rfl) ?_
    refine lv_i2l hx hb dL_law_918 rfl ?_
    refine W.lcmp hx hb dL_law_919 ?_
    refine lv_if_eq (tgt := 925) hx hb dL_law_920 (by decide) (fun _ => ?_) (fun h9 => (h9 ((lgc_0 _ _).mpr ?_)).elim)
    · exact lv_goto (tgt := 941) hx hb dL_law_925 (by decide) hk5
    · rw [hr2]; exact hr1.2.1 h0

set_option maxHeartbeats 4000000 in
set_option maxRecDepth 100000 in
theorem lc_19 {p : Program} {l : Launch} {e : Env} {s : State} {m : MethodId} {below : List Frame} {meth : Method} {c : Code} {b L : Nat} {xs : Nat → Int32} {g : GG} {ad a : Nat → Nat} {ao : Nat} {xk : Nat → Nat} {kq : KK} {H : Heap} {locs : List Loc} {cells slots : Nat} {Q : State → Prop} {ls : Array Slot} {i : Nat} (F : LF p l s m c b L xs g ad a ao xk kq) (hi : i + 6 ≤ L) (hLI : LI g ad a ao H) (hS : va_S (lA s) s.heap H locs) (hl : lv_has ls 7 (lvL b ad a ao i)) (hcl : cells + 1 ≤ room_1.cells) (hsl : slots + 6 ≤ room_1.slots)
    (kk9 : ∀ (H1 : Heap) (locs1 : List Loc) (ls1 : Array Slot), LI g ad a ao H1 → va_S (lA s) s.heap H1 locs1 → lv_has ls1 7 (lvL b ad a ao i) → W p l e room_1 s m #[Value.ref b] below meth c H1 locs1 (cells + 1) (slots + 6) Q (F0 m 941 ls1 [])) : W p l e room_1 s m #[Value.ref b] below meth c H locs cells slots Q (F0 m 928 ls []) := by
  obtain ⟨S, hl9, hK, hkC, hkY, hd9, ha, hdis, hao, ham, hA8, hA9, hAo, hX, hbl, hL⟩ := F
  obtain ⟨hx, hb, hml, hown, hts⟩ := id S
  obtain ⟨P, M, sc, wd, tp, N, rd, sn, f, k, t, hW, hM, hO, hI, e9, e1, ht7, m1, m2, hT, m3⟩ := hLI
  obtain ⟨hP9, hc9, hk10, hk6, nx, hnx, hn6, hch9⟩ := id hI
  obtain ⟨hN, hZt, hst9, hRu, hSh, ht9, hfl9⟩ := id hc9
  have hS8 : va_S (hbA ad) s.heap H [] := ⟨hS.1, fun q h1 _ => hS.2.1 q h1 (Nat.not_le.mpr h1), fun _ h => nomatch h⟩
  have r8 := va_recv hK (hb1 hW (show 0 < 126 by omega) (lcE rfl sh_0)) (q0 := 0) (ci := 8) rfl rfl
  have hc0 : cells + 0 ≤ room_1.cells ∧ slots + 0 ≤ room_1.slots := ⟨Nat.le_trans (Nat.le_succ _) hcl, Nat.le_trans (Nat.le_add_right _ 6) hsl⟩
  refine lv_aload_n hx hb dL_law_928 rfl (lv_at hl 1 rfl) ?_
  refine va_calli (A0 := lA s) (va_runV (As := []) (rest := []) S (c_X8_undo l g ad hd9 P M kq N sn k hI) (cwV 0 hts gL_law0_X8_undo rfl rfl rfl (by decide +kernel) ⟨Nat.le_of_ble_eq_true rfl, Nat.le_of_ble_eq_true rfl⟩) (gk_preV hW hK hkC hS8 r8) rfl rfl hl.1 rfl (lv_room (Nat.le_of_ble_eq_true rfl)) dL_law_929 hc0) hS (fun q _ h => hA8 q h) hA8 (fun r1 u1 t1 H1 locs1 et1 _ hr1 hW1 _ hkp1 hS1 => ?_)
  rw [et1] at hW1
  have hM1 := li_mW hdis hM (fun q h1 h2 => hdis q h2 h1) hkp1
  have hO1 := o_kept hO hkp1 hao
  refine lv_aload_n hx hb dL_law_932 rfl (lv_at hl 2 rfl) ?_
  refine va_calli (A0 := lA s) (va_runV (As := []) (rest := [.int r1]) S (c_X9_undo l g a ha sc wd tp N rd sn k e9 hk10) (cwV 0 hts gL_law0_X9_undo rfl rfl rfl (by decide +kernel) ⟨Nat.le_of_ble_eq_true rfl, Nat.le_of_ble_eq_true rfl⟩) (g_preV hM1 hK (va_recv hK hM1 (q0 := 0) (ci := 9) rfl rfl)) rfl rfl hl.1 rfl (lv_room (Nat.le_of_ble_eq_true rfl)) dL_law_933 hc0) hS1 (fun q _ h => hA9 q h) hA9 (fun r2 u2 t2 H2 locs2 et2 _ hr2 hB _ hkp2 hS2 => ?_)
  rw [et2] at hB
  have hQ := hr1.2.2
  refine lv_icmp_eq (tgt := 941) hx hb dL_law_936 (by decide) (fun _ => ?_) (fun h9 => (h9 (by rw [hr1.1, hr2])).elim)
  refine W.widen (Nat.le_add_right _ 1) (Nat.le_add_right _ 6) ?_
  exact kk9 H2 locs2 ls ⟨P, u1, _, _, _, _, _, _, f, _, t, li_cw hdis hW1 hkp2, hB, o_kept hO1 hkp2 ham, hr1.2.1, rfl, e1, ht7, (congrFun (hQ 1 (by omega) (by omega)) 0).trans m1, fun i9 h9 => (congrFun (hQ 2 (by omega) (by omega)) i9).trans (m2 i9 h9), hT, (congrFun (hQ 3 (by omega) (by omega)) 0).trans m3⟩ hS2 hl
