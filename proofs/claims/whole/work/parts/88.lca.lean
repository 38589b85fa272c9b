set_option maxHeartbeats 4000000 in
set_option maxRecDepth 100000 in
theorem lc_0 {p : Program} {l : Launch} {e : Env} {s : State} {m : MethodId} {below : List Frame} {meth : Method} {c : Code} {b L : Nat} {xs : Nat → Int32} {g : GG} {ad a : Nat → Nat} {ao : Nat} {xk : Nat → Nat} {kq : KK} {H : Heap} {locs : List Loc} {cells slots : Nat} {Q : State → Prop} {ls : Array Slot} {i : Nat} (F : LF p l s m c b L xs g ad a ao xk kq) (hi : i + 6 ≤ L) (hLI : LI g ad a ao H) (hS : va_S (lA s) s.heap H locs) (hl : lv_has ls 7 (lvL b ad a ao i)) (hcl : cells + 1 ≤ room_1.cells) (hsl : slots + 6 ≤ room_1.slots)
    (kk9 : ∀ (H1 : Heap) (locs1 : List Loc) (ls1 : Array Slot), LI g ad a ao H1 → va_S (lA s) s.heap H1 locs1 → lv_has ls1 7 (lvL b ad a ao i) → W p l e room_1 s m #[Value.ref b] below meth c H1 locs1 (cells + 1) (slots + 6) Q (F0 m 941 ls1 [])) : W p l e room_1 s m #[Value.ref b] below meth c H locs cells slots Q (F0 m 136 ls []) := by
  obtain ⟨S, hl9, hK, hkC, hkY, hd9, ha, hdis, hao, ham, hA8, hA9, hAo, hX, hbl, hL⟩ := F
  obtain ⟨hx, hb, hml, hown, hts⟩ := id S
  obtain ⟨P, M, sc, wd, tp, N, rd, sn, f, k, t, hW, hM, hO, hI, e9, e1, ht7, m1, m2, hT, m3⟩ := hLI
  obtain ⟨hP9, hc9, hk10, hk6, nx, hnx, hn6, hch9⟩ := id hI
  obtain ⟨hN, hZt, hst9, hRu, hSh, ht9, hfl9⟩ := id hc9
  have hS8 : va_S (hbA ad) s.heap H [] := ⟨hS.1, fun q h1 _ => hS.2.1 q h1 (Nat.not_le.mpr h1), fun _ h => nomatch h⟩
  have r8 := va_recv hK (hb1 hW (show 0 < 126 by omega) (lcE rfl sh_0)) (q0 := 0) (ci := 8) rfl rfl
  have hc0 : cells + 0 ≤ room_1.cells ∧ slots + 0 ≤ room_1.slots := ⟨Nat.le_trans (Nat.le_succ _) hcl, Nat.le_trans (Nat.le_add_right _ 6) hsl⟩
  refine lv_aload_n hx hb dL_law_136 rfl (lv_at hl 1 rfl) ?_
  refine ls_rd (i := i) (j := 1) hx hb hX hbl hS dL_law_137 dL_law_138 dL_law_140 dL_law_141 dL_law_142 rfl (by omega) hL (lv_at hl 0 rfl) (lv_at hl 4 rfl) ?_
  refine ls_rd (i := i) (j := 2) hx hb hX hbl hS dL_law_143 dL_law_144 dL_law_146 dL_law_147 dL_law_148 rfl (by omega) hL (lv_at hl 0 rfl) (lv_at hl 4 rfl) ?_
  refine ls_rd (i := i) (j := 3) hx hb hX hbl hS dL_law_149 dL_law_150 dL_law_152 dL_law_153 dL_law_154 rfl (by omega) hL (lv_at hl 0 rfl) (lv_at hl 4 rfl) ?_
  refine ls_rd (i := i) (j := 4) hx hb hX hbl hS dL_law_155 dL_law_156 dL_law_158 dL_law_159 dL_law_160 rfl (by omega) hL (lv_at hl 0 rfl) (lv_at hl 4 rfl) ?_
  refine ls_rd (i := i) (j := 5) hx hb hX hbl hS dL_law_161 dL_law_162 dL_law_164 dL_law_165 dL_law_166 rfl (by omega) hL (lv_at hl 0 rfl) (lv_at hl 4 rfl) ?_
  refine va_calli (A0 := lA s) (va_runV (As := [.int (zI ((xs (i + 1)).toInt)), .int (zI ((xs (i + 2)).toInt)), .int (zI ((xs (i + 3)).toInt)), .int (zI ((xs (i + 4)).toInt)), .int (zI ((xs (i + 5)).toInt))]) (rest := []) S (c_X8_feed l g ad hd9 (lc g ad P M) (P 0) (P 1) (M 0 0) (zI ((xs (i + 1)).toInt)) (zI ((xs (i + 2)).toInt)) (zI ((xs (i + 3)).toInt)) (zI ((xs (i + 4)).toInt)) (zI ((xs (i + 5)).toInt)) t ht7 (M 2) (lcE rfl sh_0) (by rw [← m1]; exact lcE rfl sh_1) (lcE rfl sh_2)) (cwV 5 hts gL_law0_X8_feed rfl rfl rfl (by decide +kernel) ⟨Nat.le_of_ble_eq_true rfl, Nat.le_of_ble_eq_true rfl⟩) (g_preV hW hK r8) rfl rfl hl.1 rfl (lv_room (Nat.le_of_ble_eq_true rfl)) dL_law_167 hc0) hS (fun q _ h => hA8 q h) hA8 (fun r1 u1 t1 H1 locs1 et1 _ hr1 hW1 _ hkp1 hS1 => ?_)
  rw [et1] at hW1
  have hM1 := li_mW hdis hM (fun q h1 h2 => hdis q h2 h1) hkp1
  have hO1 := o_kept hO hkp1 hao
  have hW2 := cw_tape hW1 hr1.2.1 hr1.2.2.1 hr1.2.2.2
  refine lv_aload_n hx hb dL_law_170 rfl (lv_at hl 2 rfl) ?_
  refine ls_rd (i := i) (j := 1) hx hb hX hbl hS1 dL_law_171 dL_law_172 dL_law_174 dL_law_175 dL_law_176 rfl (by omega) hL (lv_at hl 0 rfl) (lv_at hl 4 rfl) ?_
  refine ls_rd (i := i) (j := 2) hx hb hX hbl hS1 dL_law_177 dL_law_178 dL_law_180 dL_law_181 dL_law_182 rfl (by omega) hL (lv_at hl 0 rfl) (lv_at hl 4 rfl) ?_
  refine ls_rd (i := i) (j := 3) hx hb hX hbl hS1 dL_law_183 dL_law_184 dL_law_186 dL_law_187 dL_law_188 rfl (by omega) hL (lv_at hl 0 rfl) (lv_at hl 4 rfl) ?_
  refine ls_rd (i := i) (j := 4) hx hb hX hbl hS1 dL_law_189 dL_law_190 dL_law_192 dL_law_193 dL_law_194 rfl (by omega) hL (lv_at hl 0 rfl) (lv_at hl 4 rfl) ?_
  refine ls_rd (i := i) (j := 5) hx hb hX hbl hS1 dL_law_195 dL_law_196 dL_law_198 dL_law_199 dL_law_200 rfl (by omega) hL (lv_at hl 0 rfl) (lv_at hl 4 rfl) ?_
  refine va_calli (A0 := lA s) (va_runV (As := [.int (zI ((xs (i + 1)).toInt)), .int (zI ((xs (i + 2)).toInt)), .int (zI ((xs (i + 3)).toInt)), .int (zI ((xs (i + 4)).toInt)), .int (zI ((xs (i + 5)).toInt))]) (rest := [.int r1]) S (c_X9_feed l g a ha sc wd tp N rd sn (zI ((xs (i + 1)).toInt)) (zI ((xs (i + 2)).toInt)) (zI ((xs (i + 3)).toInt)) (zI ((xs (i + 4)).toInt)) (zI ((xs (i + 5)).toInt)) t e1 ht7) (cwV 5 hts gL_law0_X9_feed rfl rfl rfl (by decide +kernel) ⟨Nat.le_of_ble_eq_true rfl, Nat.le_of_ble_eq_true rfl⟩) (g_preV hM1 hK (va_recv hK hM1 (q0 := 0) (ci := 9) rfl rfl)) rfl rfl hl.1 rfl (lv_room (Nat.le_of_ble_eq_true rfl)) dL_law_201 hc0) hS1 (fun q _ h => hA9 q h) hA9 (fun r2 u2 t2 H2 locs2 et2 _ hr2 hB _ hkp2 hS2 => ?_)
  rw [et2] at hB
  refine lv_icmp_eq (tgt := 941) hx hb dL_law_204 (by decide) (fun _ => ?_) (fun h9 => (h9 (by rw [hr1.1, hr2])).elim)
  refine W.widen (Nat.le_add_right _ 1) (Nat.le_add_right _ 6) ?_
  exact kk9 H2 locs2 ls ⟨P, _, _, _, _, _, _, _, f, k, feedZ t, li_cw hdis hW2 hkp2, hB, o_kept hO1 hkp2 ham, INV_tape hI _ _, e9, rfl, feedZ_le ht7, rfl, (feed_R m2 hT).1, (feed_R m2 hT).2, m3⟩ hS2 hl

set_option maxHeartbeats 4000000 in
set_option maxRecDepth 100000 in
theorem lc_1 {p : Program} {l : Launch} {e : Env} {s : State} {m : MethodId} {below : List Frame} {meth : Method} {c : Code} {b L : Nat} {xs : Nat → Int32} {g : GG} {ad a : Nat → Nat} {ao : Nat} {xk : Nat → Nat} {kq : KK} {H : Heap} {locs : List Loc} {cells slots : Nat} {Q : State → Prop} {ls : Array Slot} {i : Nat} (F : LF p l s m c b L xs g ad a ao xk kq) (hi : i + 6 ≤ L) (hLI : LI g ad a ao H) (hS : va_S (lA s) s.heap H locs) (hl : lv_has ls 7 (lvL b ad a ao i)) (hcl : cells + 1 ≤ room_1.cells) (hsl : slots + 6 ≤ room_1.slots)
    (kk9 : ∀ (H1 : Heap) (locs1 : List Loc) (ls1 : Array Slot), LI g ad a ao H1 → va_S (lA s) s.heap H1 locs1 → lv_has ls1 7 (lvL b ad a ao i) → W p l e room_1 s m #[Value.ref b] below meth c H1 locs1 (cells + 1) (slots + 6) Q (F0 m 941 ls1 [])) : W p l e room_1 s m #[Value.ref b] below meth c H locs cells slots Q (F0 m 209 ls []) := by
  obtain ⟨S, hl9, hK, hkC, hkY, hd9, ha, hdis, hao, ham, hA8, hA9, hAo, hX, hbl, hL⟩ := F
  obtain ⟨hx, hb, hml, hown, hts⟩ := id S
  obtain ⟨P, M, sc, wd, tp, N, rd, sn, f, k, t, hW, hM, hO, hI, e9, e1, ht7, m1, m2, hT, m3⟩ := hLI
  obtain ⟨hP9, hc9, hk10, hk6, nx, hnx, hn6, hch9⟩ := id hI
  obtain ⟨hN, hZt, hst9, hRu, hSh, ht9, hfl9⟩ := id hc9
  have hS8 : va_S (hbA ad) s.heap H [] := ⟨hS.1, fun q h1 _ => hS.2.1 q h1 (Nat.not_le.mpr h1), fun _ h => nomatch h⟩
  have r8 := va_recv hK (hb1 hW (show 0 < 126 by omega) (lcE rfl sh_0)) (q0 := 0) (ci := 8) rfl rfl
  have hc0 : cells + 0 ≤ room_1.cells ∧ slots + 0 ≤ room_1.slots := ⟨Nat.le_trans (Nat.le_succ _) hcl, Nat.le_trans (Nat.le_add_right _ 6) hsl⟩
  refine lv_aload_n hx hb dL_law_209 rfl (lv_at hl 1 rfl) ?_
  refine ls_rd (i := i) (j := 1) hx hb hX hbl hS dL_law_210 dL_law_211 dL_law_213 dL_law_214 dL_law_215 rfl (by omega) hL (lv_at hl 0 rfl) (lv_at hl 4 rfl) ?_
  refine va_calli (A0 := lA s) (va_runV (As := [.int (zI ((xs (i + 1)).toInt))]) (rest := []) S (c_X8_end l g ad hd9 (lc g ad P M) (P 0) (P 1) (M 0 0) ((xs (i + 1)).toInt) (R32_of _) t ht7 (M 2) (lcE rfl sh_0) (by rw [← m1]; exact lcE rfl sh_1) (lcE rfl sh_2)) (cwV 1 hts gL_law0_X8_end rfl rfl rfl (by decide +kernel) ⟨Nat.le_of_ble_eq_true rfl, Nat.le_of_ble_eq_true rfl⟩) (g_preV hW hK r8) rfl rfl hl.1 rfl (lv_room (Nat.le_of_ble_eq_true rfl)) dL_law_216 hc0) hS (fun q _ h => hA8 q h) hA8 (fun r1 u1 t1 H1 locs1 et1 _ hr1 hW1 _ hkp1 hS1 => ?_)
  rw [et1] at hW1
  have hM1 := li_mW hdis hM (fun q h1 h2 => hdis q h2 h1) hkp1
  have hO1 := o_kept hO hkp1 hao
  have hW2 := cw_tape hW1 hr1.2.1 ((hr1.2.2 2 (by omega)).trans (lcE rfl sh_2)) (fun j h1 h2 => hr1.2.2 j h1)
  refine lv_aload_n hx hb dL_law_219 rfl (lv_at hl 2 rfl) ?_
  refine ls_rd (i := i) (j := 1) hx hb hX hbl hS1 dL_law_220 dL_law_221 dL_law_223 dL_law_224 dL_law_225 rfl (by omega) hL (lv_at hl 0 rfl) (lv_at hl 4 rfl) ?_
  refine va_calli (A0 := lA s) (va_runV (As := [.int (zI ((xs (i + 1)).toInt))]) (rest := [.int r1]) S (c_X9_end l g a ha sc wd tp N rd sn ((xs (i + 1)).toInt) (R32_of _) t e1 ht7) (cwV 1 hts gL_law0_X9_end rfl rfl rfl (by decide +kernel) ⟨Nat.le_of_ble_eq_true rfl, Nat.le_of_ble_eq_true rfl⟩) (g_preV hM1 hK (va_recv hK hM1 (q0 := 0) (ci := 9) rfl rfl)) rfl rfl hl.1 rfl (lv_room (Nat.le_of_ble_eq_true rfl)) dL_law_226 hc0) hS1 (fun q _ h => hA9 q h) hA9 (fun r2 u2 t2 H2 locs2 et2 _ hr2 hB _ hkp2 hS2 => ?_)
  rw [et2] at hB
  obtain ⟨z, hz, hz7⟩ : ∃ z : Nat, endZ t ((xs (i + 1)).toInt) = (z : Int) ∧ z ≤ 740 := by
    unfold endZ
    split
    · rename_i h9
      exact ⟨(((xs (i + 1)).toInt)).toNat, by omega, by omega⟩
    · exact ⟨t, rfl, ht7⟩
  rw [hz] at hW2 hB
  refine lv_icmp_eq (tgt := 941) hx hb dL_law_229 (by decide) (fun _ => ?_) (fun h9 => (h9 (by rw [hr1.1, hr2])).elim)
  refine W.widen (Nat.le_add_right _ 1) (Nat.le_add_right _ 6) ?_
  exact kk9 H2 locs2 ls ⟨P, _, _, _, _, _, _, _, f, k, z, li_cw hdis hW2 hkp2, hB, o_kept hO1 hkp2 ham, INV_tape hI _ _, e9, rfl, hz7, rfl, m2, hT, m3⟩ hS2 hl

set_option maxHeartbeats 4000000 in
set_option maxRecDepth 100000 in
theorem lc_2 {p : Program} {l : Launch} {e : Env} {s : State} {m : MethodId} {below : List Frame} {meth : Method} {c : Code} {b L : Nat} {xs : Nat → Int32} {g : GG} {ad a : Nat → Nat} {ao : Nat} {xk : Nat → Nat} {kq : KK} {H : Heap} {locs : List Loc} {cells slots : Nat} {Q : State → Prop} {ls : Array Slot} {i : Nat} (F : LF p l s m c b L xs g ad a ao xk kq) (hi : i + 6 ≤ L) (hLI : LI g ad a ao H) (hS : va_S (lA s) s.heap H locs) (hl : lv_has ls 7 (lvL b ad a ao i)) (hcl : cells + 1 ≤ room_1.cells) (hsl : slots + 6 ≤ room_1.slots)
    (kk9 : ∀ (H1 : Heap) (locs1 : List Loc) (ls1 : Array Slot), LI g ad a ao H1 → va_S (lA s) s.heap H1 locs1 → lv_has ls1 7 (lvL b ad a ao i) → W p l e room_1 s m #[Value.ref b] below meth c H1 locs1 (cells + 1) (slots + 6) Q (F0 m 941 ls1 [])) : W p l e room_1 s m #[Value.ref b] below meth c H locs cells slots Q (F0 m 234 ls []) := by
  obtain ⟨S, hl9, hK, hkC, hkY, hd9, ha, hdis, hao, ham, hA8, hA9, hAo, hX, hbl, hL⟩ := F
  obtain ⟨hx, hb, hml, hown, hts⟩ := id S
  obtain ⟨P, M, sc, wd, tp, N, rd, sn, f, k, t, hW, hM, hO, hI, e9, e1, ht7, m1, m2, hT, m3⟩ := hLI
  obtain ⟨hP9, hc9, hk10, hk6, nx, hnx, hn6, hch9⟩ := id hI
  obtain ⟨hN, hZt, hst9, hRu, hSh, ht9, hfl9⟩ := id hc9
  have hS8 : va_S (hbA ad) s.heap H [] := ⟨hS.1, fun q h1 _ => hS.2.1 q h1 (Nat.not_le.mpr h1), fun _ h => nomatch h⟩
  have r8 := va_recv hK (hb1 hW (show 0 < 126 by omega) (lcE rfl sh_0)) (q0 := 0) (ci := 8) rfl rfl
  have hc0 : cells + 0 ≤ room_1.cells ∧ slots + 0 ≤ room_1.slots := ⟨Nat.le_trans (Nat.le_succ _) hcl, Nat.le_trans (Nat.le_add_right _ 6) hsl⟩
  refine lv_aload_n hx hb dL_law_234 rfl (lv_at hl 1 rfl) ?_
  refine va_calli (A0 := lA s) (va_runV (As := []) (rest := []) S (c_X8_text l g ad hd9 P M kq N sn k hI (mn tp) t ht7 m1 (fun i9 h9 => ⟨m2 i9 h9, by have := hT i9 h9; unfold isN at this; unfold mn; omega⟩) rd) (cwV 0 hts gL_law0_X8_text rfl rfl rfl (by decide +kernel) ⟨Nat.le_of_ble_eq_true rfl, Nat.le_of_ble_eq_true rfl⟩) (gk_preV hW hK hkC hS8 r8) rfl rfl hl.1 rfl (lv_room (Nat.le_of_ble_eq_true rfl)) dL_law_235 hc0) hS (fun q _ h => hA8 q h) hA8 (fun r1 u1 t1 H1 locs1 et1 _ hr1 hW1 _ hkp1 hS1 => ?_)
  rw [et1] at hW1
  have hM1 := li_mW hdis hM (fun q h1 h2 => hdis q h2 h1) hkp1
  have hO1 := o_kept hO hkp1 hao
  refine lv_aload_n hx hb dL_law_238 rfl (lv_at hl 2 rfl) ?_
  refine va_calli (A0 := lA s) (va_runV (As := []) (rest := [.int r1]) S (c_X9_text l g a ha sc wd tp N rd sn t e1 ht7 hT) (cwV 0 hts gL_law0_X9_text rfl rfl rfl (by decide +kernel) ⟨Nat.le_of_ble_eq_true rfl, Nat.le_of_ble_eq_true rfl⟩) (g_preV hM1 hK (va_recv hK hM1 (q0 := 0) (ci := 9) rfl rfl)) rfl rfl hl.1 rfl (lv_room (Nat.le_of_ble_eq_true rfl)) dL_law_239 hc0) hS1 (fun q _ h => hA9 q h) hA9 (fun r2 u2 t2 H2 locs2 et2 _ hr2 hB _ hkp2 hS2 => ?_)
  rw [et2] at hB
  obtain ⟨q1, q2, ql, qr⟩ := hr1
  have key : r1 = r2 ∧ ∃ k1 : Nat, INV u1.1 u1.2 u2.2.2.2 sn k1 ∧ u2.1 9 = zI (k1 : Int) ∧ u2.1 1 = zI 0 ∧ u1.2 3 0 = u2.1 7 := by
    unfold textQ at hr2
    generalize parseL (mn tp) t (t + 1) 0 0 (rd0 rd) = Y at ql qr hr2
    cases Y with
    | inl e8 =>
      obtain ⟨w1, w2, w3⟩ := ql e8 rfl
      obtain ⟨z0, z1, z2, z3, z4, z5⟩ := hr2
      rw [z4]
      exact ⟨w1.trans z2.symm, k, w3, z5.trans e9, z1, w2.trans z3.symm⟩
    | inr e8 =>
      obtain ⟨w1, w2, w3⟩ := qr e8 rfl
      obtain ⟨z0, z1, z2, z3, z4, z5⟩ := hr2
      rw [z4]
      exact ⟨w1.trans z2.symm, 0, w3, z5, z1, w2.trans z3.symm⟩
  obtain ⟨hrr, k1, hI1, g9, g1, g3⟩ := key
  refine lv_icmp_eq (tgt := 941) hx hb dL_law_242 (by decide) (fun _ => ?_) (fun h9 => (h9 (hrr)).elim)
  refine W.widen (Nat.le_add_right _ 1) (Nat.le_add_right _ 6) ?_
  exact kk9 H2 locs2 ls ⟨u1.1, u1.2, _, _, _, _, _, _, f, k1, 0, li_cw hdis hW1 hkp2, hB, o_kept hO1 hkp2 ham, hI1, g9, g1, by omega, q1, fun i9 h9 => (congrFun q2 i9).trans (m2 i9 h9), hT, g3⟩ hS2 hl

set_option maxHeartbeats 4000000 in
set_option maxRecDepth 100000 in
theorem lc_3 {p : Program} {l : Launch} {e : Env} {s : State} {m : MethodId} {below : List Frame} {meth : Method} {c : Code} {b L : Nat} {xs : Nat → Int32} {g : GG} {ad a : Nat → Nat} {ao : Nat} {xk : Nat → Nat} {kq : KK} {H : Heap} {locs : List Loc} {cells slots : Nat} {Q : State → Prop} {ls : Array Slot} {i : Nat} (F : LF p l s m c b L xs g ad a ao xk kq) (hi : i + 6 ≤ L) (hLI : LI g ad a ao H) (hS : va_S (lA s) s.heap H locs) (hl : lv_has ls 7 (lvL b ad a ao i)) (hcl : cells + 1 ≤ room_1.cells) (hsl : slots + 6 ≤ room_1.slots)
    (kk9 : ∀ (H1 : Heap) (locs1 : List Loc) (ls1 : Array Slot), LI g ad a ao H1 → va_S (lA s) s.heap H1 locs1 → lv_has ls1 7 (lvL b ad a ao i) → W p l e room_1 s m #[Value.ref b] below meth c H1 locs1 (cells + 1) (slots + 6) Q (F0 m 941 ls1 [])) : W p l e room_1 s m #[Value.ref b] below meth c H locs cells slots Q (F0 m 247 ls []) := by
  obtain ⟨S, hl9, hK, hkC, hkY, hd9, ha, hdis, hao, ham, hA8, hA9, hAo, hX, hbl, hL⟩ := F
  obtain ⟨hx, hb, hml, hown, hts⟩ := id S
  obtain ⟨P, M, sc, wd, tp, N, rd, sn, f, k, t, hW, hM, hO, hI, e9, e1, ht7, m1, m2, hT, m3⟩ := hLI
  obtain ⟨hP9, hc9, hk10, hk6, nx, hnx, hn6, hch9⟩ := id hI
  obtain ⟨hN, hZt, hst9, hRu, hSh, ht9, hfl9⟩ := id hc9
  have hS8 : va_S (hbA ad) s.heap H [] := ⟨hS.1, fun q h1 _ => hS.2.1 q h1 (Nat.not_le.mpr h1), fun _ h => nomatch h⟩
  have r8 := va_recv hK (hb1 hW (show 0 < 126 by omega) (lcE rfl sh_0)) (q0 := 0) (ci := 8) rfl rfl
  have hc0 : cells + 0 ≤ room_1.cells ∧ slots + 0 ≤ room_1.slots := ⟨Nat.le_trans (Nat.le_succ _) hcl, Nat.le_trans (Nat.le_add_right _ 6) hsl⟩
  refine lv_aload_n hx hb dL_law_247 rfl (lv_at hl 1 rfl) ?_
  refine va_calli (A0 := lA s) (va_runV (As := []) (rest := []) S (c_X8_fault l g ad hd9 P M) (cwV 0 hts gL_law0_X8_fault rfl rfl rfl (by decide +kernel) ⟨Nat.le_of_ble_eq_true rfl, Nat.le_of_ble_eq_true rfl⟩) (g_preV hW hK r8) rfl rfl hl.1 rfl (lv_room (Nat.le_of_ble_eq_true rfl)) dL_law_248 hc0) hS (fun q _ h => hA8 q h) hA8 (fun r1 u1 t1 H1 locs1 et1 _ hr1 hW1 _ hkp1 hS1 => ?_)
  rw [et1] at hW1
  have hM1 := li_mW hdis hM (fun q h1 h2 => hdis q h2 h1) hkp1
  have hO1 := o_kept hO hkp1 hao
  refine lv_aload_n hx hb dL_law_251 rfl (lv_at hl 2 rfl) ?_
  refine va_calli (A0 := lA s) (va_runV (As := []) (rest := [.int r1]) S (c_X9_fault l g a ha sc wd tp N rd sn) (cwV 0 hts gL_law0_X9_fault rfl rfl rfl (by decide +kernel) ⟨Nat.le_of_ble_eq_true rfl, Nat.le_of_ble_eq_true rfl⟩) (g_preV hM1 hK (va_recv hK hM1 (q0 := 0) (ci := 9) rfl rfl)) rfl rfl hl.1 rfl (lv_room (Nat.le_of_ble_eq_true rfl)) dL_law_252 hc0) hS1 (fun q _ h => hA9 q h) hA9 (fun r2 u2 t2 H2 locs2 et2 _ hr2 hB _ hkp2 hS2 => ?_)
  rw [et2] at hB
  refine lv_icmp_eq (tgt := 941) hx hb dL_law_255 (by decide) (fun _ => ?_) (fun h9 => (h9 (by rw [hr1, hr2, m3])).elim)
  refine W.widen (Nat.le_add_right _ 1) (Nat.le_add_right _ 6) ?_
  exact kk9 H2 locs2 ls ⟨P, M, _, _, _, _, _, _, f, k, t, li_cw hdis hW1 hkp2, hB, o_kept hO1 hkp2 ham, hI, e9, e1, ht7, m1, m2, hT, m3⟩ hS2 hl

set_option maxHeartbeats 4000000 in
set_option maxRecDepth 100000 in
theorem lc_4 {p : Program} {l : Launch} {e : Env} {s : State} {m : MethodId} {below : List Frame} {meth : Method} {c : Code} {b L : Nat} {xs : Nat → Int32} {g : GG} {ad a : Nat → Nat} {ao : Nat} {xk : Nat → Nat} {kq : KK} {H : Heap} {locs : List Loc} {cells slots : Nat} {Q : State → Prop} {ls : Array Slot} {i : Nat} (F : LF p l s m c b L xs g ad a ao xk kq) (hi : i + 6 ≤ L) (hLI : LI g ad a ao H) (hS : va_S (lA s) s.heap H locs) (hl : lv_has ls 7 (lvL b ad a ao i)) (hcl : cells + 1 ≤ room_1.cells) (hsl : slots + 6 ≤ room_1.slots)
    (kk9 : ∀ (H1 : Heap) (locs1 : List Loc) (ls1 : Array Slot), LI g ad a ao H1 → va_S (lA s) s.heap H1 locs1 → lv_has ls1 7 (lvL b ad a ao i) → W p l e room_1 s m #[Value.ref b] below meth c H1 locs1 (cells + 1) (slots + 6) Q (F0 m 941 ls1 [])) : W p l e room_1 s m #[Value.ref b] below meth c H locs cells slots Q (F0 m 260 ls []) := by
  obtain ⟨S, hl9, hK, hkC, hkY, hd9, ha, hdis, hao, ham, hA8, hA9, hAo, hX, hbl, hL⟩ := F
  obtain ⟨hx, hb, hml, hown, hts⟩ := id S
  obtain ⟨P, M, sc, wd, tp, N, rd, sn, f, k, t, hW, hM, hO, hI, e9, e1, ht7, m1, m2, hT, m3⟩ := hLI
  obtain ⟨hP9, hc9, hk10, hk6, nx, hnx, hn6, hch9⟩ := id hI
  obtain ⟨hN, hZt, hst9, hRu, hSh, ht9, hfl9⟩ := id hc9
  have hS8 : va_S (hbA ad) s.heap H [] := ⟨hS.1, fun q h1 _ => hS.2.1 q h1 (Nat.not_le.mpr h1), fun _ h => nomatch h⟩
  have r8 := va_recv hK (hb1 hW (show 0 < 126 by omega) (lcE rfl sh_0)) (q0 := 0) (ci := 8) rfl rfl
  have hc0 : cells + 0 ≤ room_1.cells ∧ slots + 0 ≤ room_1.slots := ⟨Nat.le_trans (Nat.le_succ _) hcl, Nat.le_trans (Nat.le_add_right _ 6) hsl⟩
  refine lv_aload_n hx hb dL_law_260 rfl (lv_at hl 1 rfl) ?_
  refine ls_rd (i := i) (j := 1) hx hb hX hbl hS dL_law_261 dL_law_262 dL_law_264 dL_law_265 dL_law_266 rfl (by omega) hL (lv_at hl 0 rfl) (lv_at hl 4 rfl) ?_
  refine vp_callSi (va_Run.run (va_runV (As := [.int (zI ((xs (i + 1)).toInt))]) (rest := []) S (c_X8_now l g (ad 0) N hN (M 6 1) (M 1 0) ((xs (i + 1)).toInt) (R32_of _)) (cwV 1 hts gL_law0_X8_now rfl rfl rfl (by decide +kernel) ⟨Nat.le_of_ble_eq_true rfl, Nat.le_of_ble_eq_true rfl⟩) (g_preV (cw_rdH hW hP9 hSh hRu ht9) hK r8) rfl rfl hl.1 rfl (lv_room (Nat.le_of_ble_eq_true rfl)) dL_law_267 hc0)) (fun r1 hr1 => ?_)
  refine lv_aload_n hx hb dL_law_270 rfl (lv_at hl 2 rfl) ?_
  refine ls_rd (i := i) (j := 1) hx hb hX hbl hS dL_law_271 dL_law_272 dL_law_274 dL_law_275 dL_law_276 rfl (by omega) hL (lv_at hl 0 rfl) (lv_at hl 4 rfl) ?_
  refine va_calli (A0 := lA s) (va_runV (As := [.int (zI ((xs (i + 1)).toInt))]) (rest := [.int r1]) S (c_X9_now l g a ha sc wd tp N rd sn hN ((xs (i + 1)).toInt) (R32_of _)) (cwV 1 hts gL_law0_X9_now rfl rfl rfl (by decide +kernel) ⟨Nat.le_of_ble_eq_true rfl, Nat.le_of_ble_eq_true rfl⟩) (g_preV hM hK (va_recv hK hM (q0 := 0) (ci := 9) rfl rfl)) rfl rfl hl.1 rfl (lv_room (Nat.le_of_ble_eq_true rfl)) dL_law_277 hc0) hS (fun q _ h => hA9 q h) hA9 (fun r2 u2 t2 H2 locs2 et2 _ hr2 hB _ hkp2 hS2 => ?_)
  rw [et2] at hB
  refine lv_icmp_eq (tgt := 941) hx hb dL_law_280 (by decide) (fun _ => ?_) (fun h9 => (h9 (by rw [hr1, hr2, hk6, m1, e9, e1])).elim)
  refine W.widen (Nat.le_add_right _ 1) (Nat.le_add_right _ 6) ?_
  exact kk9 H2 locs2 ls ⟨P, M, _, _, _, _, _, _, f, k, t, li_cw hdis hW hkp2, hB, o_kept hO hkp2 ham, hI, e9, e1, ht7, m1, m2, hT, m3⟩ hS2 hl

set_option maxHeartbeats 4000000 in
set_option maxRecDepth 100000 in
theorem lc_6 {p : Program} {l : Launch} {e : Env} {s : State} {m : MethodId} {below : List Frame} {meth : Method} {c : Code} {b L : Nat} {xs : Nat → Int32} {g : GG} {ad a : Nat → Nat} {ao : Nat} {xk : Nat → Nat} {kq : KK} {H : Heap} {locs : List Loc} {cells slots : Nat} {Q : State → Prop} {ls : Array Slot} {i : Nat} (F : LF p l s m c b L xs g ad a ao xk kq) (hi : i + 6 ≤ L) (hLI : LI g ad a ao H) (hS : va_S (lA s) s.heap H locs) (hl : lv_has ls 7 (lvL b ad a ao i)) (hcl : cells + 1 ≤ room_1.cells) (hsl : slots + 6 ≤ room_1.slots)
    (kk9 : ∀ (H1 : Heap) (locs1 : List Loc) (ls1 : Array Slot), LI g ad a ao H1 → va_S (lA s) s.heap H1 locs1 → lv_has ls1 7 (lvL b ad a ao i) → W p l e room_1 s m #[Value.ref b] below meth c H1 locs1 (cells + 1) (slots + 6) Q (F0 m 941 ls1 [])) : W p l e room_1 s m #[Value.ref b] below meth c H locs cells slots Q (F0 m 353 ls []) := by
  obtain ⟨S, hl9, hK, hkC, hkY, hd9, ha, hdis, hao, ham, hA8, hA9, hAo, hX, hbl, hL⟩ := F
  obtain ⟨hx, hb, hml, hown, hts⟩ := id S
  obtain ⟨P, M, sc, wd, tp, N, rd, sn, f, k, t, hW, hM, hO, hI, e9, e1, ht7, m1, m2, hT, m3⟩ := hLI
  obtain ⟨hP9, hc9, hk10, hk6, nx, hnx, hn6, hch9⟩ := id hI
  obtain ⟨hN, hZt, hst9, hRu, hSh, ht9, hfl9⟩ := id hc9
  have hS8 : va_S (hbA ad) s.heap H [] := ⟨hS.1, fun q h1 _ => hS.2.1 q h1 (Nat.not_le.mpr h1), fun _ h => nomatch h⟩
  have r8 := va_recv hK (hb1 hW (show 0 < 126 by omega) (lcE rfl sh_0)) (q0 := 0) (ci := 8) rfl rfl
  have hc0 : cells + 0 ≤ room_1.cells ∧ slots + 0 ≤ room_1.slots := ⟨Nat.le_trans (Nat.le_succ _) hcl, Nat.le_trans (Nat.le_add_right _ 6) hsl⟩
  refine lv_aload_n hx hb dL_law_353 rfl (lv_at hl 1 rfl) ?_
  refine ls_rd (i := i) (j := 1) hx hb hX hbl hS dL_law_354 dL_law_355 dL_law_357 dL_law_358 dL_law_359 rfl (by omega) hL (lv_at hl 0 rfl) (lv_at hl 4 rfl) ?_
  refine ls_rd (i := i) (j := 2) hx hb hX hbl hS dL_law_360 dL_law_361 dL_law_363 dL_law_364 dL_law_365 rfl (by omega) hL (lv_at hl 0 rfl) (lv_at hl 4 rfl) ?_
  refine ls_rd (i := i) (j := 3) hx hb hX hbl hS dL_law_366 dL_law_367 dL_law_369 dL_law_370 dL_law_371 rfl (by omega) hL (lv_at hl 0 rfl) (lv_at hl 4 rfl) ?_
  refine vp_callSi (va_Run.run (va_runV (As := [.int (zI ((xs (i + 1)).toInt)), .int (zI ((xs (i + 2)).toInt)), .int (zI ((xs (i + 3)).toInt))]) (rest := []) S (c_X8_day l g (ad 0) N hN (M 6 1) (M 1 0) ((xs (i + 1)).toInt) ((xs (i + 2)).toInt) ((xs (i + 3)).toInt) (R32_of _) (R32_of _) (R32_of _)) (cwV 3 hts gL_law0_X8_day rfl rfl rfl (by decide +kernel) ⟨Nat.le_of_ble_eq_true rfl, Nat.le_of_ble_eq_true rfl⟩) (g_preV (cw_rdH hW hP9 hSh hRu ht9) hK r8) rfl rfl hl.1 rfl (lv_room (Nat.le_of_ble_eq_true rfl)) dL_law_372 hc0)) (fun r1 hr1 => ?_)
  refine lv_aload_n hx hb dL_law_375 rfl (lv_at hl 2 rfl) ?_
  refine ls_rd (i := i) (j := 1) hx hb hX hbl hS dL_law_376 dL_law_377 dL_law_379 dL_law_380 dL_law_381 rfl (by omega) hL (lv_at hl 0 rfl) (lv_at hl 4 rfl) ?_
  refine ls_rd (i := i) (j := 2) hx hb hX hbl hS dL_law_382 dL_law_383 dL_law_385 dL_law_386 dL_law_387 rfl (by omega) hL (lv_at hl 0 rfl) (lv_at hl 4 rfl) ?_
  refine ls_rd (i := i) (j := 3) hx hb hX hbl hS dL_law_388 dL_law_389 dL_law_391 dL_law_392 dL_law_393 rfl (by omega) hL (lv_at hl 0 rfl) (lv_at hl 4 rfl) ?_
  refine va_calli (A0 := lA s) (va_runV (As := [.int (zI ((xs (i + 1)).toInt)), .int (zI ((xs (i + 2)).toInt)), .int (zI ((xs (i + 3)).toInt))]) (rest := [.int r1]) S (c_X9_day l g a ha sc wd tp N rd sn hN ((xs (i + 1)).toInt) ((xs (i + 2)).toInt) ((xs (i + 3)).toInt) (R32_of _) (R32_of _) (R32_of _)) (cwV 3 hts gL_law0_X9_day rfl rfl rfl (by decide +kernel) ⟨Nat.le_of_ble_eq_true rfl, Nat.le_of_ble_eq_true rfl⟩) (g_preV hM hK (va_recv hK hM (q0 := 0) (ci := 9) rfl rfl)) rfl rfl hl.1 rfl (lv_room (Nat.le_of_ble_eq_true rfl)) dL_law_394 hc0) hS (fun q _ h => hA9 q h) hA9 (fun r2 u2 t2 H2 locs2 et2 _ hr2 hB _ hkp2 hS2 => ?_)
  rw [et2] at hB
  refine lv_icmp_eq (tgt := 941) hx hb dL_law_397 (by decide) (fun _ => ?_) (fun h9 => (h9 (by rw [hr1, hr2])).elim)
  refine W.widen (Nat.le_add_right _ 1) (Nat.le_add_right _ 6) ?_
  exact kk9 H2 locs2 ls ⟨P, M, _, _, _, _, _, _, f, k, t, li_cw hdis hW hkp2, hB, o_kept hO hkp2 ham, hI, e9, e1, ht7, m1, m2, hT, m3⟩ hS2 hl

set_option maxHeartbeats 4000000 in
set_option maxRecDepth 100000 in
theorem lc_7 {p : Program} {l : Launch} {e : Env} {s : State} {m : MethodId} {below : List Frame} {meth : Method} {c : Code} {b L : Nat} {xs : Nat → Int32} {g : GG} {ad a : Nat → Nat} {ao : Nat} {xk : Nat → Nat} {kq : KK} {H : Heap} {locs : List Loc} {cells slots : Nat} {Q : State → Prop} {ls : Array Slot} {i : Nat} (F : LF p l s m c b L xs g ad a ao xk kq) (hi : i + 6 ≤ L) (hLI : LI g ad a ao H) (hS : va_S (lA s) s.heap H locs) (hl : lv_has ls 7 (lvL b ad a ao i)) (hcl : cells + 1 ≤ room_1.cells) (hsl : slots + 6 ≤ room_1.slots)
    (kk9 : ∀ (H1 : Heap) (locs1 : List Loc) (ls1 : Array Slot), LI g ad a ao H1 → va_S (lA s) s.heap H1 locs1 → lv_has ls1 7 (lvL b ad a ao i) → W p l e room_1 s m #[Value.ref b] below meth c H1 locs1 (cells + 1) (slots + 6) Q (F0 m 941 ls1 [])) : W p l e room_1 s m #[Value.ref b] below meth c H locs cells slots Q (F0 m 402 ls []) := by
  obtain ⟨S, hl9, hK, hkC, hkY, hd9, ha, hdis, hao, ham, hA8, hA9, hAo, hX, hbl, hL⟩ := F
  obtain ⟨hx, hb, hml, hown, hts⟩ := id S
  obtain ⟨P, M, sc, wd, tp, N, rd, sn, f, k, t, hW, hM, hO, hI, e9, e1, ht7, m1, m2, hT, m3⟩ := hLI
  obtain ⟨hP9, hc9, hk10, hk6, nx, hnx, hn6, hch9⟩ := id hI
  obtain ⟨hN, hZt, hst9, hRu, hSh, ht9, hfl9⟩ := id hc9
  have hS8 : va_S (hbA ad) s.heap H [] := ⟨hS.1, fun q h1 _ => hS.2.1 q h1 (Nat.not_le.mpr h1), fun _ h => nomatch h⟩
  have r8 := va_recv hK (hb1 hW (show 0 < 126 by omega) (lcE rfl sh_0)) (q0 := 0) (ci := 8) rfl rfl
  have hc0 : cells + 0 ≤ room_1.cells ∧ slots + 0 ≤ room_1.slots := ⟨Nat.le_trans (Nat.le_succ _) hcl, Nat.le_trans (Nat.le_add_right _ 6) hsl⟩
  refine lv_aload_n hx hb dL_law_402 rfl (lv_at hl 1 rfl) ?_
  refine ls_rd (i := i) (j := 1) hx hb hX hbl hS dL_law_403 dL_law_404 dL_law_406 dL_law_407 dL_law_408 rfl (by omega) hL (lv_at hl 0 rfl) (lv_at hl 4 rfl) ?_
  refine ls_rd (i := i) (j := 2) hx hb hX hbl hS dL_law_409 dL_law_410 dL_law_412 dL_law_413 dL_law_414 rfl (by omega) hL (lv_at hl 0 rfl) (lv_at hl 4 rfl) ?_
  refine vp_callSi (va_Run.run (va_runV (As := [.int (zI ((xs (i + 1)).toInt)), .int (zI ((xs (i + 2)).toInt))]) (rest := []) S (c_X8_load l g (ad 0) N hN (M 6 1) (M 1 0) ((xs (i + 1)).toInt) ((xs (i + 2)).toInt) (R32_of _) (R32_of _)) (cwV 2 hts gL_law0_X8_load rfl rfl rfl (by decide +kernel) ⟨Nat.le_of_ble_eq_true rfl, Nat.le_of_ble_eq_true rfl⟩) (g_preV (cw_rdH hW hP9 hSh hRu ht9) hK r8) rfl rfl hl.1 rfl (lv_room (Nat.le_of_ble_eq_true rfl)) dL_law_415 hc0)) (fun r1 hr1 => ?_)
  refine lv_aload_n hx hb dL_law_418 rfl (lv_at hl 2 rfl) ?_
  refine ls_rd (i := i) (j := 1) hx hb hX hbl hS dL_law_419 dL_law_420 dL_law_422 dL_law_423 dL_law_424 rfl (by omega) hL (lv_at hl 0 rfl) (lv_at hl 4 rfl) ?_
  refine ls_rd (i := i) (j := 2) hx hb hX hbl hS dL_law_425 dL_law_426 dL_law_428 dL_law_429 dL_law_430 rfl (by omega) hL (lv_at hl 0 rfl) (lv_at hl 4 rfl) ?_
  refine va_calli (A0 := lA s) (va_runV (As := [.int (zI ((xs (i + 1)).toInt)), .int (zI ((xs (i + 2)).toInt))]) (rest := [.int r1]) S (c_X9_load l g a ha sc wd tp N rd sn hN ((xs (i + 1)).toInt) ((xs (i + 2)).toInt) (R32_of _) (R32_of _)) (cwV 2 hts gL_law0_X9_load rfl rfl rfl (by decide +kernel) ⟨Nat.le_of_ble_eq_true rfl, Nat.le_of_ble_eq_true rfl⟩) (g_preV hM hK (va_recv hK hM (q0 := 0) (ci := 9) rfl rfl)) rfl rfl hl.1 rfl (lv_room (Nat.le_of_ble_eq_true rfl)) dL_law_431 hc0) hS (fun q _ h => hA9 q h) hA9 (fun r2 u2 t2 H2 locs2 et2 _ hr2 hB _ hkp2 hS2 => ?_)
  rw [et2] at hB
  refine lv_icmp_eq (tgt := 941) hx hb dL_law_434 (by decide) (fun _ => ?_) (fun h9 => (h9 (by rw [hr1, hr2])).elim)
  refine W.widen (Nat.le_add_right _ 1) (Nat.le_add_right _ 6) ?_
  exact kk9 H2 locs2 ls ⟨P, M, _, _, _, _, _, _, f, k, t, li_cw hdis hW hkp2, hB, o_kept hO hkp2 ham, hI, e9, e1, ht7, m1, m2, hT, m3⟩ hS2 hl

set_option maxHeartbeats 4000000 in
set_option maxRecDepth 100000 in
theorem lc_8 {p : Program} {l : Launch} {e : Env} {s : State} {m : MethodId} {below : List Frame} {meth : Method} {c : Code} {b L : Nat} {xs : Nat → Int32} {g : GG} {ad a : Nat → Nat} {ao : Nat} {xk : Nat → Nat} {kq : KK} {H : Heap} {locs : List Loc} {cells slots : Nat} {Q : State → Prop} {ls : Array Slot} {i : Nat} (F : LF p l s m c b L xs g ad a ao xk kq) (hi : i + 6 ≤ L) (hLI : LI g ad a ao H) (hS : va_S (lA s) s.heap H locs) (hl : lv_has ls 7 (lvL b ad a ao i)) (hcl : cells + 1 ≤ room_1.cells) (hsl : slots + 6 ≤ room_1.slots)
    (kk9 : ∀ (H1 : Heap) (locs1 : List Loc) (ls1 : Array Slot), LI g ad a ao H1 → va_S (lA s) s.heap H1 locs1 → lv_has ls1 7 (lvL b ad a ao i) → W p l e room_1 s m #[Value.ref b] below meth c H1 locs1 (cells + 1) (slots + 6) Q (F0 m 941 ls1 [])) : W p l e room_1 s m #[Value.ref b] below meth c H locs cells slots Q (F0 m 439 ls []) := by
  obtain ⟨S, hl9, hK, hkC, hkY, hd9, ha, hdis, hao, ham, hA8, hA9, hAo, hX, hbl, hL⟩ := F
  obtain ⟨hx, hb, hml, hown, hts⟩ := id S
  obtain ⟨P, M, sc, wd, tp, N, rd, sn, f, k, t, hW, hM, hO, hI, e9, e1, ht7, m1, m2, hT, m3⟩ := hLI
  obtain ⟨hP9, hc9, hk10, hk6, nx, hnx, hn6, hch9⟩ := id hI
  obtain ⟨hN, hZt, hst9, hRu, hSh, ht9, hfl9⟩ := id hc9
  have hS8 : va_S (hbA ad) s.heap H [] := ⟨hS.1, fun q h1 _ => hS.2.1 q h1 (Nat.not_le.mpr h1), fun _ h => nomatch h⟩
  have r8 := va_recv hK (hb1 hW (show 0 < 126 by omega) (lcE rfl sh_0)) (q0 := 0) (ci := 8) rfl rfl
  have hc0 : cells + 0 ≤ room_1.cells ∧ slots + 0 ≤ room_1.slots := ⟨Nat.le_trans (Nat.le_succ _) hcl, Nat.le_trans (Nat.le_add_right _ 6) hsl⟩
  refine lv_aload_n hx hb dL_law_439 rfl (lv_at hl 1 rfl) ?_
  refine ls_rd (i := i) (j := 1) hx hb hX hbl hS dL_law_440 dL_law_441 dL_law_443 dL_law_444 dL_law_445 rfl (by omega) hL (lv_at hl 0 rfl) (lv_at hl 4 rfl) ?_
  refine vp_callSi (va_Run.run (va_runV (As := [.int (zI ((xs (i + 1)).toInt))]) (rest := []) S (c_X8_room l g (ad 0) N hN (M 6 1) (M 1 0) ((xs (i + 1)).toInt) (R32_of _)) (cwV 1 hts gL_law0_X8_room rfl rfl rfl (by decide +kernel) ⟨Nat.le_of_ble_eq_true rfl, Nat.le_of_ble_eq_true rfl⟩) (g_preV (cw_rdH hW hP9 hSh hRu ht9) hK r8) rfl rfl hl.1 rfl (lv_room (Nat.le_of_ble_eq_true rfl)) dL_law_446 hc0)) (fun r1 hr1 => ?_)
  refine lv_aload_n hx hb dL_law_449 rfl (lv_at hl 2 rfl) ?_
  refine ls_rd (i := i) (j := 1) hx hb hX hbl hS dL_law_450 dL_law_451 dL_law_453 dL_law_454 dL_law_455 rfl (by omega) hL (lv_at hl 0 rfl) (lv_at hl 4 rfl) ?_
  refine va_calli (A0 := lA s) (va_runV (As := [.int (zI ((xs (i + 1)).toInt))]) (rest := [.int r1]) S (c_X9_room l g a ha sc wd tp N rd sn hN ((xs (i + 1)).toInt) (R32_of _)) (cwV 1 hts gL_law0_X9_room rfl rfl rfl (by decide +kernel) ⟨Nat.le_of_ble_eq_true rfl, Nat.le_of_ble_eq_true rfl⟩) (g_preV hM hK (va_recv hK hM (q0 := 0) (ci := 9) rfl rfl)) rfl rfl hl.1 rfl (lv_room (Nat.le_of_ble_eq_true rfl)) dL_law_456 hc0) hS (fun q _ h => hA9 q h) hA9 (fun r2 u2 t2 H2 locs2 et2 _ hr2 hB _ hkp2 hS2 => ?_)
  rw [et2] at hB
  refine lv_icmp_eq (tgt := 941) hx hb dL_law_459 (by decide) (fun _ => ?_) (fun h9 => (h9 (by rw [hr1, hr2])).elim)
  refine W.widen (Nat.le_add_right _ 1) (Nat.le_add_right _ 6) ?_
  exact kk9 H2 locs2 ls ⟨P, M, _, _, _, _, _, _, f, k, t, li_cw hdis hW hkp2, hB, o_kept hO hkp2 ham, hI, e9, e1, ht7, m1, m2, hT, m3⟩ hS2 hl

set_option maxHeartbeats 4000000 in
set_option maxRecDepth 100000 in
theorem lc_9 {p : Program} {l : Launch} {e : Env} {s : State} {m : MethodId} {below : List Frame} {meth : Method} {c : Code} {b L : Nat} {xs : Nat → Int32} {g : GG} {ad a : Nat → Nat} {ao : Nat} {xk : Nat → Nat} {kq : KK} {H : Heap} {locs : List Loc} {cells slots : Nat} {Q : State → Prop} {ls : Array Slot} {i : Nat} (F : LF p l s m c b L xs g ad a ao xk kq) (hi : i + 6 ≤ L) (hLI : LI g ad a ao H) (hS : va_S (lA s) s.heap H locs) (hl : lv_has ls 7 (lvL b ad a ao i)) (hcl : cells + 1 ≤ room_1.cells) (hsl : slots + 6 ≤ room_1.slots)
    (kk9 : ∀ (H1 : Heap) (locs1 : List Loc) (ls1 : Array Slot), LI g ad a ao H1 → va_S (lA s) s.heap H1 locs1 → lv_has ls1 7 (lvL b ad a ao i) → W p l e room_1 s m #[Value.ref b] below meth c H1 locs1 (cells + 1) (slots + 6) Q (F0 m 941 ls1 [])) : W p l e room_1 s m #[Value.ref b] below meth c H locs cells slots Q (F0 m 464 ls []) := by
  obtain ⟨S, hl9, hK, hkC, hkY, hd9, ha, hdis, hao, ham, hA8, hA9, hAo, hX, hbl, hL⟩ := F
  obtain ⟨hx, hb, hml, hown, hts⟩ := id S
  obtain ⟨P, M, sc, wd, tp, N, rd, sn, f, k, t, hW, hM, hO, hI, e9, e1, ht7, m1, m2, hT, m3⟩ := hLI
  obtain ⟨hP9, hc9, hk10, hk6, nx, hnx, hn6, hch9⟩ := id hI
  obtain ⟨hN, hZt, hst9, hRu, hSh, ht9, hfl9⟩ := id hc9
  have hS8 : va_S (hbA ad) s.heap H [] := ⟨hS.1, fun q h1 _ => hS.2.1 q h1 (Nat.not_le.mpr h1), fun _ h => nomatch h⟩
  have r8 := va_recv hK (hb1 hW (show 0 < 126 by omega) (lcE rfl sh_0)) (q0 := 0) (ci := 8) rfl rfl
  have hc0 : cells + 0 ≤ room_1.cells ∧ slots + 0 ≤ room_1.slots := ⟨Nat.le_trans (Nat.le_succ _) hcl, Nat.le_trans (Nat.le_add_right _ 6) hsl⟩
  refine lv_aload_n hx hb dL_law_464 rfl (lv_at hl 1 rfl) ?_
  refine ls_rd (i := i) (j := 1) hx hb hX hbl hS dL_law_465 dL_law_466 dL_law_468 dL_law_469 dL_law_470 rfl (by omega) hL (lv_at hl 0 rfl) (lv_at hl 4 rfl) ?_
  refine ls_rd (i := i) (j := 2) hx hb hX hbl hS dL_law_471 dL_law_472 dL_law_474 dL_law_475 dL_law_476 rfl (by omega) hL (lv_at hl 0 rfl) (lv_at hl 4 rfl) ?_
  refine ls_rd (i := i) (j := 3) hx hb hX hbl hS dL_law_477 dL_law_478 dL_law_480 dL_law_481 dL_law_482 rfl (by omega) hL (lv_at hl 0 rfl) (lv_at hl 4 rfl) ?_
  refine vp_callSi (va_Run.run (va_runV (As := [.int (zI ((xs (i + 1)).toInt)), .int (zI ((xs (i + 2)).toInt)), .int (zI ((xs (i + 3)).toInt))]) (rest := []) S (c_X8_planned l g (ad 0) N hN (M 6 1) (M 1 0) ((xs (i + 1)).toInt) ((xs (i + 2)).toInt) ((xs (i + 3)).toInt) (R32_of _) (R32_of _) (R32_of _)) (cwV 3 hts gL_law0_X8_planned rfl rfl rfl (by decide +kernel) ⟨Nat.le_of_ble_eq_true rfl, Nat.le_of_ble_eq_true rfl⟩) (g_preV (cw_rdH hW hP9 hSh hRu ht9) hK r8) rfl rfl hl.1 rfl (lv_room (Nat.le_of_ble_eq_true rfl)) dL_law_483 hc0)) (fun r1 hr1 => ?_)
  refine lv_aload_n hx hb dL_law_486 rfl (lv_at hl 2 rfl) ?_
  refine ls_rd (i := i) (j := 1) hx hb hX hbl hS dL_law_487 dL_law_488 dL_law_490 dL_law_491 dL_law_492 rfl (by omega) hL (lv_at hl 0 rfl) (lv_at hl 4 rfl) ?_
  refine ls_rd (i := i) (j := 2) hx hb hX hbl hS dL_law_493 dL_law_494 dL_law_496 dL_law_497 dL_law_498 rfl (by omega) hL (lv_at hl 0 rfl) (lv_at hl 4 rfl) ?_
  refine ls_rd (i := i) (j := 3) hx hb hX hbl hS dL_law_499 dL_law_500 dL_law_502 dL_law_503 dL_law_504 rfl (by omega) hL (lv_at hl 0 rfl) (lv_at hl 4 rfl) ?_
  refine va_calli (A0 := lA s) (va_runV (As := [.int (zI ((xs (i + 1)).toInt)), .int (zI ((xs (i + 2)).toInt)), .int (zI ((xs (i + 3)).toInt))]) (rest := [.int r1]) S (c_X9_planned l g a ha sc wd tp N rd sn hN ((xs (i + 1)).toInt) ((xs (i + 2)).toInt) ((xs (i + 3)).toInt) (R32_of _) (R32_of _) (R32_of _)) (cwV 3 hts gL_law0_X9_planned rfl rfl rfl (by decide +kernel) ⟨Nat.le_of_ble_eq_true rfl, Nat.le_of_ble_eq_true rfl⟩) (g_preV hM hK (va_recv hK hM (q0 := 0) (ci := 9) rfl rfl)) rfl rfl hl.1 rfl (lv_room (Nat.le_of_ble_eq_true rfl)) dL_law_505 hc0) hS (fun q _ h => hA9 q h) hA9 (fun r2 u2 t2 H2 locs2 et2 _ hr2 hB _ hkp2 hS2 => ?_)
  rw [et2] at hB
  refine lv_icmp_eq (tgt := 941) hx hb dL_law_508 (by decide) (fun _ => ?_) (fun h9 => (h9 (by rw [hr1, hr2])).elim)
  refine W.widen (Nat.le_add_right _ 1) (Nat.le_add_right _ 6) ?_
  exact kk9 H2 locs2 ls ⟨P, M, _, _, _, _, _, _, f, k, t, li_cw hdis hW hkp2, hB, o_kept hO hkp2 ham, hI, e9, e1, ht7, m1, m2, hT, m3⟩ hS2 hl

set_option maxHeartbeats 4000000 in
set_option maxRecDepth 100000 in
theorem lc_10 {p : Program} {l : Launch} {e : Env} {s : State} {m : MethodId} {below : List Frame} {meth : Method} {c : Code} {b L : Nat} {xs : Nat → Int32} {g : GG} {ad a : Nat → Nat} {ao : Nat} {xk : Nat → Nat} {kq : KK} {H : Heap} {locs : List Loc} {cells slots : Nat} {Q : State → Prop} {ls : Array Slot} {i : Nat} (F : LF p l s m c b L xs g ad a ao xk kq) (hi : i + 6 ≤ L) (hLI : LI g ad a ao H) (hS : va_S (lA s) s.heap H locs) (hl : lv_has ls 7 (lvL b ad a ao i)) (hcl : cells + 1 ≤ room_1.cells) (hsl : slots + 6 ≤ room_1.slots)
    (kk9 : ∀ (H1 : Heap) (locs1 : List Loc) (ls1 : Array Slot), LI g ad a ao H1 → va_S (lA s) s.heap H1 locs1 → lv_has ls1 7 (lvL b ad a ao i) → W p l e room_1 s m #[Value.ref b] below meth c H1 locs1 (cells + 1) (slots + 6) Q (F0 m 941 ls1 [])) : W p l e room_1 s m #[Value.ref b] below meth c H locs cells slots Q (F0 m 513 ls []) := by
  obtain ⟨S, hl9, hK, hkC, hkY, hd9, ha, hdis, hao, ham, hA8, hA9, hAo, hX, hbl, hL⟩ := F
  obtain ⟨hx, hb, hml, hown, hts⟩ := id S
  obtain ⟨P, M, sc, wd, tp, N, rd, sn, f, k, t, hW, hM, hO, hI, e9, e1, ht7, m1, m2, hT, m3⟩ := hLI
  obtain ⟨hP9, hc9, hk10, hk6, nx, hnx, hn6, hch9⟩ := id hI
  obtain ⟨hN, hZt, hst9, hRu, hSh, ht9, hfl9⟩ := id hc9
  have hS8 : va_S (hbA ad) s.heap H [] := ⟨hS.1, fun q h1 _ => hS.2.1 q h1 (Nat.not_le.mpr h1), fun _ h => nomatch h⟩
  have r8 := va_recv hK (hb1 hW (show 0 < 126 by omega) (lcE rfl sh_0)) (q0 := 0) (ci := 8) rfl rfl
  have hc0 : cells + 0 ≤ room_1.cells ∧ slots + 0 ≤ room_1.slots := ⟨Nat.le_trans (Nat.le_succ _) hcl, Nat.le_trans (Nat.le_add_right _ 6) hsl⟩
  refine lv_aload_n hx hb dL_law_513 rfl (lv_at hl 1 rfl) ?_
  refine ls_rd (i := i) (j := 1) hx hb hX hbl hS dL_law_514 dL_law_515 dL_law_517 dL_law_518 dL_law_519 rfl (by omega) hL (lv_at hl 0 rfl) (lv_at hl 4 rfl) ?_
  refine ls_rd (i := i) (j := 2) hx hb hX hbl hS dL_law_520 dL_law_521 dL_law_523 dL_law_524 dL_law_525 rfl (by omega) hL (lv_at hl 0 rfl) (lv_at hl 4 rfl) ?_
  refine vp_callSi (va_Run.run (va_runV (As := [.int (zI ((xs (i + 1)).toInt)), .int (zI ((xs (i + 2)).toInt))]) (rest := []) S (c_X8_reaches l g (ad 0) N hN (M 6 1) (M 1 0) ((xs (i + 1)).toInt) ((xs (i + 2)).toInt) (R32_of _) (R32_of _)) (cwV 2 hts gL_law0_X8_reaches rfl rfl rfl (by decide +kernel) ⟨Nat.le_of_ble_eq_true rfl, Nat.le_of_ble_eq_true rfl⟩) (g_preV (cw_rdH hW hP9 hSh hRu ht9) hK r8) rfl rfl hl.1 rfl (lv_room (Nat.le_of_ble_eq_true rfl)) dL_law_526 hc0)) (fun r1 hr1 => ?_)
  refine lv_aload_n hx hb dL_law_529 rfl (lv_at hl 2 rfl) ?_
  refine ls_rd (i := i) (j := 1) hx hb hX hbl hS dL_law_530 dL_law_531 dL_law_533 dL_law_534 dL_law_535 rfl (by omega) hL (lv_at hl 0 rfl) (lv_at hl 4 rfl) ?_
  refine ls_rd (i := i) (j := 2) hx hb hX hbl hS dL_law_536 dL_law_537 dL_law_539 dL_law_540 dL_law_541 rfl (by omega) hL (lv_at hl 0 rfl) (lv_at hl 4 rfl) ?_
  refine va_calli (A0 := lA s) (va_runV (As := [.int (zI ((xs (i + 1)).toInt)), .int (zI ((xs (i + 2)).toInt))]) (rest := [.int r1]) S (c_X9_reaches l g a ha sc wd tp N rd sn hN ((xs (i + 1)).toInt) ((xs (i + 2)).toInt) (R32_of _) (R32_of _)) (cwV 2 hts gL_law0_X9_reaches rfl rfl rfl (by decide +kernel) ⟨Nat.le_of_ble_eq_true rfl, Nat.le_of_ble_eq_true rfl⟩) (g_preV hM hK (va_recv hK hM (q0 := 0) (ci := 9) rfl rfl)) rfl rfl hl.1 rfl (lv_room (Nat.le_of_ble_eq_true rfl)) dL_law_542 hc0) hS (fun q _ h => hA9 q h) hA9 (fun r2 u2 t2 H2 locs2 et2 _ hr2 hB _ hkp2 hS2 => ?_)
  rw [et2] at hB
  refine lv_icmp_eq (tgt := 941) hx hb dL_law_545 (by decide) (fun _ => ?_) (fun h9 => (h9 (by rw [hr1, hr2])).elim)
  refine W.widen (Nat.le_add_right _ 1) (Nat.le_add_right _ 6) ?_
  exact kk9 H2 locs2 ls ⟨P, M, _, _, _, _, _, _, f, k, t, li_cw hdis hW hkp2, hB, o_kept hO hkp2 ham, hI, e9, e1, ht7, m1, m2, hT, m3⟩ hS2 hl

set_option maxHeartbeats 4000000 in
set_option maxRecDepth 100000 in
theorem lc_11 {p : Program} {l : Launch} {e : Env} {s : State} {m : MethodId} {below : List Frame} {meth : Method} {c : Code} {b L : Nat} {xs : Nat → Int32} {g : GG} {ad a : Nat → Nat} {ao : Nat} {xk : Nat → Nat} {kq : KK} {H : Heap} {locs : List Loc} {cells slots : Nat} {Q : State → Prop} {ls : Array Slot} {i : Nat} (F : LF p l s m c b L xs g ad a ao xk kq) (hi : i + 6 ≤ L) (hLI : LI g ad a ao H) (hS : va_S (lA s) s.heap H locs) (hl : lv_has ls 7 (lvL b ad a ao i)) (hcl : cells + 1 ≤ room_1.cells) (hsl : slots + 6 ≤ room_1.slots)
    (kk9 : ∀ (H1 : Heap) (locs1 : List Loc) (ls1 : Array Slot), LI g ad a ao H1 → va_S (lA s) s.heap H1 locs1 → lv_has ls1 7 (lvL b ad a ao i) → W p l e room_1 s m #[Value.ref b] below meth c H1 locs1 (cells + 1) (slots + 6) Q (F0 m 941 ls1 [])) : W p l e room_1 s m #[Value.ref b] below meth c H locs cells slots Q (F0 m 550 ls []) := by
  obtain ⟨S, hl9, hK, hkC, hkY, hd9, ha, hdis, hao, ham, hA8, hA9, hAo, hX, hbl, hL⟩ := F
  obtain ⟨hx, hb, hml, hown, hts⟩ := id S
  obtain ⟨P, M, sc, wd, tp, N, rd, sn, f, k, t, hW, hM, hO, hI, e9, e1, ht7, m1, m2, hT, m3⟩ := hLI
  obtain ⟨hP9, hc9, hk10, hk6, nx, hnx, hn6, hch9⟩ := id hI
  obtain ⟨hN, hZt, hst9, hRu, hSh, ht9, hfl9⟩ := id hc9
  have hS8 : va_S (hbA ad) s.heap H [] := ⟨hS.1, fun q h1 _ => hS.2.1 q h1 (Nat.not_le.mpr h1), fun _ h => nomatch h⟩
  have r8 := va_recv hK (hb1 hW (show 0 < 126 by omega) (lcE rfl sh_0)) (q0 := 0) (ci := 8) rfl rfl
  have hc0 : cells + 0 ≤ room_1.cells ∧ slots + 0 ≤ room_1.slots := ⟨Nat.le_trans (Nat.le_succ _) hcl, Nat.le_trans (Nat.le_add_right _ 6) hsl⟩
  refine lv_aload_n hx hb dL_law_550 rfl (lv_at hl 1 rfl) ?_
  refine ls_rd (i := i) (j := 1) hx hb hX hbl hS dL_law_551 dL_law_552 dL_law_554 dL_law_555 dL_law_556 rfl (by omega) hL (lv_at hl 0 rfl) (lv_at hl 4 rfl) ?_
  refine ls_rd (i := i) (j := 2) hx hb hX hbl hS dL_law_557 dL_law_558 dL_law_560 dL_law_561 dL_law_562 rfl (by omega) hL (lv_at hl 0 rfl) (lv_at hl 4 rfl) ?_
  refine ls_rd (i := i) (j := 3) hx hb hX hbl hS dL_law_563 dL_law_564 dL_law_566 dL_law_567 dL_law_568 rfl (by omega) hL (lv_at hl 0 rfl) (lv_at hl 4 rfl) ?_
  refine vp_callSi (va_Run.run (va_runV (As := [.int (zI ((xs (i + 1)).toInt)), .int (zI ((xs (i + 2)).toInt)), .int (zI ((xs (i + 3)).toInt))]) (rest := []) S (c_X8_cost l g (ad 0) N hN (M 6 1) (M 1 0) ((xs (i + 1)).toInt) ((xs (i + 2)).toInt) ((xs (i + 3)).toInt) (R32_of _) (R32_of _) (R32_of _)) (cwV 3 hts gL_law0_X8_cost rfl rfl rfl (by decide +kernel) ⟨Nat.le_of_ble_eq_true rfl, Nat.le_of_ble_eq_true rfl⟩) (g_preV (cw_rdH hW hP9 hSh hRu ht9) hK r8) rfl rfl hl.1 rfl (lv_room (Nat.le_of_ble_eq_true rfl)) dL_law_569 hc0)) (fun r1 hr1 => ?_)
  refine lv_aload_n hx hb dL_law_572 rfl (lv_at hl 2 rfl) ?_
  refine ls_rd (i := i) (j := 1) hx hb hX hbl hS dL_law_573 dL_law_574 dL_law_576 dL_law_577 dL_law_578 rfl (by omega) hL (lv_at hl 0 rfl) (lv_at hl 4 rfl) ?_
  refine ls_rd (i := i) (j := 2) hx hb hX hbl hS dL_law_579 dL_law_580 dL_law_582 dL_law_583 dL_law_584 rfl (by omega) hL (lv_at hl 0 rfl) (lv_at hl 4 rfl) ?_
  refine ls_rd (i := i) (j := 3) hx hb hX hbl hS dL_law_585 dL_law_586 dL_law_588 dL_law_589 dL_law_590 rfl (by omega) hL (lv_at hl 0 rfl) (lv_at hl 4 rfl) ?_
  refine va_calli (A0 := lA s) (va_runV (As := [.int (zI ((xs (i + 1)).toInt)), .int (zI ((xs (i + 2)).toInt)), .int (zI ((xs (i + 3)).toInt))]) (rest := [.int r1]) S (c_X9_cost l g a ha sc wd tp N rd sn hN ((xs (i + 1)).toInt) ((xs (i + 2)).toInt) ((xs (i + 3)).toInt) (R32_of _) (R32_of _) (R32_of _)) (cwV 3 hts gL_law0_X9_cost rfl rfl rfl (by decide +kernel) ⟨Nat.le_of_ble_eq_true rfl, Nat.le_of_ble_eq_true rfl⟩) (g_preV hM hK (va_recv hK hM (q0 := 0) (ci := 9) rfl rfl)) rfl rfl hl.1 rfl (lv_room (Nat.le_of_ble_eq_true rfl)) dL_law_591 hc0) hS (fun q _ h => hA9 q h) hA9 (fun r2 u2 t2 H2 locs2 et2 _ hr2 hB _ hkp2 hS2 => ?_)
  rw [et2] at hB
  refine lv_icmp_eq (tgt := 941) hx hb dL_law_594 (by decide) (fun _ => ?_) (fun h9 => (h9 (by rw [hr1, hr2])).elim)
  refine W.widen (Nat.le_add_right _ 1) (Nat.le_add_right _ 6) ?_
  exact kk9 H2 locs2 ls ⟨P, M, _, _, _, _, _, _, f, k, t, li_cw hdis hW hkp2, hB, o_kept hO hkp2 ham, hI, e9, e1, ht7, m1, m2, hT, m3⟩ hS2 hl
