theorem pi9_lt {i : Nat} (h : i < 126) : pi9 i < 126 := by unfold pi9; split <;> (try split) <;> (try split) <;> (try split) <;> (try split) <;> (try split) <;> omega
theorem pi9_inj {i j : Nat} (hi : i < 126) (hj : j < 126) (h : pi9 i = pi9 j) : i = j := by
  have key : ∀ k, k < 126 → (k < 5 ∧ pi9 k = k) ∨ (k = 5 ∧ pi9 k = 43) ∨ (k = 6 ∧ pi9 k = 64) ∨ (k = 7 ∧ pi9 k = 65) ∨ (8 ≤ k ∧ k < 46 ∧ pi9 k = k - 3) ∨ (46 ≤ k ∧ k < 66 ∧ pi9 k = k - 2) ∨ (66 ≤ k ∧ pi9 k = k) := by
    intro k hk
    unfold pi9
    by_cases h1 : k < 5
    · rw [if_pos h1]; omega
    · rw [if_neg h1]
      by_cases h2 : k = 5
      · rw [if_pos h2]; omega
      · rw [if_neg h2]
        by_cases h3 : k = 6
        · rw [if_pos h3]; omega
        · rw [if_neg h3]
          by_cases h4 : k = 7
          · rw [if_pos h4]; omega
          · rw [if_neg h4]
            by_cases h5 : k < 46
            · rw [if_pos h5]; omega
            · rw [if_neg h5]
              by_cases h6 : k < 66
              · rw [if_pos h6]; omega
              · rw [if_neg h6]; omega
  have a := key i hi
  have b := key j hj
  rw [h] at a
  generalize pi9 j = y at a b
  omega
theorem fam9 {u9 u1 : Nat → Nat} {q3 : Nat} (h1 : ∀ i, i < 126 → u1 i = u9 i) (hn : nD 132 (va_up u1 131 q3)) : hD (fun i => u9 (pi9 i)) ∧ aD (fun i => u1 (126 + i)) ∧ (∀ q, hbA (fun i => u9 (pi9 i)) q → ¬ mA (fun i => u1 (126 + i)) q) ∧ ¬ hbA (fun i => u9 (pi9 i)) q3 ∧ ¬ mA (fun i => u1 (126 + i)) q3 := by
  have up : ∀ i, i < 131 → va_up u1 131 q3 i = u1 i := fun i hi => up_ne _ _ (by omega)
  have inj : ∀ i j, i < 131 → j < 131 → u1 i = u1 j → i = j := fun i j hi hj e => hn i j (by omega) (by omega) (by rw [up i hi, up j hj]; exact e)
  have far : ∀ i, i < 131 → ¬ q3 = u1 i := fun i hi e => by
    have := hn 131 i (by omega) (by omega) (by rw [up_at, up i hi]; exact e)
    omega
  refine ⟨fun i j hi hj e => ?_, fun i j hi hj e => ?_, fun q hq hm => ?_, fun hq => ?_, fun hm => ?_⟩
  · have l1 := pi9_lt hi
    have l2 := pi9_lt hj
    have e2 : u9 (pi9 i) = u9 (pi9 j) := e
    rw [← h1 _ l1, ← h1 _ l2] at e2
    exact pi9_inj hi hj (inj _ _ (by omega) (by omega) e2)
  · have := inj (126 + i) (126 + j) (by omega) (by omega) e
    omega
  · obtain ⟨i, hi, rfl⟩ := hq
    obtain ⟨j, hj, e⟩ := hm
    have l1 := pi9_lt hi
    have e2 : u9 (pi9 i) = u1 (126 + j) := e
    rw [← h1 _ l1] at e2
    have := inj (pi9 i) (126 + j) (by omega) (by omega) e2
    omega
  · obtain ⟨i, hi, e⟩ := hq
    have l1 := pi9_lt hi
    have e2 : q3 = u9 (pi9 i) := e
    rw [← h1 _ l1] at e2
    exact far _ (by omega) e2
  · obtain ⟨j, hj, e⟩ := hm
    exact far (126 + j) (by omega) e
theorem okT_0 : okT (fun _ => zI 0) := fun i _ => show 0 ≤ (zI 0).toInt ∧ (zI 0).toInt ≤ ((255 : Nat) : Int) by decide
theorem tpR_0 : tpR (fun _ => zI 0) (fun _ => zI 0) := fun i _ => by
  show zI 0 = zI (sbI ((zI 0).toInt.toNat))
  decide
theorem hinlX8 : ∀ w ∈ wsX80, w ∈ wsL_law0 := by decide +kernel
theorem hinlX9 : ∀ w ∈ wsX90, w ∈ wsL_law0 := by decide +kernel
set_option maxHeartbeats 4000000 in
set_option maxRecDepth 100000 in
theorem law_start {p : Program} {l : Launch} {e : Env} {s : State} {m : MethodId} {below : List Frame} {meth : Method} {c : Code} {b L : Nat} {xs : Nat → Int32} {g : GG} {xk : Nat → Nat} {kq : KK} {Q : State → Prop} (S : CallFix p m c cL_law 7 s #[Value.ref b] wsL_law0 RL) (hl9 : l.stackTraces = false) (hK : gK g s) (hkN : kN s) (hkC : ∀ ad : Nat → Nat, (∀ q, hbA ad q → lA s q) → kC kq ad s) (hkY : ∀ ad : Nat → Nat, (∀ q, hbA ad q → lA s q) → kY xk ad s) (hX : va_X b L xs s s.heap) (hbl : b < s.heap.size) (hL : L ≤ 3072)
    (hend : ∀ (H : Heap) (ls : Array Slot), W p l e room_1 s m #[Value.ref b] below meth c H [] 601024 7293034 Q (F0 m 948 ls [.int 1])) {ls : Array Slot} (hl : lv_has ls 7 [(0, .ref b)]) : W p l e room_1 s m #[Value.ref b] below meth c s.heap [] 0 0 Q (F0 m 0 ls []) := by
  obtain ⟨hx, hb, hml, hown, hts⟩ := id S
  have hA : ∀ q : Nat, s.heap.size ≤ q → lA s q := fun _ h => h
  have hS : va_S (lA s) s.heap s.heap [] := va_S.rf
  have hP : nP g 0 (fun _ => 0) (fun _ => .inr (0, [])) s.heap := fun k q h => by simp [nL] at h
  have hD : va_D (lA s) (nL 0 (fun _ => 0) (fun _ => .inr (0, []))) := nDa (fun i j hi => absurd hi (by omega)) (fun i hi => absurd hi (by omega))
  refine n_new (ci := 8) (fs := [.null, .null, .null, .null, .null, .null, .int (zI (0))]) (C := RX8) (T := TX8) (N := 7) hx hb hts hinlX8 tyX8 tyX8_ok hown (hts (.classLink RL 8 RX8) (by decide +kernel)) (hts (.instantiable RX8 7) (by decide +kernel)) (hts (.initialized RX8) (by decide +kernel)) hK hP hD hS hA rfl (fun j hj => by rcases (show j = 0 ∨ j = 1 ∨ j = 2 ∨ j = 3 ∨ j = 4 ∨ j = 5 ∨ j = 6 by omega) with rfl | rfl | rfl | rfl | rfl | rfl | rfl <;> rfl) (Nat.le_of_ble_eq_true rfl) (Nat.le_of_ble_eq_true rfl) dL_law_0 (fun q1 H hP hD hS => ?_)
  have hP : nP g 1 (va_up (fun _ => 0) 0 q1) (va_up (fun _ => .inr (0, [])) 0 (.inr (8, [.null, .null, .null, .null, .null, .null, .int (zI (0))]))) H := hP
  have hD : va_D (lA s) (nL 1 (va_up (fun _ => 0) 0 q1) (va_up (fun _ => .inr (0, [])) 0 (.inr (8, [.null, .null, .null, .null, .null, .null, .int (zI (0))])))) := hD
  refine lv_dup hx hb dL_law_3 rfl ?_
  have hF9 := n_free hD hS hA
  have hS9 := hS
  refine va_callv (va_runI (As := []) (rest := [.ref q1]) S (c_X8_init_N l g 1 _ _ H.size 0 (by omega) q1 (up_at _ _ _) (up_at _ _ _)) (cwI 0 hts gL_law0_X8_init rfl rfl rfl (hts (.initialized RX8) (by decide +kernel)) (hts (.methodLink RL 22 yX8_init) (by decide +kernel)) (hts (.instanceMethod yX8_init) (by decide +kernel)) rfl (by decide +kernel) ⟨Nat.le_of_ble_eq_true rfl, Nat.le_of_ble_eq_true rfl⟩) (n_preS hP hD hK hkN) rfl rfl hl.1 rfl (lv_room (Nat.le_of_ble_eq_true rfl)) dL_law_4 ⟨Nat.le_of_ble_eq_true rfl, Nat.le_of_ble_eq_true rfl⟩) hS (fun q _ h => hF9 q h) hF9 (fun u9 t9 H1 locs1 ht9 hvm9 hw9 hB9 hz9 hk9 hS => ?_)
  obtain ⟨a1, c1⟩ := u9
  rw [ht9] at hB9
  have hP1 : nP g 126 a1 c1 H1 := hB9
  have hD1 : va_D (lA s) (nL 126 a1 c1) := n_joinD (n := 1) (m := 125) hD hS9 hA hw9.1
  have hb9 : hbN g a1 c1 := hw9.2.2
  have e1 : a1 0 = q1 := (hw9.1.1 0 (by omega)).trans (up_at _ _ _)
  clear hw9 hB9 hz9 hk9 hvm9 ht9 hF9 hS9 hP hD
  refine lv_astore_n (lv' := [(1, .ref q1), (0, .ref b)]) hx hb dL_law_7 rfl hl (by decide) rfl (fun ls hl => ?_)
  refine n_new (ci := 9) (fs := [.int (zI (0)), .null, .int (zI (0)), .int (zI (0)), .int (zI (0)), .int (zI (0)), .int (zI (0)), .int (zI (0)), .int (zI (0)), .int (zI (0)), .long (zL (0)), .null, .null, .null, .int (zI (0))]) (C := RX9) (T := TX9) (N := 15) hx hb hts hinlX9 tyX9 tyX9_ok hown (hts (.classLink RL 23 RX9) (by decide +kernel)) (hts (.instantiable RX9 15) (by decide +kernel)) (hts (.initialized RX9) (by decide +kernel)) hK hP1 hD1 hS hA rfl (fun j hj => by rcases (show j = 0 ∨ j = 1 ∨ j = 2 ∨ j = 3 ∨ j = 4 ∨ j = 5 ∨ j = 6 ∨ j = 7 ∨ j = 8 ∨ j = 9 ∨ j = 10 ∨ j = 11 ∨ j = 12 ∨ j = 13 ∨ j = 14 by omega) with rfl | rfl | rfl | rfl | rfl | rfl | rfl | rfl | rfl | rfl | rfl | rfl | rfl | rfl | rfl <;> rfl) (Nat.le_of_ble_eq_true rfl) (Nat.le_of_ble_eq_true rfl) dL_law_8 (fun q2 H2 hP2 hD2 hS => ?_)
  generalize hc2 : va_up c1 126 (.inr (9, [.int (zI (0)), .null, .int (zI (0)), .int (zI (0)), .int (zI (0)), .int (zI (0)), .int (zI (0)), .int (zI (0)), .int (zI (0)), .int (zI (0)), .long (zL (0)), .null, .null, .null, .int (zI (0))])) = c2 at hP2 hD2
  have e_x : c2 126 = .inr (9, [.int (zI (0)), .null, .int (zI (0)), .int (zI (0)), .int (zI (0)), .int (zI (0)), .int (zI (0)), .int (zI (0)), .int (zI (0)), .int (zI (0)), .long (zL (0)), .null, .null, .null, .int (zI (0))]) := by rw [← hc2]; exact up_at _ _ _
  have hP2 : nP g 127 (va_up a1 126 q2) c2 H2 := hP2
  have hD2 : va_D (lA s) (nL 127 (va_up a1 126 q2) c2) := hD2
  refine lv_dup hx hb dL_law_11 rfl ?_
  have hF9 := n_free hD2 hS hA
  have hS9 := hS
  refine va_callv (va_runI (As := []) (rest := [.ref q2]) S (c_X9_init_N l g 127 _ _ H2.size 126 (by omega) q2 (up_at _ _ _) e_x) (cwI 0 hts gL_law0_X9_init rfl rfl rfl (hts (.initialized RX9) (by decide +kernel)) (hts (.methodLink RL 25 yX9_init) (by decide +kernel)) (hts (.instanceMethod yX9_init) (by decide +kernel)) rfl (by decide +kernel) ⟨Nat.le_of_ble_eq_true rfl, Nat.le_of_ble_eq_true rfl⟩) (n_preS hP2 hD2 hK hkN) rfl rfl hl.1 rfl (lv_room (Nat.le_of_ble_eq_true rfl)) dL_law_12 ⟨Nat.le_of_ble_eq_true rfl, Nat.le_of_ble_eq_true rfl⟩) hS (fun q _ h => hF9 q h) hF9 (fun u9 t9 H3 locs3 ht9 hvm9 hw9 hB9 hz9 hk9 hS => ?_)
  obtain ⟨a3, c3⟩ := u9
  rw [ht9] at hB9
  have hP3 : nP g 131 a3 c3 H3 := hB9
  have hD3 : va_D (lA s) (nL 131 a3 c3) := n_joinD (n := 127) (m := 4) hD2 hS9 hA hw9.1
  obtain ⟨hq9, hu9, w0, w1, w2, w3, w4⟩ := hw9
  have e2 : a3 126 = q2 := (hq9.1 126 (by omega)).trans (up_at _ _ _)
  have ea : ∀ i, i < 126 → a3 i = a1 i := fun i hi => (hq9.1 i (by omega)).trans (up_ne _ _ (by omega))
  have ec : ∀ i, i < 126 → c3 i = c1 i := fun i hi => (hu9 i (by omega) (by omega)).trans (by rw [← hc2]; exact up_ne _ _ (by omega))
  clear hq9 hu9 hB9 hz9 hk9 hvm9 ht9 hF9 hS9 hP2 hD2
  refine lv_astore_n (lv' := [(2, .ref q2), (1, .ref q1), (0, .ref b)]) hx hb dL_law_15 rfl hl (by decide) rfl (fun ls hl => ?_)
  refine lv_iconst (v := zI (1)) hx hb dL_law_16 (by decide) ?_
  refine n_newa (atype := .long) (ty := .long) hx hb (hts (.arrayClass .long) (by decide +kernel)) rfl hK hP3 hD3 hS hA 7 rfl (N' := 1) (a0 := (1, .inr (.inl (fun _ => 0)))) (fun cA => rfl) rfl (by decide) (by decide) (Nat.le_of_ble_eq_true rfl) (Nat.le_of_ble_eq_true rfl) dL_law_17 (fun q3 H4 hP4 hD4 hS => ?_)
  have hP4 : nP g 132 (va_up a3 131 q3) (va_up c3 131 (.inl (g.2 7, (1, .inr (.inl (fun _ => 0)))))) H4 := hP4
  have hD4 : va_D (lA s) (nL 132 (va_up a3 131 q3) (va_up c3 131 (.inl (g.2 7, (1, .inr (.inl (fun _ => 0))))))) := hD4
  refine lv_astore_n (lv' := [(3, .ref q3), (2, .ref q2), (1, .ref q1), (0, .ref b)]) hx hb dL_law_19 rfl hl (by decide) rfl (fun ls hl => ?_)
  refine lv_iconst (v := zI (0)) hx hb dL_law_20 (by decide) ?_
  refine lv_istore (lv' := [(4, .int (zI (0))), (3, .ref q3), (2, .ref q2), (1, .ref q1), (0, .ref b)]) hx hb dL_law_21 hl (by decide) rfl (fun ls hl => ?_)
  obtain ⟨f1, f2, f3, f4, f5⟩ := fam9 ea (nD_of hD4)
  have cell : ∀ k, k < 131 → gP g [(a3 k, c3 k)] H4 := fun k hk => nb1 hP4 (i := k) (by omega) (up_ne _ _ (by omega)) (up_ne _ _ (by omega))
  have inA : ∀ k, k < 131 → lA s (a3 k) := fun k hk => by
    have h := nA_of hD4 (i := k) (by omega)
    rw [up_ne _ _ (show k ≠ 131 by omega)] at h
    exact h
  have hA8 : ∀ q, hbA (fun i => a1 (pi9 i)) q → lA s q := fun q hq => by
    obtain ⟨i, hi, rfl⟩ := hq
    have hp := pi9_lt hi
    show lA s (a1 (pi9 i))
    rw [← ea _ hp]
    exact inA _ (by omega)
  have hA9 : ∀ q, mA (fun i => a3 (126 + i)) q → lA s q := fun q hq => by
    obtain ⟨i, hi, rfl⟩ := hq
    exact inA (126 + i) (by omega)
  have hAo : lA s q3 := by
    have h := nA_of hD4 (i := 131) (by omega)
    rw [up_at] at h
    exact h
  have hcw : cw g (fun i => a1 (pi9 i)) P0 M0 H4 := mk_cw hb9 (fun k hk => by have h := cell k (by omega); rw [ea k hk, ec k hk] at h; exact h)
  have hmw : gP g (mW g (fun i => a3 (126 + i)) (fun _ => zI 0) (zL 0) (fun _ => zI 0) N00 (fun _ => zI 0) (fun _ => zI 0)) H4 := by
    intro k q hk
    match k, hk with
    | 0, hk => cases hk; have h := cell 126 (by omega); rw [show c3 126 = _ from w0] at h; exact h 0 _ rfl
    | 1, hk => cases hk; have h := cell 127 (by omega); rw [show c3 127 = _ from w1] at h; exact h 0 _ rfl
    | 2, hk => cases hk; have h := cell 128 (by omega); rw [show c3 128 = _ from w2] at h; exact h 0 _ rfl
    | 3, hk => cases hk; have h := cell 129 (by omega); rw [show c3 129 = _ from w3] at h; exact h 0 _ rfl
    | 4, hk => cases hk; have h := cell 130 (by omega); rw [show c3 130 = _ from w4] at h; exact h 0 _ rfl
    | k + 5, hk => simp [mW] at hk
  have hoc : gP g (oC g q3 (fun _ => 0)) H4 := nb1 hP4 (i := 131) (by omega) (up_at _ _ _) (up_at _ _ _)
  have F : LF p l s m c b L xs g (fun i => a1 (pi9 i)) (fun i => a3 (126 + i)) q3 xk kq := ⟨S, hl9, hK, hkC _ hA8, hkY _ hA8, f1, f2, f3, f4, f5, hA8, hA9, hAo, hX, hbl, hL⟩
  have hLI : LI g (fun i => a1 (pi9 i)) (fun i => a3 (126 + i)) q3 H4 := ⟨P0, M0, fun _ => zI 0, zL 0, fun _ => zI 0, N00, fun _ => zI 0, fun _ => zI 0, fun _ => 0, 0, 0, hcw, hmw, hoc, INV_0 _, rfl, rfl, by omega, congrFun (M0_lo (i := 1) (by omega)) 0, by rw [M0_lo (i := 2) (by omega)]; exact tpR_0, okT_0, congrFun (M0_lo (i := 3) (by omega)) 0⟩
  refine law_loop F hend 512 0 H4 _ _ _ ls (by omega) (by omega) (by decide) (by decide) hLI hS (lvx_sub hl (fun q h => ?_))
  have z1 : a1 (pi9 0) = q1 := e1
  have z2 : a3 (126 + 0) = q2 := e2
  simp only [lvL, z1, z2, List.mem_cons, List.not_mem_nil, or_false] at h ⊢
  rcases h with rfl | rfl | rfl | rfl | rfl
  · simp
  · simp
  · simp
  · simp
  · left; rfl
