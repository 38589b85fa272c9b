def P0 : Nat → Nat := fun i => if i = 1 then 27 else 8
abbrev fl0 : Nat → Int32 := fillR (zI (0)) (fun _ => zI 0) 364
def M0 : Nat → Nat → Int32 := fun i =>
  if i = 10 ∨ i = 29 then upd (fillR (zI (0)) (fun _ => zI 0) 4) 2 (zI (1)) else if i = 26 ∨ i = 45 then fillR (zI (0)) (fun _ => zI 0) 4 else if i < 46 then (fun _ => zI 0)
  else if i < 66 then (if (i - 46) % 5 = 1 then fillR (zI (-1)) (fun _ => zI 0) 364 else if (i - 46) % 5 = 2 ∨ (i - 46) % 5 = 3 then fl0 else if (i - 46) % 5 = 4 then begR else fun _ => zI 0)
  else if (i - 66) % 6 ≤ 1 then (fun _ => zI 0) else begR
def pi9 (i : Nat) : Nat := if i < 5 then i else if i = 5 then 43 else if i = 6 then 64 else if i = 7 then 65 else if i < 46 then i - 3 else if i < 66 then i - 2 else i
theorem pi9_c {i : Nat} (h : i < 126) : pi9 i < 126 ∧ ((i < 5 ∧ pi9 i = i) ∨ (i = 5 ∧ pi9 i = 43) ∨ (i = 6 ∧ pi9 i = 64) ∨ (i = 7 ∧ pi9 i = 65) ∨ (8 ≤ i ∧ i < 46 ∧ pi9 i = i - 3) ∨ (46 ≤ i ∧ i < 66 ∧ pi9 i = i - 2) ∨ (66 ≤ i ∧ pi9 i = i)) := by
  unfold pi9
  by_cases h1 : i < 5
  · rw [if_pos h1]; omega
  · rw [if_neg h1]
    by_cases h2 : i = 5
    · rw [if_pos h2]; omega
    · rw [if_neg h2]
      by_cases h3 : i = 6
      · rw [if_pos h3]; omega
      · rw [if_neg h3]
        by_cases h4 : i = 7
        · rw [if_pos h4]; omega
        · rw [if_neg h4]
          by_cases h5 : i < 46
          · rw [if_pos h5]; omega
          · rw [if_neg h5]
            by_cases h6 : i < 66
            · rw [if_pos h6]; omega
            · rw [if_neg h6]; omega
theorem pi9_i {i j : Nat} (hi : i < 126) (hj : j < 126) (h : pi9 i = pi9 j) : i = j := by
  have h1 := (pi9_c hi).2
  have h2 := (pi9_c hj).2
  omega
theorem pi9_a {i k : Nat} (hi : i < 126) (h : (i < 5 ∧ k = i) ∨ (8 ≤ i ∧ i < 46 ∧ k = i - 3) ∨ (46 ≤ i ∧ i < 66 ∧ k = i - 2) ∨ (66 ≤ i ∧ k = i)) : pi9 i = k := by
  have h1 := (pi9_c hi).2
  omega
theorem gP_rf {g : GG} {q : Nat} {c : ClassId} {N : Nat} {h f : Nat → Option Nat} {H : Heap} (hP : gP g [(q, .inl (c, N, .inr (.inr (.inr (.inr h)))))] H) (e : ∀ j, j < N → h j = f j) : gP g [(q, .inl (c, N, .inr (.inr (.inr (.inr f)))))] H := by
  intro k2 q2 hk2
  match k2, hk2 with
  | 0, hk2 =>
    cases hk2
    show H[q]? = some (vp_cell c (N, .inr (.inr (.inr (.inr f)))))
    rw [← vp_rf e]; exact hP 0 _ rfl
  | k2 + 1, hk2 => simp at hk2
theorem gP_eq {g : GG} {q q1 : Nat} {e e1 : va_E} {H : Heap} (hP : gP g [(q, e)] H) (hq : q1 = q) (he : e1 = e) : gP g [(q1, e1)] H := by rw [hq, he]; exact hP
theorem mkR {g : GG} {a : Nat → Nat} {c : Nat → va_E} {ad P : Nat → Nat} {b b0 : Nat} {H : Heap} (hb : b = 8 ∨ b = 27) (h : ruC g a c b0) (had : ∀ k, k < 19 → ad (b + k) = a (b0 + k)) (hcell : ∀ k, k < 19 → gP g [(a (b0 + k), c (b0 + k))] H) : ∀ k, k < 19 → gP g [(ad (b + k), sh g ad P (b + k) (M0 (b + k)))] H := by
  obtain ⟨h0, ⟨f1, h1, g1⟩, h2, ⟨f3, h3, g3⟩, h4, ⟨f9, h9, g9⟩, h10, ⟨f13, h13, g13⟩, h14, h18⟩ := h
  have z : ∀ k, k < 18 → k ≠ 2 → k ≠ 18 → M0 (b + k) = fun _ => zI 0 := fun k h1 h2 h3 => by
    unfold M0
    rw [if_neg (by omega), if_neg (by omega), if_pos (by omega)]
  have cl : ∀ k, k < 19 → ∀ e, c (b0 + k) = e → gP g [(ad (b + k), e)] H := fun k hk e he => gP_eq (hcell k hk) (had k hk) he.symm
  have row : ∀ k N, (∀ f, sh g ad P (b + k) f = .inl (g.2 0, N, .inl f)) → k < 19 → ∀ f, c (b0 + k) = .inl (g.2 0, N, .inl f) → M0 (b + k) = f → gP g [(ad (b + k), sh g ad P (b + k) (M0 (b + k)))] H := fun k N hs hk f hf hm => by
    rw [hm, hs]; exact cl k hk _ hf
  intro k hk
  rcases (by omega : k = 0 ∨ k = 1 ∨ k = 2 ∨ k = 3 ∨ (4 ≤ k ∧ k < 9) ∨ k = 9 ∨ (10 ≤ k ∧ k < 13) ∨ k = 13 ∨ (14 ≤ k ∧ k < 18) ∨ k = 18) with rfl | rfl | rfl | rfl | ⟨q1, q2⟩ | rfl | ⟨q1, q2⟩ | rfl | ⟨q1, q2⟩ | rfl
  · rw [Nat.add_zero, sh_R0 hb]
    exact cl 0 (by omega) _ (h0.trans (by rw [had 1 (by omega), had 3 (by omega), had 9 (by omega), had 13 (by omega), had 18 (by omega)]))
  · rw [sh_Rr1 hb]
    exact gP_rf (cl 1 (by omega) _ h1) (fun j hj => (g1 j hj).trans (congrArg some (by dsimp only; rw [show b + 1 + (1 + j) = b + (2 + j) by omega, show b0 + 2 + j = b0 + (2 + j) by omega]; exact (had (2 + j) (by omega)).symm)))
  · refine row 2 4 (fun f => (sh_Rw1 (i := 0) hb (by omega))) (by omega) _ h2 ?_
    unfold M0; rw [if_pos (by omega)]
  · rw [sh_Rr3 hb]
    exact gP_rf (cl 3 (by omega) _ h3) (fun j hj => (g3 j hj).trans (congrArg some (by dsimp only; rw [show b + 1 + (3 + j) = b + (4 + j) by omega, show b0 + 4 + j = b0 + (4 + j) by omega]; exact (had (4 + j) (by omega)).symm)))
  · have hx := h4 (k - 4) (by omega)
    rw [show b0 + 4 + (k - 4) = b0 + k by omega] at hx
    refine row k 9 (fun f => ?_) hk _ hx (z k (by omega) (by omega) (by omega))
    have := sh_Rw3 (g := g) (ad := ad) (P := P) (b := b) (i := k - 4) (f := f) hb (by omega)
    rw [show b + 1 + (3 + (k - 4)) = b + k by omega] at this
    exact this
  · rw [sh_Rr9 hb]
    exact gP_rf (cl 9 (by omega) _ h9) (fun j hj => (g9 j hj).trans (congrArg some (by dsimp only; rw [show b + 1 + (9 + j) = b + (10 + j) by omega, show b0 + 10 + j = b0 + (10 + j) by omega]; exact (had (10 + j) (by omega)).symm)))
  · have hx := h10 (k - 10) (by omega)
    rw [show b0 + 10 + (k - 10) = b0 + k by omega] at hx
    refine row k 2 (fun f => ?_) hk _ hx (z k (by omega) (by omega) (by omega))
    have := sh_Rw9 (g := g) (ad := ad) (P := P) (b := b) (i := k - 10) (f := f) hb (by omega)
    rw [show b + 1 + (9 + (k - 10)) = b + k by omega] at this
    exact this
  · rw [sh_Rr13 hb]
    exact gP_rf (cl 13 (by omega) _ h13) (fun j hj => (g13 j hj).trans (congrArg some (by dsimp only; rw [show b + 1 + (13 + j) = b + (14 + j) by omega, show b0 + 14 + j = b0 + (14 + j) by omega]; exact (had (14 + j) (by omega)).symm)))
  · have hx := h14 (k - 14) (by omega)
    rw [show b0 + 14 + (k - 14) = b0 + k by omega] at hx
    refine row k 2 (fun f => ?_) hk _ hx (z k (by omega) (by omega) (by omega))
    have := sh_Rw13 (g := g) (ad := ad) (P := P) (b := b) (i := k - 14) (f := f) hb (by omega)
    rw [show b + 1 + (13 + (k - 14)) = b + k by omega] at this
    exact this
  · refine row 18 4 (fun f => sh_R18 hb) (by omega) _ h18 ?_
    unfold M0; rw [if_neg (by omega), if_pos (by omega)]
theorem M0_S {w k : Nat} (hw : w < 4) (hk : k < 5) : M0 (46 + 5 * w + k) = if k = 1 then fillR (zI (-1)) (fun _ => zI 0) 364 else if k = 2 ∨ k = 3 then fl0 else if k = 4 then begR else fun _ => zI 0 := by
  unfold M0
  rw [if_neg (by omega), if_neg (by omega), if_neg (by omega), if_pos (by omega), show (46 + 5 * w + k - 46) % 5 = k by omega]
theorem M0_T {j k : Nat} (hk : k < 6) : M0 (66 + 6 * j + k) = if k ≤ 1 then (fun _ => zI 0) else begR := by
  unfold M0
  rw [if_neg (by omega), if_neg (by omega), if_neg (by omega), if_neg (by omega), show (66 + 6 * j + k - 66) % 6 = k by omega]
theorem mkS {g : GG} {a : Nat → Nat} {c : Nat → va_E} {ad P : Nat → Nat} {w b0 : Nat} {H : Heap} (hw : w < 4) (h : shC g a c b0 (ad (P (46 + 5 * w)))) (had : ∀ k, k < 5 → ad (46 + 5 * w + k) = a (b0 + k)) (hcell : ∀ k, k < 5 → gP g [(a (b0 + k), c (b0 + k))] H) : ∀ k, k < 5 → gP g [(ad (46 + 5 * w + k), sh g ad P (46 + 5 * w + k) (M0 (46 + 5 * w + k)))] H := by
  obtain ⟨h0, h1, h2, h3, h4⟩ := h
  have cl : ∀ k, k < 5 → ∀ e, c (b0 + k) = e → gP g [(ad (46 + 5 * w + k), e)] H := fun k hk e he => gP_eq (hcell k hk) (had k hk) he.symm
  intro k hk
  rw [M0_S hw hk]
  rcases (by omega : k = 0 ∨ k = 1 ∨ k = 2 ∨ k = 3 ∨ k = 4) with rfl | rfl | rfl | rfl | rfl
  · rw [if_neg (by omega), if_neg (by omega), if_neg (by omega), Nat.add_zero, sh_S0 hw]
    exact cl 0 (by omega) _ (h0.trans (by rw [had 1 (by omega), had 2 (by omega), had 3 (by omega), had 4 (by omega)]))
  · rw [if_pos rfl, sh_S1 hw]; exact cl 1 (by omega) _ h1
  · rw [if_neg (by omega), if_pos (by omega), sh_S2 hw]; exact cl 2 (by omega) _ h2
  · rw [if_neg (by omega), if_pos (by omega), sh_S3 hw]; exact cl 3 (by omega) _ h3
  · rw [if_neg (by omega), if_neg (by omega), if_pos rfl, sh_S4 hw]; exact cl 4 (by omega) _ h4
theorem mkT {g : GG} {a : Nat → Nat} {c : Nat → va_E} {ad P : Nat → Nat} {j b0 : Nat} {H : Heap} (h : stC g a c b0) (had : ∀ k, k < 6 → ad (66 + 6 * j + k) = a (b0 + k)) (hcell : ∀ k, k < 6 → gP g [(a (b0 + k), c (b0 + k))] H) : ∀ k, k < 6 → gP g [(ad (66 + 6 * j + k), sh g ad P (66 + 6 * j + k) (M0 (66 + 6 * j + k)))] H := by
  obtain ⟨h0, ⟨f, h1, g1⟩, h2⟩ := h
  have cl : ∀ k, k < 6 → ∀ e, c (b0 + k) = e → gP g [(ad (66 + 6 * j + k), e)] H := fun k hk e he => gP_eq (hcell k hk) (had k hk) he.symm
  intro k hk
  rw [M0_T hk]
  rcases (by omega : k = 0 ∨ k = 1 ∨ 2 ≤ k) with rfl | rfl | q
  · rw [if_pos (by omega), Nat.add_zero, sh_T0]
    exact cl 0 (by omega) _ (h0.trans (by rw [had 1 (by omega)]))
  · rw [if_pos (by omega), sh_T1]
    exact gP_rf (cl 1 (by omega) _ h1) (fun i hi => (g1 i hi).trans (congrArg some (by rw [show b0 + 2 + i = b0 + (2 + i) by omega]; exact (had (2 + i) (by omega)).symm)))
  · have hx := h2 (k - 2) (by omega)
    rw [show b0 + 2 + (k - 2) = b0 + k by omega] at hx
    have := sh_T2 (g := g) (ad := ad) (P := P) (j := j) (i := k - 2) (f := begR) (by omega)
    rw [show 66 + 6 * j + (2 + (k - 2)) = 66 + 6 * j + k by omega] at this
    rw [if_neg (by omega), this]
    exact cl k hk _ hx
def hbN (g : GG) (a : Nat → Nat) (c : Nat → va_E) : Prop :=
  c 0 = .inr (8, [.ref (a 1), .ref (a (1 + 2)), .ref (a (1 + 42)), .ref (a (1 + 63)), .ref (a (1 + 4)), .ref (a (1 + 23)), .int (zI (0))]) ∧ c 1 = .inr (5, [.ref (a (1 + 1)), .int (zI (0))]) ∧ c (1 + 1) = .inl (g.2 1, 740, .inl (fun _ => zI 0)) ∧ c (1 + 2) = .inr (6, [.ref (a 1), .ref (a (1 + 3)), .int (zI (0)), .int (zI (0))]) ∧ c (1 + 3) = .inr (7, [.ref (a 1), .int (zI (0)), .int (zI (0)), .int (zI (0)), .int (zI (0))])
  ∧ ruC g a c (1 + 4) ∧ ruC g a c (1 + 23) ∧ (∃ h : Nat → Option Nat, c (1 + 42) = .inl (g.2 4, 4, .inr (.inr (.inr (.inr h)))) ∧ ∀ j, j < 4 → h j = some (a (1 + 43 + 5 * j))) ∧ (∀ w, w < 4 → shC g a c (1 + 43 + 5 * w) (a (1 + 4)))
  ∧ c (1 + 63) = .inr (1, [.ref (a (1 + 64)), .int (zI (0)), .int (zI (0))]) ∧ (∃ h : Nat → Option Nat, c (1 + 64) = .inl (g.2 5, 10, .inr (.inr (.inr (.inr h)))) ∧ ∀ j, j < 10 → h j = some (a (1 + 65 + 6 * j))) ∧ ∀ j, j < 10 → stC g a c (1 + 65 + 6 * j)
theorem M0_lo {i : Nat} (h : i < 8) : M0 i = fun _ => zI 0 := by unfold M0; rw [if_neg (by omega), if_neg (by omega), if_pos (by omega)]
theorem mk_cw {g : GG} {a : Nat → Nat} {c : Nat → va_E} {H : Heap} (h : hbN g a c) (hcell : ∀ k, k < 126 → gP g [(a k, c k)] H) : cw g (fun i => a (pi9 i)) P0 M0 H := by
  obtain ⟨h0, h1, h2, h3, h4, hr1, hr2, ⟨fs, hs, gs⟩, hsh, hh, ⟨ft, ht, gt⟩, hst⟩ := h
  have had : ∀ i k, i < 126 → (i < 5 ∧ k = i) ∨ (8 ≤ i ∧ i < 46 ∧ k = i - 3) ∨ (46 ≤ i ∧ i < 66 ∧ k = i - 2) ∨ (66 ≤ i ∧ k = i) → (fun i => a (pi9 i)) i = a k := fun i k h1 h2 => congrArg a (pi9_a h1 h2)
  have key : ∀ i, i < 126 → gP g [((fun i => a (pi9 i)) i, lc g (fun i => a (pi9 i)) P0 M0 i)] H := by
    intro i hi
    show gP g [((fun i => a (pi9 i)) i, sh g (fun i => a (pi9 i)) P0 i (M0 i))] H
    rcases (by omega : i = 0 ∨ i = 1 ∨ i = 2 ∨ i = 3 ∨ i = 4 ∨ i = 5 ∨ i = 6 ∨ i = 7 ∨ (8 ≤ i ∧ i < 27) ∨ (27 ≤ i ∧ i < 46) ∨ (46 ≤ i ∧ i < 66) ∨ 66 ≤ i) with rfl | rfl | rfl | rfl | rfl | rfl | rfl | rfl | ⟨q1, q2⟩ | ⟨q1, q2⟩ | ⟨q1, q2⟩ | q1
    · exact gP_eq (hcell 0 (by omega)) rfl (Eq.symm h0)
    · exact gP_eq (hcell 1 (by omega)) rfl (Eq.symm h1)
    · exact gP_eq (hcell 2 (by omega)) rfl (Eq.symm h2)
    · exact gP_eq (hcell 3 (by omega)) rfl (Eq.symm h3)
    · exact gP_eq (hcell 4 (by omega)) rfl (Eq.symm h4)
    · exact gP_rf (gP_eq (hcell 43 (by omega)) rfl (Eq.symm hs)) (fun j hj => (gs j hj).trans (congrArg some (by
        have := had (46 + 5 * j) (44 + 5 * j) (by omega) (by omega)
        rw [show 1 + 43 + 5 * j = 44 + 5 * j by omega]; exact this.symm)))
    · exact gP_eq (hcell 64 (by omega)) rfl (Eq.symm hh)
    · exact gP_rf (gP_eq (hcell 65 (by omega)) rfl (Eq.symm ht)) (fun j hj => (gt j hj).trans (congrArg some (by
        have := had (66 + 6 * j) (66 + 6 * j) (by omega) (by omega)
        rw [show 1 + 65 + 6 * j = 66 + 6 * j by omega]; exact this.symm)))
    · have := mkR (ad := fun i => a (pi9 i)) (P := P0) (b := 8) (b0 := 1 + 4) (Or.inl rfl) hr1 (fun k hk => had _ _ (by omega) (by omega)) (fun k hk => hcell _ (by omega)) (i - 8) (by omega)
      rw [show 8 + (i - 8) = i by omega] at this
      exact this
    · have := mkR (ad := fun i => a (pi9 i)) (P := P0) (b := 27) (b0 := 1 + 23) (Or.inr rfl) hr2 (fun k hk => had _ _ (by omega) (by omega)) (fun k hk => hcell _ (by omega)) (i - 27) (by omega)
      rw [show 27 + (i - 27) = i by omega] at this
      exact this
    · obtain ⟨w, k, hw, hk, rfl⟩ : ∃ w k, w < 4 ∧ k < 5 ∧ i = 46 + 5 * w + k := ⟨(i - 46) / 5, (i - 46) % 5, by omega, by omega, by omega⟩
      have e8 : a (pi9 (P0 (46 + 5 * w))) = a (1 + 4) := by
        have : P0 (46 + 5 * w) = 8 := by unfold P0; rw [if_neg (by omega)]
        rw [this]; rfl
      exact mkS (ad := fun i => a (pi9 i)) (P := P0) hw (b0 := 1 + 43 + 5 * w) (by rw [e8]; exact hsh w hw) (fun k hk => had _ _ (by omega) (by omega)) (fun k hk => hcell _ (by omega)) k hk
    · obtain ⟨j, k, hj, hk, rfl⟩ : ∃ j k, j < 10 ∧ k < 6 ∧ i = 66 + 6 * j + k := ⟨(i - 66) / 6, (i - 66) % 6, by omega, by omega, by omega⟩
      exact mkT (ad := fun i => a (pi9 i)) (P := P0) (b0 := 1 + 65 + 6 * j) (hst j hj) (fun k hk => had _ _ (by omega) (by omega)) (fun k hk => hcell _ (by omega)) k hk
  intro k q hk
  obtain ⟨h1, rfl⟩ := hbL_of hk
  exact key k h1 0 _ rfl
def N00 : Nat → Int32 := upd (fun _ => zI 0) 2 (zI (1))
theorem N00_z {j : Nat} (h : j ≠ 2) : N00 j = zI 0 := upd_ne _ h _
theorem INV_0 (sn : Nat → Int32) : INV P0 M0 N00 sn 0 := by
  have z4 := mn_z (N00_z (j := 4) (by omega))
  have z50 := mn_z (N00_z (j := 50) (by omega))
  have z57 := mn_z (N00_z (j := 57) (by omega))
  have p0 : P0 0 = 8 := rfl
  refine ⟨⟨Or.inl ⟨rfl, rfl⟩, fun w hw => ?_⟩, ⟨okN_z (upd_at _ _ _) (fun j _ h2 => N00_z h2), fun j hj => N00_z (by omega), fun w hw _ _ => N00_z (by omega), ⟨fun j hj => ?_, ?_, ?_, ?_, fun i hi => by omega, fun i hi => by omega, fun i hi => by omega⟩, fun w hw h => by omega, ?_, fun w hw d _ hd => ?_⟩, by omega, ?_, 0, by omega, ?_, trivial⟩
  · unfold P0; rw [if_neg (by omega), if_neg (by omega)]
  · rcases (by omega : j = 0 ∨ j = 1 ∨ j = 2 ∨ j = 3) with rfl | rfl | rfl | rfl <;> rfl
  · exact (show zI 0 = N00 4 from (N00_z (by omega)).symm)
  · exact (show zI 0 = N00 50 from (N00_z (by omega)).symm)
  · exact (show zI 0 = N00 57 from (N00_z (by omega)).symm)
  · rw [M0_lo (by omega), N00_z (by omega)]
  · rw [M0_S hw (by omega), if_neg (by omega), if_pos (by omega)]; exact fill_at hd
  · rw [M0_lo (by omega)]; rfl
  · rw [M0_lo (by omega)]; rfl
