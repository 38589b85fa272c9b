abbrev acc0 : List Value := [.int (zI (0)), .int (zI (0)), .int (zI (0)), .int (zI (0)), .int (zI (0)), .int (zI (0)), .int (zI (0)), .int (zI (0)), .int (zI (365))]
def stC (g : GG) (a : Nat → Nat) (c : Nat → va_E) (b : Nat) : Prop := c b = .inr (4, [.int (zI (0)), .int (zI (0)), .int (zI (0)), .int (zI (0)), .int (zI (0)), .ref (a (b + 1))]) ∧ (∃ h : Nat → Option Nat, c (b + 1) = .inl (g.2 3, 4, .inr (.inr (.inr (.inr h)))) ∧ ∀ k, k < 4 → h k = some (a (b + 2 + k))) ∧ ∀ k, k < 4 → c (b + 2 + k) = .inr (0, acc0)
theorem stC_tr {g : GG} {a a1 : Nat → Nat} {c c1 : Nat → va_E} {b : Nat} (h : stC g a c b) (ha : ∀ k, k < 6 → a1 (b + k) = a (b + k)) (hc : ∀ k, k < 6 → c1 (b + k) = c (b + k)) : stC g a1 c1 b := by
  obtain ⟨h1, ⟨f, h2, h3⟩, h4⟩ := h
  have c0 : c1 b = c b := hc 0 (by omega)
  refine ⟨?_, ⟨f, ?_, fun k hk => ?_⟩, fun k hk => ?_⟩
  · rw [c0, h1, ha 1 (by omega)]
  · rw [hc 1 (by omega), h2]
  · rw [h3 k hk, Nat.add_assoc, ha (2 + k) (by omega)]
  · rw [Nat.add_assoc, hc (2 + k) (by omega), ← Nat.add_assoc]; exact h4 k hk
theorem stC_of {g : GG} {a : Nat → Nat} {c : Nat → va_E} {b : Nat} {f : Nat → Option Nat} (h1 : c b = .inr (4, [.int (zI (0)), .int (zI (0)), .int (zI (0)), .int (zI (0)), .int (zI (0)), .ref (a (b + 1))])) (h2 : c (b + 1) = .inl (g.2 3, 4, .inr (.inr (.inr (.inr f))))) (hf : ∀ k, k < 4 → f k = some (a (b + 2 + k))) (e0 : c (b + 2) = .inr (0, acc0)) (e1 : c (b + 3) = .inr (0, acc0)) (e2 : c (b + 4) = .inr (0, acc0)) (e3 : c (b + 5) = .inr (0, acc0)) : stC g a c b := by
  refine ⟨h1, ⟨f, h2, hf⟩, fun k hk => ?_⟩
  rcases (by omega : k = 0 ∨ k = 1 ∨ k = 2 ∨ k = 3) with rfl | rfl | rfl | rfl
  · exact e0
  · exact e1
  · exact e2
  · exact e3
theorem stA_s {a a1 : Nat → Nat} {h : Nat → Option Nat} {b i q : Nat} (hh : ∀ j, j < i → h j = some (a (b + 6 * j))) (ha : ∀ j, j < i → a1 (b + 6 * j) = a (b + 6 * j)) (hq : a1 (b + 6 * i) = q) : ∀ j, j < i + 1 → va_up h i (some q) j = some (a1 (b + 6 * j)) := by
  intro j hj
  by_cases z : j = i
  · subst z; rw [up_at, hq]
  · rw [up_ne _ _ z, hh j (by omega), ha j (by omega)]
def ruC (g : GG) (a : Nat → Nat) (c : Nat → va_E) (b : Nat) : Prop := c b = .inr (2, [.ref (a (b + 1)), .ref (a (b + 3)), .ref (a (b + 9)), .ref (a (b + 13)), .ref (a (b + 18))])
  ∧ (∃ h : Nat → Option Nat, c (b + 1) = .inl (g.2 6, 1, .inr (.inr (.inr (.inr h)))) ∧ ∀ k, k < 1 → h k = some (a (b + 2 + k))) ∧ c (b + 2) = .inl (g.2 0, 4, .inl (upd (fillR (zI (0)) (fun _ => zI 0) 4) 2 (zI (1))))
  ∧ (∃ h : Nat → Option Nat, c (b + 3) = .inl (g.2 6, 5, .inr (.inr (.inr (.inr h)))) ∧ ∀ k, k < 5 → h k = some (a (b + 4 + k))) ∧ (∀ k, k < 5 → c (b + 4 + k) = .inl (g.2 0, 9, .inl (fun _ => zI 0)))
  ∧ (∃ h : Nat → Option Nat, c (b + 9) = .inl (g.2 6, 3, .inr (.inr (.inr (.inr h)))) ∧ ∀ k, k < 3 → h k = some (a (b + 10 + k))) ∧ (∀ k, k < 3 → c (b + 10 + k) = .inl (g.2 0, 2, .inl (fun _ => zI 0)))
  ∧ (∃ h : Nat → Option Nat, c (b + 13) = .inl (g.2 6, 4, .inr (.inr (.inr (.inr h)))) ∧ ∀ k, k < 4 → h k = some (a (b + 14 + k))) ∧ (∀ k, k < 4 → c (b + 14 + k) = .inl (g.2 0, 2, .inl (fun _ => zI 0)))
  ∧ c (b + 18) = .inl (g.2 0, 4, .inl (fillR (zI (0)) (fun _ => zI 0) 4))
theorem ruC_tr {g : GG} {a a1 : Nat → Nat} {c c1 : Nat → va_E} {b : Nat} (h : ruC g a c b) (ha : ∀ k, k < 19 → a1 (b + k) = a (b + k)) (hc : ∀ k, k < 19 → c1 (b + k) = c (b + k)) : ruC g a1 c1 b := by
  obtain ⟨h0, ⟨f1, h1, g1⟩, h2, ⟨f3, h3, g3⟩, h4, ⟨f9, h9, g9⟩, h10, ⟨f13, h13, g13⟩, h14, h18⟩ := h
  have c0 : c1 b = c b := hc 0 (by omega)
  refine ⟨?_, ⟨f1, ?_, fun k hk => ?_⟩, ?_, ⟨f3, ?_, fun k hk => ?_⟩, fun k hk => ?_, ⟨f9, ?_, fun k hk => ?_⟩, fun k hk => ?_, ⟨f13, ?_, fun k hk => ?_⟩, fun k hk => ?_, ?_⟩
  · rw [c0, h0, ha 1 (by omega), ha 3 (by omega), ha 9 (by omega), ha 13 (by omega), ha 18 (by omega)]
  · rw [hc 1 (by omega), h1]
  · rw [g1 k hk, Nat.add_assoc, ha (2 + k) (by omega)]
  · rw [hc 2 (by omega), h2]
  · rw [hc 3 (by omega), h3]
  · rw [g3 k hk, Nat.add_assoc, ha (4 + k) (by omega)]
  · rw [Nat.add_assoc, hc (4 + k) (by omega), ← Nat.add_assoc]; exact h4 k hk
  · rw [hc 9 (by omega), h9]
  · rw [g9 k hk, Nat.add_assoc, ha (10 + k) (by omega)]
  · rw [Nat.add_assoc, hc (10 + k) (by omega), ← Nat.add_assoc]; exact h10 k hk
  · rw [hc 13 (by omega), h13]
  · rw [g13 k hk, Nat.add_assoc, ha (14 + k) (by omega)]
  · rw [Nat.add_assoc, hc (14 + k) (by omega), ← Nat.add_assoc]; exact h14 k hk
  · rw [hc 18 (by omega), h18]
def shC (g : GG) (a : Nat → Nat) (c : Nat → va_E) (b ru : Nat) : Prop := c b = .inr (3, [.ref (a (b + 1)), .ref (a (b + 2)), .ref (a (b + 3)), .ref (a (b + 4)), .int (zI 0), .int (zI 0), .ref ru]) ∧ c (b + 1) = .inl (g.2 0, 364, .inl (fillR (zI (-1)) (fun _ => zI 0) 364)) ∧ c (b + 2) = .inl (g.2 0, 364, .inl (fillR (zI (0)) (fun _ => zI 0) 364)) ∧ c (b + 3) = .inl (g.2 2, 364, .inl (fillR (zI (0)) (fun _ => zI 0) 364)) ∧ c (b + 4) = .inr (0, acc0)
theorem shC_tr {g : GG} {a a1 : Nat → Nat} {c c1 : Nat → va_E} {b ru : Nat} (h : shC g a c b ru) (ha : ∀ k, k < 5 → a1 (b + k) = a (b + k)) (hc : ∀ k, k < 5 → c1 (b + k) = c (b + k)) : shC g a1 c1 b ru := by
  obtain ⟨h0, h1, h2, h3, h4⟩ := h
  have c0 : c1 b = c b := hc 0 (by omega)
  refine ⟨?_, ?_, ?_, ?_, ?_⟩
  · rw [c0, h0, ha 1 (by omega), ha 2 (by omega), ha 3 (by omega), ha 4 (by omega)]
  · rw [hc 1 (by omega), h1]
  · rw [hc 2 (by omega), h2]
  · rw [hc 3 (by omega), h3]
  · rw [hc 4 (by omega), h4]
