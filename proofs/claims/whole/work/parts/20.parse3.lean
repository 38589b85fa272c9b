theorem kp_refl {sc : Nat → Int32} : kp sc sc := ⟨rfl, rfl, rfl, rfl⟩
theorem kp_trans {a b c : Nat → Int32} (h1 : kp a b) (h2 : kp b c) : kp a c := ⟨h2.1.trans h1.1, h2.2.1.trans h1.2.1, h2.2.2.1.trans h1.2.2.1, h2.2.2.2.trans h1.2.2.2⟩
theorem prQ_l {β : Nat → Nat} {n : Nat} {x : PR} {e : Nat × Nat} {r : Int32} {sc sc1 : Nat → Int32} {wd1 : Int64} {rd1 : Nat → Int32} (hx : x = .inl e) (h : r = zI 0) (h7 : sc1 7 = zI e.1) (h8 : sc1 8 = zI e.2) (hk : kp sc sc1) : prQ β n x r sc sc1 wd1 rd1 := by subst hx; exact ⟨h, h7, h8, hk⟩
theorem prQ_r {β : Nat → Nat} {n : Nat} {x : PR} {q : Nat × (Nat → Int32)} {r : Int32} {sc sc1 : Nat → Int32} {wd1 : Int64} {rd1 : Nat → Int32} (hx : x = .inr q) (h : r = zI 1) (hc : cur β n q.1 sc1 wd1) (hq : q.1 ≤ n) (hr : rd1 = q.2) (hk : kp sc sc1) (h7 : sc1 7 = sc 7) : prQ β n x r sc sc1 wd1 rd1 := by subst hx; exact ⟨h, hc, hq, hr, hk, h7⟩
theorem prQ_l' {β : Nat → Nat} {n : Nat} {x : PR} {e : Nat × Nat} {r : Int32} {sc sc1 : Nat → Int32} {wd1 : Int64} {rd1 : Nat → Int32} (hx : x = .inl e) (h : prQ β n x r sc sc1 wd1 rd1) : r = zI 0 ∧ sc1 7 = zI e.1 ∧ sc1 8 = zI e.2 ∧ kp sc sc1 := by subst hx; exact h
theorem prQ_r' {β : Nat → Nat} {n : Nat} {x : PR} {q : Nat × (Nat → Int32)} {r : Int32} {sc sc1 : Nat → Int32} {wd1 : Int64} {rd1 : Nat → Int32} (hx : x = .inr q) (h : prQ β n x r sc sc1 wd1 rd1) : r = zI 1 ∧ cur β n q.1 sc1 wd1 ∧ q.1 ≤ n ∧ rd1 = q.2 ∧ kp sc sc1 ∧ sc1 7 = sc 7 := by subst hx; exact h
theorem tel_1 {β : Nat → Nat} {n at0 lo hi p : Nat} {rd : Nat → Int32} (h : ¬ gSo β n p = 3) : tel β n at0 lo hi p rd = .inl (1, gFr β n p) := by unfold tel; rw [if_neg h]
theorem tel_2 {β : Nat → Nat} {n at0 lo hi p : Nat} {rd : Nat → Int32} (h : gSo β n p = 3) (h2 : ¬ (lo ≤ gV β n p ∧ gV β n p ≤ hi)) : tel β n at0 lo hi p rd = .inl (2, gFr β n p) := by unfold tel; rw [if_pos h, if_neg h2]
theorem tel_3 {β : Nat → Nat} {n at0 lo hi p : Nat} {rd : Nat → Int32} (h : gSo β n p = 3) (h2 : lo ≤ gV β n p ∧ gV β n p ≤ hi) : tel β n at0 lo hi p rd = .inr (gTo β n p, upd rd at0 (zI (gV β n p))) := by unfold tel; rw [if_pos h, if_pos h2]
theorem bnd_l {x : PR} {e : Nat × Nat} (h : x = .inl e) (f : Nat → (Nat → Int32) → PR) : bnd x f = .inl e := by subst h; rfl
theorem bnd_r {x : PR} {q : Nat × (Nat → Int32)} (h : x = .inr q) (f : Nat → (Nat → Int32) → PR) : bnd x f = f q.1 q.2 := by subst h; rfl
theorem tel_in {β : Nat → Nat} {n at0 lo hi p : Nat} {rd : Nat → Int32} {q : Nat × (Nat → Int32)} (hp : p ≤ n) (h : tel β n at0 lo hi p rd = .inr q) : gSo β n p = 3 ∧ lo ≤ gV β n p ∧ gV β n p ≤ hi ∧ q.1 = gTo β n p ∧ q.2 = upd rd at0 (zI (gV β n p)) ∧ p ≤ q.1 ∧ q.1 ≤ n := by
  unfold tel at h
  split at h
  · split at h
    · rename_i a b
      cases h
      exact ⟨a, b.1, b.2, rfl, rfl, (gto_le hp).2.1, (gto_le hp).1⟩
    · cases h
  · cases h
theorem gV_le {β : Nat → Nat} {n p : Nat} (hp : p ≤ n) (h : gSo β n p = 3) : gV β n p ≤ 9999 := by
  have := (gso3 hp h)
  unfold gV; omega
theorem gso_le (β : Nat → Nat) (n p : Nat) : gSo β n p ≤ 4 := by
  unfold gSo runS; (repeat' split) <;> omega
theorem gfr_le {β : Nat → Nat} {n p : Nat} (hp : p ≤ n) : gFr β n p ≤ n + 700 := by
  have hs1 : skipT β n p ≤ n := skp_le β n _ p hp
  unfold gFr; split <;> omega
theorem pr_cases (x : PR) : (∃ e, x = .inl e) ∨ ∃ q, x = .inr q := by
  cases x with
  | inl e => exact Or.inl ⟨e, rfl⟩
  | inr q => exact Or.inr ⟨q, rfl⟩
theorem wv_rng {tp : Nat → Int32} {n p : Nat} (hT : okT tp) (hn : n ≤ 740) (hp : p ≤ n) : -10000000000000 ≤ wvT (mn tp) (skipT (mn tp) n p) (gLen (mn tp) n p) ∧ wvT (mn tp) (skipT (mn tp) n p) (gLen (mn tp) n p) ≤ 10000000000000 := by
  have hs1 : skipT (mn tp) n p ≤ n := skp_le (mn tp) n _ p hp
  have hs2 : rendT (mn tp) n (skipT (mn tp) n p) ≤ n := rnp_le (mn tp) n _ _ hs1
  have h := wv_b (β := mn tp) (q := skipT (mn tp) n p) (gLen (mn tp) n p) (fun i hi => by
    have := (hT (skipT (mn tp) n p + i) (by unfold gLen at hi; omega)).le
    omega)
  exact ⟨h.1, h.2.1⟩
theorem bankW {β : Nat → Nat} {n p : Nat} (hp : p ≤ n) : (gSo β n p = 2 ∧ wvT β (skipT β n p) (gLen β n p) = 27 * hsh3 98 97 110 + 11) ↔ wIs4 β n p 98 97 110 107 := by
  constructor
  · intro h
    obtain ⟨h1, h2⟩ := gso2 hp h.1
    have := (w4E (a := 98) (b := 97) (c := 110) (d := 107) h2 h1 (by omega) (by omega) (by omega) (by omega)).mp (by rw [h.2]; unfold hsh3; omega)
    exact ⟨h.1, this⟩
  · intro h
    obtain ⟨h1, h2⟩ := gso2 hp h.1
    have := (w4E (a := 98) (b := 97) (c := 110) (d := 107) h2 h1 (by omega) (by omega) (by omega) (by omega)).mpr h.2
    exact ⟨h.1, by rw [this]; unfold hsh3; omega⟩
theorem sixW {β : Nat → Nat} {n p : Nat} (hp : p ≤ n) {a b c d x y : Nat} (ha : 97 ≤ a ∧ a ≤ 122) (hb : 97 ≤ b ∧ b ≤ 122) (hc : 97 ≤ c ∧ c ≤ 122) (hd : 97 ≤ d ∧ d ≤ 122) (hx : 97 ≤ x ∧ x ≤ 122) (hy : 97 ≤ y ∧ y ≤ 122) : (gSo β n p = 2 ∧ wvT β (skipT β n p) (gLen β n p) = 19683 * hsh3 a b c + hsh3 d x y) ↔ wIs6 β n p a b c d x y := by
  constructor
  · intro h
    obtain ⟨h1, h2⟩ := gso2 hp h.1
    exact ⟨h.1, (w6E h2 h1 ha hb hc hd hx hy).mp h.2⟩
  · intro h
    obtain ⟨h1, h2⟩ := gso2 hp h.1
    exact ⟨h.1, (w6E h2 h1 ha hb hc hd hx hy).mpr h.2⟩
theorem telN_fail {β : Nat → Nat} {n at0 p : Nat} {rd : Nat → Int32} {e : Nat × Nat} {k : Nat} (h : telN β n at0 k p rd = .inl e) : ∀ m, k ≤ m → telN β n at0 m p rd = .inl e
  | 0, hm => by obtain rfl : k = 0 := by omega
                exact h
  | m + 1, hm => by
    by_cases q : k = m + 1
    · subst q; exact h
    · rw [telN, bnd_l (telN_fail h m (by omega))]
theorem prQ_nar {β : Nat → Nat} {n : Nat} {x : PR} {r : Int32} {sc sc1 : Nat → Int32} {wd1 : Int64} {rd1 : Nat → Int32} (h : prQ β n x r sc sc1 wd1 rd1) : narrow .boolean (.int r) = .int r := by
  rcases pr_cases x with ⟨e, hx⟩ | ⟨q, hx⟩
  · rw [(prQ_l' hx h).1]; decide
  · rw [(prQ_r' hx h).1]; decide
