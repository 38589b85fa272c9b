theorem kp_refl {sc : Nat → Int32} : kp sc sc := ⟨rfl, rfl, rfl, rfl⟩
theorem kp_trans {a b c : Nat → Int32} (h1 : kp a b) (h2 : kp b c) : kp a c := ⟨h2.1.trans h1.1, h2.2.1.trans h1.2.1, h2.2.2.1.trans h1.2.2.1, h2.2.2.2.trans h1.2.2.2⟩
theorem prQ_l {β : Nat → Nat} {n : Nat} {x : PR} {e : Nat × Nat} {r : Int32} {sc sc1 : Nat → Int32} {wd1 : Int64} {rd1 : Nat → Int32} (hx : x = .inl e) (h : r = zI 0) (h7 : sc1 7 = zI e.1) (h8 : sc1 8 = zI e.2) (hk : kp sc sc1) : prQ β n x r sc sc1 wd1 rd1 := by subst hx; exact ⟨h, h7, h8, hk⟩
theorem prQ_r {β : Nat → Nat} {n : Nat} {x : PR} {q : Nat × (Nat → Int32)} {r : Int32} {sc sc1 : Nat → Int32} {wd1 : Int64} {rd1 : Nat → Int32} (hx : x = .inr q) (h : r = zI 1) (hc : cur β n q.1 sc1 wd1) (hq : q.1 ≤ n) (hr : rd1 = q.2) (hk : kp sc sc1) (h7 : sc1 7 = sc 7) : prQ β n x r sc sc1 wd1 rd1 := by subst hx; exact ⟨h, hc, hq, hr, hk, h7⟩
theorem prQ_l' {β : Nat → Nat} {n : Nat} {x : PR} {e : Nat × Nat} {r : Int32} {sc sc1 : Nat → Int32} {wd1 : Int64} {rd1 : Nat → Int32} (hx : x = .inl e) (h : prQ β n x r sc sc1 wd1 rd1) : r = zI 0 ∧ sc1 7 = zI e.1 ∧ sc1 8 = zI e.2 ∧ kp sc sc1 := by subst hx; exact h
theorem prQ_r' {β : Nat → Nat} {n : Nat} {x : PR} {q : Nat × (Nat → Int32)} {r : Int32} {sc sc1 : Nat → Int32} {wd1 : Int64} {rd1 : Nat → Int32} (hx : x = .inr q) (h : prQ β n x r sc sc1 wd1 rd1) : r = zI 1 ∧ cur β n q.1 sc1 wd1 ∧ q.1 ≤ n ∧ rd1 = q.2 ∧ kp sc sc1 ∧ sc1 7 = sc 7 := by subst hx; exact h
theorem tel_1 {β : Nat → Nat} {n at0 lo hi p : Nat} {rd : Nat → Int32} (h : ¬ gSo β n p = 3) : tel β n at0 lo hi p rd = .inl (1, gFr β n p) := by unfold tel; rw [if_neg h]
theorem tel_2 {β : Nat → Nat} {n at0 lo hi p : Nat} {rd : Nat → Int32} (h : gSo β n p = 3) (h2 : ¬ (lo ≤ gV β n p ∧ gV β n p ≤ hi)) : tel β n at0 lo hi p rd = .inl (2, gFr β n p) := by unfold tel; rw [if_pos h, if_neg h2]
theorem tel_3 {β : Nat → Nat} {n at0 lo hi p : Nat} {rd : Nat → Int32} (h : gSo β n p = 3) (h2 : lo ≤ gV β n p ∧ gV β n p ≤ hi) : tel β n at0 lo hi p rd = .inr (gTo β n p, upd rd at0 (zI (gV β n p))) := by unfold tel; rw [if_pos h, if_pos h2]
theorem bnd_l {x : PR} {e : Nat × Nat} (h : x = .inl e) (f : Nat → (Nat → Int32) → PR) : bnd x f = .inl e := by subst h; rfl
theorem bnd_r {x : PR} {q : Nat × (Nat → Int32)} (h : x = .inr q) (f : Nat → (Nat → Int32) → PR) : bnd x f = f q.1 q.2 := by subst h; rfl
theorem tel_in {β : Nat → Nat} {n at0 lo hi p : Nat} {rd : Nat → Int32} {q : Nat × (Nat → Int32)} (hp : p ≤ n) (h : tel β n at0 lo hi p rd = .inr q) : gSo β n p = 3 ∧ lo ≤ gV β n p ∧ gV β n p ≤ hi ∧ q.1 = gTo β n p ∧ q.2 = upd rd at0 (zI (gV β n p)) ∧ p ≤ q.1 ∧ q.1 ≤ n := by
  unfold tel at h
  split at h
  · split at h
    · rename_i a b
      cases h
      exact ⟨a, b.1, b.2, rfl, rfl, (gto_le hp).2.1, (gto_le hp).1⟩
    · cases h
  · cases h
theorem gV_le {β : Nat → Nat} {n p : Nat} (hp : p ≤ n) (h : gSo β n p = 3) : gV β n p ≤ 9999 := by
  have := (gso3 hp h)
  unfold gV; omega
theorem gso_le (β : Nat → Nat) (n p : Nat) : gSo β n p ≤ 4 := by
  unfold gSo runS; (repeat' split) <;> omega
theorem gfr_le {β : Nat → Nat} {n p : Nat} (hp : p ≤ n) : gFr β n p ≤ n + 700 := by
  have hs1 : skipT β n p ≤ n := skp_le β n _ p hp
  unfold gFr; split <;> omega
