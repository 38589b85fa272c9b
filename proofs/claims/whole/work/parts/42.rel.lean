def tkM (M : Nat → Nat → Int32) (j : Nat) (c : Nat) : Nat → Nat → Int32 := fun i =>
  if i = 6 then upd (upd (M 6) 0 (zI (j : Int))) 1 (zI ((c : Int) - 1))
  else if 46 ≤ i ∧ i < 66 then
    (if (i - 46) % 5 = 4 then M (66 + 6 * j + (2 + (i - 46) / 5))
     else if (i - 46) % 5 = 3 then (fun d : Nat => if d < 364 ∧ zI d = M (66 + 6 * j) 0 then zI 0 else M i d)
     else if (i - 46) % 5 = 0 then M i
     else fun d : Nat => if d < 364 ∧ zI d = M (66 + 6 * j) 2 ∧ zI (((i - 46) / 5 : Nat) : Int) = M (66 + 6 * j) 1 then M (66 + 6 * j) (2 + (i - 46) % 5) else M i d)
  else M i
theorem tk_6 (M : Nat → Nat → Int32) (j c : Nat) : tkM M j c 6 = upd (upd (M 6) 0 (zI (j : Int))) 1 (zI ((c : Int) - 1)) := rfl
theorem tk_out {M : Nat → Nat → Int32} {j c i : Nat} (h6 : i ≠ 6) (h : ¬ (46 ≤ i ∧ i < 66)) : tkM M j c i = M i := by unfold tkM; rw [if_neg h6, if_neg h]
theorem tk_acc {M : Nat → Nat → Int32} {j c w : Nat} (hw : w < 4) : tkM M j c (46 + 5 * w + 4) = M (66 + 6 * j + (2 + w)) := by
  unfold tkM; rw [if_neg (by omega), if_pos (by omega), if_pos (by omega), show (46 + 5 * w + 4 - 46) / 5 = w by omega]
theorem tk_fl {M : Nat → Nat → Int32} {j c w : Nat} (hw : w < 4) : tkM M j c (46 + 5 * w + 3) = (fun d : Nat => if d < 364 ∧ zI d = M (66 + 6 * j) 0 then zI 0 else M (46 + 5 * w + 3) d) := by
  unfold tkM; rw [if_neg (by omega), if_pos (by omega), if_neg (by omega), if_pos (by omega)]
theorem tk_ob {M : Nat → Nat → Int32} {j c w : Nat} (hw : w < 4) : tkM M j c (46 + 5 * w) = M (46 + 5 * w) := by
  unfold tkM; rw [if_neg (by omega), if_pos (by omega), if_neg (by omega), if_neg (by omega), if_pos (by omega)]
theorem tk_ct {M : Nat → Nat → Int32} {j c w k : Nat} (hw : w < 4) (hk : k = 1 ∨ k = 2) : tkM M j c (46 + 5 * w + k) = (fun d : Nat => if d < 364 ∧ zI d = M (66 + 6 * j) 2 ∧ zI (w : Int) = M (66 + 6 * j) 1 then M (66 + 6 * j) (2 + k) else M (46 + 5 * w + k) d) := by
  unfold tkM; rw [if_neg (by omega), if_pos (by omega), if_neg (by omega), if_neg (by omega), if_neg (by omega), show (46 + 5 * w + k - 46) / 5 = w by omega, show (46 + 5 * w + k - 46) % 5 = k by omega]
theorem zIn_eq {a b : Nat} (ha : a < 2147483648) (hb : b < 2147483648) : zI (a : Int) = zI (b : Int) ↔ a = b := by rw [zI_eq (by omega) (by omega)]; omega
theorem tk_fl1 {M : Nat → Nat → Int32} {j c w t : Nat} (hw : w < 4) (ht : t < 364) (h : M (66 + 6 * j) 0 = zI t) : tkM M j c (46 + 5 * w + 3) = upd (M (46 + 5 * w + 3)) t (zI 0) := by
  rw [tk_fl hw]; funext d; unfold upd
  by_cases q : d = t
  · subst q; rw [if_pos rfl, if_pos ⟨ht, h.symm⟩]
  · rw [if_neg q, if_neg (fun z => q ((zIn_eq (by omega) (by omega)).mp (z.2.trans h)))]
theorem tk_fl0 {M : Nat → Nat → Int32} {j c w : Nat} (hw : w < 4) (h : M (66 + 6 * j) 0 = zI ((364 : Nat) : Int)) : tkM M j c (46 + 5 * w + 3) = M (46 + 5 * w + 3) := by
  rw [tk_fl hw]; funext d
  rw [if_neg (fun z => by have := (zIn_eq (by omega) (by omega)).mp (z.2.trans h); omega)]
theorem tk_ct1 {M : Nat → Nat → Int32} {j c w k d : Nat} (hw : w < 4) (hk : k = 1 ∨ k = 2) (hd : d < 364) (h2 : M (66 + 6 * j) 2 = zI d) (h1 : M (66 + 6 * j) 1 = zI w) : tkM M j c (46 + 5 * w + k) = upd (M (46 + 5 * w + k)) d (M (66 + 6 * j) (2 + k)) := by
  rw [tk_ct hw hk]; funext i; unfold upd
  by_cases q : i = d
  · subst q; rw [if_pos rfl, if_pos ⟨hd, h2.symm, h1.symm⟩]
  · rw [if_neg q, if_neg (fun z => q ((zIn_eq (by omega) (by omega)).mp (z.2.1.trans h2)))]
theorem tk_ct0 {M : Nat → Nat → Int32} {j c w v k : Nat} (hw : w < 4) (hv : v < 4) (hk : k = 1 ∨ k = 2) (h1 : M (66 + 6 * j) 1 = zI w) (h : ¬ v = w) : tkM M j c (46 + 5 * v + k) = M (46 + 5 * v + k) := by
  rw [tk_ct hv hk]; funext i
  rw [if_neg (fun z => h ((zIn_eq (by omega) (by omega)).mp (z.2.2.trans h1)))]
theorem tk_ctn {M : Nat → Nat → Int32} {j c v k : Nat} (hv : v < 4) (hk : k = 1 ∨ k = 2) (h1 : M (66 + 6 * j) 1 = zI (-1)) : tkM M j c (46 + 5 * v + k) = M (46 + 5 * v + k) := by
  rw [tk_ct hv hk]; funext i
  rw [if_neg (fun z => by have := (zI_eq (by omega) (by omega)).mp (z.2.2.trans h1); omega)]
theorem tk_is {M A : Nat → Nat → Int32} {j c : Nat} (h6 : A 6 = tkM M j c 6) (hs : ∀ w, w < 4 → ∀ k, k < 5 → A (46 + 5 * w + k) = tkM M j c (46 + 5 * w + k)) (ho : ∀ i, i ≠ 6 → ¬ (46 ≤ i ∧ i < 66) → A i = M i) : A = tkM M j c := by
  funext i
  by_cases q : i = 6
  · subst q; exact h6
  · by_cases q2 : 46 ≤ i ∧ i < 66
    · have := hs ((i - 46) / 5) (by omega) ((i - 46) % 5) (by omega)
      rw [show 46 + 5 * ((i - 46) / 5) + (i - 46) % 5 = i by omega] at this
      exact this
    · rw [tk_out q q2]; exact ho i q q2
def begR (k : Nat) : Int32 := if k = 8 then zI 365 else zI 0
def fillR (v : Int32) (r : Nat → Int32) (i : Nat) : Nat → Int32 := fun j => if j < i then v else r j
theorem fillR_0 (v : Int32) (r : Nat → Int32) : fillR v r 0 = r := by funext j; unfold fillR; rw [if_neg (by omega)]
theorem fillR_s (v : Int32) (r : Nat → Int32) (i : Nat) : upd (fillR v r i) i v = fillR v r (i + 1) := by
  funext j; unfold upd fillR
  by_cases h : j = i
  · subst h; rw [if_pos rfl, if_pos (by omega)]
  · rw [if_neg h]
    by_cases h2 : j < i
    · rw [if_pos h2, if_pos (by omega)]
    · rw [if_neg h2, if_neg (by omega)]
