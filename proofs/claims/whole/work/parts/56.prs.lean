def loC (so k x : Nat) : Nat := if so = 1 ∧ k = 1 then x else sL so k
abbrev isW (β : Nat → Nat) (ki nx pl i : Nat) : Prop := ki = 1 ∧ nx - pl = woL.getD i 0 ∧ wB β pl i (woL.getD i 0) = 1
def soL (β : Nat → Nat) (ki nx pl : Nat) : Int := if isW β ki nx pl 0 then 0 else if isW β ki nx pl 1 then 1 else if isW β ki nx pl 2 then 2 else if isW β ki nx pl 3 then 3 else -1
theorem soL_at0 {β : Nat → Nat} {ki nx pl : Nat} (h : isW β ki nx pl 0) : 0 = soL β ki nx pl := by unfold soL; rw [if_pos h]
theorem soL_at1 {β : Nat → Nat} {ki nx pl : Nat} (g0 : ¬ isW β ki nx pl 0) (h : isW β ki nx pl 1) : 1 = soL β ki nx pl := by unfold soL; rw [if_neg g0, if_pos h]
theorem soL_at2 {β : Nat → Nat} {ki nx pl : Nat} (g0 : ¬ isW β ki nx pl 0) (g1 : ¬ isW β ki nx pl 1) (h : isW β ki nx pl 2) : 2 = soL β ki nx pl := by unfold soL; rw [if_neg g0, if_neg g1, if_pos h]
theorem soL_at3 {β : Nat → Nat} {ki nx pl : Nat} (g0 : ¬ isW β ki nx pl 0) (g1 : ¬ isW β ki nx pl 1) (g2 : ¬ isW β ki nx pl 2) (h : isW β ki nx pl 3) : 3 = soL β ki nx pl := by unfold soL; rw [if_neg g0, if_neg g1, if_neg g2, if_pos h]
theorem soL_no {β : Nat → Nat} {ki nx pl : Nat} (g0 : ¬ isW β ki nx pl 0) (g1 : ¬ isW β ki nx pl 1) (g2 : ¬ isW β ki nx pl 2) (g3 : ¬ isW β ki nx pl 3) : -1 = soL β ki nx pl := by unfold soL; rw [if_neg g0, if_neg g1, if_neg g2, if_neg g3]
theorem soL_cases (β : Nat → Nat) (ki nx pl : Nat) : (soL β ki nx pl = -1 ∧ ¬ isW β ki nx pl 0 ∧ ¬ isW β ki nx pl 1 ∧ ¬ isW β ki nx pl 2 ∧ ¬ isW β ki nx pl 3) ∨ (soL β ki nx pl = 0 ∧ isW β ki nx pl 0) ∨ (soL β ki nx pl = 1 ∧ isW β ki nx pl 1 ∧ ¬ isW β ki nx pl 0) ∨ (soL β ki nx pl = 2 ∧ isW β ki nx pl 2 ∧ ¬ isW β ki nx pl 0 ∧ ¬ isW β ki nx pl 1) ∨ (soL β ki nx pl = 3 ∧ isW β ki nx pl 3 ∧ ¬ isW β ki nx pl 0 ∧ ¬ isW β ki nx pl 1 ∧ ¬ isW β ki nx pl 2) := by
  by_cases g0 : isW β ki nx pl 0
  · exact Or.inr (Or.inl ⟨(soL_at0 g0).symm, g0⟩)
  · by_cases g1 : isW β ki nx pl 1
    · exact Or.inr (Or.inr (Or.inl ⟨(soL_at1 g0 g1).symm, g1, g0⟩))
    · by_cases g2 : isW β ki nx pl 2
      · exact Or.inr (Or.inr (Or.inr (Or.inl ⟨(soL_at2 g0 g1 g2).symm, g2, g0, g1⟩)))
      · by_cases g3 : isW β ki nx pl 3
        · exact Or.inr (Or.inr (Or.inr (Or.inr ⟨(soL_at3 g0 g1 g2 g3).symm, g3, g0, g1, g2⟩)))
        · exact Or.inl ⟨(soL_no g0 g1 g2 g3).symm, g0, g1, g2, g3⟩
theorem wB_s {β : Nat → Nat} {s i k : Nat} : wB β s i (k + 1) = 1 ↔ wB β s i k = 1 ∧ β (s + k) = wch i k := by
  rw [wB]
  constructor
  · intro h
    split at h
    · assumption
    · omega
  · intro h; rw [if_pos h]
theorem wB_4 {β : Nat → Nat} {s i : Nat} : wB β s i 4 = 1 ↔ β s = wch i 0 ∧ β (s + 1) = wch i 1 ∧ β (s + 2) = wch i 2 ∧ β (s + 3) = wch i 3 := by
  rw [wB_s, wB_s, wB_s, wB_s]
  constructor
  · intro h; exact ⟨h.1.1.1.2, h.1.1.2, h.1.2, h.2⟩
  · intro h; exact ⟨⟨⟨⟨rfl, h.1⟩, h.2.1⟩, h.2.2.1⟩, h.2.2.2⟩
theorem wB_6 {β : Nat → Nat} {s i : Nat} : wB β s i 6 = 1 ↔ β s = wch i 0 ∧ β (s + 1) = wch i 1 ∧ β (s + 2) = wch i 2 ∧ β (s + 3) = wch i 3 ∧ β (s + 4) = wch i 4 ∧ β (s + 5) = wch i 5 := by
  rw [wB_s, wB_s, wB_4]
  constructor
  · intro h; exact ⟨h.1.1.1, h.1.1.2.1, h.1.1.2.2.1, h.1.1.2.2.2, h.1.2, h.2⟩
  · intro h; exact ⟨⟨⟨h.1, h.2.1, h.2.2.1, h.2.2.2.1⟩, h.2.2.2.2.1⟩, h.2.2.2.2.2⟩
theorem tok_at {β : Nat → Nat} {n p : Nat} (hp : p ≤ n) (h : cKi β n p = 1) : cPl β n p = skipT β n p ∧ cNx β n p - cPl β n p = gLen β n p ∧ gSo β n p = 2 := by
  have h2 := (tok_w hp).mp h
  obtain ⟨a1, a2, a3, a4, a5, a6⟩ := gso_cases hp (Or.inl h2)
  have e1 := tok_pl (β := β) hp
  have e2 := (tok_nx (β := β) hp (by omega)).1
  refine ⟨by rw [e1, a6], ?_, h2⟩
  rw [e2, e1, a5, a6]; rfl
theorem isW_4 {β : Nat → Nat} {n p : Nat} (hp : p ≤ n) : isW β (cKi β n p) (cNx β n p) (cPl β n p) 0 ↔ wIs4 β n p 98 97 110 107 := by
  constructor
  · intro h
    obtain ⟨a, b, c⟩ := tok_at hp h.1
    have h2 := h.2.1
    have h3 := wB_4.mp h.2.2
    rw [b] at h2
    rw [a] at h3
    exact ⟨c, h2, h3⟩
  · intro h
    have hk := (tok_w hp).mpr h.1
    obtain ⟨a, b, c⟩ := tok_at hp hk
    refine ⟨hk, by rw [b]; exact h.2.1, wB_4.mpr ?_⟩
    rw [a]; exact h.2.2
theorem isW_6 {β : Nat → Nat} {n p i a b c d x y : Nat} (hp : p ≤ n) (hL : woL.getD i 0 = 6) (h0 : wch i 0 = a) (h1 : wch i 1 = b) (h2 : wch i 2 = c) (h3 : wch i 3 = d) (h4 : wch i 4 = x) (h5 : wch i 5 = y) : isW β (cKi β n p) (cNx β n p) (cPl β n p) i ↔ wIs6 β n p a b c d x y := by
  subst h0 h1 h2 h3 h4 h5
  constructor
  · intro h
    obtain ⟨a, b, c⟩ := tok_at hp h.1
    have h2 := h.2.1
    have h3 := h.2.2
    rw [hL] at h2 h3
    have h3 := wB_6.mp h3
    rw [b] at h2
    rw [a] at h3
    exact ⟨c, h2, h3⟩
  · intro h
    have hk := (tok_w hp).mpr h.1
    obtain ⟨a, b, c⟩ := tok_at hp hk
    refine ⟨hk, by rw [b, hL]; exact h.2.1, ?_⟩
    rw [hL]
    refine wB_6.mpr ?_
    rw [a]; exact h.2.2
theorem isW_1 {β : Nat → Nat} {n p : Nat} (hp : p ≤ n) : isW β (cKi β n p) (cNx β n p) (cPl β n p) 1 ↔ wIs6 β n p 115 101 97 115 111 110 := isW_6 hp rfl (by decide) (by decide) (by decide) (by decide) (by decide) (by decide)
theorem isW_2 {β : Nat → Nat} {n p : Nat} (hp : p ≤ n) : isW β (cKi β n p) (cNx β n p) (cPl β n p) 2 ↔ wIs6 β n p 110 111 116 105 99 101 := isW_6 hp rfl (by decide) (by decide) (by decide) (by decide) (by decide) (by decide)
theorem isW_3 {β : Nat → Nat} {n p : Nat} (hp : p ≤ n) : isW β (cKi β n p) (cNx β n p) (cPl β n p) 3 ↔ wIs6 β n p 119 111 114 107 101 114 := isW_6 hp rfl (by decide) (by decide) (by decide) (by decide) (by decide) (by decide)
def numP (β : Nat → Nat) (n so at0 : Nat) : Nat → Nat → (Nat → Int32) → PR
  | 0, p, rd => .inr (p, rd)
  | k + 1, p, rd => bnd (numP β n so at0 k p rd) fun p1 r1 => tel β n (at0 + k) (loC so k (mn r1 at0)) (sL (4 + so) k) p1 r1
theorem bnd_a (x : PR) (f h : Nat → (Nat → Int32) → PR) : bnd (bnd x f) h = bnd x (fun p r => bnd (f p r) h) := by
  rcases pr_cases x with ⟨e, hx⟩ | ⟨q, hx⟩
  · rw [bnd_l hx, bnd_l hx]; rfl
  · rw [bnd_r hx, bnd_r hx]
theorem numP_fail {β : Nat → Nat} {n so at0 p : Nat} {rd : Nat → Int32} {e : Nat × Nat} {k : Nat} (h : numP β n so at0 k p rd = .inl e) : ∀ m, k ≤ m → numP β n so at0 m p rd = .inl e
  | 0, hm => by obtain rfl : k = 0 := by omega
                exact h
  | m + 1, hm => by
    by_cases q : k = m + 1
    · subst q; exact h
    · rw [numP, bnd_l (numP_fail h m (by omega))]
theorem numP_in {β : Nat → Nat} {n so at0 p : Nat} {rd : Nat → Int32} (hp : p ≤ n) : ∀ k q, numP β n so at0 k p rd = .inr q → p ≤ q.1 ∧ q.1 ≤ n ∧ (∀ j, ¬ (at0 ≤ j ∧ j < at0 + k) → q.2 j = rd j) ∧ ∀ j, j < k → isN q.2 (at0 + j) 9999
  | 0, q, h => by cases h; exact ⟨Nat.le_refl _, hp, fun _ _ => rfl, fun j hj => absurd hj (Nat.not_lt_zero _)⟩
  | k + 1, q, h => by
    rw [numP] at h
    obtain ⟨q1, x1, h⟩ := bnd_in h
    obtain ⟨a1, a2, a3, a4⟩ := numP_in hp k q1 x1
    have t := tel_in a2 h
    have hv := gV_le a2 t.1
    refine ⟨by omega, t.2.2.2.2.2.2, fun j hj => ?_, fun j hj => ?_⟩
    · rw [t.2.2.2.2.1, upd_ne _ (by omega)]; exact a3 j (by omega)
    · rw [t.2.2.2.2.1]
      by_cases z : j = k
      · subst z; exact isN_at hv (by omega)
      · exact isN_ne _ (by omega) (a4 j (by omega))
theorem sL_s2 : ∀ k, k < 7 → sL 1 (2 + k) = 0 ∧ sL 5 (2 + k) = 96 := by decide +kernel
theorem numP_sea {β : Nat → Nat} {n at0 p : Nat} {rd : Nat → Int32} : ∀ k, k ≤ 7 → numP β n 1 at0 (2 + k) p rd = bnd (numP β n 1 at0 2 p rd) (fun p2 r2 => telN β n at0 k p2 r2)
  | 0, _ => by
    rcases pr_cases (numP β n 1 at0 2 p rd) with ⟨e, hx⟩ | ⟨q, hx⟩
    · rw [bnd_l hx]; exact hx
    · rw [bnd_r hx]; exact hx
  | k + 1, hk => by
    rw [show 2 + (k + 1) = (2 + k) + 1 by omega, numP, numP_sea k (by omega), bnd_a]
    have e1 := sL_s2 k (by omega)
    have hl : ∀ x, loC 1 (2 + k) x = 0 := fun x => by unfold loC; rw [if_neg (by omega)]; exact e1.1
    have hu : sL (4 + 1) (2 + k) = 96 := e1.2
    congr 1
    funext p2 r2
    rw [telN]
    congr 1
    funext p1 r1
    rw [hl, hu]
theorem num2 {β : Nat → Nat} {n so at0 p : Nat} {rd : Nat → Int32} : numP β n so at0 2 p rd = bnd (tel β n at0 (loC so 0 (mn rd at0)) (sL (4 + so) 0) p rd) (fun p1 r1 => tel β n (at0 + 1) (loC so 1 (mn r1 at0)) (sL (4 + so) 1) p1 r1) := rfl
theorem num4 {β : Nat → Nat} {n so at0 p : Nat} {rd : Nat → Int32} : numP β n so at0 4 p rd = bnd (bnd (numP β n so at0 2 p rd) (fun p1 r1 => tel β n (at0 + 2) (loC so 2 (mn r1 at0)) (sL (4 + so) 2) p1 r1)) (fun p1 r1 => tel β n (at0 + 3) (loC so 3 (mn r1 at0)) (sL (4 + so) 3) p1 r1) := rfl
theorem loC_n {so k : Nat} (h : ¬ (so = 1 ∧ k = 1)) (x : Nat) : loC so k x = sL so k := by unfold loC; rw [if_neg h]
theorem bankP_num {β : Nat → Nat} {n p : Nat} {rd : Nat → Int32} (h : wIs4 β n p 98 97 110 107) : bankP β n p rd = numP β n 0 0 4 (gTo β n p) rd := by
  have u0 : sL (4 + 0) 0 = 9999 := by decide +kernel
  have u1 : sL (4 + 0) 1 = 9999 := by decide +kernel
  have u2 : sL (4 + 0) 2 = 60 := by decide +kernel
  have u3 : sL (4 + 0) 3 = 9999 := by decide +kernel
  have l0 : ∀ x, loC 0 0 x = 0 := fun x => (loC_n (by omega) x).trans (by decide +kernel)
  have l1 : ∀ x, loC 0 1 x = 0 := fun x => (loC_n (by omega) x).trans (by decide +kernel)
  have l2 : ∀ x, loC 0 2 x = 1 := fun x => (loC_n (by omega) x).trans (by decide +kernel)
  have l3 : ∀ x, loC 0 3 x = 0 := fun x => (loC_n (by omega) x).trans (by decide +kernel)
  unfold bankP
  rw [if_pos h, num4, num2, bnd_a, bnd_a]
  simp only [u0, u1, u2, u3, l0, l1, l2, l3, Nat.zero_add]
theorem seasP_num {β : Nat → Nat} {n p : Nat} {rd : Nat → Int32} (h : ¬ mn rd 4 = 5) : seasP β n p rd = bnd (numP β n 1 (5 + 9 * mn rd 4) 9 (gTo β n p) rd) (fun p3 r3 => .inr (p3, upd r3 4 (zI ((mn rd 4 + 1 : Nat))))) := by
  have u0 : sL (4 + 1) 0 = 363 := by decide +kernel
  have u1 : sL (4 + 1) 1 = 363 := by decide +kernel
  have l0 : ∀ x, loC 1 0 x = 0 := fun x => (loC_n (by omega) x).trans (by decide +kernel)
  have l1 : ∀ x, loC 1 1 x = x := fun x => by unfold loC; rw [if_pos ⟨rfl, rfl⟩]
  have e9 : numP β n 1 (5 + 9 * mn rd 4) 9 (gTo β n p) rd = bnd (numP β n 1 (5 + 9 * mn rd 4) 2 (gTo β n p) rd) (fun p2 r2 => telN β n (5 + 9 * mn rd 4) 7 p2 r2) := numP_sea 7 (by omega)
  unfold seasP
  rw [if_neg h, e9, num2, bnd_a, bnd_a]
  simp only [u0, u1, l0, l1]
theorem notP_num {β : Nat → Nat} {n p : Nat} {rd : Nat → Int32} (h : ¬ mn rd 50 = 3) : notP β n p rd = bnd (numP β n 2 (51 + 2 * mn rd 50) 2 (gTo β n p) rd) (fun p3 r3 => .inr (p3, upd r3 50 (zI ((mn rd 50 + 1 : Nat))))) := by
  have u0 : sL (4 + 2) 0 = 60 := by decide +kernel
  have u1 : sL (4 + 2) 1 = 300 := by decide +kernel
  have l0 : ∀ x, loC 2 0 x = 1 := fun x => (loC_n (by omega) x).trans (by decide +kernel)
  have l1 : ∀ x, loC 2 1 x = 0 := fun x => (loC_n (by omega) x).trans (by decide +kernel)
  unfold notP
  rw [if_neg h, num2, bnd_a]
  simp only [u0, u1, l0, l1]
theorem workP_num {β : Nat → Nat} {n p : Nat} {rd : Nat → Int32} (h : ¬ mn rd 57 = 4) : workP β n p rd = bnd (numP β n 3 (58 + 13 * mn rd 57) 2 (gTo β n p) rd) (fun p3 r3 => .inr (p3, upd r3 57 (zI ((mn rd 57 + 1 : Nat))))) := by
  have u0 : sL (4 + 3) 0 = 999 := by decide +kernel
  have u1 : sL (4 + 3) 1 = 9999 := by decide +kernel
  have l0 : ∀ x, loC 3 0 x = 1 := fun x => (loC_n (by omega) x).trans (by decide +kernel)
  have l1 : ∀ x, loC 3 1 x = 0 := fun x => (loC_n (by omega) x).trans (by decide +kernel)
  unfold workP
  rw [if_neg h, num2, bnd_a]
  simp only [u0, u1, l0, l1]
theorem line_no {β : Nat → Nat} {n p : Nat} {F : Prop} [Decidable F] {rd : Nat → Int32} (hp : p ≤ n) (g0 : ¬ isW β (cKi β n p) (cNx β n p) (cPl β n p) 0) (g1 : ¬ isW β (cKi β n p) (cNx β n p) (cPl β n p) 1) (g2 : ¬ isW β (cKi β n p) (cNx β n p) (cPl β n p) 2) (g3 : ¬ isW β (cKi β n p) (cNx β n p) (cPl β n p) 3) : lineP β n F p rd = .inl (1, gFr β n p) := by
  unfold lineP bankP
  rw [if_neg (fun z => g0 ((isW_4 hp).mpr z)), if_neg (fun z => g1 ((isW_1 hp).mpr z)), if_neg (fun z => g2 ((isW_2 hp).mpr z)), if_neg (fun z => g3 ((isW_3 hp).mpr z))]
  split <;> rfl
theorem line_bank {β : Nat → Nat} {n p : Nat} {F : Prop} [Decidable F] {rd : Nat → Int32} (hp : p ≤ n) (hF : F) (g0 : isW β (cKi β n p) (cNx β n p) (cPl β n p) 0) : lineP β n F p rd = numP β n 0 0 4 (gTo β n p) rd := by
  unfold lineP
  rw [if_pos hF, bankP_num ((isW_4 hp).mp g0)]
theorem line_bank0 {β : Nat → Nat} {n p : Nat} {F : Prop} [Decidable F] {rd : Nat → Int32} (hp : p ≤ n) (hF : ¬ F) (g0 : isW β (cKi β n p) (cNx β n p) (cPl β n p) 0) : lineP β n F p rd = .inl (1, gFr β n p) := by
  have h4 := ((isW_4 hp).mp g0).2.1
  unfold lineP
  rw [if_neg hF, if_neg (fun z => by have := z.2.1; omega), if_neg (fun z => by have := z.2.1; omega), if_neg (fun z => by have := z.2.1; omega)]
theorem line_first {β : Nat → Nat} {n p : Nat} {F : Prop} [Decidable F] {rd : Nat → Int32} (hp : p ≤ n) (hF : F) (g0 : ¬ isW β (cKi β n p) (cNx β n p) (cPl β n p) 0) : lineP β n F p rd = .inl (1, gFr β n p) := by
  unfold lineP bankP
  rw [if_pos hF, if_neg (fun z => g0 ((isW_4 hp).mpr z))]
theorem line_sea {β : Nat → Nat} {n p : Nat} {F : Prop} [Decidable F] {rd : Nat → Int32} (hp : p ≤ n) (hF : ¬ F) (g1 : isW β (cKi β n p) (cNx β n p) (cPl β n p) 1) : lineP β n F p rd = seasP β n p rd := by
  unfold lineP
  rw [if_neg hF, if_pos ((isW_1 hp).mp g1)]
theorem line_not {β : Nat → Nat} {n p : Nat} {F : Prop} [Decidable F] {rd : Nat → Int32} (hp : p ≤ n) (hF : ¬ F) (g1 : ¬ isW β (cKi β n p) (cNx β n p) (cPl β n p) 1) (g2 : isW β (cKi β n p) (cNx β n p) (cPl β n p) 2) : lineP β n F p rd = notP β n p rd := by
  unfold lineP
  rw [if_neg hF, if_neg (fun z => g1 ((isW_1 hp).mpr z)), if_pos ((isW_2 hp).mp g2)]
theorem line_wrk {β : Nat → Nat} {n p : Nat} {F : Prop} [Decidable F] {rd : Nat → Int32} (hp : p ≤ n) (hF : ¬ F) (g1 : ¬ isW β (cKi β n p) (cNx β n p) (cPl β n p) 1) (g2 : ¬ isW β (cKi β n p) (cNx β n p) (cPl β n p) 2) (g3 : isW β (cKi β n p) (cNx β n p) (cPl β n p) 3) : lineP β n F p rd = workP β n p rd := by
  unfold lineP
  rw [if_neg hF, if_neg (fun z => g1 ((isW_1 hp).mpr z)), if_neg (fun z => g2 ((isW_2 hp).mpr z)), if_pos ((isW_3 hp).mp g3)]
theorem line_1 {β : Nat → Nat} {n p : Nat} {F : Prop} [Decidable F] {rd : Nat → Int32} (h : ¬ gSo β n p = 2) : lineP β n F p rd = .inl (1, gFr β n p) := by
  unfold lineP bankP
  by_cases hF : F
  · rw [if_pos hF, if_neg (fun z => h z.1)]
  · rw [if_neg hF, if_neg (fun z => h z.1), if_neg (fun z => h z.1), if_neg (fun z => h z.1)]
theorem gfr_7 {β : Nat → Nat} {n p : Nat} (hp : p ≤ n) (hn : n ≤ 740) : gFr β n p ≤ 740 := by
  have hs1 : skipT β n p ≤ n := skp_le β n _ p hp
  unfold gFr; split <;> omega
theorem cnx_le {β : Nat → Nat} {n p : Nat} (hp : p ≤ n) (h : ¬ cKi β n p = 0) : cNx β n p ≤ n ∧ cPl β n p ≤ cNx β n p := by
  refine ⟨by rw [(tok_nx hp h).1]; exact (gto_le hp).1, ?_⟩
  have h1 : cPl β n p ≤ cSk β n p := by unfold cPl; omega
  refine Nat.le_trans h1 ?_
  unfold cNx
  split
  · omega
  · split
    · exact rnp_ge β n _ _
    · omega
def ftQ (n : Nat) (u : Nat → Nat → Int32) (X : PR) : Prop := (∀ e, X = .inl e → u 3 0 = zI e.1 ∧ u 3 1 = zI e.2 ∧ 1 ≤ e.1 ∧ e.1 ≤ 3 ∧ e.2 ≤ 740) ∧ (∀ q, X = .inr q → u 3 0 = zI 0 ∧ u 4 0 = zI q.1 ∧ q.1 ≤ n)
theorem ft_l {n : Nat} {u : Nat → Nat → Int32} {X : PR} {a b : Nat} (hX : X = .inl (a, b)) (h0 : u 3 0 = zI a) (h1 : u 3 1 = zI b) (ha : 1 ≤ a ∧ a ≤ 3) (hb : b ≤ 740) : ftQ n u X := by
  subst hX
  exact ⟨fun e h => (by cases h; exact ⟨h0, h1, ha.1, ha.2, hb⟩), fun q h => by cases h⟩
theorem ft_r {n : Nat} {u : Nat → Nat → Int32} {X : PR} {t : Nat} {r : Nat → Int32} (hX : X = .inr (t, r)) (h0 : u 3 0 = zI 0) (h1 : u 4 0 = zI t) (ht : t ≤ n) : ftQ n u X := by
  subst hX
  exact ⟨fun e h => (by cases h), fun q h => by cases h; exact ⟨h0, h1, ht⟩⟩
def rnQ (n : Nat) (M u : Nat → Nat → Int32) (R at0 k : Nat) (X : PR) : Prop := (∀ j, j ≠ 3 → j ≠ 4 → j ≠ R → u j = M j) ∧ ftQ n u X ∧ ∀ q, X = .inr q → ∀ j, j < k → u R j = q.2 (at0 + j)
theorem rn_0 {β : Nat → Nat} {n so R at0 ps : Nat} {M : Nat → Nat → Int32} {rd : Nat → Int32} (h3 : M 3 0 = zI 0) (h4 : M 4 0 = zI ps) (hps : ps ≤ n) : rnQ n M M R at0 0 (numP β n so at0 0 ps rd) :=
  ⟨fun _ _ _ _ => rfl, ft_r rfl h3 h4 hps, fun _ _ j hj => absurd hj (Nat.not_lt_zero _)⟩
theorem rn_l {β : Nat → Nat} {n so R at0 ps i k : Nat} {M A : Nat → Nat → Int32} {rd : Nat → Int32} {e : Nat × Nat} (hE : rnQ n M A R at0 i (numP β n so at0 i ps rd)) (hx : numP β n so at0 i ps rd = .inl e) (hi : i ≤ k) : rnQ n M A R at0 k (numP β n so at0 k ps rd) := by
  have h2 := hE.2.1
  rw [hx] at h2
  rw [numP_fail hx k hi]
  exact ⟨hE.1, h2, fun q h => by cases h⟩
theorem num_1 {β : Nat → Nat} {n so at0 ps i : Nat} {rd : Nat → Int32} {q : Nat × (Nat → Int32)} (hx : numP β n so at0 i ps rd = .inr q) : numP β n so at0 (i + 1) ps rd = tel β n (at0 + i) (loC so i (mn q.2 at0)) (sL (4 + so) i) q.1 q.2 := by
  rw [numP, bnd_r hx]
theorem rn_f {β : Nat → Nat} {n so R at0 ps i a b : Nat} {M A A1 : Nat → Nat → Int32} {rd : Nat → Int32} (hE : rnQ n M A R at0 i (numP β n so at0 i ps rd)) (hx : numP β n so at0 (i + 1) ps rd = .inl (a, b)) (ha : 1 ≤ a ∧ a ≤ 3) (hb : b ≤ 740) (h0 : A1 3 0 = zI a) (h1 : A1 3 1 = zI b) (ho : ∀ j, j ≠ 3 → j ≠ 4 → A1 j = A j) : rnQ n M A1 R at0 (i + 1) (numP β n so at0 (i + 1) ps rd) :=
  ⟨fun j q1 q2 q3 => (ho j q1 q2).trans (hE.1 j q1 q2 q3), ft_l hx h0 h1 ha hb, fun q h => by rw [hx] at h; cases h⟩
theorem rn_s {β : Nat → Nat} {n so R at0 ps i t v : Nat} {M A A1 : Nat → Nat → Int32} {rd : Nat → Int32} {q : Nat × (Nat → Int32)} (hE : rnQ n M A R at0 i (numP β n so at0 i ps rd)) (hq : numP β n so at0 i ps rd = .inr q) (hx : numP β n so at0 (i + 1) ps rd = .inr (t, upd q.2 (at0 + i) (zI v))) (ht : t ≤ n) (hR3 : R ≠ 3 ∧ R ≠ 4) (h0 : A1 3 0 = A 3 0) (h1 : A1 4 0 = zI t) (hr : A1 R = upd (A R) i (zI v)) (ho : ∀ j, j ≠ 3 → j ≠ 4 → j ≠ R → A1 j = A j) : rnQ n M A1 R at0 (i + 1) (numP β n so at0 (i + 1) ps rd) := by
  refine ⟨fun j q1 q2 q3 => (ho j q1 q2 q3).trans (hE.1 j q1 q2 q3), ft_r hx (h0.trans (hE.2.1.2 q hq).1) h1 ht, fun q2 h j hj => ?_⟩
  rw [hx] at h
  cases h
  rw [hr]
  show upd (A R) i (zI v) j = upd q.2 (at0 + i) (zI v) (at0 + j)
  by_cases z : j = i
  · subst z; rw [upd_at, upd_at]
  · rw [upd_ne _ z, upd_ne _ (by omega)]
    exact hE.2.2 q hq j (by omega)
theorem rn_x {β : Nat → Nat} {n so R at0 ps i : Nat} {M A : Nat → Nat → Int32} {rd : Nat → Int32} {q : Nat × (Nat → Int32)} (hps : ps ≤ n) (hE : rnQ n M A R at0 i (numP β n so at0 i ps rd)) (hq : numP β n so at0 i ps rd = .inr q) : ∃ x : Nat, x ≤ 9999 ∧ loC so i x = loC so i (mn q.2 at0) ∧ (i = 1 → A R 0 = zI x) := by
  by_cases z : i = 1
  · have h := (numP_in hps i q hq).2.2.2 0 (by omega)
    rw [Nat.add_zero] at h
    refine ⟨mn q.2 at0, h.le, rfl, fun _ => ?_⟩
    have h2 := hE.2.2 q hq 0 (by omega)
    rw [Nat.add_zero] at h2
    exact h2.trans h.eq
  · refine ⟨0, by omega, ?_, fun y => absurd y z⟩
    rw [loC_n (fun y => z y.2), loC_n (fun y => z y.2)]
theorem tokR_0 (f : Nat → Int32) (β : Nat → Nat) (n p : Nat) : tokR f β n p 0 = zI (cNx β n p) := rfl
theorem tokR_1 (f : Nat → Int32) (β : Nat → Nat) (n p : Nat) : tokR f β n p 1 = zI (cKi β n p) := rfl
theorem tokR_2 (f : Nat → Int32) (β : Nat → Nat) (n p : Nat) : tokR f β n p 2 = zI (cPl β n p) := rfl
theorem tokR_3 (f : Nat → Int32) (β : Nat → Nat) (n p : Nat) : tokR f β n p 3 = cNu β n p (f 3) := rfl
theorem tok_fr {f : Nat → Int32} {β : Nat → Nat} {n p : Nat} (hp : p ≤ n) : tokR f β n p 2 = zI (gFr β n p) := by rw [tokR_2, tok_pl hp]
theorem tok_to {f : Nat → Int32} {β : Nat → Nat} {n p : Nat} (hp : p ≤ n) (h : ¬ cKi β n p = 0) : tokR f β n p 0 = zI (gTo β n p) := by rw [tokR_0, (tok_nx hp h).1]
def dR (b : Nat) (M : Nat → Nat → Int32) (rd : Nat → Int32) : Prop := RuR rd (fun k => M (b + 1 + k))
def lnQ (b n : Nat) (M u : Nat → Nat → Int32) (X : PR) : Prop := (∀ j, j ≠ 3 → j ≠ 4 → ¬ (b ≤ j ∧ j ≤ b + 18) → u j = M j) ∧ ftQ n u X ∧ ∀ q, X = .inr q → dR b u q.2 ∧ u (b + 18) 0 = zI 1
theorem ln_fail {b n a d : Nat} {M u : Nat → Nat → Int32} {X : PR} {f : Nat → (Nat → Int32) → PR} (hx : X = .inl (a, d)) (ha : 1 ≤ a ∧ a ≤ 3) (hd : d ≤ 740) (h0 : u 3 0 = zI a) (h1 : u 3 1 = zI d) (ho : ∀ j, j ≠ 3 → j ≠ 4 → ¬ (b ≤ j ∧ j ≤ b + 18) → u j = M j) : lnQ b n M u (bnd X f) := by
  rw [bnd_l hx]
  exact ⟨ho, ft_l rfl h0 h1 ha hd, fun q h => by cases h⟩
theorem ft_map {β : Nat → Nat} {n : Nat} {u : Nat → Nat → Int32} {X : PR} {gg : (Nat → Int32) → (Nat → Int32)} (h : ftQ n u (bnd X (endP β n))) : ftQ n u (bnd (bnd X (fun p r => .inr (p, gg r))) (endP β n)) := by
  rcases pr_cases X with ⟨e, hx⟩ | ⟨q, hx⟩
  · rw [bnd_l hx] at h
    rw [bnd_l (bnd_l hx _)]; exact h
  · rw [bnd_r hx] at h
    rw [bnd_r (bnd_r hx _)]
    show ftQ n u (endP β n q.1 (gg q.2))
    unfold endP at h ⊢
    by_cases z : gSo β n q.1 = 4
    · rw [if_pos z] at h ⊢
      obtain ⟨a1, a2, a3⟩ := h.2 _ rfl
      exact ft_r rfl a1 a2 a3
    · rw [if_neg z] at h ⊢
      exact h
theorem end_map {β : Nat → Nat} {n : Nat} {X : PR} {gg : (Nat → Int32) → (Nat → Int32)} {q : Nat × (Nat → Int32)} (h : bnd (bnd X (fun p r => .inr (p, gg r))) (endP β n) = .inr q) : ∃ q1, X = .inr q1 ∧ q.2 = gg q1.2 := by
  obtain ⟨q2, h2, h3⟩ := bnd_in h
  obtain ⟨q1, h4, h5⟩ := bnd_in h2
  cases h5
  unfold endP at h3
  split at h3
  · cases h3; exact ⟨q1, h4, rfl⟩
  · cases h3
theorem bnd_id (X : PR) : bnd X (fun p r => .inr (p, r)) = X := by
  rcases pr_cases X with ⟨e, hx⟩ | ⟨q, hx⟩
  · rw [bnd_l hx, hx]
  · rw [bnd_r hx, hx]
theorem ln_num {β : Nat → Nat} {b n R at0 len so : Nat} {ct : Int} {M M1 u1 u : Nat → Nat → Int32} {X1 LX : PR} {gg : (Nat → Int32) → (Nat → Int32)} (hb : b = 8 ∨ b = 27) (hRb : b + 1 ≤ R ∧ R < b + 18) (hM1 : ∀ j, ¬ j = b + 18 → M1 j = M j) (h18 : M1 (b + 18) = upd (M (b + 18)) so (zI ct)) (hrn : rnQ n M1 u1 R at0 len X1) (hu : ∀ j, j ≠ 3 → j ≠ 4 → u j = u1 j) (hft : ftQ n u (bnd X1 (endP β n))) (hL : LX = bnd X1 (fun p r => .inr (p, gg r))) (h0 : upd (M (b + 18)) so (zI ct) 0 = zI 1)
    (hd : ∀ q, X1 = .inr q → (∀ j, b + 1 ≤ j → j < b + 18 → j ≠ R → u j = M j) → u (b + 18) = upd (M (b + 18)) so (zI ct) → (∀ j, j < len → u R j = q.2 (at0 + j)) → dR b u (gg q.2)) : lnQ b n M u (bnd LX (endP β n)) := by
  subst hL
  have e18 : u (b + 18) = upd (M (b + 18)) so (zI ct) := by rw [hu _ (by omega) (by omega), hrn.1 _ (by omega) (by omega) (by omega), h18]
  refine ⟨fun j q1 q2 q3 => ?_, ft_map hft, fun q hq => ?_⟩
  · rw [hu j q1 q2, hrn.1 j q1 q2 (by omega), hM1 j (by omega)]
  · obtain ⟨q1, x1, x2⟩ := end_map hq
    refine ⟨?_, by rw [e18]; exact h0⟩
    rw [x2]
    refine hd q1 x1 (fun j z1 z2 z3 => ?_) e18 (fun j hj => ?_)
    · rw [hu j (by omega) (by omega), hrn.1 j (by omega) (by omega) z3, hM1 j (by omega)]
    · rw [hu R (by omega) (by omega)]; exact hrn.2.2 q1 x1 j hj
theorem dR_bank {b : Nat} {M u : Nat → Nat → Int32} {rd r1 : Nat → Int32} {x : Int} (hb : b = 8 ∨ b = 27) (hR : dR b M rd) (h4 : mn rd 4 ≤ 5) (h50 : mn rd 50 ≤ 3) (h57 : mn rd 57 ≤ 4) (hu : ∀ j, b + 1 ≤ j → j < b + 18 → j ≠ b + 1 + (1 + 0) → u j = M j) (h18 : u (b + 18) = upd (M (b + 18)) 0 (zI x)) (hrow : ∀ j, j < 4 → u (b + 1 + (1 + 0)) j = r1 (0 + j)) (hr : ∀ j, ¬ (0 ≤ j ∧ j < 0 + 4) → r1 j = rd j) : dR b u r1 := by
  have g17 : u (b + 1 + 17) = upd (M (b + 1 + 17)) 0 (zI x) := h18
  refine ⟨fun j hj => ?_, ?_, ?_, ?_, fun i hi j hj => ?_, fun i hi j hj => ?_, fun i hi j hj => ?_⟩
  · show u (b + 1 + (1 + 0)) j = r1 j
    rw [hrow j hj, Nat.zero_add]
  · show u (b + 1 + 17) 1 = r1 4
    rw [g17, upd_ne _ (by omega), hr 4 (by omega)]; exact hR.2.1
  · show u (b + 1 + 17) 2 = r1 50
    rw [g17, upd_ne _ (by omega), hr 50 (by omega)]; exact hR.2.2.1
  · show u (b + 1 + 17) 3 = r1 57
    rw [g17, upd_ne _ (by omega), hr 57 (by omega)]; exact hR.2.2.2.1
  · rw [mn_cg (hr 4 (by omega))] at hi
    show u (b + 1 + (3 + i)) j = r1 (5 + 9 * i + j)
    rw [hu _ (by omega) (by omega) (by omega), hr _ (by omega)]; exact hR.2.2.2.2.1 i hi j hj
  · rw [mn_cg (hr 50 (by omega))] at hi
    show u (b + 1 + (9 + i)) j = r1 (51 + 2 * i + j)
    rw [hu _ (by omega) (by omega) (by omega), hr _ (by omega)]; exact hR.2.2.2.2.2.1 i hi j hj
  · rw [mn_cg (hr 57 (by omega))] at hi
    show u (b + 1 + (13 + i)) j = r1 (58 + 13 * i + j)
    rw [hu _ (by omega) (by omega) (by omega), hr _ (by omega)]; exact hR.2.2.2.2.2.2 i hi j hj
theorem dR_sea {b ct : Nat} {M u : Nat → Nat → Int32} {rd r1 : Nat → Int32} (hb : b = 8 ∨ b = 27) (hR : dR b M rd) (hct : mn rd 4 = ct) (hcl : ct < 5) (h4 : mn rd 4 ≤ 5) (h50 : mn rd 50 ≤ 3) (h57 : mn rd 57 ≤ 4) (hu : ∀ j, b + 1 ≤ j → j < b + 18 → j ≠ b + 1 + (3 + ct) → u j = M j) (h18 : u (b + 18) = upd (M (b + 18)) 1 (zI (ct + 1))) (hrow : ∀ j, j < 9 → u (b + 1 + (3 + ct)) j = r1 (5 + 9 * ct + j)) (hr : ∀ j, ¬ (5 + 9 * ct ≤ j ∧ j < 5 + 9 * ct + 9) → r1 j = rd j) : dR b u (upd r1 4 (zI ((ct + 1 : Nat)))) := by
  have g17 : u (b + 1 + 17) = upd (M (b + 1 + 17)) 1 (zI (ct + 1)) := h18
  refine ⟨fun j hj => ?_, ?_, ?_, ?_, fun i hi j hj => ?_, fun i hi j hj => ?_, fun i hi j hj => ?_⟩
  · show u (b + 1 + 1) j = upd r1 4 _ j
    rw [hu _ (by omega) (by omega) (by omega), upd_ne _ (by omega), hr j (by omega)]; exact hR.1 j hj
  · show u (b + 1 + 17) 1 = upd r1 4 _ 4
    rw [g17, upd_at, upd_at]; exact congrArg zI (by omega)
  · show u (b + 1 + 17) 2 = upd r1 4 _ 50
    rw [g17, upd_ne _ (by omega), upd_ne _ (by omega), hr 50 (by omega)]; exact hR.2.2.1
  · show u (b + 1 + 17) 3 = upd r1 4 _ 57
    rw [g17, upd_ne _ (by omega), upd_ne _ (by omega), hr 57 (by omega)]; exact hR.2.2.2.1
  · rw [mn_at (by omega)] at hi
    show u (b + 1 + (3 + i)) j = upd r1 4 _ (5 + 9 * i + j)
    rw [upd_ne _ (by omega)]
    by_cases z : i = ct
    · rw [z]; exact hrow j hj
    · rw [hu _ (by omega) (by omega) (by omega), hr _ (by omega)]; exact hR.2.2.2.2.1 i (by omega) j hj
  · rw [mn_ne _ (by omega), mn_cg (hr 50 (by omega))] at hi
    show u (b + 1 + (9 + i)) j = upd r1 4 _ (51 + 2 * i + j)
    rw [hu _ (by omega) (by omega) (by omega), upd_ne _ (by omega), hr _ (by omega)]; exact hR.2.2.2.2.2.1 i hi j hj
  · rw [mn_ne _ (by omega), mn_cg (hr 57 (by omega))] at hi
    show u (b + 1 + (13 + i)) j = upd r1 4 _ (58 + 13 * i + j)
    rw [hu _ (by omega) (by omega) (by omega), upd_ne _ (by omega), hr _ (by omega)]; exact hR.2.2.2.2.2.2 i hi j hj
theorem dR_not {b ct : Nat} {M u : Nat → Nat → Int32} {rd r1 : Nat → Int32} (hb : b = 8 ∨ b = 27) (hR : dR b M rd) (hct : mn rd 50 = ct) (hcl : ct < 3) (h4 : mn rd 4 ≤ 5) (h50 : mn rd 50 ≤ 3) (h57 : mn rd 57 ≤ 4) (hu : ∀ j, b + 1 ≤ j → j < b + 18 → j ≠ b + 1 + (9 + ct) → u j = M j) (h18 : u (b + 18) = upd (M (b + 18)) 2 (zI (ct + 1))) (hrow : ∀ j, j < 2 → u (b + 1 + (9 + ct)) j = r1 (51 + 2 * ct + j)) (hr : ∀ j, ¬ (51 + 2 * ct ≤ j ∧ j < 51 + 2 * ct + 2) → r1 j = rd j) : dR b u (upd r1 50 (zI ((ct + 1 : Nat)))) := by
  have g17 : u (b + 1 + 17) = upd (M (b + 1 + 17)) 2 (zI (ct + 1)) := h18
  refine ⟨fun j hj => ?_, ?_, ?_, ?_, fun i hi j hj => ?_, fun i hi j hj => ?_, fun i hi j hj => ?_⟩
  · show u (b + 1 + 1) j = upd r1 50 _ j
    rw [hu _ (by omega) (by omega) (by omega), upd_ne _ (by omega), hr j (by omega)]; exact hR.1 j hj
  · show u (b + 1 + 17) 1 = upd r1 50 _ 4
    rw [g17, upd_ne _ (by omega), upd_ne _ (by omega), hr 4 (by omega)]; exact hR.2.1
  · show u (b + 1 + 17) 2 = upd r1 50 _ 50
    rw [g17, upd_at, upd_at]; exact congrArg zI (by omega)
  · show u (b + 1 + 17) 3 = upd r1 50 _ 57
    rw [g17, upd_ne _ (by omega), upd_ne _ (by omega), hr 57 (by omega)]; exact hR.2.2.2.1
  · rw [mn_ne _ (by omega), mn_cg (hr 4 (by omega))] at hi
    show u (b + 1 + (3 + i)) j = upd r1 50 _ (5 + 9 * i + j)
    rw [hu _ (by omega) (by omega) (by omega), upd_ne _ (by omega), hr _ (by omega)]; exact hR.2.2.2.2.1 i hi j hj
  · rw [mn_at (by omega)] at hi
    show u (b + 1 + (9 + i)) j = upd r1 50 _ (51 + 2 * i + j)
    rw [upd_ne _ (by omega)]
    by_cases z : i = ct
    · rw [z]; exact hrow j hj
    · rw [hu _ (by omega) (by omega) (by omega), hr _ (by omega)]; exact hR.2.2.2.2.2.1 i (by omega) j hj
  · rw [mn_ne _ (by omega), mn_cg (hr 57 (by omega))] at hi
    show u (b + 1 + (13 + i)) j = upd r1 50 _ (58 + 13 * i + j)
    rw [hu _ (by omega) (by omega) (by omega), upd_ne _ (by omega), hr _ (by omega)]; exact hR.2.2.2.2.2.2 i hi j hj
theorem dR_wrk {b ct : Nat} {M u : Nat → Nat → Int32} {rd r1 : Nat → Int32} (hb : b = 8 ∨ b = 27) (hR : dR b M rd) (hct : mn rd 57 = ct) (hcl : ct < 4) (h4 : mn rd 4 ≤ 5) (h50 : mn rd 50 ≤ 3) (h57 : mn rd 57 ≤ 4) (hu : ∀ j, b + 1 ≤ j → j < b + 18 → j ≠ b + 1 + (13 + ct) → u j = M j) (h18 : u (b + 18) = upd (M (b + 18)) 3 (zI (ct + 1))) (hrow : ∀ j, j < 2 → u (b + 1 + (13 + ct)) j = r1 (58 + 13 * ct + j)) (hr : ∀ j, ¬ (58 + 13 * ct ≤ j ∧ j < 58 + 13 * ct + 2) → r1 j = rd j) : dR b u (upd r1 57 (zI ((ct + 1 : Nat)))) := by
  have g17 : u (b + 1 + 17) = upd (M (b + 1 + 17)) 3 (zI (ct + 1)) := h18
  refine ⟨fun j hj => ?_, ?_, ?_, ?_, fun i hi j hj => ?_, fun i hi j hj => ?_, fun i hi j hj => ?_⟩
  · show u (b + 1 + 1) j = upd r1 57 _ j
    rw [hu _ (by omega) (by omega) (by omega), upd_ne _ (by omega), hr j (by omega)]; exact hR.1 j hj
  · show u (b + 1 + 17) 1 = upd r1 57 _ 4
    rw [g17, upd_ne _ (by omega), upd_ne _ (by omega), hr 4 (by omega)]; exact hR.2.1
  · show u (b + 1 + 17) 2 = upd r1 57 _ 50
    rw [g17, upd_ne _ (by omega), upd_ne _ (by omega), hr 50 (by omega)]; exact hR.2.2.1
  · show u (b + 1 + 17) 3 = upd r1 57 _ 57
    rw [g17, upd_at, upd_at]; exact congrArg zI (by omega)
  · rw [mn_ne _ (by omega), mn_cg (hr 4 (by omega))] at hi
    show u (b + 1 + (3 + i)) j = upd r1 57 _ (5 + 9 * i + j)
    rw [hu _ (by omega) (by omega) (by omega), upd_ne _ (by omega), hr _ (by omega)]; exact hR.2.2.2.2.1 i hi j hj
  · rw [mn_ne _ (by omega), mn_cg (hr 50 (by omega))] at hi
    show u (b + 1 + (9 + i)) j = upd r1 57 _ (51 + 2 * i + j)
    rw [hu _ (by omega) (by omega) (by omega), upd_ne _ (by omega), hr _ (by omega)]; exact hR.2.2.2.2.2.1 i hi j hj
  · rw [mn_at (by omega)] at hi
    show u (b + 1 + (13 + i)) j = upd r1 57 _ (58 + 13 * i + j)
    rw [upd_ne _ (by omega)]
    by_cases z : i = ct
    · rw [z]; exact hrow j hj
    · rw [hu _ (by omega) (by omega) (by omega), hr _ (by omega)]; exact hR.2.2.2.2.2.2 i (by omega) j hj
theorem rn_end {β : Nat → Nat} {n so R at0 ps i k : Nat} {M A : Nat → Nat → Int32} {rd : Nat → Int32} (h : i = k) (hE : rnQ n M A R at0 i (numP β n so at0 i ps rd)) : rnQ n M A R at0 k (numP β n so at0 k ps rd) := h ▸ hE
