theorem rnp_in (β : Nat → Nat) (n : Nat) : ∀ f p i, p ≤ i → i < rnp β n f p → i < n ∧ ldT (β i)
  | 0, p, i, h1, h2 => by rw [rnp] at h2; omega
  | f + 1, p, i, h1, h2 => by
    rw [rnp] at h2
    split at h2
    · rename_i q
      by_cases e : i = p
      · subst e; exact q
      · exact rnp_in β n f (p + 1) i (by omega) h2
    · omega
theorem gd_all {β : Nat → Nat} {q : Nat} : ∀ j, gdT β q j = 1 → ∀ i, i < j → (isLt (β (q + i)) ↔ isLt (β q))
  | 0, _, i, h => absurd h (Nat.not_lt_zero _)
  | j + 1, h, i, hi => by
    rw [gdT] at h
    split at h
    · rename_i q9
      by_cases e : i = j
      · subst e; exact q9.2
      · exact gd_all j q9.1 i (by omega)
    · exact absurd h (by omega)
theorem nv_dig {β : Nat → Nat} {q : Nat} : ∀ j, j ≤ 4 → (∀ i, i < j → 48 ≤ β (q + i) ∧ β (q + i) ≤ 57) → 0 ≤ nvT β q j ∧ nvT β q j ≤ 9999 ∧ (j ≤ 3 → nvT β q j ≤ 999) ∧ (j ≤ 2 → nvT β q j ≤ 99) ∧ (j ≤ 1 → nvT β q j ≤ 9) ∧ (j = 0 → nvT β q j = 0)
  | 0, _, _ => by simp [nvT]
  | j + 1, hj, h => by
    have h1 := nv_dig j (by omega) (fun i hi => h i (by omega))
    have h2 := h j (by omega)
    rw [nvT, if_pos (by omega)]
    refine ⟨?_, ?_, ?_, ?_, ?_, ?_⟩ <;> omega
theorem gso_cases {β : Nat → Nat} {n p : Nat} (hp : p ≤ n) (h : gSo β n p = 2 ∨ gSo β n p = 3) : ¬ (700 < n ∧ 700 ≤ skipT β n p) ∧ skipT β n p < n ∧ ldT (β (skipT β n p)) ∧ gSo β n p = runS β (skipT β n p) (rendT β n (skipT β n p)) ∧ gTo β n p = rendT β n (skipT β n p) ∧ gFr β n p = skipT β n p := by
  by_cases h1 : 700 < n ∧ 700 ≤ skipT β n p
  · have := (g_over rfl h1).2.2.1; omega
  · by_cases h2 : n ≤ skipT β n p
    · have := (g_stop rfl h1 h2).2.2.1; omega
    · by_cases h3 : ldT (β (skipT β n p))
      · have hg := g_run rfl h1 h2 h3 rfl
        exact ⟨h1, by omega, h3, hg.2.2.1, hg.1, hg.2.1⟩
      · have := (g_sign rfl h1 h2 h3).2.2.1
        split at this <;> omega
theorem run_len {β : Nat → Nat} {n q : Nat} (h : q < n) (h2 : ldT (β q)) : q + 1 ≤ rendT β n q := by
  rw [rend_s ⟨h, h2⟩]; exact rnp_ge β n _ _
theorem gso3 {β : Nat → Nat} {n p : Nat} (hp : p ≤ n) (h : gSo β n p = 3) : 0 ≤ nvT β (skipT β n p) (gLen β n p) ∧ nvT β (skipT β n p) (gLen β n p) ≤ 9999 := by
  obtain ⟨h1, h2, h3, h4, -, -⟩ := gso_cases hp (Or.inr h)
  rw [h] at h4
  have hg : gdT β (skipT β n p) (gLen β n p) = 1 ∧ ¬ isLt (β (skipT β n p)) ∧ gLen β n p ≤ 4 := by
    have h01 := gd_01 β (skipT β n p) (gLen β n p)
    unfold runS at h4
    split at h4
    · omega
    · rename_i q9
      split at h4
      · omega
      · rename_i q8
        refine ⟨?_, q8, ?_⟩
        · unfold gLen at h01 ⊢; omega
        · unfold gLen
          exact Nat.le_of_not_lt fun z => q9 (Or.inr ⟨q8, z⟩)
  have hd : ∀ i, i < gLen β n p → 48 ≤ β (skipT β n p + i) ∧ β (skipT β n p + i) ≤ 57 := fun i hi => by
    have e1 := gd_all _ hg.1 i hi
    have e2 := (rnp_in β n _ _ (skipT β n p + i) (by omega) (show skipT β n p + i < rendT β n (skipT β n p) by unfold gLen at hi; omega)).2
    rcases e2 with e2 | e2
    · exact absurd (e1.mp e2) hg.2.1
    · exact e2
  have := nv_dig _ hg.2.2 hd
  exact ⟨this.1, this.2.1⟩
theorem gso2 {β : Nat → Nat} {n p : Nat} (hp : p ≤ n) (h : gSo β n p = 2) : 1 ≤ gLen β n p ∧ ∀ i, i < gLen β n p → 97 ≤ β (skipT β n p + i) ∧ β (skipT β n p + i) ≤ 122 := by
  obtain ⟨h1, h2, h3, h4, -, -⟩ := gso_cases hp (Or.inl h)
  have hl := run_len h2 h3
  rw [h] at h4
  have hg : gdT β (skipT β n p) (gLen β n p) = 1 ∧ isLt (β (skipT β n p)) := by
    have h01 := gd_01 β (skipT β n p) (gLen β n p)
    unfold runS at h4
    split at h4
    · omega
    · rename_i q9
      split at h4
      · rename_i q8
        refine ⟨?_, q8⟩
        unfold gLen at h01 ⊢; omega
      · omega
  refine ⟨by unfold gLen; omega, fun i hi => (gd_all _ hg.1 i hi).mpr hg.2⟩
def gV (β : Nat → Nat) (n p : Nat) : Nat := (nvT β (skipT β n p) (gLen β n p)).toNat
def cur (β : Nat → Nat) (n p : Nat) (sc : Nat → Int32) (wd : Int64) : Prop := sc 3 = zI (gTo β n p) ∧ sc 4 = zI (gFr β n p) ∧ sc 5 = zI (gSo β n p) ∧ (gSo β n p = 3 → sc 6 = zI (gV β n p)) ∧ (gSo β n p = 2 → wd = zL (wvT β (skipT β n p) (gLen β n p)))
theorem cur_go {β : Nat → Nat} {n p : Nat} (hp : p ≤ n) (sc : Nat → Int32) (o : Int32) (wd : Int64) : cur β n p (upd (upd (upd (upd sc 3 (zI (gTo β n p))) 4 (zI (gFr β n p))) 5 (zI (gSo β n p))) 6 (gNu β n p o)) (gWo β n p wd) := by
  refine ⟨rfl, rfl, rfl, fun h => ?_, fun h => ?_⟩
  · obtain ⟨h1, h2, h3, h4, -, -⟩ := gso_cases hp (Or.inr h)
    have hv := (gso3 hp h).1
    refine ((g_run rfl h1 (by omega) h3 rfl).2.2.2.1 o).trans (congrArg zI ?_)
    show nvT β (skipT β n p) (gLen β n p) = ((nvT β (skipT β n p) (gLen β n p)).toNat : Int)
    omega
  · obtain ⟨h1, h2, h3, h4, -, -⟩ := gso_cases hp (Or.inl h)
    exact (g_run rfl h1 (by omega) h3 rfl).2.2.2.2 wd
theorem gto_le {β : Nat → Nat} {n p : Nat} (hp : p ≤ n) : gTo β n p ≤ n ∧ p ≤ gTo β n p ∧ (gSo β n p ≠ 0 → ¬ (700 < n ∧ 700 ≤ skipT β n p) → p < gTo β n p) := by
  have hs1 : skipT β n p ≤ n := skp_le β n _ p hp
  have hs2 : p ≤ skipT β n p := skp_ge β n _ p
  by_cases h1 : 700 < n ∧ 700 ≤ skipT β n p
  · have := (g_over rfl h1).1
    exact ⟨by omega, by omega, fun _ h => absurd h1 h⟩
  · by_cases h2 : n ≤ skipT β n p
    · have e := g_stop rfl h1 h2
      exact ⟨by omega, by omega, fun h => absurd e.2.2.1 h⟩
    · by_cases h3 : ldT (β (skipT β n p))
      · have e := (g_run rfl h1 h2 h3 rfl).1
        have h4 := run_len (by omega : skipT β n p < n) h3
        have h5 : rendT β n (skipT β n p) ≤ n := rnp_le β n _ _ hs1
        exact ⟨by omega, by omega, fun _ _ => by omega⟩
      · have e := (g_sign rfl h1 h2 h3).1
        exact ⟨by omega, by omega, fun _ _ => by omega⟩
abbrev PR : Type := (Nat × Nat) ⊕ (Nat × (Nat → Int32))
def tel (β : Nat → Nat) (n at0 lo hi p : Nat) (rd : Nat → Int32) : PR := if gSo β n p = 3 then (if lo ≤ gV β n p ∧ gV β n p ≤ hi then .inr (gTo β n p, upd rd at0 (zI (gV β n p))) else .inl (2, gFr β n p)) else .inl (1, gFr β n p)
def bnd (x : PR) (f : Nat → (Nat → Int32) → PR) : PR := match x with
  | .inl e => .inl e
  | .inr q => f q.1 q.2
def telN (β : Nat → Nat) (n at0 : Nat) : Nat → Nat → (Nat → Int32) → PR
  | 0, p, rd => .inr (p, rd)
  | k + 1, p, rd => bnd (telN β n at0 k p rd) fun p1 r1 => tel β n (at0 + (2 + k)) 0 96 p1 r1
abbrev wIs4 (β : Nat → Nat) (n p a b c d : Nat) : Prop := gSo β n p = 2 ∧ gLen β n p = 4 ∧ β (skipT β n p) = a ∧ β (skipT β n p + 1) = b ∧ β (skipT β n p + 2) = c ∧ β (skipT β n p + 3) = d
abbrev wIs6 (β : Nat → Nat) (n p a b c d e f : Nat) : Prop := gSo β n p = 2 ∧ gLen β n p = 6 ∧ β (skipT β n p) = a ∧ β (skipT β n p + 1) = b ∧ β (skipT β n p + 2) = c ∧ β (skipT β n p + 3) = d ∧ β (skipT β n p + 4) = e ∧ β (skipT β n p + 5) = f
def bankP (β : Nat → Nat) (n p : Nat) (rd : Nat → Int32) : PR :=
  if wIs4 β n p 98 97 110 107 then bnd (tel β n 0 0 9999 (gTo β n p) rd) fun p1 r1 => bnd (tel β n 1 0 9999 p1 r1) fun p2 r2 => bnd (tel β n 2 1 60 p2 r2) fun p3 r3 => tel β n 3 0 9999 p3 r3
  else .inl (1, gFr β n p)
def seasP (β : Nat → Nat) (n p : Nat) (rd : Nat → Int32) : PR :=
  if mn rd 4 = 5 then .inl (3, gFr β n p) else bnd (tel β n (5 + 9 * mn rd 4) 0 363 (gTo β n p) rd) fun p1 r1 => bnd (tel β n (5 + 9 * mn rd 4 + 1) (mn r1 (5 + 9 * mn rd 4)) 363 p1 r1) fun p2 r2 => bnd (telN β n (5 + 9 * mn rd 4) 7 p2 r2) fun p3 r3 => .inr (p3, upd r3 4 (zI ((mn rd 4 + 1 : Nat))))
def notP (β : Nat → Nat) (n p : Nat) (rd : Nat → Int32) : PR :=
  if mn rd 50 = 3 then .inl (3, gFr β n p) else bnd (tel β n (51 + 2 * mn rd 50) 1 60 (gTo β n p) rd) fun p1 r1 => bnd (tel β n (51 + 2 * mn rd 50 + 1) 0 300 p1 r1) fun p2 r2 => .inr (p2, upd r2 50 (zI ((mn rd 50 + 1 : Nat))))
def workP (β : Nat → Nat) (n p : Nat) (rd : Nat → Int32) : PR :=
  if mn rd 57 = 4 then .inl (3, gFr β n p) else bnd (tel β n (58 + 13 * mn rd 57) 1 999 (gTo β n p) rd) fun p1 r1 => bnd (tel β n (58 + 13 * mn rd 57 + 1) 0 9999 p1 r1) fun p2 r2 => .inr (p2, upd r2 57 (zI ((mn rd 57 + 1 : Nat))))
def lineP (β : Nat → Nat) (n : Nat) (first : Prop) [Decidable first] (p : Nat) (rd : Nat → Int32) : PR :=
  if first then bankP β n p rd else if wIs6 β n p 115 101 97 115 111 110 then seasP β n p rd else if wIs6 β n p 110 111 116 105 99 101 then notP β n p rd else if wIs6 β n p 119 111 114 107 101 114 then workP β n p rd else .inl (1, gFr β n p)
def endP (β : Nat → Nat) (n p : Nat) (rd : Nat → Int32) : PR := if gSo β n p = 4 then .inr (gTo β n p, rd) else .inl (1, gFr β n p)
def parseL (β : Nat → Nat) (n : Nat) : Nat → Nat → Nat → (Nat → Int32) → PR
  | 0, _, _, _ => .inl (0, 0)
  | f + 1, ln, p, rd => if gSo β n p = 0 then .inr (ln, rd) else bnd (bnd (lineP β n (ln = 0) p rd) (endP β n)) (parseL β n f (ln + 1))
def kp (sc sc1 : Nat → Int32) : Prop := sc1 0 = sc 0 ∧ sc1 1 = sc 1 ∧ sc1 2 = sc 2 ∧ sc1 9 = sc 9
def prQ (β : Nat → Nat) (n : Nat) (x : PR) (r : Int32) (sc sc1 : Nat → Int32) (wd1 : Int64) (rd1 : Nat → Int32) : Prop := match x with
  | .inl e => r = zI 0 ∧ sc1 7 = zI e.1 ∧ sc1 8 = zI e.2 ∧ kp sc sc1
  | .inr q => r = zI 1 ∧ cur β n q.1 sc1 wd1 ∧ q.1 ≤ n ∧ rd1 = q.2 ∧ kp sc sc1 ∧ sc1 7 = sc 7
theorem wv_7 {β : Nat → Nat} {q : Nat} : ∀ j, 7 ≤ j → wvT β q j = wvT β q 7
  | 0, h => absurd h (by omega)
  | j + 1, h => by
    by_cases e : j = 6
    · subst e; rfl
    · rw [wv_s2 (by omega)]; exact wv_7 j (by omega)
theorem wv_lo {β : Nat → Nat} {q L : Nat} (h : ∀ i, i < L → 97 ≤ β (q + i) ∧ β (q + i) ≤ 122) : (1 ≤ L → wvT β q 1 = β q - 96) ∧ (2 ≤ L → wvT β q 2 = 27 * (β q - 96) + β (q + 1) - 96) := by
  refine ⟨fun _ => ?_, fun _ => ?_⟩
  · simp [wvT]
  · simp [wvT]
theorem w4E {β : Nat → Nat} {q L a b c d : Nat} (h : ∀ i, i < L → 97 ≤ β (q + i) ∧ β (q + i) ≤ 122) (hL : 1 ≤ L) (ha : 97 ≤ a ∧ a ≤ 122) (hb : 97 ≤ b ∧ b ≤ 122) (hc : 97 ≤ c ∧ c ≤ 122) (hd : 97 ≤ d ∧ d ≤ 122) : wvT β q L = 27 * (27 * (27 * ((a : Int) - 96) + b - 96) + c - 96) + (d - 96) ↔ L = 4 ∧ β q = a ∧ β (q + 1) = b ∧ β (q + 2) = c ∧ β (q + 3) = d := by
  have h0 := h 0 (by omega)
  rw [Nat.add_zero] at h0
  by_cases e7 : 7 ≤ L
  · have h1 := h 1 (by omega); have h2 := h 2 (by omega); have h3 := h 3 (by omega); have h4 := h 4 (by omega); have h5 := h 5 (by omega); have h6 := h 6 (by omega)
    rw [wv_7 L e7]
    have e : wvT β q 7 = 27 * (27 * (27 * (27 * (27 * (27 * ((β q : Int) - 96) + β (q + 1) - 96) + β (q + 2) - 96) + β (q + 3) - 96) + β (q + 4) - 96) + β (q + 5) - 96) + β (q + 6) - 96 := by simp [wvT]
    rw [e]
    constructor
    · intro z; omega
    · intro z; omega
  · rcases (by omega : L = 1 ∨ L = 2 ∨ L = 3 ∨ L = 4 ∨ L = 5 ∨ L = 6) with rfl | rfl | rfl | rfl | rfl | rfl
    · have e : wvT β q 1 = (β q : Int) - 96 := by simp [wvT]
      rw [e]; constructor <;> intro z <;> omega
    · have h1 := h 1 (by omega)
      have e : wvT β q 2 = 27 * ((β q : Int) - 96) + β (q + 1) - 96 := by simp [wvT]
      rw [e]; constructor <;> intro z <;> omega
    · have h1 := h 1 (by omega); have h2 := h 2 (by omega)
      have e : wvT β q 3 = 27 * (27 * ((β q : Int) - 96) + β (q + 1) - 96) + β (q + 2) - 96 := by simp [wvT]
      rw [e]; constructor <;> intro z <;> omega
    · have h1 := h 1 (by omega); have h2 := h 2 (by omega); have h3 := h 3 (by omega)
      have e : wvT β q 4 = 27 * (27 * (27 * ((β q : Int) - 96) + β (q + 1) - 96) + β (q + 2) - 96) + β (q + 3) - 96 := by simp [wvT]
      rw [e]; constructor <;> intro z <;> omega
    · have h1 := h 1 (by omega); have h2 := h 2 (by omega); have h3 := h 3 (by omega); have h4 := h 4 (by omega)
      have e : wvT β q 5 = 27 * (27 * (27 * (27 * ((β q : Int) - 96) + β (q + 1) - 96) + β (q + 2) - 96) + β (q + 3) - 96) + β (q + 4) - 96 := by simp [wvT]
      rw [e]; constructor <;> intro z <;> omega
    · have h1 := h 1 (by omega); have h2 := h 2 (by omega); have h3 := h 3 (by omega); have h4 := h 4 (by omega); have h5 := h 5 (by omega)
      have e : wvT β q 6 = 27 * (27 * (27 * (27 * (27 * ((β q : Int) - 96) + β (q + 1) - 96) + β (q + 2) - 96) + β (q + 3) - 96) + β (q + 4) - 96) + β (q + 5) - 96 := by simp [wvT]
      rw [e]; constructor <;> intro z <;> omega
def hsh3 (a b c : Int) : Int := 27 * (27 * (a - 96) + b - 96) + c - 96
theorem w6E {β : Nat → Nat} {q L a b c d x y : Nat} (h : ∀ i, i < L → 97 ≤ β (q + i) ∧ β (q + i) ≤ 122) (hL : 1 ≤ L) (ha : 97 ≤ a ∧ a ≤ 122) (hb : 97 ≤ b ∧ b ≤ 122) (hc : 97 ≤ c ∧ c ≤ 122) (hd : 97 ≤ d ∧ d ≤ 122) (hx : 97 ≤ x ∧ x ≤ 122) (hy : 97 ≤ y ∧ y ≤ 122) : wvT β q L = 19683 * hsh3 a b c + hsh3 d x y ↔ L = 6 ∧ β q = a ∧ β (q + 1) = b ∧ β (q + 2) = c ∧ β (q + 3) = d ∧ β (q + 4) = x ∧ β (q + 5) = y := by
  have h0 := h 0 (by omega)
  rw [Nat.add_zero] at h0
  unfold hsh3
  by_cases e7 : 7 ≤ L
  · have h1 := h 1 (by omega); have h2 := h 2 (by omega); have h3 := h 3 (by omega); have h4 := h 4 (by omega); have h5 := h 5 (by omega); have h6 := h 6 (by omega)
    rw [wv_7 L e7]
    have e : wvT β q 7 = 27 * (27 * (27 * (27 * (27 * (27 * ((β q : Int) - 96) + β (q + 1) - 96) + β (q + 2) - 96) + β (q + 3) - 96) + β (q + 4) - 96) + β (q + 5) - 96) + β (q + 6) - 96 := by simp [wvT]
    rw [e]
    constructor
    · intro z; omega
    · intro z; omega
  · rcases (by omega : L = 1 ∨ L = 2 ∨ L = 3 ∨ L = 4 ∨ L = 5 ∨ L = 6) with rfl | rfl | rfl | rfl | rfl | rfl
    · have e : wvT β q 1 = (β q : Int) - 96 := by simp [wvT]
      rw [e]; constructor <;> intro z <;> omega
    · have h1 := h 1 (by omega)
      have e : wvT β q 2 = 27 * ((β q : Int) - 96) + β (q + 1) - 96 := by simp [wvT]
      rw [e]; constructor <;> intro z <;> omega
    · have h1 := h 1 (by omega); have h2 := h 2 (by omega)
      have e : wvT β q 3 = 27 * (27 * ((β q : Int) - 96) + β (q + 1) - 96) + β (q + 2) - 96 := by simp [wvT]
      rw [e]; constructor <;> intro z <;> omega
    · have h1 := h 1 (by omega); have h2 := h 2 (by omega); have h3 := h 3 (by omega)
      have e : wvT β q 4 = 27 * (27 * (27 * ((β q : Int) - 96) + β (q + 1) - 96) + β (q + 2) - 96) + β (q + 3) - 96 := by simp [wvT]
      rw [e]; constructor <;> intro z <;> omega
    · have h1 := h 1 (by omega); have h2 := h 2 (by omega); have h3 := h 3 (by omega); have h4 := h 4 (by omega)
      have e : wvT β q 5 = 27 * (27 * (27 * (27 * ((β q : Int) - 96) + β (q + 1) - 96) + β (q + 2) - 96) + β (q + 3) - 96) + β (q + 4) - 96 := by simp [wvT]
      rw [e]; constructor <;> intro z <;> omega
    · have h1 := h 1 (by omega); have h2 := h 2 (by omega); have h3 := h 3 (by omega); have h4 := h 4 (by omega); have h5 := h 5 (by omega)
      have e : wvT β q 6 = 27 * (27 * (27 * (27 * (27 * ((β q : Int) - 96) + β (q + 1) - 96) + β (q + 2) - 96) + β (q + 3) - 96) + β (q + 4) - 96) + β (q + 5) - 96 := by simp [wvT]
      rw [e]; constructor <;> intro z <;> omega
