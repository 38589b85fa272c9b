theorem sb_cases {b : Nat} (hb : b < 256) : (sbI b = b ∧ b < 128) ∨ (sbI b = (b : Int) - 256 ∧ 128 ≤ b ∧ b < 256) := by
  unfold sbI
  by_cases h : b < 128
  · rw [if_pos h]; exact Or.inl ⟨rfl, h⟩
  · rw [if_neg h]; exact Or.inr ⟨rfl, by omega, hb⟩
def ltC (β : Nat → Nat) (q : Nat) : Nat → Nat
  | 0 => 0
  | j + 1 => ltC β q j + if isLt (β (q + j)) then 1 else 0
def dgC (β : Nat → Nat) (q : Nat) : Nat → Nat
  | 0 => 0
  | j + 1 => dgC β q j + if isLt (β (q + j)) then 0 else 1
def nuC (β : Nat → Nat) (q : Nat) : Nat → Int32
  | 0 => zI 0
  | j + 1 => if isLt (β (q + j)) then nuC β q j else nuC β q j * zI 10 + zI (sbI (β (q + j))) - zI 48
def kRun (β : Nat → Nat) (q j : Nat) : Nat := if dgC β q j = 0 then 1 else if ltC β q j = 0 ∧ dgC β q j ≤ 4 then 2 else 4
def cSk (β : Nat → Nat) (n p : Nat) : Nat := skipT β (min n 700) p
def cNx (β : Nat → Nat) (n p : Nat) : Nat := if min n 700 ≤ cSk β n p then cSk β n p else if ldT (β (cSk β n p)) then rendT β n (cSk β n p) else cSk β n p + 1
def cKi (β : Nat → Nat) (n p : Nat) : Nat := if min n 700 ≤ cSk β n p then 0 else if ldT (β (cSk β n p)) then kRun β (cSk β n p) (rendT β n (cSk β n p) - cSk β n p) else if β (cSk β n p) = 59 then 3 else 4
def cPl (β : Nat → Nat) (n p : Nat) : Nat := min (cSk β n p) (min n 700)
def cNu (β : Nat → Nat) (n p : Nat) (o : Int32) : Int32 := if min n 700 ≤ cSk β n p then o else if ldT (β (cSk β n p)) then nuC β (cSk β n p) (rendT β n (cSk β n p) - cSk β n p) else o
def tokR (f : Nat → Int32) (β : Nat → Nat) (n p : Nat) : Nat → Int32 := upd (upd (upd (upd f 0 (zI (cNx β n p))) 1 (zI (cKi β n p))) 2 (zI (cPl β n p))) 3 (cNu β n p (f 3))
def runR (f : Nat → Int32) (β : Nat → Nat) (n q : Nat) : Nat → Int32 := upd (upd (upd f 0 (zI (rendT β n q))) 1 (zI (kRun β q (rendT β n q - q)))) 3 (nuC β q (rendT β n q - q))
theorem row4 {f h : Nat → Int32} (h0 : h 0 = f 0) (h1 : h 1 = f 1) (h2 : h 2 = f 2) (h3 : h 3 = f 3) (ho : ∀ k, 4 ≤ k → h k = f k) : h = f := by
  funext k
  rcases (by omega : k = 0 ∨ k = 1 ∨ k = 2 ∨ k = 3 ∨ 4 ≤ k) with rfl | rfl | rfl | rfl | q
  · exact h0
  · exact h1
  · exact h2
  · exact h3
  · exact ho k q
theorem dg_lt (β : Nat → Nat) (q : Nat) : ∀ j, ltC β q j + dgC β q j = j
  | 0 => rfl
  | j + 1 => by
    have h := dg_lt β q j
    rw [ltC, dgC]
    by_cases c : isLt (β (q + j))
    · rw [if_pos c, if_pos c]; omega
    · rw [if_neg c, if_neg c]; omega
theorem gd_lt {β : Nat → Nat} {q : Nat} : ∀ j, gdT β q j = 1 → ltC β q j = (if isLt (β q) then j else 0)
  | 0, _ => by unfold ltC; split <;> rfl
  | j + 1, h => by
    rw [gdT] at h
    split at h
    · rename_i c
      have h1 := gd_lt j c.1
      rw [ltC, h1]
      by_cases z : isLt (β q)
      · rw [if_pos z, if_pos z, if_pos (c.2.mpr z)]
      · rw [if_neg z, if_neg z, if_neg (fun y => z (c.2.mp y))]
    · omega
theorem gd_no {β : Nat → Nat} {q : Nat} : ∀ j, 1 ≤ j → gdT β q j = 0 → 1 ≤ ltC β q j ∧ 1 ≤ dgC β q j
  | 0, h, _ => absurd h (by omega)
  | j + 1, _, h => by
    by_cases j0 : j = 0
    · subst j0
      rw [gdT, if_pos ⟨rfl, Iff.rfl⟩] at h; omega
    · rw [gdT] at h
      rw [ltC, dgC]
      rcases gd_01 β q j with g0 | g1
      · have := gd_no j (by omega) g0
        omega
      · have h1 := gd_lt j g1
        have h2 := dg_lt β q j
        split at h
        · omega
        · rename_i c
          have c2 : ¬ (isLt (β (q + j)) ↔ isLt (β q)) := fun z => c ⟨g1, z⟩
          by_cases z : isLt (β q)
          · rw [if_pos z] at h1
            have : ¬ isLt (β (q + j)) := fun y => c2 ⟨fun _ => z, fun _ => y⟩
            rw [if_neg this, if_neg this]; omega
          · rw [if_neg z] at h1
            have : isLt (β (q + j)) := Classical.byContradiction fun y => c2 ⟨fun a => absurd a y, fun a => absurd a z⟩
            rw [if_pos this, if_pos this]; omega
theorem run_k {β : Nat → Nat} {q e : Nat} (h : q < e) : kRun β q (e - q) = (if runS β q e = 1 then 4 else if runS β q e = 2 then 1 else 2) := by
  have hs := dg_lt β q (e - q)
  rcases gd_01 β q (e - q) with g0 | g1
  · have := gd_no (e - q) (by omega) g0
    have hr : runS β q e = 1 := if_pos (Or.inl g0)
    rw [hr]; unfold kRun
    rw [if_neg (by omega), if_neg (by omega)]; rfl
  · have h1 := gd_lt (e - q) g1
    by_cases z : isLt (β q)
    · rw [if_pos z] at h1
      have hr : runS β q e = 2 := by
        unfold runS
        rw [if_neg (fun y => by
          rcases y with y | y
          · omega
          · exact y.1 z), if_pos z]
      rw [hr]; unfold kRun
      rw [if_pos (by omega)]; rfl
    · rw [if_neg z] at h1
      by_cases y : 4 < e - q
      · have hr : runS β q e = 1 := if_pos (Or.inr ⟨z, y⟩)
        rw [hr]; unfold kRun
        rw [if_neg (by omega), if_neg (by omega)]; rfl
      · have hr : runS β q e = 3 := by
          unfold runS
          rw [if_neg (fun x => by
            rcases x with x | x
            · omega
            · exact y x.2), if_neg z]
        rw [hr]; unfold kRun
        rw [if_neg (by omega), if_pos (by omega)]; rfl
theorem nu_dig {β : Nat → Nat} {q : Nat} : ∀ j, j ≤ 4 → (∀ i, i < j → 48 ≤ β (q + i) ∧ β (q + i) ≤ 57) → nuC β q j = zI (nvT β q j)
  | 0, _, _ => rfl
  | j + 1, hj, h => by
    have h1 := nu_dig j (by omega) (fun i hi => h i (by omega))
    have h2 := h j (by omega)
    have h3 := sb_cases (b := β (q + j)) (by omega)
    rw [nuC, nvT, if_neg (by unfold isLt; omega), if_pos (by omega), h1, zI_mul, zI_add, zI_sub]
    exact congrArg zI (by omega)
theorem skip_le7 {β : Nat → Nat} {n : Nat} (hn : 700 < n) : ∀ k p, 700 - p ≤ k → p ≤ 700 → skipT β 700 p = min (skipT β n p) 700
  | 0, p, hk, hp => by
    obtain rfl : p = 700 := by omega
    have : 700 ≤ skipT β n 700 := skp_ge β n _ 700
    rw [skip_x (by omega)]; omega
  | k + 1, p, hk, hp => by
    by_cases q : p = 700
    · subst q
      have : 700 ≤ skipT β n 700 := skp_ge β n _ 700
      rw [skip_x (by omega)]; omega
    · by_cases b : β p = 32 ∨ β p = 10
      · rw [skip_s ⟨by omega, b⟩, skip_s (n := n) ⟨by omega, b⟩]
        exact skip_le7 hn k (p + 1) (by omega) (by omega)
      · rw [skip_x (fun z => b z.2), skip_x (fun z => b z.2)]; omega
theorem cSk_is {β : Nat → Nat} {n p : Nat} (hp : p ≤ n) : (overT β n p ∧ min n 700 ≤ cSk β n p ∧ cPl β n p = 700) ∨ (¬ overT β n p ∧ n ≤ skipT β n p ∧ min n 700 ≤ cSk β n p ∧ cPl β n p = skipT β n p) ∨ (¬ overT β n p ∧ ¬ n ≤ skipT β n p ∧ ¬ min n 700 ≤ cSk β n p ∧ cSk β n p = skipT β n p) := by
  have h1 : p ≤ skipT β n p := skp_ge β n _ p
  have h2 : skipT β n p ≤ n := skp_le β n _ p hp
  unfold cPl cSk overT
  by_cases c : n ≤ 700
  · rw [show min n 700 = n by omega]
    by_cases d : n ≤ skipT β n p
    · exact Or.inr (Or.inl ⟨by omega, d, d, by omega⟩)
    · exact Or.inr (Or.inr ⟨by omega, d, d, rfl⟩)
  · rw [show min n 700 = 700 by omega]
    by_cases e : p ≤ 700
    · have h3 := skip_le7 (β := β) (n := n) (by omega) _ p (Nat.le_refl _) e
      by_cases d : 700 ≤ skipT β n p
      · exact Or.inl ⟨by omega, by omega, by omega⟩
      · exact Or.inr (Or.inr ⟨by omega, by omega, by omega, by omega⟩)
    · have h3 : skipT β 700 p = p := skip_x (by omega)
      exact Or.inl ⟨by omega, by omega, by omega⟩
theorem tok_pl {β : Nat → Nat} {n p : Nat} (hp : p ≤ n) : cPl β n p = gFr β n p := by
  rcases cSk_is (β := β) hp with ⟨a, b, c⟩ | ⟨a, b, c, d⟩ | ⟨a, b, c, d⟩
  · rw [c, (g_over rfl a).2.1]
  · rw [d, (g_stop rfl a b).2.1]
  · unfold cPl; rw [d]
    have : gFr β n p = skipT β n p := if_neg a
    rw [this]; rw [d] at c; omega
theorem tok_ki {β : Nat → Nat} {n p : Nat} (hp : p ≤ n) : cKi β n p = (if overT β n p then 0 else if gSo β n p = 0 then 0 else if gSo β n p = 1 then 4 else gSo β n p - 1) := by
  unfold cKi
  rcases cSk_is (β := β) hp with ⟨a, b, c⟩ | ⟨a, b, c, d⟩ | ⟨a, b, c, d⟩
  · rw [if_pos b, if_pos a]
  · rw [if_pos c, if_neg a, if_pos (g_stop rfl a b).2.2.1]
  · rw [if_neg c, if_neg a, d]
    by_cases l : ldT (β (skipT β n p))
    · have hg := (g_run rfl a b l rfl).2.2.1
      rw [if_pos l, hg, run_k (run_len (by omega) l)]
      have hr : runS β (skipT β n p) (rendT β n (skipT β n p)) = 1 ∨ runS β (skipT β n p) (rendT β n (skipT β n p)) = 2 ∨ runS β (skipT β n p) (rendT β n (skipT β n p)) = 3 := by
        unfold runS; (repeat' split) <;> omega
      rcases hr with r | r | r <;> rw [r] <;> rfl
    · have hg := (g_sign rfl a b l).2.2.1
      rw [if_neg l, hg]
      by_cases z : β (skipT β n p) = 59
      · rw [if_pos z, if_pos z]; rfl
      · rw [if_neg z, if_neg z]; rfl
theorem tok_nx {β : Nat → Nat} {n p : Nat} (hp : p ≤ n) (h : ¬ cKi β n p = 0) : cNx β n p = gTo β n p ∧ ¬ overT β n p ∧ skipT β n p < n := by
  rcases cSk_is (β := β) hp with ⟨a, b, c⟩ | ⟨a, b, c, d⟩ | ⟨a, b, c, d⟩
  · exact absurd (if_pos b) h
  · exact absurd (if_pos c) h
  · refine ⟨?_, a, by omega⟩
    unfold cNx
    rw [if_neg c, d]
    by_cases l : ldT (β (skipT β n p))
    · rw [if_pos l, (g_run rfl a b l rfl).1]
    · rw [if_neg l, (g_sign rfl a b l).1]
theorem tok_nu {β : Nat → Nat} {n p : Nat} (hp : p ≤ n) (o : Int32) (h : gSo β n p = 3) : cNu β n p o = zI (gV β n p) := by
  obtain ⟨h1, h2, h3, h4, -, -⟩ := gso_cases hp (Or.inr h)
  have hv := gso3 hp h
  rcases cSk_is (β := β) hp with ⟨a, b, c⟩ | ⟨a, b, c, d⟩ | ⟨a, b, c, d⟩
  · exact absurd a h1
  · omega
  · unfold cNu
    rw [if_neg c, d, if_pos h3]
    rw [h] at h4
    have hg : gdT β (skipT β n p) (gLen β n p) = 1 ∧ ¬ isLt (β (skipT β n p)) ∧ gLen β n p ≤ 4 := by
      have h01 := gd_01 β (skipT β n p) (gLen β n p)
      unfold runS at h4
      split at h4
      · omega
      · rename_i q9
        split at h4
        · omega
        · rename_i q8
          refine ⟨?_, q8, ?_⟩
          · unfold gLen at h01 ⊢; omega
          · unfold gLen
            exact Nat.le_of_not_lt fun z => q9 (Or.inr ⟨q8, z⟩)
    have hd : ∀ i, i < gLen β n p → 48 ≤ β (skipT β n p + i) ∧ β (skipT β n p + i) ≤ 57 := fun i hi => by
      have e1 := gd_all _ hg.1 i hi
      have e2 := (rnp_in β n _ _ (skipT β n p + i) (by omega) (show skipT β n p + i < rendT β n (skipT β n p) by unfold gLen at hi; omega)).2
      rcases e2 with e2 | e2
      · exact absurd (e1.mp e2) hg.2.1
      · exact e2
    refine (nu_dig (gLen β n p) hg.2.2 hd).trans (congrArg zI ?_)
    unfold gV
    omega
theorem tok_w {β : Nat → Nat} {n p : Nat} (hp : p ≤ n) : cKi β n p = 1 ↔ gSo β n p = 2 := by
  rw [tok_ki hp]
  have := gso_le β n p
  by_cases a : overT β n p
  · have := (g_over rfl a).2.2.1
    rw [if_pos a]; omega
  · rw [if_neg a]; (repeat' split) <;> omega
theorem tok_n {β : Nat → Nat} {n p : Nat} (hp : p ≤ n) : cKi β n p = 2 ↔ gSo β n p = 3 := by
  rw [tok_ki hp]
  have := gso_le β n p
  by_cases a : overT β n p
  · have := (g_over rfl a).2.2.1
    rw [if_pos a]; omega
  · rw [if_neg a]; (repeat' split) <;> omega
theorem tok_s {β : Nat → Nat} {n p : Nat} (hp : p ≤ n) : cKi β n p = 3 ↔ gSo β n p = 4 := by
  rw [tok_ki hp]
  have := gso_le β n p
  by_cases a : overT β n p
  · have := (g_over rfl a).2.2.1
    rw [if_pos a]; omega
  · rw [if_neg a]; (repeat' split) <;> omega
theorem tok_e {β : Nat → Nat} {n p : Nat} (hp : p ≤ n) : cKi β n p = 0 ↔ (overT β n p ∨ gSo β n p = 0) := by
  rw [tok_ki hp]
  have := gso_le β n p
  by_cases a : overT β n p
  · rw [if_pos a]; exact ⟨fun _ => Or.inl a, fun _ => rfl⟩
  · rw [if_neg a]
    constructor
    · intro h; right; (repeat' split at h) <;> omega
    · intro h
      rcases h with h | h
      · exact absurd h a
      · rw [if_pos h]
theorem ki_le (β : Nat → Nat) (n p : Nat) : cKi β n p ≤ 4 := by
  unfold cKi kRun; (repeat' split) <;> omega
theorem tok_row (f : Nat → Int32) (β : Nat → Nat) (n p : Nat) {h : Nat → Int32} (h0 : h 0 = zI (cNx β n p)) (h1 : h 1 = zI (cKi β n p)) (h2 : h 2 = zI (cPl β n p)) (h3 : h 3 = cNu β n p (f 3)) (ho : ∀ k, 4 ≤ k → h k = f k) : h = tokR f β n p := row4 h0 h1 h2 h3 (fun k hk => (ho k hk).trans (by unfold tokR upd; rw [if_neg (by omega), if_neg (by omega), if_neg (by omega), if_neg (by omega)]))
