abbrev isLt (b : Nat) : Prop := 97 ≤ b ∧ b ≤ 122
abbrev isDt (b : Nat) : Prop := 48 ≤ b ∧ b ≤ 57
def skp (β : Nat → Nat) (n : Nat) : Nat → Nat → Nat
  | 0, p => p
  | f + 1, p => if p < n ∧ (β p = 32 ∨ β p = 10) then skp β n f (p + 1) else p
def skipT (β : Nat → Nat) (n p : Nat) : Nat := skp β n (n - p) p
def rnp (β : Nat → Nat) (n : Nat) : Nat → Nat → Nat
  | 0, p => p
  | f + 1, p => if p < n ∧ (isLt (β p) ∨ isDt (β p)) then rnp β n f (p + 1) else p
def rendT (β : Nat → Nat) (n p : Nat) : Nat := rnp β n (n - p) p
theorem skip_s {β : Nat → Nat} {n p : Nat} (h : p < n ∧ (β p = 32 ∨ β p = 10)) : skipT β n p = skipT β n (p + 1) := by
  unfold skipT
  rw [show n - p = (n - (p + 1)) + 1 by omega, skp, if_pos h]
theorem skip_x {β : Nat → Nat} {n p : Nat} (h : ¬ (p < n ∧ (β p = 32 ∨ β p = 10))) : skipT β n p = p := by
  unfold skipT
  cases n - p with
  | zero => rfl
  | succ f => rw [skp, if_neg h]
theorem rend_s {β : Nat → Nat} {n p : Nat} (h : p < n ∧ (isLt (β p) ∨ isDt (β p))) : rendT β n p = rendT β n (p + 1) := by
  unfold rendT
  rw [show n - p = (n - (p + 1)) + 1 by omega, rnp, if_pos h]
theorem rend_x {β : Nat → Nat} {n p : Nat} (h : ¬ (p < n ∧ (isLt (β p) ∨ isDt (β p)))) : rendT β n p = p := by
  unfold rendT
  cases n - p with
  | zero => rfl
  | succ f => rw [rnp, if_neg h]
theorem skp_ge (β : Nat → Nat) (n : Nat) : ∀ f p, p ≤ skp β n f p
  | 0, p => Nat.le_refl p
  | f + 1, p => by
    rw [skp]; split
    · exact Nat.le_trans (Nat.le_succ p) (skp_ge β n f (p + 1))
    · exact Nat.le_refl p
theorem skp_le (β : Nat → Nat) (n : Nat) : ∀ f p, p ≤ n → skp β n f p ≤ n
  | 0, p, h => h
  | f + 1, p, h => by
    rw [skp]; split
    · rename_i q; exact skp_le β n f (p + 1) q.1
    · exact h
theorem rnp_ge (β : Nat → Nat) (n : Nat) : ∀ f p, p ≤ rnp β n f p
  | 0, p => Nat.le_refl p
  | f + 1, p => by
    rw [rnp]; split
    · exact Nat.le_trans (Nat.le_succ p) (rnp_ge β n f (p + 1))
    · exact Nat.le_refl p
theorem rnp_le (β : Nat → Nat) (n : Nat) : ∀ f p, p ≤ n → rnp β n f p ≤ n
  | 0, p, h => h
  | f + 1, p, h => by
    rw [rnp]; split
    · rename_i q; exact rnp_le β n f (p + 1) q.1
    · exact h
def gdT (β : Nat → Nat) (q : Nat) : Nat → Nat
  | 0 => 1
  | j + 1 => if gdT β q j = 1 ∧ (isLt (β (q + j)) ↔ isLt (β q)) then 1 else 0
def wvT (β : Nat → Nat) (q : Nat) : Nat → Int
  | 0 => 0
  | j + 1 => if j < 7 then 27 * wvT β q j + β (q + j) - 96 else wvT β q j
def nvT (β : Nat → Nat) (q : Nat) : Nat → Int
  | 0 => 0
  | j + 1 => if j < 4 then 10 * nvT β q j + β (q + j) - 48 else nvT β q j
theorem gd_01 (β : Nat → Nat) (q : Nat) : ∀ j, gdT β q j = 0 ∨ gdT β q j = 1
  | 0 => Or.inr rfl
  | j + 1 => by
    rw [gdT]; split
    · exact Or.inr rfl
    · exact Or.inl rfl
theorem wv_b {β : Nat → Nat} {q : Nat} : ∀ j, (∀ i, i < j → β (q + i) < 256) → -10000000000000 ≤ wvT β q j ∧ wvT β q j ≤ 10000000000000 ∧ (j ≤ 7 → -(97 * 28 ^ j : Int) ≤ wvT β q j ∧ wvT β q j ≤ 160 * 28 ^ j)
  | 0, _ => by simp [wvT]
  | j + 1, h => by
    have h1 := wv_b j (fun i hi => h i (by omega))
    have h2 := h j (by omega)
    rw [wvT]
    have h3 : (28 : Int) ^ (j + 1) = 28 * 28 ^ j := by rw [Int.pow_succ]; omega
    have h5 : (0 : Int) < 28 ^ j := Int.pow_pos (by omega)
    have h4 : j ≤ 6 → (28 : Int) ^ j ≤ 481890304 := fun hj => by
      match j, hj with
      | 0, _ => decide
      | 1, _ => decide
      | 2, _ => decide
      | 3, _ => decide
      | 4, _ => decide
      | 5, _ => decide
      | 6, _ => decide
    rw [h3]
    split
    · rename_i hj
      have h6 := h1.2.2 (by omega)
      have h7 := h4 (by omega)
      refine ⟨?_, ?_, fun _ => ⟨?_, ?_⟩⟩ <;> omega
    · refine ⟨?_, ?_, fun _ => ⟨?_, ?_⟩⟩ <;> omega
theorem nv_b {β : Nat → Nat} {q : Nat} : ∀ j, (∀ i, i < j → β (q + i) < 256) → -1000000 ≤ nvT β q j ∧ nvT β q j ≤ 1000000 ∧ (j = 0 → nvT β q j = 0) ∧ (j = 1 → -48 ≤ nvT β q j ∧ nvT β q j ≤ 207) ∧ (j = 2 → -528 ≤ nvT β q j ∧ nvT β q j ≤ 2277) ∧ (j = 3 → -5328 ≤ nvT β q j ∧ nvT β q j ≤ 22977)
  | 0, _ => by simp [nvT]
  | j + 1, h => by
    have h1 := nv_b j (fun i hi => h i (by omega))
    have h2 := h j (by omega)
    rw [nvT]
    split
    · refine ⟨?_, ?_, ?_, ?_, ?_, ?_⟩ <;> omega
    · refine ⟨?_, ?_, ?_, ?_, ?_, ?_⟩ <;> omega
abbrev overT (β : Nat → Nat) (n p : Nat) : Prop := 700 < n ∧ 700 ≤ skipT β n p
abbrev ldT (b : Nat) : Prop := isLt b ∨ isDt b
def runS (β : Nat → Nat) (q e : Nat) : Nat := if gdT β q (e - q) = 0 ∨ (¬ isLt (β q) ∧ 4 < e - q) then 1 else if isLt (β q) then 2 else 3
def gFr (β : Nat → Nat) (n p : Nat) : Nat := if overT β n p then 700 else skipT β n p
def gSo (β : Nat → Nat) (n p : Nat) : Nat := if overT β n p then 1 else if n ≤ skipT β n p then 0 else if ldT (β (skipT β n p)) then runS β (skipT β n p) (rendT β n (skipT β n p)) else if β (skipT β n p) = 59 then 4 else 1
def gTo (β : Nat → Nat) (n p : Nat) : Nat := if overT β n p then skipT β n p else if n ≤ skipT β n p then skipT β n p else if ldT (β (skipT β n p)) then rendT β n (skipT β n p) else skipT β n p + 1
def gLen (β : Nat → Nat) (n p : Nat) : Nat := rendT β n (skipT β n p) - skipT β n p
def gNu (β : Nat → Nat) (n p : Nat) (o : Int32) : Int32 := if overT β n p then o else if n ≤ skipT β n p then o else if ldT (β (skipT β n p)) then zI (nvT β (skipT β n p) (gLen β n p)) else o
def gWo (β : Nat → Nat) (n p : Nat) (o : Int64) : Int64 := if overT β n p then o else if n ≤ skipT β n p then o else if ldT (β (skipT β n p)) then zL (wvT β (skipT β n p) (gLen β n p)) else o
def okT (tp : Nat → Int32) : Prop := ∀ i, i < 740 → isN tp i 255
def tAt (tp : Nat → Int32) (n p : Nat) : Nat := if p < n then mn tp p else 0
theorem tAt_ld {tp : Nat → Int32} {n p : Nat} (h : ldT (tAt tp n p)) : p < n ∧ ldT (mn tp p) := by
  unfold tAt at h
  split at h
  · rename_i q; exact ⟨q, h⟩
  · unfold ldT isLt isDt at h; omega
theorem tAt_no {tp : Nat → Int32} {n p : Nat} (h : ¬ ldT (tAt tp n p)) : ¬ (p < n ∧ ldT (mn tp p)) := by
  intro q
  unfold tAt at h
  rw [if_pos q.1] at h
  exact h q.2
theorem tAt_le {tp : Nat → Int32} {n p : Nat} (hT : okT tp) (hn : n ≤ 740) : tAt tp n p ≤ 255 := by
  unfold tAt; split
  · exact (hT p (by omega)).le
  · omega
theorem wv_s1 {β : Nat → Nat} {q j : Nat} (h : j < 7) : wvT β q (j + 1) = 27 * wvT β q j + β (q + j) - 96 := by rw [wvT, if_pos h]
theorem wv_s2 {β : Nat → Nat} {q j : Nat} (h : ¬ j < 7) : wvT β q (j + 1) = wvT β q j := by rw [wvT, if_neg h]
theorem nv_s1 {β : Nat → Nat} {q j : Nat} (h : j < 4) : nvT β q (j + 1) = 10 * nvT β q j + β (q + j) - 48 := by rw [nvT, if_pos h]
theorem nv_s2 {β : Nat → Nat} {q j : Nat} (h : ¬ j < 4) : nvT β q (j + 1) = nvT β q j := by rw [nvT, if_neg h]
theorem go_end {g : GG} {a : Nat → Nat} {sc : Nat → Int32} {wd w' : Int64} {tp N rd sn : Nat → Int32} {n p : Nat} {x y z : Int} {v : Int32} {H : Heap} (e3 : (gTo (mn tp) n p : Int) = x) (e4 : (gFr (mn tp) n p : Int) = y) (e5 : (gSo (mn tp) n p : Int) = z) (e6 : gNu (mn tp) n p (sc 6) = v) (ew : gWo (mn tp) n p wd = w') (hP : gP g (mW g a (upd (upd (upd (upd sc 3 (zI x)) 4 (zI y)) 5 (zI z)) 6 v) w' tp N rd sn) H) : gP g (mW g a (upd (upd (upd (upd sc 3 (zI (gTo (mn tp) n p))) 4 (zI (gFr (mn tp) n p))) 5 (zI (gSo (mn tp) n p))) 6 (gNu (mn tp) n p (sc 6))) (gWo (mn tp) n p wd) tp N rd sn) H := by
  rw [e3, e4, e5, e6, ew]; exact hP
theorem go_end3 {g : GG} {a : Nat → Nat} {sc : Nat → Int32} {wd : Int64} {tp N rd sn : Nat → Int32} {n p : Nat} {x y z : Int} {H : Heap} (e3 : (gTo (mn tp) n p : Int) = x) (e4 : (gFr (mn tp) n p : Int) = y) (e5 : (gSo (mn tp) n p : Int) = z) (e6 : gNu (mn tp) n p (sc 6) = sc 6) (ew : gWo (mn tp) n p wd = wd) (hP : gP g (mW g a (upd (upd (upd sc 3 (zI x)) 4 (zI y)) 5 (zI z)) wd tp N rd sn) H) : gP g (mW g a (upd (upd (upd (upd sc 3 (zI (gTo (mn tp) n p))) 4 (zI (gFr (mn tp) n p))) 5 (zI (gSo (mn tp) n p))) 6 (gNu (mn tp) n p (sc 6))) (gWo (mn tp) n p wd) tp N rd sn) H :=
  go_end e3 e4 e5 e6 ew (by rw [upd_same (f := upd (upd (upd sc 3 (zI x)) 4 (zI y)) 5 (zI z)) (k := 6) (x := sc 6) rfl]; exact hP)
theorem g_over {β : Nat → Nat} {n p q : Nat} (hq : q = skipT β n p) (h : 700 < n ∧ 700 ≤ q) : gTo β n p = q ∧ gFr β n p = 700 ∧ gSo β n p = 1 ∧ (∀ o, gNu β n p o = o) ∧ ∀ o, gWo β n p o = o := by
  subst hq
  exact ⟨if_pos h, if_pos h, if_pos h, fun _ => if_pos h, fun _ => if_pos h⟩
theorem g_stop {β : Nat → Nat} {n p q : Nat} (hq : q = skipT β n p) (h : ¬ (700 < n ∧ 700 ≤ q)) (h2 : n ≤ q) : gTo β n p = q ∧ gFr β n p = q ∧ gSo β n p = 0 ∧ (∀ o, gNu β n p o = o) ∧ ∀ o, gWo β n p o = o := by
  subst hq
  exact ⟨(if_neg h).trans (if_pos h2), if_neg h, (if_neg h).trans (if_pos h2), fun _ => (if_neg h).trans (if_pos h2), fun _ => (if_neg h).trans (if_pos h2)⟩
theorem g_sign {β : Nat → Nat} {n p q : Nat} (hq : q = skipT β n p) (h : ¬ (700 < n ∧ 700 ≤ q)) (h2 : ¬ n ≤ q) (h3 : ¬ ldT (β q)) : gTo β n p = q + 1 ∧ gFr β n p = q ∧ gSo β n p = (if β q = 59 then 4 else 1) ∧ (∀ o, gNu β n p o = o) ∧ ∀ o, gWo β n p o = o := by
  subst hq
  exact ⟨(if_neg h).trans ((if_neg h2).trans (if_neg h3)), if_neg h, (if_neg h).trans ((if_neg h2).trans (if_neg h3)), fun _ => (if_neg h).trans ((if_neg h2).trans (if_neg h3)), fun _ => (if_neg h).trans ((if_neg h2).trans (if_neg h3))⟩
theorem g_run {β : Nat → Nat} {n p q e : Nat} (hq : q = skipT β n p) (h : ¬ (700 < n ∧ 700 ≤ q)) (h2 : ¬ n ≤ q) (h3 : ldT (β q)) (he : rendT β n q = e) : gTo β n p = e ∧ gFr β n p = q ∧ gSo β n p = runS β q e ∧ (∀ o, gNu β n p o = zI (nvT β q (e - q))) ∧ ∀ o, gWo β n p o = zL (wvT β q (e - q)) := by
  subst hq; subst he
  exact ⟨(if_neg h).trans ((if_neg h2).trans (if_pos h3)), if_neg h, (if_neg h).trans ((if_neg h2).trans (if_pos h3)), fun _ => (if_neg h).trans ((if_neg h2).trans (if_pos h3)), fun _ => (if_neg h).trans ((if_neg h2).trans (if_pos h3))⟩
