def shR (g : GG) (ad : Nat → Nat) (b k : Nat) (f : Nat → Int32) : va_E :=
  if k = 0 then .inr (2, [.ref (ad (b + 1)), .ref (ad (b + 3)), .ref (ad (b + 9)), .ref (ad (b + 13)), .ref (ad (b + 18))])
  else if k = 1 then .inl (g.2 6, 1, rfs (fun i => ad (b + 1 + (1 + i))))
  else if k = 2 then .inl (g.2 0, 4, .inl f)
  else if k = 3 then .inl (g.2 6, 5, rfs (fun i => ad (b + 1 + (3 + i))))
  else if k < 9 then .inl (g.2 0, 9, .inl f)
  else if k = 9 then .inl (g.2 6, 3, rfs (fun i => ad (b + 1 + (9 + i))))
  else if k < 13 then .inl (g.2 0, 2, .inl f)
  else if k = 13 then .inl (g.2 6, 4, rfs (fun i => ad (b + 1 + (13 + i))))
  else if k < 18 then .inl (g.2 0, 2, .inl f)
  else .inl (g.2 0, 4, .inl f)
def shS (g : GG) (ad P : Nat → Nat) (w k : Nat) (f : Nat → Int32) : va_E :=
  if k = 0 then .inr (3, [.ref (ad (46 + 5 * w + 1)), .ref (ad (46 + 5 * w + 2)), .ref (ad (46 + 5 * w + 3)), .ref (ad (46 + 5 * w + 4)), .int (f 0), .int (f 1), .ref (ad (P (46 + 5 * w)))])
  else if k < 3 then .inl (g.2 0, 364, .inl f)
  else if k = 3 then .inl (g.2 2, 364, .inl f)
  else .inr (0, acF f)
def shT (g : GG) (ad : Nat → Nat) (j k : Nat) (f : Nat → Int32) : va_E :=
  if k = 0 then .inr (4, [.int (f 0), .int (f 1), .int (f 2), .int (f 3), .int (f 4), .ref (ad (66 + 6 * j + 1))])
  else if k = 1 then .inl (g.2 3, 4, rfs (fun i => ad (66 + 6 * j + (2 + i))))
  else .inr (0, acF f)
def sh (g : GG) (ad P : Nat → Nat) (i : Nat) (f : Nat → Int32) : va_E :=
  if i = 0 then .inr (8, [.ref (ad 1), .ref (ad 3), .ref (ad 5), .ref (ad 6), .ref (ad (P 0)), .ref (ad (P 1)), .int (f 0)])
  else if i = 1 then .inr (5, [.ref (ad 2), .int (f 0)])
  else if i = 2 then .inl (g.2 1, 740, .inl f)
  else if i = 3 then .inr (6, [.ref (ad 1), .ref (ad 4), .int (f 0), .int (f 1)])
  else if i = 4 then .inr (7, [.ref (ad 1), .int (f 0), .int (f 1), .int (f 2), .int (f 3)])
  else if i = 5 then .inl (g.2 4, 4, rfs (fun w => ad (46 + 5 * w)))
  else if i = 6 then .inr (1, [.ref (ad 7), .int (f 0), .int (f 1)])
  else if i = 7 then .inl (g.2 5, 10, rfs (fun j => ad (66 + 6 * j)))
  else if i < 27 then shR g ad 8 (i - 8) f
  else if i < 46 then shR g ad 27 (i - 27) f
  else if i < 66 then shS g ad P ((i - 46) / 5) ((i - 46) % 5) f
  else shT g ad ((i - 66) / 6) ((i - 66) % 6) f
def lc (g : GG) (ad P : Nat → Nat) (M : Nat → Nat → Int32) (i : Nat) : va_E := sh g ad P i (M i)
abbrev cw (g : GG) (ad P : Nat → Nat) (M : Nat → Nat → Int32) (H : Heap) : Prop := hbP g ad (lc g ad P M) H
theorem lcE {g : GG} {ad P : Nat → Nat} {M : Nat → Nat → Int32} {I : Nat} {f : Nat → Int32} {e : va_E} (h : M I = f) (hs : sh g ad P I f = e) : lc g ad P M I = e := by
  show sh g ad P I (M I) = e
  rw [h]; exact hs
theorem hbP_cg {g : GG} {ad : Nat → Nat} {ce c1 : Nat → va_E} {H : Heap} (h : ∀ i, i < 126 → ce i = c1 i) (hW : hbP g ad ce H) : hbP g ad c1 H := by
  have e : hbL ad ce = hbL ad c1 := by
    unfold hbL
    apply List.map_congr_left
    intro i hi
    rw [h i (List.mem_range.mp hi)]
  show gP g (hbL ad c1) H
  rw [← e]; exact hW
theorem lc_up {g : GG} {ad P : Nat → Nat} {M : Nat → Nat → Int32} {I : Nat} {f : Nat → Int32} : va_up (lc g ad P M) I (sh g ad P I f) = lc g ad P (va_up M I f) := by
  funext i
  by_cases h : i = I
  · subst h; rw [up_at]; show _ = sh g ad P i (va_up M i f i); rw [up_at]
  · rw [up_ne _ _ h]; show sh g ad P i (M i) = sh g ad P i (va_up M I f i); rw [up_ne _ _ h]
theorem cw_up {g : GG} {ad P : Nat → Nat} {M : Nat → Nat → Int32} {I : Nat} {f : Nat → Int32} {e : va_E} {H : Heap} (he : sh g ad P I f = e) (hW : hbP g ad (va_up (lc g ad P M) I e) H) : cw g ad P (va_up M I f) H := by
  subst he; rw [lc_up] at hW; exact hW
theorem cw_1 {g : GG} {ad P : Nat → Nat} {M : Nat → Nat → Int32} {c1 : Nat → va_E} {I : Nat} {f : Nat → Int32} {e : va_E} {H : Heap} (hW : hbP g ad c1 H) (m0 : c1 I = e) (he : sh g ad P I f = e) (hx : ∀ j, ¬ j = I → c1 j = lc g ad P M j) : cw g ad P (va_up M I f) H := by
  refine hbP_cg (fun i _ => ?_) hW
  rw [← lc_up]
  by_cases h : i = I
  · subst h; rw [up_at, he]; exact m0
  · rw [up_ne _ _ h]; exact hx i h
theorem cw_cg {g : GG} {ad P : Nat → Nat} {M M1 : Nat → Nat → Int32} {H : Heap} (h : ∀ i, i < 126 → sh g ad P i (M i) = sh g ad P i (M1 i)) (hW : cw g ad P M H) : cw g ad P M1 H := hbP_cg h hW
theorem sh_S {g : GG} {ad P : Nat → Nat} {w k : Nat} {f : Nat → Int32} (hw : w < 4) (hk : k < 5) : sh g ad P (46 + 5 * w + k) f = shS g ad P w k f := by
  unfold sh
  rw [if_neg (by omega), if_neg (by omega), if_neg (by omega), if_neg (by omega), if_neg (by omega), if_neg (by omega), if_neg (by omega), if_neg (by omega), if_neg (by omega), if_neg (by omega), if_pos (by omega), show (46 + 5 * w + k - 46) / 5 = w by omega, show (46 + 5 * w + k - 46) % 5 = k by omega]
theorem sh_T {g : GG} {ad P : Nat → Nat} {j k : Nat} {f : Nat → Int32} (hk : k < 6) : sh g ad P (66 + 6 * j + k) f = shT g ad j k f := by
  unfold sh
  rw [if_neg (by omega), if_neg (by omega), if_neg (by omega), if_neg (by omega), if_neg (by omega), if_neg (by omega), if_neg (by omega), if_neg (by omega), if_neg (by omega), if_neg (by omega), if_neg (by omega), show (66 + 6 * j + k - 66) / 6 = j by omega, show (66 + 6 * j + k - 66) % 6 = k by omega]
theorem sh_R {g : GG} {ad P : Nat → Nat} {b k : Nat} {f : Nat → Int32} (hb : b = 8 ∨ b = 27) (hk : k < 19) : sh g ad P (b + k) f = shR g ad b k f := by
  unfold sh
  rcases hb with rfl | rfl
  · rw [if_neg (by omega), if_neg (by omega), if_neg (by omega), if_neg (by omega), if_neg (by omega), if_neg (by omega), if_neg (by omega), if_neg (by omega), if_pos (by omega), show 8 + k - 8 = k by omega]
  · rw [if_neg (by omega), if_neg (by omega), if_neg (by omega), if_neg (by omega), if_neg (by omega), if_neg (by omega), if_neg (by omega), if_neg (by omega), if_neg (by omega), if_pos (by omega), show 27 + k - 27 = k by omega]
theorem sh_S0 {g : GG} {ad P : Nat → Nat} {w : Nat} {f : Nat → Int32} (hw : w < 4) : sh g ad P (46 + 5 * w) f = .inr (3, [.ref (ad (46 + 5 * w + 1)), .ref (ad (46 + 5 * w + 2)), .ref (ad (46 + 5 * w + 3)), .ref (ad (46 + 5 * w + 4)), .int (f 0), .int (f 1), .ref (ad (P (46 + 5 * w)))]) := (sh_S (k := 0) hw (by omega)).trans rfl
theorem sh_S1 {g : GG} {ad P : Nat → Nat} {w : Nat} {f : Nat → Int32} (hw : w < 4) : sh g ad P (46 + 5 * w + 1) f = .inl (g.2 0, 364, .inl f) := (sh_S hw (by omega)).trans rfl
theorem sh_S2 {g : GG} {ad P : Nat → Nat} {w : Nat} {f : Nat → Int32} (hw : w < 4) : sh g ad P (46 + 5 * w + 2) f = .inl (g.2 0, 364, .inl f) := (sh_S hw (by omega)).trans rfl
theorem sh_S3 {g : GG} {ad P : Nat → Nat} {w : Nat} {f : Nat → Int32} (hw : w < 4) : sh g ad P (46 + 5 * w + 3) f = .inl (g.2 2, 364, .inl f) := (sh_S hw (by omega)).trans rfl
theorem sh_S4 {g : GG} {ad P : Nat → Nat} {w : Nat} {f : Nat → Int32} (hw : w < 4) : sh g ad P (46 + 5 * w + 4) f = .inr (0, acF f) := (sh_S hw (by omega)).trans rfl
theorem sh_T0 {g : GG} {ad P : Nat → Nat} {j : Nat} {f : Nat → Int32} : sh g ad P (66 + 6 * j) f = .inr (4, [.int (f 0), .int (f 1), .int (f 2), .int (f 3), .int (f 4), .ref (ad (66 + 6 * j + 1))]) := (sh_T (k := 0) (by omega)).trans rfl
theorem sh_T1 {g : GG} {ad P : Nat → Nat} {j : Nat} {f : Nat → Int32} : sh g ad P (66 + 6 * j + 1) f = .inl (g.2 3, 4, rfs (fun i => ad (66 + 6 * j + (2 + i)))) := (sh_T (by omega)).trans rfl
theorem sh_T2 {g : GG} {ad P : Nat → Nat} {j i : Nat} {f : Nat → Int32} (hi : i < 4) : sh g ad P (66 + 6 * j + (2 + i)) f = .inr (0, acF f) := by
  rw [sh_T (by omega)]
  unfold shT
  rw [if_neg (by omega), if_neg (by omega)]
theorem gP_nil {g : GG} {H : Heap} : gP g [] H := fun k q hk => by simp at hk
theorem gP_cons {g : GG} {q : Nat × va_E} {ws : va_W} {H : Heap} (h1 : gP g [q] H) (h2 : gP g ws H) : gP g (q :: ws) H := by
  intro k q9 hk
  match k, hk with
  | 0, hk => exact h1 0 q9 hk
  | k + 1, hk => exact h2 k q9 hk
theorem cwR {g : GG} {ad P : Nat → Nat} {M : Nat → Nat → Int32} {H : Heap} (hW : cw g ad P M H) {b k : Nat} (hb : b = 8 ∨ b = 27) (hk : k < 19) {e : va_E} (he : shR g ad b k (M (b + k)) = e) : gP g [(ad (b + k), e)] H := hb1 hW (by omega) ((sh_R hb hk).trans he)
theorem cw_rules {g : GG} {ad P : Nat → Nat} {M : Nat → Nat → Int32} {H : Heap} (hW : cw g ad P M H) {b : Nat} (hb : b = 8 ∨ b = 27) : gP g (rW g (ad b) (fun k => ad (b + 1 + k)) (fun k => M (b + 1 + k))) H :=
  gP_cons (cwR hW (k := 0) hb (by omega) rfl) <| gP_cons (cwR hW (k := 1) hb (by omega) rfl) <| gP_cons (cwR hW (k := 2) hb (by omega) rfl) <| gP_cons (cwR hW (k := 3) hb (by omega) rfl) <| gP_cons (cwR hW (k := 4) hb (by omega) rfl) <| gP_cons (cwR hW (k := 5) hb (by omega) rfl) <| gP_cons (cwR hW (k := 6) hb (by omega) rfl) <| gP_cons (cwR hW (k := 7) hb (by omega) rfl) <| gP_cons (cwR hW (k := 8) hb (by omega) rfl) <| gP_cons (cwR hW (k := 9) hb (by omega) rfl) <| gP_cons (cwR hW (k := 10) hb (by omega) rfl) <| gP_cons (cwR hW (k := 11) hb (by omega) rfl) <| gP_cons (cwR hW (k := 12) hb (by omega) rfl) <| gP_cons (cwR hW (k := 13) hb (by omega) rfl) <| gP_cons (cwR hW (k := 14) hb (by omega) rfl) <| gP_cons (cwR hW (k := 15) hb (by omega) rfl) <| gP_cons (cwR hW (k := 16) hb (by omega) rfl) <| gP_cons (cwR hW (k := 17) hb (by omega) rfl) <| gP_cons (cwR hW (k := 18) hb (by omega) rfl) gP_nil
theorem cw_rdR {g : GG} {ad P : Nat → Nat} {M : Nat → Nat → Int32} {H : Heap} {N : Nat → Int32} (hW : cw g ad P M H) {b : Nat} (hb : b = 8 ∨ b = 27) (hR : RuR N (fun k => M (b + 1 + k))) : rdR g (ad b) N H := ⟨_, _, cw_rules hW hb, hR⟩
abbrev shM (N : Nat → Int32) (M : Nat → Nat → Int32) (w gd : Nat) : Prop := ShR N w (M (46 + 5 * w + 1)) (M (46 + 5 * w + 2)) (M (46 + 5 * w + 3)) (M (46 + 5 * w + 4)) (M (46 + 5 * w) 0) (M (46 + 5 * w) 1) gd
theorem cw_sheet {g : GG} {ad P : Nat → Nat} {M : Nat → Nat → Int32} {H : Heap} (hW : cw g ad P M H) {w : Nat} (hw : w < 4) : gP g (shW g (ad (46 + 5 * w)) (fun k => ad (46 + 5 * w + (1 + k))) (M (46 + 5 * w + 1)) (M (46 + 5 * w + 2)) (M (46 + 5 * w + 3)) (M (46 + 5 * w + 4)) (M (46 + 5 * w) 0) (M (46 + 5 * w) 1) (ad (P (46 + 5 * w)))) H :=
  gP_cons (hb1 hW (by omega) (sh_S0 hw)) <| gP_cons (hb1 hW (by omega) (sh_S1 hw)) <| gP_cons (hb1 hW (by omega) (sh_S2 hw)) <| gP_cons (hb1 hW (by omega) (sh_S3 hw)) <| gP_cons (hb1 hW (by omega) (sh_S4 hw)) gP_nil
theorem cw_rdS {g : GG} {ad P : Nat → Nat} {M : Nat → Nat → Int32} {H : Heap} {N : Nat → Int32} {w gd : Nat} (hW : cw g ad P M H) (hw : w < 4) (hP : P (46 + 5 * w) = 8 ∨ P (46 + 5 * w) = 27) (hS : shM N M w gd) (hR : RuR N (fun k => M (P (46 + 5 * w) + 1 + k))) : rdS g (ad (46 + 5 * w)) w N H :=
  ⟨_, _, _, _, _, _, _, _, gd, cw_sheet hW hw, hS, cw_rdR hW hP hR⟩
def pOK (P : Nat → Nat) : Prop := ((P 0 = 8 ∧ P 1 = 27) ∨ (P 0 = 27 ∧ P 1 = 8)) ∧ ∀ w, w < 4 → P (46 + 5 * w) = P 0
theorem pOK.r {P : Nat → Nat} (h : pOK P) : P 0 = 8 ∨ P 0 = 27 := by rcases h.1 with q | q <;> omega
theorem pOK.d {P : Nat → Nat} (h : pOK P) : P 1 = 8 ∨ P 1 = 27 := by rcases h.1 with q | q <;> omega
theorem pOK.s {P : Nat → Nat} (h : pOK P) {w : Nat} (hw : w < 4) : P (46 + 5 * w) = 8 ∨ P (46 + 5 * w) = 27 := by rw [h.2 w hw]; exact h.r
def shsM (N : Nat → Int32) (M : Nat → Nat → Int32) : Prop := ∀ w, w < 4 → w < mn N 57 → ∃ gd, shM N M w gd
theorem cw_rdH {g : GG} {ad P : Nat → Nat} {M : Nat → Nat → Int32} {H : Heap} {N : Nat → Int32} (hW : cw g ad P M H) (hP : pOK P) (hS : shsM N M) (hR : RuR N (fun k => M (P 0 + 1 + k))) (ht : M 0 0 = N 110) : rdH g (ad 0) N (M 6 1) (M 1 0) H :=
  ⟨ad 1, ad 3, ad 5, ad 6, ad (P 0), ad (P 1), fun w => ad (46 + 5 * w), ad 7, M 6 0, ad 2, by
    rw [← ht]
    exact gP_cons (hb1 hW (by omega) rfl) <| gP_cons (hb1 hW (by omega) rfl) <| gP_cons (hb1 hW (by omega) rfl) <| gP_cons (hb1 hW (by omega) rfl) gP_nil, fun i hi h2 => by
    obtain ⟨gd, h⟩ := hS i hi h2
    exact cw_rdS hW hi (hP.s hi) h (by rw [hP.2 i hi]; exact hR), cw_rdR hW hP.r hR⟩
theorem sh_0 {g : GG} {ad P : Nat → Nat} {f : Nat → Int32} : sh g ad P 0 f = .inr (8, [.ref (ad 1), .ref (ad 3), .ref (ad 5), .ref (ad 6), .ref (ad (P 0)), .ref (ad (P 1)), .int (f 0)]) := rfl
theorem sh_1 {g : GG} {ad P : Nat → Nat} {f : Nat → Int32} : sh g ad P 1 f = .inr (5, [.ref (ad 2), .int (f 0)]) := rfl
theorem sh_2 {g : GG} {ad P : Nat → Nat} {f : Nat → Int32} : sh g ad P 2 f = .inl (g.2 1, 740, .inl f) := rfl
theorem sh_3 {g : GG} {ad P : Nat → Nat} {f : Nat → Int32} : sh g ad P 3 f = .inr (6, [.ref (ad 1), .ref (ad 4), .int (f 0), .int (f 1)]) := rfl
theorem sh_4 {g : GG} {ad P : Nat → Nat} {f : Nat → Int32} : sh g ad P 4 f = .inr (7, [.ref (ad 1), .int (f 0), .int (f 1), .int (f 2), .int (f 3)]) := rfl
theorem sh_5 {g : GG} {ad P : Nat → Nat} {f : Nat → Int32} : sh g ad P 5 f = .inl (g.2 4, 4, rfs (fun w => ad (46 + 5 * w))) := rfl
theorem sh_6 {g : GG} {ad P : Nat → Nat} {f : Nat → Int32} : sh g ad P 6 f = .inr (1, [.ref (ad 7), .int (f 0), .int (f 1)]) := rfl
theorem sh_7 {g : GG} {ad P : Nat → Nat} {f : Nat → Int32} : sh g ad P 7 f = .inl (g.2 5, 10, rfs (fun j => ad (66 + 6 * j))) := rfl
theorem sh_R0 {g : GG} {ad P : Nat → Nat} {b : Nat} {f : Nat → Int32} (hb : b = 8 ∨ b = 27) : sh g ad P b f = .inr (2, [.ref (ad (b + 1)), .ref (ad (b + 3)), .ref (ad (b + 9)), .ref (ad (b + 13)), .ref (ad (b + 18))]) := (sh_R (k := 0) hb (by omega)).trans rfl
theorem sh_Rr1 {g : GG} {ad P : Nat → Nat} {b : Nat} {f : Nat → Int32} (hb : b = 8 ∨ b = 27) : sh g ad P (b + 1) f = .inl (g.2 6, 1, rfs (fun i => ad (b + 1 + (1 + i)))) := (sh_R hb (by omega)).trans rfl
theorem sh_Rr3 {g : GG} {ad P : Nat → Nat} {b : Nat} {f : Nat → Int32} (hb : b = 8 ∨ b = 27) : sh g ad P (b + 3) f = .inl (g.2 6, 5, rfs (fun i => ad (b + 1 + (3 + i)))) := (sh_R hb (by omega)).trans rfl
theorem sh_Rr9 {g : GG} {ad P : Nat → Nat} {b : Nat} {f : Nat → Int32} (hb : b = 8 ∨ b = 27) : sh g ad P (b + 9) f = .inl (g.2 6, 3, rfs (fun i => ad (b + 1 + (9 + i)))) := (sh_R hb (by omega)).trans rfl
theorem sh_Rr13 {g : GG} {ad P : Nat → Nat} {b : Nat} {f : Nat → Int32} (hb : b = 8 ∨ b = 27) : sh g ad P (b + 13) f = .inl (g.2 6, 4, rfs (fun i => ad (b + 1 + (13 + i)))) := (sh_R hb (by omega)).trans rfl
theorem sh_R18 {g : GG} {ad P : Nat → Nat} {b : Nat} {f : Nat → Int32} (hb : b = 8 ∨ b = 27) : sh g ad P (b + 18) f = .inl (g.2 0, 4, .inl f) := (sh_R hb (by omega)).trans rfl
theorem sh_Rk {g : GG} {ad P : Nat → Nat} {b k : Nat} {f : Nat → Int32} (hb : b = 8 ∨ b = 27) (hk : k < 18) : sh g ad P (b + 1 + k) f = shR g ad b (1 + k) f := by
  rw [Nat.add_assoc]; exact sh_R hb (by omega)
theorem sh_Rw1 {g : GG} {ad P : Nat → Nat} {b i : Nat} {f : Nat → Int32} (hb : b = 8 ∨ b = 27) (hi : i < 1) : sh g ad P (b + 1 + (1 + i)) f = .inl (g.2 0, 4, .inl f) := by
  obtain rfl : i = 0 := by omega
  exact (sh_Rk hb (by omega)).trans rfl
theorem sh_Rw3 {g : GG} {ad P : Nat → Nat} {b i : Nat} {f : Nat → Int32} (hb : b = 8 ∨ b = 27) (hi : i < 5) : sh g ad P (b + 1 + (3 + i)) f = .inl (g.2 0, 9, .inl f) := by
  rw [sh_Rk hb (by omega)]; unfold shR
  rw [if_neg (by omega), if_neg (by omega), if_neg (by omega), if_neg (by omega), if_pos (by omega)]
theorem sh_Rw9 {g : GG} {ad P : Nat → Nat} {b i : Nat} {f : Nat → Int32} (hb : b = 8 ∨ b = 27) (hi : i < 3) : sh g ad P (b + 1 + (9 + i)) f = .inl (g.2 0, 2, .inl f) := by
  rw [sh_Rk hb (by omega)]; unfold shR
  rw [if_neg (by omega), if_neg (by omega), if_neg (by omega), if_neg (by omega), if_neg (by omega), if_neg (by omega), if_pos (by omega)]
theorem sh_Rw13 {g : GG} {ad P : Nat → Nat} {b i : Nat} {f : Nat → Int32} (hb : b = 8 ∨ b = 27) (hi : i < 4) : sh g ad P (b + 1 + (13 + i)) f = .inl (g.2 0, 2, .inl f) := by
  rw [sh_Rk hb (by omega)]; unfold shR
  rw [if_neg (by omega), if_neg (by omega), if_neg (by omega), if_neg (by omega), if_neg (by omega), if_neg (by omega), if_neg (by omega), if_neg (by omega), if_pos (by omega)]
theorem sh_P {g : GG} {ad P P1 : Nat → Nat} {i : Nat} {f : Nat → Int32} (h0 : i = 0 → P 0 = P1 0 ∧ P 1 = P1 1) (hw : ∀ w, w < 4 → i = 46 + 5 * w → P (46 + 5 * w) = P1 (46 + 5 * w)) (hi : i < 126) : sh g ad P i f = sh g ad P1 i f := by
  unfold sh
  by_cases q : i = 0
  · rw [if_pos q, if_pos q, (h0 q).1, (h0 q).2]
  · rw [if_neg q, if_neg q]
    by_cases q2 : 46 ≤ i ∧ i < 66
    · have e : shS g ad P ((i - 46) / 5) ((i - 46) % 5) f = shS g ad P1 ((i - 46) / 5) ((i - 46) % 5) f := by
        unfold shS
        by_cases q3 : (i - 46) % 5 = 0
        · rw [if_pos q3, if_pos q3, hw ((i - 46) / 5) (by omega) (by omega)]
        · rw [if_neg q3, if_neg q3]
      rw [e]
    · by_cases q4 : i < 46
      · rw [if_pos q4, if_pos q4]
      · rw [if_neg q4, if_neg q4, if_neg (show ¬ i < 66 by omega), if_neg (show ¬ i < 66 by omega)]
theorem cw_P {g : GG} {ad P P1 : Nat → Nat} {M : Nat → Nat → Int32} {H : Heap} (h0 : P 0 = P1 0 ∧ P 1 = P1 1) (hw : ∀ w, w < 4 → P (46 + 5 * w) = P1 (46 + 5 * w)) (hW : cw g ad P M H) : cw g ad P1 M H :=
  hbP_cg (fun i hi => sh_P (fun _ => h0) (fun w h _ => hw w h) hi) hW
theorem cw_ptr {g : GG} {ad P P1 : Nat → Nat} {M : Nat → Nat → Int32} {H : Heap} {I : Nat} {e : va_E} (he : sh g ad P1 I (M I) = e) (h0 : I ≠ 0 → P 0 = P1 0 ∧ P 1 = P1 1) (hw : ∀ w, w < 4 → 46 + 5 * w ≠ I → P (46 + 5 * w) = P1 (46 + 5 * w)) (hW : hbP g ad (va_up (lc g ad P M) I e) H) : cw g ad P1 M H := by
  refine hbP_cg (fun i hi => ?_) hW
  by_cases q : i = I
  · subst q; rw [up_at, ← he]; rfl
  · rw [up_ne _ _ q]
    exact sh_P (fun z => h0 (fun z2 => q (by omega))) (fun w h z => hw w h (by omega)) hi
