theorem close_in {N : Nat → Int32} {w j : Nat} (h1 : ¬ (58 + 13 * w + 2 ≤ j ∧ j ≤ 58 + 13 * w + 7)) (h2 : j ≠ 111 + 364 * w + mn N 110) : closeN N w j = N j := by
  unfold closeN
  split
  · rw [upd_ne _ h2, cls_in h1]
  · exact cls_in h1
theorem ed_in {N : Nat → Int32} {j : Nat} : ∀ i, i ≤ 4 → (∀ v, v < i → ¬ (58 + 13 * v + 2 ≤ j ∧ j ≤ 58 + 13 * v + 7) ∧ j ≠ 111 + 364 * v + mn N 110) → edN N i j = N j
  | 0, _, _ => rfl
  | i + 1, hi, h => by
    have e : mn (edN N i) 110 = mn N 110 := ed_mn (by omega) (by omega)
    rw [edN]
    split
    · rw [close_in (h i (by omega)).1 (by rw [e]; exact (h i (by omega)).2)]
      exact ed_in i (by omega) (fun v hv => h v (by omega))
    · exact ed_in i (by omega) (fun v hv => h v (by omega))
def edI (N : Nat → Int32) (M A : Nat → Nat → Int32) (i : Nat) : Prop :=
  (∀ j, ¬ (46 ≤ j ∧ j < 66 ∧ ((j - 46) % 5 = 3 ∨ (j - 46) % 5 = 4)) → A j = M j) ∧ (∀ v, v < 4 → v < mn N 57 → ∃ gd, shM (edN N i) A v gd) ∧ (∀ v, v < 4 → ∀ e, e ≠ mn N 110 → A (46 + 5 * v + 3) e = M (46 + 5 * v + 3) e) ∧ ∀ v, i ≤ v → v < 4 → A (46 + 5 * v + 3) = M (46 + 5 * v + 3)
theorem edI_0 {N : Nat → Int32} {M : Nat → Nat → Int32} (h : shsM N M) : edI N M M 0 := ⟨fun _ _ => rfl, h, fun _ _ _ _ => rfl, fun _ _ _ => rfl⟩
theorem edI_g {N : Nat → Int32} {M A : Nat → Nat → Int32} {i : Nat} (h : edI N M A i) (hg : ¬ goneN (edN N i) i = 0) : edI N M A (i + 1) := by
  refine ⟨h.1, ?_, h.2.2.1, fun v h1 h2 => h.2.2.2 v (by omega) h2⟩
  rw [edN, if_neg hg]; exact h.2.1
theorem edI_s {N : Nat → Int32} {M A B : Nat → Nat → Int32} {i gd : Nat} (hi : i < 4) (ht9 : mn N 110 < 364) (h : edI N M A i) (hg : goneN (edN N i) i = 0) (hq : clQ (edN N i) A B i gd) : edI N M B (i + 1) := by
  have e110 : mn (edN N i) 110 = mn N 110 := ed_mn (by omega) (by omega)
  obtain ⟨q1, q2, q3⟩ := hq
  refine ⟨fun j hj => (q2 j (by omega) (by omega)).trans (h.1 j hj), fun v hv hv2 => ?_, fun v hv e he => ?_, fun v h1 h2 => (q2 _ (by omega) (by omega)).trans (h.2.2.2 v (by omega) h2)⟩
  · rw [edN, if_pos hg]
    by_cases q : v = i
    · subst q; exact ⟨gd, q1⟩
    · obtain ⟨gd2, z⟩ := h.2.1 v hv hv2
      refine ⟨gd2, ?_⟩
      show ShR (closeN (edN N i) i) v (B (46 + 5 * v + 1)) (B (46 + 5 * v + 2)) (B (46 + 5 * v + 3)) (B (46 + 5 * v + 4)) (B (46 + 5 * v) 0) (B (46 + 5 * v) 1) gd2
      rw [q2 (46 + 5 * v + 1) (by omega) (by omega), q2 (46 + 5 * v + 2) (by omega) (by omega), q2 (46 + 5 * v + 3) (by omega) (by omega), q2 (46 + 5 * v + 4) (by omega) (by omega), q2 (46 + 5 * v) (by omega) (by omega)]
      have ht := (ed_mn (N := N) (k := 110) (by omega) (show i ≤ 4 by omega))
      refine ShR_cg (fun k hk => close_in (by omega) (by omega)) (fun d hd => close_in (by omega) ?_) (by rw [mn_cg (close_lo hi (by omega))]; exact Nat.le_refl _) z
      omega
  · by_cases q : v = i
    · subst q; rw [q3 e (by omega)]; exact h.2.2.1 v hv e he
    · rw [q2 (46 + 5 * v + 3) (by omega) (by omega)]; exact h.2.2.1 v hv e he
theorem ed_ru {N : Nat → Int32} {f : Nat → Nat → Int32} (hN : okN N) (h : RuR N f) {i : Nat} (hi : i ≤ 4) : RuR (edN N i) f :=
  RuR_N (fun k hk => ed_lo (by omega) i hi) (fun v hv => ⟨ed_in i hi (fun u hu => ⟨by omega, by omega⟩), ed_in i hi (fun u hu => ⟨by omega, by omega⟩)⟩) hN.nw.le hN.ns.le hN.nn.le h
theorem INV_end {P : Nat → Nat} {M R A B : Nat → Nat → Int32} {N sn : Nat → Int32} {k nx : Nat} (hI : INV P M N sn k) (hnx : nx < 10) (hn : M 6 0 = zI nx) (ht : mn N 110 < 364)
    (h6 : R 6 = upd (upd (M 6) 0 (zI (((nx + 1) % 10 : Nat) : Int))) 1 (zI ((min (k + 1) 10 : Nat) : Int)))
    (hst : R (66 + 6 * nx) = upd (upd (M (66 + 6 * nx)) 0 (M 0 0)) 1 (zI (-1)))
    (hc0 : R (66 + 6 * nx + (2 + 0)) = M (46 + 5 * 0 + 4)) (hc1 : R (66 + 6 * nx + (2 + 1)) = M (46 + 5 * 1 + 4)) (hc2 : R (66 + 6 * nx + (2 + 2)) = M (46 + 5 * 2 + 4)) (hc3 : R (66 + 6 * nx + (2 + 3)) = M (46 + 5 * 3 + 4))
    (ho : ∀ j, j ≠ 6 → ¬ (66 + 6 * nx ≤ j ∧ j < 66 + 6 * nx + 6 ∧ j ≠ 66 + 6 * nx + 1) → R j = M j)
    (hE : edI N R A (mn N 57)) (hB0 : B 0 0 = zI ((mn N 110 + 1 : Nat) : Int)) (hB : ∀ j, j ≠ 0 → B j = A j) : INV P B (endN N) (snS sn N k) (min (k + 1) 10) := by
  have hP := hI.1
  have hc := hI.2.1
  have hcc := hc
  obtain ⟨hN, hZ, hs, hR, hS, h0, hf⟩ := hc
  have h57 := hN.nw.le
  have eO : ∀ j, j ≠ 0 → ¬ (46 ≤ j ∧ j < 66 ∧ ((j - 46) % 5 = 3 ∨ (j - 46) % 5 = 4)) → B j = R j := fun j h1 h2 => (hB j h1).trans (hE.1 j h2)
  have s0 : B (66 + 6 * nx) = upd (upd (M (66 + 6 * nx)) 0 (M 0 0)) 1 (zI (-1)) := (eO _ (by omega) (by omega)).trans hst
  have b6 : B 6 = upd (upd (M 6) 0 (zI (((nx + 1) % 10 : Nat) : Int))) 1 (zI ((min (k + 1) 10 : Nat) : Int)) := (eO _ (by omega) (by omega)).trans h6
  have hfl : ∀ v, v < 4 → ∀ e, e ≠ mn N 110 → B (46 + 5 * v + 3) e = M (46 + 5 * v + 3) e := fun v hv e he => by
    rw [hB _ (by omega), hE.2.2.1 v hv e he, ho _ (by omega) (by omega)]
  have eN : ∀ j, j ≠ 110 → endN N j = edN N (mn N 57) j := fun j hj => upd_ne _ hj _
  have n110 : endN N 110 = zI ((mn N 110 + 1 : Nat) : Int) := upd_at _ _ _
  have m110 : mn (endN N) 110 = mn N 110 + 1 := mn_of n110 (by omega)
  have m57 : mn (endN N) 57 = mn N 57 := (mn_cg (eN 57 (by omega))).trans (ed_mn (by omega) h57)
  refine INV_act hI hnx hn (Or.inl (by rw [s0]; rfl)) (tkD_back (w := 0) (d := 0) hnx (by rw [s0]; rfl) (fun v hv => ?_) (fun v hv e => ⟨fun z => (cR_fl (A := M) hcc (fun _ _ => rfl) v hv e).1 z, fun z => hfl v hv e (fun q => z ⟨by omega, by rw [h0, hN.td.eq, q]⟩)⟩) (fun v hv => ?_) (fun i h1 h2 => ?_) (Or.inl ⟨by rw [s0]; rfl, fun v hv q hq => ?_⟩)) (fun j hj hjn i hi => ?_) (by rw [b6]; rfl) (by rw [b6]; rfl) ?_
  · rw [eO _ (by omega) (by omega)]
    rcases (by omega : v = 0 ∨ v = 1 ∨ v = 2 ∨ v = 3) with rfl | rfl | rfl | rfl
    · exact hc0
    · exact hc1
    · exact hc2
    · exact hc3
  · rw [eO _ (by omega) (by omega), ho _ (by omega) (by omega)]
  · rw [eO _ (by omega) (by omega), ho _ (by omega) (by omega)]
  · rw [eO _ (by omega) (by omega), ho _ (by omega) (by omega)]
  · rw [eO _ (by omega) (by omega), ho _ (by omega) (by omega)]
  · refine ⟨okN_td (okN_ed hN ht _ h57) (by omega), fun j hj => ?_, fun w hw hw2 hg => ?_, ?_, fun v hv hv2 => ?_, hB0.trans n110.symm, fun w hw d h1 h2 => ?_⟩
    · rw [eN j (by omega), ed_in _ h57 (fun v hv => ⟨by omega, by omega⟩)]; exact hZ j hj
    · have e9 : endN N (67 + 13 * w) = N (67 + 13 * w) := (eN _ (by omega)).trans (ed_in _ h57 (fun v hv => ⟨by omega, by omega⟩))
      rw [eN _ (by omega), ed_in _ h57 (fun v hv => ⟨by omega, by omega⟩)]
      exact hs w hw (by omega) (by rw [← gone_cg e9]; exact hg)
    · refine RuR_cg (f := fun k => M (P 0 + 1 + k)) (RuR_N (N := edN N (mn N 57)) (fun q hq => eN q (by omega)) (fun v hv => ⟨eN _ (by omega), eN _ (by omega)⟩) (by rw [ed_mn (by omega) h57]; exact h57) (by rw [ed_mn (by omega) h57]; exact hN.ns.le) (by rw [ed_mn (by omega) h57]; exact hN.nn.le) (ed_ru hN hR h57)) (fun q hq => ?_) (by rw [mn_cg (eN 4 (by omega)), ed_mn (by omega) h57]; exact hN.ns.le) (by rw [mn_cg (eN 50 (by omega)), ed_mn (by omega) h57]; exact hN.nn.le) (by rw [m57]; exact h57)
      have hp := hP.r
      rw [eO _ (by omega) (by omega), ho _ (by omega) (by omega)]
    · rw [m57] at hv2
      obtain ⟨gd, z⟩ := hE.2.1 v hv hv2
      refine ⟨gd, ?_⟩
      show ShR (endN N) v (B (46 + 5 * v + 1)) (B (46 + 5 * v + 2)) (B (46 + 5 * v + 3)) (B (46 + 5 * v + 4)) (B (46 + 5 * v) 0) (B (46 + 5 * v) 1) gd
      rw [hB _ (by omega), hB _ (by omega), hB _ (by omega), hB _ (by omega), hB (46 + 5 * v) (by omega)]
      exact ShR_cg (fun q hq => eN _ (by omega)) (fun d hd => eN _ (by omega)) (by rw [ed_mn (by omega) h57, m110]; omega) z
    · rw [m110] at h1
      rw [hfl w hw d (by omega)]
      exact hf w hw d (by omega) h2
theorem shsM_cg {N : Nat → Int32} {M A : Nat → Nat → Int32} (h : ∀ i, 46 ≤ i → i < 66 → A i = M i) (hS : shsM N M) : shsM N A := fun w hw hw2 => by
  obtain ⟨gd, z⟩ := hS w hw hw2
  refine ⟨gd, ?_⟩
  show ShR N w (A (46 + 5 * w + 1)) (A (46 + 5 * w + 2)) (A (46 + 5 * w + 3)) (A (46 + 5 * w + 4)) (A (46 + 5 * w) 0) (A (46 + 5 * w) 1) gd
  rw [h (46 + 5 * w + 1) (by omega) (by omega), h (46 + 5 * w + 2) (by omega) (by omega), h (46 + 5 * w + 3) (by omega) (by omega), h (46 + 5 * w + 4) (by omega) (by omega), h (46 + 5 * w) (by omega) (by omega)]
  exact z
def undoQ (P : Nat → Nat) (M A : Nat → Nat → Int32) (N sn : Nat → Int32) (k : Nat) : Prop := INV P A (unN sn N k) sn (k - 1) ∧ ∀ i, 1 ≤ i → i ≤ 5 → A i = M i
theorem undoQ_0 {P : Nat → Nat} {M : Nat → Nat → Int32} {N sn : Nat → Int32} {k : Nat} (hI : INV P M N sn k) (hk : k = 0) : undoQ P M M N sn k := by
  subst hk
  refine ⟨?_, fun _ _ _ => rfl⟩
  show INV P M (unN sn N 0) sn 0
  unfold unN
  rw [if_pos rfl]; exact hI
