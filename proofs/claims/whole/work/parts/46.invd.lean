def actQ (P : Nat → Nat) (M A : Nat → Nat → Int32) (N1 sn1 : Nat → Int32) (k1 : Nat) : Prop := INV P A N1 sn1 k1 ∧ ∀ i, 1 ≤ i → i ≤ 5 → A i = M i
theorem actQ_no {P : Nat → Nat} {M : Nat → Nat → Int32} {N N1 sn : Nat → Int32} {k : Nat} {C : Prop} [Decidable C] (hI : INV P M N sn k) (hc : ¬ C) : actQ P M M (actN C N N1) (actS C sn N k) (actK C k) := by
  unfold actN actS actK
  rw [if_neg hc, if_neg hc, if_neg hc]
  exact ⟨hI, fun _ _ _ => rfl⟩
theorem actQ_yes {P : Nat → Nat} {M A : Nat → Nat → Int32} {N N1 sn : Nat → Int32} {k : Nat} {C : Prop} [Decidable C] (hc : C) (hI : INV P A N1 (snS sn N k) (min (k + 1) 10)) (h : ∀ i, 1 ≤ i → i ≤ 5 → A i = M i) : actQ P M A (actN C N N1) (actS C sn N k) (actK C k) := by
  unfold actN actS actK
  rw [if_pos hc, if_pos hc, if_pos hc]
  exact ⟨hI, h⟩
theorem INV_day {P : Nat → Nat} {M A : Nat → Nat → Int32} {N N1 sn : Nat → Int32} {k nx w d x y u : Nat} (hI : INV P M N sn k) (hnx : nx < 10) (hn : M 6 0 = zI nx) (hw : w < 4) (hwn : w < mn N 57) (hd : mn N 110 ≤ d) (hd2 : d < 364)
    (h6 : A 6 = upd (upd (M 6) 0 (zI (((nx + 1) % 10 : Nat) : Int))) 1 (zI ((min (k + 1) 10 : Nat) : Int)))
    (hst : A (66 + 6 * nx) = upd (upd (upd (upd (upd (upd (M (66 + 6 * nx)) 0 (M 0 0)) 1 (zI (-1))) 1 (zI w)) 2 (zI d)) 3 (M (46 + 5 * w + 1) d)) 4 (M (46 + 5 * w + 2) d))
    (hc0 : A (66 + 6 * nx + (2 + 0)) = M (46 + 5 * 0 + 4)) (hc1 : A (66 + 6 * nx + (2 + 1)) = M (46 + 5 * 1 + 4)) (hc2 : A (66 + 6 * nx + (2 + 2)) = M (46 + 5 * 2 + 4)) (hc3 : A (66 + 6 * nx + (2 + 3)) = M (46 + 5 * 3 + 4))
    (ho : ∀ j, j ≠ 6 → ¬ (66 + 6 * nx ≤ j ∧ j < 66 + 6 * nx + 6 ∧ j ≠ 66 + 6 * nx + 1) → j ≠ 46 + 5 * w + 1 → j ≠ 46 + 5 * w + 2 → j ≠ 46 + 5 * w + 4 → A j = M j)
    (hch : ∀ e, e ≠ d → A (46 + 5 * w + 1) e = M (46 + 5 * w + 1) e) (htl : ∀ e, e ≠ d → A (46 + 5 * w + 2) e = M (46 + 5 * w + 2) e)
    (hx : x ≤ 97) (hy : y ≤ 96) (hu : u ≤ 2) (hok : okN N1) (h0 : N1 (111 + 364 * w + d) = zI (pkD x y u 0)) (hN1 : ∀ j, j ≠ 111 + 364 * w + d → ¬ (58 + 13 * w + 2 ≤ j ∧ j ≤ 58 + 13 * w + 7) → N1 j = N j)
    (hchd : A (46 + 5 * w + 1) d = zI ((x : Int) - 1)) (htld : ∀ gd, shM N M w gd → ∃ τ : Int, A (46 + 5 * w + 2) d = zI τ ∧ ((u = 0 ∧ τ = y) ∨ (u = 0 ∧ y = 0 ∧ τ = -2 ∧ gd ≤ d) ∨ (u = 1 ∧ y = 0 ∧ τ = -1) ∨ (u = 2 ∧ y = 0 ∧ τ = -2 ∧ d < gd)))
    (haf : ∀ gd, shM N M w gd → ∀ q, q < 7 → A (46 + 5 * w + 4) q = N1 (58 + 13 * w + (2 + q))) (h7 : A (46 + 5 * w + 4) 7 = M (46 + 5 * w + 4) 7) (h8 : A (46 + 5 * w + 4) 8 = M (46 + 5 * w + 4) 8) : INV P A N1 (snS sn N k) (min (k + 1) 10) := by
  have hP := hI.1
  have hc := hI.2.1
  have hf3 : ∀ v, v < 4 → A (46 + 5 * v + 3) = M (46 + 5 * v + 3) := fun v hv => ho _ (by omega) (by omega) (by omega) (by omega) (by omega)
  refine INV_act hI hnx hn (Or.inr ⟨w, d, hw, hd2, by rw [hst]; rfl, by rw [hst]; rfl⟩) (tkD_back (w := w) (d := d) hnx (by rw [hst]; rfl) (fun v hv => ?_) (cR_fl hc hf3) (fun v hv => ho _ (by omega) (by omega) (by omega) (by omega) (by omega)) (fun i h1 h2 => ho i (by omega) (by omega) (by omega) (by omega) (by omega)) (Or.inr ⟨by rw [hst]; rfl, by rw [hst]; rfl, hw, hd2, by rw [hst]; rfl, by rw [hst]; rfl, fun v hv q hq e he => ?_⟩)) (fun j hj hjn i hi => ho _ (by omega) (by omega) (by omega) (by omega) (by omega)) (by rw [h6]; rfl) (by rw [h6]; rfl) ?_
  · rcases (by omega : v = 0 ∨ v = 1 ∨ v = 2 ∨ v = 3) with rfl | rfl | rfl | rfl
    · exact hc0
    · exact hc1
    · exact hc2
    · exact hc3
  · by_cases z : v = w
    · subst z
      rcases hq with rfl | rfl
      · exact hch e (by omega)
      · exact htl e (by omega)
    · rw [ho _ (by omega) (by omega) (by omega) (by omega) (by omega)]
  · refine cR_act (w := w) hP.r hc hok hw (fun q hq => hN1 q (by omega) (by omega)) (hN1 110 (by omega) (by omega)) (fun q hq => hN1 q (by omega) (by omega)) (fun v hv hvw => ⟨fun q hq => hN1 _ (by omega) (by omega), fun e he => hN1 _ (by omega) (by omega)⟩) ⟨hN1 _ (by omega) (by omega), hN1 _ (by omega) (by omega)⟩ (fun h1 h2 => ?_) (by rw [ho 0 (by omega) (by omega) (by omega) (by omega) (by omega)]) (fun i h1 h2 => ho i (by omega) (by omega) (by omega) (by omega) (by omega)) (fun v hv hvw q hq => ho _ (by omega) (by omega) (by omega) (by omega) (by omega)) (hf3 w hw) (fun _ => ?_)
    · rw [hN1 _ (by omega) (by omega)]
      exact hc.2.2.1 w hw hwn (by rw [← gone_cg (hN1 (67 + 13 * w) (by omega) (by omega))]; exact h2)
    · obtain ⟨gd, hg⟩ := hc.2.2.2.2.1 w hw hwn
      refine ⟨gd, ?_⟩
      show ShR N1 w (A (46 + 5 * w + 1)) (A (46 + 5 * w + 2)) (A (46 + 5 * w + 3)) (A (46 + 5 * w + 4)) (A (46 + 5 * w) 0) (A (46 + 5 * w) 1) gd
      rw [hf3 w hw, ho (46 + 5 * w) (by omega) (by omega) (by omega) (by omega) (by omega)]
      exact ShR_upd hg hx hy hu h0 (fun e he hed => hN1 _ (by omega) (by omega)) (hN1 _ (by omega) (by omega)) (hN1 _ (by omega) (by omega)) (hN1 _ (by omega) (by omega)) (by rw [mn_cg (hN1 110 (by omega) (by omega))]; exact Nat.le_refl _) (open_fl hc hw hg hd hd2) hch hchd htl (htld gd hg) (haf gd hg) h7 h8
theorem planA {N : Nat → Int32} {M : Nat → Nat → Int32} {w d q gd k : Nat} {v : Int32} (hg : shM N M w gd) (hk : k < 7) (hw : w < 4) : upd (M (46 + 5 * w + 4)) 4 (M (46 + 5 * w + 4) 4 + v) k = upd (upd N (58 + 13 * w + 6) (N (58 + 13 * w + 6) + v)) (111 + 364 * w + d) (zI (pkD (q + 1) (wkd N w d) (knd N w d) 0)) (58 + 13 * w + (2 + k)) := by
  have h := hg.2.2.2.2.2.1
  rw [upd_ne (upd N (58 + 13 * w + 6) _) (by omega)]
  by_cases e : k = 4
  · subst e
    rw [upd_at, show 58 + 13 * w + (2 + 4) = 58 + 13 * w + 6 by omega, upd_at, h 4 (by omega)]
  · rw [upd_ne _ e, upd_ne _ (by omega)]
    exact h k hk
theorem lft_b {N : Nat → Int32} (h : okN N) {w : Nat} (hw : w < 4) : -100000 ≤ lft N w ∧ lft N w ≤ 100000 := by
  have h1 := (h.leave hw).le
  have h2 : lvS N w 0 364 ≤ 364 * 96 := sumN_le (B := 96) 364 (fun i hi => by
    unfold lvd
    split
    · exact plan_le h hw (by omega)
    · omega)
  unfold lft
  split <;> omega
