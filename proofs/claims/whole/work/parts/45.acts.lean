theorem cell_cg {N N1 : Nat → Int32} {w d : Nat} (h : N1 (111 + 364 * w + d) = N (111 + 364 * w + d)) : cellN N1 w d = cellN N w d := by unfold cellN mn; rw [h]
theorem chg_cg {N N1 : Nat → Int32} {w d : Nat} (h : N1 (111 + 364 * w + d) = N (111 + 364 * w + d)) : chg N1 w d = chg N w d := by unfold chg; rw [cell_cg h]
theorem wkd_cg {N N1 : Nat → Int32} {w d : Nat} (h : N1 (111 + 364 * w + d) = N (111 + 364 * w + d)) : wkd N1 w d = wkd N w d := by unfold wkd; rw [cell_cg h]
theorem knd_cg {N N1 : Nat → Int32} {w d : Nat} (h : N1 (111 + 364 * w + d) = N (111 + 364 * w + d)) : knd N1 w d = knd N w d := by unfold knd; rw [cell_cg h]
theorem flg_cg {N N1 : Nat → Int32} {w d : Nat} (h : N1 (111 + 364 * w + d) = N (111 + 364 * w + d)) : flg N1 w d = flg N w d := by unfold flg; rw [cell_cg h]
theorem ind3_cg {N N1 : Nat → Int32} {w d : Nat} (h : flg N1 w d = flg N w d) : ind N1 w 3 d = ind N w 3 d := by
  unfold ind
  rw [h]
  by_cases q : flg N w d = 1
  · rw [if_pos (Or.inl ⟨rfl, q⟩), if_pos (Or.inl ⟨rfl, q⟩)]
  · rw [if_neg (by omega), if_neg (by omega)]
theorem tlOK_cg {N N1 : Nat → Int32} {w gd d : Nat} {τ : Int} (h : N1 (111 + 364 * w + d) = N (111 + 364 * w + d)) (ht : tlOK N w gd d τ) : tlOK N1 w gd d τ := by
  unfold tlOK at ht ⊢; rw [knd_cg h, wkd_cg h]; exact ht
theorem gone_cg {N N1 : Nat → Int32} {w : Nat} (h : N1 (67 + 13 * w) = N (67 + 13 * w)) : goneN N1 w = goneN N w := by unfold goneN mn; rw [h]
theorem mn_cg {N N1 : Nat → Int32} {k : Nat} (h : N1 k = N k) : mn N1 k = mn N k := by unfold mn; rw [h]
theorem ShR_cg {N N1 : Nat → Int32} {w gd : Nat} {ch tl fl af : Nat → Int32} {rate lv : Int32} (h1 : ∀ k, k < 13 → N1 (58 + 13 * w + k) = N (58 + 13 * w + k)) (h2 : ∀ d, d < 364 → N1 (111 + 364 * w + d) = N (111 + 364 * w + d)) (ht : mn N 110 ≤ mn N1 110) (h : ShR N w ch tl fl af rate lv gd) : ShR N1 w ch tl fl af rate lv gd := by
  obtain ⟨a1, a2, a3, a4, a5, a6, a7, a8, a9, a10, a11⟩ := h
  have e0 := h1 0 (by omega)
  have e1 := h1 1 (by omega)
  have e9 : N1 (67 + 13 * w) = N (67 + 13 * w) := by have := h1 9 (by omega); rw [show 58 + 13 * w + 9 = 67 + 13 * w by omega] at this; exact this
  rw [Nat.add_zero] at e0
  rw [show 58 + 13 * w + 1 = 59 + 13 * w by omega] at e1
  refine ⟨a1.trans e0.symm, a2.trans e1.symm, fun d hd => by rw [chg_cg (h2 d hd)]; exact a3 d hd, fun d hd => ?_, fun d hd => by rw [flg_cg (h2 d hd)]; exact a5 d hd, fun k hk => (a6 k hk).trans (h1 (2 + k) (by omega)).symm, ?_, a8, a9, fun q => a10 (by rw [← gone_cg e9]; exact q), fun q => ?_⟩
  · obtain ⟨τ, q1, q2⟩ := a4 d hd
    exact ⟨τ, q1, tlOK_cg (h2 d hd) q2⟩
  · rw [a7]
    exact zN_cg (sumN_cg 364 (fun i hi => by rw [Nat.zero_add]; exact (ind3_cg (flg_cg (h2 i hi))).symm))
  · have := a11 (by rw [← gone_cg e9]; exact q)
    omega
theorem day_is {N : Nat → Int32} {w d x y u z : Nat} (hx : x ≤ 127) (hy : y ≤ 127) (hu : u ≤ 3) (hz : z ≤ 1) (h : N (111 + 364 * w + d) = zI (pkD x y u z)) : chg N w d = x ∧ wkd N w d = y ∧ knd N w d = u ∧ flg N w d = z := by
  have hc : cellN N w d = pkD x y u z := mn_of h (by unfold pkD; omega)
  unfold chg wkd knd flg
  rw [hc]
  unfold pkD
  refine ⟨?_, ?_, ?_, ?_⟩ <;> omega
theorem ShR_upd {N N1 : Nat → Int32} {w d x y u gd : Nat} {ch tl fl af ch1 tl1 af1 : Nat → Int32} {rate lv : Int32} (h : ShR N w ch tl fl af rate lv gd) (hx : x ≤ 97) (hy : y ≤ 96) (hu : u ≤ 2) (h0 : N1 (111 + 364 * w + d) = zI (pkD x y u 0)) (hoth : ∀ e, e < 364 → e ≠ d → N1 (111 + 364 * w + e) = N (111 + 364 * w + e)) (hk0 : N1 (58 + 13 * w) = N (58 + 13 * w)) (hk1 : N1 (59 + 13 * w) = N (59 + 13 * w)) (hk9 : N1 (67 + 13 * w) = N (67 + 13 * w)) (ht : mn N 110 ≤ mn N1 110) (hf : flg N w d = 0) (hch : ∀ e, e ≠ d → ch1 e = ch e) (hchd : ch1 d = zI ((x : Int) - 1)) (htl : ∀ e, e ≠ d → tl1 e = tl e) (htld : ∃ τ : Int, tl1 d = zI τ ∧ ((u = 0 ∧ τ = y) ∨ (u = 0 ∧ y = 0 ∧ τ = -2 ∧ gd ≤ d) ∨ (u = 1 ∧ y = 0 ∧ τ = -1) ∨ (u = 2 ∧ y = 0 ∧ τ = -2 ∧ d < gd))) (haf : ∀ k, k < 7 → af1 k = N1 (58 + 13 * w + (2 + k))) (h7 : af1 7 = af 7) (h8 : af1 8 = af 8) : ShR N1 w ch1 tl1 fl af1 rate lv gd := by
  obtain ⟨a1, a2, a3, a4, a5, a6, a7, a8, a9, a10, a11⟩ := h
  obtain ⟨d1, d2, d3, d4⟩ := day_is (by omega) (by omega) (by omega) (by omega) h0
  have fE : ∀ e, e < 364 → flg N1 w e = flg N w e := fun e he => by
    by_cases q : e = d
    · subst q; rw [d4, hf]
    · exact flg_cg (hoth e he q)
  refine ⟨a1.trans hk0.symm, a2.trans hk1.symm, fun e he => ?_, fun e he => ?_, fun e he => by rw [fE e he]; exact a5 e he, haf, ?_, h8.trans a8, a9, fun q => a10 (by rw [← gone_cg hk9]; exact q), fun q => ?_⟩
  · by_cases q : e = d
    · subst q; rw [d1]; exact hchd
    · rw [hch e q, chg_cg (hoth e he q)]; exact a3 e he
  · by_cases q : e = d
    · subst q
      obtain ⟨τ, q1, q2⟩ := htld
      refine ⟨τ, q1, ?_⟩
      unfold tlOK
      rw [d2, d3]
      exact q2
    · obtain ⟨τ, q1, q2⟩ := a4 e he
      exact ⟨τ, (htl e q).trans q1, tlOK_cg (hoth e he q) q2⟩
  · rw [h7, a7]
    exact zN_cg (sumN_cg 364 (fun i hi => by rw [Nat.zero_add]; exact (ind3_cg (fE i hi)).symm))
  · have := a11 (by rw [← gone_cg hk9]; exact q)
    omega
theorem RuR_N {N N1 : Nat → Int32} {f : Nat → Nat → Int32} (hlo : ∀ k, k < 58 → N1 k = N k) (hw : ∀ i, i < 4 → N1 (58 + 13 * i) = N (58 + 13 * i) ∧ N1 (59 + 13 * i) = N (59 + 13 * i)) (h57 : mn N 57 ≤ 4) (h4 : mn N 4 ≤ 5) (h50 : mn N 50 ≤ 3) (h : RuR N f) : RuR N1 f := by
  have e4 := mn_cg (hlo 4 (by omega))
  have e50 := mn_cg (hlo 50 (by omega))
  have e57 := mn_cg (hlo 57 (by omega))
  refine ⟨fun j hj => (h.1 j hj).trans (hlo j (by omega)).symm, h.2.1.trans (hlo 4 (by omega)).symm, h.2.2.1.trans (hlo 50 (by omega)).symm, h.2.2.2.1.trans (hlo 57 (by omega)).symm, fun i hi j hj => ?_, fun i hi j hj => ?_, fun i hi j hj => ?_⟩
  · rw [e4] at hi; exact (h.2.2.2.2.1 i hi j hj).trans (hlo _ (by omega)).symm
  · rw [e50] at hi; exact (h.2.2.2.2.2.1 i hi j hj).trans (hlo _ (by omega)).symm
  · rw [e57] at hi
    refine (h.2.2.2.2.2.2 i hi j hj).trans ?_
    rcases (by omega : j = 0 ∨ j = 1) with rfl | rfl
    · exact (hw i (by omega)).1.symm
    · rw [show 58 + 13 * i + 1 = 59 + 13 * i by omega]; exact (hw i (by omega)).2.symm
theorem cR_act {P : Nat → Nat} {M A : Nat → Nat → Int32} {N N1 : Nat → Int32} {w : Nat} (hP : P 0 = 8 ∨ P 0 = 27) (hc : cR P M N) (hok : okN N1) (hw : w < 4) (hlo : ∀ k, k < 58 → N1 k = N k) (h110 : N1 110 = N 110) (hZ : ∀ k, 1567 ≤ k → N1 k = N k) (hoth : ∀ v, v < 4 → v ≠ w → (∀ k, k < 13 → N1 (58 + 13 * v + k) = N (58 + 13 * v + k)) ∧ ∀ d, d < 364 → N1 (111 + 364 * v + d) = N (111 + 364 * v + d)) (hr : N1 (58 + 13 * w) = N (58 + 13 * w) ∧ N1 (59 + 13 * w) = N (59 + 13 * w)) (hst : w < mn N 57 → goneN N1 w = 0 → N1 (66 + 13 * w) = zI 0)
    (hA0 : A 0 0 = M 0 0) (hru : ∀ i, 8 ≤ i → i < 46 → A i = M i) (hv : ∀ v, v < 4 → v ≠ w → ∀ k, k < 5 → A (46 + 5 * v + k) = M (46 + 5 * v + k)) (hfl : A (46 + 5 * w + 3) = M (46 + 5 * w + 3)) (hsh : w < mn N 57 → ∃ gd, shM N1 A w gd) : cR P A N1 := by
  obtain ⟨hN, hZt, hs, hR, hS, ht, hf⟩ := hc
  have e57 := mn_cg (hlo 57 (by omega))
  have e110 := mn_cg h110
  refine ⟨hok, fun j hj => (hZ j hj).trans (hZt j hj), fun v hv4 hv2 hg => ?_, ?_, fun v hv4 hv2 => ?_, (hA0.trans ht).trans h110.symm, fun v hv4 d h1 h2 => ?_⟩
  · rw [e57] at hv2
    by_cases q : v = w
    · subst q; exact hst hv2 hg
    · have e := (hoth v hv4 q).1
      have e8 := e 8 (by omega)
      have e9 := e 9 (by omega)
      rw [show 58 + 13 * v + 8 = 66 + 13 * v by omega] at e8
      rw [show 58 + 13 * v + 9 = 67 + 13 * v by omega] at e9
      rw [e8]
      exact hs v hv4 hv2 (by rw [← gone_cg e9]; exact hg)
  · refine RuR_cg (RuR_N hlo (fun i hi => ?_) hN.nw.le hN.ns.le hN.nn.le hR) (fun k hk => hru _ (by omega) (by omega)) (by rw [mn_cg (hlo 4 (by omega))]; exact hN.ns.le) (by rw [mn_cg (hlo 50 (by omega))]; exact hN.nn.le) (by rw [e57]; exact hN.nw.le)
    by_cases q : i = w
    · subst q; exact hr
    · have e := (hoth i hi q).1
      have e0 := e 0 (by omega)
      have e1 := e 1 (by omega)
      rw [Nat.add_zero] at e0
      rw [show 58 + 13 * i + 1 = 59 + 13 * i by omega] at e1
      exact ⟨e0, e1⟩
  · rw [e57] at hv2
    by_cases q : v = w
    · subst q; exact hsh hv2
    · obtain ⟨gd, z⟩ := hS v hv4 hv2
      refine ⟨gd, ?_⟩
      have r0 := hv v hv4 q 0 (by omega)
      rw [Nat.add_zero] at r0
      show ShR N1 v (A (46 + 5 * v + 1)) (A (46 + 5 * v + 2)) (A (46 + 5 * v + 3)) (A (46 + 5 * v + 4)) (A (46 + 5 * v) 0) (A (46 + 5 * v) 1) gd
      rw [hv v hv4 q 1 (by omega), hv v hv4 q 2 (by omega), hv v hv4 q 3 (by omega), hv v hv4 q 4 (by omega), r0]
      exact ShR_cg (hoth v hv4 q).1 (hoth v hv4 q).2 (by omega) z
  · rw [e110] at h1
    by_cases q : v = w
    · subst q; rw [hfl]; exact hf v hv4 d h1 h2
    · rw [hv v hv4 q 3 (by omega)]; exact hf v hv4 d h1 h2
theorem open_fl {P : Nat → Nat} {M : Nat → Nat → Int32} {N : Nat → Int32} {w d gd : Nat} (hc : cR P M N) (hw : w < 4) (h : shM N M w gd) (h1 : mn N 110 ≤ d) (h2 : d < 364) : flg N w d = 0 := by
  have a := h.2.2.2.2.1 d h2
  have b := hc.2.2.2.2.2.2 w hw d h1 h2
  have hl := hc.1.flg hw h2
  exact (zIn_eq (by omega) (by omega)).mp (a.symm.trans b)
theorem cR_fl {P : Nat → Nat} {M A : Nat → Nat → Int32} {N : Nat → Int32} (hc : cR P M N) (hA : ∀ v, v < 4 → A (46 + 5 * v + 3) = M (46 + 5 * v + 3)) : ∀ v, v < 4 → ∀ e : Nat, (e < 364 ∧ zI e = M 0 0 → M (46 + 5 * v + 3) e = zI 0) ∧ (¬ (e < 364 ∧ zI e = M 0 0) → A (46 + 5 * v + 3) e = M (46 + 5 * v + 3) e) := by
  intro v hv e
  refine ⟨fun z => hc.2.2.2.2.2.2 v hv e ?_ z.1, fun _ => by rw [hA v hv]⟩
  have ht := hc.2.2.2.2.2.1
  have htd := hc.1.td
  have := htd.le
  rw [ht, htd.eq] at z
  have := (zIn_eq (by omega) (by omega)).mp z.2
  omega
