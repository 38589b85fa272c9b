theorem gso_0 {β : Nat → Nat} {n p : Nat} (hp : p ≤ n) (h : gSo β n p = 0) (ho : ¬ overT β n p) : n ≤ skipT β n p := by
  by_cases h2 : n ≤ skipT β n p
  · exact h2
  · by_cases h3 : ldT (β (skipT β n p))
    · have h4 := (g_run rfl ho h2 h3 rfl).2.2.1
      rw [h] at h4
      unfold runS at h4
      split at h4
      · omega
      · split at h4 <;> omega
    · have h4 := (g_sign rfl ho h2 h3).2.2.1
      rw [h] at h4
      split at h4 <;> omega
theorem dR_0 {b : Nat} {M : Nat → Nat → Int32} (r : Nat → Int32) (h1 : ∀ j, j < 4 → ¬ j = 2 → M (b + 1 + (1 + 0)) j = zI 0) (h2 : M (b + 1 + (1 + 0)) 2 = zI 1) (h18 : ∀ j, j < 4 → M (b + 18) j = zI 0) : dR b M (rd0 r) := by
  have g17 : ∀ j, j < 4 → M (b + 1 + 17) j = zI 0 := fun j hj => h18 j hj
  have z4 := mn_z (rd0_at r (j := 4) (by omega) (by omega))
  have z50 := mn_z (rd0_at r (j := 50) (by omega) (by omega))
  have z57 := mn_z (rd0_at r (j := 57) (by omega) (by omega))
  refine ⟨fun j hj => ?_, ?_, ?_, ?_, fun i hi j hj => ?_, fun i hi j hj => ?_, fun i hi j hj => ?_⟩
  · show M (b + 1 + (1 + 0)) j = rd0 r j
    by_cases q : j = 2
    · subst q; rw [h2]; exact (upd_at _ _ _).symm
    · rw [h1 j hj q, rd0_at r (by omega) q]
  · show M (b + 1 + 17) 1 = rd0 r 4
    rw [g17 1 (by omega), rd0_at r (by omega) (by omega)]
  · show M (b + 1 + 17) 2 = rd0 r 50
    rw [g17 2 (by omega), rd0_at r (by omega) (by omega)]
  · show M (b + 1 + 17) 3 = rd0 r 57
    rw [g17 3 (by omega), rd0_at r (by omega) (by omega)]
  · omega
  · omega
  · omega
theorem fill_at {v : Int32} {r : Nat → Int32} {i j : Nat} (h : j < i) : fillR v r i j = v := by unfold fillR; rw [if_pos h]
def riQ (b n : Nat) (M u : Nat → Nat → Int32) (X : PR) (r : Int32) : Prop := (∀ j, j ≠ 3 → j ≠ 4 → ¬ (b ≤ j ∧ j ≤ b + 18) → u j = M j) ∧ (∀ e, X = .inl e → r = zI (-1 - (e.2 : Int)) ∧ u 3 0 = zI e.1 ∧ e.2 ≤ 740) ∧ ∀ q, X = .inr q → r = zI q.1 ∧ u 3 0 = zI 0 ∧ dR b u q.2 ∧ okP q.2 ∧ q.1 ≤ n
def rlI (β : Nat → Nat) (n b : Nat) (M A : Nat → Nat → Int32) (ln p3 f : Nat) (r3 : Nat → Int32) (X : PR) : Prop := (∀ j, j ≠ 3 → j ≠ 4 → ¬ (b ≤ j ∧ j ≤ b + 18) → A j = M j) ∧ A 3 0 = zI 0 ∧ A 4 0 = zI p3 ∧ dR b A r3 ∧ okP r3 ∧ A (b + 18) 0 = zI (if ln = 0 then 0 else 1) ∧ X = parseL β n f ln p3 r3
theorem dR_cg {b : Nat} {M u : Nat → Nat → Int32} {r : Nat → Int32} (hR : dR b M r) (hO : okN r) (h : ∀ j, b + 1 ≤ j → j ≤ b + 18 → u j = M j) : dR b u r := RuR_cg hR (fun k hk => h _ (by omega) (by omega)) hO.ns.le hO.nn.le hO.nw.le
theorem rl_18 {β : Nat → Nat} {n b : Nat} {M A : Nat → Nat → Int32} {ln p3 f : Nat} {r3 : Nat → Int32} {X : PR} (h : rlI β n b M A ln p3 f r3 X) {z : Int} (hz : ln = 0 ∧ z = 1 ∨ ¬ ln = 0 ∧ z = 0) : A (b + 18) 0 = zI (1 - z) := by
  rw [h.2.2.2.2.2.1]
  rcases hz with ⟨h1, h2⟩ | ⟨h1, h2⟩
  · rw [if_pos h1, h2]; rfl
  · rw [if_neg h1, h2]; rfl
theorem ri_r {β : Nat → Nat} {n b : Nat} {M A u : Nat → Nat → Int32} {ln p3 f : Nat} {r3 : Nat → Int32} {X : PR} (h : rlI β n b M A ln p3 (f + 1) r3 X) (hb : b = 8 ∨ b = 27) (hg : gSo β n p3 = 0) (hl : ln ≤ n) (hu : ∀ j, j ≠ 4 → u j = A j) : riQ b n M u X (zI ((ln : Nat) : Int)) := by
  have hx : X = .inr (ln, r3) := by rw [h.2.2.2.2.2.2, parse_e hg]
  refine ⟨fun j q1 q2 q3 => (hu j q2).trans (h.1 j q1 q2 q3), fun e he => (by rw [hx] at he; cases he), fun q hq => ?_⟩
  rw [hx] at hq; cases hq
  exact ⟨rfl, (congrFun (hu 3 (by omega)) 0).trans h.2.1, dR_cg h.2.2.2.1 h.2.2.2.2.1.1 (fun j h1 h2 => hu j (by omega)), h.2.2.2.2.1, hl⟩
theorem ri_over {β : Nat → Nat} {n b : Nat} {M A u : Nat → Nat → Int32} {ln p3 f : Nat} {r3 : Nat → Int32} {X : PR} (h : rlI β n b M A ln p3 (f + 1) r3 X) (hp : p3 ≤ n) (hn : n ≤ 740) (ho : overT β n p3) (hu : ∀ j, j ≠ 3 → j ≠ 4 → u j = A j) (h0 : u 3 0 = zI ((1 : Nat) : Int)) : riQ b n M u X (zI (-1 - ((gFr β n p3 : Nat) : Int))) := by
  have hs := (g_over (β := β) rfl ho).2.2.1
  have hx : X = .inl (1, gFr β n p3) := by rw [h.2.2.2.2.2.2, parse_s (by omega), line_1 (by omega)]; rfl
  refine ⟨fun j q1 q2 q3 => (hu j q1 q2).trans (h.1 j q1 q2 q3), fun e he => ?_, fun q hq => (by rw [hx] at hq; cases hq)⟩
  rw [hx] at he; cases he
  exact ⟨rfl, h0, gfr_7 hp hn⟩
theorem ri_l {β : Nat → Nat} {n b : Nat} {M A A1 u : Nat → Nat → Int32} {ln p3 f : Nat} {r3 : Nat → Int32} {X : PR} {F : Prop} [Decidable F] {e : Nat × Nat} (h : rlI β n b M A ln p3 (f + 1) r3 X) (hg : ¬ gSo β n p3 = 0) (hF : F ↔ ln = 0) (hA : ∀ j, j ≠ 4 → A1 j = A j) (hq : lnQ b n A1 u (bnd (lineP β n F p3 r3) (endP β n))) (he : bnd (lineP β n F p3 r3) (endP β n) = .inl e) : riQ b n M u X (zI (-1 - ((e.2 : Nat) : Int))) := by
  have hx : X = .inl e := by rw [h.2.2.2.2.2.2, parse_s hg, lineP_cg hF.symm, he]; rfl
  obtain ⟨a1, a2, a3, a4, a5⟩ := hq.2.1.1 e he
  refine ⟨fun j q1 q2 q3 => (hq.1 j q1 q2 q3).trans ((hA j q2).trans (h.1 j q1 q2 q3)), fun e2 he2 => ?_, fun q hq => (by rw [hx] at hq; cases hq)⟩
  rw [hx] at he2; cases he2
  exact ⟨rfl, a1, a5⟩
theorem ln_go {β : Nat → Nat} {n p3 : Nat} {F : Prop} [Decidable F] {r3 : Nat → Int32} {q : Nat × (Nat → Int32)} (hp : p3 ≤ n) (hO : okP r3) (hx : bnd (lineP β n F p3 r3) (endP β n) = .inr q) : p3 < q.1 ∧ q.1 ≤ n ∧ okP q.2 := by
  obtain ⟨q1, x1, x2⟩ := bnd_in hx
  obtain ⟨a1, a2, a3⟩ := okP_line hO hp x1
  obtain ⟨b1, b2, b3, b4⟩ := endP_in a3 x2
  subst b2
  exact ⟨by show p3 < gTo β n q1.1; omega, b4, a1⟩
theorem rl_s {β : Nat → Nat} {n b : Nat} {M A A1 u : Nat → Nat → Int32} {ln p3 f : Nat} {r3 : Nat → Int32} {X : PR} {F : Prop} [Decidable F] {q : Nat × (Nat → Int32)} (h : rlI β n b M A ln p3 (f + 1) r3 X) (hp : p3 ≤ n) (hg : ¬ gSo β n p3 = 0) (hF : F ↔ ln = 0) (hA : ∀ j, j ≠ 4 → A1 j = A j) (hq : lnQ b n A1 u (bnd (lineP β n F p3 r3) (endP β n))) (he : bnd (lineP β n F p3 r3) (endP β n) = .inr q) : rlI β n b M u (ln + 1) q.1 f q.2 X := by
  obtain ⟨a1, a2, a3⟩ := hq.2.1.2 q he
  obtain ⟨b1, b2⟩ := hq.2.2 q he
  refine ⟨fun j q1 q2 q3 => (hq.1 j q1 q2 q3).trans ((hA j q2).trans (h.1 j q1 q2 q3)), a1, a2, b1, (ln_go hp h.2.2.2.2.1 he).2.2, ?_, ?_⟩
  · rw [b2, if_neg (by omega)]
  · rw [h.2.2.2.2.2.2, parse_s hg, lineP_cg hF.symm, he]; rfl
theorem rl_0 {β : Nat → Nat} {n b : Nat} {M A : Nat → Nat → Int32} (rd : Nat → Int32) (hu : ∀ j, j ≠ 3 → j ≠ 4 → ¬ (b ≤ j ∧ j ≤ b + 18) → A j = M j) (h3 : A 3 0 = zI 0) (h4 : A 4 0 = zI 0) (h1 : ∀ j, j < 4 → ¬ j = 2 → A (b + 1 + (1 + 0)) j = zI 0) (h2 : A (b + 1 + (1 + 0)) 2 = zI 1) (h18 : ∀ j, j < 4 → A (b + 18) j = zI 0) : rlI β n b M A 0 0 (n + 1) (rd0 rd) (parseL β n (n + 1) 0 0 (rd0 rd)) :=
  ⟨hu, h3, h4, dR_0 rd h1 h2 h18, okP_0 rd, by rw [h18 0 (by omega), if_pos rfl], rfl⟩
theorem f_pred {n f p3 : Nat} (h : n + 1 ≤ f + p3) (hp : p3 ≤ n) : ∃ j, f = j + 1 := ⟨f - 1, by omega⟩
def bgS (u : Nat → Nat → Int32) (w : Nat) (r lv : Int32) : Prop := u (46 + 5 * w) 0 = r ∧ u (46 + 5 * w) 1 = lv ∧ (∀ d, d < 364 → u (46 + 5 * w + 1) d = zI (-1)) ∧ (∀ d, d < 364 → u (46 + 5 * w + 2) d = zI 0) ∧ (∀ d, d < 364 → u (46 + 5 * w + 3) d = zI 0) ∧ ∀ k, k < 9 → u (46 + 5 * w + 4) k = begR k
def bgQ (b w : Nat) (M u : Nat → Nat → Int32) : Prop := (∀ j, ¬ (46 + 5 * w ≤ j ∧ j < 46 + 5 * w + 5) → u j = M j) ∧ bgS u w (M (b + 1 + (13 + w)) 0) (M (b + 1 + (13 + w)) 1)
theorem bgS_cg {u v : Nat → Nat → Int32} {w : Nat} {r lv : Int32} (h : bgS u w r lv) (e : ∀ k, k < 5 → v (46 + 5 * w + k) = u (46 + 5 * w + k)) : bgS v w r lv := by
  have e0 : v (46 + 5 * w) = u (46 + 5 * w) := e 0 (by omega)
  unfold bgS
  rw [e0, e 1 (by omega), e 2 (by omega), e 3 (by omega), e 4 (by omega)]
  exact h
def adQ (P : Nat → Nat) (M : Nat → Nat → Int32) (u : (Nat → Nat) × (Nat → Nat → Int32)) : Prop := u.1 0 = P 1 ∧ u.1 1 = P 0 ∧ (∀ w, w < 4 → u.1 (46 + 5 * w) = P 1) ∧ u.2 0 0 = zI 0 ∧ u.2 6 = upd (M 6) 1 (zI 0) ∧ (∀ j, j ≠ 0 → j ≠ 6 → ¬ (46 ≤ j ∧ j < 66) → u.2 j = M j) ∧ ∀ w, w < 4 → bgS u.2 w (M (P 1 + 1 + (13 + w)) 0) (M (P 1 + 1 + (13 + w)) 1)
theorem ad_of {P : Nat → Nat} {M A u0 u1 u2 u3 : Nat → Nat → Int32} (hP : P 1 = 8 ∨ P 1 = 27) (h0 : A 0 0 = zI 0) (h6 : A 6 = upd (M 6) 1 (zI 0)) (hA : ∀ j, ¬ j = 0 → ¬ j = 6 → A j = M j) (q0 : bgQ (P 1) 0 A u0) (q1 : bgQ (P 1) 1 u0 u1) (q2 : bgQ (P 1) 2 u1 u2) (q3 : bgQ (P 1) 3 u2 u3) : adQ P M (va_up (va_up (va_up (va_up (va_up (va_up P (1) (P 0)) (0) (P 1)) (46 + 5 * 0) (P 1)) (46 + 5 * 1) (P 1)) (46 + 5 * 2) (P 1)) (46 + 5 * 3) (P 1), u3) := by
  have o : ∀ j, ¬ (46 ≤ j ∧ j < 66) → u3 j = A j := fun j hj => by
    rw [q3.1 j (by omega), q2.1 j (by omega), q1.1 j (by omega), q0.1 j (by omega)]
  refine ⟨?_, ?_, fun w hw => ?_, ?_, ?_, fun j h1 h2 h3 => (o j h3).trans (hA j h1 h2), fun w hw => ?_⟩
  · dsimp only
    rw [up_ne _ _ (show 0 ≠ 46 + 5 * 3 by omega), up_ne _ _ (show 0 ≠ 46 + 5 * 2 by omega), up_ne _ _ (show 0 ≠ 46 + 5 * 1 by omega), up_ne _ _ (show 0 ≠ 46 + 5 * 0 by omega), up_at]
  · dsimp only
    rw [up_ne _ _ (show 1 ≠ 46 + 5 * 3 by omega), up_ne _ _ (show 1 ≠ 46 + 5 * 2 by omega), up_ne _ _ (show 1 ≠ 46 + 5 * 1 by omega), up_ne _ _ (show 1 ≠ 46 + 5 * 0 by omega), up_ne _ _ (show 1 ≠ 0 by omega), up_at]
  · dsimp only
    rcases (by omega : w = 0 ∨ w = 1 ∨ w = 2 ∨ w = 3) with rfl | rfl | rfl | rfl
    · rw [up_ne _ _ (show 46 + 5 * 0 ≠ 46 + 5 * 3 by omega), up_ne _ _ (show 46 + 5 * 0 ≠ 46 + 5 * 2 by omega), up_ne _ _ (show 46 + 5 * 0 ≠ 46 + 5 * 1 by omega), up_at]
    · rw [up_ne _ _ (show 46 + 5 * 1 ≠ 46 + 5 * 3 by omega), up_ne _ _ (show 46 + 5 * 1 ≠ 46 + 5 * 2 by omega), up_at]
    · rw [up_ne _ _ (show 46 + 5 * 2 ≠ 46 + 5 * 3 by omega), up_at]
    · rw [up_at]
  · exact (congrFun (o 0 (by omega)) 0).trans h0
  · exact (o 6 (by omega)).trans h6
  · show bgS u3 w _ _
    have eA : ∀ k, A (P 1 + 1 + (13 + w)) k = M (P 1 + 1 + (13 + w)) k := fun k => congrFun (hA _ (by omega) (by omega)) k
    have er : ∀ k, u0 (P 1 + 1 + (13 + w)) k = M (P 1 + 1 + (13 + w)) k := fun k => (congrFun (q0.1 _ (by omega)) k).trans (eA k)
    have er1 : ∀ k, u1 (P 1 + 1 + (13 + w)) k = M (P 1 + 1 + (13 + w)) k := fun k => (congrFun (q1.1 _ (by omega)) k).trans (er k)
    have er2 : ∀ k, u2 (P 1 + 1 + (13 + w)) k = M (P 1 + 1 + (13 + w)) k := fun k => (congrFun (q2.1 _ (by omega)) k).trans (er1 k)
    rcases (by omega : w = 0 ∨ w = 1 ∨ w = 2 ∨ w = 3) with rfl | rfl | rfl | rfl
    · have h := q0.2
      rw [eA, eA] at h
      exact bgS_cg h (fun k hk => by rw [q3.1 _ (by omega), q2.1 _ (by omega), q1.1 _ (by omega)])
    · have h := q1.2
      rw [er, er] at h
      exact bgS_cg h (fun k hk => by rw [q3.1 _ (by omega), q2.1 _ (by omega)])
    · have h := q2.2
      rw [er1, er1] at h
      exact bgS_cg h (fun k hk => by rw [q3.1 _ (by omega)])
    · have h := q3.2
      rw [er2, er2] at h
      exact h
theorem isN_cg {N N1 : Nat → Int32} {k b : Nat} (h : N1 k = N k) (hN : isN N k b) : isN N1 k b := by unfold isN; rw [h]; exact hN
theorem okN_cg {N N1 : Nat → Int32} (e : ∀ j, j < 1567 → N1 j = N j) (h : okN N) : okN N1 := by
  refine ⟨isN_cg (e _ (by omega)) h.lo, isN_cg (e _ (by omega)) h.hi, ⟨isN_cg (e _ (by omega)) h.win, by rw [mn_cg (e 2 (by omega))]; exact h.win1⟩, isN_cg (e _ (by omega)) h.lim, isN_cg (e _ (by omega)) h.ns, fun i hi => ⟨isN_cg (e _ (by omega)) (h.s0 hi), isN_cg (e _ (by omega)) (h.s1 hi), fun j hj => isN_cg (e _ (by omega)) (h.sq hi hj)⟩, isN_cg (e _ (by omega)) h.nn, fun i hi => ⟨isN_cg (e _ (by omega)) (h.n0 hi), isN_cg (e _ (by omega)) (h.n1 hi)⟩, isN_cg (e _ (by omega)) h.nw, fun w hw => ⟨isN_cg (e _ (by omega)) (h.rate hw), isN_cg (e _ (by omega)) (h.leave hw), isN_cg (e _ (by omega)) (h.gone hw), ?_⟩, isN_cg (e _ (by omega)) h.td, fun w hw d hd => ⟨isN_cg (e _ (by omega)) (h.cell hw hd), ?_, ?_, ?_⟩⟩
  · rw [mn_cg (e 0 (by omega)), mn_cg (e 1 (by omega)), e (60 + 13 * w) (by omega)]; exact h.bal hw
  · rw [chg_cg (e _ (by omega))]; exact h.chg hw hd
  · rw [wkd_cg (e _ (by omega))]; exact h.wkd hw hd
  · rw [knd_cg (e _ (by omega))]; exact h.knd hw hd
theorem sumN_z {f : Nat → Nat} {a : Nat} (n : Nat) (h : ∀ i, i < n → f (a + i) = 0) : sumN f a n = 0 := by
  have := sumN_le (f := f) (a := a) (B := 0) n (fun i hi => Nat.le_of_eq (h i hi))
  omega
theorem cell_z {N : Nat → Int32} {w d : Nat} (h : N (111 + 364 * w + d) = zI 0) : chg N w d = 0 ∧ wkd N w d = 0 ∧ knd N w d = 0 ∧ flg N w d = 0 := by
  have e : cellN N w d = 0 := by unfold cellN; exact mn_z h
  unfold chg wkd knd flg
  rw [e]
  exact ⟨rfl, rfl, rfl, rfl⟩
theorem ShR_new {N : Nat → Int32} {u : Nat → Nat → Int32} {w : Nat} {r lv : Int32} (hw : w < 4) (h : bgS u w r lv) (hr : r = N (58 + 13 * w)) (hl : lv = N (59 + 13 * w)) (hz : ∀ k, 2 ≤ k → k < 13 → N (58 + 13 * w + k) = zI 0) (hd : ∀ d, d < 364 → N (111 + 364 * w + d) = zI 0) : shM N u w 365 := by
  obtain ⟨a1, a2, a3, a4, a5, a6⟩ := h
  have hg : goneN N w = 0 := mn_z (by have := hz 9 (by omega) (by omega); rw [show 58 + 13 * w + 9 = 67 + 13 * w by omega] at this; exact this)
  refine ⟨a1.trans hr, a2.trans hl, fun d h1 => ?_, fun d h1 => ⟨0, a4 d h1, Or.inl ⟨(cell_z (hd d h1)).2.2.1, by rw [(cell_z (hd d h1)).2.1]; rfl⟩⟩, fun d h1 => ?_, fun k hk => ?_, ?_, a6 8 (by omega), Nat.le_refl _, fun _ => rfl, fun q => by omega⟩
  · rw [a3 d h1, (cell_z (hd d h1)).1]; rfl
  · rw [a5 d h1, (cell_z (hd d h1)).2.2.2]; rfl
  · rw [a6 k (by omega), hz (2 + k) (by omega) (by omega)]
    unfold begR; rw [if_neg (by omega)]
  · rw [a6 7 (by omega), sumN_z 364 (fun i hi => by
      unfold ind
      have := (cell_z (hd (0 + i) (by omega))).2.2.2
      rw [if_neg]
      omega)]
    rfl
theorem INV_text {P : Nat → Nat} {M : Nat → Nat → Int32} {N sn r : Nat → Int32} {u : (Nat → Nat) × (Nat → Nat → Int32)} {nx : Nat} (hP : pOK P) (hnx : nx < 10) (h6 : M 6 0 = zI (nx : Int)) (hZ : Zt N) (hA : adQ P M u) (hd : dR (P 1) M r) (hO : okP r) : INV u.1 u.2 (cpP r N 1567) sn 0 := by
  obtain ⟨a0, a1, aw, b0, b6, bo, bs⟩ := hA
  have e : ∀ j, j < 1567 → cpP r N 1567 j = r j := fun j hj => by unfold cpP; rw [if_pos hj]
  have hN1 : okN (cpP r N 1567) := okN_cg e hO.1
  have hPd := hP.d
  have h57 : mn (cpP r N 1567) 57 = mn r 57 := mn_cg (e 57 (by omega))
  have hru : RuR (cpP r N 1567) (fun k => u.2 (u.1 0 + 1 + k)) := by
    rw [a0]
    refine RuR_cg (RuR_N (fun k hk => e k (by omega)) (fun i hi => ⟨e _ (by omega), e _ (by omega)⟩) hO.1.nw.le hO.1.ns.le hO.1.nn.le hd) (fun k hk => bo _ (by omega) (by omega) (by omega)) hN1.ns.le hN1.nn.le hN1.nw.le
  refine ⟨⟨?_, fun w hw => by rw [aw w hw, a0]⟩, ⟨hN1, fun j hj => by unfold cpP; rw [if_neg (by omega)]; exact hZ j hj, fun w hw _ _ => ?_, hru, fun w hw h2 => ⟨365, ?_⟩, ?_, fun w hw d h1 h2 => (bs w hw).2.2.2.2.1 d h2⟩, by omega, by rw [b6]; exact upd_at _ _ _, nx, hnx, by rw [b6, upd_ne _ (by omega)]; exact h6, trivial⟩
  · rcases hP.1 with q | q
    · exact Or.inr ⟨by omega, by omega⟩
    · exact Or.inl ⟨by omega, by omega⟩
  · rw [e _ (by omega)]
    have := hO.2.1 w hw 8 (by omega) (by omega)
    rw [show 58 + 13 * w + 8 = 66 + 13 * w by omega] at this
    exact this
  · have hi : w < mn r 57 := by omega
    have r0 := hd.2.2.2.2.2.2 w hi 0 (by omega)
    have r1 := hd.2.2.2.2.2.2 w hi 1 (by omega)
    refine ShR_new hw (bs w hw) ?_ ?_ (fun k h1 h2 => ?_) (fun d hd2 => ?_)
    · rw [e _ (by omega)]; exact r0
    · rw [e _ (by omega), show 59 + 13 * w = 58 + 13 * w + 1 by omega]; exact r1
    · rw [e _ (by omega)]; exact hO.2.1 w hw k h1 h2
    · rw [e _ (by omega)]; exact hO.2.2.2 _ (by omega) (by omega)
  · rw [b0, e _ (by omega)]; exact hO.2.2.1.symm
theorem cR_cg2 {P : Nat → Nat} {D E : Nat → Nat → Int32} {N : Nat → Int32} (hP : pOK P) (h0 : E 0 0 = D 0 0) (h : ∀ i, 8 ≤ i → i < 66 → ¬ (P 1 ≤ i ∧ i ≤ P 1 + 18) → E i = D i) (hc : cR P D N) : cR P E N := by
  obtain ⟨hN, hZ, hs, hR, hS, ht, hf⟩ := hc
  have hp := hP.1
  refine ⟨hN, hZ, hs, RuR_cg hR (fun k hk => h _ (by omega) (by omega) (by omega)) hN.ns.le hN.nn.le hN.nw.le, fun w hw hw2 => ?_, h0.trans ht, fun w hw d h1 h2 => ?_⟩
  · obtain ⟨gd, q⟩ := hS w hw hw2
    refine ⟨gd, ?_⟩
    show ShR N w (E (46 + 5 * w + 1)) (E (46 + 5 * w + 2)) (E (46 + 5 * w + 3)) (E (46 + 5 * w + 4)) (E (46 + 5 * w) 0) (E (46 + 5 * w) 1) gd
    rw [h (46 + 5 * w + 1) (by omega) (by omega) (by omega), h (46 + 5 * w + 2) (by omega) (by omega) (by omega), h (46 + 5 * w + 3) (by omega) (by omega) (by omega), h (46 + 5 * w + 4) (by omega) (by omega) (by omega), h (46 + 5 * w) (by omega) (by omega) (by omega)]
    exact q
  · rw [h (46 + 5 * w + 3) (by omega) (by omega) (by omega)]; exact hf w hw d h1 h2
theorem chain_dr {P : Nat → Nat} {M A : Nat → Nat → Int32} {sn : Nat → Int32} (hP : pOK P) (hA : ∀ j, j < 10 → ∀ i, i < 6 → A (66 + 6 * j + i) = M (66 + 6 * j + i)) : ∀ (c nx : Nat) (D E : Nat → Nat → Int32), (∀ i, ¬ (P 1 ≤ i ∧ i ≤ P 1 + 18) → E i = D i) → chain P M sn c nx D → chain P A sn c nx E
  | 0, _, _, _, _, _ => trivial
  | c + 1, nx, D, E, hE, h => by
    obtain ⟨h1, h2, h3⟩ := h
    have hj : ∀ i, i < 6 → A (66 + 6 * ((nx + 9) % 10) + i) = M (66 + 6 * ((nx + 9) % 10) + i) := hA _ (by omega)
    have e0 : A (66 + 6 * ((nx + 9) % 10)) = M (66 + 6 * ((nx + 9) % 10)) := hj 0 (by omega)
    have hp := hP.d
    have ht : ∀ i, ¬ (P 1 ≤ i ∧ i ≤ P 1 + 18) → tkD A E ((nx + 9) % 10) i = tkD M D ((nx + 9) % 10) i := fun i hi => by
      rw [tkD_cg hj]
      unfold tkD
      rw [hE i hi]
    refine ⟨?_, cR_cg2 hP (congrFun (ht 0 (by omega)) 0) (fun i _ _ h9 => ht i h9) h2, chain_dr hP hA c _ _ _ ht h3⟩
    unfold stW at h1 ⊢; rw [e0]; exact h1
theorem INV_dr {P : Nat → Nat} {M A : Nat → Nat → Int32} {N sn : Nat → Int32} {k : Nat} (hI : INV P M N sn k) (h : ∀ i, ¬ (1 ≤ i ∧ i ≤ 4) → ¬ (P 1 ≤ i ∧ i ≤ P 1 + 18) → A i = M i) : INV P A N sn k := by
  obtain ⟨hP, hR, hk, hk6, nx, hnx, hn, hch⟩ := hI
  have hp := hP.d
  have h0 : A 0 = M 0 := h 0 (by omega) (by omega)
  have h6 : A 6 = M 6 := h 6 (by omega) (by omega)
  refine ⟨hP, cR_cg2 hP (congrFun h0 0) (fun i h1 h2 h3 => h i (by omega) h3) hR, hk, by rw [h6]; exact hk6, nx, hnx, by rw [h6]; exact hn, chain_dr hP (fun j hj i hi => h _ (by omega) (by omega)) k nx (dt M) (dt A) (fun i hi => ?_) hch⟩
  unfold dt
  by_cases q : i = 0
  · rw [if_pos q, if_pos q, h0]
  · rw [if_neg q, if_neg q]
    by_cases q2 : 8 ≤ i ∧ i < 66
    · rw [if_pos q2, if_pos q2, h i (by omega) hi]
    · rw [if_neg q2, if_neg q2]
def txQ (P : Nat → Nat) (M : Nat → Nat → Int32) (N sn : Nat → Int32) (k : Nat) (X : PR) (r : Int32) (u : (Nat → Nat) × (Nat → Nat → Int32)) : Prop := u.2 1 0 = zI 0 ∧ u.2 2 = M 2 ∧ (∀ e, X = .inl e → r = zI (-1 - (e.2 : Int)) ∧ u.2 3 0 = zI e.1 ∧ INV u.1 u.2 N sn k) ∧ ∀ q, X = .inr q → r = zI q.1 ∧ u.2 3 0 = zI 0 ∧ INV u.1 u.2 (cpP q.2 N 1567) sn 0
theorem tx_l {P : Nat → Nat} {M M1 A : Nat → Nat → Int32} {N sn : Nat → Int32} {n k : Nat} {X : PR} {r : Int32} {e : Nat × Nat} (hI : INV P M N sn k) (hr : riQ (P 1) n M M1 X r) (hx : X = .inl e) (h1 : A 1 0 = zI 0) (hA : ∀ j, ¬ j = 1 → A j = M1 j) : txQ P M N sn k X (zI (-1 - ((e.2 : Nat) : Int))) (P, A) := by
  obtain ⟨g1, g2, g3⟩ := hr.2.1 e hx
  have hp := hI.1.d
  refine ⟨h1, (hA 2 (by omega)).trans (hr.1 2 (by omega) (by omega) (by omega)), fun e2 h2 => ?_, fun q h2 => (by rw [hx] at h2; cases h2)⟩
  rw [hx] at h2; cases h2
  exact ⟨rfl, (congrFun (hA 3 (by omega)) 0).trans g2, INV_dr hI (fun i q1 q2 => (hA i (by omega)).trans (hr.1 i (by omega) (by omega) q2))⟩
theorem tx_r {P : Nat → Nat} {M M1 A : Nat → Nat → Int32} {N sn : Nat → Int32} {n k : Nat} {X : PR} {r : Int32} {q : Nat × (Nat → Int32)} {u : (Nat → Nat) × (Nat → Nat → Int32)} (hI : INV P M N sn k) (hr : riQ (P 1) n M M1 X r) (hx : X = .inr q) (h1 : A 1 0 = zI 0) (hA : ∀ j, ¬ j = 1 → A j = M1 j) (hu : adQ P A u) : txQ P M N sn k X (zI ((q.1 : Nat) : Int)) u := by
  obtain ⟨g1, g2, g3, g4, g5⟩ := hr.2.2 q hx
  obtain ⟨hP, hc, hk, hk6, nx, hnx, hn, hch⟩ := hI
  have hp := hP.d
  have o := hu.2.2.2.2.2.1
  refine ⟨(congrFun (o 1 (by omega) (by omega) (by omega)) 0).trans h1, (o 2 (by omega) (by omega) (by omega)).trans ((hA 2 (by omega)).trans (hr.1 2 (by omega) (by omega) (by omega))), fun e h2 => (by rw [hx] at h2; cases h2), fun q2 h2 => ?_⟩
  rw [hx] at h2; cases h2
  refine ⟨rfl, (congrFun ((o 3 (by omega) (by omega) (by omega)).trans (hA 3 (by omega))) 0).trans g2, INV_text hP hnx ?_ hc.2.1 hu (dR_cg g3 g4.1 (fun j h1 h2 => hA j (by omega))) g4⟩
  rw [hA 6 (by omega), hr.1 6 (by omega) (by omega) (by omega)]; exact hn
