def Zt (N : Nat → Int32) : Prop := ∀ j, 1567 ≤ j → N j = zI 0
def stl (N : Nat → Int32) : Prop := ∀ w, w < 4 → w < mn N 57 → goneN N w = 0 → N (66 + 13 * w) = zI 0
def cR (P : Nat → Nat) (D : Nat → Nat → Int32) (N : Nat → Int32) : Prop := okN N ∧ Zt N ∧ stl N ∧ RuR N (fun k => D (P 0 + 1 + k)) ∧ shsM N D ∧ D 0 0 = N 110 ∧ ∀ w, w < 4 → ∀ d, mn N 110 ≤ d → d < 364 → D (46 + 5 * w + 3) d = zI 0
theorem RuR_cg {N : Nat → Int32} {f h : Nat → Nat → Int32} (hR : RuR N f) (e : ∀ k, k < 18 → h k = f k) (h4 : mn N 4 ≤ 5) (h50 : mn N 50 ≤ 3) (h57 : mn N 57 ≤ 4) : RuR N h := by
  refine ⟨fun j hj => ?_, ?_, ?_, ?_, fun i hi j hj => ?_, fun i hi j hj => ?_, fun i hi j hj => ?_⟩
  · rw [e 1 (by omega)]; exact hR.1 j hj
  · rw [e 17 (by omega)]; exact hR.2.1
  · rw [e 17 (by omega)]; exact hR.2.2.1
  · rw [e 17 (by omega)]; exact hR.2.2.2.1
  · rw [e (3 + i) (by omega)]; exact hR.2.2.2.2.1 i hi j hj
  · rw [e (9 + i) (by omega)]; exact hR.2.2.2.2.2.1 i hi j hj
  · rw [e (13 + i) (by omega)]; exact hR.2.2.2.2.2.2 i hi j hj
theorem cR_cg {P : Nat → Nat} {D E : Nat → Nat → Int32} {N : Nat → Int32} (hP : P 0 = 8 ∨ P 0 = 27) (h0 : E 0 0 = D 0 0) (h : ∀ i, 8 ≤ i → i < 66 → E i = D i) (hc : cR P D N) : cR P E N := by
  obtain ⟨hN, hZ, hs, hR, hS, ht, hf⟩ := hc
  refine ⟨hN, hZ, hs, RuR_cg hR (fun k hk => h _ (by omega) (by omega)) hN.ns.le hN.nn.le hN.nw.le, fun w hw hw2 => ?_, h0.trans ht, fun w hw d h1 h2 => ?_⟩
  · obtain ⟨gd, q⟩ := hS w hw hw2
    refine ⟨gd, ?_⟩
    show ShR N w (E (46 + 5 * w + 1)) (E (46 + 5 * w + 2)) (E (46 + 5 * w + 3)) (E (46 + 5 * w + 4)) (E (46 + 5 * w) 0) (E (46 + 5 * w) 1) gd
    rw [h (46 + 5 * w + 1) (by omega) (by omega), h (46 + 5 * w + 2) (by omega) (by omega), h (46 + 5 * w + 3) (by omega) (by omega), h (46 + 5 * w + 4) (by omega) (by omega), h (46 + 5 * w) (by omega) (by omega)]
    exact q
  · rw [h (46 + 5 * w + 3) (by omega) (by omega)]; exact hf w hw d h1 h2
def dt (M : Nat → Nat → Int32) : Nat → Nat → Int32 := fun i => if i = 0 then (fun k => if k = 0 then M 0 0 else zI 0) else if 8 ≤ i ∧ i < 66 then M i else fun _ => zI 0
theorem dt_in {M : Nat → Nat → Int32} {i : Nat} (h1 : 8 ≤ i) (h2 : i < 66) : dt M i = M i := by unfold dt; rw [if_neg (by omega), if_pos ⟨h1, h2⟩]
theorem dt_0 (M : Nat → Nat → Int32) : dt M 0 0 = M 0 0 := rfl
theorem cR_dt {P : Nat → Nat} {M : Nat → Nat → Int32} {N : Nat → Int32} (hP : P 0 = 8 ∨ P 0 = 27) (h : cR P M N) : cR P (dt M) N := cR_cg hP (dt_0 M) (fun i h1 h2 => dt_in h1 h2) h
theorem cR_td {P : Nat → Nat} {M : Nat → Nat → Int32} {N : Nat → Int32} (hP : P 0 = 8 ∨ P 0 = 27) (h : cR P (dt M) N) : cR P M N := cR_cg hP (dt_0 M).symm (fun i h1 h2 => (dt_in h1 h2).symm) h
def tkD (M D : Nat → Nat → Int32) (j : Nat) : Nat → Nat → Int32 := fun i =>
  if i = 0 then (fun k => if k = 0 then M (66 + 6 * j) 0 else zI 0)
  else if 46 ≤ i ∧ i < 66 then
    (if (i - 46) % 5 = 4 then M (66 + 6 * j + (2 + (i - 46) / 5))
     else if (i - 46) % 5 = 3 then (fun d : Nat => if d < 364 ∧ zI d = M (66 + 6 * j) 0 then zI 0 else D i d)
     else if (i - 46) % 5 = 0 then D i
     else fun d : Nat => if d < 364 ∧ zI d = M (66 + 6 * j) 2 ∧ zI (((i - 46) / 5 : Nat) : Int) = M (66 + 6 * j) 1 then M (66 + 6 * j) (2 + (i - 46) % 5) else D i d)
  else D i
def stW (M : Nat → Nat → Int32) (j : Nat) : Prop := M (66 + 6 * j) 1 = zI (-1) ∨ ∃ w d : Nat, w < 4 ∧ d < 364 ∧ M (66 + 6 * j) 1 = zI w ∧ M (66 + 6 * j) 2 = zI d
def snp (sn : Nat → Int32) (k : Nat) : Nat → Int32 := fun j => if j < 1567 then sn (1567 * k + j) else zI 0
def chain (P : Nat → Nat) (M : Nat → Nat → Int32) (sn : Nat → Int32) : Nat → Nat → (Nat → Nat → Int32) → Prop
  | 0, _, _ => True
  | c + 1, nx, D => stW M ((nx + 9) % 10) ∧ cR P (tkD M D ((nx + 9) % 10)) (snp sn c) ∧ chain P M sn c ((nx + 9) % 10) (tkD M D ((nx + 9) % 10))
def INV (P : Nat → Nat) (M : Nat → Nat → Int32) (N sn : Nat → Int32) (k : Nat) : Prop := pOK P ∧ cR P M N ∧ k ≤ 10 ∧ M 6 1 = zI k ∧ ∃ nx : Nat, nx < 10 ∧ M 6 0 = zI (nx : Int) ∧ chain P M sn k nx (dt M)
theorem tkD_cg {M A D : Nat → Nat → Int32} {j : Nat} (h : ∀ i, i < 6 → A (66 + 6 * j + i) = M (66 + 6 * j + i)) : tkD A D j = tkD M D j := by
  funext i
  have e0 : A (66 + 6 * j) = M (66 + 6 * j) := h 0 (by omega)
  unfold tkD
  rw [e0]
  by_cases q : 46 ≤ i ∧ i < 66
  · rw [h (2 + (i - 46) / 5) (by omega)]
  · rw [if_neg q, if_neg q]
theorem chain_cg {P : Nat → Nat} {M A : Nat → Nat → Int32} {sn s1 : Nat → Int32} (x : Nat) : ∀ (c nx : Nat) (D : Nat → Nat → Int32), (∀ i, i < c → snp s1 i = snp sn (i + x)) → (∀ e, 1 ≤ e → e ≤ c → ∀ i, i < 6 → A (66 + 6 * ((nx + 10 * c - e) % 10) + i) = M (66 + 6 * ((nx + 10 * c - e) % 10) + i)) → chain P M sn (c + x) nx D → chain P A s1 c nx D
  | 0, _, _, _, _, _ => trivial
  | c + 1, nx, D, hs, hA, h => by
    rw [show c + 1 + x = c + x + 1 by omega] at h
    obtain ⟨h1, h2, h3⟩ := h
    have hj : ∀ i, i < 6 → A (66 + 6 * ((nx + 9) % 10) + i) = M (66 + 6 * ((nx + 9) % 10) + i) := fun i hi => by
      have := hA 1 (by omega) (by omega) i hi
      rw [show (nx + 10 * (c + 1) - 1) % 10 = (nx + 9) % 10 by omega] at this
      exact this
    have e0 : A (66 + 6 * ((nx + 9) % 10)) = M (66 + 6 * ((nx + 9) % 10)) := hj 0 (by omega)
    refine ⟨?_, ?_, ?_⟩
    · unfold stW at h1 ⊢; rw [e0]; exact h1
    · rw [tkD_cg hj, hs c (by omega)]; exact h2
    · rw [tkD_cg hj]
      refine chain_cg x c _ _ (fun i hi => hs i (by omega)) (fun e h1 h2 i hi => ?_) h3
      have := hA (e + 1) (by omega) (by omega) i hi
      rw [show (nx + 10 * (c + 1) - (e + 1)) % 10 = ((nx + 9) % 10 + 10 * c - e) % 10 by omega] at this
      exact this
theorem snp_lt {sn N : Nat → Int32} {k i : Nat} (hk : k < 10) (hi : i < k) : snp (snS sn N k) i = snp sn i := by
  funext j
  unfold snp
  by_cases h : j < 1567
  · rw [if_pos h, if_pos h]
    unfold snS
    rw [if_neg (by omega)]
    unfold ptP
    rw [if_neg (by omega)]
  · rw [if_neg h, if_neg h]
theorem snp_at {sn N : Nat → Int32} {k : Nat} (hk : k < 10) (hZ : Zt N) : snp (snS sn N k) k = N := by
  funext j
  unfold snp
  by_cases h : j < 1567
  · rw [if_pos h]
    unfold snS
    rw [if_neg (by omega)]
    unfold ptP
    rw [if_pos (by omega), show 1567 * k + j - 1567 * k = j by omega]
  · rw [if_neg h]; exact (hZ j (by omega)).symm
theorem snp_10 {sn N : Nat → Int32} {i : Nat} (hi : i < 9) : snp (snS sn N 10) i = snp sn (i + 1) := by
  funext j
  unfold snp
  by_cases h : j < 1567
  · rw [if_pos h, if_pos h]
    unfold snS
    rw [if_pos rfl]
    unfold ptP
    rw [if_neg (by omega)]
    unfold shP
    rw [if_pos (by omega)]
    exact congrArg sn (by omega)
  · rw [if_neg h, if_neg h]
theorem snp_10a {sn N : Nat → Int32} (hZ : Zt N) : snp (snS sn N 10) 9 = N := by
  funext j
  unfold snp
  by_cases h : j < 1567
  · rw [if_pos h]
    unfold snS
    rw [if_pos rfl]
    unfold ptP
    rw [if_pos (by omega), show 1567 * 9 + j - 1567 * 9 = j by omega]
  · rw [if_neg h]; exact (hZ j (by omega)).symm
theorem unN_snp {sn N : Nat → Int32} {k : Nat} (hk : 1 ≤ k) (hZ : Zt N) : unN sn N k = snp sn (k - 1) := by
  funext j
  unfold unN snp
  rw [if_neg (by omega)]
  unfold unP
  by_cases h : j < 1567
  · rw [if_pos h, if_pos h]
  · rw [if_neg h, if_neg h]; exact hZ j (by omega)
theorem INV_act {P : Nat → Nat} {M A : Nat → Nat → Int32} {N N1 sn : Nat → Int32} {k nx : Nat} (hI : INV P M N sn k) (hnx : nx < 10) (hn : M 6 0 = zI nx) (hst : stW A nx) (hb : tkD A (dt A) nx = dt M) (ho : ∀ j, j < 10 → j ≠ nx → ∀ i, i < 6 → A (66 + 6 * j + i) = M (66 + 6 * j + i)) (h60 : A 6 0 = zI (((nx + 1) % 10 : Nat) : Int)) (h61 : A 6 1 = zI ((min (k + 1) 10 : Nat) : Int)) (hc : cR P A N1) : INV P A N1 (snS sn N k) (min (k + 1) 10) := by
  obtain ⟨hP, hR, hk, hk6, nx', hnx', hn', hch⟩ := hI
  obtain rfl : nx' = nx := (zIn_eq (by omega) (by omega)).mp (hn'.symm.trans hn)
  refine ⟨hP, hc, by omega, h61, (nx' + 1) % 10, by omega, h60, ?_⟩
  have hj : ((nx' + 1) % 10 + 9) % 10 = nx' := by omega
  have hZ := hR.2.1
  by_cases q : k = 10
  · subst q
    show stW A (((nx' + 1) % 10 + 9) % 10) ∧ cR P (tkD A (dt A) (((nx' + 1) % 10 + 9) % 10)) (snp (snS sn N 10) 9) ∧ chain P A (snS sn N 10) 9 (((nx' + 1) % 10 + 9) % 10) (tkD A (dt A) (((nx' + 1) % 10 + 9) % 10))
    rw [hj, hb, snp_10a hZ]
    exact ⟨hst, cR_dt hP.r hR, chain_cg 1 9 nx' _ (fun i hi => snp_10 hi) (fun e h1 h2 i hi => ho _ (by omega) (by omega) i hi) hch⟩
  · rw [show min (k + 1) 10 = k + 1 by omega]
    show stW A (((nx' + 1) % 10 + 9) % 10) ∧ cR P (tkD A (dt A) (((nx' + 1) % 10 + 9) % 10)) (snp (snS sn N k) k) ∧ chain P A (snS sn N k) k (((nx' + 1) % 10 + 9) % 10) (tkD A (dt A) (((nx' + 1) % 10 + 9) % 10))
    rw [hj, hb, snp_at (by omega) hZ]
    exact ⟨hst, cR_dt hP.r hR, chain_cg 0 k nx' _ (fun i hi => snp_lt (by omega) hi) (fun e h1 h2 i hi => ho _ (by omega) (by omega) i hi) hch⟩
theorem tkD_back {M A : Nat → Nat → Int32} {nx w d : Nat} (hnx : nx < 10) (h0 : A (66 + 6 * nx) 0 = M 0 0) (hac : ∀ v, v < 4 → A (66 + 6 * nx + (2 + v)) = M (46 + 5 * v + 4)) (hfl : ∀ v, v < 4 → ∀ e : Nat, (e < 364 ∧ zI e = M 0 0 → M (46 + 5 * v + 3) e = zI 0) ∧ (¬ (e < 364 ∧ zI e = M 0 0) → A (46 + 5 * v + 3) e = M (46 + 5 * v + 3) e)) (hob : ∀ v, v < 4 → A (46 + 5 * v) = M (46 + 5 * v)) (hru : ∀ i, 8 ≤ i → i < 46 → A i = M i)
    (hct : (A (66 + 6 * nx) 1 = zI (-1) ∧ ∀ v, v < 4 → ∀ k, (k = 1 ∨ k = 2) → A (46 + 5 * v + k) = M (46 + 5 * v + k)) ∨ (A (66 + 6 * nx) 1 = zI (w : Int) ∧ A (66 + 6 * nx) 2 = zI (d : Int) ∧ w < 4 ∧ d < 364 ∧ A (66 + 6 * nx) 3 = M (46 + 5 * w + 1) d ∧ A (66 + 6 * nx) 4 = M (46 + 5 * w + 2) d ∧ ∀ v, v < 4 → ∀ k, (k = 1 ∨ k = 2) → ∀ e, (v ≠ w ∨ e ≠ d) → A (46 + 5 * v + k) e = M (46 + 5 * v + k) e)) : tkD A (dt A) nx = dt M := by
  funext i
  by_cases q0 : i = 0
  · subst q0
    unfold tkD dt
    rw [if_pos rfl, if_pos rfl, h0]
  · by_cases q1 : 46 ≤ i ∧ i < 66
    · obtain ⟨v, k, hv, hk, rfl⟩ : ∃ v k, v < 4 ∧ k < 5 ∧ i = 46 + 5 * v + k := ⟨(i - 46) / 5, (i - 46) % 5, by omega, by omega, by omega⟩
      rw [dt_in (by omega) (by omega)]
      unfold tkD
      rw [if_neg q0, if_pos q1, show (46 + 5 * v + k - 46) % 5 = k by omega, show (46 + 5 * v + k - 46) / 5 = v by omega, dt_in (by omega) (by omega)]
      by_cases k4 : k = 4
      · subst k4; rw [if_pos rfl]; exact hac v hv
      · rw [if_neg k4]
        by_cases k3 : k = 3
        · subst k3; rw [if_pos rfl]
          funext e
          rw [h0]
          by_cases z : e < 364 ∧ zI e = M 0 0
          · rw [if_pos z]; exact ((hfl v hv e).1 z).symm
          · rw [if_neg z]; exact (hfl v hv e).2 z
        · rw [if_neg k3]
          by_cases k0 : k = 0
          · subst k0; rw [if_pos rfl]; exact hob v hv
          · rw [if_neg k0]
            funext e
            rcases hct with ⟨g1, g2⟩ | ⟨g1, g2, gw, gd, g3, g4, g5⟩
            · rw [if_neg (fun z => by
                have := (zI_eq (by omega) (by omega)).mp (z.2.2.trans g1)
                omega), g2 v hv k (by omega)]
            · by_cases z : v = w ∧ e = d
              · obtain ⟨rfl, rfl⟩ := z
                rw [if_pos ⟨gd, g2.symm, g1.symm⟩]
                rcases (by omega : k = 1 ∨ k = 2) with rfl | rfl
                · exact g3
                · exact g4
              · rw [if_neg (fun y => z ⟨(zIn_eq (by omega) (by omega)).mp (y.2.2.trans g1), (zIn_eq (by omega) (by omega)).mp (y.2.1.trans g2)⟩)]
                exact g5 v hv k (by omega) e (by omega)
    · unfold tkD
      rw [if_neg q0, if_neg q1]
      unfold dt
      rw [if_neg q0, if_neg q0]
      by_cases q2 : 8 ≤ i ∧ i < 66
      · rw [if_pos q2, if_pos q2]; exact hru i q2.1 (by omega)
      · rw [if_neg q2, if_neg q2]
theorem INV_undo {P : Nat → Nat} {M A : Nat → Nat → Int32} {N sn : Nat → Int32} {k nx : Nat} (hI : INV P M N sn (k + 1)) (hnx : nx < 10) (hn : M 6 0 = zI nx) (hA : A = va_up (tkM M ((nx + 9) % 10) (k + 1)) 0 (upd (M 0) 0 (M (66 + 6 * ((nx + 9) % 10)) 0))) : INV P A (unN sn N (k + 1)) sn k := by
  obtain ⟨hP, hR, hk, hk6, nx', hnx', hn', hch⟩ := hI
  obtain rfl : nx' = nx := (zIn_eq (by omega) (by omega)).mp (hn'.symm.trans hn)
  obtain ⟨h1, h2, h3⟩ := hch
  generalize hj : (nx' + 9) % 10 = j at *
  have a0 : A 0 = upd (M 0) 0 (M (66 + 6 * j) 0) := by rw [hA, up_at]
  have a6 : A 6 = upd (upd (M 6) 0 (zI (j : Int))) 1 (zI (((k + 1 : Nat) : Int) - 1)) := by rw [hA, up_ne _ _ (by omega)]; rfl
  have hd : dt A = tkD M (dt M) j := by
    funext i
    by_cases q0 : i = 0
    · subst q0
      unfold tkD dt
      rw [if_pos rfl, if_pos rfl, a0]; rfl
    · have e1 : A i = tkM M j (k + 1) i := by rw [hA, up_ne _ _ q0]
      by_cases q1 : 46 ≤ i ∧ i < 66
      · rw [dt_in (by omega) (by omega), e1]
        unfold tkM tkD
        rw [if_neg (by omega), if_pos q1, if_neg q0, if_pos q1, dt_in (by omega) (by omega)]
      · unfold tkD
        rw [if_neg q0, if_neg q1]
        unfold dt
        rw [if_neg q0, if_neg q0]
        by_cases q2 : 8 ≤ i ∧ i < 66
        · rw [if_pos q2, if_pos q2, e1, tk_out (by omega) q1]
        · rw [if_neg q2, if_neg q2]
  rw [unN_snp (by omega) hR.2.1, show k + 1 - 1 = k by omega]
  refine ⟨hP, cR_td hP.r (by rw [hd]; exact h2), by omega, by rw [a6]; exact congrArg zI (by omega), j, by omega, by rw [a6]; rfl, ?_⟩
  rw [hd]
  exact chain_cg 0 k j _ (fun i hi => rfl) (fun e h1 h2 i hi => by rw [hA, up_ne _ _ (by omega)]; exact tk_out (by omega) (by omega)) h3
