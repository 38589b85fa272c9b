def addR (f : Nat → Int32) (b hi lo rt : Int) : Nat → Int32 := upd (upd (upd (upd (upd f 0 (zI (b - max 0 (b - hi) + max 0 (-lo - b)))) 1 (f 1 + zI (max 0 (b - hi)))) 3 (f 3 + zI (max 0 (b - hi) * rt * 3 / 2))) 2 (f 2 + zI (max 0 (-lo - b)))) 5 (f 5 + zI (max 0 (-lo - b) * rt))
theorem mul3r {a r : Int} (ha : 0 ≤ a ∧ a ≤ 30000) (hr : 0 ≤ r ∧ r ≤ 999) : 0 ≤ a * r * 3 ∧ a * r * 3 < 2147483648 := by
  have h1 : 0 ≤ a * r := Int.mul_nonneg ha.1 hr.1
  have h2 : a * r ≤ 30000 * 999 := Int.le_trans (Int.mul_le_mul_of_nonneg_right ha.2 hr.1) (Int.mul_le_mul_of_nonneg_left hr.2 (by omega))
  omega
theorem add0 (x : Int32) : x + zI 0 = x := by
  have h := zI_add x.toInt 0
  rw [← zI_of] at h
  rw [h, Int.add_zero]; exact (zI_of x).symm
theorem addR_k (f : Nat → Int32) (b hi lo rt : Int) (k : Nat) : addR f b hi lo rt k = if k = 5 then f 5 + zI (max 0 (-lo - b) * rt) else if k = 2 then f 2 + zI (max 0 (-lo - b)) else if k = 3 then f 3 + zI (max 0 (b - hi) * rt * 3 / 2) else if k = 1 then f 1 + zI (max 0 (b - hi)) else if k = 0 then zI (b - max 0 (b - hi) + max 0 (-lo - b)) else f k := rfl
theorem addR_in {f : Nat → Int32} {b hi lo rt : Int} (h1 : b ≤ hi) (h2 : -lo ≤ b) (k : Nat) : addR f b hi lo rt k = if k = 0 then zI b else f k := by
  have e1 : max 0 (b - hi) = 0 := by omega
  have e2 : max 0 (-lo - b) = 0 := by omega
  have z1 : zI ((0 : Int) * rt) = zI 0 := by rw [Int.zero_mul]
  have z2 : zI ((0 : Int) * rt * 3 / 2) = zI 0 := by rw [Int.zero_mul]; rfl
  rw [addR_k, e1, e2, z1, z2, add0, add0, add0, add0, show b - 0 + 0 = b by omega]
  by_cases q5 : k = 5
  · subst q5; rfl
  · by_cases q2 : k = 2
    · subst q2; rfl
    · by_cases q3 : k = 3
      · subst q3; rfl
      · by_cases q1 : k = 1
        · subst q1; rfl
        · rw [if_neg q5, if_neg q2, if_neg q3, if_neg q1]
theorem addR_hi {f : Nat → Int32} {b hi lo rt : Int} (h1 : hi < b) (h2 : -lo ≤ hi) (k : Nat) : addR f b hi lo rt k = if k = 0 then zI hi else if k = 1 then f 1 + zI (b - hi) else if k = 3 then f 3 + zI ((b - hi) * rt * 3 / 2) else f k := by
  have e1 : max 0 (b - hi) = b - hi := by omega
  have e2 : max 0 (-lo - b) = 0 := by omega
  have z1 : zI ((0 : Int) * rt) = zI 0 := by rw [Int.zero_mul]
  rw [addR_k, e1, e2, z1, add0, add0, show b - (b - hi) + 0 = hi by omega]
  by_cases q5 : k = 5
  · subst q5; rfl
  · by_cases q2 : k = 2
    · subst q2; rfl
    · by_cases q3 : k = 3
      · subst q3; rfl
      · by_cases q1 : k = 1
        · subst q1; rfl
        · rw [if_neg q5, if_neg q2, if_neg q3, if_neg q1, if_neg q1, if_neg q3]
theorem addR_lo {f : Nat → Int32} {b hi lo rt : Int} (h1 : b < -lo) (h2 : -lo ≤ hi) (k : Nat) : addR f b hi lo rt k = if k = 0 then zI (-lo) else if k = 2 then f 2 + zI (-lo - b) else if k = 5 then f 5 + zI ((-lo - b) * rt) else f k := by
  have e1 : max 0 (b - hi) = 0 := by omega
  have e2 : max 0 (-lo - b) = -lo - b := by omega
  have z2 : zI ((0 : Int) * rt * 3 / 2) = zI 0 := by rw [Int.zero_mul]; rfl
  rw [addR_k, e1, e2, z2, add0, add0, show b - 0 + (-lo - b) = -lo by omega]
  by_cases q5 : k = 5
  · subst q5; rfl
  · by_cases q2 : k = 2
    · subst q2; rfl
    · by_cases q3 : k = 3
      · subst q3; rfl
      · by_cases q1 : k = 1
        · subst q1; rfl
        · rw [if_neg q5, if_neg q2, if_neg q3, if_neg q1, if_neg q2, if_neg q5]
theorem cls_same {N : Nat → Int32} {w : Nat} (h : ¬ knd N w (mn N 110) = 0) : clsN N w = N := by unfold clsN; rw [if_neg h]
theorem cls_in {N : Nat → Int32} {w j : Nat} (hj : ¬ (58 + 13 * w + 2 ≤ j ∧ j ≤ 58 + 13 * w + 7)) : clsN N w j = N j := by
  unfold clsN
  split
  · split
    · rw [upd_ne _ (by omega), upd_ne _ (by omega), upd_ne _ (by omega)]
    · split
      · rw [upd_ne _ (by omega), upd_ne _ (by omega), upd_ne _ (by omega)]
      · rw [upd_ne _ (by omega)]
  · rfl
theorem ShR_cls {N : Nat → Int32} {w gd : Nat} {ch tl fl af : Nat → Int32} {rate lv : Int32} (hN : okN N) (h : ShR N w ch tl fl af rate lv gd) (hk : knd N w (mn N 110) = 0) : ShR (clsN N w) w ch tl fl (addR af (balB N w) (mn N 1) (mn N 0) (mn N (58 + 13 * w))) rate lv gd := by
  have h0 := hN.lo.le
  have h1 := hN.hi.le
  have hd : ∀ d, d < 364 → clsN N w (111 + 364 * w + d) = N (111 + 364 * w + d) := fun d _ => cls_in (by omega)
  have h110 : mn (clsN N w) 110 = mn N 110 := mn_cg (cls_in (by omega))
  have h67 : clsN N w (67 + 13 * w) = N (67 + 13 * w) := cls_in (by omega)
  obtain ⟨a1, a2, a3, a4, a5, a6, a7, a8, a9, a10, a11⟩ := h
  have ff : ∀ k, 6 ≤ k → addR af (balB N w) (mn N 1) (mn N 0) (mn N (58 + 13 * w)) k = af k := fun k hk => by
    unfold addR
    rw [upd_ne _ (by omega), upd_ne _ (by omega), upd_ne _ (by omega), upd_ne _ (by omega), upd_ne _ (by omega)]
  refine ⟨a1.trans (cls_in (by omega)).symm, a2.trans (cls_in (by omega)).symm, fun d hd2 => by rw [chg_cg (hd d hd2)]; exact a3 d hd2, fun d hd2 => ?_, fun d hd2 => by rw [flg_cg (hd d hd2)]; exact a5 d hd2, fun k hk7 => ?_, ?_, (ff 8 (by omega)).trans a8, a9, fun q => a10 (by rw [← gone_cg h67]; exact q), fun q => by rw [h110]; exact a11 (by rw [← gone_cg h67]; exact q)⟩
  · obtain ⟨τ, q1, q2⟩ := a4 d hd2
    exact ⟨τ, q1, tlOK_cg (hd d hd2) q2⟩
  · unfold clsN
    rw [if_pos hk]
    have e := a6 k hk7
    by_cases c1 : (mn N 1 : Int) < balB N w
    · rw [if_pos c1, addR_hi c1 (by omega)]
      by_cases k0 : k = 0
      · subst k0; rw [if_pos rfl, upd_ne _ (by omega), upd_ne _ (by omega), show 58 + 13 * w + (2 + 0) = 58 + 13 * w + 2 by omega, upd_at]
      · by_cases k1 : k = 1
        · subst k1; rw [if_neg (by omega), if_pos rfl, upd_ne _ (by omega), show 58 + 13 * w + (2 + 1) = 58 + 13 * w + 3 by omega, upd_at, e]
        · by_cases k3 : k = 3
          · subst k3; rw [if_neg (by omega), if_neg (by omega), if_pos rfl, show 58 + 13 * w + (2 + 3) = 58 + 13 * w + 5 by omega, upd_at, e]
          · rw [if_neg k0, if_neg k1, if_neg k3, upd_ne _ (by omega), upd_ne _ (by omega), upd_ne _ (by omega)]; exact e
    · rw [if_neg c1]
      by_cases c2 : balB N w < -(mn N 0 : Int)
      · rw [if_pos c2, addR_lo c2 (by omega)]
        by_cases k0 : k = 0
        · subst k0; rw [if_pos rfl, upd_ne _ (by omega), upd_ne _ (by omega), show 58 + 13 * w + (2 + 0) = 58 + 13 * w + 2 by omega, upd_at]
        · by_cases k1 : k = 2
          · subst k1; rw [if_neg (by omega), if_pos rfl, upd_ne _ (by omega), show 58 + 13 * w + (2 + 2) = 58 + 13 * w + 4 by omega, upd_at, e]
          · by_cases k3 : k = 5
            · subst k3; rw [if_neg (by omega), if_neg (by omega), if_pos rfl, show 58 + 13 * w + (2 + 5) = 58 + 13 * w + 7 by omega, upd_at, e]
            · rw [if_neg k0, if_neg k1, if_neg k3, upd_ne _ (by omega), upd_ne _ (by omega), upd_ne _ (by omega)]; exact e
      · rw [if_neg c2, addR_in (by omega) (by omega)]
        by_cases k0 : k = 0
        · subst k0; rw [if_pos rfl, show 58 + 13 * w + (2 + 0) = 58 + 13 * w + 2 by omega, upd_at]
        · rw [if_neg k0, upd_ne _ (by omega)]; exact e
  · rw [ff 7 (by omega), a7]
    exact zN_cg (sumN_cg 364 (fun i hi => by rw [Nat.zero_add]; exact (ind3_cg (flg_cg (hd i hi))).symm))
theorem sum_ind1 {N N1 : Nat → Int32} {w d : Nat} (h0 : flg N w d = 0) (h1 : flg N1 w d = 1) (ho : ∀ e, e < 364 → e ≠ d → flg N1 w e = flg N w e) : ∀ n, d < n → n ≤ 364 → sumN (ind N1 w 3) 0 n = sumN (ind N w 3) 0 n + 1
  | 0, h, _ => absurd h (Nat.not_lt_zero _)
  | n + 1, h, hn => by
    rw [sumN_s, sumN_s, Nat.zero_add]
    by_cases q : d = n
    · subst q
      rw [sumN_cg (f := ind N1 w 3) (g := ind N w 3) d (fun i hi => by rw [Nat.zero_add]; exact ind3_cg (ho i (by omega) (by omega)))]
      rw [show ind N1 w 3 d = 1 from if_pos (Or.inl ⟨rfl, h1⟩), show ind N w 3 d = 0 from if_neg (by omega)]
    · rw [sum_ind1 h0 h1 ho n (by omega) (by omega), ind3_cg (ho n (by omega) (fun z => q z.symm))]
      omega
theorem ShR_fl1 {N N1 : Nat → Int32} {w d gd : Nat} {ch tl fl af fl1 af1 : Nat → Int32} {rate lv : Int32} (hN : okN N) (hw : w < 4) (hd : d < 364) (h : ShR N w ch tl fl af rate lv gd) (hf : flg N w d = 0) (hN1 : N1 = upd N (111 + 364 * w + d) (zI (pkD (chg N w d) (wkd N w d) (knd N w d) 1))) (e1 : fl1 = upd fl d (zI 1)) (e2 : af1 = upd af 7 (zI ((sumN (ind N w 3) 0 364 : Nat) + 1 : Int))) : ShR N1 w ch tl fl1 af1 rate lv gd := by
  obtain ⟨a1, a2, a3, a4, a5, a6, a7, a8, a9, a10, a11⟩ := h
  have hx := hN.chg hw hd
  have hy := hN.wkd hw hd
  have hu := hN.knd hw hd
  obtain ⟨d1, d2, d3, d4⟩ := day_is (N := N1) (w := w) (d := d) (x := chg N w d) (y := wkd N w d) (u := knd N w d) (z := 1) (by omega) (by omega) (by omega) (by omega) (by rw [hN1, upd_at])
  have ho : ∀ j, j ≠ 111 + 364 * w + d → N1 j = N j := fun j hj => by rw [hN1, upd_ne _ hj]
  have fE : ∀ e, e < 364 → e ≠ d → flg N1 w e = flg N w e := fun e he q => flg_cg (ho _ (by omega))
  subst e1; subst e2
  refine ⟨a1.trans (ho _ (by omega)).symm, a2.trans (ho _ (by omega)).symm, fun e he => ?_, fun e he => ?_, fun e he => ?_, fun k hk => ?_, ?_, (upd_ne _ (by omega) _).trans a8, a9, fun q => a10 (by rw [← gone_cg (ho (67 + 13 * w) (by omega))]; exact q), fun q => ?_⟩
  · by_cases q : e = d
    · subst q; rw [d1]; exact a3 e he
    · rw [chg_cg (ho _ (by omega))]; exact a3 e he
  · obtain ⟨τ, q1, q2⟩ := a4 e he
    refine ⟨τ, q1, ?_⟩
    by_cases q : e = d
    · subst q; unfold tlOK at q2 ⊢; rw [d2, d3]; exact q2
    · exact tlOK_cg (ho _ (by omega)) q2
  · by_cases q : e = d
    · subst q; rw [upd_at, d4]; rfl
    · rw [upd_ne _ q, fE e he q]; exact a5 e he
  · rw [upd_ne _ (by omega), ho _ (by omega)]; exact a6 k hk
  · rw [upd_at, sum_ind1 hf d4 fE 364 hd (by omega)]; rfl
  · rw [mn_cg (ho 110 (by omega))]; exact a11 (by rw [← gone_cg (ho (67 + 13 * w) (by omega))]; exact q)
def clQ (N : Nat → Int32) (M A : Nat → Nat → Int32) (w gd : Nat) : Prop := shM (closeN N w) A w gd ∧ (∀ j, j ≠ 46 + 5 * w + 3 → j ≠ 46 + 5 * w + 4 → A j = M j) ∧ ∀ e, e ≠ mn N 110 → A (46 + 5 * w + 3) e = M (46 + 5 * w + 3) e
theorem clQ_1 {N : Nat → Int32} {M A : Nat → Nat → Int32} {w gd : Nat} {af : Nat → Int32} (hN : okN N) (hw : w < 4) (ht : mn N 110 < 364) (hf : flg N w (mn N 110) = 0) (h : ShR (clsN N w) w (M (46 + 5 * w + 1)) (M (46 + 5 * w + 2)) (M (46 + 5 * w + 3)) af (M (46 + 5 * w) 0) (M (46 + 5 * w) 1) gd) (hc : flgC N w) (h3 : A (46 + 5 * w + 3) = upd (M (46 + 5 * w + 3)) (mn N 110) (zI 1)) (h4 : A (46 + 5 * w + 4) = upd af 7 (zI ((sumN (ind (clsN N w) w 3) 0 364 : Nat) + 1 : Int))) (ho : ∀ j, j ≠ 46 + 5 * w + 3 → j ≠ 46 + 5 * w + 4 → A j = M j) : clQ N M A w gd := by
  have hd := sD_cls (N := N) hw
  refine ⟨?_, ho, fun e he => by rw [h3, upd_ne _ he]⟩
  show ShR (closeN N w) w (A (46 + 5 * w + 1)) (A (46 + 5 * w + 2)) (A (46 + 5 * w + 3)) (A (46 + 5 * w + 4)) (A (46 + 5 * w) 0) (A (46 + 5 * w) 1) gd
  rw [ho (46 + 5 * w + 1) (by omega) (by omega), ho (46 + 5 * w + 2) (by omega) (by omega), ho (46 + 5 * w) (by omega) (by omega)]
  refine ShR_fl1 (N := clsN N w) (d := mn N 110) (okN_cls hN hw) hw ht h (by rw [sD_flg hd]; exact hf) ?_ h3 h4
  unfold closeN
  rw [if_pos hc, sD_chg hd, sD_wkd hd, sD_knd hd]
theorem clQ_0 {N : Nat → Int32} {M A : Nat → Nat → Int32} {w gd : Nat} {af : Nat → Int32} (hw : w < 4) (hf : flg N w (mn N 110) = 0) (ht : mn N 110 < 364) (h : ShR (clsN N w) w (M (46 + 5 * w + 1)) (M (46 + 5 * w + 2)) (M (46 + 5 * w + 3)) af (M (46 + 5 * w) 0) (M (46 + 5 * w) 1) gd) (hc : ¬ flgC N w) (h3 : A (46 + 5 * w + 3) = upd (M (46 + 5 * w + 3)) (mn N 110) (zI 0)) (h4 : A (46 + 5 * w + 4) = af) (ho : ∀ j, j ≠ 46 + 5 * w + 3 → j ≠ 46 + 5 * w + 4 → A j = M j) : clQ N M A w gd := by
  have hd := sD_cls (N := N) hw
  have e3 : upd (M (46 + 5 * w + 3)) (mn N 110) (zI 0) = M (46 + 5 * w + 3) := upd_same (by
    rw [h.2.2.2.2.1 _ ht, sD_flg hd, hf]; rfl)
  rw [e3] at h3
  refine ⟨?_, ho, fun e he => by rw [h3]⟩
  show ShR (closeN N w) w (A (46 + 5 * w + 1)) (A (46 + 5 * w + 2)) (A (46 + 5 * w + 3)) (A (46 + 5 * w + 4)) (A (46 + 5 * w) 0) (A (46 + 5 * w) 1) gd
  rw [ho (46 + 5 * w + 1) (by omega) (by omega), ho (46 + 5 * w + 2) (by omega) (by omega), ho (46 + 5 * w) (by omega) (by omega), h3, h4]
  unfold closeN
  rw [if_neg hc]
  exact h
