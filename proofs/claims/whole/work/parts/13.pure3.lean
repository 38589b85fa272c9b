def actK (c : Prop) [Decidable c] (k : Nat) : Nat := if c then min (k + 1) 10 else k
def actS (c : Prop) [Decidable c] (sn N : Nat → Int32) (k : Nat) : Nat → Int32 := if c then snS sn N k else sn
def actN (c : Prop) [Decidable c] (N M : Nat → Int32) : Nat → Int32 := if c then M else N
theorem act_no {c : Prop} [Decidable c] (h : ¬ c) {g : GG} {a : Nat → Nat} {sc : Nat → Int32} {x : Int32} {wd : Int64} {tp N M rd sn : Nat → Int32} {k : Nat} {H : Heap} (hk : sc 9 = zI k) (hP : gP g (mW g a (upd sc 0 x) wd tp N rd sn) H) : gP g (mW g a (upd (upd sc 0 x) 9 (zI (actK c k))) wd tp (actN c N M) rd (actS c sn N k)) H := by
  rw [actK, actN, actS, if_neg h, if_neg h, if_neg h, upd_same (f := upd sc 0 x) (k := 9) (show sc 9 = _ from hk)]; exact hP
theorem act_yes {c : Prop} [Decidable c] (h : c) {g : GG} {a : Nat → Nat} {sc : Nat → Int32} {x : Int32} {wd : Int64} {tp N M M2 rd sn : Nat → Int32} {k : Nat} {H : Heap} (e : M2 = M) (hP : gP g (mW g a (upd (upd sc 0 x) 9 (zI ((min (k + 1) 10 : Nat)))) wd tp M2 rd (snS sn N k)) H) : gP g (mW g a (upd (upd sc 0 x) 9 (zI (actK c k))) wd tp (actN c N M) rd (actS c sn N k)) H := by
  rw [actK, actN, actS, if_pos h, if_pos h, if_pos h, ← e]; exact hP
abbrev hereC (N : Nat → Int32) (v : Int) : Prop := (0 ≤ v ∧ v ≤ (mn N 57 : Int) - 1) ∧ goneN N v.toNat = 0
abbrev planC (N : Nat → Int32) (v dd qq : Int) : Prop := ((0 ≤ v ∧ v ≤ (mn N 57 : Int) - 1) ∧ goneN N v.toNat = 0) ∧ ((mn N 110 : Int) ≤ dd ∧ dd ≤ 363) ∧ (0 ≤ qq ∧ qq ≤ 96) ∧ ¬ knd N v.toNat dd.toNat = 2
def planN (N : Nat → Int32) (w d q : Nat) : Nat → Int32 := upd (upd N (58 + 13 * w + 6) (N (58 + 13 * w + 6) + zI (cst N w d q))) (111 + 364 * w + d) (zI (pkD (q + 1) (wkd N w d) (knd N w d) 0))
abbrev workC (N : Nat → Int32) (v qq : Int) : Prop := ((0 ≤ v ∧ v ≤ (mn N 57 : Int) - 1) ∧ goneN N v.toNat = 0) ∧ (0 ≤ qq ∧ qq ≤ 96) ∧ ¬ mn N 110 = 364 ∧ knd N v.toNat (mn N 110) = 0
def workN (N : Nat → Int32) (w q : Nat) : Nat → Int32 := upd N (111 + 364 * w + mn N 110) (zI (pkD (chg N w (mn N 110)) q 0 0))
abbrev sickC (N : Nat → Int32) (v f : Int) : Prop := ((0 ≤ v ∧ v ≤ (mn N 57 : Int) - 1) ∧ goneN N v.toNat = 0) ∧ ¬ mn N 110 = 364 ∧ (knd N v.toNat (mn N 110) : Int) = 1 - f ∧ wkd N v.toNat (mn N 110) = 0
def sickN (N : Nat → Int32) (w : Nat) (f : Int) : Nat → Int32 := upd N (111 + 364 * w + mn N 110) (zI (pkD (chg N w (mn N 110)) 0 f.toNat 0))
abbrev bookC1 (N : Nat → Int32) (v dd f : Int) : Prop := ((0 ≤ v ∧ v ≤ (mn N 57 : Int) - 1) ∧ goneN N v.toNat = 0) ∧ ((mn N 110 : Int) ≤ dd ∧ dd ≤ 363) ∧ (knd N v.toNat dd.toNat : Int) = 2 - 2 * f ∧ wkd N v.toNat dd.toNat = 0
abbrev bookC2 (N : Nat → Int32) (v dd f : Int) : Prop := f = 1 ∧ lft N v.toNat < plan N v.toNat dd.toNat
def bookN (N : Nat → Int32) (w d : Nat) (f : Int) : Nat → Int32 := upd N (111 + 364 * w + d) (zI (pkD (chg N w d) 0 (2 * f).toNat 0))
def bookR (N : Nat → Int32) (v dd f : Int) : Int := if bookC1 N v dd f then (if bookC2 N v dd f then -2 else lft (bookN N v.toNat dd.toNat f) v.toNat) else -1
def balB (N : Nat → Int32) (w : Nat) : Int := (N (58 + 13 * w + 2)).toInt + ((wkd N w (mn N 110) : Int) - plan N w (mn N 110))
def clsN (N : Nat → Int32) (w : Nat) : Nat → Int32 :=
  if knd N w (mn N 110) = 0 then
    (if (mn N 1 : Int) < balB N w then upd (upd (upd N (58 + 13 * w + 2) (zI (mn N 1))) (58 + 13 * w + 3) (N (58 + 13 * w + 3) + zI (balB N w - mn N 1))) (58 + 13 * w + 5) (N (58 + 13 * w + 5) + zI ((balB N w - mn N 1) * mn N (58 + 13 * w) * 3 / 2))
     else if balB N w < -(mn N 0 : Int) then upd (upd (upd N (58 + 13 * w + 2) (zI (-(mn N 0 : Int)))) (58 + 13 * w + 4) (N (58 + 13 * w + 4) + zI (-(mn N 0 : Int) - balB N w))) (58 + 13 * w + 7) (N (58 + 13 * w + 7) + zI ((-(mn N 0 : Int) - balB N w) * mn N (58 + 13 * w)))
     else upd N (58 + 13 * w + 2) (zI (balB N w)))
  else N
abbrev flgC (N : Nat → Int32) (w : Nat) : Prop := (mn N 3 : Int) < ldS N w ((mn N 110 : Int) - mn N 2 + 1) (mn N 110)
def closeN (N : Nat → Int32) (w : Nat) : Nat → Int32 := if flgC N w then upd (clsN N w) (111 + 364 * w + mn N 110) (zI (pkD (chg N w (mn N 110)) (wkd N w (mn N 110)) (knd N w (mn N 110)) 1)) else clsN N w
def edN (N : Nat → Int32) : Nat → (Nat → Int32)
  | 0 => N
  | i + 1 => if goneN (edN N i) i = 0 then closeN (edN N i) i else edN N i
def edC (N : Nat → Int32) : Nat → Nat
  | 0 => 0
  | i + 1 => edC N i + if goneN (edN N i) i = 0 ∧ flgC (edN N i) i then 1 else 0
def endN (N : Nat → Int32) : Nat → Int32 := upd (edN N (mn N 57)) 110 (zI (((mn N 110 + 1 : Nat)) : Int))
def clrP (N : Nat → Int32) (w d0 i : Nat) : Nat → Int32 := fun j => if 111 + 364 * w + d0 ≤ j ∧ j < 111 + 364 * w + d0 + i ∧ knd N w (j - (111 + 364 * w)) = 2 then zI (chg N w (j - (111 + 364 * w))) else N j
def lvA (N : Nat → Int32) (w : Nat) : Nat → Int32 := upd (upd (upd N (58 + 13 * w + 8) (N (58 + 13 * w + 8) + dueN N w)) (58 + 13 * w + 2) (zI 0)) (58 + 13 * w + 9) (zI (1 : Nat))
def leaveN (N : Nat → Int32) (w : Nat) : Nat → Int32 := clrP (lvA N w) w (mn N 110) (364 - mn N 110)
theorem sD_cls {N : Nat → Int32} {w : Nat} (hw : w < 4) : sameD N (clsN N w) := by
  unfold clsN
  split
  · split
    · exact sD_upd (sD_upd (sD_upd sD_rfl (by omega) _) (by omega) _) (by omega) _
    · split
      · exact sD_upd (sD_upd (sD_upd sD_rfl (by omega) _) (by omega) _) (by omega) _
      · exact sD_upd sD_rfl (by omega) _
  · exact sD_rfl
theorem okN_cls {N : Nat → Int32} (h : okN N) {w : Nat} (hw : w < 4) : okN (clsN N w) := by
  have h0 := h.lo.le
  have h1 := h.hi.le
  have h2 := h.bal hw
  have e2 : 60 + 13 * w = 58 + 13 * w + 2 := by omega
  rw [e2] at h2
  unfold clsN
  split
  · split
    · exact okN_acc (okN_acc (okN_bal h hw _ (by rw [zI_toInt (by omega)]; omega)) hw (by omega) _) hw (by omega) _
    · split
      · exact okN_acc (okN_acc (okN_bal h hw _ (by rw [zI_toInt (by omega)]; omega)) hw (by omega) _) hw (by omega) _
      · rename_i q1 q2 q3
        exact okN_bal h hw _ (by rw [zI_toInt (by omega)]; omega)
  · exact h
theorem cls_110 {N : Nat → Int32} {w : Nat} (hw : w < 4) {k : Nat} (hk : k < 58 ∨ 110 ≤ k) : clsN N w k = N k := by
  unfold clsN
  split
  · split
    · rw [upd_ne _ (by omega), upd_ne _ (by omega), upd_ne _ (by omega)]
    · split
      · rw [upd_ne _ (by omega), upd_ne _ (by omega), upd_ne _ (by omega)]
      · rw [upd_ne _ (by omega)]
  · rfl
theorem okN_close {N : Nat → Int32} (h : okN N) {w : Nat} (hw : w < 4) (ht : mn N 110 < 364) : okN (closeN N w) := by
  unfold closeN
  split
  · exact okN_day (okN_cls h hw) hw ht (h.chg hw ht) (h.wkd hw ht) (h.knd hw ht) (by omega)
  · exact okN_cls h hw
theorem close_lo {N : Nat → Int32} {w : Nat} (hw : w < 4) {k : Nat} (hk : k < 58 ∨ k = 110) : closeN N w k = N k := by
  unfold closeN
  split
  · rw [upd_ne _ (by omega), cls_110 hw (by omega)]
  · exact cls_110 hw (by omega)
theorem ed_lo {N : Nat → Int32} {k : Nat} (hk : k < 58 ∨ k = 110) : ∀ i, i ≤ 4 → edN N i k = N k
  | 0, _ => rfl
  | i + 1, hi => by
    rw [edN]
    split
    · rw [close_lo (by omega) hk, ed_lo hk i (by omega)]
    · exact ed_lo hk i (by omega)
theorem okN_ed {N : Nat → Int32} (h : okN N) (ht : mn N 110 < 364) : ∀ i, i ≤ 4 → okN (edN N i)
  | 0, _ => h
  | i + 1, hi => by
    have e : mn (edN N i) 110 = mn N 110 := by unfold mn; rw [ed_lo (by omega) i (by omega)]
    rw [edN]
    split
    · exact okN_close (okN_ed h ht i (by omega)) (by omega) (by omega)
    · exact okN_ed h ht i (by omega)
theorem ed_mn {N : Nat → Int32} {k : Nat} (hk : k < 58 ∨ k = 110) {i : Nat} (hi : i ≤ 4) : mn (edN N i) k = mn N k := by unfold mn; rw [ed_lo hk i hi]
theorem okN_lvA {N : Nat → Int32} (h : okN N) {w : Nat} (hw : w < 4) : okN (lvA N w) := by
  have h8 := okN_acc h hw (k := 8) (by omega) (N (58 + 13 * w + 8) + dueN N w)
  unfold lvA
  refine okN_gone (okN_bal h8 hw _ ?_) hw
  rw [zI_toInt (by omega)]
  omega
theorem clrP_0 (N : Nat → Int32) (w d0 : Nat) : clrP N w d0 0 = N := by funext j; unfold clrP; rw [if_neg (by omega)]
theorem clrP_same {N : Nat → Int32} {w d0 i : Nat} (h : ¬ knd N w (d0 + i) = 2) : clrP N w d0 (i + 1) = clrP N w d0 i := by
  funext j; unfold clrP
  by_cases e : j = 111 + 364 * w + d0 + i
  · subst e
    rw [if_neg, if_neg (by omega)]
    rw [show 111 + 364 * w + d0 + i - (111 + 364 * w) = d0 + i by omega]
    exact fun q => h q.2.2
  · by_cases h2 : 111 + 364 * w + d0 ≤ j ∧ j < 111 + 364 * w + d0 + i ∧ knd N w (j - (111 + 364 * w)) = 2
    · rw [if_pos h2, if_pos ⟨h2.1, by omega, h2.2.2⟩]
    · rw [if_neg h2, if_neg (fun q => h2 ⟨q.1, by omega, q.2.2⟩)]
theorem clrP_put {N : Nat → Int32} {w d0 i : Nat} (h : knd N w (d0 + i) = 2) : upd (clrP N w d0 i) (111 + 364 * w + (d0 + i)) (zI (chg N w (d0 + i))) = clrP N w d0 (i + 1) := by
  funext j; unfold upd clrP
  by_cases e : j = 111 + 364 * w + (d0 + i)
  · subst e
    rw [if_pos rfl, show 111 + 364 * w + (d0 + i) - (111 + 364 * w) = d0 + i by omega, if_pos ⟨by omega, by omega, h⟩]
  · rw [if_neg e]
    by_cases h2 : 111 + 364 * w + d0 ≤ j ∧ j < 111 + 364 * w + d0 + i ∧ knd N w (j - (111 + 364 * w)) = 2
    · rw [if_pos h2, if_pos ⟨h2.1, by omega, h2.2.2⟩]
    · rw [if_neg h2, if_neg (fun q => h2 ⟨q.1, by omega, q.2.2⟩)]
theorem clrP_hi (N : Nat → Int32) (w d0 i : Nat) {j : Nat} (h : j < 111 + 364 * w + d0 ∨ 111 + 364 * w + d0 + i ≤ j) : clrP N w d0 i j = N j := by unfold clrP; rw [if_neg (by omega)]
theorem clrP_cell (N : Nat → Int32) (w d0 i : Nat) : cellN (clrP N w d0 i) w (d0 + i) = cellN N w (d0 + i) := by unfold cellN mn; rw [clrP_hi N w d0 i (by omega)]
theorem okN_clr {N : Nat → Int32} (h : okN N) {w d0 : Nat} (hw : w < 4) : ∀ i, d0 + i ≤ 364 → okN (clrP N w d0 i)
  | 0, _ => by rw [clrP_0]; exact h
  | i + 1, hi => by
    by_cases e : knd N w (d0 + i) = 2
    · rw [← clrP_put e, show chg N w (d0 + i) = pkD (chg N w (d0 + i)) 0 0 0 by unfold pkD; omega]
      exact okN_day (okN_clr h hw i (by omega)) hw (by omega) (h.chg hw (by omega)) (by omega) (by omega) (by omega)
    · rw [clrP_same e]
      exact okN_clr h hw i (by omega)
