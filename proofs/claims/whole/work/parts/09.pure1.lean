def dyF (N : Nat → Int32) (w d : Nat) (x : Int) : Int32 :=
  if x = 0 then zI (plan N w d) else if x = 1 then zI (wkd N w d) else if x = 2 then zI (knd N w d) else if x = 3 then zI (load N w d) else if x = 4 then zI (flg N w d)
  else if x = 5 then zI (bz (¬ chg N w d = 0)) else zI (-1)
def dayF (N : Nat → Int32) (v y x : Int) : Int32 := if (0 ≤ v ∧ v ≤ (mn N 57 : Int) - 1) ∧ (0 ≤ y ∧ y ≤ 363) then dyF N v.toNat y.toNat x else zI (-1)
theorem dayF_in {N : Nat → Int32} {w d : Nat} (h : 0 ≤ (w : Int) ∧ (w : Int) ≤ (mn N 57 : Int) - 1) (h2 : 0 ≤ (d : Int) ∧ (d : Int) ≤ 363) (x : Int) : dayF N w d x = dyF N w d x := by unfold dayF; rw [if_pos ⟨h, h2⟩]; rfl
theorem dayF_no {N : Nat → Int32} {v y : Int} (x : Int) (h : ¬ ((0 ≤ v ∧ v ≤ (mn N 57 : Int) - 1) ∧ (0 ≤ y ∧ y ≤ 363))) : dayF N v y x = zI (-1) := by unfold dayF; rw [if_neg h]
def loadF (N : Nat → Int32) (v y : Int) : Int32 := if (0 ≤ v ∧ v ≤ (mn N 57 : Int) - 1) ∧ (0 ≤ y ∧ y ≤ 363) then zI (ldS N v.toNat (y - mn N 2 + 1) y) else zI (-1)
def rmI (n : Int) : Int := if n < 0 then -2 else if 96 < n then 96 else n
def roomF (N : Nat → Int32) (v : Int) : Int32 := if ((0 ≤ v ∧ v ≤ (mn N 57 : Int) - 1) ∧ goneN N v.toNat = 0) ∧ ¬ mn N 110 = 364 then zI (rmI ((mn N 3 : Int) - ldS N v.toNat ((mn N 110 : Int) - mn N 2 + 1) ((mn N 110 : Int) - 1))) else zI (-1)
def plannedF (N : Nat → Int32) (v x y : Int) : Int32 := if (0 ≤ v ∧ v ≤ (mn N 57 : Int) - 1) ∧ (0 ≤ x ∧ x ≤ 363) ∧ (0 ≤ y ∧ y ≤ 363) ∧ x ≤ y then zI (sumN (plan N v.toNat) x.toNat (y.toNat + 1 - x.toNat)) else zI (-1)
def clampI (x : Int) : Int := if x < 0 then 0 else if 96 < x then 96 else x
def rchF (N : Nat → Int32) (w : Nat) (x : Int) : Int → Nat → Nat → Int
  | _, _, 0 => -2
  | bal, d, n + 1 => if ¬ knd N w d = 0 then rchF N w x bal (d + 1) n
      else if (mn N 1 : Int) < bal + (clampI (plan N w d + x) - plan N w d) ∨ bal + (clampI (plan N w d + x) - plan N w d) < -(mn N 0 : Int) then d
      else rchF N w x (bal + (clampI (plan N w d + x) - plan N w d)) (d + 1) n
def reachesF (N : Nat → Int32) (v x : Int) : Int32 := if ((0 ≤ v ∧ v ≤ (mn N 57 : Int) - 1) ∧ goneN N v.toNat = 0) ∧ (-96 ≤ x ∧ x ≤ 96) then zI (rchF N v.toNat x (N (58 + 13 * v.toNat + 2)).toInt (mn N 110) (364 - mn N 110)) else zI (-1)
def costF (N : Nat → Int32) (v dd qq : Int) : Int32 := if ((0 ≤ v ∧ v ≤ (mn N 57 : Int) - 1) ∧ goneN N v.toNat = 0) ∧ ((mn N 110 : Int) ≤ dd ∧ dd ≤ 363) ∧ (0 ≤ qq ∧ qq ≤ 96) ∧ ¬ knd N v.toNat dd.toNat = 2 then zI (cst N v.toNat dd.toNat qq.toNat) else zI (-1)
def dueF (N : Nat → Int32) (v : Int) : Int32 × Int32 := if (0 ≤ v ∧ v ≤ (mn N 57 : Int) - 1) ∧ goneN N v.toNat = 0 then (zI 0, dueN N v.toNat) else (zI 1, zI 0)
theorem rchF_s1 {N : Nat → Int32} {w : Nat} {x bal : Int} {d n : Nat} (h : ¬ knd N w d = 0) : rchF N w x bal d (n + 1) = rchF N w x bal (d + 1) n := by rw [rchF, if_pos h]
theorem rchF_s2 {N : Nat → Int32} {w : Nat} {x bal : Int} {d n : Nat} (h : knd N w d = 0) (h2 : (mn N 1 : Int) < bal + (clampI (plan N w d + x) - plan N w d) ∨ bal + (clampI (plan N w d + x) - plan N w d) < -(mn N 0 : Int)) : rchF N w x bal d (n + 1) = d := by rw [rchF, if_neg (fun q => q h), if_pos h2]
theorem rchF_s3 {N : Nat → Int32} {w : Nat} {x bal : Int} {d n : Nat} (h : knd N w d = 0) (h2 : ¬ ((mn N 1 : Int) < bal + (clampI (plan N w d + x) - plan N w d) ∨ bal + (clampI (plan N w d + x) - plan N w d) < -(mn N 0 : Int))) : rchF N w x bal d (n + 1) = rchF N w x (bal + (clampI (plan N w d + x) - plan N w d)) (d + 1) n := by rw [rchF, if_neg (fun q => q h), if_neg h2]
theorem upd_same {f : Nat → Int32} {k : Nat} {x : Int32} (h : f k = x) : upd f k x = f := by
  funext j; unfold upd; split
  · rename_i e; rw [e, h]
  · rfl
theorem upd_upd (f : Nat → Int32) (k : Nat) (x y : Int32) : upd (upd f k x) k y = upd f k y := by
  funext j; unfold upd; split <;> rfl
theorem upd_comm (f : Nat → Int32) {k j : Nat} (h : k ≠ j) (x y : Int32) : upd (upd f k x) j y = upd (upd f j y) k x := by
  funext i; unfold upd; split <;> split <;> first | rfl | omega
theorem upd_at (f : Nat → Int32) (k : Nat) (x : Int32) : upd f k x k = x := pk_us
theorem upd_ne (f : Nat → Int32) {k j : Nat} (h : j ≠ k) (x : Int32) : upd f k x j = f j := pk_un h
def shP (sn : Nat → Int32) (i : Nat) : Nat → Int32 := fun j => if j < i then sn (j + 1567) else sn j
def ptP (sn N : Nat → Int32) (k i : Nat) : Nat → Int32 := fun j => if 1567 * k ≤ j ∧ j < 1567 * k + i then N (j - 1567 * k) else sn j
def unP (sn N : Nat → Int32) (k i : Nat) : Nat → Int32 := fun j => if j < i then sn (1567 * k + j) else N j
theorem shP_0 (sn : Nat → Int32) : shP sn 0 = sn := by funext j; unfold shP; rw [if_neg (by omega)]
theorem shP_s (sn : Nat → Int32) (i : Nat) : upd (shP sn i) i (shP sn i (i + 1567)) = shP sn (i + 1) := by
  funext j; unfold upd shP
  by_cases h : j = i
  · subst h; rw [if_pos rfl, if_neg (by omega), if_pos (by omega)]
  · rw [if_neg h]
    by_cases h2 : j < i
    · rw [if_pos h2, if_pos (by omega)]
    · rw [if_neg h2, if_neg (by omega)]
theorem ptP_0 (sn N : Nat → Int32) (k : Nat) : ptP sn N k 0 = sn := by funext j; unfold ptP; rw [if_neg (by omega)]
theorem ptP_s (sn N : Nat → Int32) (k i : Nat) : upd (ptP sn N k i) (1567 * k + i) (N i) = ptP sn N k (i + 1) := by
  funext j; unfold upd ptP
  by_cases h : j = 1567 * k + i
  · subst h; rw [if_pos rfl, if_pos (by omega)]; congr 1; omega
  · rw [if_neg h]
    by_cases h2 : 1567 * k ≤ j ∧ j < 1567 * k + i
    · rw [if_pos h2, if_pos (by omega)]
    · rw [if_neg h2, if_neg (by omega)]
theorem unP_0 (sn N : Nat → Int32) (k : Nat) : unP sn N k 0 = N := by funext j; unfold unP; rw [if_neg (by omega)]
theorem unP_s (sn N : Nat → Int32) (k i : Nat) : upd (unP sn N k i) i (sn (1567 * k + i)) = unP sn N k (i + 1) := by
  funext j; unfold upd unP
  by_cases h : j = i
  · subst h; rw [if_pos rfl, if_pos (by omega)]
  · rw [if_neg h]
    by_cases h2 : j < i
    · rw [if_pos h2, if_pos (by omega)]
    · rw [if_neg h2, if_neg (by omega)]
def snS (sn N : Nat → Int32) (k : Nat) : Nat → Int32 := if k = 10 then ptP (shP sn 14103) N 9 1567 else ptP sn N k 1567
def unN (sn N : Nat → Int32) (k : Nat) : Nat → Int32 := if k = 0 then N else unP sn N (k - 1) 1567
