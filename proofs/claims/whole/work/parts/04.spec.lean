def mn (N : Nat → Int32) (k : Nat) : Nat := (N k).toInt.toNat
def isN (N : Nat → Int32) (k b : Nat) : Prop := 0 ≤ (N k).toInt ∧ (N k).toInt ≤ b
theorem isN.eq {N : Nat → Int32} {k b : Nat} (h : isN N k b) : N k = zI (mn N k) := by
  have h1 : ((mn N k : Nat) : Int) = (N k).toInt := Int.toNat_of_nonneg h.1
  rw [h1]; exact zI_of _
theorem isN.le {N : Nat → Int32} {k b : Nat} (h : isN N k b) : mn N k ≤ b := by
  have h1 : ((mn N k : Nat) : Int) = (N k).toInt := Int.toNat_of_nonneg h.1
  have := h.2
  omega
theorem isN.of {N : Nat → Int32} {k b n : Nat} (h : N k = zI n) (hn : n ≤ b) (hb : b < 2147483648) : isN N k b := by
  unfold isN; rw [h, zI_toInt (by omega)]; omega
theorem mn_of {N : Nat → Int32} {k n : Nat} (h : N k = zI n) (hn : n < 2147483648) : mn N k = n := by
  unfold mn; rw [h, zI_toInt (by omega)]; omega
def cellN (N : Nat → Int32) (w d : Nat) : Nat := mn N (111 + 364 * w + d)
def chg (N : Nat → Int32) (w d : Nat) : Nat := cellN N w d % 128
def wkd (N : Nat → Int32) (w d : Nat) : Nat := cellN N w d / 128 % 128
def knd (N : Nat → Int32) (w d : Nat) : Nat := cellN N w d / 16384 % 4
def flg (N : Nat → Int32) (w d : Nat) : Nat := cellN N w d / 65536
def seaP (N : Nat → Int32) (d : Nat) : Nat → Nat
  | 0 => 0
  | k + 1 => if mn N (5 + 9 * k) ≤ d ∧ d ≤ mn N (6 + 9 * k) then mn N (7 + 9 * k + d % 7) else seaP N d k
def plan (N : Nat → Int32) (w d : Nat) : Nat := if chg N w d = 0 then seaP N d (mn N 4) else chg N w d - 1
def load (N : Nat → Int32) (w d : Nat) : Nat := if knd N w d = 0 then wkd N w d else if knd N w d = 1 then plan N w d else 0
def sumN (f : Nat → Nat) (a : Nat) : Nat → Nat
  | 0 => 0
  | n + 1 => sumN f a n + f (a + n)
def ldS (N : Nat → Int32) (w : Nat) (fr to : Int) : Nat := sumN (load N w) fr.toNat ((to + 1).toNat - fr.toNat)
def lvd (N : Nat → Int32) (w d : Nat) : Nat := if knd N w d = 2 then plan N w d else 0
def lvS (N : Nat → Int32) (w a n : Nat) : Nat := sumN (lvd N w) a n
def ind (N : Nat → Int32) (w k d : Nat) : Nat := if (k = 3 ∧ flg N w d = 1) ∨ (k = 4 ∧ chg N w d ≠ 0) ∨ (k ≠ 3 ∧ k ≠ 4 ∧ knd N w d = k) then 1 else 0
def goneN (N : Nat → Int32) (w : Nat) : Nat := mn N (67 + 13 * w)
def lft (N : Nat → Int32) (w : Nat) : Int := if goneN N w = 1 then 0 else (mn N (59 + 13 * w) : Int) - lvS N w 0 364
def allS (N : Nat → Int32) (k a : Nat) : Nat := sumN (fun w => sumN (ind N w k) a (364 - a)) 0 (mn N 57)
def coinS (N : Nat → Int32) : Nat → Int32
  | 0 => zI 0
  | w + 1 => coinS N w + (N (58 + 13 * w + 5) + N (58 + 13 * w + 6) + N (58 + 13 * w + 8) - N (58 + 13 * w + 7))
def hereS (N : Nat → Int32) : Nat := sumN (fun w => if goneN N w = 0 then 1 else 0) 0 (mn N 57)
def pct (N : Nat → Int32) (ah : Int) : Nat → Nat
  | 0 => 0
  | k + 1 => if ah < (mn N (51 + 2 * k) : Int) ∧ pct N ah k < mn N (52 + 2 * k) then mn N (52 + 2 * k) else pct N ah k
def cabs (N : Nat → Int32) (w d q : Nat) : Nat := ((q : Int) - plan N w d).natAbs
def cst (N : Nat → Int32) (w d q : Nat) : Nat := pct N ((d : Int) - mn N 110) (mn N 50) * mn N (58 + 13 * w) * cabs N w d q / 100
def ern (N : Nat → Int32) (w : Nat) : Nat := mn N (59 + 13 * w) * mn N 110 / 364
def dueN (N : Nat → Int32) (w : Nat) : Int32 := N (58 + 13 * w + 2) * N (58 + 13 * w + 0) + N (58 + 13 * w + 0) * zI ((ern N w : Int) - lvS N w 0 (mn N 110))
def okN (N : Nat → Int32) : Prop :=
  isN N 0 9999 ∧ isN N 1 9999 ∧ (isN N 2 60 ∧ 1 ≤ mn N 2) ∧ isN N 3 9999 ∧ isN N 4 5
  ∧ (∀ i, i < 5 → isN N (5 + 9 * i) 363 ∧ isN N (6 + 9 * i) 363 ∧ ∀ j, j < 7 → isN N (7 + 9 * i + j) 96)
  ∧ isN N 50 3 ∧ (∀ i, i < 3 → isN N (51 + 2 * i) 60 ∧ isN N (52 + 2 * i) 300) ∧ isN N 57 4
  ∧ (∀ w, w < 4 → isN N (58 + 13 * w) 999 ∧ isN N (59 + 13 * w) 9999 ∧ isN N (67 + 13 * w) 1 ∧ -(mn N 0 : Int) ≤ (N (60 + 13 * w)).toInt ∧ (N (60 + 13 * w)).toInt ≤ mn N 1)
  ∧ isN N 110 364
  ∧ ∀ w, w < 4 → ∀ d, d < 364 → isN N (111 + 364 * w + d) 131071 ∧ chg N w d ≤ 97 ∧ wkd N w d ≤ 96 ∧ knd N w d ≤ 2
theorem okN.lo {N : Nat → Int32} (h : okN N) : isN N 0 9999 := h.1
theorem okN.hi {N : Nat → Int32} (h : okN N) : isN N 1 9999 := h.2.1
theorem okN.win {N : Nat → Int32} (h : okN N) : isN N 2 60 := h.2.2.1.1
theorem okN.win1 {N : Nat → Int32} (h : okN N) : 1 ≤ mn N 2 := h.2.2.1.2
theorem okN.lim {N : Nat → Int32} (h : okN N) : isN N 3 9999 := h.2.2.2.1
theorem okN.ns {N : Nat → Int32} (h : okN N) : isN N 4 5 := h.2.2.2.2.1
theorem okN.s0 {N : Nat → Int32} (h : okN N) {i : Nat} (hi : i < 5) : isN N (5 + 9 * i) 363 := (h.2.2.2.2.2.1 i hi).1
theorem okN.s1 {N : Nat → Int32} (h : okN N) {i : Nat} (hi : i < 5) : isN N (6 + 9 * i) 363 := (h.2.2.2.2.2.1 i hi).2.1
theorem okN.sq {N : Nat → Int32} (h : okN N) {i j : Nat} (hi : i < 5) (hj : j < 7) : isN N (7 + 9 * i + j) 96 := (h.2.2.2.2.2.1 i hi).2.2 j hj
theorem okN.nn {N : Nat → Int32} (h : okN N) : isN N 50 3 := h.2.2.2.2.2.2.1
theorem okN.n0 {N : Nat → Int32} (h : okN N) {i : Nat} (hi : i < 3) : isN N (51 + 2 * i) 60 := (h.2.2.2.2.2.2.2.1 i hi).1
theorem okN.n1 {N : Nat → Int32} (h : okN N) {i : Nat} (hi : i < 3) : isN N (52 + 2 * i) 300 := (h.2.2.2.2.2.2.2.1 i hi).2
theorem okN.nw {N : Nat → Int32} (h : okN N) : isN N 57 4 := h.2.2.2.2.2.2.2.2.1
theorem okN.rate {N : Nat → Int32} (h : okN N) {w : Nat} (hw : w < 4) : isN N (58 + 13 * w) 999 := (h.2.2.2.2.2.2.2.2.2.1 w hw).1
theorem okN.leave {N : Nat → Int32} (h : okN N) {w : Nat} (hw : w < 4) : isN N (59 + 13 * w) 9999 := (h.2.2.2.2.2.2.2.2.2.1 w hw).2.1
theorem okN.gone {N : Nat → Int32} (h : okN N) {w : Nat} (hw : w < 4) : isN N (67 + 13 * w) 1 := (h.2.2.2.2.2.2.2.2.2.1 w hw).2.2.1
theorem okN.bal {N : Nat → Int32} (h : okN N) {w : Nat} (hw : w < 4) : -(mn N 0 : Int) ≤ (N (60 + 13 * w)).toInt ∧ (N (60 + 13 * w)).toInt ≤ mn N 1 := (h.2.2.2.2.2.2.2.2.2.1 w hw).2.2.2
theorem okN.td {N : Nat → Int32} (h : okN N) : isN N 110 364 := h.2.2.2.2.2.2.2.2.2.2.1
theorem okN.cell {N : Nat → Int32} (h : okN N) {w d : Nat} (hw : w < 4) (hd : d < 364) : isN N (111 + 364 * w + d) 131071 := (h.2.2.2.2.2.2.2.2.2.2.2 w hw d hd).1
theorem okN.chg {N : Nat → Int32} (h : okN N) {w d : Nat} (hw : w < 4) (hd : d < 364) : chg N w d ≤ 97 := (h.2.2.2.2.2.2.2.2.2.2.2 w hw d hd).2.1
theorem okN.wkd {N : Nat → Int32} (h : okN N) {w d : Nat} (hw : w < 4) (hd : d < 364) : wkd N w d ≤ 96 := (h.2.2.2.2.2.2.2.2.2.2.2 w hw d hd).2.2.1
theorem okN.knd {N : Nat → Int32} (h : okN N) {w d : Nat} (hw : w < 4) (hd : d < 364) : knd N w d ≤ 2 := (h.2.2.2.2.2.2.2.2.2.2.2 w hw d hd).2.2.2
theorem okN.flg {N : Nat → Int32} (h : okN N) {w d : Nat} (hw : w < 4) (hd : d < 364) : flg N w d ≤ 1 := by
  have := (h.cell hw hd).le
  show cellN N w d / 65536 ≤ 1
  unfold cellN
  omega
theorem okN.cellE {N : Nat → Int32} (h : okN N) {w d : Nat} (hw : w < 4) (hd : d < 364) : N (111 + 364 * w + d) = zI (cellN N w d) ∧ cellN N w d ≤ 131071 := ⟨(h.cell hw hd).eq, (h.cell hw hd).le⟩
theorem seaP_le {N : Nat → Int32} (h : okN N) (d : Nat) : ∀ k, k ≤ 5 → seaP N d k ≤ 96
  | 0, _ => Nat.zero_le _
  | k + 1, hk => by
    unfold seaP
    split
    · exact (h.sq (by omega) (Nat.mod_lt d (by omega))).le
    · exact seaP_le h d k (by omega)
theorem plan_le {N : Nat → Int32} (h : okN N) {w d : Nat} (hw : w < 4) (hd : d < 364) : plan N w d ≤ 96 := by
  unfold plan
  split
  · exact seaP_le h d _ h.ns.le
  · have := h.chg hw hd
    omega
theorem load_le {N : Nat → Int32} (h : okN N) {w d : Nat} (hw : w < 4) (hd : d < 364) : load N w d ≤ 96 := by
  unfold load
  split
  · exact h.wkd hw hd
  · split
    · exact plan_le h hw hd
    · omega
theorem zN_cg {a b : Nat} (h : a = b) : zI (a : Int) = zI (b : Int) := by rw [h]
theorem sumN_s (f : Nat → Nat) (a n : Nat) : sumN f a (n + 1) = sumN f a n + f (a + n) := rfl
theorem pct_le {N : Nat → Int32} (h : okN N) (ah : Int) : ∀ k, k ≤ 3 → pct N ah k ≤ 300
  | 0, _ => Nat.zero_le _
  | k + 1, hk => by
    unfold pct
    split
    · exact (h.n1 (by omega)).le
    · exact pct_le h ah k (by omega)
theorem mul3b {x y z A B C : Nat} (hx : x ≤ A) (hy : y ≤ B) (hz : z ≤ C) (h : A * B * C < 2147483648) : 0 ≤ (x : Int) * y * z ∧ (x : Int) * y * z < 2147483648 := by
  have h1 : x * y * z ≤ A * B * C := Nat.mul_le_mul (Nat.mul_le_mul hx hy) hz
  have h2 : ((x * y * z : Nat) : Int) = (x : Int) * y * z := by rw [Int.natCast_mul, Int.natCast_mul]
  omega
theorem mul2b {x y A B : Nat} (hx : x ≤ A) (hy : y ≤ B) (h : A * B < 2147483648) : 0 ≤ (x : Int) * y ∧ (x : Int) * y < 2147483648 := by
  have h1 : x * y ≤ A * B := Nat.mul_le_mul hx hy
  have h2 : ((x * y : Nat) : Int) = (x : Int) * y := Int.natCast_mul _ _
  omega
theorem sumN_le {f : Nat → Nat} {a B : Nat} : ∀ n, (∀ i, i < n → f (a + i) ≤ B) → sumN f a n ≤ n * B
  | 0, _ => by simp [sumN]
  | n + 1, h => by
    have h1 := sumN_le n (fun i hi => h i (by omega))
    have h2 := h n (by omega)
    unfold sumN
    rw [Nat.add_mul]
    omega
theorem sumN_cg {f g : Nat → Nat} {a : Nat} : ∀ n, (∀ i, i < n → f (a + i) = g (a + i)) → sumN f a n = sumN g a n
  | 0, _ => rfl
  | n + 1, h => by
    unfold sumN
    rw [sumN_cg n (fun i hi => h i (by omega)), h n (by omega)]
def rdN (g : GG) (b n : Nat) (N : Nat → Int32) (H : Heap) : Prop := ∃ fs, gP g [(b, .inr (9, fs)), (n, .inl (g.2 0, 1567, .inl N))] H ∧ fs[11]? = some (.ref n)
abbrev mW (g : GG) (a : Nat → Nat) (sc : Nat → Int32) (wd : Int64) (tp N rd sn : Nat → Int32) : va_W := [(a 0, .inr (9, [.int (sc 0), .ref (a 1), .int (sc 1), .int (sc 2), .int (sc 3), .int (sc 4), .int (sc 5), .int (sc 6), .int (sc 7), .int (sc 8), .long wd, .ref (a 2), .ref (a 3), .ref (a 4), .int (sc 9)])), (a 1, .inl (g.2 0, 740, .inl tp)), (a 2, .inl (g.2 0, 1567, .inl N)), (a 3, .inl (g.2 0, 1567, .inl rd)), (a 4, .inl (g.2 0, 15670, .inl sn))]
def aD (a : Nat → Nat) : Prop := ∀ i j, i < 5 → j < 5 → a i = a j → i = j
def mA (a : Nat → Nat) : Nat → Prop := fun q => ∃ i, i < 5 ∧ q = a i
theorem mW_at {g : GG} {a : Nat → Nat} {sc : Nat → Int32} {wd : Int64} {tp N rd sn : Nat → Int32} {k : Nat} {q : Nat × va_E} (h : (mW g a sc wd tp N rd sn)[k]? = some q) : k < 5 ∧ q.1 = a k := by
  match k, h with
  | 0, h => cases h; exact ⟨by omega, rfl⟩
  | 1, h => cases h; exact ⟨by omega, rfl⟩
  | 2, h => cases h; exact ⟨by omega, rfl⟩
  | 3, h => cases h; exact ⟨by omega, rfl⟩
  | 4, h => cases h; exact ⟨by omega, rfl⟩
  | k + 5, h => simp [mW] at h
theorem mD {g : GG} {a : Nat → Nat} (ha : aD a) {sc : Nat → Int32} {wd : Int64} {tp N rd sn : Nat → Int32} : va_D (mA a) (mW g a sc wd tp N rd sn) := by
  refine ⟨fun i j p q hi hj e => ?_, fun k q hk => ?_⟩
  · obtain ⟨h1, h2⟩ := mW_at hi
    obtain ⟨h3, h4⟩ := mW_at hj
    exact ha i j h1 h3 (by rw [← h2, ← h4]; exact e)
  · obtain ⟨h1, h2⟩ := mW_at hk
    exact ⟨k, h1, h2⟩
theorem rdN_of {g : GG} {a : Nat → Nat} {sc : Nat → Int32} {wd : Int64} {tp N rd sn : Nat → Int32} {H : Heap} (hP : gP g (mW g a sc wd tp N rd sn) H) : rdN g (a 0) (a 2) N H := ⟨_, hP.sub [0, 2] rfl, rfl⟩
theorem z_start {p : Program} {l : Launch} {e : Env} {R : Room} {s : State} {m : MethodId} {args : Array Value} {below : List Frame} {meth : Method} {c : Code} {H0 H : Heap} {locs : List Loc} {cells slots : Nat} {Q : State → Prop} {f : JFrame} (hH : H = H0) (hL : locs = []) (k : W p l e R s m args below meth c H locs cells slots Q f) : W p l e R s m args below meth c H0 [] cells slots Q f := by subst hH; subst hL; exact k
def nowF (N : Nat → Int32) (sm tz : Int32) (v : Int) : Int32 :=
  if v = 0 then zI (mn N 110) else if v = 1 then zI (mn N 57) else if v = 2 then zI (hereS N) else if v = 3 then zI (mn N 4)
  else if v = 4 then zI (allS N 4 0) else if v = 5 then zI (allS N 2 (mn N 110)) else if v = 6 then zI (allS N 3 0) else if v = 7 then coinS N (mn N 57)
  else if v = 8 then sm else if v = 9 then tz else zI (-100000000)
def wkF (N : Nat → Int32) (w : Nat) (x : Int) : Int32 × Int32 :=
  if x = 0 then (zI 0, N (58 + 13 * w + 2)) else if x = 1 then (zI 0, zI (lft N w)) else if x = 2 then (zI 0, N (58 + 13 * w + 3)) else if x = 3 then (zI 0, N (58 + 13 * w + 4))
  else if x = 4 then (zI 0, N (58 + 13 * w + 5)) else if x = 5 then (zI 0, N (58 + 13 * w + 6)) else if x = 6 then (zI 0, N (58 + 13 * w + 7)) else if x = 7 then (zI 0, N (58 + 13 * w + 8))
  else if x = 8 then (zI 0, zI (sumN (wkd N w) 0 (mn N 110))) else if x = 9 then (zI 0, zI (sumN (ind N w 1) 0 (mn N 110 - 0))) else if x = 10 then (zI 0, zI (sumN (ind N w 3) 0 (364 - 0)))
  else if x = 11 then (zI 0, N (58 + 13 * w + 9)) else (zI 1, zI 0)
def workerF (N : Nat → Int32) (v x : Int) : Int32 × Int32 := if 0 ≤ v ∧ v ≤ (mn N 57 : Int) - 1 then wkF N v.toNat x else (zI 1, zI 0)
theorem workerF_in {N : Nat → Int32} {w : Nat} (h : 0 ≤ (w : Int) ∧ (w : Int) ≤ (mn N 57 : Int) - 1) (x : Int) : workerF N w x = wkF N w x := by
  unfold workerF; rw [if_pos h]; rfl
theorem workerF_out {N : Nat → Int32} {v : Int} (h : ¬ (0 ≤ v ∧ v ≤ (mn N 57 : Int) - 1)) (x : Int) : workerF N v x = (zI 1, zI 0) := by
  unfold workerF; rw [if_neg h]
theorem workerF_bad {N : Nat → Int32} {w : Nat} (h : 0 ≤ (w : Int) ∧ (w : Int) ≤ (mn N 57 : Int) - 1) (x : Int) (h0 : ¬ x = 0) (h1 : ¬ x = 1) (h2 : ¬ x = 2) (h3 : ¬ x = 3) (h4 : ¬ x = 4) (h5 : ¬ x = 5) (h6 : ¬ x = 6) (h7 : ¬ x = 7) (h8 : ¬ x = 8) (h9 : ¬ x = 9) (h10 : ¬ x = 10) (h11 : ¬ x = 11) : workerF N w x = (zI 1, zI 0) := by
  rw [workerF_in h, wkF, if_neg h0, if_neg h1, if_neg h2, if_neg h3, if_neg h4, if_neg h5, if_neg h6, if_neg h7, if_neg h8, if_neg h9, if_neg h10, if_neg h11]
