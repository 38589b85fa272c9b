def byteN (x : Int32) (k : Nat) : Nat := x.toBitVec.toNat / 2 ^ k % 256
theorem byteN_lt (x : Int32) (k : Nat) : byteN x k < 256 := Nat.mod_lt _ (by decide)
theorem byte_u (x : Int32) (i : Nat) (hi : i < 4) : ((x.toUInt32 >>> ((zI (24 - 8 * (i : Int))).toUInt32 &&& Int32.toUInt32 31)).toInt32 &&& zI 255) = zI (byteN x (24 - 8 * i)) := by
  match i, hi with
  | 0, _ => rw [pk_and _ 8 (by decide), pk_ushr x _ 24 (by decide), zI_nI]; rfl
  | 1, _ => rw [pk_and _ 8 (by decide), pk_ushr x _ 16 (by decide), zI_nI]; rfl
  | 2, _ => rw [pk_and _ 8 (by decide), pk_ushr x _ 8 (by decide), zI_nI]; rfl
  | 3, _ => rw [pk_and _ 8 (by decide), pk_ushr x _ 0 (by decide), zI_nI]; rfl
def layP (tp : Nat → Int32) (t : Nat) (x : Int32) (i : Nat) : Nat → Int32 := fun j => if t ≤ j ∧ j < t + i then zI (byteN x (24 - 8 * (j - t))) else tp j
theorem layP_0 (tp : Nat → Int32) (t : Nat) (x : Int32) : layP tp t x 0 = tp := by funext j; unfold layP; rw [if_neg (by omega)]
theorem layP_s (tp : Nat → Int32) (t : Nat) (x : Int32) (i : Nat) : upd (layP tp t x i) (t + i) (zI (byteN x (24 - 8 * i))) = layP tp t x (i + 1) := by
  funext j; unfold upd layP
  by_cases h : j = t + i
  · subst h; rw [if_pos rfl, if_pos (by omega), show t + i - t = i by omega]
  · rw [if_neg h]
    by_cases h2 : t ≤ j ∧ j < t + i
    · rw [if_pos h2, if_pos (by omega)]
    · rw [if_neg h2, if_neg (by omega)]
def feedT (tp : Nat → Int32) (t : Nat) (x1 x2 x3 x4 x5 : Int32) : Nat → Int32 := if 740 < t + 20 then tp else layP (layP (layP (layP (layP tp t x1 4) (t + 4) x2 4) (t + 4 + 4) x3 4) (t + 4 + 4 + 4) x4 4) (t + 4 + 4 + 4 + 4) x5 4
def feedZ (t : Nat) : Nat := if 740 < t + 20 then t else t + 20
def feedR (t : Nat) : Int := if 740 < t + 20 then -1 else t + 20
def endZ (t : Nat) (v : Int) : Int := if 0 ≤ v ∧ v ≤ t then v else t
theorem mn_ne {N : Nat → Int32} {j k : Nat} (v : Int32) (h : k ≠ j) : mn (upd N j v) k = mn N k := by unfold mn; rw [upd_ne N h]
theorem mn_at {N : Nat → Int32} {j n : Nat} (hn : n < 2147483648) : mn (upd N j (zI n)) j = n := mn_of (upd_at N j _) hn
theorem isN_ne {N : Nat → Int32} {j k b : Nat} (v : Int32) (h : k ≠ j) (hk : isN N k b) : isN (upd N j v) k b := by unfold isN; rw [upd_ne N h]; exact hk
theorem isN_at {N : Nat → Int32} {j b n : Nat} (hn : n ≤ b) (hb : b < 2147483648) : isN (upd N j (zI n)) j b := isN.of (upd_at N j _) hn hb
theorem cell_ne {N : Nat → Int32} {j w d : Nat} (v : Int32) (h : 111 + 364 * w + d ≠ j) : cellN (upd N j v) w d = cellN N w d := mn_ne v h
theorem okN_acc {N : Nat → Int32} (h : okN N) {w k : Nat} (hw : w < 4) (hk : 3 ≤ k ∧ k ≤ 8) (v : Int32) : okN (upd N (58 + 13 * w + k) v) := by
  refine ⟨isN_ne v (by omega) h.lo, isN_ne v (by omega) h.hi, ⟨isN_ne v (by omega) h.win, by rw [mn_ne v (by omega)]; exact h.win1⟩, isN_ne v (by omega) h.lim, isN_ne v (by omega) h.ns, fun i hi => ⟨isN_ne v (by omega) (h.s0 hi), isN_ne v (by omega) (h.s1 hi), fun j hj => isN_ne v (by omega) (h.sq hi hj)⟩, isN_ne v (by omega) h.nn, fun i hi => ⟨isN_ne v (by omega) (h.n0 hi), isN_ne v (by omega) (h.n1 hi)⟩, isN_ne v (by omega) h.nw, fun x hx => ⟨isN_ne v (by omega) (h.rate hx), isN_ne v (by omega) (h.leave hx), isN_ne v (by omega) (h.gone hx), ?_⟩, isN_ne v (by omega) h.td, fun x hx d hd => ⟨isN_ne v (by omega) (h.cell hx hd), ?_, ?_, ?_⟩⟩
  · rw [mn_ne v (by omega), mn_ne v (by omega), upd_ne N (by omega)]; exact h.bal hx
  · unfold chg; rw [cell_ne v (by omega)]; exact h.chg hx hd
  · unfold wkd; rw [cell_ne v (by omega)]; exact h.wkd hx hd
  · unfold knd; rw [cell_ne v (by omega)]; exact h.knd hx hd
theorem okN_bal {N : Nat → Int32} (h : okN N) {w : Nat} (hw : w < 4) (v : Int32) (hv : -(mn N 0 : Int) ≤ v.toInt ∧ v.toInt ≤ mn N 1) : okN (upd N (58 + 13 * w + 2) v) := by
  refine ⟨isN_ne v (by omega) h.lo, isN_ne v (by omega) h.hi, ⟨isN_ne v (by omega) h.win, by rw [mn_ne v (by omega)]; exact h.win1⟩, isN_ne v (by omega) h.lim, isN_ne v (by omega) h.ns, fun i hi => ⟨isN_ne v (by omega) (h.s0 hi), isN_ne v (by omega) (h.s1 hi), fun j hj => isN_ne v (by omega) (h.sq hi hj)⟩, isN_ne v (by omega) h.nn, fun i hi => ⟨isN_ne v (by omega) (h.n0 hi), isN_ne v (by omega) (h.n1 hi)⟩, isN_ne v (by omega) h.nw, fun x hx => ⟨isN_ne v (by omega) (h.rate hx), isN_ne v (by omega) (h.leave hx), isN_ne v (by omega) (h.gone hx), ?_⟩, isN_ne v (by omega) h.td, fun x hx d hd => ⟨isN_ne v (by omega) (h.cell hx hd), ?_, ?_, ?_⟩⟩
  · rw [mn_ne v (by omega), mn_ne v (by omega)]
    by_cases e : x = w
    · subst e; rw [show 60 + 13 * x = 58 + 13 * x + 2 by omega, upd_at]; exact hv
    · rw [upd_ne N (by omega)]; exact h.bal hx
  · unfold chg; rw [cell_ne v (by omega)]; exact h.chg hx hd
  · unfold wkd; rw [cell_ne v (by omega)]; exact h.wkd hx hd
  · unfold knd; rw [cell_ne v (by omega)]; exact h.knd hx hd
theorem okN_gone {N : Nat → Int32} (h : okN N) {w : Nat} (hw : w < 4) : okN (upd N (58 + 13 * w + 9) (zI (1 : Nat))) := by
  have v := zI (1 : Nat)
  refine ⟨isN_ne _ (by omega) h.lo, isN_ne _ (by omega) h.hi, ⟨isN_ne _ (by omega) h.win, by rw [mn_ne _ (by omega)]; exact h.win1⟩, isN_ne _ (by omega) h.lim, isN_ne _ (by omega) h.ns, fun i hi => ⟨isN_ne _ (by omega) (h.s0 hi), isN_ne _ (by omega) (h.s1 hi), fun j hj => isN_ne _ (by omega) (h.sq hi hj)⟩, isN_ne _ (by omega) h.nn, fun i hi => ⟨isN_ne _ (by omega) (h.n0 hi), isN_ne _ (by omega) (h.n1 hi)⟩, isN_ne _ (by omega) h.nw, fun x hx => ⟨isN_ne _ (by omega) (h.rate hx), isN_ne _ (by omega) (h.leave hx), ?_, ?_⟩, isN_ne _ (by omega) h.td, fun x hx d hd => ⟨isN_ne _ (by omega) (h.cell hx hd), ?_, ?_, ?_⟩⟩
  · by_cases e : x = w
    · subst e; rw [show 67 + 13 * x = 58 + 13 * x + 9 by omega]; exact isN_at (by omega) (by omega)
    · exact isN_ne _ (by omega) (h.gone hx)
  · rw [mn_ne _ (by omega), mn_ne _ (by omega), upd_ne N (by omega)]; exact h.bal hx
  · unfold chg; rw [cell_ne _ (by omega)]; exact h.chg hx hd
  · unfold wkd; rw [cell_ne _ (by omega)]; exact h.wkd hx hd
  · unfold knd; rw [cell_ne _ (by omega)]; exact h.knd hx hd
theorem okN_td {N : Nat → Int32} (h : okN N) {t : Nat} (ht : t ≤ 364) : okN (upd N 110 (zI t)) := by
  refine ⟨isN_ne _ (by omega) h.lo, isN_ne _ (by omega) h.hi, ⟨isN_ne _ (by omega) h.win, by rw [mn_ne _ (by omega)]; exact h.win1⟩, isN_ne _ (by omega) h.lim, isN_ne _ (by omega) h.ns, fun i hi => ⟨isN_ne _ (by omega) (h.s0 hi), isN_ne _ (by omega) (h.s1 hi), fun j hj => isN_ne _ (by omega) (h.sq hi hj)⟩, isN_ne _ (by omega) h.nn, fun i hi => ⟨isN_ne _ (by omega) (h.n0 hi), isN_ne _ (by omega) (h.n1 hi)⟩, isN_ne _ (by omega) h.nw, fun x hx => ⟨isN_ne _ (by omega) (h.rate hx), isN_ne _ (by omega) (h.leave hx), isN_ne _ (by omega) (h.gone hx), ?_⟩, isN_at ht (by omega), fun x hx d hd => ⟨isN_ne _ (by omega) (h.cell hx hd), ?_, ?_, ?_⟩⟩
  · rw [mn_ne _ (by omega), mn_ne _ (by omega), upd_ne N (by omega)]; exact h.bal hx
  · unfold chg; rw [cell_ne _ (by omega)]; exact h.chg hx hd
  · unfold wkd; rw [cell_ne _ (by omega)]; exact h.wkd hx hd
  · unfold knd; rw [cell_ne _ (by omega)]; exact h.knd hx hd
def pkD (x y u z : Nat) : Nat := x + 128 * y + 16384 * u + 65536 * z
theorem okN_day {N : Nat → Int32} (h : okN N) {w d : Nat} (hw : w < 4) (hd : d < 364) {x y u z : Nat} (hx : x ≤ 97) (hy : y ≤ 96) (hu : u ≤ 2) (hz : z ≤ 1) : okN (upd N (111 + 364 * w + d) (zI (pkD x y u z))) := by
  have hb : pkD x y u z ≤ 131071 := by unfold pkD; omega
  have hc : cellN (upd N (111 + 364 * w + d) (zI (pkD x y u z))) w d = pkD x y u z := mn_at (by omega)
  refine ⟨isN_ne _ (by omega) h.lo, isN_ne _ (by omega) h.hi, ⟨isN_ne _ (by omega) h.win, by rw [mn_ne _ (by omega)]; exact h.win1⟩, isN_ne _ (by omega) h.lim, isN_ne _ (by omega) h.ns, fun i hi => ⟨isN_ne _ (by omega) (h.s0 hi), isN_ne _ (by omega) (h.s1 hi), fun j hj => isN_ne _ (by omega) (h.sq hi hj)⟩, isN_ne _ (by omega) h.nn, fun i hi => ⟨isN_ne _ (by omega) (h.n0 hi), isN_ne _ (by omega) (h.n1 hi)⟩, isN_ne _ (by omega) h.nw, fun v hv => ⟨isN_ne _ (by omega) (h.rate hv), isN_ne _ (by omega) (h.leave hv), isN_ne _ (by omega) (h.gone hv), ?_⟩, isN_ne _ (by omega) h.td, fun v hv c hc2 => ?_⟩
  · rw [mn_ne _ (by omega), mn_ne _ (by omega), upd_ne N (by omega)]; exact h.bal hv
  · by_cases e : 111 + 364 * v + c = 111 + 364 * w + d
    · obtain ⟨rfl, rfl⟩ : v = w ∧ c = d := by omega
      refine ⟨isN_at hb (by omega), ?_, ?_, ?_⟩
      · unfold chg; rw [hc]; unfold pkD; omega
      · unfold wkd; rw [hc]; unfold pkD; omega
      · unfold knd; rw [hc]; unfold pkD; omega
    · refine ⟨isN_ne _ e (h.cell hv hc2), ?_, ?_, ?_⟩
      · unfold chg; rw [cell_ne _ e]; exact h.chg hv hc2
      · unfold wkd; rw [cell_ne _ e]; exact h.wkd hv hc2
      · unfold knd; rw [cell_ne _ e]; exact h.knd hv hc2
def sameD (N M : Nat → Int32) : Prop := ∀ k, (k < 58 ∨ 111 ≤ k) → M k = N k
theorem sD_mn {N M : Nat → Int32} (h : sameD N M) {k : Nat} (hk : k < 58 ∨ 111 ≤ k) : mn M k = mn N k := by show (M k).toInt.toNat = (N k).toInt.toNat; rw [h k hk]
theorem sD_cell {N M : Nat → Int32} (h : sameD N M) (w d : Nat) : cellN M w d = cellN N w d := sD_mn h (by omega)
theorem sD_chg {N M : Nat → Int32} (h : sameD N M) (w d : Nat) : chg M w d = chg N w d := by show cellN M w d % 128 = cellN N w d % 128; rw [sD_cell h]
theorem sD_wkd {N M : Nat → Int32} (h : sameD N M) (w d : Nat) : wkd M w d = wkd N w d := by show cellN M w d / 128 % 128 = cellN N w d / 128 % 128; rw [sD_cell h]
theorem sD_knd {N M : Nat → Int32} (h : sameD N M) (w d : Nat) : knd M w d = knd N w d := by show cellN M w d / 16384 % 4 = cellN N w d / 16384 % 4; rw [sD_cell h]
theorem sD_flg {N M : Nat → Int32} (h : sameD N M) (w d : Nat) : flg M w d = flg N w d := by show cellN M w d / 65536 = cellN N w d / 65536; rw [sD_cell h]
theorem sD_sea {N M : Nat → Int32} (h : sameD N M) (d : Nat) : ∀ k, k ≤ 5 → seaP M d k = seaP N d k
  | 0, _ => rfl
  | k + 1, hk => by
    have := Nat.mod_lt d (show 7 > 0 by omega)
    rw [seaP, seaP, sD_mn h (by omega), sD_mn h (by omega), sD_mn h (by omega), sD_sea h d k (by omega)]
theorem sD_plan {N M : Nat → Int32} (h : sameD N M) (hN : okN N) (w d : Nat) : plan M w d = plan N w d := by
  have e1 := sD_chg h w d
  have e2 : mn M 4 = mn N 4 := sD_mn h (by omega)
  have e3 := sD_sea h d (mn N 4) hN.ns.le
  unfold plan
  rw [e1, e2, e3]
theorem sD_load {N M : Nat → Int32} (h : sameD N M) (hN : okN N) (w d : Nat) : load M w d = load N w d := by
  have e1 := sD_knd h w d
  have e2 := sD_wkd h w d
  have e3 := sD_plan h hN w d
  unfold load
  rw [e1, e2, e3]
theorem sD_ldS {N M : Nat → Int32} (h : sameD N M) (hN : okN N) (w : Nat) (fr to : Int) : ldS M w fr to = ldS N w fr to := by
  have e1 : load M w = load N w := funext (sD_load h hN w)
  unfold ldS
  rw [e1]
theorem sD_lvS {N M : Nat → Int32} (h : sameD N M) (hN : okN N) (w a n : Nat) : lvS M w a n = lvS N w a n := by
  have e1 : lvd M w = lvd N w := funext fun d => by
    have e1 := sD_knd h w d
    have e3 := sD_plan h hN w d
    unfold lvd
    rw [e1, e3]
  unfold lvS
  rw [e1]
theorem sD_rfl {N : Nat → Int32} : sameD N N := fun _ _ => rfl
theorem sD_upd {N M : Nat → Int32} (h : sameD N M) {j : Nat} (hj : 58 ≤ j ∧ j < 111) (v : Int32) : sameD N (upd M j v) := fun k hk => by rw [upd_ne M (by omega)]; exact h k hk
