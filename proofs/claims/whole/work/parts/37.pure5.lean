def sbI (b : Nat) : Int := if b < 128 then (b : Int) else (b : Int) - 256
theorem sbI_nar {b : Nat} (hb : b < 256) : vp_nar .byte (zI (sbI b)) = zI (sbI b) := by
  have h : zI (sbI b) = (zI (sbI b)).toInt8.toInt32 := by
    apply Int32.toInt_inj.mp
    have hr : -128 ≤ sbI b ∧ sbI b < 128 := by unfold sbI; split <;> omega
    rw [Int8.toInt_toInt32, Int32.toInt_toInt8, zI_toInt (by omega)]
    exact (Int.bmod_eq_of_le (by omega) (by omega)).symm
  rw [h]; exact pk_vb _
theorem byte_s (x : Int32) (i : Nat) (hi : i < 4) : ((x >>> (zI (24 - 8 * (i : Int)) &&& 31)).toInt8.toInt32) = zI (sbI (byteN x (24 - 8 * i))) := by
  have key : ∀ (k : Nat) (y : Int32), (y.toBitVec.smod 32).toNat = k → k ≤ 24 → ((x >>> y).toInt8.toInt32) = zI (sbI (byteN x k)) := by
    intro k y hy hk
    apply Int32.toInt_inj.mp
    have hb := byteN_lt x k
    have hr : -128 ≤ sbI (byteN x k) ∧ sbI (byteN x k) < 128 := by unfold sbI; split <;> omega
    rw [Int8.toInt_toInt32, Int32.toInt_toInt8, zI_toInt (by omega), pk_shr x y k hy]
    have hx : x.toInt = if 2 * x.toBitVec.toNat < 2 ^ 32 then (x.toBitVec.toNat : Int) else (x.toBitVec.toNat : Int) - 2 ^ 32 := by
      show x.toBitVec.toInt = _
      rw [BitVec.toInt_eq_toNat_cond]; rfl
    have hlt := x.toBitVec.isLt
    rw [Int.shiftRight_eq_div_pow]
    unfold sbI byteN at *
    generalize x.toBitVec.toNat = n at *
    rw [hx]
    rcases (by omega : k = 0 ∨ k = 1 ∨ k = 2 ∨ k = 3 ∨ k = 4 ∨ k = 5 ∨ k = 6 ∨ k = 7 ∨ k = 8 ∨ k = 9 ∨ k = 10 ∨ k = 11 ∨ k = 12 ∨ k = 13 ∨ k = 14 ∨ k = 15 ∨ k = 16 ∨ k = 17 ∨ k = 18 ∨ k = 19 ∨ k = 20 ∨ k = 21 ∨ k = 22 ∨ k = 23 ∨ k = 24) with h | h | h | h | h | h | h | h | h | h | h | h | h | h | h | h | h | h | h | h | h | h | h | h | h <;> subst h <;> (rw [Int.bmod_def]; split <;> split <;> omega)
  match i, hi with
  | 0, _ => exact key 24 _ (by decide) (by omega)
  | 1, _ => exact key 16 _ (by decide) (by omega)
  | 2, _ => exact key 8 _ (by decide) (by omega)
  | 3, _ => exact key 0 _ (by decide) (by omega)
def layC (by0 : Nat → Int32) (t : Nat) (x : Int32) (i : Nat) : Nat → Int32 := fun j => if t ≤ j ∧ j < t + i then zI (sbI (byteN x (24 - 8 * (j - t)))) else by0 j
theorem layC_0 (tp : Nat → Int32) (t : Nat) (x : Int32) : layC tp t x 0 = tp := by funext j; unfold layC; rw [if_neg (by omega)]
theorem layC_s (tp : Nat → Int32) (t : Nat) (x : Int32) (i : Nat) : upd (layC tp t x i) (t + i) (zI (sbI (byteN x (24 - 8 * i)))) = layC tp t x (i + 1) := by
  funext j; unfold upd layC
  by_cases h : j = t + i
  · subst h; rw [if_pos rfl, if_pos (by omega), show t + i - t = i by omega]
  · rw [if_neg h]
    by_cases h2 : t ≤ j ∧ j < t + i
    · rw [if_pos h2, if_pos (by omega)]
    · rw [if_neg h2, if_neg (by omega)]
def feedC (tp : Nat → Int32) (t : Nat) (x1 x2 x3 x4 x5 : Int32) : Nat → Int32 := if 740 < t + 20 then tp else layC (layC (layC (layC (layC tp t x1 4) (t + 4) x2 4) (t + 4 + 4) x3 4) (t + 4 + 4 + 4) x4 4) (t + 4 + 4 + 4 + 4) x5 4
