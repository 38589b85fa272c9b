def rdH (g : GG) (hb : Nat) (N : Nat → Int32) (hc tz : Int32) (H : Heap) : Prop := ∃ (tpa rda sa hia ru dfa : Nat) (sh : Nat → Nat) (hst : Nat) (hnx : Int32) (bya : Nat), gP g [(hb, .inr (8, [.ref tpa, .ref rda, .ref sa, .ref hia, .ref ru, .ref dfa, .int (N 110)])), (sa, .inl (g.2 4, 4, rfs sh)), (hia, .inr (1, [.ref hst, .int hnx, .int hc])), (tpa, .inr (5, [.ref bya, .int tz]))] H ∧ (∀ i, i < 4 → i < mn N 57 → rdS g (sh i) i N H) ∧ rdR g ru N H
theorem flS {N : Nat → Int32} : ∀ n, sumN (fun w => sumN (ind N w 3) 0 (364 - 0)) 0 n = sumN (fun w => sumN (ind N w 3) 0 364) 0 n
  | 0 => rfl
  | n + 1 => by rw [sumN_s, sumN_s, flS n]
