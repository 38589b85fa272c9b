abbrev KK : Type := (Nat → Nat) × (Nat → Nat) × (Nat → Nat)
abbrev stN : List String := ["BANK_LEAST", "SEASON_LEAST", "NOTICE_LEAST", "WORKER_LEAST", "BANK_MOST", "SEASON_MOST", "NOTICE_MOST", "WORKER_MOST"]
abbrev stV : List (List Int32) := [[0, 0, 1, 0], [0, 0, 0, 0, 0, 0, 0, 0, 0], [1, 0], [1, 0], [9999, 9999, 60, 9999], [363, 363, 96, 96, 96, 96, 96, 96, 96], [60, 300], [999, 9999]]
abbrev stL : List Nat := [4, 9, 2, 2, 4, 9, 2, 2]
abbrev woN : List String := ["bank", "season", "notice", "worker"]
abbrev woV : List (List Int32) := [[98, 97, 110, 107], [115, 101, 97, 115, 111, 110], [110, 111, 116, 105, 99, 101], [119, 111, 114, 107, 101, 114]]
abbrev woL : List Nat := [4, 6, 6, 6]
def kC (k : KK) (ad : Nat → Nat) (U : State) : Prop :=
  va_Nw (.methodLinkNest RX1 71 yX8_isDay RX8) U
  ∧ (∀ i, i < 8 → va_Z RX2 (stN.getD i "") "[I" (.ref (k.1 i)) (hbA ad) U U.heap ∧ va_T .int (k.1 i) (stL.getD i 0) (fun j => .int ((stV.getD i []).getD j 0)) (hbA ad) U U.heap)
  ∧ (∀ i, i < 4 → vk_R RX2 (38 + 2 * i) (woN.getD i "") (k.2.1 i) U)
  ∧ vk_S 4 woL woV k.2.1 k.2.2 (hbA ad) U U.heap
  ∧ va_Z "java/lang/String" "COMPACT_STRINGS" "Z" (.int 1) (hbA ad) U U.heap
  ∧ va_Zq "jdk/internal/util/Preconditions" "SIOOBE_FORMATTER" "Ljava/util/function/BiFunction;" (hbA ad) U U.heap
theorem kC_at {k : KK} {ad : Nat → Nat} {s U : State} {H : Heap} {locs : List Loc} (hC : kC k ad s) (hS : va_S (hbA ad) s.heap H locs) (hU : U.heap = H) (hW : s.WarmedH U.vm) : kC k ad U := by
  subst hU
  have hq := hS.2.1
  refine ⟨va_Nw.warmM hW hC.1, fun i hi => ⟨va_Z.moved hW.alike ((hC.2.1 i hi).1.kept hq), va_T.moved hW.alike ((hC.2.1 i hi).2.kept hq)⟩, fun i hi => vk_R.warm hW (hC.2.2.1 i hi), vk_S.moved hW.alike (hC.2.2.2.1.kept hq), va_Z.moved hW.alike (hC.2.2.2.2.1.kept hq), va_Zq.moved hW.alike (hC.2.2.2.2.2.kept hq)⟩
theorem kC_same {k : KK} {ad : Nat → Nat} {u U : State} (hv : U.vm = u.vm) (hh : U.heap = u.heap) (hC : kC k ad u) : kC k ad U := by
  have ha : u.vm.Alike U.vm := by rw [hv]; exact Vm.Alike.refl u.vm
  refine ⟨va_Nw.same rfl hv.symm hC.1, fun i hi => ?_, fun i hi => vk_R.same hv (hC.2.2.1 i hi), ?_, ?_, ?_⟩
  · rw [hh]; exact ⟨va_Z.moved ha (hC.2.1 i hi).1, va_T.moved ha (hC.2.1 i hi).2⟩
  · rw [hh]; exact vk_S.moved ha hC.2.2.2.1
  · rw [hh]; exact va_Z.moved ha hC.2.2.2.2.1
  · rw [hh]; exact va_Zq.moved ha hC.2.2.2.2.2
abbrev gkPc (g : GG) (k : KK) (ad : Nat → Nat) (av : List Value) (Pre : Heap → Prop) : Array Value → State → Prop := va_Pc av (fun U => Pre U.heap ∧ gK g U ∧ kC k ad U)
theorem gk_blind {g : GG} {k : KK} {ad : Nat → Nat} {av : List Value} {Pre : Heap → Prop} : FrameBlind (gkPc g k ad av Pre) := fun a U fr mk q => ⟨q.1, q.2.1, va_K.moved (u := U) (U := U.calling fr mk a) (Vm.Alike.refl U.vm) q.2.2.1, kC_same (u := U) (U := U.calling fr mk a) rfl rfl q.2.2.2⟩
theorem gk_preV {s : State} {H : Heap} {C : String} {b : Addr} {As : List Value} {g : GG} {k : KK} {ad : Nat → Nat} {locs : List Loc} {Pre : Heap → Prop} (hP : Pre H) (hK : gK g s) (hC : kC k ad s) (hS : va_S (hbA ad) s.heap H locs) (hrecv : ∃ cellB : Cell, H[b]? = some cellB ∧ cellB.vm.isStatics = false ∧ s.vm.findClass C = some cellB.cls) : PreV s H C b (gkPc g k ad (.ref b :: As) Pre) As :=
  ⟨gk_blind, hrecv, fun U hU hW => ⟨rfl, by rw [hU]; exact hP, va_K.moved hW.alike hK, kC_at hC hS hU hW⟩⟩
theorem gk_preS {s : State} {H : Heap} {As : List Value} {g : GG} {k : KK} {ad : Nat → Nat} {locs : List Loc} {Pre : Heap → Prop} (hP : Pre H) (hK : gK g s) (hC : kC k ad s) (hS : va_S (hbA ad) s.heap H locs) : PreS s H (gkPc g k ad As Pre) As :=
  ⟨gk_blind, fun U hU hW => ⟨rfl, by rw [hU]; exact hP, va_K.moved hW.alike hK, kC_at hC hS hU hW⟩⟩
def wch (i k : Nat) : Nat := ((woV.getD i []).getD k 0).toInt.toNat
theorem wch_ok : ∀ i, i < 4 → ∀ k, k < woL.getD i 0 → (((woV.getD i []).getD k 0 &&& zI 255).toUInt32 % 65536).toInt32 = zI (wch i k) ∧ narrow .char (.int (zI (wch i k))) = .int (zI (wch i k)) ∧ wch i k < 128 := by decide +kernel
theorem woL_le : ∀ i, i < 4 → woL.getD i 0 ≤ 6 ∧ zI (woL.getD i 0 : Nat) >>> (zI 0 &&& 31) = zI (woL.getD i 0 : Nat) := by decide +kernel
def wB (β : Nat → Nat) (s i : Nat) : Nat → Nat
  | 0 => 1
  | k + 1 => if wB β s i k = 1 ∧ β (s + k) = wch i k then 1 else 0
theorem wB_no {β : Nat → Nat} {s i : Nat} {k : Nat} (h : ¬ β (s + k) = wch i k) : ∀ m, k < m → ¬ wB β s i m = 1
  | 0, hm => absurd hm (Nat.not_lt_zero _)
  | m + 1, hm => by
    rw [wB]
    by_cases q : k = m
    · subst q; rw [if_neg (fun z => h z.2)]; omega
    · rw [if_neg (fun z => wB_no h m (by omega) z.1)]; omega
def sL (i j : Nat) : Nat := ((stV.getD i []).getD j 0).toInt.toNat
theorem sL_ok : ∀ i, i < 8 → ∀ j, j < stL.getD i 0 → (stV.getD i []).getD j 0 = zI (sL i j) ∧ sL i j ≤ 9999 := by decide +kernel
