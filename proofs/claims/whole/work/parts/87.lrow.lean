abbrev lA (s : State) : Nat → Prop := fun q => s.heap.size ≤ q
abbrev lvL (b : Nat) (ad a : Nat → Nat) (ao i : Nat) : List (Nat × Value) := [(0, .ref b), (1, .ref (ad 0)), (2, .ref (a 0)), (3, .ref ao), (4, .int (zI (i : Int)))]
def LF (p : Program) (l : Launch) (s : State) (m : MethodId) (c : Code) (b L : Nat) (xs : Nat → Int32) (g : GG) (ad a : Nat → Nat) (ao : Nat) (xk : Nat → Nat) (kq : KK) : Prop :=
  CallFix p m c cL_law 7 s #[Value.ref b] wsL_law0 RL ∧ l.stackTraces = false ∧ gK g s ∧ kC kq ad s ∧ kY xk ad s ∧ hD ad ∧ aD a ∧ (∀ q, hbA ad q → ¬ mA a q) ∧ ¬ hbA ad ao ∧ ¬ mA a ao ∧ (∀ q, hbA ad q → lA s q) ∧ (∀ q, mA a q → lA s q) ∧ lA s ao ∧ va_X b L xs s s.heap ∧ b < s.heap.size ∧ L ≤ 3072
def tpR (by0 tp : Nat → Int32) : Prop := ∀ i, i < 740 → by0 i = zI (sbI (mn tp i))
def LI (g : GG) (ad a : Nat → Nat) (ao : Nat) (H : Heap) : Prop :=
  ∃ (P : Nat → Nat) (M : Nat → Nat → Int32) (sc : Nat → Int32) (wd : Int64) (tp N rd sn : Nat → Int32) (f : Nat → Int64) (k t : Nat), cw g ad P M H ∧ gP g (mW g a sc wd tp N rd sn) H ∧ gP g (oC g ao f) H ∧ INV P M N sn k ∧ sc 9 = zI (k : Int) ∧ sc 1 = zI (t : Int) ∧ t ≤ 740 ∧ M 1 0 = zI (t : Int) ∧ tpR (M 2) tp ∧ okT tp ∧ M 3 0 = sc 7
theorem li_cw {g : GG} {ad a P : Nat → Nat} {M : Nat → Nat → Int32} {H H1 : Heap} (hdis : ∀ q, hbA ad q → ¬ mA a q) (hW : cw g ad P M H) (hkp : ∀ q : Nat, q < H.size → ¬ mA a q → H1[q]? = H[q]?) : cw g ad P M H1 := va_P.kept hW (fun k q hk => by
  have hlt := (hW k q hk).lt
  obtain ⟨h1, rfl⟩ := hbL_of hk
  exact hkp _ hlt (hdis _ ⟨k, h1, rfl⟩))
theorem li_mW {g : GG} {ad a : Nat → Nat} {sc : Nat → Int32} {wd : Int64} {tp N rd sn : Nat → Int32} {H H1 : Heap} (hdis : ∀ q, hbA ad q → ¬ mA a q) (hM : gP g (mW g a sc wd tp N rd sn) H) {A : Nat → Prop} (hA : ∀ q, mA a q → ¬ A q) (hkp : ∀ q : Nat, q < H.size → ¬ A q → H1[q]? = H[q]?) : gP g (mW g a sc wd tp N rd sn) H1 := va_P.kept hM (fun k q hk => by
  have hlt := (hM k q hk).lt
  obtain ⟨h1, h2⟩ := mW_at hk
  exact hkp _ hlt (hA _ ⟨k, h1, h2⟩))
theorem lvx_sub {ls : Array Slot} {n : Nat} {lv lv' : List (Nat × Value)} (h : lv_has ls n lv) (hs : ∀ q ∈ lv', q ∈ lv) : lv_has ls n lv' := ⟨h.1, h.2.1, fun q hq => h.2.2 q (hs q hq)⟩
theorem lay_R {by0 tp : Nat → Int32} {t : Nat} {x : Int32} {n : Nat} (h : tpR by0 tp) (hT : okT tp) : tpR (layC by0 t x n) (layP tp t x n) ∧ okT (layP tp t x n) := by
  refine ⟨fun i hi => ?_, fun i hi => ?_⟩
  · unfold layC
    by_cases hc : t ≤ i ∧ i < t + n
    · have hb := byteN_lt x (24 - 8 * (i - t))
      rw [if_pos hc, mn_of (N := layP tp t x n) (k := i) (n := byteN x (24 - 8 * (i - t))) (by unfold layP; rw [if_pos hc]) (by omega)]
    · rw [if_neg hc, h i hi, show mn (layP tp t x n) i = mn tp i by unfold mn layP; rw [if_neg hc]]
  · unfold isN layP
    by_cases hc : t ≤ i ∧ i < t + n
    · have hb := byteN_lt x (24 - 8 * (i - t))
      rw [if_pos hc, zI_toInt (by omega)]
      omega
    · rw [if_neg hc]
      exact hT i hi
theorem feed_R {by0 tp : Nat → Int32} {t : Nat} {x1 x2 x3 x4 x5 : Int32} (h : tpR by0 tp) (hT : okT tp) : tpR (feedC by0 t x1 x2 x3 x4 x5) (feedT tp t x1 x2 x3 x4 x5) ∧ okT (feedT tp t x1 x2 x3 x4 x5) := by
  unfold feedC feedT
  by_cases hc : 740 < t + 20
  · rw [if_pos hc, if_pos hc]
    exact ⟨h, hT⟩
  · rw [if_neg hc, if_neg hc]
    have q1 := lay_R (t := t) (x := x1) (n := 4) h hT
    have q2 := lay_R (t := t + 4) (x := x2) (n := 4) q1.1 q1.2
    have q3 := lay_R (t := t + 4 + 4) (x := x3) (n := 4) q2.1 q2.2
    have q4 := lay_R (t := t + 4 + 4 + 4) (x := x4) (n := 4) q3.1 q3.2
    exact lay_R (t := t + 4 + 4 + 4 + 4) (x := x5) (n := 4) q4.1 q4.2
theorem feedZ_le {t : Nat} (h : t ≤ 740) : feedZ t ≤ 740 := by unfold feedZ; split <;> omega
def tpM (M : Nat → Nat → Int32) (z : Int32) (by1 : Nat → Int32) : Nat → Nat → Int32 := fun j => if j = 1 then (fun _ => z) else if j = 2 then by1 else M j
theorem cw_tape {g : GG} {ad P : Nat → Nat} {M : Nat → Nat → Int32} {c1 : Nat → va_E} {z : Int32} {by1 : Nat → Int32} {H : Heap} (hW : hbP g ad c1 H) (h1 : c1 1 = .inr (5, [.ref (ad 2), .int z])) (h2 : c1 2 = .inl (g.2 1, 740, .inl by1)) (hx : ∀ j, ¬ j = 1 → ¬ j = 2 → c1 j = lc g ad P M j) : cw g ad P (tpM M z by1) H := by
  have e : c1 = lc g ad P (tpM M z by1) := funext (fun j => by
    by_cases q1 : j = 1
    · subst q1; exact h1
    · by_cases q2 : j = 2
      · subst q2; exact h2
      · rw [hx j q1 q2]; unfold lc tpM; rw [if_neg q1, if_neg q2])
  rw [e] at hW
  exact hW
theorem INV_tape {P : Nat → Nat} {M : Nat → Nat → Int32} {N sn : Nat → Int32} {k : Nat} (hI : INV P M N sn k) (z : Int32) (by1 : Nat → Int32) : INV P (tpM M z by1) N sn k := INV_dr hI (fun i h _ => by unfold tpM; rw [if_neg (by omega), if_neg (by omega)])
def nz (x : Int) : Int := if x = 0 then 0 else 1
theorem nz_b (x : Int) : nz x = 0 ∨ nz x = 1 := by unfold nz; split <;> omega
section LRW
variable {p : Program} {l : Launch} {e : Env} {R : Room} {s : State} {m : MethodId} {args : Array Value} {below : List Frame} {meth : Method} {c : Code} {H : Heap} {locs : List Loc} {cells slots : Nat} {Q : State → Prop}
variable {cc : ByteArray} {pc : Nat} {ls : Array Slot} {rest : List Value}
theorem ls_rd (hexec : p.tables.exec = Jvm.exec) (hb : c.code = cc) {b L i j : Nat} {n : Int} {xs : Nat → Int32} (hX : va_X b L xs s s.heap) (hbl : b < s.heap.size) (hS : va_S (lA s) s.heap H locs) (d0 : decode cc pc = .ok (.aload_n 0, 1)) (d1 : decode cc (pc + 1) = .ok (.iload 4, 2)) (d3 : decode cc (pc + 3) = .ok (.iconst n, 1)) (d4 : decode cc (pc + 4) = .ok (.iadd, 1)) (d5 : decode cc (pc + 5) = .ok (.iaload, 1)) (hn : n = (j : Int)) (hij : i + j < L) (hL : L ≤ 3072) (h0 : ls[0]? = some (.val (.ref b))) (h4 : ls[4]? = some (.val (.int (zI (i : Int)))))
    (k : W p l e R s m args below meth c H locs cells slots Q (F0 m (pc + 6) ls (.int (zI (xs (i + j)).toInt) :: rest))) : W p l e R s m args below meth c H locs cells slots Q (F0 m pc ls rest) := by
  refine lv_aload_n hexec hb d0 rfl h0 ?_
  refine lv_iload hexec hb d1 h4 ?_
  refine lv_iconst (v := zI n) hexec hb d3 rfl ?_
  refine z_iadd hexec hb d4 ?_
  refine z_top (y := zI ((i + j : Nat) : Int)) (by rw [hn]; rfl) ?_
  refine va_sld hexec hb hX hbl (A := lA s) (Nat.not_le.mpr hbl) hS (zI_in hij (by omega)) d5 ?_
  rw [zI_clamp (by omega)]
  refine z_top (y := zI (xs (i + j)).toInt) ?_ k
  unfold zI
  exact (Int32.ofInt_toInt _).symm
theorem ls_nz (hexec : p.tables.exec = Jvm.exec) (hb : c.code = cc) {x : Int} (hx : R32 x) (d0 : decode cc pc = .ok (.ifCond .eq 7, 3)) (d3 : decode cc (pc + 3) = .ok (.iconst 1, 1)) (d4 : decode cc (pc + 4) = .ok (.goto 4, 3)) (d7 : decode cc (pc + 7) = .ok (.iconst 0, 1))
    (k : W p l e R s m args below meth c H locs cells slots Q (F0 m (pc + 8) ls (.int (zI (nz x)) :: rest))) : W p l e R s m args below meth c H locs cells slots Q (F0 m pc ls (.int (zI x) :: rest)) := by
  refine z_if_eq (tgt := pc + 7) hexec hb d0 (by omega) hx (fun h => ?_) (fun h => ?_)
  · refine lv_iconst (v := zI 0) hexec hb d7 (by decide) ?_
    have e0 : nz x = 0 := by unfold nz; rw [if_pos h]
    rw [e0] at k
    exact k
  · refine lv_iconst (v := zI 1) hexec hb d3 (by decide) ?_
    refine lv_goto (tgt := pc + 8) hexec hb d4 (by omega) ?_
    have e0 : nz x = 1 := by unfold nz; rw [if_neg h]
    rw [e0] at k
    exact k
end LRW
