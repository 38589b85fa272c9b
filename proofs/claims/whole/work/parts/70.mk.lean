theorem va_AOA.moved {ty : FieldType} {u U : State} (hvm : u.vm.Alike U.vm) (h : va_AOA ty u) : va_AOA ty U := by
  have h1 : (Cond.arrayOver (.array ty)).before #[] (u.setVm U.vm) = true := by rw [Cond.arrayOver_setVmC hvm]; exact h
  exact h1
def kN (U : State) : Prop := va_Nw (.methodLinkNest RX8 11 yX5_init RX8) U ∧ va_Nw (.methodLinkNest RX3 24 yX0_init RX8) U ∧ va_Nw (.methodLinkNest RX4 17 yX0_init RX8) U ∧ va_AO "HoursBank$Account" U ∧ va_AO "HoursBank$Sheet" U ∧ va_AO "HoursBank$Step" U ∧ va_AOA .int U
theorem kN.warm {s U : State} (hW : s.WarmedH U.vm) (h : kN s) : kN U := ⟨va_Nw.warmM hW h.1, va_Nw.warmM hW h.2.1, va_Nw.warmM hW h.2.2.1, h.2.2.2.1.moved hW.alike, h.2.2.2.2.1.moved hW.alike, h.2.2.2.2.2.1.moved hW.alike, h.2.2.2.2.2.2.moved hW.alike⟩
theorem kN.same {u U : State} (hv : u.vm = U.vm) (h : kN u) : kN U := by
  have ha : u.vm.Alike U.vm := by rw [hv]; exact Vm.Alike.refl U.vm
  exact ⟨va_Nw.same rfl hv h.1, va_Nw.same rfl hv h.2.1, va_Nw.same rfl hv h.2.2.1, h.2.2.2.1.moved ha, h.2.2.2.2.1.moved ha, h.2.2.2.2.2.1.moved ha, h.2.2.2.2.2.2.moved ha⟩
def nL (n : Nat) (ad : Nat → Nat) (ce : Nat → va_E) : va_W := (List.range n).map (fun i => (ad i, ce i))
theorem nL_at {n : Nat} {ad : Nat → Nat} {ce : Nat → va_E} {i : Nat} (hi : i < n) : (nL n ad ce)[i]? = some (ad i, ce i) := by
  unfold nL
  rw [List.getElem?_map, List.getElem?_range hi]
  rfl
theorem nL_len (n : Nat) (ad : Nat → Nat) (ce : Nat → va_E) : (nL n ad ce).length = n := by unfold nL; rw [List.length_map, List.length_range]
theorem nL_of {n : Nat} {ad : Nat → Nat} {ce : Nat → va_E} {i : Nat} {q : Nat × va_E} (h : (nL n ad ce)[i]? = some q) : i < n ∧ q = (ad i, ce i) := by
  have hl : i < n := by
    have := (List.getElem?_eq_some_iff.mp h).1
    rw [nL_len] at this
    exact this
  rw [nL_at hl] at h
  exact ⟨hl, (Option.some.inj h).symm⟩
abbrev nP (g : GG) (n : Nat) (ad : Nat → Nat) (ce : Nat → va_E) (H : Heap) : Prop := gP g (nL n ad ce) H
def nD (n : Nat) (ad : Nat → Nat) : Prop := ∀ i j, i < n → j < n → ad i = ad j → i = j
def nA (n : Nat) (ad : Nat → Nat) (sz : Nat) : Nat → Prop := fun q => (∃ i, i < n ∧ q = ad i) ∨ sz ≤ q
theorem nDa {A : Nat → Prop} {n : Nat} {ad : Nat → Nat} {ce : Nat → va_E} (h : nD n ad) (hA : ∀ i, i < n → A (ad i)) : va_D A (nL n ad ce) := by
  refine ⟨fun i j p q hi hj e => ?_, fun k q hk => ?_⟩
  · obtain ⟨h1, rfl⟩ := nL_of hi
    obtain ⟨h2, rfl⟩ := nL_of hj
    exact h i j h1 h2 e
  · obtain ⟨h1, rfl⟩ := nL_of hk
    exact hA k h1
theorem nD_of {A : Nat → Prop} {n : Nat} {ad : Nat → Nat} {ce : Nat → va_E} (h : va_D A (nL n ad ce)) : nD n ad := fun i j hi hj e => h.1 i j _ _ (nL_at hi) (nL_at hj) e
theorem nA_of {A : Nat → Prop} {n : Nat} {ad : Nat → Nat} {ce : Nat → va_E} (h : va_D A (nL n ad ce)) {i : Nat} (hi : i < n) : A (ad i) := h.2 i _ (nL_at hi)
theorem nL_set {n : Nat} {ad : Nat → Nat} {ce : Nat → va_E} {i : Nat} (hi : i < n) (e : va_E) : (nL n ad ce).set i (ad i, e) = nL n ad (va_up ce i e) := by
  apply List.ext_getElem?
  intro k
  by_cases hk : k = i
  · subst hk
    rw [List.getElem?_set_self (by rw [nL_len]; exact hi), nL_at hi, up_at]
  · rw [List.getElem?_set_ne (Ne.symm hk)]
    by_cases h2 : k < n
    · rw [nL_at h2, nL_at h2, up_ne _ _ hk]
    · rw [List.getElem?_eq_none (by rw [nL_len]; omega), List.getElem?_eq_none (by rw [nL_len]; omega)]
theorem nL_push {n : Nat} {ad : Nat → Nat} {ce : Nat → va_E} {q : Nat} {e : va_E} : nL n ad ce ++ [(q, e)] = nL (n + 1) (va_up ad n q) (va_up ce n e) := by
  apply List.ext_getElem?
  intro k
  by_cases h : k < n
  · rw [List.getElem?_append_left (by rw [nL_len]; exact h), nL_at h, nL_at (by omega), up_ne _ _ (by omega), up_ne _ _ (by omega)]
  · rw [List.getElem?_append_right (by rw [nL_len]; omega), nL_len]
    by_cases h2 : k = n
    · subst h2
      rw [nL_at (by omega), up_at, up_at, Nat.sub_self]
      rfl
    · rw [List.getElem?_eq_none (by simp; omega), List.getElem?_eq_none (by rw [nL_len]; omega)]
theorem nb1 {g : GG} {n : Nat} {ad : Nat → Nat} {ce : Nat → va_E} {H : Heap} (hP : nP g n ad ce H) {i : Nat} (hi : i < n) {a : Nat} {e : va_E} (ha : ad i = a) (hc : ce i = e) : gP g [(a, e)] H := by
  intro k q hk
  match k, hk with
  | 0, hk => cases hk; exact hP i _ ((nL_at hi).trans (by rw [ha, hc]))
  | k + 1, hk => simp at hk
theorem nP_of {g : GG} {n : Nat} {ad : Nat → Nat} {ce : Nat → va_E} {H : Heap} (h : ∀ i, i < n → gP g [(ad i, ce i)] H) : nP g n ad ce H := by
  intro k q hk
  obtain ⟨h1, rfl⟩ := nL_of hk
  exact h k h1 0 _ rfl
theorem vp_rf {c : ClassId} {N : Nat} {h f : Nat → Option Nat} (e : ∀ j, j < N → h j = f j) : vp_cell c (N, .inr (.inr (.inr (.inr h)))) = vp_cell c (N, .inr (.inr (.inr (.inr f)))) := by
  show arrV c N (fun j => va_rf (h j)) = arrV c N (fun j => va_rf (f j))
  unfold arrV
  have : (fun j : Fin N => va_rf (h j.val)) = (fun j : Fin N => va_rf (f j.val)) := by funext j; rw [e j.val j.isLt]
  rw [this]
theorem nP_rf {g : GG} {n : Nat} {ad : Nat → Nat} {ce : Nat → va_E} {H : Heap} (hP : nP g n ad ce H) {i : Nat} (hi : i < n) {c : ClassId} {N : Nat} {h f : Nat → Option Nat} (hc : ce i = .inl (c, N, .inr (.inr (.inr (.inr h))))) (e : ∀ j, j < N → h j = f j) : nP g n ad (va_up ce i (.inl (c, N, .inr (.inr (.inr (.inr f)))))) H := by
  refine nP_of (fun k hk => ?_)
  by_cases q : k = i
  · subst q
    rw [up_at]
    have h1 := nb1 hP hk rfl hc 0 _ rfl
    intro k2 q2 hk2
    match k2, hk2 with
    | 0, hk2 =>
      cases hk2
      show H[ad k]? = some (vp_cell c (N, .inr (.inr (.inr (.inr f)))))
      rw [← vp_rf e]; exact h1
    | k2 + 1, hk2 => simp at hk2
  · rw [up_ne _ _ q]; exact nb1 hP hk rfl rfl
theorem va_RA_eq {U : State} {c1 c2 : ClassId} {ty : FieldType} (h1 : va_RA U c1 ty) (h2 : va_RA U c2 ty) : c1 = c2 := by
  cases ty with
  | object C =>
    obtain ⟨k1, m1, a1, a2, a3, a4⟩ := h1
    obtain ⟨k2, m2, b1, b2, b3, b4⟩ := h2
    exact Option.some.inj (a4.symm.trans b4)
  | _ => exact Option.some.inj (Eq.trans (Eq.symm h1) h2)
theorem gK_c {g : GG} {s : State} (hK : gK g s) {t0 : Nat} {ty : FieldType} (ht : (gT g.2)[t0]? = some (g.2 t0, ty)) {cA : ClassId} {tys : List (ClassId × FieldType)} (h : va_K g.1 vwCl (tys ++ [(cA, ty)]) s) : cA = g.2 t0 :=
  va_RA_eq (h.2 tys.length (cA, ty) (by rw [List.getElem?_append_right (Nat.le_refl _), Nat.sub_self]; rfl)).2 (hK.2 t0 _ ht).2
section NROWS
variable {p : Program} {l : Launch} {e : Env} {R : Room} {s : State} {m : MethodId} {args : Array Value} {below : List Frame} {meth : Method} {c : Code} {H : Heap} {locs : List Loc} {cells slots : Nat} {Q : State → Prop}
variable {cc : ByteArray} {pc : Nat} {ls : Array Slot} {rest : List Value} {H0 : Heap} {g : GG} {n : Nat} {ad : Nat → Nat} {ce : Nat → va_E} {A : Nat → Prop}
theorem n_put (hexec : p.tables.exec = Jvm.exec) (hb : c.code = cc) {own ref C : String} {T : u_T} {N ci index : Nat} {Ts : List Cond} (hts : ∀ w ∈ Ts, w.before args s = true) (hin : ∀ w ∈ u_ws C T N, w ∈ Ts) (ty0 : Nat → FieldType) (hty : ∀ k, k < N → parseFieldDescriptor (T k).2.2.1 = some (ty0 k)) (hnm : ∀ a, a < N → ∀ b, b < N → a ≠ b → (T a).2.1 ≠ (T b).2.1) (hown : s.vm.findClass own = some m.cls) (hK : gK g s) (hP : nP g n ad ce H) (hD : va_D A (nL n ad ce)) (hS0 : va_S A H0 H locs) (i : Nat) (hi : i < n) {a : Nat} (ha : ad i = a) {fs : List Value} (he : ce i = .inr (ci, fs)) (hc : vwCl[ci]? = some (C, T, N)) (k : Nat) (hk : k < N) (hlink : (Cond.fieldLink own index ref (T k).2.1 (T k).2.2.1).before args s = true) (hsame : ∀ x, s.fieldFound? (T k).1 (T k).2.1 (T k).2.2.1 = some x → s.fieldFound? ref (T k).2.1 (T k).2.2.1 = some x) (hfin : (T k).2.2.2 = false) {ty : FieldType} {v : Value} (hd0 : parseFieldDescriptor (T k).2.2.1 = some ty) (hn : narrow ty v = v) (hfit : fits ty v = true) (hl : k < fs.length)
    (hdg : decode cc pc = .ok (.putfield index, 3)) (kk : ∀ (H1 : Heap) (locs1 : List Loc), nP g n ad (va_up ce i (.inr (ci, fs.set k v))) H1 → va_D A (nL n ad (va_up ce i (.inr (ci, fs.set k v)))) → va_S A H0 H1 locs1 → W p l e R s m args below meth c H1 locs1 cells slots Q (F0 m (pc + 3) ls rest)) : W p l e R s m args below meth c H locs cells slots Q (F0 m pc ls (v :: .ref a :: rest)) := by
  subst ha
  exact va_put hexec hb hts hin ty0 hty hnm hown hK hP hD hS0 i ((nL_at hi).trans (by rw [he])) hc k hk hlink hsame hfin hd0 hn hfit hl hdg (fun H1 locs1 hP hD hS => kk H1 locs1 (by rw [nL_set hi] at hP; exact hP) (by rw [nL_set hi] at hD; exact hD) hS)
theorem n_putF (hexec : p.tables.exec = Jvm.exec) (hb : c.code = cc) {own ref C : String} {T : u_T} {N ci index : Nat} {Ts : List Cond} (hts : ∀ w ∈ Ts, w.before args s = true) (hin : ∀ w ∈ u_ws C T N, w ∈ Ts) (ty0 : Nat → FieldType) (hty : ∀ k, k < N → parseFieldDescriptor (T k).2.2.1 = some (ty0 k)) (hnm : ∀ a, a < N → ∀ b, b < N → a ≠ b → (T a).2.1 ≠ (T b).2.1) (hown : s.vm.findClass own = some m.cls) (hK : gK g s) (hP : nP g n ad ce H) (hD : va_D A (nL n ad ce)) (hS0 : va_S A H0 H locs) (i : Nat) (hi : i < n) {a : Nat} (ha : ad i = a) {fs : List Value} (he : ce i = .inr (ci, fs)) (hc : vwCl[ci]? = some (C, T, N)) (k : Nat) (hk : k < N) (hlink : (Cond.fieldLink own index ref (T k).2.1 (T k).2.2.1).before args s = true) (hsame : ∀ x, s.fieldFound? (T k).1 (T k).2.1 (T k).2.2.1 = some x → s.fieldFound? ref (T k).2.1 (T k).2.2.1 = some x) (hfin : (T k).2.2.2 = true) (hin2 : meth.name = "<init>") (hdecl : (T k).1 = own) {ty : FieldType} {v : Value} (hd0 : parseFieldDescriptor (T k).2.2.1 = some ty) (hn : narrow ty v = v) (hfit : fits ty v = true) (hl : k < fs.length)
    (hdg : decode cc pc = .ok (.putfield index, 3)) (kk : ∀ (H1 : Heap) (locs1 : List Loc), nP g n ad (va_up ce i (.inr (ci, fs.set k v))) H1 → va_D A (nL n ad (va_up ce i (.inr (ci, fs.set k v)))) → va_S A H0 H1 locs1 → W p l e R s m args below meth c H1 locs1 cells slots Q (F0 m (pc + 3) ls rest)) : W p l e R s m args below meth c H locs cells slots Q (F0 m pc ls (v :: .ref a :: rest)) := by
  subst ha
  exact va_putF hexec hb hts hin ty0 hty hnm hown hK hP hD hS0 i ((nL_at hi).trans (by rw [he])) hc k hk hlink hsame hfin hin2 hdecl hd0 hn hfit hl hdg (fun H1 locs1 hP hD hS => kk H1 locs1 (by rw [nL_set hi] at hP; exact hP) (by rw [nL_set hi] at hD; exact hD) hS)
theorem n_iast (hexec : p.tables.exec = Jvm.exec) (hb : c.code = cc) (hK : gK g s) (hP : nP g n ad ce H) (hD : va_D A (nL n ad ce)) (hS : va_S A H0 H locs) (j : Nat) (hj : j < n) {a : Nat} (ha : ad j = a) {N : Nat} {f : Nat → Int32} (he : ce j = .inl (g.2 0, N, .inl f)) (hN : N < 2147483648) {z : Int} {x : Int32} (i : Nat) (hz : z = i) (hi : i < N) (hdg : decode cc pc = .ok (.iastore, 1))
    (kk : ∀ (H1 : Heap) (locs1 : List Loc), nP g n ad (va_up ce j (.inl (g.2 0, N, .inl (upd f i x)))) H1 → va_D A (nL n ad (va_up ce j (.inl (g.2 0, N, .inl (upd f i x))))) → va_S A H0 H1 locs1 → W p l e R s m args below meth c H1 locs1 cells slots Q (F0 m (pc + 1) ls rest)) : W p l e R s m args below meth c H locs cells slots Q (F0 m pc ls (.int x :: .int (zI z) :: .ref a :: rest)) := by
  subst ha
  exact z_iast hexec hb hK hP hD hS j 0 ((nL_at hj).trans (by rw [he])) rfl hN i hz hi hdg (fun H1 locs1 hP hD hS => kk H1 locs1 (by rw [nL_set hj] at hP; exact hP) (by rw [nL_set hj] at hD; exact hD) hS)
theorem n_zast (hexec : p.tables.exec = Jvm.exec) (hb : c.code = cc) (hK : gK g s) (hP : nP g n ad ce H) (hD : va_D A (nL n ad ce)) (hS : va_S A H0 H locs) (j : Nat) (hj : j < n) {a : Nat} (ha : ad j = a) {N : Nat} {f : Nat → Int32} (he : ce j = .inl (g.2 2, N, .inl f)) (hN : N < 2147483648) {z : Int} {x : Int32} (i : Nat) (hz : z = i) (hi : i < N) (hdg : decode cc pc = .ok (.bastore, 1))
    (kk : ∀ (H1 : Heap) (locs1 : List Loc), nP g n ad (va_up ce j (.inl (g.2 2, N, .inl (upd f i (vp_nar .boolean x))))) H1 → va_D A (nL n ad (va_up ce j (.inl (g.2 2, N, .inl (upd f i (vp_nar .boolean x)))))) → va_S A H0 H1 locs1 → W p l e R s m args below meth c H1 locs1 cells slots Q (F0 m (pc + 1) ls rest)) : W p l e R s m args below meth c H locs cells slots Q (F0 m pc ls (.int x :: .int (zI z) :: .ref a :: rest)) := by
  subst ha
  subst hz
  refine va_zast hexec hb hK hP hD hS j 2 ((nL_at hj).trans (by rw [he])) rfl (zI_in hi hN) hdg (fun H1 locs1 hP hD hS => kk H1 locs1 ?_ ?_ hS)
  · rw [nL_set hj, zI_clamp (by omega)] at hP; exact hP
  · rw [nL_set hj, zI_clamp (by omega)] at hD; exact hD
theorem n_aast (hexec : p.tables.exec = Jvm.exec) (hb : c.code = cc) (hK : gK g s) (hP : nP g n ad ce H) (hD : va_D A (nL n ad ce)) (hS : va_S A H0 H locs) (j : Nat) (hj : j < n) {a : Nat} (ha : ad j = a) (t0 : Nat) {N : Nat} {f : Nat → Option Nat} (he : ce j = .inl (g.2 t0, N, .inr (.inr (.inr (.inr f))))) (ci : Nat) {r : vw_C} (ht : (gT g.2)[t0]? = some (g.2 t0, .object r.1)) (hc : vwCl[ci]? = some r) (hN : N < 2147483648) (v9 : Nat) (hv9 : v9 < n) {v : Nat} (hv : ad v9 = v) {vs : List Value} (hve : ce v9 = .inr (ci, vs)) {z : Int} (i : Nat) (hz : z = i) (hi : i < N) (hdg : decode cc pc = .ok (.aastore, 1))
    (kk : ∀ (H1 : Heap) (locs1 : List Loc), nP g n ad (va_up ce j (.inl (g.2 t0, N, .inr (.inr (.inr (.inr (va_up f i (some v)))))))) H1 → va_D A (nL n ad (va_up ce j (.inl (g.2 t0, N, .inr (.inr (.inr (.inr (va_up f i (some v))))))))) → va_S A H0 H1 locs1 → W p l e R s m args below meth c H1 locs1 cells slots Q (F0 m (pc + 1) ls rest)) : W p l e R s m args below meth c H locs cells slots Q (F0 m pc ls (.ref v :: .int (zI z) :: .ref a :: rest)) := by
  subst ha
  subst hv
  subst hz
  refine va_astq hexec hb hK hP hD hS j t0 v9 ci ((nL_at hj).trans (by rw [he])) ht ((nL_at hv9).trans (by rw [hve])) hc (zI_in hi hN) hdg (fun H1 locs1 hP hD hS => kk H1 locs1 ?_ ?_ hS)
  · rw [nL_set hj, zI_clamp (by omega)] at hP; exact hP
  · rw [nL_set hj, zI_clamp (by omega)] at hD; exact hD
theorem n_new (hexec : p.tables.exec = Jvm.exec) (hb : c.code = cc) {own C : String} {T : u_T} {N ci index : Nat} {Ts : List Cond} (hts : ∀ w ∈ Ts, w.before args s = true) (hin : ∀ w ∈ u_ws C T N, w ∈ Ts) (ty : Nat → FieldType) (hty : ∀ k, k < N → parseFieldDescriptor (T k).2.2.1 = some (ty k)) (hown : s.vm.findClass own = some m.cls) (hcl : (Cond.classLink own index C).before args s = true) (hinst : (Cond.instantiable C N).before args s = true) (hini : (Cond.initialized C).before args s = true)
    (hK : gK g s) (hP : nP g n ad ce H) (hD : va_D A (nL n ad ce)) (hS : va_S A H0 H locs) (hA : ∀ q, H0.size ≤ q → A q) (hc : vwCl[ci]? = some (C, T, N)) {fs : List Value} (hfs : ∀ j, j < N → defaultValue (ty j) = vp_V fs j) (hcells : cells + 1 ≤ R.cells) (hslots : slots + N ≤ R.slots) (hdg : decode cc pc = .ok (.new index, 3))
    (kk : ∀ (q : Nat) (H1 : Heap), nP g (n + 1) (va_up ad n q) (va_up ce n (.inr (ci, fs))) H1 → va_D A (nL (n + 1) (va_up ad n q) (va_up ce n (.inr (ci, fs)))) → va_S A H0 H1 locs →
      W p l e R s m args below meth c H1 locs (cells + 1) (slots + N) Q (F0 m (pc + 3) ls (.ref q :: rest))) : W p l e R s m args below meth c H locs cells slots Q (F0 m pc ls rest) :=
  va_new hexec hb hts hin ty hty hown hcl hinst hini hK hP hD hS hA hc hfs hcells hslots hdg (fun q H1 hP hD hS => kk q H1 (by rw [nL_push] at hP; exact hP) (by rw [nL_push] at hD; exact hD) hS)
theorem n_newa (hexec : p.tables.exec = Jvm.exec) (hb : c.code = cc) {atype : ArrayType} (harr : (Cond.arrayClass (newarray.typeOf atype)).before args s = true) {ty : FieldType} (hty : newarray.typeOf atype = ty) (hK : gK g s) (hP : nP g n ad ce H) (hD : va_D A (nL n ad ce)) (hS : va_S A H0 H locs) (hA : ∀ q, H0.size ≤ q → A q) (t0 : Nat) (ht : (gT g.2)[t0]? = some (g.2 t0, ty))
    {z : Int} {N' : Nat} {a0 : vp_A} (ha : ∀ cA : ClassId, vp_cell cA a0 = arrV cA N' (fun _ => defaultValue ty)) (hz : z = (N' : Int)) (hN2 : N' < 2147483648) (hbytes : N' * componentBytes ty ≤ 536870912) (hcells : cells + 1 ≤ R.cells) (hslots : slots + N' ≤ R.slots) (hdg : decode cc pc = .ok (.newarray atype, 2))
    (kk : ∀ (q : Nat) (H1 : Heap), nP g (n + 1) (va_up ad n q) (va_up ce n (.inl (g.2 t0, a0))) H1 → va_D A (nL (n + 1) (va_up ad n q) (va_up ce n (.inl (g.2 t0, a0)))) → va_S A H0 H1 locs →
      W p l e R s m args below meth c H1 locs (cells + 1) (slots + N') Q (F0 m (pc + 2) ls (.ref q :: rest))) : W p l e R s m args below meth c H locs cells slots Q (F0 m pc ls (.int (zI z) :: rest)) := by
  subst hz
  refine va_newa hexec hb harr hty hK hP hD hS hA ha ?_ (zI_clamp hN2) hbytes hcells hslots hdg (fun q cA H1 hK2 hP hD hS => ?_)
  · rw [show (0 : Int32) = zI 0 from by decide, zI_lt (by omega) (by omega)]; omega
  · obtain rfl := gK_c hK ht hK2
    exact kk q H1 (by rw [nL_push] at hP; exact hP) (by rw [nL_push] at hD; exact hD) hS
theorem n_newq (hexec : p.tables.exec = Jvm.exec) (hb : c.code = cc) {own C : String} {index : Nat} (hown : s.vm.findClass own = some m.cls) (hclink : (Cond.classLink own index C).before args s = true) (hover : va_AO C s) (hK : gK g s) (hP : nP g n ad ce H) (hD : va_D A (nL n ad ce)) (hS : va_S A H0 H locs) (hA : ∀ q, H0.size ≤ q → A q) (t0 : Nat) (ht : (gT g.2)[t0]? = some (g.2 t0, .object C))
    {z : Int} {N' : Nat} (hz : z = (N' : Int)) (hN2 : N' < 2147483648) (hbytes : N' * 4 ≤ 536870912) (hcells : cells + 1 ≤ R.cells) (hslots : slots + N' ≤ R.slots) (hdg : decode cc pc = .ok (.anewarray index, 3))
    (kk : ∀ (q : Nat) (H1 : Heap), nP g (n + 1) (va_up ad n q) (va_up ce n (.inl (g.2 t0, N', .inr (.inr (.inr (.inr (fun _ => none))))))) H1 → va_D A (nL (n + 1) (va_up ad n q) (va_up ce n (.inl (g.2 t0, N', .inr (.inr (.inr (.inr (fun _ => none)))))))) → va_S A H0 H1 locs →
      W p l e R s m args below meth c H1 locs (cells + 1) (slots + N') Q (F0 m (pc + 3) ls (.ref q :: rest))) : W p l e R s m args below meth c H locs cells slots Q (F0 m pc ls (.int (zI z) :: rest)) := by
  subst hz
  refine va_newq hexec hb hown hclink hover hK hP hD hS hA ?_ (zI_clamp hN2) hbytes hcells hslots hdg (fun q cA H1 hK2 hP hD hS => ?_)
  · rw [show (0 : Int32) = zI 0 from by decide, zI_lt (by omega) (by omega)]; omega
  · obtain rfl := gK_c hK ht hK2
    exact kk q H1 (by rw [nL_push] at hP; exact hP) (by rw [nL_push] at hD; exact hD) hS
def mA_ (n : Nat) (ad : Nat → Nat) (q : Nat) (r : Nat → Nat) : Nat → Nat := fun j => if j < n then ad j else if j = n then q else r (j - (n + 1))
theorem nL_mna {N' : Nat} {q : Nat} {r : Nat → Nat} {e1 e2 : va_E} {f : Nat → va_E} : (nL n ad ce ++ [(q, e1)]) ++ va_pl ([] ++ (List.range N').map r) (vr_up f ((List.range N').map r) e2) = nL (n + 1 + N') (mA_ n ad q r) (fun j => if j < n then ce j else if j = n then e1 else e2) := by
  apply List.ext_getElem?
  intro k
  by_cases h : k < n
  · rw [List.append_assoc, List.getElem?_append_left (by rw [nL_len]; exact h), nL_at h, nL_at (by omega)]
    unfold mA_
    rw [if_pos h, if_pos h]
  · by_cases h2 : k = n
    · subst h2
      rw [List.append_assoc, List.getElem?_append_right (by rw [nL_len]; omega), nL_len, nL_at (by omega), Nat.sub_self]
      unfold mA_
      rw [if_neg (by omega), if_pos rfl, if_neg (by omega), if_pos rfl]
      rfl
    · rw [List.getElem?_append_right (by simp [nL_len]; omega)]
      have e : (nL n ad ce ++ [(q, e1)]).length = n + 1 := by simp [nL_len]
      rw [e]
      by_cases h3 : k < n + 1 + N'
      · rw [nL_at h3]
        unfold va_pl mA_
        rw [List.nil_append, List.getElem?_map, List.getElem?_map, List.getElem?_range (by omega), if_neg h, if_neg h2, if_neg h, if_neg h2]
        show some (r (k - (n + 1)), vr_up f ((List.range N').map r) e2 (r (k - (n + 1)))) = _
        rw [vr_up_in (List.mem_map.mpr ⟨k - (n + 1), List.mem_range.mpr (by omega), rfl⟩)]
      · rw [List.getElem?_eq_none (by simp [va_pl]; omega), List.getElem?_eq_none (by rw [nL_len]; omega)]
theorem n_mna (hexec : p.tables.exec = Jvm.exec) (hb : c.code = cc) {own : String} {index : Nat} (hown : s.vm.findClass own = some m.cls) (hclink : (Cond.classLink own index "[[I").before args s = true) (hover : va_AOA .int s) (harr : (Cond.arrayClass .int).before args s = true)
    (hK : gK g s) (hP : nP g n ad ce H) (hD : va_D A (nL n ad ce)) (hS : va_S A H0 H locs) (hA : ∀ q, H0.size ≤ q → A q) {z1 z2 : Int} {N' K' : Nat} (hz1 : z1 = (N' : Int)) (hz2 : z2 = (K' : Int)) (hN : N' < 1000) (hM : K' < 1000)
    (hcells : cells + (1 + N') ≤ R.cells) (hslots : slots + (N' + N' * K') ≤ R.slots) (hdg : decode cc pc = .ok (.multianewarray index 2, 4))
    (kk : ∀ (a1 : Nat → Nat) (c1 : Nat → va_E) (H1 : Heap), (∀ i, i < n → a1 i = ad i) → (∀ i, i < n → c1 i = ce i) → c1 n = .inl (g.2 6, N', rfs (fun i => a1 (n + 1 + i))) → (∀ i, i < N' → c1 (n + 1 + i) = .inl (g.2 0, K', .inl (fun _ => zI 0))) →
      nP g (n + 1 + N') a1 c1 H1 → va_D A (nL (n + 1 + N') a1 c1) → va_S A H0 H1 locs →
      W p l e R s m args below meth c H1 locs (cells + 1 + N') (slots + N' + N' * K') Q (F0 m (pc + 4) ls (.ref (a1 n) :: rest))) : W p l e R s m args below meth c H locs cells slots Q (F0 m pc ls (.int (zI z2) :: .int (zI z1) :: rest)) := by
  subst hz1
  subst hz2
  have hcy : s.vm.findClass (FieldType.array .int).toString = some (g.2 0) := (hK.2 0 _ rfl).2
  refine va_mna (X := nL n ad ce) (L := []) (f := fun _ => .inl (g.2 0, 0, .inl (fun _ => zI 0))) (ty := .int) (z := (K', .inl (fun _ => zI 0))) hexec hb hown hclink hover harr hcy hK (by unfold va_pl; rw [List.map_nil, List.append_nil]; exact hP) (by unfold va_pl; rw [List.map_nil, List.append_nil]; exact hD) hS hA ?_ ?_ (zI_clamp (by omega)) (zI_clamp (by omega)) (by omega) (by show K' * 4 ≤ 536870912; omega) (by omega) rfl rfl hcells hslots (fun c => ?_) hdg (fun q r cA H1 _ _ hK2 hP hD hS => ?_)
  · rw [show (0 : Int32) = zI 0 from by decide, zI_lt (by omega) (by omega)]; omega
  · rw [show (0 : Int32) = zI 0 from by decide, zI_lt (by omega) (by omega)]; omega
  · show Jvm.Free.Multi.innerC c K' (.int 0) = arrV c K' (fun _ => .int (zI 0))
    rw [show zI 0 = (0 : Int32) from by decide, ← arrV_new]
    rfl
  · obtain rfl := gK_c hK (t0 := 6) rfl hK2
    rw [nL_mna] at hP hD
    have hP2 := nP_rf (i := n) (f := fun i => some (mA_ n ad q r (n + 1 + i))) hP (by omega) (by rw [if_neg (by omega), if_pos rfl]) (fun j hj => by
      unfold mA_
      rw [if_pos hj, if_neg (by omega), if_neg (by omega), show n + 1 + j - (n + 1) = j by omega])
    have hq : mA_ n ad q r n = q := by unfold mA_; rw [if_neg (by omega), if_pos rfl]
    rw [show (Value.ref q) = Value.ref (mA_ n ad q r n) by rw [hq]]
    refine kk (mA_ n ad q r) _ H1 (fun i hi => by unfold mA_; rw [if_pos hi]) (fun i hi => ?_) (up_at _ _ _) (fun i hi => ?_) hP2 (nDa (nD_of hD) (fun i hi => nA_of hD hi)) hS
    · rw [up_ne _ _ (by omega), if_pos hi]
    · rw [up_ne _ _ (by omega), if_neg (by omega), if_neg (by omega)]
end NROWS
abbrev nPc (g : GG) (n : Nat) (ad : Nat → Nat) (ce : Nat → va_E) (sz : Nat) (av : List Value) : Array Value → State → Prop := va_Pc av (fun U => U.heap.size = sz ∧ nP g n ad ce U.heap ∧ nD n ad ∧ gK g U ∧ kN U)
theorem n_blind {g : GG} {n : Nat} {ad : Nat → Nat} {ce : Nat → va_E} {sz : Nat} {av : List Value} : FrameBlind (nPc g n ad ce sz av) := fun a U fr mk q => ⟨q.1, q.2.1, q.2.2.1, q.2.2.2.1, va_K.moved (u := U) (U := U.calling fr mk a) (Vm.Alike.refl U.vm) q.2.2.2.2.1, kN.same (u := U) (U := U.calling fr mk a) rfl q.2.2.2.2.2⟩
theorem n_preS {s : State} {H : Heap} {As : List Value} {g : GG} {n : Nat} {ad : Nat → Nat} {ce : Nat → va_E} {A : Nat → Prop} (hP : nP g n ad ce H) (hD : va_D A (nL n ad ce)) (hK : gK g s) (hN : kN s) : PreS s H (nPc g n ad ce H.size As) As :=
  ⟨n_blind, fun U hU hW => ⟨rfl, by rw [hU], by rw [hU]; exact hP, nD_of hD, va_K.moved hW.alike hK, kN.warm hW hN⟩⟩
theorem n_preV {s : State} {H : Heap} {C : String} {b : Addr} {As : List Value} {g : GG} {n : Nat} {ad : Nat → Nat} {ce : Nat → va_E} {A : Nat → Prop} (hP : nP g n ad ce H) (hD : va_D A (nL n ad ce)) (hK : gK g s) (hN : kN s) (hrecv : ∃ cellB : Cell, H[b]? = some cellB ∧ cellB.vm.isStatics = false ∧ s.vm.findClass C = some cellB.cls) : PreV s H C b (nPc g n ad ce H.size (.ref b :: As)) As :=
  ⟨n_blind, hrecv, fun U hU hW => ⟨rfl, by rw [hU], by rw [hU]; exact hP, nD_of hD, va_K.moved hW.alike hK, kN.warm hW hN⟩⟩
theorem n_free {A : Nat → Prop} {n : Nat} {ad : Nat → Nat} {ce : Nat → va_E} {H0 H : Heap} {locs : List Loc} (hD : va_D A (nL n ad ce)) (hS : va_S A H0 H locs) (hA : ∀ q, H0.size ≤ q → A q) : ∀ q, nA n ad H.size q → A q := by
  intro q h
  rcases h with ⟨i, hi, rfl⟩ | h
  · exact nA_of hD hi
  · exact hA q (Nat.le_trans hS.1 h)
def nQ (n m : Nat) (ad : Nat → Nat) (sz : Nat) (a1 : Nat → Nat) : Prop := (∀ i, i < n → a1 i = ad i) ∧ (∀ i, n ≤ i → i < n + m → sz ≤ a1 i) ∧ nD (n + m) a1
theorem n_joinD {A : Nat → Prop} {n m : Nat} {ad a1 : Nat → Nat} {ce c1 : Nat → va_E} {H0 H : Heap} {locs : List Loc} (hD : va_D A (nL n ad ce)) (hS : va_S A H0 H locs) (hA : ∀ q, H0.size ≤ q → A q) (hq : nQ n m ad H.size a1) : va_D A (nL (n + m) a1 c1) :=
  nDa hq.2.2 (fun i hi => by
    by_cases h : i < n
    · rw [hq.1 i h]; exact nA_of hD h
    · exact hA _ (Nat.le_trans hS.1 (hq.2.1 i (by omega) hi)))
theorem nQ_of {A : Nat → Prop} {n m sz : Nat} {ad a1 : Nat → Nat} {c1 : Nat → va_E} (hA : A = nA n ad sz) (hD : va_D A (nL (n + m) a1 c1)) (ha : ∀ i, i < n → a1 i = ad i) : nQ n m ad sz a1 := by
  subst hA
  refine ⟨ha, fun i h1 h2 => ?_, nD_of hD⟩
  rcases nA_of hD h2 with ⟨j, hj, e⟩ | h
  · have := nD_of hD i j h2 (by omega) (by rw [e, ha j hj])
    omega
  · exact h
