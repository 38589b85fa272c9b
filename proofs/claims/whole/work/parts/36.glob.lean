def hbL (ad : Nat → Nat) (ce : Nat → va_E) : va_W := (List.range 126).map (fun i => (ad i, ce i))
theorem hbL_at {ad : Nat → Nat} {ce : Nat → va_E} {i : Nat} (hi : i < 126) : (hbL ad ce)[i]? = some (ad i, ce i) := by
  unfold hbL
  rw [List.getElem?_map, List.getElem?_range hi]
  rfl
theorem hbL_of {ad : Nat → Nat} {ce : Nat → va_E} {i : Nat} {q : Nat × va_E} (h : (hbL ad ce)[i]? = some q) : i < 126 ∧ q = (ad i, ce i) := by
  have hl : i < 126 := by
    have := (List.getElem?_eq_some_iff.mp h).1
    unfold hbL at this
    rw [List.length_map, List.length_range] at this
    exact this
  rw [hbL_at hl] at h
  exact ⟨hl, (Option.some.inj h).symm⟩
abbrev hbP (g : GG) (ad : Nat → Nat) (ce : Nat → va_E) (H : Heap) : Prop := gP g (hbL ad ce) H
def hbA (ad : Nat → Nat) : Nat → Prop := fun q => ∃ i, i < 126 ∧ q = ad i
def hD (ad : Nat → Nat) : Prop := ∀ i j, i < 126 → j < 126 → ad i = ad j → i = j
theorem hbD {ad : Nat → Nat} (h : hD ad) {ce : Nat → va_E} : va_D (hbA ad) (hbL ad ce) := by
  refine ⟨fun i j p q hi hj e => ?_, fun k q hk => ?_⟩
  · obtain ⟨h1, rfl⟩ := hbL_of hi
    obtain ⟨h2, rfl⟩ := hbL_of hj
    exact h i j h1 h2 e
  · obtain ⟨h1, rfl⟩ := hbL_of hk
    exact ⟨k, h1, rfl⟩
theorem up_at {α : Type} (f : Nat → α) (k : Nat) (v : α) : va_up f k v k = v := by unfold va_up; rw [if_pos rfl]
theorem up_ne {α : Type} (f : Nat → α) {k j : Nat} (v : α) (h : j ≠ k) : va_up f k v j = f j := by unfold va_up; rw [if_neg h]
theorem hbL_set {ad : Nat → Nat} {ce : Nat → va_E} {i : Nat} (hi : i < 126) (e : va_E) : (hbL ad ce).set i (ad i, e) = hbL ad (va_up ce i e) := by
  apply List.ext_getElem?
  intro k
  by_cases hk : k = i
  · subst hk
    rw [List.getElem?_set_self (by unfold hbL; rw [List.length_map, List.length_range]; exact hi), hbL_at hi, up_at]
  · rw [List.getElem?_set_ne (Ne.symm hk)]
    by_cases h2 : k < 126
    · rw [hbL_at h2, hbL_at h2, up_ne _ _ hk]
    · rw [List.getElem?_eq_none (by unfold hbL; rw [List.length_map, List.length_range]; omega), List.getElem?_eq_none (by unfold hbL; rw [List.length_map, List.length_range]; omega)]
theorem hb1 {g : GG} {ad : Nat → Nat} {ce : Nat → va_E} {H : Heap} (hW : hbP g ad ce H) {i : Nat} (hi : i < 126) {e : va_E} (hc : ce i = e) : gP g [(ad i, e)] H := by
  intro k q hk
  match k, hk with
  | 0, hk => cases hk; exact hW i _ ((hbL_at hi).trans (by rw [hc]))
  | k + 1, hk => simp at hk
def exc (ce c1 : Nat → va_E) (l : List Nat) : Prop := ∀ j, j ∉ l → c1 j = ce j
theorem exc_up (ce : Nat → va_E) (i : Nat) (e : va_E) : exc ce (va_up ce i e) [i] := fun j hj => up_ne ce e (fun q => hj (by rw [q]; exact List.mem_singleton.mpr rfl))
theorem exc_refl (ce : Nat → va_E) (l : List Nat) : exc ce ce l := fun _ _ => rfl
theorem exc_trans {ce c1 c2 : Nat → va_E} {l1 l2 : List Nat} (h1 : exc ce c1 l1) (h2 : exc c1 c2 l2) : exc ce c2 (l1 ++ l2) := fun j hj => (h2 j (fun q => hj (List.mem_append.mpr (Or.inr q)))).trans (h1 j (fun q => hj (List.mem_append.mpr (Or.inl q))))
theorem exc_sub {ce c1 : Nat → va_E} {l1 l2 : List Nat} (h1 : exc ce c1 l1) (h : ∀ j, j ∈ l1 → j ∈ l2) : exc ce c1 l2 := fun j hj => h1 j (fun q => hj (h j q))
section YROWS
variable {p : Program} {l : Launch} {e : Env} {R : Room} {s : State} {m : MethodId} {args : Array Value} {below : List Frame} {meth : Method} {c : Code} {H : Heap} {locs : List Loc} {cells slots : Nat} {Q : State → Prop}
variable {cc : ByteArray} {pc : Nat} {ls : Array Slot} {rest : List Value} {H0 : Heap} {g : GG} {ad : Nat → Nat} {ce : Nat → va_E}
theorem y_put (hexec : p.tables.exec = Jvm.exec) (hb : c.code = cc) {own ref C : String} {T : u_T} {N ci index : Nat} {Ts : List Cond} (hts : ∀ w ∈ Ts, w.before args s = true) (hin : ∀ w ∈ u_ws C T N, w ∈ Ts) (ty0 : Nat → FieldType) (hty : ∀ k, k < N → parseFieldDescriptor (T k).2.2.1 = some (ty0 k)) (hnm : ∀ a, a < N → ∀ b, b < N → a ≠ b → (T a).2.1 ≠ (T b).2.1) (hown : s.vm.findClass own = some m.cls) (hK : gK g s) (hW : hbP g ad ce H) (hd : hD ad) (hS0 : va_S (hbA ad) H0 H locs) (i : Nat) (hi : i < 126) {fs : List Value} (he : ce i = .inr (ci, fs)) (hc : vwCl[ci]? = some (C, T, N)) (k : Nat) (hk : k < N) (hlink : (Cond.fieldLink own index ref (T k).2.1 (T k).2.2.1).before args s = true) (hsame : ∀ x, s.fieldFound? (T k).1 (T k).2.1 (T k).2.2.1 = some x → s.fieldFound? ref (T k).2.1 (T k).2.2.1 = some x) (hfin : (T k).2.2.2 = false) {ty : FieldType} {v : Value} (hd0 : parseFieldDescriptor (T k).2.2.1 = some ty) (hn : narrow ty v = v) (hfit : fits ty v = true) (hl : k < fs.length)
    (hdg : decode cc pc = .ok (.putfield index, 3)) (kk : ∀ (H1 : Heap) (locs1 : List Loc), hbP g ad (va_up ce i (.inr (ci, fs.set k v))) H1 → va_S (hbA ad) H0 H1 locs1 → W p l e R s m args below meth c H1 locs1 cells slots Q (F0 m (pc + 3) ls rest)) : W p l e R s m args below meth c H locs cells slots Q (F0 m pc ls (v :: .ref (ad i) :: rest)) :=
  va_put hexec hb hts hin ty0 hty hnm hown hK hW (hbD hd) hS0 i ((hbL_at hi).trans (by rw [he])) hc k hk hlink hsame hfin hd0 hn hfit hl hdg (fun H1 locs1 hP _ hS => kk H1 locs1 (by rw [hbL_set hi] at hP; exact hP) hS)
theorem y_iast (hexec : p.tables.exec = Jvm.exec) (hb : c.code = cc) (hK : gK g s) (hW : hbP g ad ce H) (hd : hD ad) (hS : va_S (hbA ad) H0 H locs) (j : Nat) (hj : j < 126) {n : Nat} {f : Nat → Int32} (he : ce j = .inl (g.2 0, n, .inl f)) (hn : n < 2147483648) {z : Int} {x : Int32} (i : Nat) (hz : z = i) (hi : i < n) (hdg : decode cc pc = .ok (.iastore, 1))
    (kk : ∀ (H1 : Heap) (locs1 : List Loc), hbP g ad (va_up ce j (.inl (g.2 0, n, .inl (upd f i x)))) H1 → va_S (hbA ad) H0 H1 locs1 → W p l e R s m args below meth c H1 locs1 cells slots Q (F0 m (pc + 1) ls rest)) : W p l e R s m args below meth c H locs cells slots Q (F0 m pc ls (.int x :: .int (zI z) :: .ref (ad j) :: rest)) :=
  z_iast hexec hb hK hW (hbD hd) hS j 0 ((hbL_at hj).trans (by rw [he])) rfl hn i hz hi hdg (fun H1 locs1 hP _ hS => kk H1 locs1 (by rw [hbL_set hj] at hP; exact hP) hS)
theorem y_zast (hexec : p.tables.exec = Jvm.exec) (hb : c.code = cc) (hK : gK g s) (hW : hbP g ad ce H) (hd : hD ad) (hS : va_S (hbA ad) H0 H locs) (j : Nat) (hj : j < 126) {n : Nat} {f : Nat → Int32} (he : ce j = .inl (g.2 2, n, .inl f)) (hn : n < 2147483648) {z : Int} {x : Int32} (i : Nat) (hz : z = i) (hi : i < n) (hdg : decode cc pc = .ok (.bastore, 1))
    (kk : ∀ (H1 : Heap) (locs1 : List Loc), hbP g ad (va_up ce j (.inl (g.2 2, n, .inl (upd f i (vp_nar .boolean x))))) H1 → va_S (hbA ad) H0 H1 locs1 → W p l e R s m args below meth c H1 locs1 cells slots Q (F0 m (pc + 1) ls rest)) : W p l e R s m args below meth c H locs cells slots Q (F0 m pc ls (.int x :: .int (zI z) :: .ref (ad j) :: rest)) := by
  subst hz
  refine va_zast hexec hb hK hW (hbD hd) hS j 2 ((hbL_at hj).trans (by rw [he])) rfl (zI_in hi hn) hdg (fun H1 locs1 hP _ hS => kk H1 locs1 ?_ hS)
  rw [hbL_set hj, zI_clamp (by omega)] at hP; exact hP
theorem y_bast (hexec : p.tables.exec = Jvm.exec) (hb : c.code = cc) (hK : gK g s) (hW : hbP g ad ce H) (hd : hD ad) (hS : va_S (hbA ad) H0 H locs) (j : Nat) (hj : j < 126) {n : Nat} {f : Nat → Int32} (he : ce j = .inl (g.2 1, n, .inl f)) (hn : n < 2147483648) {z : Int} {x : Int32} (i : Nat) (hz : z = i) (hi : i < n) (hdg : decode cc pc = .ok (.bastore, 1))
    (kk : ∀ (H1 : Heap) (locs1 : List Loc), hbP g ad (va_up ce j (.inl (g.2 1, n, .inl (upd f i (vp_nar .byte x))))) H1 → va_S (hbA ad) H0 H1 locs1 → W p l e R s m args below meth c H1 locs1 cells slots Q (F0 m (pc + 1) ls rest)) : W p l e R s m args below meth c H locs cells slots Q (F0 m pc ls (.int x :: .int (zI z) :: .ref (ad j) :: rest)) := by
  subst hz
  refine va_bast hexec hb hK hW (hbD hd) hS j 1 ((hbL_at hj).trans (by rw [he])) rfl (zI_in hi hn) hdg (fun H1 locs1 hP _ hS => kk H1 locs1 ?_ hS)
  rw [hbL_set hj, zI_clamp (by omega)] at hP; exact hP
end YROWS
