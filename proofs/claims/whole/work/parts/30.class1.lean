section MROWS
variable {p : Program} {l : Launch} {e : Env} {R : Room} {s : State} {m : MethodId} {args : Array Value} {below : List Frame} {meth : Method} {c : Code} {H : Heap} {locs : List Loc} {cells slots : Nat} {Q : State → Prop}
variable {cc : ByteArray} {pc : Nat} {ls : Array Slot} {rest : List Value}
theorem z_mmax (hexec : p.tables.exec = Jvm.exec) (hb : c.code = cc) (hml : c.maxLocals = ls.size) {own : String} {index : Nat} (hown : s.vm.findClass own = some m.cls) (hlink : (Cond.methodLink own index Lib.Math.max.name).before args s = true) (hstat : (Cond.static Lib.Math.max.name).before args s = true) (hini : (Cond.initialized "java/lang/Math").before args s = true) (hcode : (Cond.code Lib.Math.max.name Lib.Math.max.code 2 (some .int)).before args s = true)
    (hframes : 1 ≤ R.frames) (hlocals : (rest.map fun v => v.category).sum + 13 ≤ R.locals) (hc : cells ≤ R.cells) (hs : slots ≤ R.slots) {x y : Int} (hX : -2147483648 ≤ x ∧ x < 2147483648) (hY : -2147483648 ≤ y ∧ y < 2147483648) (hdg : decode cc pc = .ok (.invokestatic index, 3))
    (kk : W p l e R s m args below meth c H locs cells slots Q (F0 m (pc + 3) ls (.int (zI (max x y)) :: rest))) : W p l e R s m args below meth c H locs cells slots Q (F0 m pc ls (.int (zI y) :: .int (zI x) :: rest)) := by
  refine va_mmax hexec hb hml hown hlink hstat hini hcode hframes hlocals hc hs hdg ?_
  have e9 : (if zI x < zI y then zI y else zI x) = zI (max x y) := by
    by_cases h : x < y
    · rw [if_pos ((zI_lt hX hY).mpr h)]; exact congrArg zI (by omega)
    · rw [if_neg (fun q => h ((zI_lt hX hY).mp q))]; exact congrArg zI (by omega)
  rw [e9]; exact kk
theorem z_mmin (hexec : p.tables.exec = Jvm.exec) (hb : c.code = cc) (hml : c.maxLocals = ls.size) {own : String} {index : Nat} (hown : s.vm.findClass own = some m.cls) (hlink : (Cond.methodLink own index Lib.Math.min.name).before args s = true) (hstat : (Cond.static Lib.Math.min.name).before args s = true) (hini : (Cond.initialized "java/lang/Math").before args s = true) (hcode : (Cond.code Lib.Math.min.name Lib.Math.min.code 2 (some .int)).before args s = true)
    (hframes : 1 ≤ R.frames) (hlocals : (rest.map fun v => v.category).sum + 13 ≤ R.locals) (hc : cells ≤ R.cells) (hs : slots ≤ R.slots) {x y : Int} (hX : -2147483648 ≤ x ∧ x < 2147483648) (hY : -2147483648 ≤ y ∧ y < 2147483648) (hdg : decode cc pc = .ok (.invokestatic index, 3))
    (kk : W p l e R s m args below meth c H locs cells slots Q (F0 m (pc + 3) ls (.int (zI (min x y)) :: rest))) : W p l e R s m args below meth c H locs cells slots Q (F0 m pc ls (.int (zI y) :: .int (zI x) :: rest)) := by
  refine va_mmin hexec hb hml hown hlink hstat hini hcode hframes hlocals hc hs hdg ?_
  refine z_top (y := zI (min x y)) ?_ kk
  split
  · rename_i q
    first | rw [zI_lt hX hY] at q | rw [zI_lt hY hX] at q | rw [zI_le hX hY] at q | rw [zI_le hY hX] at q
    exact congrArg zI (by omega)
  · rename_i q
    first | rw [zI_lt hX hY] at q | rw [zI_lt hY hX] at q | rw [zI_le hX hY] at q | rw [zI_le hY hX] at q
    exact congrArg zI (by omega)
theorem z_mabs (hexec : p.tables.exec = Jvm.exec) (hb : c.code = cc) (hml : c.maxLocals = ls.size) {own : String} {index : Nat} (hown : s.vm.findClass own = some m.cls) (hlink : (Cond.methodLink own index Lib.Math.abs.name).before args s = true) (hstat : (Cond.static Lib.Math.abs.name).before args s = true) (hini : (Cond.initialized "java/lang/Math").before args s = true) (hcode : (Cond.code Lib.Math.abs.name Lib.Math.abs.code 1 (some .int)).before args s = true)
    (hframes : 1 ≤ R.frames) (hlocals : (rest.map fun v => v.category).sum + 13 ≤ R.locals) (hc : cells ≤ R.cells) (hs : slots ≤ R.slots) {x : Int} (hX : -2147483648 ≤ x ∧ x < 2147483648) (hdg : decode cc pc = .ok (.invokestatic index, 3))
    (kk : W p l e R s m args below meth c H locs cells slots Q (F0 m (pc + 3) ls (.int (zI (x.natAbs : Int)) :: rest))) : W p l e R s m args below meth c H locs cells slots Q (F0 m pc ls (.int (zI x) :: rest)) := by
  refine va_mabs hexec hb hml hown hlink hstat hini hcode hframes hlocals hc hs hdg ?_
  refine z_top (y := zI (x.natAbs : Int)) ?_ kk
  have hl : (0 : Int32) ≤ zI x ↔ 0 ≤ x := zI_le (a := 0) (by omega) hX
  split
  · rename_i q; rw [hl] at q; exact congrArg zI (by omega)
  · rename_i q; rw [hl] at q; show zI 0 - zI x = _
    rw [zI_sub]; exact congrArg zI (by omega)
end MROWS
abbrev rfs (f : Nat → Nat) : (Nat → Int32) ⊕ (Nat → Int64) ⊕ (Nat → UInt32) ⊕ (Nat → UInt64) ⊕ (Nat → Option Nat) := .inr (.inr (.inr (.inr (fun i => some (f i)))))
abbrev rW (g : GG) (ru : Nat) (ra : Nat → Nat) (rc : Nat → Nat → Int32) : va_W := [(ru, .inr (2, [.ref (ra 0), .ref (ra 2), .ref (ra 8), .ref (ra 12), .ref (ra 17)])),
  (ra 0, .inl (g.2 6, 1, rfs (fun i => ra (1 + i)))), (ra 1, .inl (g.2 0, 4, .inl (rc 1))),
  (ra 2, .inl (g.2 6, 5, rfs (fun i => ra (3 + i)))), (ra 3, .inl (g.2 0, 9, .inl (rc 3))), (ra 4, .inl (g.2 0, 9, .inl (rc 4))), (ra 5, .inl (g.2 0, 9, .inl (rc 5))), (ra 6, .inl (g.2 0, 9, .inl (rc 6))), (ra 7, .inl (g.2 0, 9, .inl (rc 7))),
  (ra 8, .inl (g.2 6, 3, rfs (fun i => ra (9 + i)))), (ra 9, .inl (g.2 0, 2, .inl (rc 9))), (ra 10, .inl (g.2 0, 2, .inl (rc 10))), (ra 11, .inl (g.2 0, 2, .inl (rc 11))),
  (ra 12, .inl (g.2 6, 4, rfs (fun i => ra (13 + i)))), (ra 13, .inl (g.2 0, 2, .inl (rc 13))), (ra 14, .inl (g.2 0, 2, .inl (rc 14))), (ra 15, .inl (g.2 0, 2, .inl (rc 15))), (ra 16, .inl (g.2 0, 2, .inl (rc 16))),
  (ra 17, .inl (g.2 0, 4, .inl (rc 17)))]
theorem rW_s {g : GG} {ru : Nat} {ra : Nat → Nat} {rc : Nat → Nat → Int32} {i : Nat} (hi : i < 5) : (rW g ru ra rc)[4 + i]? = some (ra (3 + i), .inl (g.2 0, 9, .inl (rc (3 + i)))) := by
  match i, hi with
  | 0, _ => rfl
  | 1, _ => rfl
  | 2, _ => rfl
  | 3, _ => rfl
  | 4, _ => rfl
theorem rW_n {g : GG} {ru : Nat} {ra : Nat → Nat} {rc : Nat → Nat → Int32} {i : Nat} (hi : i < 3) : (rW g ru ra rc)[10 + i]? = some (ra (9 + i), .inl (g.2 0, 2, .inl (rc (9 + i)))) := by
  match i, hi with
  | 0, _ => rfl
  | 1, _ => rfl
  | 2, _ => rfl
theorem rW_w {g : GG} {ru : Nat} {ra : Nat → Nat} {rc : Nat → Nat → Int32} {i : Nat} (hi : i < 4) : (rW g ru ra rc)[14 + i]? = some (ra (13 + i), .inl (g.2 0, 2, .inl (rc (13 + i)))) := by
  match i, hi with
  | 0, _ => rfl
  | 1, _ => rfl
  | 2, _ => rfl
  | 3, _ => rfl
def RuR (N : Nat → Int32) (rc : Nat → Nat → Int32) : Prop := (∀ j, j < 4 → rc 1 j = N j) ∧ rc 17 1 = N 4 ∧ rc 17 2 = N 50 ∧ rc 17 3 = N 57
  ∧ (∀ i, i < mn N 4 → ∀ j, j < 9 → rc (3 + i) j = N (5 + 9 * i + j)) ∧ (∀ i, i < mn N 50 → ∀ j, j < 2 → rc (9 + i) j = N (51 + 2 * i + j)) ∧ ∀ i, i < mn N 57 → ∀ j, j < 2 → rc (13 + i) j = N (58 + 13 * i + j)
def rdR (g : GG) (ru : Nat) (N : Nat → Int32) (H : Heap) : Prop := ∃ ra rc, gP g (rW g ru ra rc) H ∧ RuR N rc
abbrev acF (af : Nat → Int32) : List Value := [.int (af 0), .int (af 1), .int (af 2), .int (af 3), .int (af 4), .int (af 5), .int (af 6), .int (af 7), .int (af 8)]
abbrev shW (g : GG) (sh : Nat) (sa : Nat → Nat) (ch tl fl af : Nat → Int32) (rate lv : Int32) (ru : Nat) : va_W := [(sh, .inr (3, [.ref (sa 0), .ref (sa 1), .ref (sa 2), .ref (sa 3), .int rate, .int lv, .ref ru])), (sa 0, .inl (g.2 0, 364, .inl ch)), (sa 1, .inl (g.2 0, 364, .inl tl)), (sa 2, .inl (g.2 2, 364, .inl fl)), (sa 3, .inr (0, acF af))]
def tlOK (N : Nat → Int32) (w gd d : Nat) (τ : Int) : Prop := (knd N w d = 0 ∧ τ = wkd N w d) ∨ (knd N w d = 0 ∧ wkd N w d = 0 ∧ τ = -2 ∧ gd ≤ d) ∨ (knd N w d = 1 ∧ wkd N w d = 0 ∧ τ = -1) ∨ (knd N w d = 2 ∧ wkd N w d = 0 ∧ τ = -2 ∧ d < gd)
def ShR (N : Nat → Int32) (w : Nat) (ch tl fl af : Nat → Int32) (rate lv : Int32) (gd : Nat) : Prop := rate = N (58 + 13 * w) ∧ lv = N (59 + 13 * w) ∧ (∀ d, d < 364 → ch d = zI ((chg N w d : Int) - 1)) ∧ (∀ d, d < 364 → ∃ τ : Int, tl d = zI τ ∧ tlOK N w gd d τ) ∧ (∀ d, d < 364 → fl d = zI (flg N w d)) ∧ (∀ k, k < 7 → af k = N (58 + 13 * w + (2 + k))) ∧ af 7 = zI (sumN (ind N w 3) 0 364) ∧ af 8 = zI gd ∧ gd ≤ 365 ∧ (goneN N w = 0 → gd = 365) ∧ (goneN N w = 1 → gd ≤ mn N 110)
def rdS (g : GG) (sh w : Nat) (N : Nat → Int32) (H : Heap) : Prop := ∃ sa ch tl fl af rate lv ru gd, gP g (shW g sh sa ch tl fl af rate lv ru) H ∧ ShR N w ch tl fl af rate lv gd ∧ rdR g ru N H
theorem rdS_recv {g : GG} {sh w : Nat} {N : Nat → Int32} {s : State} {H : Heap} (hK : gK g s) (h : rdS g sh w N H) : ∃ cellB : Cell, H[sh]? = some cellB ∧ cellB.vm.isStatics = false ∧ s.vm.findClass RX3 = some cellB.cls := by
  obtain ⟨sa, ch, tl, fl, af, rate, lv, ru, gd, hP, -, -⟩ := h
  exact va_recv hK hP (q0 := 0) (ci := 3) rfl rfl
theorem rdR_recv {g : GG} {ru : Nat} {N : Nat → Int32} {s : State} {H : Heap} (hK : gK g s) (h : rdR g ru N H) : ∃ cellB : Cell, H[ru]? = some cellB ∧ cellB.vm.isStatics = false ∧ s.vm.findClass RX2 = some cellB.cls := by
  obtain ⟨ra, rc, hP, -⟩ := h
  exact va_recv hK hP (q0 := 0) (ci := 2) rfl rfl
theorem pct_s (N : Nat → Int32) (ah : Int) (k : Nat) : pct N ah (k + 1) = if ah < (mn N (51 + 2 * k) : Int) then max (pct N ah k) (mn N (52 + 2 * k)) else pct N ah k := by
  rw [pct]
  by_cases h : ah < (mn N (51 + 2 * k) : Int)
  · by_cases h2 : pct N ah k < mn N (52 + 2 * k)
    · rw [if_pos ⟨h, h2⟩, if_pos h]; omega
    · rw [if_neg (fun q => h2 q.2), if_pos h]; omega
  · rw [if_neg (fun q => h q.1), if_neg h]
theorem ldS_s {N : Nat → Int32} {w x : Nat} {fr : Int} (h : fr ≤ x) : ldS N w fr x = ldS N w fr ((x : Int) - 1) + load N w x := by
  unfold ldS
  rw [show ((x : Int) + 1).toNat - fr.toNat = (((x : Int) - 1 + 1).toNat - fr.toNat) + 1 by omega, sumN_s, show fr.toNat + (((x : Int) - 1 + 1).toNat - fr.toNat) = x by omega]
