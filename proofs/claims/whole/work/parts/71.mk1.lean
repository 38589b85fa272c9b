set_option maxHeartbeats 4000000 in
set_option maxRecDepth 100000 in
theorem c_X0_init_N (l : Launch) (g : GG) (n : Nat) (ad : Nat → Nat) (ce : Nat → va_E) (sz : Nat) (x : Nat) (hx0 : x < n) (h0 : Nat) (ha0 : ad x = h0) (e_x : ce (x) = .inr (0, [.int (zI (0)), .int (zI (0)), .int (zI (0)), .int (zI (0)), .int (zI (0)), .int (zI (0)), .int (zI (0)), .int (zI (0)), .int (zI (0))])) : Met l yX0_init wsX0_init ({ frames := 1, cells := 0, slots := 0, locals := 12 }) (nPc g n ad ce sz [.ref h0]) (va_Qv (fun (u : (Nat → Nat) × (Nat → va_E)) => nQ n 0 ad sz u.1 ∧ (∀ i, i < n → ¬ i = x → u.2 i = ce i) ∧ u.2 (x) = .inr (0, [.int (zI (0)), .int (zI (0)), .int (zI (0)), .int (zI (0)), .int (zI (0)), .int (zI (0)), .int (zI (0)), .int (zI (0)), .int (zI (365))])) (fun u (tS : State) => nP g (n + 0) u.1 u.2 tS.heap) (nA n ad sz)) 0 0 (nA n ad sz) := by
  refine Met.ofW (cc := cX0_init) (maxL := 1) (ret := none) (by decide) rfl ?_
  intro p e s m args below meth c s₁ B hml hv
  obtain ⟨rfl, hsz, hP, hD0, hK, hN⟩ := hv
  have hx := B.exec
  have hb := B.bytes
  have hr := B.returns
  have hts := atoms_spec (ws := wsX0_init) B.pre
  have hown : s.vm.findClass RX0 = some m.cls := findClass_of_methodNamed B.named
  have hlocks := B.notSynchronized
  have hin9 := (name_of_methodNamed B.named B.method).1
  have hinX0 : ∀ w ∈ wsX00, w ∈ wsX0_init := by decide +kernel
  have kOI := hts (.methodLink RX0 3 objectInit) (by decide +kernel)
  have kOJ := hts (.instanceMethod objectInit) (by decide +kernel)
  have kOK := hts (.code objectInit ⟨#[0xb1]⟩ 1 none) (by decide +kernel)
  have k11 := hts (.fieldLink RX0 11 "HoursBank$Account" "goneOn" "I") (by decide +kernel)
  subst hsz
  obtain ⟨A, hAe⟩ : ∃ A, A = nA n ad s.heap.size := ⟨_, rfl⟩
  rw [← hAe]
  have hA : ∀ q : Nat, s.heap.size ≤ q → A q := fun q h => by rw [hAe]; exact Or.inr h
  have hD : va_D A (nL n ad ce) := nDa hD0 (fun i hi => by rw [hAe]; exact Or.inl ⟨i, hi, rfl⟩)
  have hl := lv_entry ([.ref h0]) (n := 1) (Nat.le_of_ble_eq_true rfl)
  rw [lg_entry_eq]
  generalize (lg_sl ([.ref h0]) ++ List.replicate (1 - (lg_sl ([.ref h0])).length) Slot.unset).toArray = ls at hl ⊢
  have hl : lv_has ls 1 [(0, .ref h0)] := hl
  have hS : va_S A s.heap s.heap [] := va_S.rf
  obtain ⟨H, hH9⟩ : ∃ H, H = s.heap := ⟨_, rfl⟩
  obtain ⟨locs, hL9⟩ : ∃ x9l : List Loc, x9l = [] := ⟨_, rfl⟩
  have hP : nP g n ad ce H := hH9 ▸ hP
  have hS : va_S A s.heap H locs := by rw [hH9, hL9]; exact hS
  refine z_start hH9 hL9 ?_
  clear hH9 hL9
  have hexa : ∀ j : Nat, j < n → ad j = ad j := fun _ _ => rfl
  have hexc : ∀ j : Nat, j < n → ce j = ce j := fun _ _ => rfl
  have a_x : ad (x) = h0 := ha0
  refine lv_aload_n hx hb dX0_init_0 rfl (lv_at hl 0 rfl) ?_
  refine W.objInit hx hb hown kOI kOJ kOK rfl (by rw [hml]; exact hl.1) rfl dX0_init_1 (Nat.le_of_ble_eq_true rfl) (Nat.le_of_ble_eq_true rfl) ?_
  refine W.eq (g2 := F0 m 4 ls []) rfl ?_
  refine lv_aload_n hx hb dX0_init_4 rfl (lv_at hl 0 rfl) ?_
  refine lv_sipush (v := zI (365)) hx hb dX0_init_5 (by decide) ?_
  refine n_put (ci := 0) (v := .int (zI (365))) (ty := .int) (C := RX0) (T := TX0) (N := 9) hx hb hts hinX0 tyX0 tyX0_ok nmX0 hown hK hP hD hS (x) (show x < n by omega) a_x e_x rfl 8 (by decide) k11 (fun _ h9 => h9) rfl (by decide +kernel) rfl rfl (Nat.le_of_ble_eq_true rfl) dX0_init_8 (fun H locs hP hD hS => ?_)
  obtain ⟨c1, hc1⟩ : ∃ x9 : Nat → va_E, x9 = va_up ce (x) (.inr (0, [.int (zI (0)), .int (zI (0)), .int (zI (0)), .int (zI (0)), .int (zI (0)), .int (zI (0)), .int (zI (0)), .int (zI (0)), .int (zI (365))])) := ⟨_, rfl⟩
  have hP : nP g (n) ad c1 H := by rw [hc1]; exact hP
  have hD : va_D A (nL (n) ad c1) := by rw [hc1]; exact hD
  replace hexc : ∀ j : Nat, j < n → ¬ j = x → c1 j = ce j := fun j hj9 q0 => ((congrFun hc1 j).trans (up_ne _ _ q0)).trans (hexc j hj9 )
  replace e_x : c1 (x) = .inr (0, [.int (zI (0)), .int (zI (0)), .int (zI (0)), .int (zI (0)), .int (zI (0)), .int (zI (0)), .int (zI (0)), .int (zI (0)), .int (zI (365))]) := (congrFun hc1 _).trans (up_at _ _ _)
  clear hc1
  have hQ9 := nQ_of (m := 0) hAe hD hexa
  exact W.vret hx hb hr (fun tX htX hWX => ⟨⟨(ad, c1), rfl, ⟨hQ9, fun j hj9 q0 => hexc j hj9 q0, e_x⟩, g_at htX hP⟩, hS.F htX⟩) hS.2.2 dX0_init_11

set_option maxHeartbeats 4000000 in
set_option maxRecDepth 100000 in
theorem c_X5_init_N (l : Launch) (g : GG) (n : Nat) (ad : Nat → Nat) (ce : Nat → va_E) (sz : Nat) (x : Nat) (hx0 : x < n) (h0 : Nat) (ha0 : ad x = h0) (e_x : ce (x) = .inr (5, [.null, .int (zI (0))])) : Met l yX5_init wsX5_init ({ frames := 1, cells := 1, slots := 740, locals := 12 }) (nPc g n ad ce sz [.ref h0]) (va_Qv (fun (u : (Nat → Nat) × (Nat → va_E)) => nQ n 1 ad sz u.1 ∧ (∀ i, i < n → ¬ i = x → u.2 i = ce i) ∧ u.2 (x) = .inr (5, [.ref ((u.1 (n))), .int (zI (0))]) ∧ u.2 (n) = .inl (g.2 1, 740, .inl (fun _ => zI 0))) (fun u (tS : State) => nP g (n + 1) u.1 u.2 tS.heap) (nA n ad sz)) 1 740 (nA n ad sz) := by
  refine Met.ofW (cc := cX5_init) (maxL := 1) (ret := none) (by decide) rfl ?_
  intro p e s m args below meth c s₁ B hml hv
  obtain ⟨rfl, hsz, hP, hD0, hK, hN⟩ := hv
  have hx := B.exec
  have hb := B.bytes
  have hr := B.returns
  have hts := atoms_spec (ws := wsX5_init) B.pre
  have hown : s.vm.findClass RX5 = some m.cls := findClass_of_methodNamed B.named
  have hlocks := B.notSynchronized
  have hin9 := (name_of_methodNamed B.named B.method).1
  have hinX5 : ∀ w ∈ wsX50, w ∈ wsX5_init := by decide +kernel
  have kOI := hts (.methodLink RX5 1 objectInit) (by decide +kernel)
  have kOJ := hts (.instanceMethod objectInit) (by decide +kernel)
  have kOK := hts (.code objectInit ⟨#[0xb1]⟩ 1 none) (by decide +kernel)
  have kACbyte := hts (.arrayClass .byte) (by decide +kernel)
  have k9 := hts (.fieldLink RX5 9 "HoursBank$Tape" "bytes" "[B") (by decide +kernel)
  subst hsz
  obtain ⟨A, hAe⟩ : ∃ A, A = nA n ad s.heap.size := ⟨_, rfl⟩
  rw [← hAe]
  have hA : ∀ q : Nat, s.heap.size ≤ q → A q := fun q h => by rw [hAe]; exact Or.inr h
  have hD : va_D A (nL n ad ce) := nDa hD0 (fun i hi => by rw [hAe]; exact Or.inl ⟨i, hi, rfl⟩)
  have hl := lv_entry ([.ref h0]) (n := 1) (Nat.le_of_ble_eq_true rfl)
  rw [lg_entry_eq]
  generalize (lg_sl ([.ref h0]) ++ List.replicate (1 - (lg_sl ([.ref h0])).length) Slot.unset).toArray = ls at hl ⊢
  have hl : lv_has ls 1 [(0, .ref h0)] := hl
  have hS : va_S A s.heap s.heap [] := va_S.rf
  obtain ⟨H, hH9⟩ : ∃ H, H = s.heap := ⟨_, rfl⟩
  obtain ⟨locs, hL9⟩ : ∃ x9l : List Loc, x9l = [] := ⟨_, rfl⟩
  have hP : nP g n ad ce H := hH9 ▸ hP
  have hS : va_S A s.heap H locs := by rw [hH9, hL9]; exact hS
  refine z_start hH9 hL9 ?_
  clear hH9 hL9
  have hexa : ∀ j : Nat, j < n → ad j = ad j := fun _ _ => rfl
  have hexc : ∀ j : Nat, j < n → ce j = ce j := fun _ _ => rfl
  have a_x : ad (x) = h0 := ha0
  refine lv_aload_n hx hb dX5_init_0 rfl (lv_at hl 0 rfl) ?_
  refine W.objInit hx hb hown kOI kOJ kOK rfl (by rw [hml]; exact hl.1) rfl dX5_init_1 (Nat.le_of_ble_eq_true rfl) (Nat.le_of_ble_eq_true rfl) ?_
  refine W.eq (g2 := F0 m 4 ls []) rfl ?_
  refine lv_aload_n hx hb dX5_init_4 rfl (lv_at hl 0 rfl) ?_
  refine lv_sipush (v := zI (740)) hx hb dX5_init_5 (by decide) ?_
  refine n_newa (atype := .byte) (ty := .byte) (a0 := (740, .inl (fun _ => zI 0))) (N' := 740) hx hb kACbyte rfl hK hP hD hS hA 1 rfl (fun _ => rfl) (by omega) (by omega) (Nat.le_of_ble_eq_true rfl) (Nat.le_of_ble_eq_true rfl) (Nat.le_of_ble_eq_true rfl) dX5_init_8 (fun q101 H hP hD hS => ?_)
  obtain ⟨a2, ha2⟩ : ∃ x9 : Nat → Nat, x9 = va_up ad (n) q101 := ⟨_, rfl⟩
  obtain ⟨c2, hc2⟩ : ∃ x9 : Nat → va_E, x9 = va_up ce (n) (.inl (g.2 1, 740, .inl (fun _ => zI 0))) := ⟨_, rfl⟩
  have hP : nP g (n + 1) a2 c2 H := by rw [ha2, hc2]; exact hP
  have hD : va_D A (nL (n + 1) a2 c2) := by rw [ha2, hc2]; exact hD
  replace hexa : ∀ j : Nat, j < n → a2 j = ad j := fun j hj9 => ((congrFun ha2 j).trans (up_ne _ _ (by omega))).trans (hexa j hj9)
  replace hexc : ∀ j : Nat, j < n → c2 j = ce j := fun j hj9  => ((congrFun hc2 j).trans (up_ne _ _ (by omega))).trans (hexc j hj9 )
  replace a_x : a2 (x) = h0 := ((congrFun ha2 _).trans (up_ne _ _ (by omega))).trans a_x
  replace e_x : c2 (x) = .inr (5, [.null, .int (zI (0))]) := ((congrFun hc2 _).trans (up_ne _ _ (by omega))).trans e_x
  have a_n : a2 (n) = q101 := (congrFun ha2 _).trans (up_at _ _ _)
  have e_n : c2 (n) = .inl (g.2 1, 740, .inl (fun _ => zI 0)) := (congrFun hc2 _).trans (up_at _ _ _)
  clear ha2 hc2
  refine n_putF (ci := 5) (v := .ref q101) (ty := .array .byte) (C := RX5) (T := TX5) (N := 2) hx hb hts hinX5 tyX5 tyX5_ok nmX5 hown hK hP hD hS (x) (show x < n + 1 by omega) a_x e_x rfl 0 (by decide) k9 (fun _ h9 => h9) rfl hin9 rfl (by decide +kernel) rfl rfl (Nat.le_of_ble_eq_true rfl) dX5_init_10 (fun H locs hP hD hS => ?_)
  obtain ⟨c3, hc3⟩ : ∃ x9 : Nat → va_E, x9 = va_up c2 (x) (.inr (5, [.ref q101, .int (zI (0))])) := ⟨_, rfl⟩
  have hP : nP g (n + 1) a2 c3 H := by rw [hc3]; exact hP
  have hD : va_D A (nL (n + 1) a2 c3) := by rw [hc3]; exact hD
  replace hexc : ∀ j : Nat, j < n → ¬ j = x → c3 j = ce j := fun j hj9 q0 => ((congrFun hc3 j).trans (up_ne _ _ q0)).trans (hexc j hj9 )
  replace e_x : c3 (x) = .inr (5, [.ref q101, .int (zI (0))]) := (congrFun hc3 _).trans (up_at _ _ _)
  replace e_n : c3 (n) = .inl (g.2 1, 740, .inl (fun _ => zI 0)) := ((congrFun hc3 _).trans (up_ne _ _ (by omega))).trans e_n
  clear hc3
  have hQ9 := nQ_of (m := 1) hAe hD hexa
  exact W.vret hx hb hr (fun tX htX hWX => ⟨⟨(a2, c3), rfl, ⟨hQ9, fun j hj9 q0 => hexc j hj9 q0, e_x.trans (by dsimp only; rw [a_n]), e_n⟩, g_at htX hP⟩, hS.F htX⟩) hS.2.2 dX5_init_13

set_option maxHeartbeats 4000000 in
set_option maxRecDepth 100000 in
theorem c_X7_init_N (l : Launch) (g : GG) (n : Nat) (ad : Nat → Nat) (ce : Nat → va_E) (sz : Nat) (x : Nat) (hx0 : x < n) (h0 : Nat) (ha0 : ad x = h0) (tp : Nat) (e_x : ce (x) = .inr (7, [.null, .int (zI (0)), .int (zI (0)), .int (zI (0)), .int (zI (0))])) : Met l yX7_init wsX7_init ({ frames := 1, cells := 0, slots := 0, locals := 12 }) (nPc g n ad ce sz [.ref h0, .ref tp]) (va_Qv (fun (u : (Nat → Nat) × (Nat → va_E)) => nQ n 0 ad sz u.1 ∧ (∀ i, i < n → ¬ i = x → u.2 i = ce i) ∧ u.2 (x) = .inr (7, [.ref tp, .int (zI (0)), .int (zI (0)), .int (zI (0)), .int (zI (0))])) (fun u (tS : State) => nP g (n + 0) u.1 u.2 tS.heap) (nA n ad sz)) 0 0 (nA n ad sz) := by
  refine Met.ofW (cc := cX7_init) (maxL := 2) (ret := none) (by decide) rfl ?_
  intro p e s m args below meth c s₁ B hml hv
  obtain ⟨rfl, hsz, hP, hD0, hK, hN⟩ := hv
  have hx := B.exec
  have hb := B.bytes
  have hr := B.returns
  have hts := atoms_spec (ws := wsX7_init) B.pre
  have hown : s.vm.findClass RX7 = some m.cls := findClass_of_methodNamed B.named
  have hlocks := B.notSynchronized
  have hin9 := (name_of_methodNamed B.named B.method).1
  have hinX7 : ∀ w ∈ wsX70, w ∈ wsX7_init := by decide +kernel
  have kOI := hts (.methodLink RX7 1 objectInit) (by decide +kernel)
  have kOJ := hts (.instanceMethod objectInit) (by decide +kernel)
  have kOK := hts (.code objectInit ⟨#[0xb1]⟩ 1 none) (by decide +kernel)
  have k7 := hts (.fieldLink RX7 7 "HoursBank$Tokens" "tape" "LHoursBank$Tape;") (by decide +kernel)
  subst hsz
  obtain ⟨A, hAe⟩ : ∃ A, A = nA n ad s.heap.size := ⟨_, rfl⟩
  rw [← hAe]
  have hA : ∀ q : Nat, s.heap.size ≤ q → A q := fun q h => by rw [hAe]; exact Or.inr h
  have hD : va_D A (nL n ad ce) := nDa hD0 (fun i hi => by rw [hAe]; exact Or.inl ⟨i, hi, rfl⟩)
  have hl := lv_entry ([.ref h0, .ref tp]) (n := 2) (Nat.le_of_ble_eq_true rfl)
  rw [lg_entry_eq]
  generalize (lg_sl ([.ref h0, .ref tp]) ++ List.replicate (2 - (lg_sl ([.ref h0, .ref tp])).length) Slot.unset).toArray = ls at hl ⊢
  have hl : lv_has ls 2 [(0, .ref h0), (1, .ref tp)] := hl
  have hS : va_S A s.heap s.heap [] := va_S.rf
  obtain ⟨H, hH9⟩ : ∃ H, H = s.heap := ⟨_, rfl⟩
  obtain ⟨locs, hL9⟩ : ∃ x9l : List Loc, x9l = [] := ⟨_, rfl⟩
  have hP : nP g n ad ce H := hH9 ▸ hP
  have hS : va_S A s.heap H locs := by rw [hH9, hL9]; exact hS
  refine z_start hH9 hL9 ?_
  clear hH9 hL9
  have hexa : ∀ j : Nat, j < n → ad j = ad j := fun _ _ => rfl
  have hexc : ∀ j : Nat, j < n → ce j = ce j := fun _ _ => rfl
  have a_x : ad (x) = h0 := ha0
  refine lv_aload_n hx hb dX7_init_0 rfl (lv_at hl 0 rfl) ?_
  refine W.objInit hx hb hown kOI kOJ kOK rfl (by rw [hml]; exact hl.1) rfl dX7_init_1 (Nat.le_of_ble_eq_true rfl) (Nat.le_of_ble_eq_true rfl) ?_
  refine W.eq (g2 := F0 m 4 ls []) rfl ?_
  refine lv_aload_n hx hb dX7_init_4 rfl (lv_at hl 0 rfl) ?_
  refine lv_aload_n hx hb dX7_init_5 rfl (lv_at hl 1 rfl) ?_
  refine n_putF (ci := 7) (v := .ref tp) (ty := .object "HoursBank$Tape") (C := RX7) (T := TX7) (N := 5) hx hb hts hinX7 tyX7 tyX7_ok nmX7 hown hK hP hD hS (x) (show x < n by omega) a_x e_x rfl 0 (by decide) k7 (fun _ h9 => h9) rfl hin9 rfl (by decide +kernel) rfl rfl (Nat.le_of_ble_eq_true rfl) dX7_init_6 (fun H locs hP hD hS => ?_)
  obtain ⟨c1, hc1⟩ : ∃ x9 : Nat → va_E, x9 = va_up ce (x) (.inr (7, [.ref tp, .int (zI (0)), .int (zI (0)), .int (zI (0)), .int (zI (0))])) := ⟨_, rfl⟩
  have hP : nP g (n) ad c1 H := by rw [hc1]; exact hP
  have hD : va_D A (nL (n) ad c1) := by rw [hc1]; exact hD
  replace hexc : ∀ j : Nat, j < n → ¬ j = x → c1 j = ce j := fun j hj9 q0 => ((congrFun hc1 j).trans (up_ne _ _ q0)).trans (hexc j hj9 )
  replace e_x : c1 (x) = .inr (7, [.ref tp, .int (zI (0)), .int (zI (0)), .int (zI (0)), .int (zI (0))]) := (congrFun hc1 _).trans (up_at _ _ _)
  clear hc1
  have hQ9 := nQ_of (m := 0) hAe hD hexa
  exact W.vret hx hb hr (fun tX htX hWX => ⟨⟨(ad, c1), rfl, ⟨hQ9, fun j hj9 q0 => hexc j hj9 q0, e_x⟩, g_at htX hP⟩, hS.F htX⟩) hS.2.2 dX7_init_9

set_option maxHeartbeats 4000000 in
set_option maxRecDepth 100000 in
theorem c_X6_init_N (l : Launch) (g : GG) (n : Nat) (ad : Nat → Nat) (ce : Nat → va_E) (sz : Nat) (x : Nat) (hx0 : x < n) (h0 : Nat) (ha0 : ad x = h0) (tp : Nat) (e_x : ce (x) = .inr (6, [.null, .null, .int (zI (0)), .int (zI (0))])) : Met l yX6_init wsX6_init ({ frames := 2, cells := 1, slots := 5, locals := 33 }) (nPc g n ad ce sz [.ref h0, .ref tp]) (va_Qv (fun (u : (Nat → Nat) × (Nat → va_E)) => nQ n 1 ad sz u.1 ∧ (∀ i, i < n → ¬ i = x → u.2 i = ce i) ∧ u.2 (x) = .inr (6, [.ref tp, .ref ((u.1 (n))), .int (zI (0)), .int (zI (0))]) ∧ u.2 (n) = .inr (7, [.ref tp, .int (zI (0)), .int (zI (0)), .int (zI (0)), .int (zI (0))])) (fun u (tS : State) => nP g (n + 1) u.1 u.2 tS.heap) (nA n ad sz)) 1 5 (nA n ad sz) := by
  refine Met.ofW (cc := cX6_init) (maxL := 2) (ret := none) (by decide) rfl ?_
  intro p e s m args below meth c s₁ B hml hv
  obtain ⟨rfl, hsz, hP, hD0, hK, hN⟩ := hv
  have hx := B.exec
  have hb := B.bytes
  have hr := B.returns
  have hts := atoms_spec (ws := wsX6_init) B.pre
  have hown : s.vm.findClass RX6 = some m.cls := findClass_of_methodNamed B.named
  have hlocks := B.notSynchronized
  have hin9 := (name_of_methodNamed B.named B.method).1
  have hinX6 : ∀ w ∈ wsX60, w ∈ wsX6_init := by decide +kernel
  have hinX7 : ∀ w ∈ wsX70, w ∈ wsX6_init := by decide +kernel
  have kOI := hts (.methodLink RX6 3 objectInit) (by decide +kernel)
  have kOJ := hts (.instanceMethod objectInit) (by decide +kernel)
  have kOK := hts (.code objectInit ⟨#[0xb1]⟩ 1 none) (by decide +kernel)
  have k9 := hts (.fieldLink RX6 9 "HoursBank$TextReader" "tape" "LHoursBank$Tape;") (by decide +kernel)
  have kN15 := hts (.classLink RX6 15 RX7) (by decide +kernel)
  have kIX7 := hts (.instantiable RX7 5) (by decide +kernel)
  have kJX7 := hts (.initialized RX7) (by decide +kernel)
  have kIm_X7_init := hts (.instanceMethod yX7_init) (by decide +kernel)
  have kMl17 := hts (.methodLink RX6 17 yX7_init) (by decide +kernel)
  have k20 := hts (.fieldLink RX6 20 "HoursBank$TextReader" "tokens" "LHoursBank$Tokens;") (by decide +kernel)
  subst hsz
  obtain ⟨A, hAe⟩ : ∃ A, A = nA n ad s.heap.size := ⟨_, rfl⟩
  rw [← hAe]
  have hA : ∀ q : Nat, s.heap.size ≤ q → A q := fun q h => by rw [hAe]; exact Or.inr h
  have hD : va_D A (nL n ad ce) := nDa hD0 (fun i hi => by rw [hAe]; exact Or.inl ⟨i, hi, rfl⟩)
  have hl := lv_entry ([.ref h0, .ref tp]) (n := 2) (Nat.le_of_ble_eq_true rfl)
  rw [lg_entry_eq]
  generalize (lg_sl ([.ref h0, .ref tp]) ++ List.replicate (2 - (lg_sl ([.ref h0, .ref tp])).length) Slot.unset).toArray = ls at hl ⊢
  have hl : lv_has ls 2 [(0, .ref h0), (1, .ref tp)] := hl
  have hS : va_S A s.heap s.heap [] := va_S.rf
  obtain ⟨H, hH9⟩ : ∃ H, H = s.heap := ⟨_, rfl⟩
  obtain ⟨locs, hL9⟩ : ∃ x9l : List Loc, x9l = [] := ⟨_, rfl⟩
  have hP : nP g n ad ce H := hH9 ▸ hP
  have hS : va_S A s.heap H locs := by rw [hH9, hL9]; exact hS
  refine z_start hH9 hL9 ?_
  clear hH9 hL9
  have hexa : ∀ j : Nat, j < n → ad j = ad j := fun _ _ => rfl
  have hexc : ∀ j : Nat, j < n → ce j = ce j := fun _ _ => rfl
  have a_x : ad (x) = h0 := ha0
  refine lv_aload_n hx hb dX6_init_0 rfl (lv_at hl 0 rfl) ?_
  refine W.objInit hx hb hown kOI kOJ kOK rfl (by rw [hml]; exact hl.1) rfl dX6_init_1 (Nat.le_of_ble_eq_true rfl) (Nat.le_of_ble_eq_true rfl) ?_
  refine W.eq (g2 := F0 m 4 ls []) rfl ?_
  refine lv_aload_n hx hb dX6_init_4 rfl (lv_at hl 0 rfl) ?_
  refine lv_aload_n hx hb dX6_init_5 rfl (lv_at hl 1 rfl) ?_
  refine n_putF (ci := 6) (v := .ref tp) (ty := .object "HoursBank$Tape") (C := RX6) (T := TX6) (N := 4) hx hb hts hinX6 tyX6 tyX6_ok nmX6 hown hK hP hD hS (x) (show x < n by omega) a_x e_x rfl 0 (by decide) k9 (fun _ h9 => h9) rfl hin9 rfl (by decide +kernel) rfl rfl (Nat.le_of_ble_eq_true rfl) dX6_init_6 (fun H locs hP hD hS => ?_)
  obtain ⟨c1, hc1⟩ : ∃ x9 : Nat → va_E, x9 = va_up ce (x) (.inr (6, [.ref tp, .null, .int (zI (0)), .int (zI (0))])) := ⟨_, rfl⟩
  have hP : nP g (n) ad c1 H := by rw [hc1]; exact hP
  have hD : va_D A (nL (n) ad c1) := by rw [hc1]; exact hD
  replace hexc : ∀ j : Nat, j < n → ¬ j = x → c1 j = ce j := fun j hj9 q0 => ((congrFun hc1 j).trans (up_ne _ _ q0)).trans (hexc j hj9 )
  replace e_x : c1 (x) = .inr (6, [.ref tp, .null, .int (zI (0)), .int (zI (0))]) := (congrFun hc1 _).trans (up_at _ _ _)
  clear hc1
  refine lv_aload_n hx hb dX6_init_9 rfl (lv_at hl 0 rfl) ?_
  refine n_new (ci := 7) (fs := [.null, .int (zI (0)), .int (zI (0)), .int (zI (0)), .int (zI (0))]) (C := RX7) (T := TX7) (N := 5) hx hb hts hinX7 tyX7 tyX7_ok hown kN15 kIX7 kJX7 hK hP hD hS hA rfl (fun j hj => by rcases (show j = 0 ∨ j = 1 ∨ j = 2 ∨ j = 3 ∨ j = 4 by omega) with rfl | rfl | rfl | rfl | rfl <;> rfl) (Nat.le_of_ble_eq_true rfl) (Nat.le_of_ble_eq_true rfl) dX6_init_10 (fun q102 H hP hD hS => ?_)
  obtain ⟨a3, ha3⟩ : ∃ x9 : Nat → Nat, x9 = va_up ad (n) q102 := ⟨_, rfl⟩
  obtain ⟨c3, hc3⟩ : ∃ x9 : Nat → va_E, x9 = va_up c1 (n) (.inr (7, [.null, .int (zI (0)), .int (zI (0)), .int (zI (0)), .int (zI (0))])) := ⟨_, rfl⟩
  have hP : nP g (n + 1) a3 c3 H := by rw [ha3, hc3]; exact hP
  have hD : va_D A (nL (n + 1) a3 c3) := by rw [ha3, hc3]; exact hD
  replace hexa : ∀ j : Nat, j < n → a3 j = ad j := fun j hj9 => ((congrFun ha3 j).trans (up_ne _ _ (by omega))).trans (hexa j hj9)
  replace hexc : ∀ j : Nat, j < n → ¬ j = x → c3 j = ce j := fun j hj9 q0 => ((congrFun hc3 j).trans (up_ne _ _ (by omega))).trans (hexc j hj9 q0)
  replace a_x : a3 (x) = h0 := ((congrFun ha3 _).trans (up_ne _ _ (by omega))).trans a_x
  replace e_x : c3 (x) = .inr (6, [.ref tp, .null, .int (zI (0)), .int (zI (0))]) := ((congrFun hc3 _).trans (up_ne _ _ (by omega))).trans e_x
  have a_n : a3 (n) = q102 := (congrFun ha3 _).trans (up_at _ _ _)
  have e_n : c3 (n) = .inr (7, [.null, .int (zI (0)), .int (zI (0)), .int (zI (0)), .int (zI (0))]) := (congrFun hc3 _).trans (up_at _ _ _)
  clear ha3 hc3
  refine lv_dup hx hb dX6_init_13 rfl ?_
  refine lv_aload_n hx hb dX6_init_14 rfl (lv_at hl 1 rfl) ?_
  have hF9 := n_free hD hS hA
  have hS9 := hS
  refine va_callv (va_runI (As := [.ref tp]) (rest := [.ref q102, .ref h0]) ⟨hx, hb, hml, hown, hts⟩ (c_X7_init_N l g (n + 1) (a3) (c3) (H.size) (n) (by omega) (q102) (a_n) (tp) (e_n)) (cwI 1 hts gX6_init_X7_init rfl rfl rfl kJX7 kMl17 kIm_X7_init rfl (by decide +kernel) ⟨Nat.le_of_ble_eq_true rfl, Nat.le_of_ble_eq_true rfl⟩) (n_preS hP hD hK hN) rfl rfl hl.1 rfl (lv_room (Nat.le_of_ble_eq_true rfl)) dX6_init_15 ⟨Nat.le_of_ble_eq_true rfl, Nat.le_of_ble_eq_true rfl⟩) hS (fun q _ h => hF9 q h) hF9 (fun u9 t9 H1 locs ht9 hvm9 hw9 hB9 hz9 hk9 hS => ?_)
  obtain ⟨a4, c4⟩ := u9
  rw [ht9] at hB9
  clear hz9 hk9 hvm9 ht9 hF9
  try dsimp only at hw9 hB9
  obtain ⟨hq9, hu9, hp9_0⟩ := hw9
  have hD : va_D A (nL (n + 1) a4 c4) := n_joinD (n := n + 1) (m := 0) hD hS9 hA hq9
  clear hS9
  have hP : nP g (n + 1) a4 c4 H1 := hB9
  clear hB9
  generalize H1 = H at hP hS ⊢
  replace hexa : ∀ j : Nat, j < n → a4 j = ad j := fun j hj9 => (hq9.1 j (by omega)).trans (hexa j hj9)
  replace hexc : ∀ j : Nat, j < n → ¬ j = x → c4 j = ce j := fun j hj9 q0 => (hu9 j (by omega) (by omega)).trans (hexc j hj9 q0)
  replace a_x : a4 (x) = h0 := (hq9.1 _ (by omega)).trans a_x
  replace e_x : c4 (x) = .inr (6, [.ref tp, .null, .int (zI (0)), .int (zI (0))]) := (hu9 _ (by omega) (by omega)).trans e_x
  replace a_n : a4 (n) = q102 := (hq9.1 _ (by omega)).trans a_n
  have e_n : c4 (n) = .inr (7, [.ref tp, .int (zI (0)), .int (zI (0)), .int (zI (0)), .int (zI (0))]) := hp9_0
  clear hq9 hu9 hp9_0
  refine n_putF (ci := 6) (v := .ref q102) (ty := .object "HoursBank$Tokens") (C := RX6) (T := TX6) (N := 4) hx hb hts hinX6 tyX6 tyX6_ok nmX6 hown hK hP hD hS (x) (show x < n + 1 by omega) a_x e_x rfl 1 (by decide) k20 (fun _ h9 => h9) rfl hin9 rfl (by decide +kernel) rfl rfl (Nat.le_of_ble_eq_true rfl) dX6_init_18 (fun H locs hP hD hS => ?_)
  obtain ⟨c5, hc5⟩ : ∃ x9 : Nat → va_E, x9 = va_up c4 (x) (.inr (6, [.ref tp, .ref q102, .int (zI (0)), .int (zI (0))])) := ⟨_, rfl⟩
  have hP : nP g (n + 1) a4 c5 H := by rw [hc5]; exact hP
  have hD : va_D A (nL (n + 1) a4 c5) := by rw [hc5]; exact hD
  replace hexc : ∀ j : Nat, j < n → ¬ j = x → c5 j = ce j := fun j hj9 q0 => ((congrFun hc5 j).trans (up_ne _ _ q0)).trans (hexc j hj9 q0)
  replace e_x : c5 (x) = .inr (6, [.ref tp, .ref q102, .int (zI (0)), .int (zI (0))]) := (congrFun hc5 _).trans (up_at _ _ _)
  replace e_n : c5 (n) = .inr (7, [.ref tp, .int (zI (0)), .int (zI (0)), .int (zI (0)), .int (zI (0))]) := ((congrFun hc5 _).trans (up_ne _ _ (by omega))).trans e_n
  clear hc5
  have hQ9 := nQ_of (m := 1) hAe hD hexa
  exact W.vret hx hb hr (fun tX htX hWX => ⟨⟨(a4, c5), rfl, ⟨hQ9, fun j hj9 q0 => hexc j hj9 q0, e_x.trans (by dsimp only; rw [a_n]), e_n⟩, g_at htX hP⟩, hS.F htX⟩) hS.2.2 dX6_init_21

set_option maxHeartbeats 4000000 in
set_option maxRecDepth 100000 in
theorem c_X9_init_N (l : Launch) (g : GG) (n : Nat) (ad : Nat → Nat) (ce : Nat → va_E) (sz : Nat) (x : Nat) (hx0 : x < n) (h0 : Nat) (ha0 : ad x = h0) (e_x : ce (x) = .inr (9, [.int (zI (0)), .null, .int (zI (0)), .int (zI (0)), .int (zI (0)), .int (zI (0)), .int (zI (0)), .int (zI (0)), .int (zI (0)), .int (zI (0)), .long (zL (0)), .null, .null, .null, .int (zI (0))])) : Met l yX9_init wsX9_init ({ frames := 1, cells := 4, slots := 19544, locals := 12 }) (nPc g n ad ce sz [.ref h0]) (va_Qv (fun (u : (Nat → Nat) × (Nat → va_E)) => nQ n 4 ad sz u.1 ∧ (∀ i, i < n → ¬ i = x → u.2 i = ce i) ∧ u.2 (x) = .inr (9, [.int (zI (0)), .ref ((u.1 (n))), .int (zI (0)), .int (zI (0)), .int (zI (0)), .int (zI (0)), .int (zI (0)), .int (zI (0)), .int (zI (0)), .int (zI (0)), .long (zL (0)), .ref ((u.1 (n + 1))), .ref ((u.1 (n + 2))), .ref ((u.1 (n + 3))), .int (zI (0))]) ∧ u.2 (n) = .inl (g.2 0, 740, .inl (fun _ => zI 0)) ∧ u.2 (n + 1) = .inl (g.2 0, 1567, .inl (upd (fun _ => zI 0) 2 (zI (1)))) ∧ u.2 (n + 2) = .inl (g.2 0, 1567, .inl (fun _ => zI 0)) ∧ u.2 (n + 3) = .inl (g.2 0, 15670, .inl (fun _ => zI 0))) (fun u (tS : State) => nP g (n + 4) u.1 u.2 tS.heap) (nA n ad sz)) 4 19544 (nA n ad sz) := by
  refine Met.ofW (cc := cX9_init) (maxL := 1) (ret := none) (by decide) rfl ?_
  intro p e s m args below meth c s₁ B hml hv
  obtain ⟨rfl, hsz, hP, hD0, hK, hN⟩ := hv
  have hx := B.exec
  have hb := B.bytes
  have hr := B.returns
  have hts := atoms_spec (ws := wsX9_init) B.pre
  have hown : s.vm.findClass RX9 = some m.cls := findClass_of_methodNamed B.named
  have hlocks := B.notSynchronized
  have hin9 := (name_of_methodNamed B.named B.method).1
  have hinX9 : ∀ w ∈ wsX90, w ∈ wsX9_init := by decide +kernel
  have kOI := hts (.methodLink RX9 64 objectInit) (by decide +kernel)
  have kOJ := hts (.instanceMethod objectInit) (by decide +kernel)
  have kOK := hts (.code objectInit ⟨#[0xb1]⟩ 1 none) (by decide +kernel)
  have kACint := hts (.arrayClass .int) (by decide +kernel)
  have k7 := hts (.fieldLink RX9 7 "HoursBankModel" "tape" "[I") (by decide +kernel)
  have k70 := hts (.fieldLink RX9 70 "HoursBankModel" "now" "[I") (by decide +kernel)
  have k73 := hts (.fieldLink RX9 73 "HoursBankModel" "read" "[I") (by decide +kernel)
  have k76 := hts (.fieldLink RX9 76 "HoursBankModel" "snaps" "[I") (by decide +kernel)
  subst hsz
  obtain ⟨A, hAe⟩ : ∃ A, A = nA n ad s.heap.size := ⟨_, rfl⟩
  rw [← hAe]
  have hA : ∀ q : Nat, s.heap.size ≤ q → A q := fun q h => by rw [hAe]; exact Or.inr h
  have hD : va_D A (nL n ad ce) := nDa hD0 (fun i hi => by rw [hAe]; exact Or.inl ⟨i, hi, rfl⟩)
  have hl := lv_entry ([.ref h0]) (n := 1) (Nat.le_of_ble_eq_true rfl)
  rw [lg_entry_eq]
  generalize (lg_sl ([.ref h0]) ++ List.replicate (1 - (lg_sl ([.ref h0])).length) Slot.unset).toArray = ls at hl ⊢
  have hl : lv_has ls 1 [(0, .ref h0)] := hl
  have hS : va_S A s.heap s.heap [] := va_S.rf
  obtain ⟨H, hH9⟩ : ∃ H, H = s.heap := ⟨_, rfl⟩
  obtain ⟨locs, hL9⟩ : ∃ x9l : List Loc, x9l = [] := ⟨_, rfl⟩
  have hP : nP g n ad ce H := hH9 ▸ hP
  have hS : va_S A s.heap H locs := by rw [hH9, hL9]; exact hS
  refine z_start hH9 hL9 ?_
  clear hH9 hL9
  have hexa : ∀ j : Nat, j < n → ad j = ad j := fun _ _ => rfl
  have hexc : ∀ j : Nat, j < n → ce j = ce j := fun _ _ => rfl
  have a_x : ad (x) = h0 := ha0
  refine lv_aload_n hx hb dX9_init_0 rfl (lv_at hl 0 rfl) ?_
  refine W.objInit hx hb hown kOI kOJ kOK rfl (by rw [hml]; exact hl.1) rfl dX9_init_1 (Nat.le_of_ble_eq_true rfl) (Nat.le_of_ble_eq_true rfl) ?_
  refine W.eq (g2 := F0 m 4 ls []) rfl ?_
  refine lv_aload_n hx hb dX9_init_4 rfl (lv_at hl 0 rfl) ?_
  refine lv_sipush (v := zI (740)) hx hb dX9_init_5 (by decide) ?_
  refine n_newa (atype := .int) (ty := .int) (a0 := (740, .inl (fun _ => zI 0))) (N' := 740) hx hb kACint rfl hK hP hD hS hA 0 rfl (fun _ => rfl) (by omega) (by omega) (Nat.le_of_ble_eq_true rfl) (Nat.le_of_ble_eq_true rfl) (Nat.le_of_ble_eq_true rfl) dX9_init_8 (fun q101 H hP hD hS => ?_)
  obtain ⟨a2, ha2⟩ : ∃ x9 : Nat → Nat, x9 = va_up ad (n) q101 := ⟨_, rfl⟩
  obtain ⟨c2, hc2⟩ : ∃ x9 : Nat → va_E, x9 = va_up ce (n) (.inl (g.2 0, 740, .inl (fun _ => zI 0))) := ⟨_, rfl⟩
  have hP : nP g (n + 1) a2 c2 H := by rw [ha2, hc2]; exact hP
  have hD : va_D A (nL (n + 1) a2 c2) := by rw [ha2, hc2]; exact hD
  replace hexa : ∀ j : Nat, j < n → a2 j = ad j := fun j hj9 => ((congrFun ha2 j).trans (up_ne _ _ (by omega))).trans (hexa j hj9)
  replace hexc : ∀ j : Nat, j < n → c2 j = ce j := fun j hj9  => ((congrFun hc2 j).trans (up_ne _ _ (by omega))).trans (hexc j hj9 )
  replace a_x : a2 (x) = h0 := ((congrFun ha2 _).trans (up_ne _ _ (by omega))).trans a_x
  replace e_x : c2 (x) = .inr (9, [.int (zI (0)), .null, .int (zI (0)), .int (zI (0)), .int (zI (0)), .int (zI (0)), .int (zI (0)), .int (zI (0)), .int (zI (0)), .int (zI (0)), .long (zL (0)), .null, .null, .null, .int (zI (0))]) := ((congrFun hc2 _).trans (up_ne _ _ (by omega))).trans e_x
  have a_n : a2 (n) = q101 := (congrFun ha2 _).trans (up_at _ _ _)
  have e_n : c2 (n) = .inl (g.2 0, 740, .inl (fun _ => zI 0)) := (congrFun hc2 _).trans (up_at _ _ _)
  clear ha2 hc2
  refine n_putF (ci := 9) (v := .ref q101) (ty := .array .int) (C := RX9) (T := TX9) (N := 15) hx hb hts hinX9 tyX9 tyX9_ok nmX9 hown hK hP hD hS (x) (show x < n + 1 by omega) a_x e_x rfl 1 (by decide) k7 (fun _ h9 => h9) rfl hin9 rfl (by decide +kernel) rfl rfl (Nat.le_of_ble_eq_true rfl) dX9_init_10 (fun H locs hP hD hS => ?_)
  obtain ⟨c3, hc3⟩ : ∃ x9 : Nat → va_E, x9 = va_up c2 (x) (.inr (9, [.int (zI (0)), .ref q101, .int (zI (0)), .int (zI (0)), .int (zI (0)), .int (zI (0)), .int (zI (0)), .int (zI (0)), .int (zI (0)), .int (zI (0)), .long (zL (0)), .null, .null, .null, .int (zI (0))])) := ⟨_, rfl⟩
  have hP : nP g (n + 1) a2 c3 H := by rw [hc3]; exact hP
  have hD : va_D A (nL (n + 1) a2 c3) := by rw [hc3]; exact hD
  replace hexc : ∀ j : Nat, j < n → ¬ j = x → c3 j = ce j := fun j hj9 q0 => ((congrFun hc3 j).trans (up_ne _ _ q0)).trans (hexc j hj9 )
  replace e_x : c3 (x) = .inr (9, [.int (zI (0)), .ref q101, .int (zI (0)), .int (zI (0)), .int (zI (0)), .int (zI (0)), .int (zI (0)), .int (zI (0)), .int (zI (0)), .int (zI (0)), .long (zL (0)), .null, .null, .null, .int (zI (0))]) := (congrFun hc3 _).trans (up_at _ _ _)
  replace e_n : c3 (n) = .inl (g.2 0, 740, .inl (fun _ => zI 0)) := ((congrFun hc3 _).trans (up_ne _ _ (by omega))).trans e_n
  clear hc3
  refine lv_aload_n hx hb dX9_init_13 rfl (lv_at hl 0 rfl) ?_
  refine lv_sipush (v := zI (1567)) hx hb dX9_init_14 (by decide) ?_
  refine n_newa (atype := .int) (ty := .int) (a0 := (1567, .inl (fun _ => zI 0))) (N' := 1567) hx hb kACint rfl hK hP hD hS hA 0 rfl (fun _ => rfl) (by omega) (by omega) (Nat.le_of_ble_eq_true rfl) (Nat.le_of_ble_eq_true rfl) (Nat.le_of_ble_eq_true rfl) dX9_init_17 (fun q104 H hP hD hS => ?_)
  obtain ⟨a5, ha5⟩ : ∃ x9 : Nat → Nat, x9 = va_up a2 (n + 1) q104 := ⟨_, rfl⟩
  obtain ⟨c5, hc5⟩ : ∃ x9 : Nat → va_E, x9 = va_up c3 (n + 1) (.inl (g.2 0, 1567, .inl (fun _ => zI 0))) := ⟨_, rfl⟩
  have hP : nP g (n + 2) a5 c5 H := by rw [ha5, hc5]; exact hP
  have hD : va_D A (nL (n + 2) a5 c5) := by rw [ha5, hc5]; exact hD
  replace hexa : ∀ j : Nat, j < n → a5 j = ad j := fun j hj9 => ((congrFun ha5 j).trans (up_ne _ _ (by omega))).trans (hexa j hj9)
  replace hexc : ∀ j : Nat, j < n → ¬ j = x → c5 j = ce j := fun j hj9 q0 => ((congrFun hc5 j).trans (up_ne _ _ (by omega))).trans (hexc j hj9 q0)
  replace a_x : a5 (x) = h0 := ((congrFun ha5 _).trans (up_ne _ _ (by omega))).trans a_x
  replace e_x : c5 (x) = .inr (9, [.int (zI (0)), .ref q101, .int (zI (0)), .int (zI (0)), .int (zI (0)), .int (zI (0)), .int (zI (0)), .int (zI (0)), .int (zI (0)), .int (zI (0)), .long (zL (0)), .null, .null, .null, .int (zI (0))]) := ((congrFun hc5 _).trans (up_ne _ _ (by omega))).trans e_x
  replace a_n : a5 (n) = q101 := ((congrFun ha5 _).trans (up_ne _ _ (by omega))).trans a_n
  replace e_n : c5 (n) = .inl (g.2 0, 740, .inl (fun _ => zI 0)) := ((congrFun hc5 _).trans (up_ne _ _ (by omega))).trans e_n
  have a_n_1 : a5 (n + 1) = q104 := (congrFun ha5 _).trans (up_at _ _ _)
  have e_n_1 : c5 (n + 1) = .inl (g.2 0, 1567, .inl (fun _ => zI 0)) := (congrFun hc5 _).trans (up_at _ _ _)
  clear ha5 hc5
  refine n_putF (ci := 9) (v := .ref q104) (ty := .array .int) (C := RX9) (T := TX9) (N := 15) hx hb hts hinX9 tyX9 tyX9_ok nmX9 hown hK hP hD hS (x) (show x < n + 2 by omega) a_x e_x rfl 11 (by decide) k70 (fun _ h9 => h9) rfl hin9 rfl (by decide +kernel) rfl rfl (Nat.le_of_ble_eq_true rfl) dX9_init_19 (fun H locs hP hD hS => ?_)
  obtain ⟨c6, hc6⟩ : ∃ x9 : Nat → va_E, x9 = va_up c5 (x) (.inr (9, [.int (zI (0)), .ref q101, .int (zI (0)), .int (zI (0)), .int (zI (0)), .int (zI (0)), .int (zI (0)), .int (zI (0)), .int (zI (0)), .int (zI (0)), .long (zL (0)), .ref q104, .null, .null, .int (zI (0))])) := ⟨_, rfl⟩
  have hP : nP g (n + 2) a5 c6 H := by rw [hc6]; exact hP
  have hD : va_D A (nL (n + 2) a5 c6) := by rw [hc6]; exact hD
  replace hexc : ∀ j : Nat, j < n → ¬ j = x → c6 j = ce j := fun j hj9 q0 => ((congrFun hc6 j).trans (up_ne _ _ q0)).trans (hexc j hj9 q0)
  replace e_x : c6 (x) = .inr (9, [.int (zI (0)), .ref q101, .int (zI (0)), .int (zI (0)), .int (zI (0)), .int (zI (0)), .int (zI (0)), .int (zI (0)), .int (zI (0)), .int (zI (0)), .long (zL (0)), .ref q104, .null, .null, .int (zI (0))]) := (congrFun hc6 _).trans (up_at _ _ _)
  replace e_n : c6 (n) = .inl (g.2 0, 740, .inl (fun _ => zI 0)) := ((congrFun hc6 _).trans (up_ne _ _ (by omega))).trans e_n
  replace e_n_1 : c6 (n + 1) = .inl (g.2 0, 1567, .inl (fun _ => zI 0)) := ((congrFun hc6 _).trans (up_ne _ _ (by omega))).trans e_n_1
  clear hc6
  refine lv_aload_n hx hb dX9_init_22 rfl (lv_at hl 0 rfl) ?_
  refine lv_sipush (v := zI (1567)) hx hb dX9_init_23 (by decide) ?_
  refine n_newa (atype := .int) (ty := .int) (a0 := (1567, .inl (fun _ => zI 0))) (N' := 1567) hx hb kACint rfl hK hP hD hS hA 0 rfl (fun _ => rfl) (by omega) (by omega) (Nat.le_of_ble_eq_true rfl) (Nat.le_of_ble_eq_true rfl) (Nat.le_of_ble_eq_true rfl) dX9_init_26 (fun q107 H hP hD hS => ?_)
  obtain ⟨a8, ha8⟩ : ∃ x9 : Nat → Nat, x9 = va_up a5 (n + 2) q107 := ⟨_, rfl⟩
  obtain ⟨c8, hc8⟩ : ∃ x9 : Nat → va_E, x9 = va_up c6 (n + 2) (.inl (g.2 0, 1567, .inl (fun _ => zI 0))) := ⟨_, rfl⟩
  have hP : nP g (n + 3) a8 c8 H := by rw [ha8, hc8]; exact hP
  have hD : va_D A (nL (n + 3) a8 c8) := by rw [ha8, hc8]; exact hD
  replace hexa : ∀ j : Nat, j < n → a8 j = ad j := fun j hj9 => ((congrFun ha8 j).trans (up_ne _ _ (by omega))).trans (hexa j hj9)
  replace hexc : ∀ j : Nat, j < n → ¬ j = x → c8 j = ce j := fun j hj9 q0 => ((congrFun hc8 j).trans (up_ne _ _ (by omega))).trans (hexc j hj9 q0)
  replace a_x : a8 (x) = h0 := ((congrFun ha8 _).trans (up_ne _ _ (by omega))).trans a_x
  replace e_x : c8 (x) = .inr (9, [.int (zI (0)), .ref q101, .int (zI (0)), .int (zI (0)), .int (zI (0)), .int (zI (0)), .int (zI (0)), .int (zI (0)), .int (zI (0)), .int (zI (0)), .long (zL (0)), .ref q104, .null, .null, .int (zI (0))]) := ((congrFun hc8 _).trans (up_ne _ _ (by omega))).trans e_x
  replace a_n : a8 (n) = q101 := ((congrFun ha8 _).trans (up_ne _ _ (by omega))).trans a_n
  replace e_n : c8 (n) = .inl (g.2 0, 740, .inl (fun _ => zI 0)) := ((congrFun hc8 _).trans (up_ne _ _ (by omega))).trans e_n
  replace a_n_1 : a8 (n + 1) = q104 := ((congrFun ha8 _).trans (up_ne _ _ (by omega))).trans a_n_1
  replace e_n_1 : c8 (n + 1) = .inl (g.2 0, 1567, .inl (fun _ => zI 0)) := ((congrFun hc8 _).trans (up_ne _ _ (by omega))).trans e_n_1
  have a_n_2 : a8 (n + 2) = q107 := (congrFun ha8 _).trans (up_at _ _ _)
  have e_n_2 : c8 (n + 2) = .inl (g.2 0, 1567, .inl (fun _ => zI 0)) := (congrFun hc8 _).trans (up_at _ _ _)
  clear ha8 hc8
  refine n_putF (ci := 9) (v := .ref q107) (ty := .array .int) (C := RX9) (T := TX9) (N := 15) hx hb hts hinX9 tyX9 tyX9_ok nmX9 hown hK hP hD hS (x) (show x < n + 3 by omega) a_x e_x rfl 12 (by decide) k73 (fun _ h9 => h9) rfl hin9 rfl (by decide +kernel) rfl rfl (Nat.le_of_ble_eq_true rfl) dX9_init_28 (fun H locs hP hD hS => ?_)
  obtain ⟨c9, hc9⟩ : ∃ x9 : Nat → va_E, x9 = va_up c8 (x) (.inr (9, [.int (zI (0)), .ref q101, .int (zI (0)), .int (zI (0)), .int (zI (0)), .int (zI (0)), .int (zI (0)), .int (zI (0)), .int (zI (0)), .int (zI (0)), .long (zL (0)), .ref q104, .ref q107, .null, .int (zI (0))])) := ⟨_, rfl⟩
  have hP : nP g (n + 3) a8 c9 H := by rw [hc9]; exact hP
  have hD : va_D A (nL (n + 3) a8 c9) := by rw [hc9]; exact hD
  replace hexc : ∀ j : Nat, j < n → ¬ j = x → c9 j = ce j := fun j hj9 q0 => ((congrFun hc9 j).trans (up_ne _ _ q0)).trans (hexc j hj9 q0)
  replace e_x : c9 (x) = .inr (9, [.int (zI (0)), .ref q101, .int (zI (0)), .int (zI (0)), .int (zI (0)), .int (zI (0)), .int (zI (0)), .int (zI (0)), .int (zI (0)), .int (zI (0)), .long (zL (0)), .ref q104, .ref q107, .null, .int (zI (0))]) := (congrFun hc9 _).trans (up_at _ _ _)
  replace e_n : c9 (n) = .inl (g.2 0, 740, .inl (fun _ => zI 0)) := ((congrFun hc9 _).trans (up_ne _ _ (by omega))).trans e_n
  replace e_n_1 : c9 (n + 1) = .inl (g.2 0, 1567, .inl (fun _ => zI 0)) := ((congrFun hc9 _).trans (up_ne _ _ (by omega))).trans e_n_1
  replace e_n_2 : c9 (n + 2) = .inl (g.2 0, 1567, .inl (fun _ => zI 0)) := ((congrFun hc9 _).trans (up_ne _ _ (by omega))).trans e_n_2
  clear hc9
  refine lv_aload_n hx hb dX9_init_31 rfl (lv_at hl 0 rfl) ?_
  refine lv_sipush (v := zI (15670)) hx hb dX9_init_32 (by decide) ?_
  refine n_newa (atype := .int) (ty := .int) (a0 := (15670, .inl (fun _ => zI 0))) (N' := 15670) hx hb kACint rfl hK hP hD hS hA 0 rfl (fun _ => rfl) (by omega) (by omega) (Nat.le_of_ble_eq_true rfl) (Nat.le_of_ble_eq_true rfl) (Nat.le_of_ble_eq_true rfl) dX9_init_35 (fun q110 H hP hD hS => ?_)
  obtain ⟨a11, ha11⟩ : ∃ x9 : Nat → Nat, x9 = va_up a8 (n + 3) q110 := ⟨_, rfl⟩
  obtain ⟨c11, hc11⟩ : ∃ x9 : Nat → va_E, x9 = va_up c9 (n + 3) (.inl (g.2 0, 15670, .inl (fun _ => zI 0))) := ⟨_, rfl⟩
  have hP : nP g (n + 4) a11 c11 H := by rw [ha11, hc11]; exact hP
  have hD : va_D A (nL (n + 4) a11 c11) := by rw [ha11, hc11]; exact hD
  replace hexa : ∀ j : Nat, j < n → a11 j = ad j := fun j hj9 => ((congrFun ha11 j).trans (up_ne _ _ (by omega))).trans (hexa j hj9)
  replace hexc : ∀ j : Nat, j < n → ¬ j = x → c11 j = ce j := fun j hj9 q0 => ((congrFun hc11 j).trans (up_ne _ _ (by omega))).trans (hexc j hj9 q0)
  replace a_x : a11 (x) = h0 := ((congrFun ha11 _).trans (up_ne _ _ (by omega))).trans a_x
  replace e_x : c11 (x) = .inr (9, [.int (zI (0)), .ref q101, .int (zI (0)), .int (zI (0)), .int (zI (0)), .int (zI (0)), .int (zI (0)), .int (zI (0)), .int (zI (0)), .int (zI (0)), .long (zL (0)), .ref q104, .ref q107, .null, .int (zI (0))]) := ((congrFun hc11 _).trans (up_ne _ _ (by omega))).trans e_x
  replace a_n : a11 (n) = q101 := ((congrFun ha11 _).trans (up_ne _ _ (by omega))).trans a_n
  replace e_n : c11 (n) = .inl (g.2 0, 740, .inl (fun _ => zI 0)) := ((congrFun hc11 _).trans (up_ne _ _ (by omega))).trans e_n
  replace a_n_1 : a11 (n + 1) = q104 := ((congrFun ha11 _).trans (up_ne _ _ (by omega))).trans a_n_1
  replace e_n_1 : c11 (n + 1) = .inl (g.2 0, 1567, .inl (fun _ => zI 0)) := ((congrFun hc11 _).trans (up_ne _ _ (by omega))).trans e_n_1
  replace a_n_2 : a11 (n + 2) = q107 := ((congrFun ha11 _).trans (up_ne _ _ (by omega))).trans a_n_2
  replace e_n_2 : c11 (n + 2) = .inl (g.2 0, 1567, .inl (fun _ => zI 0)) := ((congrFun hc11 _).trans (up_ne _ _ (by omega))).trans e_n_2
  have a_n_3 : a11 (n + 3) = q110 := (congrFun ha11 _).trans (up_at _ _ _)
  have e_n_3 : c11 (n + 3) = .inl (g.2 0, 15670, .inl (fun _ => zI 0)) := (congrFun hc11 _).trans (up_at _ _ _)
  clear ha11 hc11
  refine n_putF (ci := 9) (v := .ref q110) (ty := .array .int) (C := RX9) (T := TX9) (N := 15) hx hb hts hinX9 tyX9 tyX9_ok nmX9 hown hK hP hD hS (x) (show x < n + 4 by omega) a_x e_x rfl 13 (by decide) k76 (fun _ h9 => h9) rfl hin9 rfl (by decide +kernel) rfl rfl (Nat.le_of_ble_eq_true rfl) dX9_init_37 (fun H locs hP hD hS => ?_)
  obtain ⟨c12, hc12⟩ : ∃ x9 : Nat → va_E, x9 = va_up c11 (x) (.inr (9, [.int (zI (0)), .ref q101, .int (zI (0)), .int (zI (0)), .int (zI (0)), .int (zI (0)), .int (zI (0)), .int (zI (0)), .int (zI (0)), .int (zI (0)), .long (zL (0)), .ref q104, .ref q107, .ref q110, .int (zI (0))])) := ⟨_, rfl⟩
  have hP : nP g (n + 4) a11 c12 H := by rw [hc12]; exact hP
  have hD : va_D A (nL (n + 4) a11 c12) := by rw [hc12]; exact hD
  replace hexc : ∀ j : Nat, j < n → ¬ j = x → c12 j = ce j := fun j hj9 q0 => ((congrFun hc12 j).trans (up_ne _ _ q0)).trans (hexc j hj9 q0)
  replace e_x : c12 (x) = .inr (9, [.int (zI (0)), .ref q101, .int (zI (0)), .int (zI (0)), .int (zI (0)), .int (zI (0)), .int (zI (0)), .int (zI (0)), .int (zI (0)), .int (zI (0)), .long (zL (0)), .ref q104, .ref q107, .ref q110, .int (zI (0))]) := (congrFun hc12 _).trans (up_at _ _ _)
  replace e_n : c12 (n) = .inl (g.2 0, 740, .inl (fun _ => zI 0)) := ((congrFun hc12 _).trans (up_ne _ _ (by omega))).trans e_n
  replace e_n_1 : c12 (n + 1) = .inl (g.2 0, 1567, .inl (fun _ => zI 0)) := ((congrFun hc12 _).trans (up_ne _ _ (by omega))).trans e_n_1
  replace e_n_2 : c12 (n + 2) = .inl (g.2 0, 1567, .inl (fun _ => zI 0)) := ((congrFun hc12 _).trans (up_ne _ _ (by omega))).trans e_n_2
  replace e_n_3 : c12 (n + 3) = .inl (g.2 0, 15670, .inl (fun _ => zI 0)) := ((congrFun hc12 _).trans (up_ne _ _ (by omega))).trans e_n_3
  clear hc12
  refine lv_aload_n hx hb dX9_init_40 rfl (lv_at hl 0 rfl) ?_
  refine va_get (D := g.1) (ci := 9) (v := .ref q104) (C := RX9) (T := TX9) (N := 15) hx hb hts hinX9 hown hK (nb1 hP (show x < n + 4 by omega) a_x e_x) 0 rfl rfl 11 (by decide) k70 (fun _ h9 => h9) rfl dX9_init_41 ?_
  refine lv_iconst (v := zI (2)) hx hb dX9_init_44 (by decide) ?_
  refine lv_iconst (v := zI (1)) hx hb dX9_init_45 (by decide) ?_
  refine n_iast hx hb hK hP hD hS (n + 1) (show n + 1 < n + 4 by omega) a_n_1 e_n_1 (by decide) (2) (by omega) (by omega) dX9_init_46 (fun H locs hP hD hS => ?_)
  obtain ⟨c13, hc13⟩ : ∃ x9 : Nat → va_E, x9 = va_up c12 (n + 1) (.inl (g.2 0, 1567, .inl (upd (fun _ => zI 0) 2 (zI (1))))) := ⟨_, rfl⟩
  have hP : nP g (n + 4) a11 c13 H := by rw [hc13]; exact hP
  have hD : va_D A (nL (n + 4) a11 c13) := by rw [hc13]; exact hD
  replace hexc : ∀ j : Nat, j < n → ¬ j = x → c13 j = ce j := fun j hj9 q0 => ((congrFun hc13 j).trans (up_ne _ _ (by omega))).trans (hexc j hj9 q0)
  replace e_x : c13 (x) = .inr (9, [.int (zI (0)), .ref q101, .int (zI (0)), .int (zI (0)), .int (zI (0)), .int (zI (0)), .int (zI (0)), .int (zI (0)), .int (zI (0)), .int (zI (0)), .long (zL (0)), .ref q104, .ref q107, .ref q110, .int (zI (0))]) := ((congrFun hc13 _).trans (up_ne _ _ (by omega))).trans e_x
  replace e_n : c13 (n) = .inl (g.2 0, 740, .inl (fun _ => zI 0)) := ((congrFun hc13 _).trans (up_ne _ _ (by omega))).trans e_n
  replace e_n_1 : c13 (n + 1) = .inl (g.2 0, 1567, .inl (upd (fun _ => zI 0) 2 (zI (1)))) := (congrFun hc13 _).trans (up_at _ _ _)
  replace e_n_2 : c13 (n + 2) = .inl (g.2 0, 1567, .inl (fun _ => zI 0)) := ((congrFun hc13 _).trans (up_ne _ _ (by omega))).trans e_n_2
  replace e_n_3 : c13 (n + 3) = .inl (g.2 0, 15670, .inl (fun _ => zI 0)) := ((congrFun hc13 _).trans (up_ne _ _ (by omega))).trans e_n_3
  clear hc13
  have hQ9 := nQ_of (m := 4) hAe hD hexa
  exact W.vret hx hb hr (fun tX htX hWX => ⟨⟨(a11, c13), rfl, ⟨hQ9, fun j hj9 q0 => hexc j hj9 q0, e_x.trans (by dsimp only; rw [a_n, a_n_1, a_n_2, a_n_3]), e_n, e_n_1, e_n_2, e_n_3⟩, g_at htX hP⟩, hS.F htX⟩) hS.2.2 dX9_init_47
