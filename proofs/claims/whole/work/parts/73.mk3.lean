set_option maxHeartbeats 4000000 in
set_option maxRecDepth 100000 in
theorem c_X0_clear_N (l : Launch) (g : GG) (n : Nat) (ad : Nat → Nat) (ce : Nat → va_E) (sz : Nat) (x : Nat) (hx0 : x < n) (h0 : Nat) (ha0 : ad x = h0) (af : Nat → Int32) (e_x : ce (x) = .inr (0, [.int (af 0), .int (af 1), .int (af 2), .int (af 3), .int (af 4), .int (af 5), .int (af 6), .int (af 7), .int (af 8)])) : Met l yX0_clear wsX0_clear ({ frames := 1, cells := 0, slots := 0, locals := 12 }) (nPc g n ad ce sz [.ref h0]) (va_Qv (fun (u : (Nat → Nat) × (Nat → va_E)) => nQ n 0 ad sz u.1 ∧ (∀ i, i < n → ¬ i = x → u.2 i = ce i) ∧ u.2 (x) = .inr (0, [.int (zI (0)), .int (zI (0)), .int (zI (0)), .int (zI (0)), .int (zI (0)), .int (zI (0)), .int (zI (0)), .int (zI (0)), .int (zI (365))])) (fun u (tS : State) => nP g (n + 0) u.1 u.2 tS.heap) (nA n ad sz)) 0 0 (nA n ad sz) := by
  refine Met.ofW (cc := cX0_clear) (maxL := 1) (ret := none) (by decide) rfl ?_
  intro p e s m args below meth c s₁ B hml hv
  obtain ⟨rfl, hsz, hP, hD0, hK, hN⟩ := hv
  have hx := B.exec
  have hb := B.bytes
  have hr := B.returns
  have hts := atoms_spec (ws := wsX0_clear) B.pre
  have hown : s.vm.findClass RX0 = some m.cls := findClass_of_methodNamed B.named
  have hlocks := B.notSynchronized
  have hin9 := (name_of_methodNamed B.named B.method).1
  have hinX0 : ∀ w ∈ wsX00, w ∈ wsX0_clear := by decide +kernel
  have k15 := hts (.fieldLink RX0 15 "HoursBank$Account" "balance" "I") (by decide +kernel)
  have k18 := hts (.fieldLink RX0 18 "HoursBank$Account" "overtime" "I") (by decide +kernel)
  have k21 := hts (.fieldLink RX0 21 "HoursBank$Account" "docked" "I") (by decide +kernel)
  have k24 := hts (.fieldLink RX0 24 "HoursBank$Account" "overtimeCoins" "I") (by decide +kernel)
  have k27 := hts (.fieldLink RX0 27 "HoursBank$Account" "changeCoins" "I") (by decide +kernel)
  have k30 := hts (.fieldLink RX0 30 "HoursBank$Account" "dockedCoins" "I") (by decide +kernel)
  have k33 := hts (.fieldLink RX0 33 "HoursBank$Account" "settled" "I") (by decide +kernel)
  have k36 := hts (.fieldLink RX0 36 "HoursBank$Account" "flaggedDays" "I") (by decide +kernel)
  have k11 := hts (.fieldLink RX0 11 "HoursBank$Account" "goneOn" "I") (by decide +kernel)
  subst hsz
  obtain ⟨A, hAe⟩ : ∃ A, A = nA n ad s.heap.size := ⟨_, rfl⟩
  rw [← hAe]
  have hA : ∀ q : Nat, s.heap.size ≤ q → A q := fun q h => by rw [hAe]; exact Or.inr h
  have hD : va_D A (nL n ad ce) := nDa hD0 (fun i hi => by rw [hAe]; exact Or.inl ⟨i, hi, rfl⟩)
  have hl := lv_entry ([.ref h0]) (n := 1) (Nat.le_of_ble_eq_true rfl)
  rw [lg_entry_eq]
  generalize (lg_sl ([.ref h0]) ++ List.replicate (1 - (lg_sl ([.ref h0])).length) Slot.unset).toArray = ls at hl ⊢
  have hl : lv_has ls 1 [(0, .ref h0)] := hl
  have hS : va_S A s.heap s.heap [] := va_S.rf
  obtain ⟨H, hH9⟩ : ∃ H, H = s.heap := ⟨_, rfl⟩
  obtain ⟨locs, hL9⟩ : ∃ x9l : List Loc, x9l = [] := ⟨_, rfl⟩
  have hP : nP g n ad ce H := hH9 ▸ hP
  have hS : va_S A s.heap H locs := by rw [hH9, hL9]; exact hS
  refine z_start hH9 hL9 ?_
  clear hH9 hL9
  have hexa : ∀ j : Nat, j < n → ad j = ad j := fun _ _ => rfl
  have hexc : ∀ j : Nat, j < n → ce j = ce j := fun _ _ => rfl
  have a_x : ad (x) = h0 := ha0
  refine lv_aload_n hx hb dX0_clear_0 rfl (lv_at hl 0 rfl) ?_
  refine lv_iconst (v := zI (0)) hx hb dX0_clear_1 (by decide) ?_
  refine n_put (ci := 0) (v := .int (zI (0))) (ty := .int) (C := RX0) (T := TX0) (N := 9) hx hb hts hinX0 tyX0 tyX0_ok nmX0 hown hK hP hD hS (x) (show x < n by omega) a_x e_x rfl 0 (by decide) k15 (fun _ h9 => h9) rfl (by decide +kernel) rfl rfl (Nat.le_of_ble_eq_true rfl) dX0_clear_2 (fun H locs hP hD hS => ?_)
  obtain ⟨c1, hc1⟩ : ∃ x9 : Nat → va_E, x9 = va_up ce (x) (.inr (0, [.int (zI (0)), .int (af 1), .int (af 2), .int (af 3), .int (af 4), .int (af 5), .int (af 6), .int (af 7), .int (af 8)])) := ⟨_, rfl⟩
  have hP : nP g (n) ad c1 H := by rw [hc1]; exact hP
  have hD : va_D A (nL (n) ad c1) := by rw [hc1]; exact hD
  replace hexc : ∀ j : Nat, j < n → ¬ j = x → c1 j = ce j := fun j hj9 q0 => ((congrFun hc1 j).trans (up_ne _ _ q0)).trans (hexc j hj9 )
  replace e_x : c1 (x) = .inr (0, [.int (zI (0)), .int (af 1), .int (af 2), .int (af 3), .int (af 4), .int (af 5), .int (af 6), .int (af 7), .int (af 8)]) := (congrFun hc1 _).trans (up_at _ _ _)
  clear hc1
  refine lv_aload_n hx hb dX0_clear_5 rfl (lv_at hl 0 rfl) ?_
  refine lv_iconst (v := zI (0)) hx hb dX0_clear_6 (by decide) ?_
  refine n_put (ci := 0) (v := .int (zI (0))) (ty := .int) (C := RX0) (T := TX0) (N := 9) hx hb hts hinX0 tyX0 tyX0_ok nmX0 hown hK hP hD hS (x) (show x < n by omega) a_x e_x rfl 1 (by decide) k18 (fun _ h9 => h9) rfl (by decide +kernel) rfl rfl (Nat.le_of_ble_eq_true rfl) dX0_clear_7 (fun H locs hP hD hS => ?_)
  obtain ⟨c2, hc2⟩ : ∃ x9 : Nat → va_E, x9 = va_up c1 (x) (.inr (0, [.int (zI (0)), .int (zI (0)), .int (af 2), .int (af 3), .int (af 4), .int (af 5), .int (af 6), .int (af 7), .int (af 8)])) := ⟨_, rfl⟩
  have hP : nP g (n) ad c2 H := by rw [hc2]; exact hP
  have hD : va_D A (nL (n) ad c2) := by rw [hc2]; exact hD
  replace hexc : ∀ j : Nat, j < n → ¬ j = x → c2 j = ce j := fun j hj9 q0 => ((congrFun hc2 j).trans (up_ne _ _ q0)).trans (hexc j hj9 q0)
  replace e_x : c2 (x) = .inr (0, [.int (zI (0)), .int (zI (0)), .int (af 2), .int (af 3), .int (af 4), .int (af 5), .int (af 6), .int (af 7), .int (af 8)]) := (congrFun hc2 _).trans (up_at _ _ _)
  clear hc2
  refine lv_aload_n hx hb dX0_clear_10 rfl (lv_at hl 0 rfl) ?_
  refine lv_iconst (v := zI (0)) hx hb dX0_clear_11 (by decide) ?_
  refine n_put (ci := 0) (v := .int (zI (0))) (ty := .int) (C := RX0) (T := TX0) (N := 9) hx hb hts hinX0 tyX0 tyX0_ok nmX0 hown hK hP hD hS (x) (show x < n by omega) a_x e_x rfl 2 (by decide) k21 (fun _ h9 => h9) rfl (by decide +kernel) rfl rfl (Nat.le_of_ble_eq_true rfl) dX0_clear_12 (fun H locs hP hD hS => ?_)
  obtain ⟨c3, hc3⟩ : ∃ x9 : Nat → va_E, x9 = va_up c2 (x) (.inr (0, [.int (zI (0)), .int (zI (0)), .int (zI (0)), .int (af 3), .int (af 4), .int (af 5), .int (af 6), .int (af 7), .int (af 8)])) := ⟨_, rfl⟩
  have hP : nP g (n) ad c3 H := by rw [hc3]; exact hP
  have hD : va_D A (nL (n) ad c3) := by rw [hc3]; exact hD
  replace hexc : ∀ j : Nat, j < n → ¬ j = x → c3 j = ce j := fun j hj9 q0 => ((congrFun hc3 j).trans (up_ne _ _ q0)).trans (hexc j hj9 q0)
  replace e_x : c3 (x) = .inr (0, [.int (zI (0)), .int (zI (0)), .int (zI (0)), .int (af 3), .int (af 4), .int (af 5), .int (af 6), .int (af 7), .int (af 8)]) := (congrFun hc3 _).trans (up_at _ _ _)
  clear hc3
  refine lv_aload_n hx hb dX0_clear_15 rfl (lv_at hl 0 rfl) ?_
  refine lv_iconst (v := zI (0)) hx hb dX0_clear_16 (by decide) ?_
  refine n_put (ci := 0) (v := .int (zI (0))) (ty := .int) (C := RX0) (T := TX0) (N := 9) hx hb hts hinX0 tyX0 tyX0_ok nmX0 hown hK hP hD hS (x) (show x < n by omega) a_x e_x rfl 3 (by decide) k24 (fun _ h9 => h9) rfl (by decide +kernel) rfl rfl (Nat.le_of_ble_eq_true rfl) dX0_clear_17 (fun H locs hP hD hS => ?_)
  obtain ⟨c4, hc4⟩ : ∃ x9 : Nat → va_E, x9 = va_up c3 (x) (.inr (0, [.int (zI (0)), .int (zI (0)), .int (zI (0)), .int (zI (0)), .int (af 4), .int (af 5), .int (af 6), .int (af 7), .int (af 8)])) := ⟨_, rfl⟩
  have hP : nP g (n) ad c4 H := by rw [hc4]; exact hP
  have hD : va_D A (nL (n) ad c4) := by rw [hc4]; exact hD
  replace hexc : ∀ j : Nat, j < n → ¬ j = x → c4 j = ce j := fun j hj9 q0 => ((congrFun hc4 j).trans (up_ne _ _ q0)).trans (hexc j hj9 q0)
  replace e_x : c4 (x) = .inr (0, [.int (zI (0)), .int (zI (0)), .int (zI (0)), .int (zI (0)), .int (af 4), .int (af 5), .int (af 6), .int (af 7), .int (af 8)]) := (congrFun hc4 _).trans (up_at _ _ _)
  clear hc4
  refine lv_aload_n hx hb dX0_clear_20 rfl (lv_at hl 0 rfl) ?_
  refine lv_iconst (v := zI (0)) hx hb dX0_clear_21 (by decide) ?_
  refine n_put (ci := 0) (v := .int (zI (0))) (ty := .int) (C := RX0) (T := TX0) (N := 9) hx hb hts hinX0 tyX0 tyX0_ok nmX0 hown hK hP hD hS (x) (show x < n by omega) a_x e_x rfl 4 (by decide) k27 (fun _ h9 => h9) rfl (by decide +kernel) rfl rfl (Nat.le_of_ble_eq_true rfl) dX0_clear_22 (fun H locs hP hD hS => ?_)
  obtain ⟨c5, hc5⟩ : ∃ x9 : Nat → va_E, x9 = va_up c4 (x) (.inr (0, [.int (zI (0)), .int (zI (0)), .int (zI (0)), .int (zI (0)), .int (zI (0)), .int (af 5), .int (af 6), .int (af 7), .int (af 8)])) := ⟨_, rfl⟩
  have hP : nP g (n) ad c5 H := by rw [hc5]; exact hP
  have hD : va_D A (nL (n) ad c5) := by rw [hc5]; exact hD
  replace hexc : ∀ j : Nat, j < n → ¬ j = x → c5 j = ce j := fun j hj9 q0 => ((congrFun hc5 j).trans (up_ne _ _ q0)).trans (hexc j hj9 q0)
  replace e_x : c5 (x) = .inr (0, [.int (zI (0)), .int (zI (0)), .int (zI (0)), .int (zI (0)), .int (zI (0)), .int (af 5), .int (af 6), .int (af 7), .int (af 8)]) := (congrFun hc5 _).trans (up_at _ _ _)
  clear hc5
  refine lv_aload_n hx hb dX0_clear_25 rfl (lv_at hl 0 rfl) ?_
  refine lv_iconst (v := zI (0)) hx hb dX0_clear_26 (by decide) ?_
  refine n_put (ci := 0) (v := .int (zI (0))) (ty := .int) (C := RX0) (T := TX0) (N := 9) hx hb hts hinX0 tyX0 tyX0_ok nmX0 hown hK hP hD hS (x) (show x < n by omega) a_x e_x rfl 5 (by decide) k30 (fun _ h9 => h9) rfl (by decide +kernel) rfl rfl (Nat.le_of_ble_eq_true rfl) dX0_clear_27 (fun H locs hP hD hS => ?_)
  obtain ⟨c6, hc6⟩ : ∃ x9 : Nat → va_E, x9 = va_up c5 (x) (.inr (0, [.int (zI (0)), .int (zI (0)), .int (zI (0)), .int (zI (0)), .int (zI (0)), .int (zI (0)), .int (af 6), .int (af 7), .int (af 8)])) := ⟨_, rfl⟩
  have hP : nP g (n) ad c6 H := by rw [hc6]; exact hP
  have hD : va_D A (nL (n) ad c6) := by rw [hc6]; exact hD
  replace hexc : ∀ j : Nat, j < n → ¬ j = x → c6 j = ce j := fun j hj9 q0 => ((congrFun hc6 j).trans (up_ne _ _ q0)).trans (hexc j hj9 q0)
  replace e_x : c6 (x) = .inr (0, [.int (zI (0)), .int (zI (0)), .int (zI (0)), .int (zI (0)), .int (zI (0)), .int (zI (0)), .int (af 6), .int (af 7), .int (af 8)]) := (congrFun hc6 _).trans (up_at _ _ _)
  clear hc6
  refine lv_aload_n hx hb dX0_clear_30 rfl (lv_at hl 0 rfl) ?_
  refine lv_iconst (v := zI (0)) hx hb dX0_clear_31 (by decide) ?_
  refine n_put (ci := 0) (v := .int (zI (0))) (ty := .int) (C := RX0) (T := TX0) (N := 9) hx hb hts hinX0 tyX0 tyX0_ok nmX0 hown hK hP hD hS (x) (show x < n by omega) a_x e_x rfl 6 (by decide) k33 (fun _ h9 => h9) rfl (by decide +kernel) rfl rfl (Nat.le_of_ble_eq_true rfl) dX0_clear_32 (fun H locs hP hD hS => ?_)
  obtain ⟨c7, hc7⟩ : ∃ x9 : Nat → va_E, x9 = va_up c6 (x) (.inr (0, [.int (zI (0)), .int (zI (0)), .int (zI (0)), .int (zI (0)), .int (zI (0)), .int (zI (0)), .int (zI (0)), .int (af 7), .int (af 8)])) := ⟨_, rfl⟩
  have hP : nP g (n) ad c7 H := by rw [hc7]; exact hP
  have hD : va_D A (nL (n) ad c7) := by rw [hc7]; exact hD
  replace hexc : ∀ j : Nat, j < n → ¬ j = x → c7 j = ce j := fun j hj9 q0 => ((congrFun hc7 j).trans (up_ne _ _ q0)).trans (hexc j hj9 q0)
  replace e_x : c7 (x) = .inr (0, [.int (zI (0)), .int (zI (0)), .int (zI (0)), .int (zI (0)), .int (zI (0)), .int (zI (0)), .int (zI (0)), .int (af 7), .int (af 8)]) := (congrFun hc7 _).trans (up_at _ _ _)
  clear hc7
  refine lv_aload_n hx hb dX0_clear_35 rfl (lv_at hl 0 rfl) ?_
  refine lv_iconst (v := zI (0)) hx hb dX0_clear_36 (by decide) ?_
  refine n_put (ci := 0) (v := .int (zI (0))) (ty := .int) (C := RX0) (T := TX0) (N := 9) hx hb hts hinX0 tyX0 tyX0_ok nmX0 hown hK hP hD hS (x) (show x < n by omega) a_x e_x rfl 7 (by decide) k36 (fun _ h9 => h9) rfl (by decide +kernel) rfl rfl (Nat.le_of_ble_eq_true rfl) dX0_clear_37 (fun H locs hP hD hS => ?_)
  obtain ⟨c8, hc8⟩ : ∃ x9 : Nat → va_E, x9 = va_up c7 (x) (.inr (0, [.int (zI (0)), .int (zI (0)), .int (zI (0)), .int (zI (0)), .int (zI (0)), .int (zI (0)), .int (zI (0)), .int (zI (0)), .int (af 8)])) := ⟨_, rfl⟩
  have hP : nP g (n) ad c8 H := by rw [hc8]; exact hP
  have hD : va_D A (nL (n) ad c8) := by rw [hc8]; exact hD
  replace hexc : ∀ j : Nat, j < n → ¬ j = x → c8 j = ce j := fun j hj9 q0 => ((congrFun hc8 j).trans (up_ne _ _ q0)).trans (hexc j hj9 q0)
  replace e_x : c8 (x) = .inr (0, [.int (zI (0)), .int (zI (0)), .int (zI (0)), .int (zI (0)), .int (zI (0)), .int (zI (0)), .int (zI (0)), .int (zI (0)), .int (af 8)]) := (congrFun hc8 _).trans (up_at _ _ _)
  clear hc8
  refine lv_aload_n hx hb dX0_clear_40 rfl (lv_at hl 0 rfl) ?_
  refine lv_sipush (v := zI (365)) hx hb dX0_clear_41 (by decide) ?_
  refine n_put (ci := 0) (v := .int (zI (365))) (ty := .int) (C := RX0) (T := TX0) (N := 9) hx hb hts hinX0 tyX0 tyX0_ok nmX0 hown hK hP hD hS (x) (show x < n by omega) a_x e_x rfl 8 (by decide) k11 (fun _ h9 => h9) rfl (by decide +kernel) rfl rfl (Nat.le_of_ble_eq_true rfl) dX0_clear_44 (fun H locs hP hD hS => ?_)
  obtain ⟨c9, hc9⟩ : ∃ x9 : Nat → va_E, x9 = va_up c8 (x) (.inr (0, [.int (zI (0)), .int (zI (0)), .int (zI (0)), .int (zI (0)), .int (zI (0)), .int (zI (0)), .int (zI (0)), .int (zI (0)), .int (zI (365))])) := ⟨_, rfl⟩
  have hP : nP g (n) ad c9 H := by rw [hc9]; exact hP
  have hD : va_D A (nL (n) ad c9) := by rw [hc9]; exact hD
  replace hexc : ∀ j : Nat, j < n → ¬ j = x → c9 j = ce j := fun j hj9 q0 => ((congrFun hc9 j).trans (up_ne _ _ q0)).trans (hexc j hj9 q0)
  replace e_x : c9 (x) = .inr (0, [.int (zI (0)), .int (zI (0)), .int (zI (0)), .int (zI (0)), .int (zI (0)), .int (zI (0)), .int (zI (0)), .int (zI (0)), .int (zI (365))]) := (congrFun hc9 _).trans (up_at _ _ _)
  clear hc9
  have hQ9 := nQ_of (m := 0) hAe hD hexa
  exact W.vret hx hb hr (fun tX htX hWX => ⟨⟨(ad, c9), rfl, ⟨hQ9, fun j hj9 q0 => hexc j hj9 q0, e_x⟩, g_at htX hP⟩, hS.F htX⟩) hS.2.2 dX0_clear_47

set_option maxHeartbeats 4000000 in
set_option maxRecDepth 100000 in
theorem c_X2_rateOf_N (l : Launch) (g : GG) (n : Nat) (ad : Nat → Nat) (ce : Nat → va_E) (sz : Nat) (x : Nat) (hx0 : x < n) (h0 : Nat) (ha0 : ad x = h0) (z : Nat) (hz0 : z < n) (h2 : Nat) (ha2 : ad z = h2) (t : Nat) (ht0 : t < n) (h3 : Nat) (ha3 : ad t = h3) (v0 v1 v2 v4 : Value) (f1 : Nat → Option Nat) (w : Nat) (hw : w < 4) (hf1 : f1 w = some h3) (rr : Nat → Int32) (e_x : ce (x) = .inr (2, [v0, v1, v2, .ref h2, v4])) (e_z : ce (z) = .inl (g.2 6, 4, .inr (.inr (.inr (.inr (f1)))))) (e_t : ce (t) = .inl (g.2 0, 2, .inl (rr))) : Met l yX2_rateOf wsX2_rateOf ({ frames := 1, cells := 0, slots := 0, locals := 12 }) (nPc g n ad ce sz [.ref h0, .int (zI (w))]) (va_Qi (fun (r : Int32) (u : (Nat → Nat) × (Nat → va_E)) => r = rr 0 ∧ nQ n 0 ad sz u.1 ∧ (∀ i, i < n → u.2 i = ce i)) (fun u (tS : State) => nP g (n + 0) u.1 u.2 tS.heap) (nA n ad sz)) 0 0 (nA n ad sz) := by
  refine Met.ofW (cc := cX2_rateOf) (maxL := 2) (ret := (some .int)) (by decide) rfl ?_
  intro p e s m args below meth c s₁ B hml hv
  obtain ⟨rfl, hsz, hP, hD0, hK, hN⟩ := hv
  have hx := B.exec
  have hb := B.bytes
  have hr := B.returns
  have hts := atoms_spec (ws := wsX2_rateOf) B.pre
  have hown : s.vm.findClass RX2 = some m.cls := findClass_of_methodNamed B.named
  have hlocks := B.notSynchronized
  have hin9 := (name_of_methodNamed B.named B.method).1
  have hinX2 : ∀ w ∈ wsX20, w ∈ wsX2_rateOf := by decide +kernel
  have k22 := hts (.fieldLink RX2 22 "HoursBank$Rules" "workers" "[[I") (by decide +kernel)
  subst hsz
  obtain ⟨A, hAe⟩ : ∃ A, A = nA n ad s.heap.size := ⟨_, rfl⟩
  rw [← hAe]
  have hA : ∀ q : Nat, s.heap.size ≤ q → A q := fun q h => by rw [hAe]; exact Or.inr h
  have hD : va_D A (nL n ad ce) := nDa hD0 (fun i hi => by rw [hAe]; exact Or.inl ⟨i, hi, rfl⟩)
  have hl := lv_entry ([.ref h0, .int (zI (w))]) (n := 2) (Nat.le_of_ble_eq_true rfl)
  rw [lg_entry_eq]
  generalize (lg_sl ([.ref h0, .int (zI (w))]) ++ List.replicate (2 - (lg_sl ([.ref h0, .int (zI (w))])).length) Slot.unset).toArray = ls at hl ⊢
  have hl : lv_has ls 2 [(0, .ref h0), (1, .int (zI (w)))] := hl
  have hS : va_S A s.heap s.heap [] := va_S.rf
  obtain ⟨H, hH9⟩ : ∃ H, H = s.heap := ⟨_, rfl⟩
  obtain ⟨locs, hL9⟩ : ∃ x9l : List Loc, x9l = [] := ⟨_, rfl⟩
  have hP : nP g n ad ce H := hH9 ▸ hP
  have hS : va_S A s.heap H locs := by rw [hH9, hL9]; exact hS
  refine z_start hH9 hL9 ?_
  clear hH9 hL9
  have hexa : ∀ j : Nat, j < n → ad j = ad j := fun _ _ => rfl
  have hexc : ∀ j : Nat, j < n → ce j = ce j := fun _ _ => rfl
  have a_x : ad (x) = h0 := ha0
  have a_z : ad (z) = h2 := ha2
  have a_t : ad (t) = h3 := ha3
  refine lv_aload_n hx hb dX2_rateOf_0 rfl (lv_at hl 0 rfl) ?_
  refine va_get (D := g.1) (ci := 2) (v := .ref h2) (C := RX2) (T := TX2) (N := 5) hx hb hts hinX2 hown hK (nb1 hP (show x < n by omega) a_x e_x) 0 rfl rfl 3 (by decide) k22 (fun _ h9 => h9) rfl dX2_rateOf_1 ?_
  refine lv_iload_n hx hb dX2_rateOf_4 rfl (lv_at hl 1 rfl) ?_
  refine z_aald hx hb hK (nb1 hP (show z < n by omega) a_z e_z) 0 6 rfl rfl rfl (by decide) (w) (by omega) (by omega) hf1 dX2_rateOf_5 ?_
  refine lv_iconst (v := zI (0)) hx hb dX2_rateOf_6 (by decide) ?_
  refine z_iald hx hb hK (nb1 hP (show t < n by omega) a_t e_t) 0 0 rfl rfl (by decide) (0) (by omega) (by omega) dX2_rateOf_7 ?_
  have hQ9 := nQ_of (m := 0) hAe hD hexa
  exact W.iret hx hb hr (fun tX htX hWX => ⟨⟨_, (ad, ce), rfl, ⟨rfl, hQ9, fun j hj9  => hexc j hj9 ⟩, g_at htX hP⟩, hS.F htX⟩) hS.2.2 dX2_rateOf_8

set_option maxHeartbeats 4000000 in
set_option maxRecDepth 100000 in
theorem c_X2_leaveOf_N (l : Launch) (g : GG) (n : Nat) (ad : Nat → Nat) (ce : Nat → va_E) (sz : Nat) (x : Nat) (hx0 : x < n) (h0 : Nat) (ha0 : ad x = h0) (z : Nat) (hz0 : z < n) (h2 : Nat) (ha2 : ad z = h2) (t : Nat) (ht0 : t < n) (h3 : Nat) (ha3 : ad t = h3) (v0 v1 v2 v4 : Value) (f1 : Nat → Option Nat) (w : Nat) (hw : w < 4) (hf1 : f1 w = some h3) (rr : Nat → Int32) (e_x : ce (x) = .inr (2, [v0, v1, v2, .ref h2, v4])) (e_z : ce (z) = .inl (g.2 6, 4, .inr (.inr (.inr (.inr (f1)))))) (e_t : ce (t) = .inl (g.2 0, 2, .inl (rr))) : Met l yX2_leaveOf wsX2_leaveOf ({ frames := 1, cells := 0, slots := 0, locals := 12 }) (nPc g n ad ce sz [.ref h0, .int (zI (w))]) (va_Qi (fun (r : Int32) (u : (Nat → Nat) × (Nat → va_E)) => r = rr 1 ∧ nQ n 0 ad sz u.1 ∧ (∀ i, i < n → u.2 i = ce i)) (fun u (tS : State) => nP g (n + 0) u.1 u.2 tS.heap) (nA n ad sz)) 0 0 (nA n ad sz) := by
  refine Met.ofW (cc := cX2_leaveOf) (maxL := 2) (ret := (some .int)) (by decide) rfl ?_
  intro p e s m args below meth c s₁ B hml hv
  obtain ⟨rfl, hsz, hP, hD0, hK, hN⟩ := hv
  have hx := B.exec
  have hb := B.bytes
  have hr := B.returns
  have hts := atoms_spec (ws := wsX2_leaveOf) B.pre
  have hown : s.vm.findClass RX2 = some m.cls := findClass_of_methodNamed B.named
  have hlocks := B.notSynchronized
  have hin9 := (name_of_methodNamed B.named B.method).1
  have hinX2 : ∀ w ∈ wsX20, w ∈ wsX2_leaveOf := by decide +kernel
  have k22 := hts (.fieldLink RX2 22 "HoursBank$Rules" "workers" "[[I") (by decide +kernel)
  subst hsz
  obtain ⟨A, hAe⟩ : ∃ A, A = nA n ad s.heap.size := ⟨_, rfl⟩
  rw [← hAe]
  have hA : ∀ q : Nat, s.heap.size ≤ q → A q := fun q h => by rw [hAe]; exact Or.inr h
  have hD : va_D A (nL n ad ce) := nDa hD0 (fun i hi => by rw [hAe]; exact Or.inl ⟨i, hi, rfl⟩)
  have hl := lv_entry ([.ref h0, .int (zI (w))]) (n := 2) (Nat.le_of_ble_eq_true rfl)
  rw [lg_entry_eq]
  generalize (lg_sl ([.ref h0, .int (zI (w))]) ++ List.replicate (2 - (lg_sl ([.ref h0, .int (zI (w))])).length) Slot.unset).toArray = ls at hl ⊢
  have hl : lv_has ls 2 [(0, .ref h0), (1, .int (zI (w)))] := hl
  have hS : va_S A s.heap s.heap [] := va_S.rf
  obtain ⟨H, hH9⟩ : ∃ H, H = s.heap := ⟨_, rfl⟩
  obtain ⟨locs, hL9⟩ : ∃ x9l : List Loc, x9l = [] := ⟨_, rfl⟩
  have hP : nP g n ad ce H := hH9 ▸ hP
  have hS : va_S A s.heap H locs := by rw [hH9, hL9]; exact hS
  refine z_start hH9 hL9 ?_
  clear hH9 hL9
  have hexa : ∀ j : Nat, j < n → ad j = ad j := fun _ _ => rfl
  have hexc : ∀ j : Nat, j < n → ce j = ce j := fun _ _ => rfl
  have a_x : ad (x) = h0 := ha0
  have a_z : ad (z) = h2 := ha2
  have a_t : ad (t) = h3 := ha3
  refine lv_aload_n hx hb dX2_leaveOf_0 rfl (lv_at hl 0 rfl) ?_
  refine va_get (D := g.1) (ci := 2) (v := .ref h2) (C := RX2) (T := TX2) (N := 5) hx hb hts hinX2 hown hK (nb1 hP (show x < n by omega) a_x e_x) 0 rfl rfl 3 (by decide) k22 (fun _ h9 => h9) rfl dX2_leaveOf_1 ?_
  refine lv_iload_n hx hb dX2_leaveOf_4 rfl (lv_at hl 1 rfl) ?_
  refine z_aald hx hb hK (nb1 hP (show z < n by omega) a_z e_z) 0 6 rfl rfl rfl (by decide) (w) (by omega) (by omega) hf1 dX2_leaveOf_5 ?_
  refine lv_iconst (v := zI (1)) hx hb dX2_leaveOf_6 (by decide) ?_
  refine z_iald hx hb hK (nb1 hP (show t < n by omega) a_t e_t) 0 0 rfl rfl (by decide) (1) (by omega) (by omega) dX2_leaveOf_7 ?_
  have hQ9 := nQ_of (m := 0) hAe hD hexa
  exact W.iret hx hb hr (fun tX htX hWX => ⟨⟨_, (ad, ce), rfl, ⟨rfl, hQ9, fun j hj9  => hexc j hj9 ⟩, g_at htX hP⟩, hS.F htX⟩) hS.2.2 dX2_leaveOf_8

set_option maxHeartbeats 4000000 in
set_option maxRecDepth 100000 in
theorem c_X3_begin_N (l : Launch) (g : GG) (n : Nat) (ad : Nat → Nat) (ce : Nat → va_E) (sz : Nat) (x : Nat) (hx0 : x < n) (h0 : Nat) (ha0 : ad x = h0) (b9 : Nat) (h4 : Nat) (ha4 : ad (b9) = h4) (h5 : Nat) (ha5 : ad (b9 + 1) = h5) (h6 : Nat) (ha6 : ad (b9 + 2) = h6) (h7 : Nat) (ha7 : ad (b9 + 3) = h7) (y : Nat) (hy0 : y < n) (h1 : Nat) (ha1 : ad y = h1) (z : Nat) (hz0 : z < n) (h2 : Nat) (ha2 : ad z = h2) (t : Nat) (ht0 : t < n) (h3 : Nat) (ha3 : ad t = h3) (v0 v1 v2 v4 : Value) (f1 : Nat → Option Nat) (w : Nat) (hw : w < 4) (hf1 : f1 w = some h3) (rr : Nat → Int32) (c0 t0 f0 af : Nat → Int32) (w4 w5 w6 : Value) (hd9 : y < z ∧ z < t ∧ t < x ∧ x < b9 ∧ b9 + 3 < n) (e_x : ce (x) = .inr (3, [.ref h4, .ref h5, .ref h6, .ref h7, w4, w5, w6])) (e_b9 : ce (b9) = .inl (g.2 0, 364, .inl (c0))) (e_b9_1 : ce (b9 + 1) = .inl (g.2 0, 364, .inl (t0))) (e_b9_2 : ce (b9 + 2) = .inl (g.2 2, 364, .inl (f0))) (e_b9_3 : ce (b9 + 3) = .inr (0, [.int (af 0), .int (af 1), .int (af 2), .int (af 3), .int (af 4), .int (af 5), .int (af 6), .int (af 7), .int (af 8)])) (e_y : ce (y) = .inr (2, [v0, v1, v2, .ref h2, v4])) (e_z : ce (z) = .inl (g.2 6, 4, .inr (.inr (.inr (.inr (f1)))))) (e_t : ce (t) = .inl (g.2 0, 2, .inl (rr))) : Met l yX3_begin wsX3_begin ({ frames := 2, cells := 0, slots := 0, locals := 33 }) (nPc g n ad ce sz [.ref h0, .ref h1, .int (zI (w))]) (va_Qv (fun (u : (Nat → Nat) × (Nat → va_E)) => nQ n 0 ad sz u.1 ∧ (∀ i, i < n → ¬ i = x → ¬ i = b9 → ¬ i = b9 + 1 → ¬ i = b9 + 2 → ¬ i = b9 + 3 → u.2 i = ce i) ∧ u.2 (x) = .inr (3, [.ref h4, .ref h5, .ref h6, .ref h7, .int (rr 0), .int (rr 1), .ref h1]) ∧ u.2 (b9) = .inl (g.2 0, 364, .inl (fillR (zI (-1)) c0 364)) ∧ u.2 (b9 + 1) = .inl (g.2 0, 364, .inl (fillR (zI (0)) t0 364)) ∧ u.2 (b9 + 2) = .inl (g.2 2, 364, .inl (fillR (zI (0)) f0 364)) ∧ u.2 (b9 + 3) = .inr (0, [.int (zI (0)), .int (zI (0)), .int (zI (0)), .int (zI (0)), .int (zI (0)), .int (zI (0)), .int (zI (0)), .int (zI (0)), .int (zI (365))])) (fun u (tS : State) => nP g (n + 0) u.1 u.2 tS.heap) (nA n ad sz)) 0 0 (nA n ad sz) := by
  refine Met.ofW (cc := cX3_begin) (maxL := 4) (ret := none) (by decide) rfl ?_
  intro p e s m args below meth c s₁ B hml hv
  obtain ⟨rfl, hsz, hP, hD0, hK, hN⟩ := hv
  have hx := B.exec
  have hb := B.bytes
  have hr := B.returns
  have hts := atoms_spec (ws := wsX3_begin) B.pre
  have hown : s.vm.findClass RX3 = some m.cls := findClass_of_methodNamed B.named
  have hlocks := B.notSynchronized
  have hin9 := (name_of_methodNamed B.named B.method).1
  have hinX3 : ∀ w ∈ wsX30, w ∈ wsX3_begin := by decide +kernel
  have k33 := hts (.fieldLink RX3 33 "HoursBank$Sheet" "rules" "LHoursBank$Rules;") (by decide +kernel)
  have k43 := hts (.fieldLink RX3 43 "HoursBank$Sheet" "rate" "I") (by decide +kernel)
  have k50 := hts (.fieldLink RX3 50 "HoursBank$Sheet" "leaveInAll" "I") (by decide +kernel)
  have k25 := hts (.fieldLink RX3 25 "HoursBank$Sheet" "account" "LHoursBank$Account;") (by decide +kernel)
  have k9 := hts (.fieldLink RX3 9 "HoursBank$Sheet" "changed" "[I") (by decide +kernel)
  have k15 := hts (.fieldLink RX3 15 "HoursBank$Sheet" "told" "[I") (by decide +kernel)
  have k18 := hts (.fieldLink RX3 18 "HoursBank$Sheet" "flagged" "[Z") (by decide +kernel)
  subst hsz
  obtain ⟨A, hAe⟩ : ∃ A, A = nA n ad s.heap.size := ⟨_, rfl⟩
  rw [← hAe]
  have hA : ∀ q : Nat, s.heap.size ≤ q → A q := fun q h => by rw [hAe]; exact Or.inr h
  have hD : va_D A (nL n ad ce) := nDa hD0 (fun i hi => by rw [hAe]; exact Or.inl ⟨i, hi, rfl⟩)
  have hl := lv_entry ([.ref h0, .ref h1, .int (zI (w))]) (n := 4) (Nat.le_of_ble_eq_true rfl)
  rw [lg_entry_eq]
  generalize (lg_sl ([.ref h0, .ref h1, .int (zI (w))]) ++ List.replicate (4 - (lg_sl ([.ref h0, .ref h1, .int (zI (w))])).length) Slot.unset).toArray = ls at hl ⊢
  have hl : lv_has ls 4 [(0, .ref h0), (1, .ref h1), (2, .int (zI (w)))] := hl
  have hS : va_S A s.heap s.heap [] := va_S.rf
  obtain ⟨H, hH9⟩ : ∃ H, H = s.heap := ⟨_, rfl⟩
  obtain ⟨locs, hL9⟩ : ∃ x9l : List Loc, x9l = [] := ⟨_, rfl⟩
  have hP : nP g n ad ce H := hH9 ▸ hP
  have hS : va_S A s.heap H locs := by rw [hH9, hL9]; exact hS
  refine z_start hH9 hL9 ?_
  clear hH9 hL9
  have hexa : ∀ j : Nat, j < n → ad j = ad j := fun _ _ => rfl
  have hexc : ∀ j : Nat, j < n → ce j = ce j := fun _ _ => rfl
  have a_x : ad (x) = h0 := ha0
  have a_b9 : ad (b9) = h4 := ha4
  have a_b9_1 : ad (b9 + 1) = h5 := ha5
  have a_b9_2 : ad (b9 + 2) = h6 := ha6
  have a_b9_3 : ad (b9 + 3) = h7 := ha7
  have a_y : ad (y) = h1 := ha1
  have a_z : ad (z) = h2 := ha2
  have a_t : ad (t) = h3 := ha3
  refine lv_aload_n hx hb dX3_begin_0 rfl (lv_at hl 0 rfl) ?_
  refine lv_aload_n hx hb dX3_begin_1 rfl (lv_at hl 1 rfl) ?_
  refine n_put (ci := 3) (v := .ref h1) (ty := .object "HoursBank$Rules") (C := RX3) (T := TX3) (N := 7) hx hb hts hinX3 tyX3 tyX3_ok nmX3 hown hK hP hD hS (x) (show x < n by omega) a_x e_x rfl 6 (by decide) k33 (fun _ h9 => h9) rfl (by decide +kernel) rfl rfl (Nat.le_of_ble_eq_true rfl) dX3_begin_2 (fun H locs hP hD hS => ?_)
  obtain ⟨c1, hc1⟩ : ∃ x9 : Nat → va_E, x9 = va_up ce (x) (.inr (3, [.ref h4, .ref h5, .ref h6, .ref h7, w4, w5, .ref h1])) := ⟨_, rfl⟩
  have hP : nP g (n) ad c1 H := by rw [hc1]; exact hP
  have hD : va_D A (nL (n) ad c1) := by rw [hc1]; exact hD
  replace hexc : ∀ j : Nat, j < n → ¬ j = x → c1 j = ce j := fun j hj9 q0 => ((congrFun hc1 j).trans (up_ne _ _ q0)).trans (hexc j hj9 )
  replace e_x : c1 (x) = .inr (3, [.ref h4, .ref h5, .ref h6, .ref h7, w4, w5, .ref h1]) := (congrFun hc1 _).trans (up_at _ _ _)
  replace e_b9 : c1 (b9) = .inl (g.2 0, 364, .inl (c0)) := ((congrFun hc1 _).trans (up_ne _ _ (by omega))).trans e_b9
  replace e_b9_1 : c1 (b9 + 1) = .inl (g.2 0, 364, .inl (t0)) := ((congrFun hc1 _).trans (up_ne _ _ (by omega))).trans e_b9_1
  replace e_b9_2 : c1 (b9 + 2) = .inl (g.2 2, 364, .inl (f0)) := ((congrFun hc1 _).trans (up_ne _ _ (by omega))).trans e_b9_2
  replace e_b9_3 : c1 (b9 + 3) = .inr (0, [.int (af 0), .int (af 1), .int (af 2), .int (af 3), .int (af 4), .int (af 5), .int (af 6), .int (af 7), .int (af 8)]) := ((congrFun hc1 _).trans (up_ne _ _ (by omega))).trans e_b9_3
  replace e_y : c1 (y) = .inr (2, [v0, v1, v2, .ref h2, v4]) := ((congrFun hc1 _).trans (up_ne _ _ (by omega))).trans e_y
  replace e_z : c1 (z) = .inl (g.2 6, 4, .inr (.inr (.inr (.inr (f1))))) := ((congrFun hc1 _).trans (up_ne _ _ (by omega))).trans e_z
  replace e_t : c1 (t) = .inl (g.2 0, 2, .inl (rr)) := ((congrFun hc1 _).trans (up_ne _ _ (by omega))).trans e_t
  clear hc1
  refine lv_aload_n hx hb dX3_begin_5 rfl (lv_at hl 0 rfl) ?_
  refine lv_aload_n hx hb dX3_begin_6 rfl (lv_at hl 1 rfl) ?_
  refine lv_iload_n hx hb dX3_begin_7 rfl (lv_at hl 2 rfl) ?_
  have hF9 := n_free hD hS hA
  have hS9 := hS
  refine va_calli (va_runV (As := [.int (zI (w))]) (rest := [.ref h0]) ⟨hx, hb, hml, hown, hts⟩ (c_X2_rateOf_N l g (n) (ad) (c1) (H.size) (y) (by omega) (h1) (a_y) (z) (by omega) (h2) (a_z) (t) (by omega) (h3) (a_t) (v0) (v1) (v2) (v4) (f1) (w) (hw) (hf1) (rr) (e_y) (e_z) (e_t)) (cwV 1 hts gX3_begin_X2_rateOf rfl rfl rfl (by decide +kernel) ⟨Nat.le_of_ble_eq_true rfl, Nat.le_of_ble_eq_true rfl⟩) (n_preV hP hD hK hN (va_recv hK (nb1 hP (show y < n by omega) a_y e_y) (q0 := 0) (ci := 2) rfl rfl)) rfl rfl hl.1 rfl (lv_room (Nat.le_of_ble_eq_true rfl)) dX3_begin_8 ⟨Nat.le_of_ble_eq_true rfl, Nat.le_of_ble_eq_true rfl⟩) hS (fun q _ h => hF9 q h) hF9 (fun r u9 t9 H1 locs ht9 hvm9 hw9 hB9 hz9 hk9 hS => ?_)
  obtain ⟨a2, c2⟩ := u9
  rw [ht9] at hB9
  clear hz9 hk9 hvm9 ht9 hF9
  try dsimp only at hw9 hB9
  obtain ⟨hr9, hq9, hu9⟩ := hw9
  subst hr9
  have hD : va_D A (nL (n) a2 c2) := n_joinD (n := n) (m := 0) hD hS9 hA hq9
  clear hS9
  have hP : nP g (n) a2 c2 H1 := hB9
  clear hB9
  generalize H1 = H at hP hS ⊢
  replace hexa : ∀ j : Nat, j < n → a2 j = ad j := fun j hj9 => (hq9.1 j (by omega)).trans (hexa j hj9)
  replace hexc : ∀ j : Nat, j < n → ¬ j = x → c2 j = ce j := fun j hj9 q0 => (hu9 j (by omega) ).trans (hexc j hj9 q0)
  replace a_x : a2 (x) = h0 := (hq9.1 _ (by omega)).trans a_x
  replace e_x : c2 (x) = .inr (3, [.ref h4, .ref h5, .ref h6, .ref h7, w4, w5, .ref h1]) := (hu9 _ (by omega) ).trans e_x
  replace a_b9 : a2 (b9) = h4 := (hq9.1 _ (by omega)).trans a_b9
  replace e_b9 : c2 (b9) = .inl (g.2 0, 364, .inl (c0)) := (hu9 _ (by omega) ).trans e_b9
  replace a_b9_1 : a2 (b9 + 1) = h5 := (hq9.1 _ (by omega)).trans a_b9_1
  replace e_b9_1 : c2 (b9 + 1) = .inl (g.2 0, 364, .inl (t0)) := (hu9 _ (by omega) ).trans e_b9_1
  replace a_b9_2 : a2 (b9 + 2) = h6 := (hq9.1 _ (by omega)).trans a_b9_2
  replace e_b9_2 : c2 (b9 + 2) = .inl (g.2 2, 364, .inl (f0)) := (hu9 _ (by omega) ).trans e_b9_2
  replace a_b9_3 : a2 (b9 + 3) = h7 := (hq9.1 _ (by omega)).trans a_b9_3
  replace e_b9_3 : c2 (b9 + 3) = .inr (0, [.int (af 0), .int (af 1), .int (af 2), .int (af 3), .int (af 4), .int (af 5), .int (af 6), .int (af 7), .int (af 8)]) := (hu9 _ (by omega) ).trans e_b9_3
  replace a_y : a2 (y) = h1 := (hq9.1 _ (by omega)).trans a_y
  replace e_y : c2 (y) = .inr (2, [v0, v1, v2, .ref h2, v4]) := (hu9 _ (by omega) ).trans e_y
  replace a_z : a2 (z) = h2 := (hq9.1 _ (by omega)).trans a_z
  replace e_z : c2 (z) = .inl (g.2 6, 4, .inr (.inr (.inr (.inr (f1))))) := (hu9 _ (by omega) ).trans e_z
  replace a_t : a2 (t) = h3 := (hq9.1 _ (by omega)).trans a_t
  replace e_t : c2 (t) = .inl (g.2 0, 2, .inl (rr)) := (hu9 _ (by omega) ).trans e_t
  clear hq9 hu9 
  refine n_put (ci := 3) (v := .int (rr 0)) (ty := .int) (C := RX3) (T := TX3) (N := 7) hx hb hts hinX3 tyX3 tyX3_ok nmX3 hown hK hP hD hS (x) (show x < n by omega) a_x e_x rfl 4 (by decide) k43 (fun _ h9 => h9) rfl (by decide +kernel) rfl rfl (Nat.le_of_ble_eq_true rfl) dX3_begin_11 (fun H locs hP hD hS => ?_)
  obtain ⟨c3, hc3⟩ : ∃ x9 : Nat → va_E, x9 = va_up c2 (x) (.inr (3, [.ref h4, .ref h5, .ref h6, .ref h7, .int (rr 0), w5, .ref h1])) := ⟨_, rfl⟩
  have hP : nP g (n) a2 c3 H := by rw [hc3]; exact hP
  have hD : va_D A (nL (n) a2 c3) := by rw [hc3]; exact hD
  replace hexc : ∀ j : Nat, j < n → ¬ j = x → c3 j = ce j := fun j hj9 q0 => ((congrFun hc3 j).trans (up_ne _ _ q0)).trans (hexc j hj9 q0)
  replace e_x : c3 (x) = .inr (3, [.ref h4, .ref h5, .ref h6, .ref h7, .int (rr 0), w5, .ref h1]) := (congrFun hc3 _).trans (up_at _ _ _)
  replace e_b9 : c3 (b9) = .inl (g.2 0, 364, .inl (c0)) := ((congrFun hc3 _).trans (up_ne _ _ (by omega))).trans e_b9
  replace e_b9_1 : c3 (b9 + 1) = .inl (g.2 0, 364, .inl (t0)) := ((congrFun hc3 _).trans (up_ne _ _ (by omega))).trans e_b9_1
  replace e_b9_2 : c3 (b9 + 2) = .inl (g.2 2, 364, .inl (f0)) := ((congrFun hc3 _).trans (up_ne _ _ (by omega))).trans e_b9_2
  replace e_b9_3 : c3 (b9 + 3) = .inr (0, [.int (af 0), .int (af 1), .int (af 2), .int (af 3), .int (af 4), .int (af 5), .int (af 6), .int (af 7), .int (af 8)]) := ((congrFun hc3 _).trans (up_ne _ _ (by omega))).trans e_b9_3
  replace e_y : c3 (y) = .inr (2, [v0, v1, v2, .ref h2, v4]) := ((congrFun hc3 _).trans (up_ne _ _ (by omega))).trans e_y
  replace e_z : c3 (z) = .inl (g.2 6, 4, .inr (.inr (.inr (.inr (f1))))) := ((congrFun hc3 _).trans (up_ne _ _ (by omega))).trans e_z
  replace e_t : c3 (t) = .inl (g.2 0, 2, .inl (rr)) := ((congrFun hc3 _).trans (up_ne _ _ (by omega))).trans e_t
  clear hc3
  refine lv_aload_n hx hb dX3_begin_14 rfl (lv_at hl 0 rfl) ?_
  refine lv_aload_n hx hb dX3_begin_15 rfl (lv_at hl 1 rfl) ?_
  refine lv_iload_n hx hb dX3_begin_16 rfl (lv_at hl 2 rfl) ?_
  have hF9 := n_free hD hS hA
  have hS9 := hS
  refine va_calli (va_runV (As := [.int (zI (w))]) (rest := [.ref h0]) ⟨hx, hb, hml, hown, hts⟩ (c_X2_leaveOf_N l g (n) (a2) (c3) (H.size) (y) (by omega) (h1) (a_y) (z) (by omega) (h2) (a_z) (t) (by omega) (h3) (a_t) (v0) (v1) (v2) (v4) (f1) (w) (hw) (hf1) (rr) (e_y) (e_z) (e_t)) (cwV 1 hts gX3_begin_X2_leaveOf rfl rfl rfl (by decide +kernel) ⟨Nat.le_of_ble_eq_true rfl, Nat.le_of_ble_eq_true rfl⟩) (n_preV hP hD hK hN (va_recv hK (nb1 hP (show y < n by omega) a_y e_y) (q0 := 0) (ci := 2) rfl rfl)) rfl rfl hl.1 rfl (lv_room (Nat.le_of_ble_eq_true rfl)) dX3_begin_17 ⟨Nat.le_of_ble_eq_true rfl, Nat.le_of_ble_eq_true rfl⟩) hS (fun q _ h => hF9 q h) hF9 (fun r u9 t9 H1 locs ht9 hvm9 hw9 hB9 hz9 hk9 hS => ?_)
  obtain ⟨a4, c4⟩ := u9
  rw [ht9] at hB9
  clear hz9 hk9 hvm9 ht9 hF9
  try dsimp only at hw9 hB9
  obtain ⟨hr9, hq9, hu9⟩ := hw9
  subst hr9
  have hD : va_D A (nL (n) a4 c4) := n_joinD (n := n) (m := 0) hD hS9 hA hq9
  clear hS9
  have hP : nP g (n) a4 c4 H1 := hB9
  clear hB9
  generalize H1 = H at hP hS ⊢
  replace hexa : ∀ j : Nat, j < n → a4 j = ad j := fun j hj9 => (hq9.1 j (by omega)).trans (hexa j hj9)
  replace hexc : ∀ j : Nat, j < n → ¬ j = x → c4 j = ce j := fun j hj9 q0 => (hu9 j (by omega) ).trans (hexc j hj9 q0)
  replace a_x : a4 (x) = h0 := (hq9.1 _ (by omega)).trans a_x
  replace e_x : c4 (x) = .inr (3, [.ref h4, .ref h5, .ref h6, .ref h7, .int (rr 0), w5, .ref h1]) := (hu9 _ (by omega) ).trans e_x
  replace a_b9 : a4 (b9) = h4 := (hq9.1 _ (by omega)).trans a_b9
  replace e_b9 : c4 (b9) = .inl (g.2 0, 364, .inl (c0)) := (hu9 _ (by omega) ).trans e_b9
  replace a_b9_1 : a4 (b9 + 1) = h5 := (hq9.1 _ (by omega)).trans a_b9_1
  replace e_b9_1 : c4 (b9 + 1) = .inl (g.2 0, 364, .inl (t0)) := (hu9 _ (by omega) ).trans e_b9_1
  replace a_b9_2 : a4 (b9 + 2) = h6 := (hq9.1 _ (by omega)).trans a_b9_2
  replace e_b9_2 : c4 (b9 + 2) = .inl (g.2 2, 364, .inl (f0)) := (hu9 _ (by omega) ).trans e_b9_2
  replace a_b9_3 : a4 (b9 + 3) = h7 := (hq9.1 _ (by omega)).trans a_b9_3
  replace e_b9_3 : c4 (b9 + 3) = .inr (0, [.int (af 0), .int (af 1), .int (af 2), .int (af 3), .int (af 4), .int (af 5), .int (af 6), .int (af 7), .int (af 8)]) := (hu9 _ (by omega) ).trans e_b9_3
  replace a_y : a4 (y) = h1 := (hq9.1 _ (by omega)).trans a_y
  replace e_y : c4 (y) = .inr (2, [v0, v1, v2, .ref h2, v4]) := (hu9 _ (by omega) ).trans e_y
  replace a_z : a4 (z) = h2 := (hq9.1 _ (by omega)).trans a_z
  replace e_z : c4 (z) = .inl (g.2 6, 4, .inr (.inr (.inr (.inr (f1))))) := (hu9 _ (by omega) ).trans e_z
  replace a_t : a4 (t) = h3 := (hq9.1 _ (by omega)).trans a_t
  replace e_t : c4 (t) = .inl (g.2 0, 2, .inl (rr)) := (hu9 _ (by omega) ).trans e_t
  clear hq9 hu9 
  refine n_put (ci := 3) (v := .int (rr 1)) (ty := .int) (C := RX3) (T := TX3) (N := 7) hx hb hts hinX3 tyX3 tyX3_ok nmX3 hown hK hP hD hS (x) (show x < n by omega) a_x e_x rfl 5 (by decide) k50 (fun _ h9 => h9) rfl (by decide +kernel) rfl rfl (Nat.le_of_ble_eq_true rfl) dX3_begin_20 (fun H locs hP hD hS => ?_)
  obtain ⟨c5, hc5⟩ : ∃ x9 : Nat → va_E, x9 = va_up c4 (x) (.inr (3, [.ref h4, .ref h5, .ref h6, .ref h7, .int (rr 0), .int (rr 1), .ref h1])) := ⟨_, rfl⟩
  have hP : nP g (n) a4 c5 H := by rw [hc5]; exact hP
  have hD : va_D A (nL (n) a4 c5) := by rw [hc5]; exact hD
  replace hexc : ∀ j : Nat, j < n → ¬ j = x → c5 j = ce j := fun j hj9 q0 => ((congrFun hc5 j).trans (up_ne _ _ q0)).trans (hexc j hj9 q0)
  replace e_x : c5 (x) = .inr (3, [.ref h4, .ref h5, .ref h6, .ref h7, .int (rr 0), .int (rr 1), .ref h1]) := (congrFun hc5 _).trans (up_at _ _ _)
  replace e_b9 : c5 (b9) = .inl (g.2 0, 364, .inl (c0)) := ((congrFun hc5 _).trans (up_ne _ _ (by omega))).trans e_b9
  replace e_b9_1 : c5 (b9 + 1) = .inl (g.2 0, 364, .inl (t0)) := ((congrFun hc5 _).trans (up_ne _ _ (by omega))).trans e_b9_1
  replace e_b9_2 : c5 (b9 + 2) = .inl (g.2 2, 364, .inl (f0)) := ((congrFun hc5 _).trans (up_ne _ _ (by omega))).trans e_b9_2
  replace e_b9_3 : c5 (b9 + 3) = .inr (0, [.int (af 0), .int (af 1), .int (af 2), .int (af 3), .int (af 4), .int (af 5), .int (af 6), .int (af 7), .int (af 8)]) := ((congrFun hc5 _).trans (up_ne _ _ (by omega))).trans e_b9_3
  replace e_y : c5 (y) = .inr (2, [v0, v1, v2, .ref h2, v4]) := ((congrFun hc5 _).trans (up_ne _ _ (by omega))).trans e_y
  replace e_z : c5 (z) = .inl (g.2 6, 4, .inr (.inr (.inr (.inr (f1))))) := ((congrFun hc5 _).trans (up_ne _ _ (by omega))).trans e_z
  replace e_t : c5 (t) = .inl (g.2 0, 2, .inl (rr)) := ((congrFun hc5 _).trans (up_ne _ _ (by omega))).trans e_t
  clear hc5
  refine lv_aload_n hx hb dX3_begin_23 rfl (lv_at hl 0 rfl) ?_
  refine va_get (D := g.1) (ci := 3) (v := .ref h7) (C := RX3) (T := TX3) (N := 7) hx hb hts hinX3 hown hK (nb1 hP (show x < n by omega) a_x e_x) 0 rfl rfl 3 (by decide) k25 (fun _ h9 => h9) rfl dX3_begin_24 ?_
  have hF9 := n_free hD hS hA
  have hS9 := hS
  refine va_callv (va_runV (As := []) (rest := []) ⟨hx, hb, hml, hown, hts⟩ (c_X0_clear_N l g (n) (a4) (c5) (H.size) (b9 + 3) (by omega) (h7) (a_b9_3) (af) (e_b9_3)) (cwV 0 hts gX3_begin_X0_clear rfl rfl rfl (by decide +kernel) ⟨Nat.le_of_ble_eq_true rfl, Nat.le_of_ble_eq_true rfl⟩) (n_preV hP hD hK hN (va_recv hK (nb1 hP (show b9 + 3 < n by omega) a_b9_3 e_b9_3) (q0 := 0) (ci := 0) rfl rfl)) rfl rfl hl.1 rfl (lv_room (Nat.le_of_ble_eq_true rfl)) dX3_begin_27 ⟨Nat.le_of_ble_eq_true rfl, Nat.le_of_ble_eq_true rfl⟩) hS (fun q _ h => hF9 q h) hF9 (fun u9 t9 H1 locs ht9 hvm9 hw9 hB9 hz9 hk9 hS => ?_)
  obtain ⟨a6, c6⟩ := u9
  rw [ht9] at hB9
  clear hz9 hk9 hvm9 ht9 hF9
  try dsimp only at hw9 hB9
  obtain ⟨hq9, hu9, hp9_0⟩ := hw9
  have hD : va_D A (nL (n) a6 c6) := n_joinD (n := n) (m := 0) hD hS9 hA hq9
  clear hS9
  have hP : nP g (n) a6 c6 H1 := hB9
  clear hB9
  generalize H1 = H at hP hS ⊢
  replace hexa : ∀ j : Nat, j < n → a6 j = ad j := fun j hj9 => (hq9.1 j (by omega)).trans (hexa j hj9)
  replace hexc : ∀ j : Nat, j < n → ¬ j = x → ¬ j = b9 + 3 → c6 j = ce j := fun j hj9 q0 q1 => (hu9 j (by omega) q1).trans (hexc j hj9 q0)
  replace a_x : a6 (x) = h0 := (hq9.1 _ (by omega)).trans a_x
  replace e_x : c6 (x) = .inr (3, [.ref h4, .ref h5, .ref h6, .ref h7, .int (rr 0), .int (rr 1), .ref h1]) := (hu9 _ (by omega) (by omega)).trans e_x
  replace a_b9 : a6 (b9) = h4 := (hq9.1 _ (by omega)).trans a_b9
  replace e_b9 : c6 (b9) = .inl (g.2 0, 364, .inl (c0)) := (hu9 _ (by omega) (by omega)).trans e_b9
  replace a_b9_1 : a6 (b9 + 1) = h5 := (hq9.1 _ (by omega)).trans a_b9_1
  replace e_b9_1 : c6 (b9 + 1) = .inl (g.2 0, 364, .inl (t0)) := (hu9 _ (by omega) (by omega)).trans e_b9_1
  replace a_b9_2 : a6 (b9 + 2) = h6 := (hq9.1 _ (by omega)).trans a_b9_2
  replace e_b9_2 : c6 (b9 + 2) = .inl (g.2 2, 364, .inl (f0)) := (hu9 _ (by omega) (by omega)).trans e_b9_2
  replace a_b9_3 : a6 (b9 + 3) = h7 := (hq9.1 _ (by omega)).trans a_b9_3
  replace a_y : a6 (y) = h1 := (hq9.1 _ (by omega)).trans a_y
  replace e_y : c6 (y) = .inr (2, [v0, v1, v2, .ref h2, v4]) := (hu9 _ (by omega) (by omega)).trans e_y
  replace a_z : a6 (z) = h2 := (hq9.1 _ (by omega)).trans a_z
  replace e_z : c6 (z) = .inl (g.2 6, 4, .inr (.inr (.inr (.inr (f1))))) := (hu9 _ (by omega) (by omega)).trans e_z
  replace a_t : a6 (t) = h3 := (hq9.1 _ (by omega)).trans a_t
  replace e_t : c6 (t) = .inl (g.2 0, 2, .inl (rr)) := (hu9 _ (by omega) (by omega)).trans e_t
  have e_b9_3 : c6 (b9 + 3) = .inr (0, [.int (zI (0)), .int (zI (0)), .int (zI (0)), .int (zI (0)), .int (zI (0)), .int (zI (0)), .int (zI (0)), .int (zI (0)), .int (zI (365))]) := hp9_0
  clear hq9 hu9 hp9_0
  refine lv_iconst (v := zI (0)) hx hb dX3_begin_30 (by decide) ?_
  refine lv_istore_n (lv' := [(3, .int (zI (0))), (0, .ref h0), (1, .ref h1), (2, .int (zI (w)))]) hx hb dX3_begin_31 rfl hl (by decide) rfl (fun ls hl => ?_)
  have loop32 : ∀ (K9 : Nat) (i : Nat) (hK9 : 364 - i < K9) (hi : i ≤ 364) (H : Heap) (locs : List Loc) (c7 : Nat → va_E) (e_x : c7 (x) = .inr (3, [.ref h4, .ref h5, .ref h6, .ref h7, .int (rr 0), .int (rr 1), .ref h1])) (e_b9 : c7 (b9) = .inl (g.2 0, 364, .inl (fillR (zI (-1)) c0 i))) (e_b9_1 : c7 (b9 + 1) = .inl (g.2 0, 364, .inl (fillR (zI (0)) t0 i))) (e_b9_2 : c7 (b9 + 2) = .inl (g.2 2, 364, .inl (fillR (zI (0)) f0 i))) (e_b9_3 : c7 (b9 + 3) = .inr (0, [.int (zI (0)), .int (zI (0)), .int (zI (0)), .int (zI (0)), .int (zI (0)), .int (zI (0)), .int (zI (0)), .int (zI (0)), .int (zI (365))])) (e_y : c7 (y) = .inr (2, [v0, v1, v2, .ref h2, v4])) (e_z : c7 (z) = .inl (g.2 6, 4, .inr (.inr (.inr (.inr (f1)))))) (e_t : c7 (t) = .inl (g.2 0, 2, .inl (rr))) (hexc : ∀ j : Nat, j < n → ¬ j = x → ¬ j = b9 + 3 → ¬ j = b9 → ¬ j = b9 + 1 → ¬ j = b9 + 2 → c7 j = ce j) (hP : nP g (n) a6 c7 H) (hD : va_D A (nL (n) a6 c7)) (hS : va_S A s.heap H locs) (ls : Array Slot) (hl : lv_has ls 4 [(3, .int (zI (((i : Nat) : Int)))), (0, .ref h0)]), W p l e (headSpec wsX3_begin ({ frames := 2, cells := 0, slots := 0, locals := 33 })).room s m ([.ref h0, .ref h1, .int (zI (w))] : List Value).toArray below meth c H locs (0) (0) (MQ below (va_Qv (fun (u : (Nat → Nat) × (Nat → va_E)) => nQ n 0 ad s.heap.size u.1 ∧ (∀ i, i < n → ¬ i = x → ¬ i = b9 → ¬ i = b9 + 1 → ¬ i = b9 + 2 → ¬ i = b9 + 3 → u.2 i = ce i) ∧ u.2 (x) = .inr (3, [.ref h4, .ref h5, .ref h6, .ref h7, .int (rr 0), .int (rr 1), .ref h1]) ∧ u.2 (b9) = .inl (g.2 0, 364, .inl (fillR (zI (-1)) c0 364)) ∧ u.2 (b9 + 1) = .inl (g.2 0, 364, .inl (fillR (zI (0)) t0 364)) ∧ u.2 (b9 + 2) = .inl (g.2 2, 364, .inl (fillR (zI (0)) f0 364)) ∧ u.2 (b9 + 3) = .inr (0, [.int (zI (0)), .int (zI (0)), .int (zI (0)), .int (zI (0)), .int (zI (0)), .int (zI (0)), .int (zI (0)), .int (zI (0)), .int (zI (365))])) (fun u (tS : State) => nP g (n + 0) u.1 u.2 tS.heap) A) ([.ref h0, .ref h1, .int (zI (w))] : List Value).toArray s 0 0 A) (F0 m 32 ls []) := by
    intro K9
    induction K9 with
    | zero => intro i hK9; exact absurd hK9 (Nat.not_lt_zero _)
    | succ K9 ih =>
      intro i hK9 hi H locs c7 e_x e_b9 e_b9_1 e_b9_2 e_b9_3 e_y e_z e_t hexc hP hD hS ls hl
      refine lv_iload_n hx hb dX3_begin_32 rfl (lv_at hl 0 rfl) ?_
      refine lv_sipush (v := zI (364)) hx hb dX3_begin_33 (by decide) ?_
      refine z_icmp_ge (tgt := 66) hx hb dX3_begin_36 (by decide) (by omega) (by omega) (fun h36 => ?_) (fun h36 => ?_)
      · have hQ9 := nQ_of (m := 0) hAe hD hexa
        exact W.vret hx hb hr (fun tX htX hWX => ⟨⟨(a6, c7), rfl, ⟨hQ9, fun j hj9 q0 q1 q2 q3 q4 => hexc j hj9 q0 q4 q1 q2 q3, e_x, (show i = 364 by omega) ▸ e_b9, (show i = 364 by omega) ▸ e_b9_1, (show i = 364 by omega) ▸ e_b9_2, e_b9_3⟩, g_at htX hP⟩, hS.F htX⟩) hS.2.2 dX3_begin_66
      · refine lv_aload_n hx hb dX3_begin_39 rfl (lv_at hl 1 rfl) ?_
        refine va_get (D := g.1) (ci := 3) (v := .ref h4) (C := RX3) (T := TX3) (N := 7) hx hb hts hinX3 hown hK (nb1 hP (show x < n by omega) a_x e_x) 0 rfl rfl 0 (by decide) k9 (fun _ h9 => h9) rfl dX3_begin_40 ?_
        refine lv_iload_n hx hb dX3_begin_43 rfl (lv_at hl 0 rfl) ?_
        refine lv_iconst (v := zI (-1)) hx hb dX3_begin_44 (by decide) ?_
        refine n_iast hx hb hK hP hD hS (b9) (show b9 < n by omega) a_b9 e_b9 (by decide) (i) (by omega) (by omega) dX3_begin_45 (fun H locs hP hD hS => ?_)
        obtain ⟨c8, hc8⟩ : ∃ x9 : Nat → va_E, x9 = va_up c7 (b9) (.inl (g.2 0, 364, .inl (upd (fillR (zI (-1)) c0 i) i (zI ((-1)))))) := ⟨_, rfl⟩
        have hP : nP g (n) a6 c8 H := by rw [hc8]; exact hP
        have hD : va_D A (nL (n) a6 c8) := by rw [hc8]; exact hD
        replace hexc : ∀ j : Nat, j < n → ¬ j = x → ¬ j = b9 + 3 → ¬ j = b9 → ¬ j = b9 + 1 → ¬ j = b9 + 2 → c8 j = ce j := fun j hj9 q0 q1 q2 q3 q4 => ((congrFun hc8 j).trans (up_ne _ _ q2)).trans (hexc j hj9 q0 q1 q2 q3 q4)
        replace e_x : c8 (x) = .inr (3, [.ref h4, .ref h5, .ref h6, .ref h7, .int (rr 0), .int (rr 1), .ref h1]) := ((congrFun hc8 _).trans (up_ne _ _ (by omega))).trans e_x
        replace e_b9 : c8 (b9) = .inl (g.2 0, 364, .inl (upd (fillR (zI (-1)) c0 i) i (zI ((-1))))) := (congrFun hc8 _).trans (up_at _ _ _)
        replace e_b9_1 : c8 (b9 + 1) = .inl (g.2 0, 364, .inl (fillR (zI (0)) t0 i)) := ((congrFun hc8 _).trans (up_ne _ _ (by omega))).trans e_b9_1
        replace e_b9_2 : c8 (b9 + 2) = .inl (g.2 2, 364, .inl (fillR (zI (0)) f0 i)) := ((congrFun hc8 _).trans (up_ne _ _ (by omega))).trans e_b9_2
        replace e_b9_3 : c8 (b9 + 3) = .inr (0, [.int (zI (0)), .int (zI (0)), .int (zI (0)), .int (zI (0)), .int (zI (0)), .int (zI (0)), .int (zI (0)), .int (zI (0)), .int (zI (365))]) := ((congrFun hc8 _).trans (up_ne _ _ (by omega))).trans e_b9_3
        replace e_y : c8 (y) = .inr (2, [v0, v1, v2, .ref h2, v4]) := ((congrFun hc8 _).trans (up_ne _ _ (by omega))).trans e_y
        replace e_z : c8 (z) = .inl (g.2 6, 4, .inr (.inr (.inr (.inr (f1))))) := ((congrFun hc8 _).trans (up_ne _ _ (by omega))).trans e_z
        replace e_t : c8 (t) = .inl (g.2 0, 2, .inl (rr)) := ((congrFun hc8 _).trans (up_ne _ _ (by omega))).trans e_t
        clear hc8
        refine lv_aload_n hx hb dX3_begin_46 rfl (lv_at hl 1 rfl) ?_
        refine va_get (D := g.1) (ci := 3) (v := .ref h5) (C := RX3) (T := TX3) (N := 7) hx hb hts hinX3 hown hK (nb1 hP (show x < n by omega) a_x e_x) 0 rfl rfl 1 (by decide) k15 (fun _ h9 => h9) rfl dX3_begin_47 ?_
        refine lv_iload_n hx hb dX3_begin_50 rfl (lv_at hl 0 rfl) ?_
        refine lv_iconst (v := zI (0)) hx hb dX3_begin_51 (by decide) ?_
        refine n_iast hx hb hK hP hD hS (b9 + 1) (show b9 + 1 < n by omega) a_b9_1 e_b9_1 (by decide) (i) (by omega) (by omega) dX3_begin_52 (fun H locs hP hD hS => ?_)
        obtain ⟨c9, hc9⟩ : ∃ x9 : Nat → va_E, x9 = va_up c8 (b9 + 1) (.inl (g.2 0, 364, .inl (upd (fillR (zI (0)) t0 i) i (zI (0))))) := ⟨_, rfl⟩
        have hP : nP g (n) a6 c9 H := by rw [hc9]; exact hP
        have hD : va_D A (nL (n) a6 c9) := by rw [hc9]; exact hD
        replace hexc : ∀ j : Nat, j < n → ¬ j = x → ¬ j = b9 + 3 → ¬ j = b9 → ¬ j = b9 + 1 → ¬ j = b9 + 2 → c9 j = ce j := fun j hj9 q0 q1 q2 q3 q4 => ((congrFun hc9 j).trans (up_ne _ _ q3)).trans (hexc j hj9 q0 q1 q2 q3 q4)
        replace e_x : c9 (x) = .inr (3, [.ref h4, .ref h5, .ref h6, .ref h7, .int (rr 0), .int (rr 1), .ref h1]) := ((congrFun hc9 _).trans (up_ne _ _ (by omega))).trans e_x
        replace e_b9 : c9 (b9) = .inl (g.2 0, 364, .inl (upd (fillR (zI (-1)) c0 i) i (zI ((-1))))) := ((congrFun hc9 _).trans (up_ne _ _ (by omega))).trans e_b9
        replace e_b9_1 : c9 (b9 + 1) = .inl (g.2 0, 364, .inl (upd (fillR (zI (0)) t0 i) i (zI (0)))) := (congrFun hc9 _).trans (up_at _ _ _)
        replace e_b9_2 : c9 (b9 + 2) = .inl (g.2 2, 364, .inl (fillR (zI (0)) f0 i)) := ((congrFun hc9 _).trans (up_ne _ _ (by omega))).trans e_b9_2
        replace e_b9_3 : c9 (b9 + 3) = .inr (0, [.int (zI (0)), .int (zI (0)), .int (zI (0)), .int (zI (0)), .int (zI (0)), .int (zI (0)), .int (zI (0)), .int (zI (0)), .int (zI (365))]) := ((congrFun hc9 _).trans (up_ne _ _ (by omega))).trans e_b9_3
        replace e_y : c9 (y) = .inr (2, [v0, v1, v2, .ref h2, v4]) := ((congrFun hc9 _).trans (up_ne _ _ (by omega))).trans e_y
        replace e_z : c9 (z) = .inl (g.2 6, 4, .inr (.inr (.inr (.inr (f1))))) := ((congrFun hc9 _).trans (up_ne _ _ (by omega))).trans e_z
        replace e_t : c9 (t) = .inl (g.2 0, 2, .inl (rr)) := ((congrFun hc9 _).trans (up_ne _ _ (by omega))).trans e_t
        clear hc9
        refine lv_aload_n hx hb dX3_begin_53 rfl (lv_at hl 1 rfl) ?_
        refine va_get (D := g.1) (ci := 3) (v := .ref h6) (C := RX3) (T := TX3) (N := 7) hx hb hts hinX3 hown hK (nb1 hP (show x < n by omega) a_x e_x) 0 rfl rfl 2 (by decide) k18 (fun _ h9 => h9) rfl dX3_begin_54 ?_
        refine lv_iload_n hx hb dX3_begin_57 rfl (lv_at hl 0 rfl) ?_
        refine lv_iconst (v := zI (0)) hx hb dX3_begin_58 (by decide) ?_
        refine n_zast hx hb hK hP hD hS (b9 + 2) (show b9 + 2 < n by omega) a_b9_2 e_b9_2 (by decide) (i) (by omega) (by omega) dX3_begin_59 (fun H locs hP hD hS => ?_)
        rw [show vp_nar .boolean (zI (0)) = zI (0) from (by decide)] at hP hD
        obtain ⟨c10, hc10⟩ : ∃ x9 : Nat → va_E, x9 = va_up c9 (b9 + 2) (.inl (g.2 2, 364, .inl (upd (fillR (zI (0)) f0 i) i (zI (0))))) := ⟨_, rfl⟩
        have hP : nP g (n) a6 c10 H := by rw [hc10]; exact hP
        have hD : va_D A (nL (n) a6 c10) := by rw [hc10]; exact hD
        replace hexc : ∀ j : Nat, j < n → ¬ j = x → ¬ j = b9 + 3 → ¬ j = b9 → ¬ j = b9 + 1 → ¬ j = b9 + 2 → c10 j = ce j := fun j hj9 q0 q1 q2 q3 q4 => ((congrFun hc10 j).trans (up_ne _ _ q4)).trans (hexc j hj9 q0 q1 q2 q3 q4)
        replace e_x : c10 (x) = .inr (3, [.ref h4, .ref h5, .ref h6, .ref h7, .int (rr 0), .int (rr 1), .ref h1]) := ((congrFun hc10 _).trans (up_ne _ _ (by omega))).trans e_x
        replace e_b9 : c10 (b9) = .inl (g.2 0, 364, .inl (upd (fillR (zI (-1)) c0 i) i (zI ((-1))))) := ((congrFun hc10 _).trans (up_ne _ _ (by omega))).trans e_b9
        replace e_b9_1 : c10 (b9 + 1) = .inl (g.2 0, 364, .inl (upd (fillR (zI (0)) t0 i) i (zI (0)))) := ((congrFun hc10 _).trans (up_ne _ _ (by omega))).trans e_b9_1
        replace e_b9_2 : c10 (b9 + 2) = .inl (g.2 2, 364, .inl (upd (fillR (zI (0)) f0 i) i (zI (0)))) := (congrFun hc10 _).trans (up_at _ _ _)
        replace e_b9_3 : c10 (b9 + 3) = .inr (0, [.int (zI (0)), .int (zI (0)), .int (zI (0)), .int (zI (0)), .int (zI (0)), .int (zI (0)), .int (zI (0)), .int (zI (0)), .int (zI (365))]) := ((congrFun hc10 _).trans (up_ne _ _ (by omega))).trans e_b9_3
        replace e_y : c10 (y) = .inr (2, [v0, v1, v2, .ref h2, v4]) := ((congrFun hc10 _).trans (up_ne _ _ (by omega))).trans e_y
        replace e_z : c10 (z) = .inl (g.2 6, 4, .inr (.inr (.inr (.inr (f1))))) := ((congrFun hc10 _).trans (up_ne _ _ (by omega))).trans e_z
        replace e_t : c10 (t) = .inl (g.2 0, 2, .inl (rr)) := ((congrFun hc10 _).trans (up_ne _ _ (by omega))).trans e_t
        clear hc10
        refine z_iinc (lv' := [(3, .int (zI (((i : Nat) : Int) + 1))), (0, .ref h0)]) hx hb dX3_begin_60 hl (k := 0) rfl (by decide) rfl (fun ls hl => ?_)
        refine lv_goto (tgt := 32) hx hb dX3_begin_63 (by decide) ?_
        have hl := lv_sub (l' := [(3, .int (zI (((i : Nat) : Int) + 1))), (0, .ref h0)]) hl [0, 1] rfl
        have hl : lv_has ls 4 [(3, .int (zI ((((i + 1) : Nat) : Int)))), (0, .ref h0)] := lv_cg (lvE (congrArg zI (by omega)) (lvR (rfl))) hl
        exact ih (i + 1) (by omega) (by omega) H locs c10 (e_x) (by rw [← fillR_s]; exact e_b9) (by rw [← fillR_s]; exact e_b9_1) (by rw [← fillR_s]; exact e_b9_2) (e_b9_3) (e_y) (e_z) (e_t) (fun j hj9 q0 q1 q2 q3 q4 => hexc j hj9 q0 q1 q2 q3 q4) hP hD hS ls hl
  have hl := lv_sub (l' := [(3, .int (zI (0))), (0, .ref h0)]) hl [0, 1] rfl
  have hl : lv_has ls 4 [(3, .int (zI (((0 : Nat) : Int)))), (0, .ref h0)] := lv_cg (lvE (congrArg zI (rfl)) (lvR (rfl))) hl
  exact loop32 _ (0) (Nat.lt_succ_self _) (Nat.zero_le _) H locs c6 (e_x) (by rw [fillR_0]; exact e_b9) (by rw [fillR_0]; exact e_b9_1) (by rw [fillR_0]; exact e_b9_2) (e_b9_3) (e_y) (e_z) (e_t) (fun j hj9 q0 q1 q2 q3 q4 => hexc j hj9 q0 q1) hP hD hS ls hl

set_option maxHeartbeats 4000000 in
set_option maxRecDepth 100000 in
theorem c_X3_init_N (l : Launch) (g : GG) (n : Nat) (ad : Nat → Nat) (ce : Nat → va_E) (sz : Nat) (x : Nat) (hx0 : x < n) (h0 : Nat) (ha0 : ad x = h0) (y : Nat) (hy0 : y < n) (h1 : Nat) (ha1 : ad y = h1) (z : Nat) (hz0 : z < n) (h2 : Nat) (ha2 : ad z = h2) (t : Nat) (ht0 : t < n) (h3 : Nat) (ha3 : ad t = h3) (v0 v1 v2 v4 : Value) (f1 : Nat → Option Nat) (w : Nat) (hw : w < 4) (hf1 : f1 w = some h3) (rr : Nat → Int32) (hd9 : y < z ∧ z < t ∧ t < x) (e_x : ce (x) = .inr (3, [.null, .null, .null, .null, .int (zI (0)), .int (zI (0)), .null])) (e_y : ce (y) = .inr (2, [v0, v1, v2, .ref h2, v4])) (e_z : ce (z) = .inl (g.2 6, 4, .inr (.inr (.inr (.inr (f1)))))) (e_t : ce (t) = .inl (g.2 0, 2, .inl (rr))) : Met l yX3_init wsX3_init ({ frames := 3, cells := 4, slots := 1101, locals := 56 }) (nPc g n ad ce sz [.ref h0, .ref h1, .int (zI (w))]) (va_Qv (fun (u : (Nat → Nat) × (Nat → va_E)) => nQ n 4 ad sz u.1 ∧ (∀ i, i < n → ¬ i = x → u.2 i = ce i) ∧ u.2 (x) = .inr (3, [.ref ((u.1 (n))), .ref ((u.1 (n + 1))), .ref ((u.1 (n + 2))), .ref ((u.1 (n + 3))), .int (rr 0), .int (rr 1), .ref h1]) ∧ u.2 (n) = .inl (g.2 0, 364, .inl (fillR (zI (-1)) (fun _ => zI 0) 364)) ∧ u.2 (n + 1) = .inl (g.2 0, 364, .inl (fillR (zI (0)) (fun _ => zI 0) 364)) ∧ u.2 (n + 2) = .inl (g.2 2, 364, .inl (fillR (zI (0)) (fun _ => zI 0) 364)) ∧ u.2 (n + 3) = .inr (0, [.int (zI (0)), .int (zI (0)), .int (zI (0)), .int (zI (0)), .int (zI (0)), .int (zI (0)), .int (zI (0)), .int (zI (0)), .int (zI (365))])) (fun u (tS : State) => nP g (n + 4) u.1 u.2 tS.heap) (nA n ad sz)) 4 1101 (nA n ad sz) := by
  refine Met.ofW (cc := cX3_init) (maxL := 3) (ret := none) (by decide) rfl ?_
  intro p e s m args below meth c s₁ B hml hv
  obtain ⟨rfl, hsz, hP, hD0, hK, hN⟩ := hv
  have hx := B.exec
  have hb := B.bytes
  have hr := B.returns
  have hts := atoms_spec (ws := wsX3_init) B.pre
  have hown : s.vm.findClass RX3 = some m.cls := findClass_of_methodNamed B.named
  have hlocks := B.notSynchronized
  have hin9 := (name_of_methodNamed B.named B.method).1
  have hinX0 : ∀ w ∈ wsX00, w ∈ wsX3_init := by decide +kernel
  have hinX3 : ∀ w ∈ wsX30, w ∈ wsX3_init := by decide +kernel
  have kOI := hts (.methodLink RX3 3 objectInit) (by decide +kernel)
  have kOJ := hts (.instanceMethod objectInit) (by decide +kernel)
  have kOK := hts (.code objectInit ⟨#[0xb1]⟩ 1 none) (by decide +kernel)
  have kACint := hts (.arrayClass .int) (by decide +kernel)
  have k9 := hts (.fieldLink RX3 9 "HoursBank$Sheet" "changed" "[I") (by decide +kernel)
  have k15 := hts (.fieldLink RX3 15 "HoursBank$Sheet" "told" "[I") (by decide +kernel)
  have kACboolean := hts (.arrayClass .boolean) (by decide +kernel)
  have k18 := hts (.fieldLink RX3 18 "HoursBank$Sheet" "flagged" "[Z") (by decide +kernel)
  have kN22 := hts (.classLink RX3 22 RX0) (by decide +kernel)
  have kIX0 := hts (.instantiable RX0 9) (by decide +kernel)
  have kJX0 := hts (.initialized RX0) (by decide +kernel)
  have kIm_X0_init := hts (.instanceMethod yX0_init) (by decide +kernel)
  have k25 := hts (.fieldLink RX3 25 "HoursBank$Sheet" "account" "LHoursBank$Account;") (by decide +kernel)
  subst hsz
  obtain ⟨A, hAe⟩ : ∃ A, A = nA n ad s.heap.size := ⟨_, rfl⟩
  rw [← hAe]
  have hA : ∀ q : Nat, s.heap.size ≤ q → A q := fun q h => by rw [hAe]; exact Or.inr h
  have hD : va_D A (nL n ad ce) := nDa hD0 (fun i hi => by rw [hAe]; exact Or.inl ⟨i, hi, rfl⟩)
  have hl := lv_entry ([.ref h0, .ref h1, .int (zI (w))]) (n := 3) (Nat.le_of_ble_eq_true rfl)
  rw [lg_entry_eq]
  generalize (lg_sl ([.ref h0, .ref h1, .int (zI (w))]) ++ List.replicate (3 - (lg_sl ([.ref h0, .ref h1, .int (zI (w))])).length) Slot.unset).toArray = ls at hl ⊢
  have hl : lv_has ls 3 [(0, .ref h0), (1, .ref h1), (2, .int (zI (w)))] := hl
  have hS : va_S A s.heap s.heap [] := va_S.rf
  obtain ⟨H, hH9⟩ : ∃ H, H = s.heap := ⟨_, rfl⟩
  obtain ⟨locs, hL9⟩ : ∃ x9l : List Loc, x9l = [] := ⟨_, rfl⟩
  have hP : nP g n ad ce H := hH9 ▸ hP
  have hS : va_S A s.heap H locs := by rw [hH9, hL9]; exact hS
  refine z_start hH9 hL9 ?_
  clear hH9 hL9
  have hexa : ∀ j : Nat, j < n → ad j = ad j := fun _ _ => rfl
  have hexc : ∀ j : Nat, j < n → ce j = ce j := fun _ _ => rfl
  have a_x : ad (x) = h0 := ha0
  have a_y : ad (y) = h1 := ha1
  have a_z : ad (z) = h2 := ha2
  have a_t : ad (t) = h3 := ha3
  refine lv_aload_n hx hb dX3_init_0 rfl (lv_at hl 0 rfl) ?_
  refine W.objInit hx hb hown kOI kOJ kOK rfl (by rw [hml]; exact hl.1) rfl dX3_init_1 (Nat.le_of_ble_eq_true rfl) (Nat.le_of_ble_eq_true rfl) ?_
  refine W.eq (g2 := F0 m 4 ls []) rfl ?_
  refine lv_aload_n hx hb dX3_init_4 rfl (lv_at hl 0 rfl) ?_
  refine lv_sipush (v := zI (364)) hx hb dX3_init_5 (by decide) ?_
  refine n_newa (atype := .int) (ty := .int) (a0 := (364, .inl (fun _ => zI 0))) (N' := 364) hx hb kACint rfl hK hP hD hS hA 0 rfl (fun _ => rfl) (by omega) (by omega) (Nat.le_of_ble_eq_true rfl) (Nat.le_of_ble_eq_true rfl) (Nat.le_of_ble_eq_true rfl) dX3_init_8 (fun q101 H hP hD hS => ?_)
  obtain ⟨a2, ha2⟩ : ∃ x9 : Nat → Nat, x9 = va_up ad (n) q101 := ⟨_, rfl⟩
  obtain ⟨c2, hc2⟩ : ∃ x9 : Nat → va_E, x9 = va_up ce (n) (.inl (g.2 0, 364, .inl (fun _ => zI 0))) := ⟨_, rfl⟩
  have hP : nP g (n + 1) a2 c2 H := by rw [ha2, hc2]; exact hP
  have hD : va_D A (nL (n + 1) a2 c2) := by rw [ha2, hc2]; exact hD
  replace hexa : ∀ j : Nat, j < n → a2 j = ad j := fun j hj9 => ((congrFun ha2 j).trans (up_ne _ _ (by omega))).trans (hexa j hj9)
  replace hexc : ∀ j : Nat, j < n → c2 j = ce j := fun j hj9  => ((congrFun hc2 j).trans (up_ne _ _ (by omega))).trans (hexc j hj9 )
  replace a_x : a2 (x) = h0 := ((congrFun ha2 _).trans (up_ne _ _ (by omega))).trans a_x
  replace e_x : c2 (x) = .inr (3, [.null, .null, .null, .null, .int (zI (0)), .int (zI (0)), .null]) := ((congrFun hc2 _).trans (up_ne _ _ (by omega))).trans e_x
  replace a_y : a2 (y) = h1 := ((congrFun ha2 _).trans (up_ne _ _ (by omega))).trans a_y
  replace e_y : c2 (y) = .inr (2, [v0, v1, v2, .ref h2, v4]) := ((congrFun hc2 _).trans (up_ne _ _ (by omega))).trans e_y
  replace a_z : a2 (z) = h2 := ((congrFun ha2 _).trans (up_ne _ _ (by omega))).trans a_z
  replace e_z : c2 (z) = .inl (g.2 6, 4, .inr (.inr (.inr (.inr (f1))))) := ((congrFun hc2 _).trans (up_ne _ _ (by omega))).trans e_z
  replace a_t : a2 (t) = h3 := ((congrFun ha2 _).trans (up_ne _ _ (by omega))).trans a_t
  replace e_t : c2 (t) = .inl (g.2 0, 2, .inl (rr)) := ((congrFun hc2 _).trans (up_ne _ _ (by omega))).trans e_t
  have a_n : a2 (n) = q101 := (congrFun ha2 _).trans (up_at _ _ _)
  have e_n : c2 (n) = .inl (g.2 0, 364, .inl (fun _ => zI 0)) := (congrFun hc2 _).trans (up_at _ _ _)
  clear ha2 hc2
  refine n_putF (ci := 3) (v := .ref q101) (ty := .array .int) (C := RX3) (T := TX3) (N := 7) hx hb hts hinX3 tyX3 tyX3_ok nmX3 hown hK hP hD hS (x) (show x < n + 1 by omega) a_x e_x rfl 0 (by decide) k9 (fun _ h9 => h9) rfl hin9 rfl (by decide +kernel) rfl rfl (Nat.le_of_ble_eq_true rfl) dX3_init_10 (fun H locs hP hD hS => ?_)
  obtain ⟨c3, hc3⟩ : ∃ x9 : Nat → va_E, x9 = va_up c2 (x) (.inr (3, [.ref q101, .null, .null, .null, .int (zI (0)), .int (zI (0)), .null])) := ⟨_, rfl⟩
  have hP : nP g (n + 1) a2 c3 H := by rw [hc3]; exact hP
  have hD : va_D A (nL (n + 1) a2 c3) := by rw [hc3]; exact hD
  replace hexc : ∀ j : Nat, j < n → ¬ j = x → c3 j = ce j := fun j hj9 q0 => ((congrFun hc3 j).trans (up_ne _ _ q0)).trans (hexc j hj9 )
  replace e_x : c3 (x) = .inr (3, [.ref q101, .null, .null, .null, .int (zI (0)), .int (zI (0)), .null]) := (congrFun hc3 _).trans (up_at _ _ _)
  replace e_y : c3 (y) = .inr (2, [v0, v1, v2, .ref h2, v4]) := ((congrFun hc3 _).trans (up_ne _ _ (by omega))).trans e_y
  replace e_z : c3 (z) = .inl (g.2 6, 4, .inr (.inr (.inr (.inr (f1))))) := ((congrFun hc3 _).trans (up_ne _ _ (by omega))).trans e_z
  replace e_t : c3 (t) = .inl (g.2 0, 2, .inl (rr)) := ((congrFun hc3 _).trans (up_ne _ _ (by omega))).trans e_t
  replace e_n : c3 (n) = .inl (g.2 0, 364, .inl (fun _ => zI 0)) := ((congrFun hc3 _).trans (up_ne _ _ (by omega))).trans e_n
  clear hc3
  refine lv_aload_n hx hb dX3_init_13 rfl (lv_at hl 0 rfl) ?_
  refine lv_sipush (v := zI (364)) hx hb dX3_init_14 (by decide) ?_
  refine n_newa (atype := .int) (ty := .int) (a0 := (364, .inl (fun _ => zI 0))) (N' := 364) hx hb kACint rfl hK hP hD hS hA 0 rfl (fun _ => rfl) (by omega) (by omega) (Nat.le_of_ble_eq_true rfl) (Nat.le_of_ble_eq_true rfl) (Nat.le_of_ble_eq_true rfl) dX3_init_17 (fun q104 H hP hD hS => ?_)
  obtain ⟨a5, ha5⟩ : ∃ x9 : Nat → Nat, x9 = va_up a2 (n + 1) q104 := ⟨_, rfl⟩
  obtain ⟨c5, hc5⟩ : ∃ x9 : Nat → va_E, x9 = va_up c3 (n + 1) (.inl (g.2 0, 364, .inl (fun _ => zI 0))) := ⟨_, rfl⟩
  have hP : nP g (n + 2) a5 c5 H := by rw [ha5, hc5]; exact hP
  have hD : va_D A (nL (n + 2) a5 c5) := by rw [ha5, hc5]; exact hD
  replace hexa : ∀ j : Nat, j < n → a5 j = ad j := fun j hj9 => ((congrFun ha5 j).trans (up_ne _ _ (by omega))).trans (hexa j hj9)
  replace hexc : ∀ j : Nat, j < n → ¬ j = x → c5 j = ce j := fun j hj9 q0 => ((congrFun hc5 j).trans (up_ne _ _ (by omega))).trans (hexc j hj9 q0)
  replace a_x : a5 (x) = h0 := ((congrFun ha5 _).trans (up_ne _ _ (by omega))).trans a_x
  replace e_x : c5 (x) = .inr (3, [.ref q101, .null, .null, .null, .int (zI (0)), .int (zI (0)), .null]) := ((congrFun hc5 _).trans (up_ne _ _ (by omega))).trans e_x
  replace a_y : a5 (y) = h1 := ((congrFun ha5 _).trans (up_ne _ _ (by omega))).trans a_y
  replace e_y : c5 (y) = .inr (2, [v0, v1, v2, .ref h2, v4]) := ((congrFun hc5 _).trans (up_ne _ _ (by omega))).trans e_y
  replace a_z : a5 (z) = h2 := ((congrFun ha5 _).trans (up_ne _ _ (by omega))).trans a_z
  replace e_z : c5 (z) = .inl (g.2 6, 4, .inr (.inr (.inr (.inr (f1))))) := ((congrFun hc5 _).trans (up_ne _ _ (by omega))).trans e_z
  replace a_t : a5 (t) = h3 := ((congrFun ha5 _).trans (up_ne _ _ (by omega))).trans a_t
  replace e_t : c5 (t) = .inl (g.2 0, 2, .inl (rr)) := ((congrFun hc5 _).trans (up_ne _ _ (by omega))).trans e_t
  replace a_n : a5 (n) = q101 := ((congrFun ha5 _).trans (up_ne _ _ (by omega))).trans a_n
  replace e_n : c5 (n) = .inl (g.2 0, 364, .inl (fun _ => zI 0)) := ((congrFun hc5 _).trans (up_ne _ _ (by omega))).trans e_n
  have a_n_1 : a5 (n + 1) = q104 := (congrFun ha5 _).trans (up_at _ _ _)
  have e_n_1 : c5 (n + 1) = .inl (g.2 0, 364, .inl (fun _ => zI 0)) := (congrFun hc5 _).trans (up_at _ _ _)
  clear ha5 hc5
  refine n_putF (ci := 3) (v := .ref q104) (ty := .array .int) (C := RX3) (T := TX3) (N := 7) hx hb hts hinX3 tyX3 tyX3_ok nmX3 hown hK hP hD hS (x) (show x < n + 2 by omega) a_x e_x rfl 1 (by decide) k15 (fun _ h9 => h9) rfl hin9 rfl (by decide +kernel) rfl rfl (Nat.le_of_ble_eq_true rfl) dX3_init_19 (fun H locs hP hD hS => ?_)
  obtain ⟨c6, hc6⟩ : ∃ x9 : Nat → va_E, x9 = va_up c5 (x) (.inr (3, [.ref q101, .ref q104, .null, .null, .int (zI (0)), .int (zI (0)), .null])) := ⟨_, rfl⟩
  have hP : nP g (n + 2) a5 c6 H := by rw [hc6]; exact hP
  have hD : va_D A (nL (n + 2) a5 c6) := by rw [hc6]; exact hD
  replace hexc : ∀ j : Nat, j < n → ¬ j = x → c6 j = ce j := fun j hj9 q0 => ((congrFun hc6 j).trans (up_ne _ _ q0)).trans (hexc j hj9 q0)
  replace e_x : c6 (x) = .inr (3, [.ref q101, .ref q104, .null, .null, .int (zI (0)), .int (zI (0)), .null]) := (congrFun hc6 _).trans (up_at _ _ _)
  replace e_y : c6 (y) = .inr (2, [v0, v1, v2, .ref h2, v4]) := ((congrFun hc6 _).trans (up_ne _ _ (by omega))).trans e_y
  replace e_z : c6 (z) = .inl (g.2 6, 4, .inr (.inr (.inr (.inr (f1))))) := ((congrFun hc6 _).trans (up_ne _ _ (by omega))).trans e_z
  replace e_t : c6 (t) = .inl (g.2 0, 2, .inl (rr)) := ((congrFun hc6 _).trans (up_ne _ _ (by omega))).trans e_t
  replace e_n : c6 (n) = .inl (g.2 0, 364, .inl (fun _ => zI 0)) := ((congrFun hc6 _).trans (up_ne _ _ (by omega))).trans e_n
  replace e_n_1 : c6 (n + 1) = .inl (g.2 0, 364, .inl (fun _ => zI 0)) := ((congrFun hc6 _).trans (up_ne _ _ (by omega))).trans e_n_1
  clear hc6
  refine lv_aload_n hx hb dX3_init_22 rfl (lv_at hl 0 rfl) ?_
  refine lv_sipush (v := zI (364)) hx hb dX3_init_23 (by decide) ?_
  refine n_newa (atype := .boolean) (ty := .boolean) (a0 := (364, .inl (fun _ => zI 0))) (N' := 364) hx hb kACboolean rfl hK hP hD hS hA 2 rfl (fun _ => rfl) (by omega) (by omega) (Nat.le_of_ble_eq_true rfl) (Nat.le_of_ble_eq_true rfl) (Nat.le_of_ble_eq_true rfl) dX3_init_26 (fun q107 H hP hD hS => ?_)
  obtain ⟨a8, ha8⟩ : ∃ x9 : Nat → Nat, x9 = va_up a5 (n + 2) q107 := ⟨_, rfl⟩
  obtain ⟨c8, hc8⟩ : ∃ x9 : Nat → va_E, x9 = va_up c6 (n + 2) (.inl (g.2 2, 364, .inl (fun _ => zI 0))) := ⟨_, rfl⟩
  have hP : nP g (n + 3) a8 c8 H := by rw [ha8, hc8]; exact hP
  have hD : va_D A (nL (n + 3) a8 c8) := by rw [ha8, hc8]; exact hD
  replace hexa : ∀ j : Nat, j < n → a8 j = ad j := fun j hj9 => ((congrFun ha8 j).trans (up_ne _ _ (by omega))).trans (hexa j hj9)
  replace hexc : ∀ j : Nat, j < n → ¬ j = x → c8 j = ce j := fun j hj9 q0 => ((congrFun hc8 j).trans (up_ne _ _ (by omega))).trans (hexc j hj9 q0)
  replace a_x : a8 (x) = h0 := ((congrFun ha8 _).trans (up_ne _ _ (by omega))).trans a_x
  replace e_x : c8 (x) = .inr (3, [.ref q101, .ref q104, .null, .null, .int (zI (0)), .int (zI (0)), .null]) := ((congrFun hc8 _).trans (up_ne _ _ (by omega))).trans e_x
  replace a_y : a8 (y) = h1 := ((congrFun ha8 _).trans (up_ne _ _ (by omega))).trans a_y
  replace e_y : c8 (y) = .inr (2, [v0, v1, v2, .ref h2, v4]) := ((congrFun hc8 _).trans (up_ne _ _ (by omega))).trans e_y
  replace a_z : a8 (z) = h2 := ((congrFun ha8 _).trans (up_ne _ _ (by omega))).trans a_z
  replace e_z : c8 (z) = .inl (g.2 6, 4, .inr (.inr (.inr (.inr (f1))))) := ((congrFun hc8 _).trans (up_ne _ _ (by omega))).trans e_z
  replace a_t : a8 (t) = h3 := ((congrFun ha8 _).trans (up_ne _ _ (by omega))).trans a_t
  replace e_t : c8 (t) = .inl (g.2 0, 2, .inl (rr)) := ((congrFun hc8 _).trans (up_ne _ _ (by omega))).trans e_t
  replace a_n : a8 (n) = q101 := ((congrFun ha8 _).trans (up_ne _ _ (by omega))).trans a_n
  replace e_n : c8 (n) = .inl (g.2 0, 364, .inl (fun _ => zI 0)) := ((congrFun hc8 _).trans (up_ne _ _ (by omega))).trans e_n
  replace a_n_1 : a8 (n + 1) = q104 := ((congrFun ha8 _).trans (up_ne _ _ (by omega))).trans a_n_1
  replace e_n_1 : c8 (n + 1) = .inl (g.2 0, 364, .inl (fun _ => zI 0)) := ((congrFun hc8 _).trans (up_ne _ _ (by omega))).trans e_n_1
  have a_n_2 : a8 (n + 2) = q107 := (congrFun ha8 _).trans (up_at _ _ _)
  have e_n_2 : c8 (n + 2) = .inl (g.2 2, 364, .inl (fun _ => zI 0)) := (congrFun hc8 _).trans (up_at _ _ _)
  clear ha8 hc8
  refine n_putF (ci := 3) (v := .ref q107) (ty := .array .boolean) (C := RX3) (T := TX3) (N := 7) hx hb hts hinX3 tyX3 tyX3_ok nmX3 hown hK hP hD hS (x) (show x < n + 3 by omega) a_x e_x rfl 2 (by decide) k18 (fun _ h9 => h9) rfl hin9 rfl (by decide +kernel) rfl rfl (Nat.le_of_ble_eq_true rfl) dX3_init_28 (fun H locs hP hD hS => ?_)
  obtain ⟨c9, hc9⟩ : ∃ x9 : Nat → va_E, x9 = va_up c8 (x) (.inr (3, [.ref q101, .ref q104, .ref q107, .null, .int (zI (0)), .int (zI (0)), .null])) := ⟨_, rfl⟩
  have hP : nP g (n + 3) a8 c9 H := by rw [hc9]; exact hP
  have hD : va_D A (nL (n + 3) a8 c9) := by rw [hc9]; exact hD
  replace hexc : ∀ j : Nat, j < n → ¬ j = x → c9 j = ce j := fun j hj9 q0 => ((congrFun hc9 j).trans (up_ne _ _ q0)).trans (hexc j hj9 q0)
  replace e_x : c9 (x) = .inr (3, [.ref q101, .ref q104, .ref q107, .null, .int (zI (0)), .int (zI (0)), .null]) := (congrFun hc9 _).trans (up_at _ _ _)
  replace e_y : c9 (y) = .inr (2, [v0, v1, v2, .ref h2, v4]) := ((congrFun hc9 _).trans (up_ne _ _ (by omega))).trans e_y
  replace e_z : c9 (z) = .inl (g.2 6, 4, .inr (.inr (.inr (.inr (f1))))) := ((congrFun hc9 _).trans (up_ne _ _ (by omega))).trans e_z
  replace e_t : c9 (t) = .inl (g.2 0, 2, .inl (rr)) := ((congrFun hc9 _).trans (up_ne _ _ (by omega))).trans e_t
  replace e_n : c9 (n) = .inl (g.2 0, 364, .inl (fun _ => zI 0)) := ((congrFun hc9 _).trans (up_ne _ _ (by omega))).trans e_n
  replace e_n_1 : c9 (n + 1) = .inl (g.2 0, 364, .inl (fun _ => zI 0)) := ((congrFun hc9 _).trans (up_ne _ _ (by omega))).trans e_n_1
  replace e_n_2 : c9 (n + 2) = .inl (g.2 2, 364, .inl (fun _ => zI 0)) := ((congrFun hc9 _).trans (up_ne _ _ (by omega))).trans e_n_2
  clear hc9
  refine lv_aload_n hx hb dX3_init_31 rfl (lv_at hl 0 rfl) ?_
  refine n_new (ci := 0) (fs := [.int (zI (0)), .int (zI (0)), .int (zI (0)), .int (zI (0)), .int (zI (0)), .int (zI (0)), .int (zI (0)), .int (zI (0)), .int (zI (0))]) (C := RX0) (T := TX0) (N := 9) hx hb hts hinX0 tyX0 tyX0_ok hown kN22 kIX0 kJX0 hK hP hD hS hA rfl (fun j hj => by rcases (show j = 0 ∨ j = 1 ∨ j = 2 ∨ j = 3 ∨ j = 4 ∨ j = 5 ∨ j = 6 ∨ j = 7 ∨ j = 8 by omega) with rfl | rfl | rfl | rfl | rfl | rfl | rfl | rfl | rfl <;> rfl) (Nat.le_of_ble_eq_true rfl) (Nat.le_of_ble_eq_true rfl) dX3_init_32 (fun q110 H hP hD hS => ?_)
  obtain ⟨a11, ha11⟩ : ∃ x9 : Nat → Nat, x9 = va_up a8 (n + 3) q110 := ⟨_, rfl⟩
  obtain ⟨c11, hc11⟩ : ∃ x9 : Nat → va_E, x9 = va_up c9 (n + 3) (.inr (0, [.int (zI (0)), .int (zI (0)), .int (zI (0)), .int (zI (0)), .int (zI (0)), .int (zI (0)), .int (zI (0)), .int (zI (0)), .int (zI (0))])) := ⟨_, rfl⟩
  have hP : nP g (n + 4) a11 c11 H := by rw [ha11, hc11]; exact hP
  have hD : va_D A (nL (n + 4) a11 c11) := by rw [ha11, hc11]; exact hD
  replace hexa : ∀ j : Nat, j < n → a11 j = ad j := fun j hj9 => ((congrFun ha11 j).trans (up_ne _ _ (by omega))).trans (hexa j hj9)
  replace hexc : ∀ j : Nat, j < n → ¬ j = x → c11 j = ce j := fun j hj9 q0 => ((congrFun hc11 j).trans (up_ne _ _ (by omega))).trans (hexc j hj9 q0)
  replace a_x : a11 (x) = h0 := ((congrFun ha11 _).trans (up_ne _ _ (by omega))).trans a_x
  replace e_x : c11 (x) = .inr (3, [.ref q101, .ref q104, .ref q107, .null, .int (zI (0)), .int (zI (0)), .null]) := ((congrFun hc11 _).trans (up_ne _ _ (by omega))).trans e_x
  replace a_y : a11 (y) = h1 := ((congrFun ha11 _).trans (up_ne _ _ (by omega))).trans a_y
  replace e_y : c11 (y) = .inr (2, [v0, v1, v2, .ref h2, v4]) := ((congrFun hc11 _).trans (up_ne _ _ (by omega))).trans e_y
  replace a_z : a11 (z) = h2 := ((congrFun ha11 _).trans (up_ne _ _ (by omega))).trans a_z
  replace e_z : c11 (z) = .inl (g.2 6, 4, .inr (.inr (.inr (.inr (f1))))) := ((congrFun hc11 _).trans (up_ne _ _ (by omega))).trans e_z
  replace a_t : a11 (t) = h3 := ((congrFun ha11 _).trans (up_ne _ _ (by omega))).trans a_t
  replace e_t : c11 (t) = .inl (g.2 0, 2, .inl (rr)) := ((congrFun hc11 _).trans (up_ne _ _ (by omega))).trans e_t
  replace a_n : a11 (n) = q101 := ((congrFun ha11 _).trans (up_ne _ _ (by omega))).trans a_n
  replace e_n : c11 (n) = .inl (g.2 0, 364, .inl (fun _ => zI 0)) := ((congrFun hc11 _).trans (up_ne _ _ (by omega))).trans e_n
  replace a_n_1 : a11 (n + 1) = q104 := ((congrFun ha11 _).trans (up_ne _ _ (by omega))).trans a_n_1
  replace e_n_1 : c11 (n + 1) = .inl (g.2 0, 364, .inl (fun _ => zI 0)) := ((congrFun hc11 _).trans (up_ne _ _ (by omega))).trans e_n_1
  replace a_n_2 : a11 (n + 2) = q107 := ((congrFun ha11 _).trans (up_ne _ _ (by omega))).trans a_n_2
  replace e_n_2 : c11 (n + 2) = .inl (g.2 2, 364, .inl (fun _ => zI 0)) := ((congrFun hc11 _).trans (up_ne _ _ (by omega))).trans e_n_2
  have a_n_3 : a11 (n + 3) = q110 := (congrFun ha11 _).trans (up_at _ _ _)
  have e_n_3 : c11 (n + 3) = .inr (0, [.int (zI (0)), .int (zI (0)), .int (zI (0)), .int (zI (0)), .int (zI (0)), .int (zI (0)), .int (zI (0)), .int (zI (0)), .int (zI (0))]) := (congrFun hc11 _).trans (up_at _ _ _)
  clear ha11 hc11
  refine lv_dup hx hb dX3_init_35 rfl ?_
  have hF9 := n_free hD hS hA
  have hS9 := hS
  refine va_callv (va_runIN (As := []) (rest := [.ref q110, .ref h0]) ⟨hx, hb, hml, hown, hts⟩ (c_X0_init_N l g (n + 4) (a11) (c11) (H.size) (n + 3) (by omega) (q110) (a_n_3) (e_n_3)) ⟨va_cnB 0 hts gX3_init_X0_init_n24 rfl rfl rfl hN.2.1 kJX0 (by decide +kernel) ⟨Nat.le_of_ble_eq_true rfl, Nat.le_of_ble_eq_true rfl⟩, rfl, kIm_X0_init⟩ (n_preS hP hD hK hN) rfl rfl hl.1 rfl (lv_room (Nat.le_of_ble_eq_true rfl)) dX3_init_36 ⟨Nat.le_of_ble_eq_true rfl, Nat.le_of_ble_eq_true rfl⟩) hS (fun q _ h => hF9 q h) hF9 (fun u9 t9 H1 locs ht9 hvm9 hw9 hB9 hz9 hk9 hS => ?_)
  obtain ⟨a12, c12⟩ := u9
  rw [ht9] at hB9
  clear hz9 hk9 hvm9 ht9 hF9
  try dsimp only at hw9 hB9
  obtain ⟨hq9, hu9, hp9_0⟩ := hw9
  have hD : va_D A (nL (n + 4) a12 c12) := n_joinD (n := n + 4) (m := 0) hD hS9 hA hq9
  clear hS9
  have hP : nP g (n + 4) a12 c12 H1 := hB9
  clear hB9
  generalize H1 = H at hP hS ⊢
  replace hexa : ∀ j : Nat, j < n → a12 j = ad j := fun j hj9 => (hq9.1 j (by omega)).trans (hexa j hj9)
  replace hexc : ∀ j : Nat, j < n → ¬ j = x → c12 j = ce j := fun j hj9 q0 => (hu9 j (by omega) (by omega)).trans (hexc j hj9 q0)
  replace a_x : a12 (x) = h0 := (hq9.1 _ (by omega)).trans a_x
  replace e_x : c12 (x) = .inr (3, [.ref q101, .ref q104, .ref q107, .null, .int (zI (0)), .int (zI (0)), .null]) := (hu9 _ (by omega) (by omega)).trans e_x
  replace a_y : a12 (y) = h1 := (hq9.1 _ (by omega)).trans a_y
  replace e_y : c12 (y) = .inr (2, [v0, v1, v2, .ref h2, v4]) := (hu9 _ (by omega) (by omega)).trans e_y
  replace a_z : a12 (z) = h2 := (hq9.1 _ (by omega)).trans a_z
  replace e_z : c12 (z) = .inl (g.2 6, 4, .inr (.inr (.inr (.inr (f1))))) := (hu9 _ (by omega) (by omega)).trans e_z
  replace a_t : a12 (t) = h3 := (hq9.1 _ (by omega)).trans a_t
  replace e_t : c12 (t) = .inl (g.2 0, 2, .inl (rr)) := (hu9 _ (by omega) (by omega)).trans e_t
  replace a_n : a12 (n) = q101 := (hq9.1 _ (by omega)).trans a_n
  replace e_n : c12 (n) = .inl (g.2 0, 364, .inl (fun _ => zI 0)) := (hu9 _ (by omega) (by omega)).trans e_n
  replace a_n_1 : a12 (n + 1) = q104 := (hq9.1 _ (by omega)).trans a_n_1
  replace e_n_1 : c12 (n + 1) = .inl (g.2 0, 364, .inl (fun _ => zI 0)) := (hu9 _ (by omega) (by omega)).trans e_n_1
  replace a_n_2 : a12 (n + 2) = q107 := (hq9.1 _ (by omega)).trans a_n_2
  replace e_n_2 : c12 (n + 2) = .inl (g.2 2, 364, .inl (fun _ => zI 0)) := (hu9 _ (by omega) (by omega)).trans e_n_2
  replace a_n_3 : a12 (n + 3) = q110 := (hq9.1 _ (by omega)).trans a_n_3
  have e_n_3 : c12 (n + 3) = .inr (0, [.int (zI (0)), .int (zI (0)), .int (zI (0)), .int (zI (0)), .int (zI (0)), .int (zI (0)), .int (zI (0)), .int (zI (0)), .int (zI (365))]) := hp9_0
  clear hq9 hu9 hp9_0
  refine n_putF (ci := 3) (v := .ref q110) (ty := .object "HoursBank$Account") (C := RX3) (T := TX3) (N := 7) hx hb hts hinX3 tyX3 tyX3_ok nmX3 hown hK hP hD hS (x) (show x < n + 4 by omega) a_x e_x rfl 3 (by decide) k25 (fun _ h9 => h9) rfl hin9 rfl (by decide +kernel) rfl rfl (Nat.le_of_ble_eq_true rfl) dX3_init_39 (fun H locs hP hD hS => ?_)
  obtain ⟨c13, hc13⟩ : ∃ x9 : Nat → va_E, x9 = va_up c12 (x) (.inr (3, [.ref q101, .ref q104, .ref q107, .ref q110, .int (zI (0)), .int (zI (0)), .null])) := ⟨_, rfl⟩
  have hP : nP g (n + 4) a12 c13 H := by rw [hc13]; exact hP
  have hD : va_D A (nL (n + 4) a12 c13) := by rw [hc13]; exact hD
  replace hexc : ∀ j : Nat, j < n → ¬ j = x → c13 j = ce j := fun j hj9 q0 => ((congrFun hc13 j).trans (up_ne _ _ q0)).trans (hexc j hj9 q0)
  replace e_x : c13 (x) = .inr (3, [.ref q101, .ref q104, .ref q107, .ref q110, .int (zI (0)), .int (zI (0)), .null]) := (congrFun hc13 _).trans (up_at _ _ _)
  replace e_y : c13 (y) = .inr (2, [v0, v1, v2, .ref h2, v4]) := ((congrFun hc13 _).trans (up_ne _ _ (by omega))).trans e_y
  replace e_z : c13 (z) = .inl (g.2 6, 4, .inr (.inr (.inr (.inr (f1))))) := ((congrFun hc13 _).trans (up_ne _ _ (by omega))).trans e_z
  replace e_t : c13 (t) = .inl (g.2 0, 2, .inl (rr)) := ((congrFun hc13 _).trans (up_ne _ _ (by omega))).trans e_t
  replace e_n : c13 (n) = .inl (g.2 0, 364, .inl (fun _ => zI 0)) := ((congrFun hc13 _).trans (up_ne _ _ (by omega))).trans e_n
  replace e_n_1 : c13 (n + 1) = .inl (g.2 0, 364, .inl (fun _ => zI 0)) := ((congrFun hc13 _).trans (up_ne _ _ (by omega))).trans e_n_1
  replace e_n_2 : c13 (n + 2) = .inl (g.2 2, 364, .inl (fun _ => zI 0)) := ((congrFun hc13 _).trans (up_ne _ _ (by omega))).trans e_n_2
  replace e_n_3 : c13 (n + 3) = .inr (0, [.int (zI (0)), .int (zI (0)), .int (zI (0)), .int (zI (0)), .int (zI (0)), .int (zI (0)), .int (zI (0)), .int (zI (0)), .int (zI (365))]) := ((congrFun hc13 _).trans (up_ne _ _ (by omega))).trans e_n_3
  clear hc13
  refine lv_aload_n hx hb dX3_init_42 rfl (lv_at hl 0 rfl) ?_
  refine lv_aload_n hx hb dX3_init_43 rfl (lv_at hl 1 rfl) ?_
  refine lv_iload_n hx hb dX3_init_44 rfl (lv_at hl 2 rfl) ?_
  have hF9 := n_free hD hS hA
  have hS9 := hS
  refine va_callv (va_runV (As := [.ref h1, .int (zI (w))]) (rest := []) ⟨hx, hb, hml, hown, hts⟩ (c_X3_begin_N l g (n + 4) (a12) (c13) (H.size) (x) (by omega) (h0) (a_x) (n) (q101) (a_n) (q104) (a_n_1) (q107) (a_n_2) (q110) (a_n_3) (y) (by omega) (h1) (a_y) (z) (by omega) (h2) (a_z) (t) (by omega) (h3) (a_t) (v0) (v1) (v2) (v4) (f1) (w) (hw) (hf1) (rr) (fun _ => zI 0) (fun _ => zI 0) (fun _ => zI 0) (begR) (.int (zI 0)) (.int (zI 0)) (.null) (by omega) (e_x) (e_n) (e_n_1) (e_n_2) (e_n_3) (e_y) (e_z) (e_t)) (cwV 2 hts gX3_init_X3_begin rfl rfl rfl (by decide +kernel) ⟨Nat.le_of_ble_eq_true rfl, Nat.le_of_ble_eq_true rfl⟩) (n_preV hP hD hK hN (va_recv hK (nb1 hP (show x < n + 4 by omega) a_x e_x) (q0 := 0) (ci := 3) rfl rfl)) rfl rfl hl.1 rfl (lv_room (Nat.le_of_ble_eq_true rfl)) dX3_init_45 ⟨Nat.le_of_ble_eq_true rfl, Nat.le_of_ble_eq_true rfl⟩) hS (fun q _ h => hF9 q h) hF9 (fun u9 t9 H1 locs ht9 hvm9 hw9 hB9 hz9 hk9 hS => ?_)
  obtain ⟨a14, c14⟩ := u9
  rw [ht9] at hB9
  clear hz9 hk9 hvm9 ht9 hF9
  try dsimp only at hw9 hB9
  obtain ⟨hq9, hu9, hp9_0, hp9_1, hp9_2, hp9_3, hp9_4⟩ := hw9
  have hD : va_D A (nL (n + 4) a14 c14) := n_joinD (n := n + 4) (m := 0) hD hS9 hA hq9
  clear hS9
  have hP : nP g (n + 4) a14 c14 H1 := hB9
  clear hB9
  generalize H1 = H at hP hS ⊢
  replace hexa : ∀ j : Nat, j < n → a14 j = ad j := fun j hj9 => (hq9.1 j (by omega)).trans (hexa j hj9)
  replace hexc : ∀ j : Nat, j < n → ¬ j = x → c14 j = ce j := fun j hj9 q0 => (hu9 j (by omega) q0 (by omega) (by omega) (by omega) (by omega)).trans (hexc j hj9 q0)
  replace a_x : a14 (x) = h0 := (hq9.1 _ (by omega)).trans a_x
  replace a_y : a14 (y) = h1 := (hq9.1 _ (by omega)).trans a_y
  replace e_y : c14 (y) = .inr (2, [v0, v1, v2, .ref h2, v4]) := (hu9 _ (by omega) (by omega) (by omega) (by omega) (by omega) (by omega)).trans e_y
  replace a_z : a14 (z) = h2 := (hq9.1 _ (by omega)).trans a_z
  replace e_z : c14 (z) = .inl (g.2 6, 4, .inr (.inr (.inr (.inr (f1))))) := (hu9 _ (by omega) (by omega) (by omega) (by omega) (by omega) (by omega)).trans e_z
  replace a_t : a14 (t) = h3 := (hq9.1 _ (by omega)).trans a_t
  replace e_t : c14 (t) = .inl (g.2 0, 2, .inl (rr)) := (hu9 _ (by omega) (by omega) (by omega) (by omega) (by omega) (by omega)).trans e_t
  replace a_n : a14 (n) = q101 := (hq9.1 _ (by omega)).trans a_n
  replace a_n_1 : a14 (n + 1) = q104 := (hq9.1 _ (by omega)).trans a_n_1
  replace a_n_2 : a14 (n + 2) = q107 := (hq9.1 _ (by omega)).trans a_n_2
  replace a_n_3 : a14 (n + 3) = q110 := (hq9.1 _ (by omega)).trans a_n_3
  have e_x : c14 (x) = .inr (3, [.ref q101, .ref q104, .ref q107, .ref q110, .int (rr 0), .int (rr 1), .ref h1]) := hp9_0
  have e_n : c14 (n) = .inl (g.2 0, 364, .inl (fillR (zI (-1)) (fun _ => zI 0) 364)) := hp9_1
  have e_n_1 : c14 (n + 1) = .inl (g.2 0, 364, .inl (fillR (zI (0)) (fun _ => zI 0) 364)) := hp9_2
  have e_n_2 : c14 (n + 2) = .inl (g.2 2, 364, .inl (fillR (zI (0)) (fun _ => zI 0) 364)) := hp9_3
  have e_n_3 : c14 (n + 3) = .inr (0, [.int (zI (0)), .int (zI (0)), .int (zI (0)), .int (zI (0)), .int (zI (0)), .int (zI (0)), .int (zI (0)), .int (zI (0)), .int (zI (365))]) := hp9_4
  clear hq9 hu9 hp9_0 hp9_1 hp9_2 hp9_3 hp9_4
  have hQ9 := nQ_of (m := 4) hAe hD hexa
  exact W.vret hx hb hr (fun tX htX hWX => ⟨⟨(a14, c14), rfl, ⟨hQ9, fun j hj9 q0 => hexc j hj9 q0, e_x.trans (by dsimp only; rw [a_n, a_n_1, a_n_2, a_n_3]), e_n, e_n_1, e_n_2, e_n_3⟩, g_at htX hP⟩, hS.F htX⟩) hS.2.2 dX3_init_48

set_option maxHeartbeats 4000000 in
set_option maxRecDepth 100000 in
theorem c_X4_init_N (l : Launch) (g : GG) (n : Nat) (ad : Nat → Nat) (ce : Nat → va_E) (sz : Nat) (x : Nat) (hx0 : x < n) (h0 : Nat) (ha0 : ad x = h0) (e_x : ce (x) = .inr (4, [.int (zI (0)), .int (zI (0)), .int (zI (0)), .int (zI (0)), .int (zI (0)), .null])) : Met l yX4_init wsX4_init ({ frames := 2, cells := 5, slots := 40, locals := 32 }) (nPc g n ad ce sz [.ref h0]) (va_Qv (fun (u : (Nat → Nat) × (Nat → va_E)) => nQ n 5 ad sz u.1 ∧ (∀ i, i < n → ¬ i = x → u.2 i = ce i) ∧ u.2 (x) = .inr (4, [.int (zI (0)), .int (zI (0)), .int (zI (0)), .int (zI (0)), .int (zI (0)), .ref ((u.1 (n)))]) ∧ u.2 (n) = .inl (g.2 3, 4, .inr (.inr (.inr (.inr (fun i8 => some (u.1 (n + 1 + i8))))))) ∧ u.2 (n + 1) = .inr (0, [.int (zI (0)), .int (zI (0)), .int (zI (0)), .int (zI (0)), .int (zI (0)), .int (zI (0)), .int (zI (0)), .int (zI (0)), .int (zI (365))]) ∧ u.2 (n + 2) = .inr (0, [.int (zI (0)), .int (zI (0)), .int (zI (0)), .int (zI (0)), .int (zI (0)), .int (zI (0)), .int (zI (0)), .int (zI (0)), .int (zI (365))]) ∧ u.2 (n + 3) = .inr (0, [.int (zI (0)), .int (zI (0)), .int (zI (0)), .int (zI (0)), .int (zI (0)), .int (zI (0)), .int (zI (0)), .int (zI (0)), .int (zI (365))]) ∧ u.2 (n + 4) = .inr (0, [.int (zI (0)), .int (zI (0)), .int (zI (0)), .int (zI (0)), .int (zI (0)), .int (zI (0)), .int (zI (0)), .int (zI (0)), .int (zI (365))])) (fun u (tS : State) => nP g (n + 5) u.1 u.2 tS.heap) (nA n ad sz)) 5 40 (nA n ad sz) := by
  refine Met.ofW (cc := cX4_init) (maxL := 2) (ret := none) (by decide) rfl ?_
  intro p e s m args below meth c s₁ B hml hv
  obtain ⟨rfl, hsz, hP, hD0, hK, hN⟩ := hv
  have hx := B.exec
  have hb := B.bytes
  have hr := B.returns
  have hts := atoms_spec (ws := wsX4_init) B.pre
  have hown : s.vm.findClass RX4 = some m.cls := findClass_of_methodNamed B.named
  have hlocks := B.notSynchronized
  have hin9 := (name_of_methodNamed B.named B.method).1
  have hinX0 : ∀ w ∈ wsX00, w ∈ wsX4_init := by decide +kernel
  have hinX4 : ∀ w ∈ wsX40, w ∈ wsX4_init := by decide +kernel
  have kOI := hts (.methodLink RX4 3 objectInit) (by decide +kernel)
  have kOJ := hts (.instanceMethod objectInit) (by decide +kernel)
  have kOK := hts (.code objectInit ⟨#[0xb1]⟩ 1 none) (by decide +kernel)
  have kN9 := hts (.classLink RX4 9 RX0) (by decide +kernel)
  have k11 := hts (.fieldLink RX4 11 "HoursBank$Step" "accounts" "[LHoursBank$Account;") (by decide +kernel)
  have kIX0 := hts (.instantiable RX0 9) (by decide +kernel)
  have kJX0 := hts (.initialized RX0) (by decide +kernel)
  have kIm_X0_init := hts (.instanceMethod yX0_init) (by decide +kernel)
  subst hsz
  obtain ⟨A, hAe⟩ : ∃ A, A = nA n ad s.heap.size := ⟨_, rfl⟩
  rw [← hAe]
  have hA : ∀ q : Nat, s.heap.size ≤ q → A q := fun q h => by rw [hAe]; exact Or.inr h
  have hD : va_D A (nL n ad ce) := nDa hD0 (fun i hi => by rw [hAe]; exact Or.inl ⟨i, hi, rfl⟩)
  have hl := lv_entry ([.ref h0]) (n := 2) (Nat.le_of_ble_eq_true rfl)
  rw [lg_entry_eq]
  generalize (lg_sl ([.ref h0]) ++ List.replicate (2 - (lg_sl ([.ref h0])).length) Slot.unset).toArray = ls at hl ⊢
  have hl : lv_has ls 2 [(0, .ref h0)] := hl
  have hS : va_S A s.heap s.heap [] := va_S.rf
  obtain ⟨H, hH9⟩ : ∃ H, H = s.heap := ⟨_, rfl⟩
  obtain ⟨locs, hL9⟩ : ∃ x9l : List Loc, x9l = [] := ⟨_, rfl⟩
  have hP : nP g n ad ce H := hH9 ▸ hP
  have hS : va_S A s.heap H locs := by rw [hH9, hL9]; exact hS
  refine z_start hH9 hL9 ?_
  clear hH9 hL9
  have hexa : ∀ j : Nat, j < n → ad j = ad j := fun _ _ => rfl
  have hexc : ∀ j : Nat, j < n → ce j = ce j := fun _ _ => rfl
  have a_x : ad (x) = h0 := ha0
  refine lv_aload_n hx hb dX4_init_0 rfl (lv_at hl 0 rfl) ?_
  refine W.objInit hx hb hown kOI kOJ kOK rfl (by rw [hml]; exact hl.1) rfl dX4_init_1 (Nat.le_of_ble_eq_true rfl) (Nat.le_of_ble_eq_true rfl) ?_
  refine W.eq (g2 := F0 m 4 ls []) rfl ?_
  refine lv_aload_n hx hb dX4_init_4 rfl (lv_at hl 0 rfl) ?_
  refine lv_iconst (v := zI (4)) hx hb dX4_init_5 (by decide) ?_
  refine n_newq (C := RX0) (N' := 4) hx hb hown kN9 hN.2.2.2.1 hK hP hD hS hA 3 rfl (by omega) (by omega) (Nat.le_of_ble_eq_true rfl) (Nat.le_of_ble_eq_true rfl) (Nat.le_of_ble_eq_true rfl) dX4_init_6 (fun q101 H hP hD hS => ?_)
  obtain ⟨a2, ha2⟩ : ∃ x9 : Nat → Nat, x9 = va_up ad (n) q101 := ⟨_, rfl⟩
  obtain ⟨c2, hc2⟩ : ∃ x9 : Nat → va_E, x9 = va_up ce (n) (.inl (g.2 3, 4, .inr (.inr (.inr (.inr (fun _ => none)))))) := ⟨_, rfl⟩
  have hP : nP g (n + 1) a2 c2 H := by rw [ha2, hc2]; exact hP
  have hD : va_D A (nL (n + 1) a2 c2) := by rw [ha2, hc2]; exact hD
  replace hexa : ∀ j : Nat, j < n → a2 j = ad j := fun j hj9 => ((congrFun ha2 j).trans (up_ne _ _ (by omega))).trans (hexa j hj9)
  replace hexc : ∀ j : Nat, j < n → c2 j = ce j := fun j hj9  => ((congrFun hc2 j).trans (up_ne _ _ (by omega))).trans (hexc j hj9 )
  replace a_x : a2 (x) = h0 := ((congrFun ha2 _).trans (up_ne _ _ (by omega))).trans a_x
  replace e_x : c2 (x) = .inr (4, [.int (zI (0)), .int (zI (0)), .int (zI (0)), .int (zI (0)), .int (zI (0)), .null]) := ((congrFun hc2 _).trans (up_ne _ _ (by omega))).trans e_x
  have a_n : a2 (n) = q101 := (congrFun ha2 _).trans (up_at _ _ _)
  have e_n : c2 (n) = .inl (g.2 3, 4, .inr (.inr (.inr (.inr (fun _ => none))))) := (congrFun hc2 _).trans (up_at _ _ _)
  clear ha2 hc2
  refine n_putF (ci := 4) (v := .ref q101) (ty := .array (.object "HoursBank$Account")) (C := RX4) (T := TX4) (N := 6) hx hb hts hinX4 tyX4 tyX4_ok nmX4 hown hK hP hD hS (x) (show x < n + 1 by omega) a_x e_x rfl 5 (by decide) k11 (fun _ h9 => h9) rfl hin9 rfl (by decide +kernel) rfl rfl (Nat.le_of_ble_eq_true rfl) dX4_init_9 (fun H locs hP hD hS => ?_)
  obtain ⟨c3, hc3⟩ : ∃ x9 : Nat → va_E, x9 = va_up c2 (x) (.inr (4, [.int (zI (0)), .int (zI (0)), .int (zI (0)), .int (zI (0)), .int (zI (0)), .ref q101])) := ⟨_, rfl⟩
  have hP : nP g (n + 1) a2 c3 H := by rw [hc3]; exact hP
  have hD : va_D A (nL (n + 1) a2 c3) := by rw [hc3]; exact hD
  replace hexc : ∀ j : Nat, j < n → ¬ j = x → c3 j = ce j := fun j hj9 q0 => ((congrFun hc3 j).trans (up_ne _ _ q0)).trans (hexc j hj9 )
  replace e_x : c3 (x) = .inr (4, [.int (zI (0)), .int (zI (0)), .int (zI (0)), .int (zI (0)), .int (zI (0)), .ref q101]) := (congrFun hc3 _).trans (up_at _ _ _)
  replace e_n : c3 (n) = .inl (g.2 3, 4, .inr (.inr (.inr (.inr (fun _ => none))))) := ((congrFun hc3 _).trans (up_ne _ _ (by omega))).trans e_n
  clear hc3
  refine lv_iconst (v := zI (0)) hx hb dX4_init_12 (by decide) ?_
  refine lv_istore_n (lv' := [(1, .int (zI (0))), (0, .ref h0)]) hx hb dX4_init_13 rfl hl (by decide) rfl (fun ls hl => ?_)
  refine lv_iload_n hx hb dX4_init_14 rfl (lv_at hl 0 rfl) ?_
  refine lv_iconst (v := zI (4)) hx hb dX4_init_15 (by decide) ?_
  refine z_icmp_ge (tgt := 38) hx hb dX4_init_16 (by decide) (by omega) (by omega) (fun h16 => ?_) (fun h16 => ?_)
  · exfalso; omega
  · refine lv_aload_n hx hb dX4_init_19 rfl (lv_at hl 1 rfl) ?_
    refine va_get (D := g.1) (ci := 4) (v := .ref q101) (C := RX4) (T := TX4) (N := 6) hx hb hts hinX4 hown hK (nb1 hP (show x < n + 1 by omega) a_x e_x) 0 rfl rfl 5 (by decide) k11 (fun _ h9 => h9) rfl dX4_init_20 ?_
    refine lv_iload_n hx hb dX4_init_23 rfl (lv_at hl 0 rfl) ?_
    refine n_new (ci := 0) (fs := [.int (zI (0)), .int (zI (0)), .int (zI (0)), .int (zI (0)), .int (zI (0)), .int (zI (0)), .int (zI (0)), .int (zI (0)), .int (zI (0))]) (C := RX0) (T := TX0) (N := 9) hx hb hts hinX0 tyX0 tyX0_ok hown kN9 kIX0 kJX0 hK hP hD hS hA rfl (fun j hj => by rcases (show j = 0 ∨ j = 1 ∨ j = 2 ∨ j = 3 ∨ j = 4 ∨ j = 5 ∨ j = 6 ∨ j = 7 ∨ j = 8 by omega) with rfl | rfl | rfl | rfl | rfl | rfl | rfl | rfl | rfl <;> rfl) (Nat.le_of_ble_eq_true rfl) (Nat.le_of_ble_eq_true rfl) dX4_init_24 (fun q104 H hP hD hS => ?_)
    obtain ⟨a5, ha5⟩ : ∃ x9 : Nat → Nat, x9 = va_up a2 (n + 1) q104 := ⟨_, rfl⟩
    obtain ⟨c5, hc5⟩ : ∃ x9 : Nat → va_E, x9 = va_up c3 (n + 1) (.inr (0, [.int (zI (0)), .int (zI (0)), .int (zI (0)), .int (zI (0)), .int (zI (0)), .int (zI (0)), .int (zI (0)), .int (zI (0)), .int (zI (0))])) := ⟨_, rfl⟩
    have hP : nP g (n + 2) a5 c5 H := by rw [ha5, hc5]; exact hP
    have hD : va_D A (nL (n + 2) a5 c5) := by rw [ha5, hc5]; exact hD
    replace hexa : ∀ j : Nat, j < n → a5 j = ad j := fun j hj9 => ((congrFun ha5 j).trans (up_ne _ _ (by omega))).trans (hexa j hj9)
    replace hexc : ∀ j : Nat, j < n → ¬ j = x → c5 j = ce j := fun j hj9 q0 => ((congrFun hc5 j).trans (up_ne _ _ (by omega))).trans (hexc j hj9 q0)
    replace a_x : a5 (x) = h0 := ((congrFun ha5 _).trans (up_ne _ _ (by omega))).trans a_x
    replace e_x : c5 (x) = .inr (4, [.int (zI (0)), .int (zI (0)), .int (zI (0)), .int (zI (0)), .int (zI (0)), .ref q101]) := ((congrFun hc5 _).trans (up_ne _ _ (by omega))).trans e_x
    replace a_n : a5 (n) = q101 := ((congrFun ha5 _).trans (up_ne _ _ (by omega))).trans a_n
    replace e_n : c5 (n) = .inl (g.2 3, 4, .inr (.inr (.inr (.inr (fun _ => none))))) := ((congrFun hc5 _).trans (up_ne _ _ (by omega))).trans e_n
    have a_n_1 : a5 (n + 1) = q104 := (congrFun ha5 _).trans (up_at _ _ _)
    have e_n_1 : c5 (n + 1) = .inr (0, [.int (zI (0)), .int (zI (0)), .int (zI (0)), .int (zI (0)), .int (zI (0)), .int (zI (0)), .int (zI (0)), .int (zI (0)), .int (zI (0))]) := (congrFun hc5 _).trans (up_at _ _ _)
    clear ha5 hc5
    refine lv_dup hx hb dX4_init_27 rfl ?_
    have hF9 := n_free hD hS hA
    have hS9 := hS
    refine va_callv (va_runIN (As := []) (rest := [.ref q104, .int (zI (0)), .ref q101]) ⟨hx, hb, hml, hown, hts⟩ (c_X0_init_N l g (n + 2) (a5) (c5) (H.size) (n + 1) (by omega) (q104) (a_n_1) (e_n_1)) ⟨va_cnB 0 hts gX4_init_X0_init_n17 rfl rfl rfl hN.2.2.1 kJX0 (by decide +kernel) ⟨Nat.le_of_ble_eq_true rfl, Nat.le_of_ble_eq_true rfl⟩, rfl, kIm_X0_init⟩ (n_preS hP hD hK hN) rfl rfl hl.1 rfl (lv_room (Nat.le_of_ble_eq_true rfl)) dX4_init_28 ⟨Nat.le_of_ble_eq_true rfl, Nat.le_of_ble_eq_true rfl⟩) hS (fun q _ h => hF9 q h) hF9 (fun u9 t9 H1 locs ht9 hvm9 hw9 hB9 hz9 hk9 hS => ?_)
    obtain ⟨a6, c6⟩ := u9
    rw [ht9] at hB9
    clear hz9 hk9 hvm9 ht9 hF9
    try dsimp only at hw9 hB9
    obtain ⟨hq9, hu9, hp9_0⟩ := hw9
    have hD : va_D A (nL (n + 2) a6 c6) := n_joinD (n := n + 2) (m := 0) hD hS9 hA hq9
    clear hS9
    have hP : nP g (n + 2) a6 c6 H1 := hB9
    clear hB9
    generalize H1 = H at hP hS ⊢
    replace hexa : ∀ j : Nat, j < n → a6 j = ad j := fun j hj9 => (hq9.1 j (by omega)).trans (hexa j hj9)
    replace hexc : ∀ j : Nat, j < n → ¬ j = x → c6 j = ce j := fun j hj9 q0 => (hu9 j (by omega) (by omega)).trans (hexc j hj9 q0)
    replace a_x : a6 (x) = h0 := (hq9.1 _ (by omega)).trans a_x
    replace e_x : c6 (x) = .inr (4, [.int (zI (0)), .int (zI (0)), .int (zI (0)), .int (zI (0)), .int (zI (0)), .ref q101]) := (hu9 _ (by omega) (by omega)).trans e_x
    replace a_n : a6 (n) = q101 := (hq9.1 _ (by omega)).trans a_n
    replace e_n : c6 (n) = .inl (g.2 3, 4, .inr (.inr (.inr (.inr (fun _ => none))))) := (hu9 _ (by omega) (by omega)).trans e_n
    replace a_n_1 : a6 (n + 1) = q104 := (hq9.1 _ (by omega)).trans a_n_1
    have e_n_1 : c6 (n + 1) = .inr (0, [.int (zI (0)), .int (zI (0)), .int (zI (0)), .int (zI (0)), .int (zI (0)), .int (zI (0)), .int (zI (0)), .int (zI (0)), .int (zI (365))]) := hp9_0
    clear hq9 hu9 hp9_0
    refine n_aast hx hb hK hP hD hS (n) (show n < n + 2 by omega) a_n 3 e_n 0 rfl rfl (by decide) (n + 1) (show n + 1 < n + 2 by omega) a_n_1 e_n_1 (0) (by omega) (by omega) dX4_init_31 (fun H locs hP hD hS => ?_)
    obtain ⟨c7, hc7⟩ : ∃ x9 : Nat → va_E, x9 = va_up c6 (n) (.inl (g.2 3, 4, .inr (.inr (.inr (.inr (va_up (fun _ => none) 0 (some q104))))))) := ⟨_, rfl⟩
    have hP : nP g (n + 2) a6 c7 H := by rw [hc7]; exact hP
    have hD : va_D A (nL (n + 2) a6 c7) := by rw [hc7]; exact hD
    replace hexc : ∀ j : Nat, j < n → ¬ j = x → c7 j = ce j := fun j hj9 q0 => ((congrFun hc7 j).trans (up_ne _ _ (by omega))).trans (hexc j hj9 q0)
    replace e_x : c7 (x) = .inr (4, [.int (zI (0)), .int (zI (0)), .int (zI (0)), .int (zI (0)), .int (zI (0)), .ref q101]) := ((congrFun hc7 _).trans (up_ne _ _ (by omega))).trans e_x
    replace e_n : c7 (n) = .inl (g.2 3, 4, .inr (.inr (.inr (.inr (va_up (fun _ => none) 0 (some q104)))))) := (congrFun hc7 _).trans (up_at _ _ _)
    replace e_n_1 : c7 (n + 1) = .inr (0, [.int (zI (0)), .int (zI (0)), .int (zI (0)), .int (zI (0)), .int (zI (0)), .int (zI (0)), .int (zI (0)), .int (zI (0)), .int (zI (365))]) := ((congrFun hc7 _).trans (up_ne _ _ (by omega))).trans e_n_1
    clear hc7
    refine z_iinc (lv' := [(1, .int (zI (0 + 1))), (0, .ref h0)]) hx hb dX4_init_32 hl (k := 0) rfl (by decide) rfl (fun ls hl => ?_)
    refine lv_goto (tgt := 14) hx hb dX4_init_35 (by decide) ?_
    refine lv_iload_n hx hb dX4_init_14 rfl (lv_at hl 0 rfl) ?_
    refine lv_iconst (v := zI (4)) hx hb dX4_init_15 (by decide) ?_
    refine z_icmp_ge (tgt := 38) hx hb dX4_init_16 (by decide) (by omega) (by omega) (fun h16 => ?_) (fun h16 => ?_)
    · exfalso; omega
    · refine lv_aload_n hx hb dX4_init_19 rfl (lv_at hl 1 rfl) ?_
      refine va_get (D := g.1) (ci := 4) (v := .ref q101) (C := RX4) (T := TX4) (N := 6) hx hb hts hinX4 hown hK (nb1 hP (show x < n + 2 by omega) a_x e_x) 0 rfl rfl 5 (by decide) k11 (fun _ h9 => h9) rfl dX4_init_20 ?_
      refine lv_iload_n hx hb dX4_init_23 rfl (lv_at hl 0 rfl) ?_
      refine n_new (ci := 0) (fs := [.int (zI (0)), .int (zI (0)), .int (zI (0)), .int (zI (0)), .int (zI (0)), .int (zI (0)), .int (zI (0)), .int (zI (0)), .int (zI (0))]) (C := RX0) (T := TX0) (N := 9) hx hb hts hinX0 tyX0 tyX0_ok hown kN9 kIX0 kJX0 hK hP hD hS hA rfl (fun j hj => by rcases (show j = 0 ∨ j = 1 ∨ j = 2 ∨ j = 3 ∨ j = 4 ∨ j = 5 ∨ j = 6 ∨ j = 7 ∨ j = 8 by omega) with rfl | rfl | rfl | rfl | rfl | rfl | rfl | rfl | rfl <;> rfl) (Nat.le_of_ble_eq_true rfl) (Nat.le_of_ble_eq_true rfl) dX4_init_24 (fun q108 H hP hD hS => ?_)
      obtain ⟨a9, ha9⟩ : ∃ x9 : Nat → Nat, x9 = va_up a6 (n + 2) q108 := ⟨_, rfl⟩
      obtain ⟨c9, hc9⟩ : ∃ x9 : Nat → va_E, x9 = va_up c7 (n + 2) (.inr (0, [.int (zI (0)), .int (zI (0)), .int (zI (0)), .int (zI (0)), .int (zI (0)), .int (zI (0)), .int (zI (0)), .int (zI (0)), .int (zI (0))])) := ⟨_, rfl⟩
      have hP : nP g (n + 3) a9 c9 H := by rw [ha9, hc9]; exact hP
      have hD : va_D A (nL (n + 3) a9 c9) := by rw [ha9, hc9]; exact hD
      replace hexa : ∀ j : Nat, j < n → a9 j = ad j := fun j hj9 => ((congrFun ha9 j).trans (up_ne _ _ (by omega))).trans (hexa j hj9)
      replace hexc : ∀ j : Nat, j < n → ¬ j = x → c9 j = ce j := fun j hj9 q0 => ((congrFun hc9 j).trans (up_ne _ _ (by omega))).trans (hexc j hj9 q0)
      replace a_x : a9 (x) = h0 := ((congrFun ha9 _).trans (up_ne _ _ (by omega))).trans a_x
      replace e_x : c9 (x) = .inr (4, [.int (zI (0)), .int (zI (0)), .int (zI (0)), .int (zI (0)), .int (zI (0)), .ref q101]) := ((congrFun hc9 _).trans (up_ne _ _ (by omega))).trans e_x
      replace a_n : a9 (n) = q101 := ((congrFun ha9 _).trans (up_ne _ _ (by omega))).trans a_n
      replace e_n : c9 (n) = .inl (g.2 3, 4, .inr (.inr (.inr (.inr (va_up (fun _ => none) 0 (some q104)))))) := ((congrFun hc9 _).trans (up_ne _ _ (by omega))).trans e_n
      replace a_n_1 : a9 (n + 1) = q104 := ((congrFun ha9 _).trans (up_ne _ _ (by omega))).trans a_n_1
      replace e_n_1 : c9 (n + 1) = .inr (0, [.int (zI (0)), .int (zI (0)), .int (zI (0)), .int (zI (0)), .int (zI (0)), .int (zI (0)), .int (zI (0)), .int (zI (0)), .int (zI (365))]) := ((congrFun hc9 _).trans (up_ne _ _ (by omega))).trans e_n_1
      have a_n_2 : a9 (n + 2) = q108 := (congrFun ha9 _).trans (up_at _ _ _)
      have e_n_2 : c9 (n + 2) = .inr (0, [.int (zI (0)), .int (zI (0)), .int (zI (0)), .int (zI (0)), .int (zI (0)), .int (zI (0)), .int (zI (0)), .int (zI (0)), .int (zI (0))]) := (congrFun hc9 _).trans (up_at _ _ _)
      clear ha9 hc9
      refine lv_dup hx hb dX4_init_27 rfl ?_
      have hF9 := n_free hD hS hA
      have hS9 := hS
      refine va_callv (va_runIN (As := []) (rest := [.ref q108, .int (zI (0 + 1)), .ref q101]) ⟨hx, hb, hml, hown, hts⟩ (c_X0_init_N l g (n + 3) (a9) (c9) (H.size) (n + 2) (by omega) (q108) (a_n_2) (e_n_2)) ⟨va_cnB 0 hts gX4_init_X0_init_n17 rfl rfl rfl hN.2.2.1 kJX0 (by decide +kernel) ⟨Nat.le_of_ble_eq_true rfl, Nat.le_of_ble_eq_true rfl⟩, rfl, kIm_X0_init⟩ (n_preS hP hD hK hN) rfl rfl hl.1 rfl (lv_room (Nat.le_of_ble_eq_true rfl)) dX4_init_28 ⟨Nat.le_of_ble_eq_true rfl, Nat.le_of_ble_eq_true rfl⟩) hS (fun q _ h => hF9 q h) hF9 (fun u9 t9 H1 locs ht9 hvm9 hw9 hB9 hz9 hk9 hS => ?_)
      obtain ⟨a10, c10⟩ := u9
      rw [ht9] at hB9
      clear hz9 hk9 hvm9 ht9 hF9
      try dsimp only at hw9 hB9
      obtain ⟨hq9, hu9, hp9_0⟩ := hw9
      have hD : va_D A (nL (n + 3) a10 c10) := n_joinD (n := n + 3) (m := 0) hD hS9 hA hq9
      clear hS9
      have hP : nP g (n + 3) a10 c10 H1 := hB9
      clear hB9
      generalize H1 = H at hP hS ⊢
      replace hexa : ∀ j : Nat, j < n → a10 j = ad j := fun j hj9 => (hq9.1 j (by omega)).trans (hexa j hj9)
      replace hexc : ∀ j : Nat, j < n → ¬ j = x → c10 j = ce j := fun j hj9 q0 => (hu9 j (by omega) (by omega)).trans (hexc j hj9 q0)
      replace a_x : a10 (x) = h0 := (hq9.1 _ (by omega)).trans a_x
      replace e_x : c10 (x) = .inr (4, [.int (zI (0)), .int (zI (0)), .int (zI (0)), .int (zI (0)), .int (zI (0)), .ref q101]) := (hu9 _ (by omega) (by omega)).trans e_x
      replace a_n : a10 (n) = q101 := (hq9.1 _ (by omega)).trans a_n
      replace e_n : c10 (n) = .inl (g.2 3, 4, .inr (.inr (.inr (.inr (va_up (fun _ => none) 0 (some q104)))))) := (hu9 _ (by omega) (by omega)).trans e_n
      replace a_n_1 : a10 (n + 1) = q104 := (hq9.1 _ (by omega)).trans a_n_1
      replace e_n_1 : c10 (n + 1) = .inr (0, [.int (zI (0)), .int (zI (0)), .int (zI (0)), .int (zI (0)), .int (zI (0)), .int (zI (0)), .int (zI (0)), .int (zI (0)), .int (zI (365))]) := (hu9 _ (by omega) (by omega)).trans e_n_1
      replace a_n_2 : a10 (n + 2) = q108 := (hq9.1 _ (by omega)).trans a_n_2
      have e_n_2 : c10 (n + 2) = .inr (0, [.int (zI (0)), .int (zI (0)), .int (zI (0)), .int (zI (0)), .int (zI (0)), .int (zI (0)), .int (zI (0)), .int (zI (0)), .int (zI (365))]) := hp9_0
      clear hq9 hu9 hp9_0
      refine n_aast hx hb hK hP hD hS (n) (show n < n + 3 by omega) a_n 3 e_n 0 rfl rfl (by decide) (n + 2) (show n + 2 < n + 3 by omega) a_n_2 e_n_2 (1) (by omega) (by omega) dX4_init_31 (fun H locs hP hD hS => ?_)
      obtain ⟨c11, hc11⟩ : ∃ x9 : Nat → va_E, x9 = va_up c10 (n) (.inl (g.2 3, 4, .inr (.inr (.inr (.inr (va_up (va_up (fun _ => none) 0 (some q104)) 1 (some q108))))))) := ⟨_, rfl⟩
      have hP : nP g (n + 3) a10 c11 H := by rw [hc11]; exact hP
      have hD : va_D A (nL (n + 3) a10 c11) := by rw [hc11]; exact hD
      replace hexc : ∀ j : Nat, j < n → ¬ j = x → c11 j = ce j := fun j hj9 q0 => ((congrFun hc11 j).trans (up_ne _ _ (by omega))).trans (hexc j hj9 q0)
      replace e_x : c11 (x) = .inr (4, [.int (zI (0)), .int (zI (0)), .int (zI (0)), .int (zI (0)), .int (zI (0)), .ref q101]) := ((congrFun hc11 _).trans (up_ne _ _ (by omega))).trans e_x
      replace e_n : c11 (n) = .inl (g.2 3, 4, .inr (.inr (.inr (.inr (va_up (va_up (fun _ => none) 0 (some q104)) 1 (some q108)))))) := (congrFun hc11 _).trans (up_at _ _ _)
      replace e_n_1 : c11 (n + 1) = .inr (0, [.int (zI (0)), .int (zI (0)), .int (zI (0)), .int (zI (0)), .int (zI (0)), .int (zI (0)), .int (zI (0)), .int (zI (0)), .int (zI (365))]) := ((congrFun hc11 _).trans (up_ne _ _ (by omega))).trans e_n_1
      replace e_n_2 : c11 (n + 2) = .inr (0, [.int (zI (0)), .int (zI (0)), .int (zI (0)), .int (zI (0)), .int (zI (0)), .int (zI (0)), .int (zI (0)), .int (zI (0)), .int (zI (365))]) := ((congrFun hc11 _).trans (up_ne _ _ (by omega))).trans e_n_2
      clear hc11
      refine z_iinc (lv' := [(1, .int (zI ((0 + 1) + 1))), (0, .ref h0)]) hx hb dX4_init_32 hl (k := 0) rfl (by decide) rfl (fun ls hl => ?_)
      refine lv_goto (tgt := 14) hx hb dX4_init_35 (by decide) ?_
      refine lv_iload_n hx hb dX4_init_14 rfl (lv_at hl 0 rfl) ?_
      refine lv_iconst (v := zI (4)) hx hb dX4_init_15 (by decide) ?_
      refine z_icmp_ge (tgt := 38) hx hb dX4_init_16 (by decide) (by omega) (by omega) (fun h16 => ?_) (fun h16 => ?_)
      · exfalso; omega
      · refine lv_aload_n hx hb dX4_init_19 rfl (lv_at hl 1 rfl) ?_
        refine va_get (D := g.1) (ci := 4) (v := .ref q101) (C := RX4) (T := TX4) (N := 6) hx hb hts hinX4 hown hK (nb1 hP (show x < n + 3 by omega) a_x e_x) 0 rfl rfl 5 (by decide) k11 (fun _ h9 => h9) rfl dX4_init_20 ?_
        refine lv_iload_n hx hb dX4_init_23 rfl (lv_at hl 0 rfl) ?_
        refine n_new (ci := 0) (fs := [.int (zI (0)), .int (zI (0)), .int (zI (0)), .int (zI (0)), .int (zI (0)), .int (zI (0)), .int (zI (0)), .int (zI (0)), .int (zI (0))]) (C := RX0) (T := TX0) (N := 9) hx hb hts hinX0 tyX0 tyX0_ok hown kN9 kIX0 kJX0 hK hP hD hS hA rfl (fun j hj => by rcases (show j = 0 ∨ j = 1 ∨ j = 2 ∨ j = 3 ∨ j = 4 ∨ j = 5 ∨ j = 6 ∨ j = 7 ∨ j = 8 by omega) with rfl | rfl | rfl | rfl | rfl | rfl | rfl | rfl | rfl <;> rfl) (Nat.le_of_ble_eq_true rfl) (Nat.le_of_ble_eq_true rfl) dX4_init_24 (fun q112 H hP hD hS => ?_)
        obtain ⟨a13, ha13⟩ : ∃ x9 : Nat → Nat, x9 = va_up a10 (n + 3) q112 := ⟨_, rfl⟩
        obtain ⟨c13, hc13⟩ : ∃ x9 : Nat → va_E, x9 = va_up c11 (n + 3) (.inr (0, [.int (zI (0)), .int (zI (0)), .int (zI (0)), .int (zI (0)), .int (zI (0)), .int (zI (0)), .int (zI (0)), .int (zI (0)), .int (zI (0))])) := ⟨_, rfl⟩
        have hP : nP g (n + 4) a13 c13 H := by rw [ha13, hc13]; exact hP
        have hD : va_D A (nL (n + 4) a13 c13) := by rw [ha13, hc13]; exact hD
        replace hexa : ∀ j : Nat, j < n → a13 j = ad j := fun j hj9 => ((congrFun ha13 j).trans (up_ne _ _ (by omega))).trans (hexa j hj9)
        replace hexc : ∀ j : Nat, j < n → ¬ j = x → c13 j = ce j := fun j hj9 q0 => ((congrFun hc13 j).trans (up_ne _ _ (by omega))).trans (hexc j hj9 q0)
        replace a_x : a13 (x) = h0 := ((congrFun ha13 _).trans (up_ne _ _ (by omega))).trans a_x
        replace e_x : c13 (x) = .inr (4, [.int (zI (0)), .int (zI (0)), .int (zI (0)), .int (zI (0)), .int (zI (0)), .ref q101]) := ((congrFun hc13 _).trans (up_ne _ _ (by omega))).trans e_x
        replace a_n : a13 (n) = q101 := ((congrFun ha13 _).trans (up_ne _ _ (by omega))).trans a_n
        replace e_n : c13 (n) = .inl (g.2 3, 4, .inr (.inr (.inr (.inr (va_up (va_up (fun _ => none) 0 (some q104)) 1 (some q108)))))) := ((congrFun hc13 _).trans (up_ne _ _ (by omega))).trans e_n
        replace a_n_1 : a13 (n + 1) = q104 := ((congrFun ha13 _).trans (up_ne _ _ (by omega))).trans a_n_1
        replace e_n_1 : c13 (n + 1) = .inr (0, [.int (zI (0)), .int (zI (0)), .int (zI (0)), .int (zI (0)), .int (zI (0)), .int (zI (0)), .int (zI (0)), .int (zI (0)), .int (zI (365))]) := ((congrFun hc13 _).trans (up_ne _ _ (by omega))).trans e_n_1
        replace a_n_2 : a13 (n + 2) = q108 := ((congrFun ha13 _).trans (up_ne _ _ (by omega))).trans a_n_2
        replace e_n_2 : c13 (n + 2) = .inr (0, [.int (zI (0)), .int (zI (0)), .int (zI (0)), .int (zI (0)), .int (zI (0)), .int (zI (0)), .int (zI (0)), .int (zI (0)), .int (zI (365))]) := ((congrFun hc13 _).trans (up_ne _ _ (by omega))).trans e_n_2
        have a_n_3 : a13 (n + 3) = q112 := (congrFun ha13 _).trans (up_at _ _ _)
        have e_n_3 : c13 (n + 3) = .inr (0, [.int (zI (0)), .int (zI (0)), .int (zI (0)), .int (zI (0)), .int (zI (0)), .int (zI (0)), .int (zI (0)), .int (zI (0)), .int (zI (0))]) := (congrFun hc13 _).trans (up_at _ _ _)
        clear ha13 hc13
        refine lv_dup hx hb dX4_init_27 rfl ?_
        have hF9 := n_free hD hS hA
        have hS9 := hS
        refine va_callv (va_runIN (As := []) (rest := [.ref q112, .int (zI ((0 + 1) + 1)), .ref q101]) ⟨hx, hb, hml, hown, hts⟩ (c_X0_init_N l g (n + 4) (a13) (c13) (H.size) (n + 3) (by omega) (q112) (a_n_3) (e_n_3)) ⟨va_cnB 0 hts gX4_init_X0_init_n17 rfl rfl rfl hN.2.2.1 kJX0 (by decide +kernel) ⟨Nat.le_of_ble_eq_true rfl, Nat.le_of_ble_eq_true rfl⟩, rfl, kIm_X0_init⟩ (n_preS hP hD hK hN) rfl rfl hl.1 rfl (lv_room (Nat.le_of_ble_eq_true rfl)) dX4_init_28 ⟨Nat.le_of_ble_eq_true rfl, Nat.le_of_ble_eq_true rfl⟩) hS (fun q _ h => hF9 q h) hF9 (fun u9 t9 H1 locs ht9 hvm9 hw9 hB9 hz9 hk9 hS => ?_)
        obtain ⟨a14, c14⟩ := u9
        rw [ht9] at hB9
        clear hz9 hk9 hvm9 ht9 hF9
        try dsimp only at hw9 hB9
        obtain ⟨hq9, hu9, hp9_0⟩ := hw9
        have hD : va_D A (nL (n + 4) a14 c14) := n_joinD (n := n + 4) (m := 0) hD hS9 hA hq9
        clear hS9
        have hP : nP g (n + 4) a14 c14 H1 := hB9
        clear hB9
        generalize H1 = H at hP hS ⊢
        replace hexa : ∀ j : Nat, j < n → a14 j = ad j := fun j hj9 => (hq9.1 j (by omega)).trans (hexa j hj9)
        replace hexc : ∀ j : Nat, j < n → ¬ j = x → c14 j = ce j := fun j hj9 q0 => (hu9 j (by omega) (by omega)).trans (hexc j hj9 q0)
        replace a_x : a14 (x) = h0 := (hq9.1 _ (by omega)).trans a_x
        replace e_x : c14 (x) = .inr (4, [.int (zI (0)), .int (zI (0)), .int (zI (0)), .int (zI (0)), .int (zI (0)), .ref q101]) := (hu9 _ (by omega) (by omega)).trans e_x
        replace a_n : a14 (n) = q101 := (hq9.1 _ (by omega)).trans a_n
        replace e_n : c14 (n) = .inl (g.2 3, 4, .inr (.inr (.inr (.inr (va_up (va_up (fun _ => none) 0 (some q104)) 1 (some q108)))))) := (hu9 _ (by omega) (by omega)).trans e_n
        replace a_n_1 : a14 (n + 1) = q104 := (hq9.1 _ (by omega)).trans a_n_1
        replace e_n_1 : c14 (n + 1) = .inr (0, [.int (zI (0)), .int (zI (0)), .int (zI (0)), .int (zI (0)), .int (zI (0)), .int (zI (0)), .int (zI (0)), .int (zI (0)), .int (zI (365))]) := (hu9 _ (by omega) (by omega)).trans e_n_1
        replace a_n_2 : a14 (n + 2) = q108 := (hq9.1 _ (by omega)).trans a_n_2
        replace e_n_2 : c14 (n + 2) = .inr (0, [.int (zI (0)), .int (zI (0)), .int (zI (0)), .int (zI (0)), .int (zI (0)), .int (zI (0)), .int (zI (0)), .int (zI (0)), .int (zI (365))]) := (hu9 _ (by omega) (by omega)).trans e_n_2
        replace a_n_3 : a14 (n + 3) = q112 := (hq9.1 _ (by omega)).trans a_n_3
        have e_n_3 : c14 (n + 3) = .inr (0, [.int (zI (0)), .int (zI (0)), .int (zI (0)), .int (zI (0)), .int (zI (0)), .int (zI (0)), .int (zI (0)), .int (zI (0)), .int (zI (365))]) := hp9_0
        clear hq9 hu9 hp9_0
        refine n_aast hx hb hK hP hD hS (n) (show n < n + 4 by omega) a_n 3 e_n 0 rfl rfl (by decide) (n + 3) (show n + 3 < n + 4 by omega) a_n_3 e_n_3 (2) (by omega) (by omega) dX4_init_31 (fun H locs hP hD hS => ?_)
        obtain ⟨c15, hc15⟩ : ∃ x9 : Nat → va_E, x9 = va_up c14 (n) (.inl (g.2 3, 4, .inr (.inr (.inr (.inr (va_up (va_up (va_up (fun _ => none) 0 (some q104)) 1 (some q108)) 2 (some q112))))))) := ⟨_, rfl⟩
        have hP : nP g (n + 4) a14 c15 H := by rw [hc15]; exact hP
        have hD : va_D A (nL (n + 4) a14 c15) := by rw [hc15]; exact hD
        replace hexc : ∀ j : Nat, j < n → ¬ j = x → c15 j = ce j := fun j hj9 q0 => ((congrFun hc15 j).trans (up_ne _ _ (by omega))).trans (hexc j hj9 q0)
        replace e_x : c15 (x) = .inr (4, [.int (zI (0)), .int (zI (0)), .int (zI (0)), .int (zI (0)), .int (zI (0)), .ref q101]) := ((congrFun hc15 _).trans (up_ne _ _ (by omega))).trans e_x
        replace e_n : c15 (n) = .inl (g.2 3, 4, .inr (.inr (.inr (.inr (va_up (va_up (va_up (fun _ => none) 0 (some q104)) 1 (some q108)) 2 (some q112)))))) := (congrFun hc15 _).trans (up_at _ _ _)
        replace e_n_1 : c15 (n + 1) = .inr (0, [.int (zI (0)), .int (zI (0)), .int (zI (0)), .int (zI (0)), .int (zI (0)), .int (zI (0)), .int (zI (0)), .int (zI (0)), .int (zI (365))]) := ((congrFun hc15 _).trans (up_ne _ _ (by omega))).trans e_n_1
        replace e_n_2 : c15 (n + 2) = .inr (0, [.int (zI (0)), .int (zI (0)), .int (zI (0)), .int (zI (0)), .int (zI (0)), .int (zI (0)), .int (zI (0)), .int (zI (0)), .int (zI (365))]) := ((congrFun hc15 _).trans (up_ne _ _ (by omega))).trans e_n_2
        replace e_n_3 : c15 (n + 3) = .inr (0, [.int (zI (0)), .int (zI (0)), .int (zI (0)), .int (zI (0)), .int (zI (0)), .int (zI (0)), .int (zI (0)), .int (zI (0)), .int (zI (365))]) := ((congrFun hc15 _).trans (up_ne _ _ (by omega))).trans e_n_3
        clear hc15
        refine z_iinc (lv' := [(1, .int (zI (((0 + 1) + 1) + 1))), (0, .ref h0)]) hx hb dX4_init_32 hl (k := 0) rfl (by decide) rfl (fun ls hl => ?_)
        refine lv_goto (tgt := 14) hx hb dX4_init_35 (by decide) ?_
        refine lv_iload_n hx hb dX4_init_14 rfl (lv_at hl 0 rfl) ?_
        refine lv_iconst (v := zI (4)) hx hb dX4_init_15 (by decide) ?_
        refine z_icmp_ge (tgt := 38) hx hb dX4_init_16 (by decide) (by omega) (by omega) (fun h16 => ?_) (fun h16 => ?_)
        · exfalso; omega
        · refine lv_aload_n hx hb dX4_init_19 rfl (lv_at hl 1 rfl) ?_
          refine va_get (D := g.1) (ci := 4) (v := .ref q101) (C := RX4) (T := TX4) (N := 6) hx hb hts hinX4 hown hK (nb1 hP (show x < n + 4 by omega) a_x e_x) 0 rfl rfl 5 (by decide) k11 (fun _ h9 => h9) rfl dX4_init_20 ?_
          refine lv_iload_n hx hb dX4_init_23 rfl (lv_at hl 0 rfl) ?_
          refine n_new (ci := 0) (fs := [.int (zI (0)), .int (zI (0)), .int (zI (0)), .int (zI (0)), .int (zI (0)), .int (zI (0)), .int (zI (0)), .int (zI (0)), .int (zI (0))]) (C := RX0) (T := TX0) (N := 9) hx hb hts hinX0 tyX0 tyX0_ok hown kN9 kIX0 kJX0 hK hP hD hS hA rfl (fun j hj => by rcases (show j = 0 ∨ j = 1 ∨ j = 2 ∨ j = 3 ∨ j = 4 ∨ j = 5 ∨ j = 6 ∨ j = 7 ∨ j = 8 by omega) with rfl | rfl | rfl | rfl | rfl | rfl | rfl | rfl | rfl <;> rfl) (Nat.le_of_ble_eq_true rfl) (Nat.le_of_ble_eq_true rfl) dX4_init_24 (fun q116 H hP hD hS => ?_)
          obtain ⟨a17, ha17⟩ : ∃ x9 : Nat → Nat, x9 = va_up a14 (n + 4) q116 := ⟨_, rfl⟩
          obtain ⟨c17, hc17⟩ : ∃ x9 : Nat → va_E, x9 = va_up c15 (n + 4) (.inr (0, [.int (zI (0)), .int (zI (0)), .int (zI (0)), .int (zI (0)), .int (zI (0)), .int (zI (0)), .int (zI (0)), .int (zI (0)), .int (zI (0))])) := ⟨_, rfl⟩
          have hP : nP g (n + 5) a17 c17 H := by rw [ha17, hc17]; exact hP
          have hD : va_D A (nL (n + 5) a17 c17) := by rw [ha17, hc17]; exact hD
          replace hexa : ∀ j : Nat, j < n → a17 j = ad j := fun j hj9 => ((congrFun ha17 j).trans (up_ne _ _ (by omega))).trans (hexa j hj9)
          replace hexc : ∀ j : Nat, j < n → ¬ j = x → c17 j = ce j := fun j hj9 q0 => ((congrFun hc17 j).trans (up_ne _ _ (by omega))).trans (hexc j hj9 q0)
          replace a_x : a17 (x) = h0 := ((congrFun ha17 _).trans (up_ne _ _ (by omega))).trans a_x
          replace e_x : c17 (x) = .inr (4, [.int (zI (0)), .int (zI (0)), .int (zI (0)), .int (zI (0)), .int (zI (0)), .ref q101]) := ((congrFun hc17 _).trans (up_ne _ _ (by omega))).trans e_x
          replace a_n : a17 (n) = q101 := ((congrFun ha17 _).trans (up_ne _ _ (by omega))).trans a_n
          replace e_n : c17 (n) = .inl (g.2 3, 4, .inr (.inr (.inr (.inr (va_up (va_up (va_up (fun _ => none) 0 (some q104)) 1 (some q108)) 2 (some q112)))))) := ((congrFun hc17 _).trans (up_ne _ _ (by omega))).trans e_n
          replace a_n_1 : a17 (n + 1) = q104 := ((congrFun ha17 _).trans (up_ne _ _ (by omega))).trans a_n_1
          replace e_n_1 : c17 (n + 1) = .inr (0, [.int (zI (0)), .int (zI (0)), .int (zI (0)), .int (zI (0)), .int (zI (0)), .int (zI (0)), .int (zI (0)), .int (zI (0)), .int (zI (365))]) := ((congrFun hc17 _).trans (up_ne _ _ (by omega))).trans e_n_1
          replace a_n_2 : a17 (n + 2) = q108 := ((congrFun ha17 _).trans (up_ne _ _ (by omega))).trans a_n_2
          replace e_n_2 : c17 (n + 2) = .inr (0, [.int (zI (0)), .int (zI (0)), .int (zI (0)), .int (zI (0)), .int (zI (0)), .int (zI (0)), .int (zI (0)), .int (zI (0)), .int (zI (365))]) := ((congrFun hc17 _).trans (up_ne _ _ (by omega))).trans e_n_2
          replace a_n_3 : a17 (n + 3) = q112 := ((congrFun ha17 _).trans (up_ne _ _ (by omega))).trans a_n_3
          replace e_n_3 : c17 (n + 3) = .inr (0, [.int (zI (0)), .int (zI (0)), .int (zI (0)), .int (zI (0)), .int (zI (0)), .int (zI (0)), .int (zI (0)), .int (zI (0)), .int (zI (365))]) := ((congrFun hc17 _).trans (up_ne _ _ (by omega))).trans e_n_3
          have a_n_4 : a17 (n + 4) = q116 := (congrFun ha17 _).trans (up_at _ _ _)
          have e_n_4 : c17 (n + 4) = .inr (0, [.int (zI (0)), .int (zI (0)), .int (zI (0)), .int (zI (0)), .int (zI (0)), .int (zI (0)), .int (zI (0)), .int (zI (0)), .int (zI (0))]) := (congrFun hc17 _).trans (up_at _ _ _)
          clear ha17 hc17
          refine lv_dup hx hb dX4_init_27 rfl ?_
          have hF9 := n_free hD hS hA
          have hS9 := hS
          refine va_callv (va_runIN (As := []) (rest := [.ref q116, .int (zI (((0 + 1) + 1) + 1)), .ref q101]) ⟨hx, hb, hml, hown, hts⟩ (c_X0_init_N l g (n + 5) (a17) (c17) (H.size) (n + 4) (by omega) (q116) (a_n_4) (e_n_4)) ⟨va_cnB 0 hts gX4_init_X0_init_n17 rfl rfl rfl hN.2.2.1 kJX0 (by decide +kernel) ⟨Nat.le_of_ble_eq_true rfl, Nat.le_of_ble_eq_true rfl⟩, rfl, kIm_X0_init⟩ (n_preS hP hD hK hN) rfl rfl hl.1 rfl (lv_room (Nat.le_of_ble_eq_true rfl)) dX4_init_28 ⟨Nat.le_of_ble_eq_true rfl, Nat.le_of_ble_eq_true rfl⟩) hS (fun q _ h => hF9 q h) hF9 (fun u9 t9 H1 locs ht9 hvm9 hw9 hB9 hz9 hk9 hS => ?_)
          obtain ⟨a18, c18⟩ := u9
          rw [ht9] at hB9
          clear hz9 hk9 hvm9 ht9 hF9
          try dsimp only at hw9 hB9
          obtain ⟨hq9, hu9, hp9_0⟩ := hw9
          have hD : va_D A (nL (n + 5) a18 c18) := n_joinD (n := n + 5) (m := 0) hD hS9 hA hq9
          clear hS9
          have hP : nP g (n + 5) a18 c18 H1 := hB9
          clear hB9
          generalize H1 = H at hP hS ⊢
          replace hexa : ∀ j : Nat, j < n → a18 j = ad j := fun j hj9 => (hq9.1 j (by omega)).trans (hexa j hj9)
          replace hexc : ∀ j : Nat, j < n → ¬ j = x → c18 j = ce j := fun j hj9 q0 => (hu9 j (by omega) (by omega)).trans (hexc j hj9 q0)
          replace a_x : a18 (x) = h0 := (hq9.1 _ (by omega)).trans a_x
          replace e_x : c18 (x) = .inr (4, [.int (zI (0)), .int (zI (0)), .int (zI (0)), .int (zI (0)), .int (zI (0)), .ref q101]) := (hu9 _ (by omega) (by omega)).trans e_x
          replace a_n : a18 (n) = q101 := (hq9.1 _ (by omega)).trans a_n
          replace e_n : c18 (n) = .inl (g.2 3, 4, .inr (.inr (.inr (.inr (va_up (va_up (va_up (fun _ => none) 0 (some q104)) 1 (some q108)) 2 (some q112)))))) := (hu9 _ (by omega) (by omega)).trans e_n
          replace a_n_1 : a18 (n + 1) = q104 := (hq9.1 _ (by omega)).trans a_n_1
          replace e_n_1 : c18 (n + 1) = .inr (0, [.int (zI (0)), .int (zI (0)), .int (zI (0)), .int (zI (0)), .int (zI (0)), .int (zI (0)), .int (zI (0)), .int (zI (0)), .int (zI (365))]) := (hu9 _ (by omega) (by omega)).trans e_n_1
          replace a_n_2 : a18 (n + 2) = q108 := (hq9.1 _ (by omega)).trans a_n_2
          replace e_n_2 : c18 (n + 2) = .inr (0, [.int (zI (0)), .int (zI (0)), .int (zI (0)), .int (zI (0)), .int (zI (0)), .int (zI (0)), .int (zI (0)), .int (zI (0)), .int (zI (365))]) := (hu9 _ (by omega) (by omega)).trans e_n_2
          replace a_n_3 : a18 (n + 3) = q112 := (hq9.1 _ (by omega)).trans a_n_3
          replace e_n_3 : c18 (n + 3) = .inr (0, [.int (zI (0)), .int (zI (0)), .int (zI (0)), .int (zI (0)), .int (zI (0)), .int (zI (0)), .int (zI (0)), .int (zI (0)), .int (zI (365))]) := (hu9 _ (by omega) (by omega)).trans e_n_3
          replace a_n_4 : a18 (n + 4) = q116 := (hq9.1 _ (by omega)).trans a_n_4
          have e_n_4 : c18 (n + 4) = .inr (0, [.int (zI (0)), .int (zI (0)), .int (zI (0)), .int (zI (0)), .int (zI (0)), .int (zI (0)), .int (zI (0)), .int (zI (0)), .int (zI (365))]) := hp9_0
          clear hq9 hu9 hp9_0
          refine n_aast hx hb hK hP hD hS (n) (show n < n + 5 by omega) a_n 3 e_n 0 rfl rfl (by decide) (n + 4) (show n + 4 < n + 5 by omega) a_n_4 e_n_4 (3) (by omega) (by omega) dX4_init_31 (fun H locs hP hD hS => ?_)
          obtain ⟨c19, hc19⟩ : ∃ x9 : Nat → va_E, x9 = va_up c18 (n) (.inl (g.2 3, 4, .inr (.inr (.inr (.inr (va_up (va_up (va_up (va_up (fun _ => none) 0 (some q104)) 1 (some q108)) 2 (some q112)) 3 (some q116))))))) := ⟨_, rfl⟩
          have hP : nP g (n + 5) a18 c19 H := by rw [hc19]; exact hP
          have hD : va_D A (nL (n + 5) a18 c19) := by rw [hc19]; exact hD
          replace hexc : ∀ j : Nat, j < n → ¬ j = x → c19 j = ce j := fun j hj9 q0 => ((congrFun hc19 j).trans (up_ne _ _ (by omega))).trans (hexc j hj9 q0)
          replace e_x : c19 (x) = .inr (4, [.int (zI (0)), .int (zI (0)), .int (zI (0)), .int (zI (0)), .int (zI (0)), .ref q101]) := ((congrFun hc19 _).trans (up_ne _ _ (by omega))).trans e_x
          replace e_n : c19 (n) = .inl (g.2 3, 4, .inr (.inr (.inr (.inr (va_up (va_up (va_up (va_up (fun _ => none) 0 (some q104)) 1 (some q108)) 2 (some q112)) 3 (some q116)))))) := (congrFun hc19 _).trans (up_at _ _ _)
          replace e_n_1 : c19 (n + 1) = .inr (0, [.int (zI (0)), .int (zI (0)), .int (zI (0)), .int (zI (0)), .int (zI (0)), .int (zI (0)), .int (zI (0)), .int (zI (0)), .int (zI (365))]) := ((congrFun hc19 _).trans (up_ne _ _ (by omega))).trans e_n_1
          replace e_n_2 : c19 (n + 2) = .inr (0, [.int (zI (0)), .int (zI (0)), .int (zI (0)), .int (zI (0)), .int (zI (0)), .int (zI (0)), .int (zI (0)), .int (zI (0)), .int (zI (365))]) := ((congrFun hc19 _).trans (up_ne _ _ (by omega))).trans e_n_2
          replace e_n_3 : c19 (n + 3) = .inr (0, [.int (zI (0)), .int (zI (0)), .int (zI (0)), .int (zI (0)), .int (zI (0)), .int (zI (0)), .int (zI (0)), .int (zI (0)), .int (zI (365))]) := ((congrFun hc19 _).trans (up_ne _ _ (by omega))).trans e_n_3
          replace e_n_4 : c19 (n + 4) = .inr (0, [.int (zI (0)), .int (zI (0)), .int (zI (0)), .int (zI (0)), .int (zI (0)), .int (zI (0)), .int (zI (0)), .int (zI (0)), .int (zI (365))]) := ((congrFun hc19 _).trans (up_ne _ _ (by omega))).trans e_n_4
          clear hc19
          refine z_iinc (lv' := [(1, .int (zI ((((0 + 1) + 1) + 1) + 1))), (0, .ref h0)]) hx hb dX4_init_32 hl (k := 0) rfl (by decide) rfl (fun ls hl => ?_)
          refine lv_goto (tgt := 14) hx hb dX4_init_35 (by decide) ?_
          refine lv_iload_n hx hb dX4_init_14 rfl (lv_at hl 0 rfl) ?_
          refine lv_iconst (v := zI (4)) hx hb dX4_init_15 (by decide) ?_
          refine z_icmp_ge (tgt := 38) hx hb dX4_init_16 (by decide) (by omega) (by omega) (fun h16 => ?_) (fun h16 => ?_)
          · have hP := nP_rf (i := n) (f := fun i8 => some (a18 (n + 1 + i8))) hP (by omega) e_n (fun j hj => by
              rcases (show j = 0 ∨ j = 1 ∨ j = 2 ∨ j = 3 by omega) with rfl | rfl | rfl | rfl
              · exact (show _ = some q104 from rfl).trans (congrArg some a_n_1.symm)
              · exact (show _ = some q108 from rfl).trans (congrArg some a_n_2.symm)
              · exact (show _ = some q112 from rfl).trans (congrArg some a_n_3.symm)
              · exact (show _ = some q116 from rfl).trans (congrArg some a_n_4.symm))
            obtain ⟨c20, hc20⟩ : ∃ x9 : Nat → va_E, x9 = va_up c19 (n) (.inl (g.2 3, 4, .inr (.inr (.inr (.inr (fun i8 => some (a18 (n + 1 + i8)))))))) := ⟨_, rfl⟩
            have hP : nP g (n + 5) a18 c20 H := by rw [hc20]; exact hP
            have hD : va_D A (nL (n + 5) a18 c20) := nDa (nD_of hD) (fun i hi => nA_of hD hi)
            replace hexc : ∀ j : Nat, j < n → ¬ j = x → c20 j = ce j := fun j hj9 q0 => ((congrFun hc20 j).trans (up_ne _ _ (by omega))).trans (hexc j hj9 q0)
            have e_x : c20 (x) = .inr (4, [.int (zI (0)), .int (zI (0)), .int (zI (0)), .int (zI (0)), .int (zI (0)), .ref q101]) := ((congrFun hc20 _).trans (up_ne _ _ (by omega))).trans e_x
            have e_n : c20 (n) = .inl (g.2 3, 4, .inr (.inr (.inr (.inr (fun i8 => some (a18 (n + 1 + i8))))))) := (congrFun hc20 _).trans (up_at _ _ _)
            have e_n_1 : c20 (n + 1) = .inr (0, [.int (zI (0)), .int (zI (0)), .int (zI (0)), .int (zI (0)), .int (zI (0)), .int (zI (0)), .int (zI (0)), .int (zI (0)), .int (zI (365))]) := ((congrFun hc20 _).trans (up_ne _ _ (by omega))).trans e_n_1
            have e_n_2 : c20 (n + 2) = .inr (0, [.int (zI (0)), .int (zI (0)), .int (zI (0)), .int (zI (0)), .int (zI (0)), .int (zI (0)), .int (zI (0)), .int (zI (0)), .int (zI (365))]) := ((congrFun hc20 _).trans (up_ne _ _ (by omega))).trans e_n_2
            have e_n_3 : c20 (n + 3) = .inr (0, [.int (zI (0)), .int (zI (0)), .int (zI (0)), .int (zI (0)), .int (zI (0)), .int (zI (0)), .int (zI (0)), .int (zI (0)), .int (zI (365))]) := ((congrFun hc20 _).trans (up_ne _ _ (by omega))).trans e_n_3
            have e_n_4 : c20 (n + 4) = .inr (0, [.int (zI (0)), .int (zI (0)), .int (zI (0)), .int (zI (0)), .int (zI (0)), .int (zI (0)), .int (zI (0)), .int (zI (0)), .int (zI (365))]) := ((congrFun hc20 _).trans (up_ne _ _ (by omega))).trans e_n_4
            have hQ9 := nQ_of (m := 5) hAe hD hexa
            exact W.vret hx hb hr (fun tX htX hWX => ⟨⟨(a18, c20), rfl, ⟨hQ9, fun j hj9 q0 => hexc j hj9 q0, e_x.trans (by dsimp only; rw [a_n]), e_n, e_n_1, e_n_2, e_n_3, e_n_4⟩, g_at htX hP⟩, hS.F htX⟩) hS.2.2 dX4_init_38
          · exfalso; omega
