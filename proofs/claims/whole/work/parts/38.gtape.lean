set_option maxHeartbeats 4000000 in
set_option maxRecDepth 100000 in
theorem c_X0_clear (l : Launch) (g : GG) (ad : Nat → Nat) (hd9 : hD ad) (ce : Nat → va_E) (x : Nat) (hx9 : x < 126) (af : Nat → Int32) (e_x : ce (x) = .inr (0, [.int (af 0), .int (af 1), .int (af 2), .int (af 3), .int (af 4), .int (af 5), .int (af 6), .int (af 7), .int (af 8)])) : Met l yX0_clear wsX0_clear ({ frames := 0, cells := 0, slots := 0, locals := 0 }) (gPc g [.ref ((ad x))] (hbP g ad ce)) (va_Qv (fun (c1 : Nat → va_E) => c1 (x) = .inr (0, [.int (zI (0)), .int (zI (0)), .int (zI (0)), .int (zI (0)), .int (zI (0)), .int (zI (0)), .int (zI (0)), .int (zI (0)), .int (zI (365))]) ∧ ∀ j : Nat, ¬ j = x → c1 j = ce j) (fun c1 (tS : State) => hbP g ad c1 tS.heap) (hbA ad)) 0 0 (hbA ad) := by
  refine Met.ofW (cc := cX0_clear) (maxL := 1) (ret := none) (by decide) rfl ?_
  intro p e s m args below meth c s₁ B hml hv
  obtain ⟨rfl, hW, hK⟩ := hv
  have hx := B.exec
  have hb := B.bytes
  have hr := B.returns
  have hts := atoms_spec (ws := wsX0_clear) B.pre
  have hown : s.vm.findClass RX0 = some m.cls := findClass_of_methodNamed B.named
  have hlocks := B.notSynchronized
  have hinX0 : ∀ w ∈ wsX00, w ∈ wsX0_clear := by decide +kernel
  have k15 := hts (.fieldLink RX0 15 "HoursBank$Account" "balance" "I") (by decide +kernel)
  have k18 := hts (.fieldLink RX0 18 "HoursBank$Account" "overtime" "I") (by decide +kernel)
  have k21 := hts (.fieldLink RX0 21 "HoursBank$Account" "docked" "I") (by decide +kernel)
  have k24 := hts (.fieldLink RX0 24 "HoursBank$Account" "overtimeCoins" "I") (by decide +kernel)
  have k27 := hts (.fieldLink RX0 27 "HoursBank$Account" "changeCoins" "I") (by decide +kernel)
  have k30 := hts (.fieldLink RX0 30 "HoursBank$Account" "dockedCoins" "I") (by decide +kernel)
  have k33 := hts (.fieldLink RX0 33 "HoursBank$Account" "settled" "I") (by decide +kernel)
  have k36 := hts (.fieldLink RX0 36 "HoursBank$Account" "flaggedDays" "I") (by decide +kernel)
  have k11 := hts (.fieldLink RX0 11 "HoursBank$Account" "goneOn" "I") (by decide +kernel)
  have hl := lv_entry ([.ref ((ad x))]) (n := 1) (Nat.le_of_ble_eq_true rfl)
  rw [lg_entry_eq]
  generalize (lg_sl ([.ref ((ad x))]) ++ List.replicate (1 - (lg_sl ([.ref ((ad x))])).length) Slot.unset).toArray = ls at hl ⊢
  have hl : lv_has ls 1 [(0, .ref ((ad x)))] := hl
  have hS : va_S (hbA ad) s.heap s.heap [] := va_S.rf
  obtain ⟨H, hH9⟩ : ∃ H, H = s.heap := ⟨_, rfl⟩
  obtain ⟨locs, hL9⟩ : ∃ x9l : List Loc, x9l = [] := ⟨_, rfl⟩
  have hW : hbP g ad ce H := hH9 ▸ hW
  have hS : va_S (hbA ad) s.heap H locs := by rw [hH9, hL9]; exact hS
  refine z_start hH9 hL9 ?_
  clear hH9 hL9
  have hex : ∀ j : Nat, ce j = ce j := fun _ => rfl
  refine lv_aload_n hx hb dX0_clear_0 rfl (lv_at hl 0 rfl) ?_
  refine lv_iconst (v := zI (0)) hx hb dX0_clear_1 (by decide) ?_
  refine y_put (ci := 0) (v := .int (zI (0))) (ty := .int) (C := RX0) (T := TX0) (N := 9) hx hb hts hinX0 tyX0 tyX0_ok nmX0 hown hK hW hd9 hS (x) (show x < 126 by omega) e_x rfl 0 (by decide) k15 (fun _ h9 => h9) rfl (by decide +kernel) rfl rfl (Nat.le_of_ble_eq_true rfl) dX0_clear_2 (fun H locs hW hS => ?_)
  obtain ⟨c1, hc1⟩ : ∃ x9c : Nat → va_E, x9c = va_up ce (x) (.inr (0, [.int (zI (0)), .int (af 1), .int (af 2), .int (af 3), .int (af 4), .int (af 5), .int (af 6), .int (af 7), .int (af 8)])) := ⟨_, rfl⟩
  have hW : hbP g ad c1 H := by rw [hc1]; exact hW
  have hex : ∀ j : Nat, ¬ j = x → c1 j = ce j := fun j q0 => ((congrFun hc1 j).trans (up_ne _ _ q0)).trans (hex j )
  have e_x : c1 (x) = .inr (0, [.int (zI (0)), .int (af 1), .int (af 2), .int (af 3), .int (af 4), .int (af 5), .int (af 6), .int (af 7), .int (af 8)]) := (congrFun hc1 _).trans (up_at _ _ _)
  refine lv_aload_n hx hb dX0_clear_5 rfl (lv_at hl 0 rfl) ?_
  refine lv_iconst (v := zI (0)) hx hb dX0_clear_6 (by decide) ?_
  refine y_put (ci := 0) (v := .int (zI (0))) (ty := .int) (C := RX0) (T := TX0) (N := 9) hx hb hts hinX0 tyX0 tyX0_ok nmX0 hown hK hW hd9 hS (x) (show x < 126 by omega) e_x rfl 1 (by decide) k18 (fun _ h9 => h9) rfl (by decide +kernel) rfl rfl (Nat.le_of_ble_eq_true rfl) dX0_clear_7 (fun H locs hW hS => ?_)
  obtain ⟨c2, hc2⟩ : ∃ x9c : Nat → va_E, x9c = va_up c1 (x) (.inr (0, [.int (zI (0)), .int (zI (0)), .int (af 2), .int (af 3), .int (af 4), .int (af 5), .int (af 6), .int (af 7), .int (af 8)])) := ⟨_, rfl⟩
  have hW : hbP g ad c2 H := by rw [hc2]; exact hW
  have hex : ∀ j : Nat, ¬ j = x → c2 j = ce j := fun j q0 => ((congrFun hc2 j).trans (up_ne _ _ q0)).trans (hex j q0)
  have e_x : c2 (x) = .inr (0, [.int (zI (0)), .int (zI (0)), .int (af 2), .int (af 3), .int (af 4), .int (af 5), .int (af 6), .int (af 7), .int (af 8)]) := (congrFun hc2 _).trans (up_at _ _ _)
  refine lv_aload_n hx hb dX0_clear_10 rfl (lv_at hl 0 rfl) ?_
  refine lv_iconst (v := zI (0)) hx hb dX0_clear_11 (by decide) ?_
  refine y_put (ci := 0) (v := .int (zI (0))) (ty := .int) (C := RX0) (T := TX0) (N := 9) hx hb hts hinX0 tyX0 tyX0_ok nmX0 hown hK hW hd9 hS (x) (show x < 126 by omega) e_x rfl 2 (by decide) k21 (fun _ h9 => h9) rfl (by decide +kernel) rfl rfl (Nat.le_of_ble_eq_true rfl) dX0_clear_12 (fun H locs hW hS => ?_)
  obtain ⟨c3, hc3⟩ : ∃ x9c : Nat → va_E, x9c = va_up c2 (x) (.inr (0, [.int (zI (0)), .int (zI (0)), .int (zI (0)), .int (af 3), .int (af 4), .int (af 5), .int (af 6), .int (af 7), .int (af 8)])) := ⟨_, rfl⟩
  have hW : hbP g ad c3 H := by rw [hc3]; exact hW
  have hex : ∀ j : Nat, ¬ j = x → c3 j = ce j := fun j q0 => ((congrFun hc3 j).trans (up_ne _ _ q0)).trans (hex j q0)
  have e_x : c3 (x) = .inr (0, [.int (zI (0)), .int (zI (0)), .int (zI (0)), .int (af 3), .int (af 4), .int (af 5), .int (af 6), .int (af 7), .int (af 8)]) := (congrFun hc3 _).trans (up_at _ _ _)
  refine lv_aload_n hx hb dX0_clear_15 rfl (lv_at hl 0 rfl) ?_
  refine lv_iconst (v := zI (0)) hx hb dX0_clear_16 (by decide) ?_
  refine y_put (ci := 0) (v := .int (zI (0))) (ty := .int) (C := RX0) (T := TX0) (N := 9) hx hb hts hinX0 tyX0 tyX0_ok nmX0 hown hK hW hd9 hS (x) (show x < 126 by omega) e_x rfl 3 (by decide) k24 (fun _ h9 => h9) rfl (by decide +kernel) rfl rfl (Nat.le_of_ble_eq_true rfl) dX0_clear_17 (fun H locs hW hS => ?_)
  obtain ⟨c4, hc4⟩ : ∃ x9c : Nat → va_E, x9c = va_up c3 (x) (.inr (0, [.int (zI (0)), .int (zI (0)), .int (zI (0)), .int (zI (0)), .int (af 4), .int (af 5), .int (af 6), .int (af 7), .int (af 8)])) := ⟨_, rfl⟩
  have hW : hbP g ad c4 H := by rw [hc4]; exact hW
  have hex : ∀ j : Nat, ¬ j = x → c4 j = ce j := fun j q0 => ((congrFun hc4 j).trans (up_ne _ _ q0)).trans (hex j q0)
  have e_x : c4 (x) = .inr (0, [.int (zI (0)), .int (zI (0)), .int (zI (0)), .int (zI (0)), .int (af 4), .int (af 5), .int (af 6), .int (af 7), .int (af 8)]) := (congrFun hc4 _).trans (up_at _ _ _)
  refine lv_aload_n hx hb dX0_clear_20 rfl (lv_at hl 0 rfl) ?_
  refine lv_iconst (v := zI (0)) hx hb dX0_clear_21 (by decide) ?_
  refine y_put (ci := 0) (v := .int (zI (0))) (ty := .int) (C := RX0) (T := TX0) (N := 9) hx hb hts hinX0 tyX0 tyX0_ok nmX0 hown hK hW hd9 hS (x) (show x < 126 by omega) e_x rfl 4 (by decide) k27 (fun _ h9 => h9) rfl (by decide +kernel) rfl rfl (Nat.le_of_ble_eq_true rfl) dX0_clear_22 (fun H locs hW hS => ?_)
  obtain ⟨c5, hc5⟩ : ∃ x9c : Nat → va_E, x9c = va_up c4 (x) (.inr (0, [.int (zI (0)), .int (zI (0)), .int (zI (0)), .int (zI (0)), .int (zI (0)), .int (af 5), .int (af 6), .int (af 7), .int (af 8)])) := ⟨_, rfl⟩
  have hW : hbP g ad c5 H := by rw [hc5]; exact hW
  have hex : ∀ j : Nat, ¬ j = x → c5 j = ce j := fun j q0 => ((congrFun hc5 j).trans (up_ne _ _ q0)).trans (hex j q0)
  have e_x : c5 (x) = .inr (0, [.int (zI (0)), .int (zI (0)), .int (zI (0)), .int (zI (0)), .int (zI (0)), .int (af 5), .int (af 6), .int (af 7), .int (af 8)]) := (congrFun hc5 _).trans (up_at _ _ _)
  refine lv_aload_n hx hb dX0_clear_25 rfl (lv_at hl 0 rfl) ?_
  refine lv_iconst (v := zI (0)) hx hb dX0_clear_26 (by decide) ?_
  refine y_put (ci := 0) (v := .int (zI (0))) (ty := .int) (C := RX0) (T := TX0) (N := 9) hx hb hts hinX0 tyX0 tyX0_ok nmX0 hown hK hW hd9 hS (x) (show x < 126 by omega) e_x rfl 5 (by decide) k30 (fun _ h9 => h9) rfl (by decide +kernel) rfl rfl (Nat.le_of_ble_eq_true rfl) dX0_clear_27 (fun H locs hW hS => ?_)
  obtain ⟨c6, hc6⟩ : ∃ x9c : Nat → va_E, x9c = va_up c5 (x) (.inr (0, [.int (zI (0)), .int (zI (0)), .int (zI (0)), .int (zI (0)), .int (zI (0)), .int (zI (0)), .int (af 6), .int (af 7), .int (af 8)])) := ⟨_, rfl⟩
  have hW : hbP g ad c6 H := by rw [hc6]; exact hW
  have hex : ∀ j : Nat, ¬ j = x → c6 j = ce j := fun j q0 => ((congrFun hc6 j).trans (up_ne _ _ q0)).trans (hex j q0)
  have e_x : c6 (x) = .inr (0, [.int (zI (0)), .int (zI (0)), .int (zI (0)), .int (zI (0)), .int (zI (0)), .int (zI (0)), .int (af 6), .int (af 7), .int (af 8)]) := (congrFun hc6 _).trans (up_at _ _ _)
  refine lv_aload_n hx hb dX0_clear_30 rfl (lv_at hl 0 rfl) ?_
  refine lv_iconst (v := zI (0)) hx hb dX0_clear_31 (by decide) ?_
  refine y_put (ci := 0) (v := .int (zI (0))) (ty := .int) (C := RX0) (T := TX0) (N := 9) hx hb hts hinX0 tyX0 tyX0_ok nmX0 hown hK hW hd9 hS (x) (show x < 126 by omega) e_x rfl 6 (by decide) k33 (fun _ h9 => h9) rfl (by decide +kernel) rfl rfl (Nat.le_of_ble_eq_true rfl) dX0_clear_32 (fun H locs hW hS => ?_)
  obtain ⟨c7, hc7⟩ : ∃ x9c : Nat → va_E, x9c = va_up c6 (x) (.inr (0, [.int (zI (0)), .int (zI (0)), .int (zI (0)), .int (zI (0)), .int (zI (0)), .int (zI (0)), .int (zI (0)), .int (af 7), .int (af 8)])) := ⟨_, rfl⟩
  have hW : hbP g ad c7 H := by rw [hc7]; exact hW
  have hex : ∀ j : Nat, ¬ j = x → c7 j = ce j := fun j q0 => ((congrFun hc7 j).trans (up_ne _ _ q0)).trans (hex j q0)
  have e_x : c7 (x) = .inr (0, [.int (zI (0)), .int (zI (0)), .int (zI (0)), .int (zI (0)), .int (zI (0)), .int (zI (0)), .int (zI (0)), .int (af 7), .int (af 8)]) := (congrFun hc7 _).trans (up_at _ _ _)
  refine lv_aload_n hx hb dX0_clear_35 rfl (lv_at hl 0 rfl) ?_
  refine lv_iconst (v := zI (0)) hx hb dX0_clear_36 (by decide) ?_
  refine y_put (ci := 0) (v := .int (zI (0))) (ty := .int) (C := RX0) (T := TX0) (N := 9) hx hb hts hinX0 tyX0 tyX0_ok nmX0 hown hK hW hd9 hS (x) (show x < 126 by omega) e_x rfl 7 (by decide) k36 (fun _ h9 => h9) rfl (by decide +kernel) rfl rfl (Nat.le_of_ble_eq_true rfl) dX0_clear_37 (fun H locs hW hS => ?_)
  obtain ⟨c8, hc8⟩ : ∃ x9c : Nat → va_E, x9c = va_up c7 (x) (.inr (0, [.int (zI (0)), .int (zI (0)), .int (zI (0)), .int (zI (0)), .int (zI (0)), .int (zI (0)), .int (zI (0)), .int (zI (0)), .int (af 8)])) := ⟨_, rfl⟩
  have hW : hbP g ad c8 H := by rw [hc8]; exact hW
  have hex : ∀ j : Nat, ¬ j = x → c8 j = ce j := fun j q0 => ((congrFun hc8 j).trans (up_ne _ _ q0)).trans (hex j q0)
  have e_x : c8 (x) = .inr (0, [.int (zI (0)), .int (zI (0)), .int (zI (0)), .int (zI (0)), .int (zI (0)), .int (zI (0)), .int (zI (0)), .int (zI (0)), .int (af 8)]) := (congrFun hc8 _).trans (up_at _ _ _)
  refine lv_aload_n hx hb dX0_clear_40 rfl (lv_at hl 0 rfl) ?_
  refine lv_sipush (v := zI (365)) hx hb dX0_clear_41 (by decide) ?_
  refine y_put (ci := 0) (v := .int (zI (365))) (ty := .int) (C := RX0) (T := TX0) (N := 9) hx hb hts hinX0 tyX0 tyX0_ok nmX0 hown hK hW hd9 hS (x) (show x < 126 by omega) e_x rfl 8 (by decide) k11 (fun _ h9 => h9) rfl (by decide +kernel) rfl rfl (Nat.le_of_ble_eq_true rfl) dX0_clear_44 (fun H locs hW hS => ?_)
  obtain ⟨c9, hc9⟩ : ∃ x9c : Nat → va_E, x9c = va_up c8 (x) (.inr (0, [.int (zI (0)), .int (zI (0)), .int (zI (0)), .int (zI (0)), .int (zI (0)), .int (zI (0)), .int (zI (0)), .int (zI (0)), .int (zI (365))])) := ⟨_, rfl⟩
  have hW : hbP g ad c9 H := by rw [hc9]; exact hW
  have hex : ∀ j : Nat, ¬ j = x → c9 j = ce j := fun j q0 => ((congrFun hc9 j).trans (up_ne _ _ q0)).trans (hex j q0)
  have e_x : c9 (x) = .inr (0, [.int (zI (0)), .int (zI (0)), .int (zI (0)), .int (zI (0)), .int (zI (0)), .int (zI (0)), .int (zI (0)), .int (zI (0)), .int (zI (365))]) := (congrFun hc9 _).trans (up_at _ _ _)
  exact W.vret hx hb hr (fun tX htX hWX => ⟨⟨c9, rfl, ⟨e_x, (fun j q0 => hex j q0)⟩, g_at htX hW⟩, hS.F htX⟩) hS.2.2 dX0_clear_47

set_option maxHeartbeats 4000000 in
set_option maxRecDepth 100000 in
theorem c_X0_copyFrom (l : Launch) (g : GG) (ad : Nat → Nat) (hd9 : hD ad) (ce : Nat → va_E) (x y : Nat) (hx9 : x < 126) (hy9 : y < 126) (hxy : ¬ x = y) (af bf : Nat → Int32) (e_x : ce (x) = .inr (0, [.int (af 0), .int (af 1), .int (af 2), .int (af 3), .int (af 4), .int (af 5), .int (af 6), .int (af 7), .int (af 8)])) (e_y : ce (y) = .inr (0, [.int (bf 0), .int (bf 1), .int (bf 2), .int (bf 3), .int (bf 4), .int (bf 5), .int (bf 6), .int (bf 7), .int (bf 8)])) : Met l yX0_copyFrom wsX0_copyFrom ({ frames := 0, cells := 0, slots := 0, locals := 0 }) (gPc g [.ref ((ad x)), .ref ((ad y))] (hbP g ad ce)) (va_Qv (fun (c1 : Nat → va_E) => c1 (x) = .inr (0, [.int (bf 0), .int (bf 1), .int (bf 2), .int (bf 3), .int (bf 4), .int (bf 5), .int (bf 6), .int (bf 7), .int (bf 8)]) ∧ ∀ j : Nat, ¬ j = x → c1 j = ce j) (fun c1 (tS : State) => hbP g ad c1 tS.heap) (hbA ad)) 0 0 (hbA ad) := by
  refine Met.ofW (cc := cX0_copyFrom) (maxL := 2) (ret := none) (by decide) rfl ?_
  intro p e s m args below meth c s₁ B hml hv
  obtain ⟨rfl, hW, hK⟩ := hv
  have hx := B.exec
  have hb := B.bytes
  have hr := B.returns
  have hts := atoms_spec (ws := wsX0_copyFrom) B.pre
  have hown : s.vm.findClass RX0 = some m.cls := findClass_of_methodNamed B.named
  have hlocks := B.notSynchronized
  have hinX0 : ∀ w ∈ wsX00, w ∈ wsX0_copyFrom := by decide +kernel
  have k15 := hts (.fieldLink RX0 15 "HoursBank$Account" "balance" "I") (by decide +kernel)
  have k18 := hts (.fieldLink RX0 18 "HoursBank$Account" "overtime" "I") (by decide +kernel)
  have k21 := hts (.fieldLink RX0 21 "HoursBank$Account" "docked" "I") (by decide +kernel)
  have k24 := hts (.fieldLink RX0 24 "HoursBank$Account" "overtimeCoins" "I") (by decide +kernel)
  have k27 := hts (.fieldLink RX0 27 "HoursBank$Account" "changeCoins" "I") (by decide +kernel)
  have k30 := hts (.fieldLink RX0 30 "HoursBank$Account" "dockedCoins" "I") (by decide +kernel)
  have k33 := hts (.fieldLink RX0 33 "HoursBank$Account" "settled" "I") (by decide +kernel)
  have k36 := hts (.fieldLink RX0 36 "HoursBank$Account" "flaggedDays" "I") (by decide +kernel)
  have k11 := hts (.fieldLink RX0 11 "HoursBank$Account" "goneOn" "I") (by decide +kernel)
  have hl := lv_entry ([.ref ((ad x)), .ref ((ad y))]) (n := 2) (Nat.le_of_ble_eq_true rfl)
  rw [lg_entry_eq]
  generalize (lg_sl ([.ref ((ad x)), .ref ((ad y))]) ++ List.replicate (2 - (lg_sl ([.ref ((ad x)), .ref ((ad y))])).length) Slot.unset).toArray = ls at hl ⊢
  have hl : lv_has ls 2 [(0, .ref ((ad x))), (1, .ref ((ad y)))] := hl
  have hS : va_S (hbA ad) s.heap s.heap [] := va_S.rf
  obtain ⟨H, hH9⟩ : ∃ H, H = s.heap := ⟨_, rfl⟩
  obtain ⟨locs, hL9⟩ : ∃ x9l : List Loc, x9l = [] := ⟨_, rfl⟩
  have hW : hbP g ad ce H := hH9 ▸ hW
  have hS : va_S (hbA ad) s.heap H locs := by rw [hH9, hL9]; exact hS
  refine z_start hH9 hL9 ?_
  clear hH9 hL9
  have hex : ∀ j : Nat, ce j = ce j := fun _ => rfl
  refine lv_aload_n hx hb dX0_copyFrom_0 rfl (lv_at hl 0 rfl) ?_
  refine lv_aload_n hx hb dX0_copyFrom_1 rfl (lv_at hl 1 rfl) ?_
  refine va_get (D := g.1) (ci := 0) (v := .int (bf 0)) (C := RX0) (T := TX0) (N := 9) hx hb hts hinX0 hown hK (hb1 hW (show y < 126 by omega) e_y) 0 rfl rfl 0 (by decide) k15 (fun _ h9 => h9) rfl dX0_copyFrom_2 ?_
  refine y_put (ci := 0) (v := .int (bf 0)) (ty := .int) (C := RX0) (T := TX0) (N := 9) hx hb hts hinX0 tyX0 tyX0_ok nmX0 hown hK hW hd9 hS (x) (show x < 126 by omega) e_x rfl 0 (by decide) k15 (fun _ h9 => h9) rfl (by decide +kernel) rfl rfl (Nat.le_of_ble_eq_true rfl) dX0_copyFrom_5 (fun H locs hW hS => ?_)
  obtain ⟨c1, hc1⟩ : ∃ x9c : Nat → va_E, x9c = va_up ce (x) (.inr (0, [.int (bf 0), .int (af 1), .int (af 2), .int (af 3), .int (af 4), .int (af 5), .int (af 6), .int (af 7), .int (af 8)])) := ⟨_, rfl⟩
  have hW : hbP g ad c1 H := by rw [hc1]; exact hW
  have hex : ∀ j : Nat, ¬ j = x → c1 j = ce j := fun j q0 => ((congrFun hc1 j).trans (up_ne _ _ q0)).trans (hex j )
  have e_y : c1 (y) = .inr (0, [.int (bf 0), .int (bf 1), .int (bf 2), .int (bf 3), .int (bf 4), .int (bf 5), .int (bf 6), .int (bf 7), .int (bf 8)]) := ((congrFun hc1 _).trans (up_ne _ _ (by omega))).trans e_y
  have e_x : c1 (x) = .inr (0, [.int (bf 0), .int (af 1), .int (af 2), .int (af 3), .int (af 4), .int (af 5), .int (af 6), .int (af 7), .int (af 8)]) := (congrFun hc1 _).trans (up_at _ _ _)
  refine lv_aload_n hx hb dX0_copyFrom_8 rfl (lv_at hl 0 rfl) ?_
  refine lv_aload_n hx hb dX0_copyFrom_9 rfl (lv_at hl 1 rfl) ?_
  refine va_get (D := g.1) (ci := 0) (v := .int (bf 1)) (C := RX0) (T := TX0) (N := 9) hx hb hts hinX0 hown hK (hb1 hW (show y < 126 by omega) e_y) 0 rfl rfl 1 (by decide) k18 (fun _ h9 => h9) rfl dX0_copyFrom_10 ?_
  refine y_put (ci := 0) (v := .int (bf 1)) (ty := .int) (C := RX0) (T := TX0) (N := 9) hx hb hts hinX0 tyX0 tyX0_ok nmX0 hown hK hW hd9 hS (x) (show x < 126 by omega) e_x rfl 1 (by decide) k18 (fun _ h9 => h9) rfl (by decide +kernel) rfl rfl (Nat.le_of_ble_eq_true rfl) dX0_copyFrom_13 (fun H locs hW hS => ?_)
  obtain ⟨c2, hc2⟩ : ∃ x9c : Nat → va_E, x9c = va_up c1 (x) (.inr (0, [.int (bf 0), .int (bf 1), .int (af 2), .int (af 3), .int (af 4), .int (af 5), .int (af 6), .int (af 7), .int (af 8)])) := ⟨_, rfl⟩
  have hW : hbP g ad c2 H := by rw [hc2]; exact hW
  have hex : ∀ j : Nat, ¬ j = x → c2 j = ce j := fun j q0 => ((congrFun hc2 j).trans (up_ne _ _ q0)).trans (hex j q0)
  have e_y : c2 (y) = .inr (0, [.int (bf 0), .int (bf 1), .int (bf 2), .int (bf 3), .int (bf 4), .int (bf 5), .int (bf 6), .int (bf 7), .int (bf 8)]) := ((congrFun hc2 _).trans (up_ne _ _ (by omega))).trans e_y
  have e_x : c2 (x) = .inr (0, [.int (bf 0), .int (bf 1), .int (af 2), .int (af 3), .int (af 4), .int (af 5), .int (af 6), .int (af 7), .int (af 8)]) := (congrFun hc2 _).trans (up_at _ _ _)
  refine lv_aload_n hx hb dX0_copyFrom_16 rfl (lv_at hl 0 rfl) ?_
  refine lv_aload_n hx hb dX0_copyFrom_17 rfl (lv_at hl 1 rfl) ?_
  refine va_get (D := g.1) (ci := 0) (v := .int (bf 2)) (C := RX0) (T := TX0) (N := 9) hx hb hts hinX0 hown hK (hb1 hW (show y < 126 by omega) e_y) 0 rfl rfl 2 (by decide) k21 (fun _ h9 => h9) rfl dX0_copyFrom_18 ?_
  refine y_put (ci := 0) (v := .int (bf 2)) (ty := .int) (C := RX0) (T := TX0) (N := 9) hx hb hts hinX0 tyX0 tyX0_ok nmX0 hown hK hW hd9 hS (x) (show x < 126 by omega) e_x rfl 2 (by decide) k21 (fun _ h9 => h9) rfl (by decide +kernel) rfl rfl (Nat.le_of_ble_eq_true rfl) dX0_copyFrom_21 (fun H locs hW hS => ?_)
  obtain ⟨c3, hc3⟩ : ∃ x9c : Nat → va_E, x9c = va_up c2 (x) (.inr (0, [.int (bf 0), .int (bf 1), .int (bf 2), .int (af 3), .int (af 4), .int (af 5), .int (af 6), .int (af 7), .int (af 8)])) := ⟨_, rfl⟩
  have hW : hbP g ad c3 H := by rw [hc3]; exact hW
  have hex : ∀ j : Nat, ¬ j = x → c3 j = ce j := fun j q0 => ((congrFun hc3 j).trans (up_ne _ _ q0)).trans (hex j q0)
  have e_y : c3 (y) = .inr (0, [.int (bf 0), .int (bf 1), .int (bf 2), .int (bf 3), .int (bf 4), .int (bf 5), .int (bf 6), .int (bf 7), .int (bf 8)]) := ((congrFun hc3 _).trans (up_ne _ _ (by omega))).trans e_y
  have e_x : c3 (x) = .inr (0, [.int (bf 0), .int (bf 1), .int (bf 2), .int (af 3), .int (af 4), .int (af 5), .int (af 6), .int (af 7), .int (af 8)]) := (congrFun hc3 _).trans (up_at _ _ _)
  refine lv_aload_n hx hb dX0_copyFrom_24 rfl (lv_at hl 0 rfl) ?_
  refine lv_aload_n hx hb dX0_copyFrom_25 rfl (lv_at hl 1 rfl) ?_
  refine va_get (D := g.1) (ci := 0) (v := .int (bf 3)) (C := RX0) (T := TX0) (N := 9) hx hb hts hinX0 hown hK (hb1 hW (show y < 126 by omega) e_y) 0 rfl rfl 3 (by decide) k24 (fun _ h9 => h9) rfl dX0_copyFrom_26 ?_
  refine y_put (ci := 0) (v := .int (bf 3)) (ty := .int) (C := RX0) (T := TX0) (N := 9) hx hb hts hinX0 tyX0 tyX0_ok nmX0 hown hK hW hd9 hS (x) (show x < 126 by omega) e_x rfl 3 (by decide) k24 (fun _ h9 => h9) rfl (by decide +kernel) rfl rfl (Nat.le_of_ble_eq_true rfl) dX0_copyFrom_29 (fun H locs hW hS => ?_)
  obtain ⟨c4, hc4⟩ : ∃ x9c : Nat → va_E, x9c = va_up c3 (x) (.inr (0, [.int (bf 0), .int (bf 1), .int (bf 2), .int (bf 3), .int (af 4), .int (af 5), .int (af 6), .int (af 7), .int (af 8)])) := ⟨_, rfl⟩
  have hW : hbP g ad c4 H := by rw [hc4]; exact hW
  have hex : ∀ j : Nat, ¬ j = x → c4 j = ce j := fun j q0 => ((congrFun hc4 j).trans (up_ne _ _ q0)).trans (hex j q0)
  have e_y : c4 (y) = .inr (0, [.int (bf 0), .int (bf 1), .int (bf 2), .int (bf 3), .int (bf 4), .int (bf 5), .int (bf 6), .int (bf 7), .int (bf 8)]) := ((congrFun hc4 _).trans (up_ne _ _ (by omega))).trans e_y
  have e_x : c4 (x) = .inr (0, [.int (bf 0), .int (bf 1), .int (bf 2), .int (bf 3), .int (af 4), .int (af 5), .int (af 6), .int (af 7), .int (af 8)]) := (congrFun hc4 _).trans (up_at _ _ _)
  refine lv_aload_n hx hb dX0_copyFrom_32 rfl (lv_at hl 0 rfl) ?_
  refine lv_aload_n hx hb dX0_copyFrom_33 rfl (lv_at hl 1 rfl) ?_
  refine va_get (D := g.1) (ci := 0) (v := .int (bf 4)) (C := RX0) (T := TX0) (N := 9) hx hb hts hinX0 hown hK (hb1 hW (show y < 126 by omega) e_y) 0 rfl rfl 4 (by decide) k27 (fun _ h9 => h9) rfl dX0_copyFrom_34 ?_
  refine y_put (ci := 0) (v := .int (bf 4)) (ty := .int) (C := RX0) (T := TX0) (N := 9) hx hb hts hinX0 tyX0 tyX0_ok nmX0 hown hK hW hd9 hS (x) (show x < 126 by omega) e_x rfl 4 (by decide) k27 (fun _ h9 => h9) rfl (by decide +kernel) rfl rfl (Nat.le_of_ble_eq_true rfl) dX0_copyFrom_37 (fun H locs hW hS => ?_)
  obtain ⟨c5, hc5⟩ : ∃ x9c : Nat → va_E, x9c = va_up c4 (x) (.inr (0, [.int (bf 0), .int (bf 1), .int (bf 2), .int (bf 3), .int (bf 4), .int (af 5), .int (af 6), .int (af 7), .int (af 8)])) := ⟨_, rfl⟩
  have hW : hbP g ad c5 H := by rw [hc5]; exact hW
  have hex : ∀ j : Nat, ¬ j = x → c5 j = ce j := fun j q0 => ((congrFun hc5 j).trans (up_ne _ _ q0)).trans (hex j q0)
  have e_y : c5 (y) = .inr (0, [.int (bf 0), .int (bf 1), .int (bf 2), .int (bf 3), .int (bf 4), .int (bf 5), .int (bf 6), .int (bf 7), .int (bf 8)]) := ((congrFun hc5 _).trans (up_ne _ _ (by omega))).trans e_y
  have e_x : c5 (x) = .inr (0, [.int (bf 0), .int (bf 1), .int (bf 2), .int (bf 3), .int (bf 4), .int (af 5), .int (af 6), .int (af 7), .int (af 8)]) := (congrFun hc5 _).trans (up_at _ _ _)
  refine lv_aload_n hx hb dX0_copyFrom_40 rfl (lv_at hl 0 rfl) ?_
  refine lv_aload_n hx hb dX0_copyFrom_41 rfl (lv_at hl 1 rfl) ?_
  refine va_get (D := g.1) (ci := 0) (v := .int (bf 5)) (C := RX0) (T := TX0) (N := 9) hx hb hts hinX0 hown hK (hb1 hW (show y < 126 by omega) e_y) 0 rfl rfl 5 (by decide) k30 (fun _ h9 => h9) rfl dX0_copyFrom_42 ?_
  refine y_put (ci := 0) (v := .int (bf 5)) (ty := .int) (C := RX0) (T := TX0) (N := 9) hx hb hts hinX0 tyX0 tyX0_ok nmX0 hown hK hW hd9 hS (x) (show x < 126 by omega) e_x rfl 5 (by decide) k30 (fun _ h9 => h9) rfl (by decide +kernel) rfl rfl (Nat.le_of_ble_eq_true rfl) dX0_copyFrom_45 (fun H locs hW hS => ?_)
  obtain ⟨c6, hc6⟩ : ∃ x9c : Nat → va_E, x9c = va_up c5 (x) (.inr (0, [.int (bf 0), .int (bf 1), .int (bf 2), .int (bf 3), .int (bf 4), .int (bf 5), .int (af 6), .int (af 7), .int (af 8)])) := ⟨_, rfl⟩
  have hW : hbP g ad c6 H := by rw [hc6]; exact hW
  have hex : ∀ j : Nat, ¬ j = x → c6 j = ce j := fun j q0 => ((congrFun hc6 j).trans (up_ne _ _ q0)).trans (hex j q0)
  have e_y : c6 (y) = .inr (0, [.int (bf 0), .int (bf 1), .int (bf 2), .int (bf 3), .int (bf 4), .int (bf 5), .int (bf 6), .int (bf 7), .int (bf 8)]) := ((congrFun hc6 _).trans (up_ne _ _ (by omega))).trans e_y
  have e_x : c6 (x) = .inr (0, [.int (bf 0), .int (bf 1), .int (bf 2), .int (bf 3), .int (bf 4), .int (bf 5), .int (af 6), .int (af 7), .int (af 8)]) := (congrFun hc6 _).trans (up_at _ _ _)
  refine lv_aload_n hx hb dX0_copyFrom_48 rfl (lv_at hl 0 rfl) ?_
  refine lv_aload_n hx hb dX0_copyFrom_49 rfl (lv_at hl 1 rfl) ?_
  refine va_get (D := g.1) (ci := 0) (v := .int (bf 6)) (C := RX0) (T := TX0) (N := 9) hx hb hts hinX0 hown hK (hb1 hW (show y < 126 by omega) e_y) 0 rfl rfl 6 (by decide) k33 (fun _ h9 => h9) rfl dX0_copyFrom_50 ?_
  refine y_put (ci := 0) (v := .int (bf 6)) (ty := .int) (C := RX0) (T := TX0) (N := 9) hx hb hts hinX0 tyX0 tyX0_ok nmX0 hown hK hW hd9 hS (x) (show x < 126 by omega) e_x rfl 6 (by decide) k33 (fun _ h9 => h9) rfl (by decide +kernel) rfl rfl (Nat.le_of_ble_eq_true rfl) dX0_copyFrom_53 (fun H locs hW hS => ?_)
  obtain ⟨c7, hc7⟩ : ∃ x9c : Nat → va_E, x9c = va_up c6 (x) (.inr (0, [.int (bf 0), .int (bf 1), .int (bf 2), .int (bf 3), .int (bf 4), .int (bf 5), .int (bf 6), .int (af 7), .int (af 8)])) := ⟨_, rfl⟩
  have hW : hbP g ad c7 H := by rw [hc7]; exact hW
  have hex : ∀ j : Nat, ¬ j = x → c7 j = ce j := fun j q0 => ((congrFun hc7 j).trans (up_ne _ _ q0)).trans (hex j q0)
  have e_y : c7 (y) = .inr (0, [.int (bf 0), .int (bf 1), .int (bf 2), .int (bf 3), .int (bf 4), .int (bf 5), .int (bf 6), .int (bf 7), .int (bf 8)]) := ((congrFun hc7 _).trans (up_ne _ _ (by omega))).trans e_y
  have e_x : c7 (x) = .inr (0, [.int (bf 0), .int (bf 1), .int (bf 2), .int (bf 3), .int (bf 4), .int (bf 5), .int (bf 6), .int (af 7), .int (af 8)]) := (congrFun hc7 _).trans (up_at _ _ _)
  refine lv_aload_n hx hb dX0_copyFrom_56 rfl (lv_at hl 0 rfl) ?_
  refine lv_aload_n hx hb dX0_copyFrom_57 rfl (lv_at hl 1 rfl) ?_
  refine va_get (D := g.1) (ci := 0) (v := .int (bf 7)) (C := RX0) (T := TX0) (N := 9) hx hb hts hinX0 hown hK (hb1 hW (show y < 126 by omega) e_y) 0 rfl rfl 7 (by decide) k36 (fun _ h9 => h9) rfl dX0_copyFrom_58 ?_
  refine y_put (ci := 0) (v := .int (bf 7)) (ty := .int) (C := RX0) (T := TX0) (N := 9) hx hb hts hinX0 tyX0 tyX0_ok nmX0 hown hK hW hd9 hS (x) (show x < 126 by omega) e_x rfl 7 (by decide) k36 (fun _ h9 => h9) rfl (by decide +kernel) rfl rfl (Nat.le_of_ble_eq_true rfl) dX0_copyFrom_61 (fun H locs hW hS => ?_)
  obtain ⟨c8, hc8⟩ : ∃ x9c : Nat → va_E, x9c = va_up c7 (x) (.inr (0, [.int (bf 0), .int (bf 1), .int (bf 2), .int (bf 3), .int (bf 4), .int (bf 5), .int (bf 6), .int (bf 7), .int (af 8)])) := ⟨_, rfl⟩
  have hW : hbP g ad c8 H := by rw [hc8]; exact hW
  have hex : ∀ j : Nat, ¬ j = x → c8 j = ce j := fun j q0 => ((congrFun hc8 j).trans (up_ne _ _ q0)).trans (hex j q0)
  have e_y : c8 (y) = .inr (0, [.int (bf 0), .int (bf 1), .int (bf 2), .int (bf 3), .int (bf 4), .int (bf 5), .int (bf 6), .int (bf 7), .int (bf 8)]) := ((congrFun hc8 _).trans (up_ne _ _ (by omega))).trans e_y
  have e_x : c8 (x) = .inr (0, [.int (bf 0), .int (bf 1), .int (bf 2), .int (bf 3), .int (bf 4), .int (bf 5), .int (bf 6), .int (bf 7), .int (af 8)]) := (congrFun hc8 _).trans (up_at _ _ _)
  refine lv_aload_n hx hb dX0_copyFrom_64 rfl (lv_at hl 0 rfl) ?_
  refine lv_aload_n hx hb dX0_copyFrom_65 rfl (lv_at hl 1 rfl) ?_
  refine va_get (D := g.1) (ci := 0) (v := .int (bf 8)) (C := RX0) (T := TX0) (N := 9) hx hb hts hinX0 hown hK (hb1 hW (show y < 126 by omega) e_y) 0 rfl rfl 8 (by decide) k11 (fun _ h9 => h9) rfl dX0_copyFrom_66 ?_
  refine y_put (ci := 0) (v := .int (bf 8)) (ty := .int) (C := RX0) (T := TX0) (N := 9) hx hb hts hinX0 tyX0 tyX0_ok nmX0 hown hK hW hd9 hS (x) (show x < 126 by omega) e_x rfl 8 (by decide) k11 (fun _ h9 => h9) rfl (by decide +kernel) rfl rfl (Nat.le_of_ble_eq_true rfl) dX0_copyFrom_69 (fun H locs hW hS => ?_)
  obtain ⟨c9, hc9⟩ : ∃ x9c : Nat → va_E, x9c = va_up c8 (x) (.inr (0, [.int (bf 0), .int (bf 1), .int (bf 2), .int (bf 3), .int (bf 4), .int (bf 5), .int (bf 6), .int (bf 7), .int (bf 8)])) := ⟨_, rfl⟩
  have hW : hbP g ad c9 H := by rw [hc9]; exact hW
  have hex : ∀ j : Nat, ¬ j = x → c9 j = ce j := fun j q0 => ((congrFun hc9 j).trans (up_ne _ _ q0)).trans (hex j q0)
  have e_y : c9 (y) = .inr (0, [.int (bf 0), .int (bf 1), .int (bf 2), .int (bf 3), .int (bf 4), .int (bf 5), .int (bf 6), .int (bf 7), .int (bf 8)]) := ((congrFun hc9 _).trans (up_ne _ _ (by omega))).trans e_y
  have e_x : c9 (x) = .inr (0, [.int (bf 0), .int (bf 1), .int (bf 2), .int (bf 3), .int (bf 4), .int (bf 5), .int (bf 6), .int (bf 7), .int (bf 8)]) := (congrFun hc9 _).trans (up_at _ _ _)
  exact W.vret hx hb hr (fun tX htX hWX => ⟨⟨c9, rfl, ⟨e_x, (fun j q0 => hex j q0)⟩, g_at htX hW⟩, hS.F htX⟩) hS.2.2 dX0_copyFrom_72

set_option maxHeartbeats 4000000 in
set_option maxRecDepth 100000 in
theorem c_X5_append (l : Launch) (g : GG) (ad : Nat → Nat) (hd9 : hD ad) (ce : Nat → va_E) (x : Int32) (t : Nat) (ht4 : t + 4 ≤ 740) (by0 : Nat → Int32) (e_1 : ce (1) = .inr (5, [.ref ((ad 2)), .int (zI (t))])) (e_2 : ce (2) = .inl (g.2 1, 740, .inl (by0))) : Met l yX5_append wsX5_append ({ frames := 0, cells := 0, slots := 0, locals := 0 }) (gPc g [.ref ((ad 1)), .int (x)] (hbP g ad ce)) (va_Qv (fun (c1 : Nat → va_E) => c1 (1) = .inr (5, [.ref ((ad 2)), .int (zI (((t + 4 : Nat) : Int)))]) ∧ c1 (2) = .inl (g.2 1, 740, .inl (layC by0 t x 4)) ∧ ∀ j : Nat, ¬ j = 1 → ¬ j = 2 → c1 j = ce j) (fun c1 (tS : State) => hbP g ad c1 tS.heap) (hbA ad)) 0 0 (hbA ad) := by
  refine Met.ofW (cc := cX5_append) (maxL := 3) (ret := none) (by decide) rfl ?_
  intro p e s m args below meth c s₁ B hml hv
  obtain ⟨rfl, hW, hK⟩ := hv
  have hx := B.exec
  have hb := B.bytes
  have hr := B.returns
  have hts := atoms_spec (ws := wsX5_append) B.pre
  have hown : s.vm.findClass RX5 = some m.cls := findClass_of_methodNamed B.named
  have hlocks := B.notSynchronized
  have hinX5 : ∀ w ∈ wsX50, w ∈ wsX5_append := by decide +kernel
  have k13 := hts (.fieldLink RX5 13 "HoursBank$Tape" "size" "I") (by decide +kernel)
  have k9 := hts (.fieldLink RX5 9 "HoursBank$Tape" "bytes" "[B") (by decide +kernel)
  have hl := lv_entry ([.ref ((ad 1)), .int (x)]) (n := 3) (Nat.le_of_ble_eq_true rfl)
  rw [lg_entry_eq]
  generalize (lg_sl ([.ref ((ad 1)), .int (x)]) ++ List.replicate (3 - (lg_sl ([.ref ((ad 1)), .int (x)])).length) Slot.unset).toArray = ls at hl ⊢
  have hl : lv_has ls 3 [(0, .ref ((ad 1))), (1, .int (x))] := hl
  have hS : va_S (hbA ad) s.heap s.heap [] := va_S.rf
  obtain ⟨H, hH9⟩ : ∃ H, H = s.heap := ⟨_, rfl⟩
  obtain ⟨locs, hL9⟩ : ∃ x9l : List Loc, x9l = [] := ⟨_, rfl⟩
  have hW : hbP g ad ce H := hH9 ▸ hW
  have hS : va_S (hbA ad) s.heap H locs := by rw [hH9, hL9]; exact hS
  refine z_start hH9 hL9 ?_
  clear hH9 hL9
  have hex : ∀ j : Nat, ce j = ce j := fun _ => rfl
  refine lv_bipush (v := zI (24)) hx hb dX5_append_0 (by decide) ?_
  refine lv_istore_n (lv' := [(2, .int (zI (24))), (0, .ref ((ad 1))), (1, .int (x))]) hx hb dX5_append_2 rfl hl (by decide) rfl (fun ls hl => ?_)
  have loop3 : ∀ (K9 : Nat) (i : Nat) (hK9 : 4 - i < K9) (hi : i ≤ 4) (H : Heap) (locs : List Loc) (c1 : Nat → va_E) (e_1 : c1 (1) = .inr (5, [.ref ((ad 2)), .int (zI (((t + i : Nat) : Int)))])) (e_2 : c1 (2) = .inl (g.2 1, 740, .inl (layC by0 t x i))) (hex : ∀ j : Nat, ¬ j = 1 → ¬ j = 2 → c1 j = ce j) (hW : hbP g ad c1 H) (hS : va_S (hbA ad) s.heap H locs) (ls : Array Slot) (hl : lv_has ls 3 [(2, .int (zI (24 - 8 * (i : Int)))), (0, .ref ((ad 1))), (1, .int (x))]), W p l e (headSpec wsX5_append ({ frames := 0, cells := 0, slots := 0, locals := 0 })).room s m ([.ref ((ad 1)), .int (x)] : List Value).toArray below meth c H locs 0 0 (MQ below (va_Qv (fun (c1 : Nat → va_E) => c1 (1) = .inr (5, [.ref ((ad 2)), .int (zI (((t + 4 : Nat) : Int)))]) ∧ c1 (2) = .inl (g.2 1, 740, .inl (layC by0 t x 4)) ∧ ∀ j : Nat, ¬ j = 1 → ¬ j = 2 → c1 j = ce j) (fun c1 (tS : State) => hbP g ad c1 tS.heap) (hbA ad)) ([.ref ((ad 1)), .int (x)] : List Value).toArray s 0 0 (hbA ad)) (F0 m 3 ls []) := by
    intro K9
    induction K9 with
    | zero => intro i hK9; exact absurd hK9 (Nat.not_lt_zero _)
    | succ K9 ih =>
      intro i hK9 hi H locs c1 e_1 e_2 hex hW hS ls hl
      refine lv_iload_n hx hb dX5_append_3 rfl (lv_at hl 0 rfl) ?_
      refine z_if_lt (tgt := 46) hx hb dX5_append_4 (by decide) (by omega) (fun h4 => ?_) (fun h4 => ?_)
      · obtain rfl : i = 4 := by omega
        exact W.vret hx hb hr (fun tX htX hWX => ⟨⟨c1, rfl, ⟨e_1, e_2, (fun j q0 q1 => hex j q0 q1)⟩, g_at htX hW⟩, hS.F htX⟩) hS.2.2 dX5_append_46
      · refine lv_aload_n hx hb dX5_append_7 rfl (lv_at hl 1 rfl) ?_
        refine va_get (D := g.1) (ci := 5) (v := .int (zI (((t + i : Nat) : Int)))) (C := RX5) (T := TX5) (N := 2) hx hb hts hinX5 hown hK (hb1 hW (show 1 < 126 by omega) e_1) 0 rfl rfl 1 (by decide) k13 (fun _ h9 => h9) rfl dX5_append_8 ?_
        refine lv_sipush (v := zI (740)) hx hb dX5_append_11 (by decide) ?_
        refine z_icmp_ge (tgt := 46) hx hb dX5_append_14 (by decide) (by omega) (by omega) (fun h14 => ?_) (fun h14 => ?_)
        · exfalso; omega
        · refine lv_aload_n hx hb dX5_append_17 rfl (lv_at hl 1 rfl) ?_
          refine va_get (D := g.1) (ci := 5) (v := .ref ((ad 2))) (C := RX5) (T := TX5) (N := 2) hx hb hts hinX5 hown hK (hb1 hW (show 1 < 126 by omega) e_1) 0 rfl rfl 0 (by decide) k9 (fun _ h9 => h9) rfl dX5_append_18 ?_
          refine lv_aload_n hx hb dX5_append_21 rfl (lv_at hl 1 rfl) ?_
          refine va_get (D := g.1) (ci := 5) (v := .int (zI (((t + i : Nat) : Int)))) (C := RX5) (T := TX5) (N := 2) hx hb hts hinX5 hown hK (hb1 hW (show 1 < 126 by omega) e_1) 0 rfl rfl 1 (by decide) k13 (fun _ h9 => h9) rfl dX5_append_22 ?_
          refine lv_iload_n hx hb dX5_append_25 rfl (lv_at hl 2 rfl) ?_
          refine lv_iload_n hx hb dX5_append_26 rfl (lv_at hl 0 rfl) ?_
          refine lv_ishr hx hb dX5_append_27 ?_
          refine lv_i2b hx hb dX5_append_28 rfl ?_
          refine z_top (y := zI (sbI (byteN x (24 - 8 * i)))) (byte_s x i (by omega)) ?_
          refine y_bast hx hb hK hW hd9 hS (2) (show 2 < 126 by omega) e_2 (by decide) (t + i) (by omega) (by omega) dX5_append_29 (fun H locs hW hS => ?_)
          rw [show vp_nar .byte (zI (sbI (byteN x (24 - 8 * i)))) = zI (sbI (byteN x (24 - 8 * i))) from (sbI_nar (byteN_lt _ _))] at hW
          rw [show upd (layC by0 t x i) (t + i) (zI (sbI (byteN x (24 - 8 * i)))) = layC by0 t x (i + 1) from (layC_s by0 t x i)] at hW
          obtain ⟨c2, hc2⟩ : ∃ x9c : Nat → va_E, x9c = va_up c1 (2) (.inl (g.2 1, 740, .inl (layC by0 t x (i + 1)))) := ⟨_, rfl⟩
          have hW : hbP g ad c2 H := by rw [hc2]; exact hW
          have hex : ∀ j : Nat, ¬ j = 1 → ¬ j = 2 → c2 j = ce j := fun j q0 q1 => ((congrFun hc2 j).trans (up_ne _ _ q1)).trans (hex j q0 q1)
          have e_1 : c2 (1) = .inr (5, [.ref ((ad 2)), .int (zI (((t + i : Nat) : Int)))]) := ((congrFun hc2 _).trans (up_ne _ _ (by omega))).trans e_1
          have e_2 : c2 (2) = .inl (g.2 1, 740, .inl (layC by0 t x (i + 1))) := (congrFun hc2 _).trans (up_at _ _ _)
          refine lv_aload_n hx hb dX5_append_30 rfl (lv_at hl 1 rfl) ?_
          refine lv_dup hx hb dX5_append_31 rfl ?_
          refine va_get (D := g.1) (ci := 5) (v := .int (zI (((t + i : Nat) : Int)))) (C := RX5) (T := TX5) (N := 2) hx hb hts hinX5 hown hK (hb1 hW (show 1 < 126 by omega) e_1) 0 rfl rfl 1 (by decide) k13 (fun _ h9 => h9) rfl dX5_append_32 ?_
          refine lv_iconst (v := zI (1)) hx hb dX5_append_35 (by decide) ?_
          refine z_iadd hx hb dX5_append_36 ?_
          refine y_put (ci := 5) (v := .int (zI (((t + i : Nat) : Int) + 1))) (ty := .int) (C := RX5) (T := TX5) (N := 2) hx hb hts hinX5 tyX5 tyX5_ok nmX5 hown hK hW hd9 hS (1) (show 1 < 126 by omega) e_1 rfl 1 (by decide) k13 (fun _ h9 => h9) rfl (by decide +kernel) rfl rfl (Nat.le_of_ble_eq_true rfl) dX5_append_37 (fun H locs hW hS => ?_)
          obtain ⟨c3, hc3⟩ : ∃ x9c : Nat → va_E, x9c = va_up c2 (1) (.inr (5, [.ref ((ad 2)), .int (zI (((t + i : Nat) : Int) + 1))])) := ⟨_, rfl⟩
          have hW : hbP g ad c3 H := by rw [hc3]; exact hW
          have hex : ∀ j : Nat, ¬ j = 1 → ¬ j = 2 → c3 j = ce j := fun j q0 q1 => ((congrFun hc3 j).trans (up_ne _ _ q0)).trans (hex j q0 q1)
          have e_2 : c3 (2) = .inl (g.2 1, 740, .inl (layC by0 t x (i + 1))) := ((congrFun hc3 _).trans (up_ne _ _ (by omega))).trans e_2
          have e_1 : c3 (1) = .inr (5, [.ref ((ad 2)), .int (zI (((t + i : Nat) : Int) + 1))]) := (congrFun hc3 _).trans (up_at _ _ _)
          refine z_iinc (lv' := [(2, .int (zI ((24 - 8 * (i : Int)) + (-8)))), (0, .ref ((ad 1))), (1, .int (x))]) hx hb dX5_append_40 hl (k := 0) rfl (by decide) rfl (fun ls hl => ?_)
          refine lv_goto (tgt := 3) hx hb dX5_append_43 (by decide) ?_
          have hl := lv_sub (l' := [(2, .int (zI ((24 - 8 * (i : Int)) + (-8)))), (0, .ref ((ad 1))), (1, .int (x))]) hl [0, 1, 2] rfl
          have hl : lv_has ls 3 [(2, .int (zI (24 - 8 * ((i + 1) : Int)))), (0, .ref ((ad 1))), (1, .int (x))] := lv_cg (lvE (congrArg zI (by omega)) (lvR (lvR (rfl)))) hl
          exact ih (i + 1) (by omega) (by omega) H locs c3 (by rw [show (((t + (i + 1) : Nat)) : Int) = ((t + i : Nat) : Int) + 1 by omega]; exact e_1) (e_2) (fun j q0 q1 => hex j q0 q1) hW hS ls hl
  have hl := lv_sub (l' := [(2, .int (zI (24))), (0, .ref ((ad 1))), (1, .int (x))]) hl [0, 1, 2] rfl
  have hl : lv_has ls 3 [(2, .int (zI (24 - 8 * (0 : Int)))), (0, .ref ((ad 1))), (1, .int (x))] := lv_cg (lvE (congrArg zI (by omega)) (lvR (lvR (rfl)))) hl
  exact loop3 _ (0) (Nat.lt_succ_self _) (Nat.zero_le _) H locs ce (e_1) (by rw [layC_0]; exact e_2) (fun j q0 q1 => hex j ) hW hS ls hl

set_option maxHeartbeats 4000000 in
set_option maxRecDepth 100000 in
theorem c_X8_feed (l : Launch) (g : GG) (ad : Nat → Nat) (hd9 : hD ad) (ce : Nat → va_E) (rb db : Nat) (td : Int32) (x1 x2 x3 x4 x5 : Int32) (t : Nat) (ht7 : t ≤ 740) (by0 : Nat → Int32) (e_0 : ce (0) = .inr (8, [.ref ((ad 1)), .ref ((ad 3)), .ref ((ad 5)), .ref ((ad 6)), .ref ((ad rb)), .ref ((ad db)), .int (td)])) (e_1 : ce (1) = .inr (5, [.ref ((ad 2)), .int (zI (t))])) (e_2 : ce (2) = .inl (g.2 1, 740, .inl (by0))) : Met l yX8_feed wsX8_feed ({ frames := 1, cells := 0, slots := 0, locals := 22 }) (gPc g [.ref ((ad 0)), .int (x1), .int (x2), .int (x3), .int (x4), .int (x5)] (hbP g ad ce)) (va_Qi (fun (r : Int32) (c1 : Nat → va_E) => r = zI (feedR t) ∧ c1 (1) = .inr (5, [.ref ((ad 2)), .int (zI (((feedZ t : Nat) : Int)))]) ∧ c1 (2) = .inl (g.2 1, 740, .inl (feedC by0 t x1 x2 x3 x4 x5)) ∧ ∀ j : Nat, ¬ j = 1 → ¬ j = 2 → c1 j = ce j) (fun c1 (tS : State) => hbP g ad c1 tS.heap) (hbA ad)) 0 0 (hbA ad) := by
  refine Met.ofW (cc := cX8_feed) (maxL := 6) (ret := (some .int)) (by decide) rfl ?_
  intro p e s m args below meth c s₁ B hml hv
  obtain ⟨rfl, hW, hK⟩ := hv
  have hx := B.exec
  have hb := B.bytes
  have hr := B.returns
  have hts := atoms_spec (ws := wsX8_feed) B.pre
  have hown : s.vm.findClass RX8 = some m.cls := findClass_of_methodNamed B.named
  have hlocks := B.notSynchronized
  have hinX5 : ∀ w ∈ wsX50, w ∈ wsX8_feed := by decide +kernel
  have hinX8 : ∀ w ∈ wsX80, w ∈ wsX8_feed := by decide +kernel
  have k12 := hts (.fieldLink RX8 12 "HoursBank" "tape" "LHoursBank$Tape;") (by decide +kernel)
  have k55 := hts (.fieldLink RX8 55 "HoursBank$Tape" "size" "I") (by decide +kernel)
  have hl := lv_entry ([.ref ((ad 0)), .int (x1), .int (x2), .int (x3), .int (x4), .int (x5)]) (n := 6) (Nat.le_of_ble_eq_true rfl)
  rw [lg_entry_eq]
  generalize (lg_sl ([.ref ((ad 0)), .int (x1), .int (x2), .int (x3), .int (x4), .int (x5)]) ++ List.replicate (6 - (lg_sl ([.ref ((ad 0)), .int (x1), .int (x2), .int (x3), .int (x4), .int (x5)])).length) Slot.unset).toArray = ls at hl ⊢
  have hl : lv_has ls 6 [(0, .ref ((ad 0))), (1, .int (x1)), (2, .int (x2)), (3, .int (x3)), (4, .int (x4)), (5, .int (x5))] := hl
  have hS : va_S (hbA ad) s.heap s.heap [] := va_S.rf
  obtain ⟨H, hH9⟩ : ∃ H, H = s.heap := ⟨_, rfl⟩
  obtain ⟨locs, hL9⟩ : ∃ x9l : List Loc, x9l = [] := ⟨_, rfl⟩
  have hW : hbP g ad ce H := hH9 ▸ hW
  have hS : va_S (hbA ad) s.heap H locs := by rw [hH9, hL9]; exact hS
  refine z_start hH9 hL9 ?_
  clear hH9 hL9
  have hex : ∀ j : Nat, ce j = ce j := fun _ => rfl
  refine lv_aload_n hx hb dX8_feed_0 rfl (lv_at hl 0 rfl) ?_
  refine va_get (D := g.1) (ci := 8) (v := .ref ((ad 1))) (C := RX8) (T := TX8) (N := 7) hx hb hts hinX8 hown hK (hb1 hW (show 0 < 126 by omega) e_0) 0 rfl rfl 0 (by decide) k12 (fun _ h9 => h9) rfl dX8_feed_1 ?_
  refine va_get (D := g.1) (ci := 5) (v := .int (zI (t))) (C := RX5) (T := TX5) (N := 2) hx hb hts hinX5 hown hK (hb1 hW (show 1 < 126 by omega) e_1) 0 rfl rfl 1 (by decide) k55 (fun _ h9 => h9) rfl dX8_feed_4 ?_
  refine lv_bipush (v := zI (20)) hx hb dX8_feed_7 (by decide) ?_
  refine z_iadd hx hb dX8_feed_9 ?_
  refine lv_sipush (v := zI (740)) hx hb dX8_feed_10 (by decide) ?_
  refine z_icmp_le (tgt := 18) hx hb dX8_feed_13 (by decide) (by omega) (by omega) (fun h13 => ?_) (fun h13 => ?_)
  · refine lv_aload_n hx hb dX8_feed_18 rfl (lv_at hl 0 rfl) ?_
    refine va_get (D := g.1) (ci := 8) (v := .ref ((ad 1))) (C := RX8) (T := TX8) (N := 7) hx hb hts hinX8 hown hK (hb1 hW (show 0 < 126 by omega) e_0) 0 rfl rfl 0 (by decide) k12 (fun _ h9 => h9) rfl dX8_feed_19 ?_
    refine lv_iload_n hx hb dX8_feed_22 rfl (lv_at hl 1 rfl) ?_
    refine va_callv (va_runV (As := [.int (x1)]) (rest := []) ⟨hx, hb, hml, hown, hts⟩ (c_X5_append l g (ad) (hd9) (ce) (x1) ((t)) (by omega) ((by0)) (e_1) (e_2)) (cwV 1 hts gX8_feed_X5_append rfl rfl rfl (by decide +kernel) ⟨Nat.le_of_ble_eq_true rfl, Nat.le_of_ble_eq_true rfl⟩) (g_preV hW hK (va_recv hK (hb1 hW (show 1 < 126 by omega) e_1) (q0 := 0) (ci := 5) rfl rfl)) rfl rfl hl.1 rfl (lv_room (Nat.le_of_ble_eq_true rfl)) dX8_feed_23 ⟨Nat.le_of_ble_eq_true rfl, Nat.le_of_ble_eq_true rfl⟩) hS (fun q _ h => h) (fun q h => h) (fun c1 t9 H1 locs ht9 hvm9 hw9 hB9 hz9 hk9 hS => ?_)
    rw [ht9] at hB9
    have hW := hB9
    clear hB9 hz9 hk9 hvm9 ht9
    generalize H1 = H at hW hS ⊢
    have hW : hbP g ad c1 H := hW
    try dsimp only at hw9
    obtain ⟨m0, m1, hx9⟩ := hw9
    have hex : ∀ j : Nat, ¬ j = 1 → ¬ j = 2 → c1 j = ce j := fun j q0 q1 => (hx9 j q0 q1).trans (hex j )
    have e_0 : c1 (0) = .inr (8, [.ref ((ad 1)), .ref ((ad 3)), .ref ((ad 5)), .ref ((ad 6)), .ref ((ad rb)), .ref ((ad db)), .int (td)]) := (hx9 _ (by omega) (by omega)).trans e_0
    have e_1 : c1 (1) = .inr (5, [.ref ((ad 2)), .int (zI ((((t) + 4 : Nat) : Int)))]) := m0
    have e_2 : c1 (2) = .inl (g.2 1, 740, .inl (layC (by0) (t) x1 4)) := m1
    refine lv_aload_n hx hb dX8_feed_26 rfl (lv_at hl 0 rfl) ?_
    refine va_get (D := g.1) (ci := 8) (v := .ref ((ad 1))) (C := RX8) (T := TX8) (N := 7) hx hb hts hinX8 hown hK (hb1 hW (show 0 < 126 by omega) e_0) 0 rfl rfl 0 (by decide) k12 (fun _ h9 => h9) rfl dX8_feed_27 ?_
    refine lv_iload_n hx hb dX8_feed_30 rfl (lv_at hl 2 rfl) ?_
    refine va_callv (va_runV (As := [.int (x2)]) (rest := []) ⟨hx, hb, hml, hown, hts⟩ (c_X5_append l g (ad) (hd9) (c1) (x2) ((t + 4)) (by omega) ((layC (by0) (t) x1 4)) (by rw [e_1]) (e_2)) (cwV 1 hts gX8_feed_X5_append rfl rfl rfl (by decide +kernel) ⟨Nat.le_of_ble_eq_true rfl, Nat.le_of_ble_eq_true rfl⟩) (g_preV hW hK (va_recv hK (hb1 hW (show 1 < 126 by omega) e_1) (q0 := 0) (ci := 5) rfl rfl)) rfl rfl hl.1 rfl (lv_room (Nat.le_of_ble_eq_true rfl)) dX8_feed_31 ⟨Nat.le_of_ble_eq_true rfl, Nat.le_of_ble_eq_true rfl⟩) hS (fun q _ h => h) (fun q h => h) (fun c2 t9 H1 locs ht9 hvm9 hw9 hB9 hz9 hk9 hS => ?_)
    rw [ht9] at hB9
    have hW := hB9
    clear hB9 hz9 hk9 hvm9 ht9
    generalize H1 = H at hW hS ⊢
    have hW : hbP g ad c2 H := hW
    try dsimp only at hw9
    obtain ⟨m0, m1, hx9⟩ := hw9
    have hex : ∀ j : Nat, ¬ j = 1 → ¬ j = 2 → c2 j = ce j := fun j q0 q1 => (hx9 j q0 q1).trans (hex j q0 q1)
    have e_0 : c2 (0) = .inr (8, [.ref ((ad 1)), .ref ((ad 3)), .ref ((ad 5)), .ref ((ad 6)), .ref ((ad rb)), .ref ((ad db)), .int (td)]) := (hx9 _ (by omega) (by omega)).trans e_0
    have e_1 : c2 (1) = .inr (5, [.ref ((ad 2)), .int (zI ((((t + 4) + 4 : Nat) : Int)))]) := m0
    have e_2 : c2 (2) = .inl (g.2 1, 740, .inl (layC (layC (by0) (t) x1 4) (t + 4) x2 4)) := m1
    refine lv_aload_n hx hb dX8_feed_34 rfl (lv_at hl 0 rfl) ?_
    refine va_get (D := g.1) (ci := 8) (v := .ref ((ad 1))) (C := RX8) (T := TX8) (N := 7) hx hb hts hinX8 hown hK (hb1 hW (show 0 < 126 by omega) e_0) 0 rfl rfl 0 (by decide) k12 (fun _ h9 => h9) rfl dX8_feed_35 ?_
    refine lv_iload_n hx hb dX8_feed_38 rfl (lv_at hl 3 rfl) ?_
    refine va_callv (va_runV (As := [.int (x3)]) (rest := []) ⟨hx, hb, hml, hown, hts⟩ (c_X5_append l g (ad) (hd9) (c2) (x3) ((t + 4 + 4)) (by omega) ((layC (layC (by0) (t) x1 4) (t + 4) x2 4)) (by rw [e_1]) (e_2)) (cwV 1 hts gX8_feed_X5_append rfl rfl rfl (by decide +kernel) ⟨Nat.le_of_ble_eq_true rfl, Nat.le_of_ble_eq_true rfl⟩) (g_preV hW hK (va_recv hK (hb1 hW (show 1 < 126 by omega) e_1) (q0 := 0) (ci := 5) rfl rfl)) rfl rfl hl.1 rfl (lv_room (Nat.le_of_ble_eq_true rfl)) dX8_feed_39 ⟨Nat.le_of_ble_eq_true rfl, Nat.le_of_ble_eq_true rfl⟩) hS (fun q _ h => h) (fun q h => h) (fun c3 t9 H1 locs ht9 hvm9 hw9 hB9 hz9 hk9 hS => ?_)
    rw [ht9] at hB9
    have hW := hB9
    clear hB9 hz9 hk9 hvm9 ht9
    generalize H1 = H at hW hS ⊢
    have hW : hbP g ad c3 H := hW
    try dsimp only at hw9
    obtain ⟨m0, m1, hx9⟩ := hw9
    have hex : ∀ j : Nat, ¬ j = 1 → ¬ j = 2 → c3 j = ce j := fun j q0 q1 => (hx9 j q0 q1).trans (hex j q0 q1)
    have e_0 : c3 (0) = .inr (8, [.ref ((ad 1)), .ref ((ad 3)), .ref ((ad 5)), .ref ((ad 6)), .ref ((ad rb)), .ref ((ad db)), .int (td)]) := (hx9 _ (by omega) (by omega)).trans e_0
    have e_1 : c3 (1) = .inr (5, [.ref ((ad 2)), .int (zI ((((t + 4 + 4) + 4 : Nat) : Int)))]) := m0
    have e_2 : c3 (2) = .inl (g.2 1, 740, .inl (layC (layC (layC (by0) (t) x1 4) (t + 4) x2 4) (t + 4 + 4) x3 4)) := m1
    refine lv_aload_n hx hb dX8_feed_42 rfl (lv_at hl 0 rfl) ?_
    refine va_get (D := g.1) (ci := 8) (v := .ref ((ad 1))) (C := RX8) (T := TX8) (N := 7) hx hb hts hinX8 hown hK (hb1 hW (show 0 < 126 by omega) e_0) 0 rfl rfl 0 (by decide) k12 (fun _ h9 => h9) rfl dX8_feed_43 ?_
    refine lv_iload hx hb dX8_feed_46 (lv_at hl 4 rfl) ?_
    refine va_callv (va_runV (As := [.int (x4)]) (rest := []) ⟨hx, hb, hml, hown, hts⟩ (c_X5_append l g (ad) (hd9) (c3) (x4) ((t + 4 + 4 + 4)) (by omega) ((layC (layC (layC (by0) (t) x1 4) (t + 4) x2 4) (t + 4 + 4) x3 4)) (by rw [e_1]) (e_2)) (cwV 1 hts gX8_feed_X5_append rfl rfl rfl (by decide +kernel) ⟨Nat.le_of_ble_eq_true rfl, Nat.le_of_ble_eq_true rfl⟩) (g_preV hW hK (va_recv hK (hb1 hW (show 1 < 126 by omega) e_1) (q0 := 0) (ci := 5) rfl rfl)) rfl rfl hl.1 rfl (lv_room (Nat.le_of_ble_eq_true rfl)) dX8_feed_48 ⟨Nat.le_of_ble_eq_true rfl, Nat.le_of_ble_eq_true rfl⟩) hS (fun q _ h => h) (fun q h => h) (fun c4 t9 H1 locs ht9 hvm9 hw9 hB9 hz9 hk9 hS => ?_)
    rw [ht9] at hB9
    have hW := hB9
    clear hB9 hz9 hk9 hvm9 ht9
    generalize H1 = H at hW hS ⊢
    have hW : hbP g ad c4 H := hW
    try dsimp only at hw9
    obtain ⟨m0, m1, hx9⟩ := hw9
    have hex : ∀ j : Nat, ¬ j = 1 → ¬ j = 2 → c4 j = ce j := fun j q0 q1 => (hx9 j q0 q1).trans (hex j q0 q1)
    have e_0 : c4 (0) = .inr (8, [.ref ((ad 1)), .ref ((ad 3)), .ref ((ad 5)), .ref ((ad 6)), .ref ((ad rb)), .ref ((ad db)), .int (td)]) := (hx9 _ (by omega) (by omega)).trans e_0
    have e_1 : c4 (1) = .inr (5, [.ref ((ad 2)), .int (zI ((((t + 4 + 4 + 4) + 4 : Nat) : Int)))]) := m0
    have e_2 : c4 (2) = .inl (g.2 1, 740, .inl (layC (layC (layC (layC (by0) (t) x1 4) (t + 4) x2 4) (t + 4 + 4) x3 4) (t + 4 + 4 + 4) x4 4)) := m1
    refine lv_aload_n hx hb dX8_feed_51 rfl (lv_at hl 0 rfl) ?_
    refine va_get (D := g.1) (ci := 8) (v := .ref ((ad 1))) (C := RX8) (T := TX8) (N := 7) hx hb hts hinX8 hown hK (hb1 hW (show 0 < 126 by omega) e_0) 0 rfl rfl 0 (by decide) k12 (fun _ h9 => h9) rfl dX8_feed_52 ?_
    refine lv_iload hx hb dX8_feed_55 (lv_at hl 5 rfl) ?_
    refine va_callv (va_runV (As := [.int (x5)]) (rest := []) ⟨hx, hb, hml, hown, hts⟩ (c_X5_append l g (ad) (hd9) (c4) (x5) ((t + 4 + 4 + 4 + 4)) (by omega) ((layC (layC (layC (layC (by0) (t) x1 4) (t + 4) x2 4) (t + 4 + 4) x3 4) (t + 4 + 4 + 4) x4 4)) (by rw [e_1]) (e_2)) (cwV 1 hts gX8_feed_X5_append rfl rfl rfl (by decide +kernel) ⟨Nat.le_of_ble_eq_true rfl, Nat.le_of_ble_eq_true rfl⟩) (g_preV hW hK (va_recv hK (hb1 hW (show 1 < 126 by omega) e_1) (q0 := 0) (ci := 5) rfl rfl)) rfl rfl hl.1 rfl (lv_room (Nat.le_of_ble_eq_true rfl)) dX8_feed_57 ⟨Nat.le_of_ble_eq_true rfl, Nat.le_of_ble_eq_true rfl⟩) hS (fun q _ h => h) (fun q h => h) (fun c5 t9 H1 locs ht9 hvm9 hw9 hB9 hz9 hk9 hS => ?_)
    rw [ht9] at hB9
    have hW := hB9
    clear hB9 hz9 hk9 hvm9 ht9
    generalize H1 = H at hW hS ⊢
    have hW : hbP g ad c5 H := hW
    try dsimp only at hw9
    obtain ⟨m0, m1, hx9⟩ := hw9
    have hex : ∀ j : Nat, ¬ j = 1 → ¬ j = 2 → c5 j = ce j := fun j q0 q1 => (hx9 j q0 q1).trans (hex j q0 q1)
    have e_0 : c5 (0) = .inr (8, [.ref ((ad 1)), .ref ((ad 3)), .ref ((ad 5)), .ref ((ad 6)), .ref ((ad rb)), .ref ((ad db)), .int (td)]) := (hx9 _ (by omega) (by omega)).trans e_0
    have e_1 : c5 (1) = .inr (5, [.ref ((ad 2)), .int (zI ((((t + 4 + 4 + 4 + 4) + 4 : Nat) : Int)))]) := m0
    have e_2 : c5 (2) = .inl (g.2 1, 740, .inl (layC (layC (layC (layC (layC (by0) (t) x1 4) (t + 4) x2 4) (t + 4 + 4) x3 4) (t + 4 + 4 + 4) x4 4) (t + 4 + 4 + 4 + 4) x5 4)) := m1
    refine lv_aload_n hx hb dX8_feed_60 rfl (lv_at hl 0 rfl) ?_
    refine va_get (D := g.1) (ci := 8) (v := .ref ((ad 1))) (C := RX8) (T := TX8) (N := 7) hx hb hts hinX8 hown hK (hb1 hW (show 0 < 126 by omega) e_0) 0 rfl rfl 0 (by decide) k12 (fun _ h9 => h9) rfl dX8_feed_61 ?_
    refine va_get (D := g.1) (ci := 5) (v := .int (zI ((((t + 4 + 4 + 4 + 4) + 4 : Nat) : Int)))) (C := RX5) (T := TX5) (N := 2) hx hb hts hinX5 hown hK (hb1 hW (show 1 < 126 by omega) e_1) 0 rfl rfl 1 (by decide) k55 (fun _ h9 => h9) rfl dX8_feed_64 ?_
    exact W.iret hx hb hr (fun tX htX hWX => ⟨⟨_, c5, rfl, ⟨congrArg zI (by unfold feedR; rw [if_neg (by omega)]; omega), (by rw [feedZ, if_neg (by omega), show t + 20 = t + 4 + 4 + 4 + 4 + 4 by omega]; exact e_1), (by rw [feedC, if_neg (by omega)]; exact e_2), (fun j q0 q1 => hex j q0 q1)⟩, g_at htX hW⟩, hS.F htX⟩) hS.2.2 dX8_feed_67
  · refine lv_iconst (v := zI (-1)) hx hb dX8_feed_16 (by decide) ?_
    exact W.iret hx hb hr (fun tX htX hWX => ⟨⟨_, ce, rfl, ⟨congrArg zI (by unfold feedR; rw [if_pos (by omega)]), (by rw [feedZ, if_pos (by omega)]; exact e_1), (by rw [feedC, if_pos (by omega)]; exact e_2), (fun j q0 q1 => hex j )⟩, g_at htX hW⟩, hS.F htX⟩) hS.2.2 dX8_feed_17

set_option maxHeartbeats 4000000 in
set_option maxRecDepth 100000 in
theorem c_X8_end (l : Launch) (g : GG) (ad : Nat → Nat) (hd9 : hD ad) (ce : Nat → va_E) (rb db : Nat) (td : Int32) (v : Int) (hv : R32 v) (t : Nat) (ht7 : t ≤ 740) (by0 : Nat → Int32) (e_0 : ce (0) = .inr (8, [.ref ((ad 1)), .ref ((ad 3)), .ref ((ad 5)), .ref ((ad 6)), .ref ((ad rb)), .ref ((ad db)), .int (td)])) (e_1 : ce (1) = .inr (5, [.ref ((ad 2)), .int (zI (t))])) (e_2 : ce (2) = .inl (g.2 1, 740, .inl (by0))) : Met l yX8_end wsX8_end ({ frames := 0, cells := 0, slots := 0, locals := 0 }) (gPc g [.ref ((ad 0)), .int (zI (v))] (hbP g ad ce)) (va_Qi (fun (r : Int32) (c1 : Nat → va_E) => r = zI (bz (0 ≤ v ∧ v ≤ t)) ∧ c1 (1) = .inr (5, [.ref ((ad 2)), .int (zI (endZ t v))]) ∧ ∀ j : Nat, ¬ j = 1 → c1 j = ce j) (fun c1 (tS : State) => hbP g ad c1 tS.heap) (hbA ad)) 0 0 (hbA ad) := by
  refine Met.ofW (cc := cX8_end) (maxL := 2) (ret := (some .boolean)) (by decide) rfl ?_
  intro p e s m args below meth c s₁ B hml hv
  obtain ⟨rfl, hW, hK⟩ := hv
  have hx := B.exec
  have hb := B.bytes
  have hr := B.returns
  have hts := atoms_spec (ws := wsX8_end) B.pre
  have hown : s.vm.findClass RX8 = some m.cls := findClass_of_methodNamed B.named
  have hlocks := B.notSynchronized
  have hinX5 : ∀ w ∈ wsX50, w ∈ wsX8_end := by decide +kernel
  have hinX8 : ∀ w ∈ wsX80, w ∈ wsX8_end := by decide +kernel
  have k12 := hts (.fieldLink RX8 12 "HoursBank" "tape" "LHoursBank$Tape;") (by decide +kernel)
  have k55 := hts (.fieldLink RX8 55 "HoursBank$Tape" "size" "I") (by decide +kernel)
  have hl := lv_entry ([.ref ((ad 0)), .int (zI (v))]) (n := 2) (Nat.le_of_ble_eq_true rfl)
  rw [lg_entry_eq]
  generalize (lg_sl ([.ref ((ad 0)), .int (zI (v))]) ++ List.replicate (2 - (lg_sl ([.ref ((ad 0)), .int (zI (v))])).length) Slot.unset).toArray = ls at hl ⊢
  have hl : lv_has ls 2 [(0, .ref ((ad 0))), (1, .int (zI (v)))] := hl
  have hS : va_S (hbA ad) s.heap s.heap [] := va_S.rf
  obtain ⟨H, hH9⟩ : ∃ H, H = s.heap := ⟨_, rfl⟩
  obtain ⟨locs, hL9⟩ : ∃ x9l : List Loc, x9l = [] := ⟨_, rfl⟩
  have hW : hbP g ad ce H := hH9 ▸ hW
  have hS : va_S (hbA ad) s.heap H locs := by rw [hH9, hL9]; exact hS
  refine z_start hH9 hL9 ?_
  clear hH9 hL9
  have hex : ∀ j : Nat, ce j = ce j := fun _ => rfl
  refine lv_iload_n hx hb dX8_end_0 rfl (lv_at hl 1 rfl) ?_
  refine z_if_lt (tgt := 15) hx hb dX8_end_1 (by decide) (by omega) (fun h1 => ?_) (fun h1 => ?_)
  · refine lv_iconst (v := zI (0)) hx hb dX8_end_15 (by decide) ?_
    exact W.zret hx hb hr (by decide) (fun tX htX hWX => ⟨⟨_, ce, rfl, ⟨bz_0 (by omega), (by rw [endZ, if_neg (by omega)]; exact e_1), (fun j q0 => hex j )⟩, g_at htX hW⟩, hS.F htX⟩) hS.2.2 dX8_end_16
  · refine lv_iload_n hx hb dX8_end_4 rfl (lv_at hl 1 rfl) ?_
    refine lv_aload_n hx hb dX8_end_5 rfl (lv_at hl 0 rfl) ?_
    refine va_get (D := g.1) (ci := 8) (v := .ref ((ad 1))) (C := RX8) (T := TX8) (N := 7) hx hb hts hinX8 hown hK (hb1 hW (show 0 < 126 by omega) e_0) 0 rfl rfl 0 (by decide) k12 (fun _ h9 => h9) rfl dX8_end_6 ?_
    refine va_get (D := g.1) (ci := 5) (v := .int (zI (t))) (C := RX5) (T := TX5) (N := 2) hx hb hts hinX5 hown hK (hb1 hW (show 1 < 126 by omega) e_1) 0 rfl rfl 1 (by decide) k55 (fun _ h9 => h9) rfl dX8_end_9 ?_
    refine z_icmp_le (tgt := 17) hx hb dX8_end_12 (by decide) (by omega) (by omega) (fun h12 => ?_) (fun h12 => ?_)
    · refine lv_aload_n hx hb dX8_end_17 rfl (lv_at hl 0 rfl) ?_
      refine va_get (D := g.1) (ci := 8) (v := .ref ((ad 1))) (C := RX8) (T := TX8) (N := 7) hx hb hts hinX8 hown hK (hb1 hW (show 0 < 126 by omega) e_0) 0 rfl rfl 0 (by decide) k12 (fun _ h9 => h9) rfl dX8_end_18 ?_
      refine lv_iload_n hx hb dX8_end_21 rfl (lv_at hl 1 rfl) ?_
      refine y_put (ci := 5) (v := .int (zI (v))) (ty := .int) (C := RX5) (T := TX5) (N := 2) hx hb hts hinX5 tyX5 tyX5_ok nmX5 hown hK hW hd9 hS (1) (show 1 < 126 by omega) e_1 rfl 1 (by decide) k55 (fun _ h9 => h9) rfl (by decide +kernel) rfl rfl (Nat.le_of_ble_eq_true rfl) dX8_end_22 (fun H locs hW hS => ?_)
      obtain ⟨c1, hc1⟩ : ∃ x9c : Nat → va_E, x9c = va_up ce (1) (.inr (5, [.ref ((ad 2)), .int (zI (v))])) := ⟨_, rfl⟩
      have hW : hbP g ad c1 H := by rw [hc1]; exact hW
      have hex : ∀ j : Nat, ¬ j = 1 → c1 j = ce j := fun j q0 => ((congrFun hc1 j).trans (up_ne _ _ q0)).trans (hex j )
      have e_0 : c1 (0) = .inr (8, [.ref ((ad 1)), .ref ((ad 3)), .ref ((ad 5)), .ref ((ad 6)), .ref ((ad rb)), .ref ((ad db)), .int (td)]) := ((congrFun hc1 _).trans (up_ne _ _ (by omega))).trans e_0
      have e_2 : c1 (2) = .inl (g.2 1, 740, .inl (by0)) := ((congrFun hc1 _).trans (up_ne _ _ (by omega))).trans e_2
      have e_1 : c1 (1) = .inr (5, [.ref ((ad 2)), .int (zI (v))]) := (congrFun hc1 _).trans (up_at _ _ _)
      refine lv_iconst (v := zI (1)) hx hb dX8_end_25 (by decide) ?_
      exact W.zret hx hb hr (by decide) (fun tX htX hWX => ⟨⟨_, c1, rfl, ⟨bz_1 (by omega), (by rw [endZ, if_pos (by omega)]; exact e_1), (fun j q0 => hex j q0)⟩, g_at htX hW⟩, hS.F htX⟩) hS.2.2 dX8_end_26
    · refine lv_iconst (v := zI (0)) hx hb dX8_end_15 (by decide) ?_
      exact W.zret hx hb hr (by decide) (fun tX htX hWX => ⟨⟨_, ce, rfl, ⟨bz_0 (by omega), (by rw [endZ, if_neg (by omega)]; exact e_1), (fun j q0 => hex j )⟩, g_at htX hW⟩, hS.F htX⟩) hS.2.2 dX8_end_16
