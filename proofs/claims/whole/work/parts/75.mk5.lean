set_option maxHeartbeats 4000000 in
set_option maxRecDepth 100000 in
theorem c_X8_init_N (l : Launch) (g : GG) (n : Nat) (ad : Nat → Nat) (ce : Nat → va_E) (sz : Nat) (x : Nat) (hx0 : x < n) (h0 : Nat) (ha0 : ad x = h0) (e_x : ce (x) = .inr (8, [.null, .null, .null, .null, .null, .null, .int (zI (0))])) : Met l yX8_init wsX8_init ({ frames := 4, cells := 125, slots := 5830, locals := 78 }) (nPc g n ad ce sz [.ref h0]) (va_Qv (fun (u : (Nat → Nat) × (Nat → va_E)) => nQ n 125 ad sz u.1 ∧ (∀ i, i < n → ¬ i = x → u.2 i = ce i) ∧ u.2 (x) = .inr (8, [.ref ((u.1 (n))), .ref ((u.1 (n + 2))), .ref ((u.1 (n + 42))), .ref ((u.1 (n + 63))), .ref ((u.1 (n + 4))), .ref ((u.1 (n + 23))), .int (zI (0))]) ∧ u.2 (n) = .inr (5, [.ref ((u.1 (n + 1))), .int (zI (0))]) ∧ u.2 (n + 1) = .inl (g.2 1, 740, .inl (fun _ => zI 0)) ∧ u.2 (n + 2) = .inr (6, [.ref ((u.1 (n))), .ref ((u.1 (n + 3))), .int (zI (0)), .int (zI (0))]) ∧ u.2 (n + 3) = .inr (7, [.ref ((u.1 (n))), .int (zI (0)), .int (zI (0)), .int (zI (0)), .int (zI (0))]) ∧ ruC g u.1 u.2 (n + 4) ∧ ruC g u.1 u.2 (n + 23) ∧ (∃ h : Nat → Option Nat, u.2 (n + 42) = .inl (g.2 4, 4, .inr (.inr (.inr (.inr h)))) ∧ ∀ j, j < 4 → h j = some (u.1 (n + 43 + 5 * j))) ∧ (∀ w, w < 4 → shC g u.1 u.2 (n + 43 + 5 * w) (u.1 (n + 4))) ∧ u.2 (n + 63) = .inr (1, [.ref (u.1 (n + 64)), .int (zI (0)), .int (zI (0))]) ∧ (∃ h : Nat → Option Nat, u.2 (n + 64) = .inl (g.2 5, 10, .inr (.inr (.inr (.inr h)))) ∧ ∀ j, j < 10 → h j = some (u.1 (n + 65 + 6 * j))) ∧ ∀ j, j < 10 → stC g u.1 u.2 (n + 65 + 6 * j)) (fun u (tS : State) => nP g (n + 125) u.1 u.2 tS.heap) (nA n ad sz)) 125 5830 (nA n ad sz) := by
  refine Met.ofW (cc := cX8_init) (maxL := 2) (ret := none) (by decide) rfl ?_
  intro p e s m args below meth c s₁ B hml hv
  obtain ⟨rfl, hsz, hP, hD0, hK, hN⟩ := hv
  have hx := B.exec
  have hb := B.bytes
  have hr := B.returns
  have hts := atoms_spec (ws := wsX8_init) B.pre
  have hown : s.vm.findClass RX8 = some m.cls := findClass_of_methodNamed B.named
  have hlocks := B.notSynchronized
  have hin9 := (name_of_methodNamed B.named B.method).1
  have hinX1 : ∀ w ∈ wsX10, w ∈ wsX8_init := by decide +kernel
  have hinX2 : ∀ w ∈ wsX20, w ∈ wsX8_init := by decide +kernel
  have hinX3 : ∀ w ∈ wsX30, w ∈ wsX8_init := by decide +kernel
  have hinX5 : ∀ w ∈ wsX50, w ∈ wsX8_init := by decide +kernel
  have hinX6 : ∀ w ∈ wsX60, w ∈ wsX8_init := by decide +kernel
  have hinX8 : ∀ w ∈ wsX80, w ∈ wsX8_init := by decide +kernel
  have kOI := hts (.methodLink RX8 3 objectInit) (by decide +kernel)
  have kOJ := hts (.instanceMethod objectInit) (by decide +kernel)
  have kOK := hts (.code objectInit ⟨#[0xb1]⟩ 1 none) (by decide +kernel)
  have kN9 := hts (.classLink RX8 9 RX5) (by decide +kernel)
  have kIX5 := hts (.instantiable RX5 2) (by decide +kernel)
  have kJX5 := hts (.initialized RX5) (by decide +kernel)
  have kIm_X5_init := hts (.instanceMethod yX5_init) (by decide +kernel)
  have k12 := hts (.fieldLink RX8 12 "HoursBank" "tape" "LHoursBank$Tape;") (by decide +kernel)
  have kN16 := hts (.classLink RX8 16 RX6) (by decide +kernel)
  have kIX6 := hts (.instantiable RX6 4) (by decide +kernel)
  have kJX6 := hts (.initialized RX6) (by decide +kernel)
  have kIm_X6_init := hts (.instanceMethod yX6_init) (by decide +kernel)
  have kMl18 := hts (.methodLink RX8 18 yX6_init) (by decide +kernel)
  have k21 := hts (.fieldLink RX8 21 "HoursBank" "reader" "LHoursBank$TextReader;") (by decide +kernel)
  have kN25 := hts (.classLink RX8 25 RX2) (by decide +kernel)
  have kIX2 := hts (.instantiable RX2 5) (by decide +kernel)
  have kJX2 := hts (.initialized RX2) (by decide +kernel)
  have kIm_X2_init := hts (.instanceMethod yX2_init) (by decide +kernel)
  have kMl27 := hts (.methodLink RX8 27 yX2_init) (by decide +kernel)
  have k28 := hts (.fieldLink RX8 28 "HoursBank" "rules" "LHoursBank$Rules;") (by decide +kernel)
  have k32 := hts (.fieldLink RX8 32 "HoursBank" "draft" "LHoursBank$Rules;") (by decide +kernel)
  have kN35 := hts (.classLink RX8 35 RX3) (by decide +kernel)
  have k37 := hts (.fieldLink RX8 37 "HoursBank" "sheets" "[LHoursBank$Sheet;") (by decide +kernel)
  have kIX3 := hts (.instantiable RX3 7) (by decide +kernel)
  have kJX3 := hts (.initialized RX3) (by decide +kernel)
  have kIm_X3_init := hts (.instanceMethod yX3_init) (by decide +kernel)
  have kMl41 := hts (.methodLink RX8 41 yX3_init) (by decide +kernel)
  have kN44 := hts (.classLink RX8 44 RX1) (by decide +kernel)
  have kIX1 := hts (.instantiable RX1 3) (by decide +kernel)
  have kJX1 := hts (.initialized RX1) (by decide +kernel)
  have kIm_X1_init := hts (.instanceMethod yX1_init) (by decide +kernel)
  have kMl46 := hts (.methodLink RX8 46 yX1_init) (by decide +kernel)
  have k47 := hts (.fieldLink RX8 47 "HoursBank" "history" "LHoursBank$History;") (by decide +kernel)
  have k51 := hts (.fieldLink RX8 51 "HoursBank" "today" "I") (by decide +kernel)
  subst hsz
  obtain ⟨A, hAe⟩ : ∃ A, A = nA n ad s.heap.size := ⟨_, rfl⟩
  rw [← hAe]
  have hA : ∀ q : Nat, s.heap.size ≤ q → A q := fun q h => by rw [hAe]; exact Or.inr h
  have hD : va_D A (nL n ad ce) := nDa hD0 (fun i hi => by rw [hAe]; exact Or.inl ⟨i, hi, rfl⟩)
  have hl := lv_entry ([.ref h0]) (n := 2) (Nat.le_of_ble_eq_true rfl)
  rw [lg_entry_eq]
  generalize (lg_sl ([.ref h0]) ++ List.replicate (2 - (lg_sl ([.ref h0])).length) Slot.unset).toArray = ls at hl ⊢
  have hl : lv_has ls 2 [(0, .ref h0)] := hl
  have hS : va_S A s.heap s.heap [] := va_S.rf
  obtain ⟨H, hH9⟩ : ∃ H, H = s.heap := ⟨_, rfl⟩
  obtain ⟨locs, hL9⟩ : ∃ x9l : List Loc, x9l = [] := ⟨_, rfl⟩
  have hP : nP g n ad ce H := hH9 ▸ hP
  have hS : va_S A s.heap H locs := by rw [hH9, hL9]; exact hS
  refine z_start hH9 hL9 ?_
  clear hH9 hL9
  have hexa : ∀ j : Nat, j < n → ad j = ad j := fun _ _ => rfl
  have hexc : ∀ j : Nat, j < n → ce j = ce j := fun _ _ => rfl
  have a_x : ad (x) = h0 := ha0
  refine lv_aload_n hx hb dX8_init_0 rfl (lv_at hl 0 rfl) ?_
  refine W.objInit hx hb hown kOI kOJ kOK rfl (by rw [hml]; exact hl.1) rfl dX8_init_1 (Nat.le_of_ble_eq_true rfl) (Nat.le_of_ble_eq_true rfl) ?_
  refine W.eq (g2 := F0 m 4 ls []) rfl ?_
  refine lv_aload_n hx hb dX8_init_4 rfl (lv_at hl 0 rfl) ?_
  refine n_new (ci := 5) (fs := [.null, .int (zI (0))]) (C := RX5) (T := TX5) (N := 2) hx hb hts hinX5 tyX5 tyX5_ok hown kN9 kIX5 kJX5 hK hP hD hS hA rfl (fun j hj => by rcases (show j = 0 ∨ j = 1 by omega) with rfl | rfl <;> rfl) (Nat.le_of_ble_eq_true rfl) (Nat.le_of_ble_eq_true rfl) dX8_init_5 (fun q101 H hP hD hS => ?_)
  obtain ⟨a2, ha2⟩ : ∃ x9 : Nat → Nat, x9 = va_up ad (n) q101 := ⟨_, rfl⟩
  obtain ⟨c2, hc2⟩ : ∃ x9 : Nat → va_E, x9 = va_up ce (n) (.inr (5, [.null, .int (zI (0))])) := ⟨_, rfl⟩
  have hP : nP g (n + 1) a2 c2 H := by rw [ha2, hc2]; exact hP
  have hD : va_D A (nL (n + 1) a2 c2) := by rw [ha2, hc2]; exact hD
  replace hexa : ∀ j : Nat, j < n → a2 j = ad j := fun j hj9 => ((congrFun ha2 j).trans (up_ne _ _ (by omega))).trans (hexa j hj9)
  replace hexc : ∀ j : Nat, j < n → c2 j = ce j := fun j hj9  => ((congrFun hc2 j).trans (up_ne _ _ (by omega))).trans (hexc j hj9 )
  replace a_x : a2 (x) = h0 := ((congrFun ha2 _).trans (up_ne _ _ (by omega))).trans a_x
  replace e_x : c2 (x) = .inr (8, [.null, .null, .null, .null, .null, .null, .int (zI (0))]) := ((congrFun hc2 _).trans (up_ne _ _ (by omega))).trans e_x
  have a_n : a2 (n) = q101 := (congrFun ha2 _).trans (up_at _ _ _)
  have e_n : c2 (n) = .inr (5, [.null, .int (zI (0))]) := (congrFun hc2 _).trans (up_at _ _ _)
  clear ha2 hc2
  refine lv_dup hx hb dX8_init_8 rfl ?_
  have hF9 := n_free hD hS hA
  have hS9 := hS
  refine va_callv (va_runIN (As := []) (rest := [.ref q101, .ref h0]) ⟨hx, hb, hml, hown, hts⟩ (c_X5_init_N l g (n + 1) (a2) (c2) (H.size) (n) (by omega) (q101) (a_n) (e_n)) ⟨va_cnB 0 hts gX8_init_X5_init_n11 rfl rfl rfl hN.1 kJX5 (by decide +kernel) ⟨Nat.le_of_ble_eq_true rfl, Nat.le_of_ble_eq_true rfl⟩, rfl, kIm_X5_init⟩ (n_preS hP hD hK hN) rfl rfl hl.1 rfl (lv_room (Nat.le_of_ble_eq_true rfl)) dX8_init_9 ⟨Nat.le_of_ble_eq_true rfl, Nat.le_of_ble_eq_true rfl⟩) hS (fun q _ h => hF9 q h) hF9 (fun u9 t9 H1 locs ht9 hvm9 hw9 hB9 hz9 hk9 hS => ?_)
  obtain ⟨a3, c3⟩ := u9
  rw [ht9] at hB9
  clear hz9 hk9 hvm9 ht9 hF9
  try dsimp only at hw9 hB9
  obtain ⟨hq9, hu9, hp9_0, hp9_1⟩ := hw9
  have hD : va_D A (nL (n + 2) a3 c3) := n_joinD (n := n + 1) (m := 1) hD hS9 hA hq9
  clear hS9
  have hP : nP g (n + 2) a3 c3 H1 := hB9
  clear hB9
  generalize H1 = H at hP hS ⊢
  replace hexa : ∀ j : Nat, j < n → a3 j = ad j := fun j hj9 => (hq9.1 j (by omega)).trans (hexa j hj9)
  replace hexc : ∀ j : Nat, j < n → c3 j = ce j := fun j hj9  => (hu9 j (by omega) (by omega)).trans (hexc j hj9 )
  replace a_x : a3 (x) = h0 := (hq9.1 _ (by omega)).trans a_x
  replace e_x : c3 (x) = .inr (8, [.null, .null, .null, .null, .null, .null, .int (zI (0))]) := (hu9 _ (by omega) (by omega)).trans e_x
  replace a_n : a3 (n) = q101 := (hq9.1 _ (by omega)).trans a_n
  have e_n : c3 (n) = .inr (5, [.ref ((a3 ((n + 1)))), .int (zI (0))]) := hp9_0
  have a_n_1 : a3 (n + 1) = a3 (n + 1) := rfl
  have e_n_1 : c3 (n + 1) = .inl (g.2 1, 740, .inl (fun _ => zI 0)) := hp9_1
  clear hq9 hu9 hp9_0 hp9_1
  refine n_putF (ci := 8) (v := .ref q101) (ty := .object "HoursBank$Tape") (C := RX8) (T := TX8) (N := 7) hx hb hts hinX8 tyX8 tyX8_ok nmX8 hown hK hP hD hS (x) (show x < n + 2 by omega) a_x e_x rfl 0 (by decide) k12 (fun _ h9 => h9) rfl hin9 rfl (by decide +kernel) rfl rfl (Nat.le_of_ble_eq_true rfl) dX8_init_12 (fun H locs hP hD hS => ?_)
  obtain ⟨c4, hc4⟩ : ∃ x9 : Nat → va_E, x9 = va_up c3 (x) (.inr (8, [.ref q101, .null, .null, .null, .null, .null, .int (zI (0))])) := ⟨_, rfl⟩
  have hP : nP g (n + 2) a3 c4 H := by rw [hc4]; exact hP
  have hD : va_D A (nL (n + 2) a3 c4) := by rw [hc4]; exact hD
  replace hexc : ∀ j : Nat, j < n → ¬ j = x → c4 j = ce j := fun j hj9 q0 => ((congrFun hc4 j).trans (up_ne _ _ q0)).trans (hexc j hj9 )
  replace e_x : c4 (x) = .inr (8, [.ref q101, .null, .null, .null, .null, .null, .int (zI (0))]) := (congrFun hc4 _).trans (up_at _ _ _)
  replace e_n : c4 (n) = .inr (5, [.ref ((a3 ((n + 1)))), .int (zI (0))]) := ((congrFun hc4 _).trans (up_ne _ _ (by omega))).trans e_n
  replace e_n_1 : c4 (n + 1) = .inl (g.2 1, 740, .inl (fun _ => zI 0)) := ((congrFun hc4 _).trans (up_ne _ _ (by omega))).trans e_n_1
  clear hc4
  refine lv_aload_n hx hb dX8_init_15 rfl (lv_at hl 0 rfl) ?_
  refine n_new (ci := 6) (fs := [.null, .null, .int (zI (0)), .int (zI (0))]) (C := RX6) (T := TX6) (N := 4) hx hb hts hinX6 tyX6 tyX6_ok hown kN16 kIX6 kJX6 hK hP hD hS hA rfl (fun j hj => by rcases (show j = 0 ∨ j = 1 ∨ j = 2 ∨ j = 3 by omega) with rfl | rfl | rfl | rfl <;> rfl) (Nat.le_of_ble_eq_true rfl) (Nat.le_of_ble_eq_true rfl) dX8_init_16 (fun q105 H hP hD hS => ?_)
  obtain ⟨a6, ha6⟩ : ∃ x9 : Nat → Nat, x9 = va_up a3 (n + 2) q105 := ⟨_, rfl⟩
  obtain ⟨c6, hc6⟩ : ∃ x9 : Nat → va_E, x9 = va_up c4 (n + 2) (.inr (6, [.null, .null, .int (zI (0)), .int (zI (0))])) := ⟨_, rfl⟩
  have hP : nP g (n + 3) a6 c6 H := by rw [ha6, hc6]; exact hP
  have hD : va_D A (nL (n + 3) a6 c6) := by rw [ha6, hc6]; exact hD
  replace hexa : ∀ j : Nat, j < n → a6 j = ad j := fun j hj9 => ((congrFun ha6 j).trans (up_ne _ _ (by omega))).trans (hexa j hj9)
  replace hexc : ∀ j : Nat, j < n → ¬ j = x → c6 j = ce j := fun j hj9 q0 => ((congrFun hc6 j).trans (up_ne _ _ (by omega))).trans (hexc j hj9 q0)
  replace a_x : a6 (x) = h0 := ((congrFun ha6 _).trans (up_ne _ _ (by omega))).trans a_x
  replace e_x : c6 (x) = .inr (8, [.ref q101, .null, .null, .null, .null, .null, .int (zI (0))]) := ((congrFun hc6 _).trans (up_ne _ _ (by omega))).trans e_x
  replace a_n : a6 (n) = q101 := ((congrFun ha6 _).trans (up_ne _ _ (by omega))).trans a_n
  replace e_n : c6 (n) = .inr (5, [.ref ((a3 ((n + 1)))), .int (zI (0))]) := ((congrFun hc6 _).trans (up_ne _ _ (by omega))).trans e_n
  replace a_n_1 : a6 (n + 1) = (a3 (n + 1)) := ((congrFun ha6 _).trans (up_ne _ _ (by omega))).trans a_n_1
  replace e_n_1 : c6 (n + 1) = .inl (g.2 1, 740, .inl (fun _ => zI 0)) := ((congrFun hc6 _).trans (up_ne _ _ (by omega))).trans e_n_1
  have a_n_2 : a6 (n + 2) = q105 := (congrFun ha6 _).trans (up_at _ _ _)
  have e_n_2 : c6 (n + 2) = .inr (6, [.null, .null, .int (zI (0)), .int (zI (0))]) := (congrFun hc6 _).trans (up_at _ _ _)
  clear ha6 hc6
  refine lv_dup hx hb dX8_init_19 rfl ?_
  refine lv_aload_n hx hb dX8_init_20 rfl (lv_at hl 0 rfl) ?_
  refine va_get (D := g.1) (ci := 8) (v := .ref q101) (C := RX8) (T := TX8) (N := 7) hx hb hts hinX8 hown hK (nb1 hP (show x < n + 3 by omega) a_x e_x) 0 rfl rfl 0 (by decide) k12 (fun _ h9 => h9) rfl dX8_init_21 ?_
  have hF9 := n_free hD hS hA
  have hS9 := hS
  refine va_callv (va_runI (As := [.ref q101]) (rest := [.ref q105, .ref h0]) ⟨hx, hb, hml, hown, hts⟩ (c_X6_init_N l g (n + 3) (a6) (c6) (H.size) (n + 2) (by omega) (q105) (a_n_2) (q101) (e_n_2)) (cwI 1 hts gX8_init_X6_init rfl rfl rfl kJX6 kMl18 kIm_X6_init rfl (by decide +kernel) ⟨Nat.le_of_ble_eq_true rfl, Nat.le_of_ble_eq_true rfl⟩) (n_preS hP hD hK hN) rfl rfl hl.1 rfl (lv_room (Nat.le_of_ble_eq_true rfl)) dX8_init_24 ⟨Nat.le_of_ble_eq_true rfl, Nat.le_of_ble_eq_true rfl⟩) hS (fun q _ h => hF9 q h) hF9 (fun u9 t9 H1 locs ht9 hvm9 hw9 hB9 hz9 hk9 hS => ?_)
  obtain ⟨a7, c7⟩ := u9
  rw [ht9] at hB9
  clear hz9 hk9 hvm9 ht9 hF9
  try dsimp only at hw9 hB9
  obtain ⟨hq9, hu9, hp9_0, hp9_1⟩ := hw9
  have hD : va_D A (nL (n + 4) a7 c7) := n_joinD (n := n + 3) (m := 1) hD hS9 hA hq9
  clear hS9
  have hP : nP g (n + 4) a7 c7 H1 := hB9
  clear hB9
  generalize H1 = H at hP hS ⊢
  replace hexa : ∀ j : Nat, j < n → a7 j = ad j := fun j hj9 => (hq9.1 j (by omega)).trans (hexa j hj9)
  replace hexc : ∀ j : Nat, j < n → ¬ j = x → c7 j = ce j := fun j hj9 q0 => (hu9 j (by omega) (by omega)).trans (hexc j hj9 q0)
  replace a_x : a7 (x) = h0 := (hq9.1 _ (by omega)).trans a_x
  replace e_x : c7 (x) = .inr (8, [.ref q101, .null, .null, .null, .null, .null, .int (zI (0))]) := (hu9 _ (by omega) (by omega)).trans e_x
  replace a_n : a7 (n) = q101 := (hq9.1 _ (by omega)).trans a_n
  replace e_n : c7 (n) = .inr (5, [.ref ((a3 ((n + 1)))), .int (zI (0))]) := (hu9 _ (by omega) (by omega)).trans e_n
  replace a_n_1 : a7 (n + 1) = (a3 (n + 1)) := (hq9.1 _ (by omega)).trans a_n_1
  replace e_n_1 : c7 (n + 1) = .inl (g.2 1, 740, .inl (fun _ => zI 0)) := (hu9 _ (by omega) (by omega)).trans e_n_1
  replace a_n_2 : a7 (n + 2) = q105 := (hq9.1 _ (by omega)).trans a_n_2
  have e_n_2 : c7 (n + 2) = .inr (6, [.ref q101, .ref ((a7 ((n + 3)))), .int (zI (0)), .int (zI (0))]) := hp9_0
  have a_n_3 : a7 (n + 3) = a7 (n + 3) := rfl
  have e_n_3 : c7 (n + 3) = .inr (7, [.ref q101, .int (zI (0)), .int (zI (0)), .int (zI (0)), .int (zI (0))]) := hp9_1
  clear hq9 hu9 hp9_0 hp9_1
  refine n_putF (ci := 8) (v := .ref q105) (ty := .object "HoursBank$TextReader") (C := RX8) (T := TX8) (N := 7) hx hb hts hinX8 tyX8 tyX8_ok nmX8 hown hK hP hD hS (x) (show x < n + 4 by omega) a_x e_x rfl 1 (by decide) k21 (fun _ h9 => h9) rfl hin9 rfl (by decide +kernel) rfl rfl (Nat.le_of_ble_eq_true rfl) dX8_init_27 (fun H locs hP hD hS => ?_)
  obtain ⟨c8, hc8⟩ : ∃ x9 : Nat → va_E, x9 = va_up c7 (x) (.inr (8, [.ref q101, .ref q105, .null, .null, .null, .null, .int (zI (0))])) := ⟨_, rfl⟩
  have hP : nP g (n + 4) a7 c8 H := by rw [hc8]; exact hP
  have hD : va_D A (nL (n + 4) a7 c8) := by rw [hc8]; exact hD
  replace hexc : ∀ j : Nat, j < n → ¬ j = x → c8 j = ce j := fun j hj9 q0 => ((congrFun hc8 j).trans (up_ne _ _ q0)).trans (hexc j hj9 q0)
  replace e_x : c8 (x) = .inr (8, [.ref q101, .ref q105, .null, .null, .null, .null, .int (zI (0))]) := (congrFun hc8 _).trans (up_at _ _ _)
  replace e_n : c8 (n) = .inr (5, [.ref ((a3 ((n + 1)))), .int (zI (0))]) := ((congrFun hc8 _).trans (up_ne _ _ (by omega))).trans e_n
  replace e_n_1 : c8 (n + 1) = .inl (g.2 1, 740, .inl (fun _ => zI 0)) := ((congrFun hc8 _).trans (up_ne _ _ (by omega))).trans e_n_1
  replace e_n_2 : c8 (n + 2) = .inr (6, [.ref q101, .ref ((a7 ((n + 3)))), .int (zI (0)), .int (zI (0))]) := ((congrFun hc8 _).trans (up_ne _ _ (by omega))).trans e_n_2
  replace e_n_3 : c8 (n + 3) = .inr (7, [.ref q101, .int (zI (0)), .int (zI (0)), .int (zI (0)), .int (zI (0))]) := ((congrFun hc8 _).trans (up_ne _ _ (by omega))).trans e_n_3
  clear hc8
  refine lv_aload_n hx hb dX8_init_30 rfl (lv_at hl 0 rfl) ?_
  refine n_new (ci := 2) (fs := [.null, .null, .null, .null, .null]) (C := RX2) (T := TX2) (N := 5) hx hb hts hinX2 tyX2 tyX2_ok hown kN25 kIX2 kJX2 hK hP hD hS hA rfl (fun j hj => by rcases (show j = 0 ∨ j = 1 ∨ j = 2 ∨ j = 3 ∨ j = 4 by omega) with rfl | rfl | rfl | rfl | rfl <;> rfl) (Nat.le_of_ble_eq_true rfl) (Nat.le_of_ble_eq_true rfl) dX8_init_31 (fun q109 H hP hD hS => ?_)
  obtain ⟨a10, ha10⟩ : ∃ x9 : Nat → Nat, x9 = va_up a7 (n + 4) q109 := ⟨_, rfl⟩
  obtain ⟨c10, hc10⟩ : ∃ x9 : Nat → va_E, x9 = va_up c8 (n + 4) (.inr (2, [.null, .null, .null, .null, .null])) := ⟨_, rfl⟩
  have hP : nP g (n + 5) a10 c10 H := by rw [ha10, hc10]; exact hP
  have hD : va_D A (nL (n + 5) a10 c10) := by rw [ha10, hc10]; exact hD
  replace hexa : ∀ j : Nat, j < n → a10 j = ad j := fun j hj9 => ((congrFun ha10 j).trans (up_ne _ _ (by omega))).trans (hexa j hj9)
  replace hexc : ∀ j : Nat, j < n → ¬ j = x → c10 j = ce j := fun j hj9 q0 => ((congrFun hc10 j).trans (up_ne _ _ (by omega))).trans (hexc j hj9 q0)
  replace a_x : a10 (x) = h0 := ((congrFun ha10 _).trans (up_ne _ _ (by omega))).trans a_x
  replace e_x : c10 (x) = .inr (8, [.ref q101, .ref q105, .null, .null, .null, .null, .int (zI (0))]) := ((congrFun hc10 _).trans (up_ne _ _ (by omega))).trans e_x
  replace a_n : a10 (n) = q101 := ((congrFun ha10 _).trans (up_ne _ _ (by omega))).trans a_n
  replace e_n : c10 (n) = .inr (5, [.ref ((a3 ((n + 1)))), .int (zI (0))]) := ((congrFun hc10 _).trans (up_ne _ _ (by omega))).trans e_n
  replace a_n_1 : a10 (n + 1) = (a3 (n + 1)) := ((congrFun ha10 _).trans (up_ne _ _ (by omega))).trans a_n_1
  replace e_n_1 : c10 (n + 1) = .inl (g.2 1, 740, .inl (fun _ => zI 0)) := ((congrFun hc10 _).trans (up_ne _ _ (by omega))).trans e_n_1
  replace a_n_2 : a10 (n + 2) = q105 := ((congrFun ha10 _).trans (up_ne _ _ (by omega))).trans a_n_2
  replace e_n_2 : c10 (n + 2) = .inr (6, [.ref q101, .ref ((a7 ((n + 3)))), .int (zI (0)), .int (zI (0))]) := ((congrFun hc10 _).trans (up_ne _ _ (by omega))).trans e_n_2
  replace a_n_3 : a10 (n + 3) = (a7 (n + 3)) := ((congrFun ha10 _).trans (up_ne _ _ (by omega))).trans a_n_3
  replace e_n_3 : c10 (n + 3) = .inr (7, [.ref q101, .int (zI (0)), .int (zI (0)), .int (zI (0)), .int (zI (0))]) := ((congrFun hc10 _).trans (up_ne _ _ (by omega))).trans e_n_3
  have a_n_4 : a10 (n + 4) = q109 := (congrFun ha10 _).trans (up_at _ _ _)
  have e_n_4 : c10 (n + 4) = .inr (2, [.null, .null, .null, .null, .null]) := (congrFun hc10 _).trans (up_at _ _ _)
  clear ha10 hc10
  refine lv_dup hx hb dX8_init_34 rfl ?_
  have hF9 := n_free hD hS hA
  have hS9 := hS
  refine va_callv (va_runI (As := []) (rest := [.ref q109, .ref h0]) ⟨hx, hb, hml, hown, hts⟩ (c_X2_init_N l g (n + 5) (a10) (c10) (H.size) (n + 4) (by omega) (q109) (a_n_4) (e_n_4)) (cwI 0 hts gX8_init_X2_init rfl rfl rfl kJX2 kMl27 kIm_X2_init rfl (by decide +kernel) ⟨Nat.le_of_ble_eq_true rfl, Nat.le_of_ble_eq_true rfl⟩) (n_preS hP hD hK hN) rfl rfl hl.1 rfl (lv_room (Nat.le_of_ble_eq_true rfl)) dX8_init_35 ⟨Nat.le_of_ble_eq_true rfl, Nat.le_of_ble_eq_true rfl⟩) hS (fun q _ h => hF9 q h) hF9 (fun u9 t9 H1 locs ht9 hvm9 hw9 hB9 hz9 hk9 hS => ?_)
  obtain ⟨a11, c11⟩ := u9
  rw [ht9] at hB9
  clear hz9 hk9 hvm9 ht9 hF9
  try dsimp only at hw9 hB9
  obtain ⟨hq9, hu9, hp9_0, hp9_1, hp9_2, hp9_3, hp9_4, hp9_5, hp9_6, hp9_7, hp9_8, hp9_9, hp9_10, hp9_11, hp9_12, hp9_13, hp9_14, hp9_15, hp9_16, hp9_17, hp9_18⟩ := hw9
  have hD : va_D A (nL (n + 23) a11 c11) := n_joinD (n := n + 5) (m := 18) hD hS9 hA hq9
  clear hS9
  have hP : nP g (n + 23) a11 c11 H1 := hB9
  clear hB9
  generalize H1 = H at hP hS ⊢
  replace hexa : ∀ j : Nat, j < n → a11 j = ad j := fun j hj9 => (hq9.1 j (by omega)).trans (hexa j hj9)
  replace hexc : ∀ j : Nat, j < n → ¬ j = x → c11 j = ce j := fun j hj9 q0 => (hu9 j (by omega) (by omega)).trans (hexc j hj9 q0)
  replace a_x : a11 (x) = h0 := (hq9.1 _ (by omega)).trans a_x
  replace e_x : c11 (x) = .inr (8, [.ref q101, .ref q105, .null, .null, .null, .null, .int (zI (0))]) := (hu9 _ (by omega) (by omega)).trans e_x
  replace a_n : a11 (n) = q101 := (hq9.1 _ (by omega)).trans a_n
  replace e_n : c11 (n) = .inr (5, [.ref ((a3 ((n + 1)))), .int (zI (0))]) := (hu9 _ (by omega) (by omega)).trans e_n
  replace a_n_1 : a11 (n + 1) = (a3 (n + 1)) := (hq9.1 _ (by omega)).trans a_n_1
  replace e_n_1 : c11 (n + 1) = .inl (g.2 1, 740, .inl (fun _ => zI 0)) := (hu9 _ (by omega) (by omega)).trans e_n_1
  replace a_n_2 : a11 (n + 2) = q105 := (hq9.1 _ (by omega)).trans a_n_2
  replace e_n_2 : c11 (n + 2) = .inr (6, [.ref q101, .ref ((a7 ((n + 3)))), .int (zI (0)), .int (zI (0))]) := (hu9 _ (by omega) (by omega)).trans e_n_2
  replace a_n_3 : a11 (n + 3) = (a7 (n + 3)) := (hq9.1 _ (by omega)).trans a_n_3
  replace e_n_3 : c11 (n + 3) = .inr (7, [.ref q101, .int (zI (0)), .int (zI (0)), .int (zI (0)), .int (zI (0))]) := (hu9 _ (by omega) (by omega)).trans e_n_3
  replace a_n_4 : a11 (n + 4) = q109 := (hq9.1 _ (by omega)).trans a_n_4
  have e_n_4 : c11 (n + 4) = .inr (2, [.ref ((a11 ((n + 5)))), .ref ((a11 ((n + 5) + 2))), .ref ((a11 ((n + 5) + 8))), .ref ((a11 ((n + 5) + 12))), .ref ((a11 ((n + 5) + 17)))]) := hp9_0
  have a_n_5 : a11 (n + 5) = a11 (n + 5) := rfl
  have e_n_5 : c11 (n + 5) = .inl (g.2 6, 1, .inr (.inr (.inr (.inr (fun i8 => some (a11 ((n + 5) + 1 + i8))))))) := hp9_1
  have a_n_6 : a11 (n + 6) = a11 (n + 6) := rfl
  have e_n_6 : c11 (n + 6) = .inl (g.2 0, 4, .inl (upd (fillR (zI (0)) (fun _ => zI 0) 4) 2 (zI (1)))) := hp9_2
  have a_n_7 : a11 (n + 7) = a11 (n + 7) := rfl
  have e_n_7 : c11 (n + 7) = .inl (g.2 6, 5, .inr (.inr (.inr (.inr (fun i8 => some (a11 ((n + 5) + 3 + i8))))))) := hp9_3
  have a_n_8 : a11 (n + 8) = a11 (n + 8) := rfl
  have e_n_8 : c11 (n + 8) = .inl (g.2 0, 9, .inl (fun _ => zI 0)) := hp9_4
  have a_n_9 : a11 (n + 9) = a11 (n + 9) := rfl
  have e_n_9 : c11 (n + 9) = .inl (g.2 0, 9, .inl (fun _ => zI 0)) := hp9_5
  have a_n_10 : a11 (n + 10) = a11 (n + 10) := rfl
  have e_n_10 : c11 (n + 10) = .inl (g.2 0, 9, .inl (fun _ => zI 0)) := hp9_6
  have a_n_11 : a11 (n + 11) = a11 (n + 11) := rfl
  have e_n_11 : c11 (n + 11) = .inl (g.2 0, 9, .inl (fun _ => zI 0)) := hp9_7
  have a_n_12 : a11 (n + 12) = a11 (n + 12) := rfl
  have e_n_12 : c11 (n + 12) = .inl (g.2 0, 9, .inl (fun _ => zI 0)) := hp9_8
  have a_n_13 : a11 (n + 13) = a11 (n + 13) := rfl
  have e_n_13 : c11 (n + 13) = .inl (g.2 6, 3, .inr (.inr (.inr (.inr (fun i8 => some (a11 ((n + 5) + 9 + i8))))))) := hp9_9
  have a_n_14 : a11 (n + 14) = a11 (n + 14) := rfl
  have e_n_14 : c11 (n + 14) = .inl (g.2 0, 2, .inl (fun _ => zI 0)) := hp9_10
  have a_n_15 : a11 (n + 15) = a11 (n + 15) := rfl
  have e_n_15 : c11 (n + 15) = .inl (g.2 0, 2, .inl (fun _ => zI 0)) := hp9_11
  have a_n_16 : a11 (n + 16) = a11 (n + 16) := rfl
  have e_n_16 : c11 (n + 16) = .inl (g.2 0, 2, .inl (fun _ => zI 0)) := hp9_12
  have a_n_17 : a11 (n + 17) = a11 (n + 17) := rfl
  have e_n_17 : c11 (n + 17) = .inl (g.2 6, 4, .inr (.inr (.inr (.inr (fun i8 => some (a11 ((n + 5) + 13 + i8))))))) := hp9_13
  have a_n_18 : a11 (n + 18) = a11 (n + 18) := rfl
  have e_n_18 : c11 (n + 18) = .inl (g.2 0, 2, .inl (fun _ => zI 0)) := hp9_14
  have a_n_19 : a11 (n + 19) = a11 (n + 19) := rfl
  have e_n_19 : c11 (n + 19) = .inl (g.2 0, 2, .inl (fun _ => zI 0)) := hp9_15
  have a_n_20 : a11 (n + 20) = a11 (n + 20) := rfl
  have e_n_20 : c11 (n + 20) = .inl (g.2 0, 2, .inl (fun _ => zI 0)) := hp9_16
  have a_n_21 : a11 (n + 21) = a11 (n + 21) := rfl
  have e_n_21 : c11 (n + 21) = .inl (g.2 0, 2, .inl (fun _ => zI 0)) := hp9_17
  have a_n_22 : a11 (n + 22) = a11 (n + 22) := rfl
  have e_n_22 : c11 (n + 22) = .inl (g.2 0, 4, .inl (fillR (zI (0)) (fun _ => zI 0) 4)) := hp9_18
  clear hq9 hu9 hp9_0 hp9_1 hp9_2 hp9_3 hp9_4 hp9_5 hp9_6 hp9_7 hp9_8 hp9_9 hp9_10 hp9_11 hp9_12 hp9_13 hp9_14 hp9_15 hp9_16 hp9_17 hp9_18
  have fa_R1 : ∀ j : Nat, j < n + 23 → a11 j = a11 j := fun _ _ => rfl
  have fc_R1 : ∀ j : Nat, j < n + 23 → ¬ j = x → c11 j = c11 j := fun _ _ _ => rfl
  have hru1 : ruC g a11 c11 (n + 4) := ⟨e_n_4, ⟨_, e_n_5, fun k hk => rfl⟩, e_n_6, ⟨_, e_n_7, fun k hk => rfl⟩, (fun k hk => by
      rcases (show k = 0 ∨ k = 1 ∨ k = 2 ∨ k = 3 ∨ k = 4 by omega) with rfl | rfl | rfl | rfl | rfl
      · exact e_n_8
      · exact e_n_9
      · exact e_n_10
      · exact e_n_11
      · exact e_n_12), ⟨_, e_n_13, fun k hk => rfl⟩, (fun k hk => by
      rcases (show k = 0 ∨ k = 1 ∨ k = 2 by omega) with rfl | rfl | rfl
      · exact e_n_14
      · exact e_n_15
      · exact e_n_16), ⟨_, e_n_17, fun k hk => rfl⟩, (fun k hk => by
      rcases (show k = 0 ∨ k = 1 ∨ k = 2 ∨ k = 3 by omega) with rfl | rfl | rfl | rfl
      · exact e_n_18
      · exact e_n_19
      · exact e_n_20
      · exact e_n_21), e_n_22⟩
  clear a_n_5 e_n_5 a_n_6 e_n_6 a_n_7 e_n_7 a_n_8 e_n_8 a_n_9 e_n_9 a_n_10 e_n_10 a_n_11 e_n_11 a_n_12 e_n_12 a_n_13 e_n_13 a_n_14 e_n_14 a_n_15 e_n_15 a_n_16 e_n_16 a_n_22 e_n_22
  refine n_put (ci := 8) (v := .ref q109) (ty := .object "HoursBank$Rules") (C := RX8) (T := TX8) (N := 7) hx hb hts hinX8 tyX8 tyX8_ok nmX8 hown hK hP hD hS (x) (show x < n + 23 by omega) a_x e_x rfl 4 (by decide) k28 (fun _ h9 => h9) rfl (by decide +kernel) rfl rfl (Nat.le_of_ble_eq_true rfl) dX8_init_38 (fun H locs hP hD hS => ?_)
  obtain ⟨c12, hc12⟩ : ∃ x9 : Nat → va_E, x9 = va_up c11 (x) (.inr (8, [.ref q101, .ref q105, .null, .null, .ref q109, .null, .int (zI (0))])) := ⟨_, rfl⟩
  have hP : nP g (n + 23) a11 c12 H := by rw [hc12]; exact hP
  have hD : va_D A (nL (n + 23) a11 c12) := by rw [hc12]; exact hD
  replace hexc : ∀ j : Nat, j < n → ¬ j = x → c12 j = ce j := fun j hj9 q0 => ((congrFun hc12 j).trans (up_ne _ _ q0)).trans (hexc j hj9 q0)
  replace fc_R1 : ∀ j : Nat, j < n + 23 → ¬ j = x → c12 j = c11 j := fun j hj9 q9_0 => ((congrFun hc12 j).trans (up_ne _ _ q9_0)).trans (fc_R1 j hj9 q9_0)
  replace e_x : c12 (x) = .inr (8, [.ref q101, .ref q105, .null, .null, .ref q109, .null, .int (zI (0))]) := (congrFun hc12 _).trans (up_at _ _ _)
  replace e_n : c12 (n) = .inr (5, [.ref ((a3 ((n + 1)))), .int (zI (0))]) := ((congrFun hc12 _).trans (up_ne _ _ (by omega))).trans e_n
  replace e_n_1 : c12 (n + 1) = .inl (g.2 1, 740, .inl (fun _ => zI 0)) := ((congrFun hc12 _).trans (up_ne _ _ (by omega))).trans e_n_1
  replace e_n_2 : c12 (n + 2) = .inr (6, [.ref q101, .ref ((a7 ((n + 3)))), .int (zI (0)), .int (zI (0))]) := ((congrFun hc12 _).trans (up_ne _ _ (by omega))).trans e_n_2
  replace e_n_3 : c12 (n + 3) = .inr (7, [.ref q101, .int (zI (0)), .int (zI (0)), .int (zI (0)), .int (zI (0))]) := ((congrFun hc12 _).trans (up_ne _ _ (by omega))).trans e_n_3
  replace e_n_4 : c12 (n + 4) = .inr (2, [.ref ((a11 ((n + 5)))), .ref ((a11 ((n + 5) + 2))), .ref ((a11 ((n + 5) + 8))), .ref ((a11 ((n + 5) + 12))), .ref ((a11 ((n + 5) + 17)))]) := ((congrFun hc12 _).trans (up_ne _ _ (by omega))).trans e_n_4
  replace e_n_17 : c12 (n + 17) = .inl (g.2 6, 4, .inr (.inr (.inr (.inr (fun i8 => some (a11 ((n + 5) + 13 + i8))))))) := ((congrFun hc12 _).trans (up_ne _ _ (by omega))).trans e_n_17
  replace e_n_18 : c12 (n + 18) = .inl (g.2 0, 2, .inl (fun _ => zI 0)) := ((congrFun hc12 _).trans (up_ne _ _ (by omega))).trans e_n_18
  replace e_n_19 : c12 (n + 19) = .inl (g.2 0, 2, .inl (fun _ => zI 0)) := ((congrFun hc12 _).trans (up_ne _ _ (by omega))).trans e_n_19
  replace e_n_20 : c12 (n + 20) = .inl (g.2 0, 2, .inl (fun _ => zI 0)) := ((congrFun hc12 _).trans (up_ne _ _ (by omega))).trans e_n_20
  replace e_n_21 : c12 (n + 21) = .inl (g.2 0, 2, .inl (fun _ => zI 0)) := ((congrFun hc12 _).trans (up_ne _ _ (by omega))).trans e_n_21
  clear hc12
  refine lv_aload_n hx hb dX8_init_41 rfl (lv_at hl 0 rfl) ?_
  refine n_new (ci := 2) (fs := [.null, .null, .null, .null, .null]) (C := RX2) (T := TX2) (N := 5) hx hb hts hinX2 tyX2 tyX2_ok hown kN25 kIX2 kJX2 hK hP hD hS hA rfl (fun j hj => by rcases (show j = 0 ∨ j = 1 ∨ j = 2 ∨ j = 3 ∨ j = 4 by omega) with rfl | rfl | rfl | rfl | rfl <;> rfl) (Nat.le_of_ble_eq_true rfl) (Nat.le_of_ble_eq_true rfl) dX8_init_42 (fun q113 H hP hD hS => ?_)
  obtain ⟨a14, ha14⟩ : ∃ x9 : Nat → Nat, x9 = va_up a11 (n + 23) q113 := ⟨_, rfl⟩
  obtain ⟨c14, hc14⟩ : ∃ x9 : Nat → va_E, x9 = va_up c12 (n + 23) (.inr (2, [.null, .null, .null, .null, .null])) := ⟨_, rfl⟩
  have hP : nP g (n + 24) a14 c14 H := by rw [ha14, hc14]; exact hP
  have hD : va_D A (nL (n + 24) a14 c14) := by rw [ha14, hc14]; exact hD
  replace hexa : ∀ j : Nat, j < n → a14 j = ad j := fun j hj9 => ((congrFun ha14 j).trans (up_ne _ _ (by omega))).trans (hexa j hj9)
  replace hexc : ∀ j : Nat, j < n → ¬ j = x → c14 j = ce j := fun j hj9 q0 => ((congrFun hc14 j).trans (up_ne _ _ (by omega))).trans (hexc j hj9 q0)
  replace fa_R1 : ∀ j : Nat, j < n + 23 → a14 j = a11 j := fun j hj9 => ((congrFun ha14 j).trans (up_ne _ _ (by omega))).trans (fa_R1 j hj9)
  replace fc_R1 : ∀ j : Nat, j < n + 23 → ¬ j = x → c14 j = c11 j := fun j hj9 q9_0 => ((congrFun hc14 j).trans (up_ne _ _ (by omega))).trans (fc_R1 j hj9 q9_0)
  replace a_x : a14 (x) = h0 := ((congrFun ha14 _).trans (up_ne _ _ (by omega))).trans a_x
  replace e_x : c14 (x) = .inr (8, [.ref q101, .ref q105, .null, .null, .ref q109, .null, .int (zI (0))]) := ((congrFun hc14 _).trans (up_ne _ _ (by omega))).trans e_x
  replace a_n : a14 (n) = q101 := ((congrFun ha14 _).trans (up_ne _ _ (by omega))).trans a_n
  replace e_n : c14 (n) = .inr (5, [.ref ((a3 ((n + 1)))), .int (zI (0))]) := ((congrFun hc14 _).trans (up_ne _ _ (by omega))).trans e_n
  replace a_n_1 : a14 (n + 1) = (a3 (n + 1)) := ((congrFun ha14 _).trans (up_ne _ _ (by omega))).trans a_n_1
  replace e_n_1 : c14 (n + 1) = .inl (g.2 1, 740, .inl (fun _ => zI 0)) := ((congrFun hc14 _).trans (up_ne _ _ (by omega))).trans e_n_1
  replace a_n_2 : a14 (n + 2) = q105 := ((congrFun ha14 _).trans (up_ne _ _ (by omega))).trans a_n_2
  replace e_n_2 : c14 (n + 2) = .inr (6, [.ref q101, .ref ((a7 ((n + 3)))), .int (zI (0)), .int (zI (0))]) := ((congrFun hc14 _).trans (up_ne _ _ (by omega))).trans e_n_2
  replace a_n_3 : a14 (n + 3) = (a7 (n + 3)) := ((congrFun ha14 _).trans (up_ne _ _ (by omega))).trans a_n_3
  replace e_n_3 : c14 (n + 3) = .inr (7, [.ref q101, .int (zI (0)), .int (zI (0)), .int (zI (0)), .int (zI (0))]) := ((congrFun hc14 _).trans (up_ne _ _ (by omega))).trans e_n_3
  replace a_n_4 : a14 (n + 4) = q109 := ((congrFun ha14 _).trans (up_ne _ _ (by omega))).trans a_n_4
  replace e_n_4 : c14 (n + 4) = .inr (2, [.ref ((a11 ((n + 5)))), .ref ((a11 ((n + 5) + 2))), .ref ((a11 ((n + 5) + 8))), .ref ((a11 ((n + 5) + 12))), .ref ((a11 ((n + 5) + 17)))]) := ((congrFun hc14 _).trans (up_ne _ _ (by omega))).trans e_n_4
  replace a_n_17 : a14 (n + 17) = (a11 (n + 17)) := ((congrFun ha14 _).trans (up_ne _ _ (by omega))).trans a_n_17
  replace e_n_17 : c14 (n + 17) = .inl (g.2 6, 4, .inr (.inr (.inr (.inr (fun i8 => some (a11 ((n + 5) + 13 + i8))))))) := ((congrFun hc14 _).trans (up_ne _ _ (by omega))).trans e_n_17
  replace a_n_18 : a14 (n + 18) = (a11 (n + 18)) := ((congrFun ha14 _).trans (up_ne _ _ (by omega))).trans a_n_18
  replace e_n_18 : c14 (n + 18) = .inl (g.2 0, 2, .inl (fun _ => zI 0)) := ((congrFun hc14 _).trans (up_ne _ _ (by omega))).trans e_n_18
  replace a_n_19 : a14 (n + 19) = (a11 (n + 19)) := ((congrFun ha14 _).trans (up_ne _ _ (by omega))).trans a_n_19
  replace e_n_19 : c14 (n + 19) = .inl (g.2 0, 2, .inl (fun _ => zI 0)) := ((congrFun hc14 _).trans (up_ne _ _ (by omega))).trans e_n_19
  replace a_n_20 : a14 (n + 20) = (a11 (n + 20)) := ((congrFun ha14 _).trans (up_ne _ _ (by omega))).trans a_n_20
  replace e_n_20 : c14 (n + 20) = .inl (g.2 0, 2, .inl (fun _ => zI 0)) := ((congrFun hc14 _).trans (up_ne _ _ (by omega))).trans e_n_20
  replace a_n_21 : a14 (n + 21) = (a11 (n + 21)) := ((congrFun ha14 _).trans (up_ne _ _ (by omega))).trans a_n_21
  replace e_n_21 : c14 (n + 21) = .inl (g.2 0, 2, .inl (fun _ => zI 0)) := ((congrFun hc14 _).trans (up_ne _ _ (by omega))).trans e_n_21
  have a_n_23 : a14 (n + 23) = q113 := (congrFun ha14 _).trans (up_at _ _ _)
  have e_n_23 : c14 (n + 23) = .inr (2, [.null, .null, .null, .null, .null]) := (congrFun hc14 _).trans (up_at _ _ _)
  clear ha14 hc14
  refine lv_dup hx hb dX8_init_45 rfl ?_
  have hF9 := n_free hD hS hA
  have hS9 := hS
  refine va_callv (va_runI (As := []) (rest := [.ref q113, .ref h0]) ⟨hx, hb, hml, hown, hts⟩ (c_X2_init_N l g (n + 24) (a14) (c14) (H.size) (n + 23) (by omega) (q113) (a_n_23) (e_n_23)) (cwI 0 hts gX8_init_X2_init rfl rfl rfl kJX2 kMl27 kIm_X2_init rfl (by decide +kernel) ⟨Nat.le_of_ble_eq_true rfl, Nat.le_of_ble_eq_true rfl⟩) (n_preS hP hD hK hN) rfl rfl hl.1 rfl (lv_room (Nat.le_of_ble_eq_true rfl)) dX8_init_46 ⟨Nat.le_of_ble_eq_true rfl, Nat.le_of_ble_eq_true rfl⟩) hS (fun q _ h => hF9 q h) hF9 (fun u9 t9 H1 locs ht9 hvm9 hw9 hB9 hz9 hk9 hS => ?_)
  obtain ⟨a15, c15⟩ := u9
  rw [ht9] at hB9
  clear hz9 hk9 hvm9 ht9 hF9
  try dsimp only at hw9 hB9
  obtain ⟨hq9, hu9, hp9_0, hp9_1, hp9_2, hp9_3, hp9_4, hp9_5, hp9_6, hp9_7, hp9_8, hp9_9, hp9_10, hp9_11, hp9_12, hp9_13, hp9_14, hp9_15, hp9_16, hp9_17, hp9_18⟩ := hw9
  have hD : va_D A (nL (n + 42) a15 c15) := n_joinD (n := n + 24) (m := 18) hD hS9 hA hq9
  clear hS9
  have hP : nP g (n + 42) a15 c15 H1 := hB9
  clear hB9
  generalize H1 = H at hP hS ⊢
  replace hexa : ∀ j : Nat, j < n → a15 j = ad j := fun j hj9 => (hq9.1 j (by omega)).trans (hexa j hj9)
  replace hexc : ∀ j : Nat, j < n → ¬ j = x → c15 j = ce j := fun j hj9 q0 => (hu9 j (by omega) (by omega)).trans (hexc j hj9 q0)
  replace fa_R1 : ∀ j : Nat, j < n + 23 → a15 j = a11 j := fun j hj9 => (hq9.1 j (by omega)).trans (fa_R1 j hj9)
  replace fc_R1 : ∀ j : Nat, j < n + 23 → ¬ j = x → c15 j = c11 j := fun j hj9 q9_0 => (hu9 j (by omega) (by omega)).trans (fc_R1 j hj9 q9_0)
  replace a_x : a15 (x) = h0 := (hq9.1 _ (by omega)).trans a_x
  replace e_x : c15 (x) = .inr (8, [.ref q101, .ref q105, .null, .null, .ref q109, .null, .int (zI (0))]) := (hu9 _ (by omega) (by omega)).trans e_x
  replace a_n : a15 (n) = q101 := (hq9.1 _ (by omega)).trans a_n
  replace e_n : c15 (n) = .inr (5, [.ref ((a3 ((n + 1)))), .int (zI (0))]) := (hu9 _ (by omega) (by omega)).trans e_n
  replace a_n_1 : a15 (n + 1) = (a3 (n + 1)) := (hq9.1 _ (by omega)).trans a_n_1
  replace e_n_1 : c15 (n + 1) = .inl (g.2 1, 740, .inl (fun _ => zI 0)) := (hu9 _ (by omega) (by omega)).trans e_n_1
  replace a_n_2 : a15 (n + 2) = q105 := (hq9.1 _ (by omega)).trans a_n_2
  replace e_n_2 : c15 (n + 2) = .inr (6, [.ref q101, .ref ((a7 ((n + 3)))), .int (zI (0)), .int (zI (0))]) := (hu9 _ (by omega) (by omega)).trans e_n_2
  replace a_n_3 : a15 (n + 3) = (a7 (n + 3)) := (hq9.1 _ (by omega)).trans a_n_3
  replace e_n_3 : c15 (n + 3) = .inr (7, [.ref q101, .int (zI (0)), .int (zI (0)), .int (zI (0)), .int (zI (0))]) := (hu9 _ (by omega) (by omega)).trans e_n_3
  replace a_n_4 : a15 (n + 4) = q109 := (hq9.1 _ (by omega)).trans a_n_4
  replace e_n_4 : c15 (n + 4) = .inr (2, [.ref ((a11 ((n + 5)))), .ref ((a11 ((n + 5) + 2))), .ref ((a11 ((n + 5) + 8))), .ref ((a11 ((n + 5) + 12))), .ref ((a11 ((n + 5) + 17)))]) := (hu9 _ (by omega) (by omega)).trans e_n_4
  replace a_n_17 : a15 (n + 17) = (a11 (n + 17)) := (hq9.1 _ (by omega)).trans a_n_17
  replace e_n_17 : c15 (n + 17) = .inl (g.2 6, 4, .inr (.inr (.inr (.inr (fun i8 => some (a11 ((n + 5) + 13 + i8))))))) := (hu9 _ (by omega) (by omega)).trans e_n_17
  replace a_n_18 : a15 (n + 18) = (a11 (n + 18)) := (hq9.1 _ (by omega)).trans a_n_18
  replace e_n_18 : c15 (n + 18) = .inl (g.2 0, 2, .inl (fun _ => zI 0)) := (hu9 _ (by omega) (by omega)).trans e_n_18
  replace a_n_19 : a15 (n + 19) = (a11 (n + 19)) := (hq9.1 _ (by omega)).trans a_n_19
  replace e_n_19 : c15 (n + 19) = .inl (g.2 0, 2, .inl (fun _ => zI 0)) := (hu9 _ (by omega) (by omega)).trans e_n_19
  replace a_n_20 : a15 (n + 20) = (a11 (n + 20)) := (hq9.1 _ (by omega)).trans a_n_20
  replace e_n_20 : c15 (n + 20) = .inl (g.2 0, 2, .inl (fun _ => zI 0)) := (hu9 _ (by omega) (by omega)).trans e_n_20
  replace a_n_21 : a15 (n + 21) = (a11 (n + 21)) := (hq9.1 _ (by omega)).trans a_n_21
  replace e_n_21 : c15 (n + 21) = .inl (g.2 0, 2, .inl (fun _ => zI 0)) := (hu9 _ (by omega) (by omega)).trans e_n_21
  replace a_n_23 : a15 (n + 23) = q113 := (hq9.1 _ (by omega)).trans a_n_23
  have e_n_23 : c15 (n + 23) = .inr (2, [.ref ((a15 ((n + 24)))), .ref ((a15 ((n + 24) + 2))), .ref ((a15 ((n + 24) + 8))), .ref ((a15 ((n + 24) + 12))), .ref ((a15 ((n + 24) + 17)))]) := hp9_0
  have a_n_24 : a15 (n + 24) = a15 (n + 24) := rfl
  have e_n_24 : c15 (n + 24) = .inl (g.2 6, 1, .inr (.inr (.inr (.inr (fun i8 => some (a15 ((n + 24) + 1 + i8))))))) := hp9_1
  have a_n_25 : a15 (n + 25) = a15 (n + 25) := rfl
  have e_n_25 : c15 (n + 25) = .inl (g.2 0, 4, .inl (upd (fillR (zI (0)) (fun _ => zI 0) 4) 2 (zI (1)))) := hp9_2
  have a_n_26 : a15 (n + 26) = a15 (n + 26) := rfl
  have e_n_26 : c15 (n + 26) = .inl (g.2 6, 5, .inr (.inr (.inr (.inr (fun i8 => some (a15 ((n + 24) + 3 + i8))))))) := hp9_3
  have a_n_27 : a15 (n + 27) = a15 (n + 27) := rfl
  have e_n_27 : c15 (n + 27) = .inl (g.2 0, 9, .inl (fun _ => zI 0)) := hp9_4
  have a_n_28 : a15 (n + 28) = a15 (n + 28) := rfl
  have e_n_28 : c15 (n + 28) = .inl (g.2 0, 9, .inl (fun _ => zI 0)) := hp9_5
  have a_n_29 : a15 (n + 29) = a15 (n + 29) := rfl
  have e_n_29 : c15 (n + 29) = .inl (g.2 0, 9, .inl (fun _ => zI 0)) := hp9_6
  have a_n_30 : a15 (n + 30) = a15 (n + 30) := rfl
  have e_n_30 : c15 (n + 30) = .inl (g.2 0, 9, .inl (fun _ => zI 0)) := hp9_7
  have a_n_31 : a15 (n + 31) = a15 (n + 31) := rfl
  have e_n_31 : c15 (n + 31) = .inl (g.2 0, 9, .inl (fun _ => zI 0)) := hp9_8
  have a_n_32 : a15 (n + 32) = a15 (n + 32) := rfl
  have e_n_32 : c15 (n + 32) = .inl (g.2 6, 3, .inr (.inr (.inr (.inr (fun i8 => some (a15 ((n + 24) + 9 + i8))))))) := hp9_9
  have a_n_33 : a15 (n + 33) = a15 (n + 33) := rfl
  have e_n_33 : c15 (n + 33) = .inl (g.2 0, 2, .inl (fun _ => zI 0)) := hp9_10
  have a_n_34 : a15 (n + 34) = a15 (n + 34) := rfl
  have e_n_34 : c15 (n + 34) = .inl (g.2 0, 2, .inl (fun _ => zI 0)) := hp9_11
  have a_n_35 : a15 (n + 35) = a15 (n + 35) := rfl
  have e_n_35 : c15 (n + 35) = .inl (g.2 0, 2, .inl (fun _ => zI 0)) := hp9_12
  have a_n_36 : a15 (n + 36) = a15 (n + 36) := rfl
  have e_n_36 : c15 (n + 36) = .inl (g.2 6, 4, .inr (.inr (.inr (.inr (fun i8 => some (a15 ((n + 24) + 13 + i8))))))) := hp9_13
  have a_n_37 : a15 (n + 37) = a15 (n + 37) := rfl
  have e_n_37 : c15 (n + 37) = .inl (g.2 0, 2, .inl (fun _ => zI 0)) := hp9_14
  have a_n_38 : a15 (n + 38) = a15 (n + 38) := rfl
  have e_n_38 : c15 (n + 38) = .inl (g.2 0, 2, .inl (fun _ => zI 0)) := hp9_15
  have a_n_39 : a15 (n + 39) = a15 (n + 39) := rfl
  have e_n_39 : c15 (n + 39) = .inl (g.2 0, 2, .inl (fun _ => zI 0)) := hp9_16
  have a_n_40 : a15 (n + 40) = a15 (n + 40) := rfl
  have e_n_40 : c15 (n + 40) = .inl (g.2 0, 2, .inl (fun _ => zI 0)) := hp9_17
  have a_n_41 : a15 (n + 41) = a15 (n + 41) := rfl
  have e_n_41 : c15 (n + 41) = .inl (g.2 0, 4, .inl (fillR (zI (0)) (fun _ => zI 0) 4)) := hp9_18
  clear hq9 hu9 hp9_0 hp9_1 hp9_2 hp9_3 hp9_4 hp9_5 hp9_6 hp9_7 hp9_8 hp9_9 hp9_10 hp9_11 hp9_12 hp9_13 hp9_14 hp9_15 hp9_16 hp9_17 hp9_18
  have fa_R2 : ∀ j : Nat, j < n + 42 → a15 j = a15 j := fun _ _ => rfl
  have fc_R2 : ∀ j : Nat, j < n + 42 → ¬ j = x → c15 j = c15 j := fun _ _ _ => rfl
  have hru2 : ruC g a15 c15 (n + 23) := ⟨e_n_23, ⟨_, e_n_24, fun k hk => rfl⟩, e_n_25, ⟨_, e_n_26, fun k hk => rfl⟩, (fun k hk => by
      rcases (show k = 0 ∨ k = 1 ∨ k = 2 ∨ k = 3 ∨ k = 4 by omega) with rfl | rfl | rfl | rfl | rfl
      · exact e_n_27
      · exact e_n_28
      · exact e_n_29
      · exact e_n_30
      · exact e_n_31), ⟨_, e_n_32, fun k hk => rfl⟩, (fun k hk => by
      rcases (show k = 0 ∨ k = 1 ∨ k = 2 by omega) with rfl | rfl | rfl
      · exact e_n_33
      · exact e_n_34
      · exact e_n_35), ⟨_, e_n_36, fun k hk => rfl⟩, (fun k hk => by
      rcases (show k = 0 ∨ k = 1 ∨ k = 2 ∨ k = 3 by omega) with rfl | rfl | rfl | rfl
      · exact e_n_37
      · exact e_n_38
      · exact e_n_39
      · exact e_n_40), e_n_41⟩
  clear a_n_24 e_n_24 a_n_25 e_n_25 a_n_26 e_n_26 a_n_27 e_n_27 a_n_28 e_n_28 a_n_29 e_n_29 a_n_30 e_n_30 a_n_31 e_n_31 a_n_32 e_n_32 a_n_33 e_n_33 a_n_34 e_n_34 a_n_35 e_n_35 a_n_36 e_n_36 a_n_37 e_n_37 a_n_38 e_n_38 a_n_39 e_n_39 a_n_40 e_n_40 a_n_41 e_n_41
  refine n_put (ci := 8) (v := .ref q113) (ty := .object "HoursBank$Rules") (C := RX8) (T := TX8) (N := 7) hx hb hts hinX8 tyX8 tyX8_ok nmX8 hown hK hP hD hS (x) (show x < n + 42 by omega) a_x e_x rfl 5 (by decide) k32 (fun _ h9 => h9) rfl (by decide +kernel) rfl rfl (Nat.le_of_ble_eq_true rfl) dX8_init_49 (fun H locs hP hD hS => ?_)
  obtain ⟨c16, hc16⟩ : ∃ x9 : Nat → va_E, x9 = va_up c15 (x) (.inr (8, [.ref q101, .ref q105, .null, .null, .ref q109, .ref q113, .int (zI (0))])) := ⟨_, rfl⟩
  have hP : nP g (n + 42) a15 c16 H := by rw [hc16]; exact hP
  have hD : va_D A (nL (n + 42) a15 c16) := by rw [hc16]; exact hD
  replace hexc : ∀ j : Nat, j < n → ¬ j = x → c16 j = ce j := fun j hj9 q0 => ((congrFun hc16 j).trans (up_ne _ _ q0)).trans (hexc j hj9 q0)
  replace fc_R1 : ∀ j : Nat, j < n + 23 → ¬ j = x → c16 j = c11 j := fun j hj9 q9_0 => ((congrFun hc16 j).trans (up_ne _ _ q9_0)).trans (fc_R1 j hj9 q9_0)
  replace fc_R2 : ∀ j : Nat, j < n + 42 → ¬ j = x → c16 j = c15 j := fun j hj9 q9_0 => ((congrFun hc16 j).trans (up_ne _ _ q9_0)).trans (fc_R2 j hj9 q9_0)
  replace e_x : c16 (x) = .inr (8, [.ref q101, .ref q105, .null, .null, .ref q109, .ref q113, .int (zI (0))]) := (congrFun hc16 _).trans (up_at _ _ _)
  replace e_n : c16 (n) = .inr (5, [.ref ((a3 ((n + 1)))), .int (zI (0))]) := ((congrFun hc16 _).trans (up_ne _ _ (by omega))).trans e_n
  replace e_n_1 : c16 (n + 1) = .inl (g.2 1, 740, .inl (fun _ => zI 0)) := ((congrFun hc16 _).trans (up_ne _ _ (by omega))).trans e_n_1
  replace e_n_2 : c16 (n + 2) = .inr (6, [.ref q101, .ref ((a7 ((n + 3)))), .int (zI (0)), .int (zI (0))]) := ((congrFun hc16 _).trans (up_ne _ _ (by omega))).trans e_n_2
  replace e_n_3 : c16 (n + 3) = .inr (7, [.ref q101, .int (zI (0)), .int (zI (0)), .int (zI (0)), .int (zI (0))]) := ((congrFun hc16 _).trans (up_ne _ _ (by omega))).trans e_n_3
  replace e_n_4 : c16 (n + 4) = .inr (2, [.ref ((a11 ((n + 5)))), .ref ((a11 ((n + 5) + 2))), .ref ((a11 ((n + 5) + 8))), .ref ((a11 ((n + 5) + 12))), .ref ((a11 ((n + 5) + 17)))]) := ((congrFun hc16 _).trans (up_ne _ _ (by omega))).trans e_n_4
  replace e_n_17 : c16 (n + 17) = .inl (g.2 6, 4, .inr (.inr (.inr (.inr (fun i8 => some (a11 ((n + 5) + 13 + i8))))))) := ((congrFun hc16 _).trans (up_ne _ _ (by omega))).trans e_n_17
  replace e_n_18 : c16 (n + 18) = .inl (g.2 0, 2, .inl (fun _ => zI 0)) := ((congrFun hc16 _).trans (up_ne _ _ (by omega))).trans e_n_18
  replace e_n_19 : c16 (n + 19) = .inl (g.2 0, 2, .inl (fun _ => zI 0)) := ((congrFun hc16 _).trans (up_ne _ _ (by omega))).trans e_n_19
  replace e_n_20 : c16 (n + 20) = .inl (g.2 0, 2, .inl (fun _ => zI 0)) := ((congrFun hc16 _).trans (up_ne _ _ (by omega))).trans e_n_20
  replace e_n_21 : c16 (n + 21) = .inl (g.2 0, 2, .inl (fun _ => zI 0)) := ((congrFun hc16 _).trans (up_ne _ _ (by omega))).trans e_n_21
  replace e_n_23 : c16 (n + 23) = .inr (2, [.ref ((a15 ((n + 24)))), .ref ((a15 ((n + 24) + 2))), .ref ((a15 ((n + 24) + 8))), .ref ((a15 ((n + 24) + 12))), .ref ((a15 ((n + 24) + 17)))]) := ((congrFun hc16 _).trans (up_ne _ _ (by omega))).trans e_n_23
  clear hc16
  refine lv_aload_n hx hb dX8_init_52 rfl (lv_at hl 0 rfl) ?_
  refine lv_iconst (v := zI (4)) hx hb dX8_init_53 (by decide) ?_
  refine n_newq (C := RX3) (N' := 4) hx hb hown kN35 hN.2.2.2.2.1 hK hP hD hS hA 4 rfl (by omega) (by omega) (Nat.le_of_ble_eq_true rfl) (Nat.le_of_ble_eq_true rfl) (Nat.le_of_ble_eq_true rfl) dX8_init_54 (fun q117 H hP hD hS => ?_)
  obtain ⟨a18, ha18⟩ : ∃ x9 : Nat → Nat, x9 = va_up a15 (n + 42) q117 := ⟨_, rfl⟩
  obtain ⟨c18, hc18⟩ : ∃ x9 : Nat → va_E, x9 = va_up c16 (n + 42) (.inl (g.2 4, 4, .inr (.inr (.inr (.inr (fun _ => none)))))) := ⟨_, rfl⟩
  have hP : nP g (n + 43) a18 c18 H := by rw [ha18, hc18]; exact hP
  have hD : va_D A (nL (n + 43) a18 c18) := by rw [ha18, hc18]; exact hD
  replace hexa : ∀ j : Nat, j < n → a18 j = ad j := fun j hj9 => ((congrFun ha18 j).trans (up_ne _ _ (by omega))).trans (hexa j hj9)
  replace hexc : ∀ j : Nat, j < n → ¬ j = x → c18 j = ce j := fun j hj9 q0 => ((congrFun hc18 j).trans (up_ne _ _ (by omega))).trans (hexc j hj9 q0)
  replace fa_R1 : ∀ j : Nat, j < n + 23 → a18 j = a11 j := fun j hj9 => ((congrFun ha18 j).trans (up_ne _ _ (by omega))).trans (fa_R1 j hj9)
  replace fa_R2 : ∀ j : Nat, j < n + 42 → a18 j = a15 j := fun j hj9 => ((congrFun ha18 j).trans (up_ne _ _ (by omega))).trans (fa_R2 j hj9)
  replace fc_R1 : ∀ j : Nat, j < n + 23 → ¬ j = x → c18 j = c11 j := fun j hj9 q9_0 => ((congrFun hc18 j).trans (up_ne _ _ (by omega))).trans (fc_R1 j hj9 q9_0)
  replace fc_R2 : ∀ j : Nat, j < n + 42 → ¬ j = x → c18 j = c15 j := fun j hj9 q9_0 => ((congrFun hc18 j).trans (up_ne _ _ (by omega))).trans (fc_R2 j hj9 q9_0)
  replace a_x : a18 (x) = h0 := ((congrFun ha18 _).trans (up_ne _ _ (by omega))).trans a_x
  replace e_x : c18 (x) = .inr (8, [.ref q101, .ref q105, .null, .null, .ref q109, .ref q113, .int (zI (0))]) := ((congrFun hc18 _).trans (up_ne _ _ (by omega))).trans e_x
  replace a_n : a18 (n) = q101 := ((congrFun ha18 _).trans (up_ne _ _ (by omega))).trans a_n
  replace e_n : c18 (n) = .inr (5, [.ref ((a3 ((n + 1)))), .int (zI (0))]) := ((congrFun hc18 _).trans (up_ne _ _ (by omega))).trans e_n
  replace a_n_1 : a18 (n + 1) = (a3 (n + 1)) := ((congrFun ha18 _).trans (up_ne _ _ (by omega))).trans a_n_1
  replace e_n_1 : c18 (n + 1) = .inl (g.2 1, 740, .inl (fun _ => zI 0)) := ((congrFun hc18 _).trans (up_ne _ _ (by omega))).trans e_n_1
  replace a_n_2 : a18 (n + 2) = q105 := ((congrFun ha18 _).trans (up_ne _ _ (by omega))).trans a_n_2
  replace e_n_2 : c18 (n + 2) = .inr (6, [.ref q101, .ref ((a7 ((n + 3)))), .int (zI (0)), .int (zI (0))]) := ((congrFun hc18 _).trans (up_ne _ _ (by omega))).trans e_n_2
  replace a_n_3 : a18 (n + 3) = (a7 (n + 3)) := ((congrFun ha18 _).trans (up_ne _ _ (by omega))).trans a_n_3
  replace e_n_3 : c18 (n + 3) = .inr (7, [.ref q101, .int (zI (0)), .int (zI (0)), .int (zI (0)), .int (zI (0))]) := ((congrFun hc18 _).trans (up_ne _ _ (by omega))).trans e_n_3
  replace a_n_4 : a18 (n + 4) = q109 := ((congrFun ha18 _).trans (up_ne _ _ (by omega))).trans a_n_4
  replace e_n_4 : c18 (n + 4) = .inr (2, [.ref ((a11 ((n + 5)))), .ref ((a11 ((n + 5) + 2))), .ref ((a11 ((n + 5) + 8))), .ref ((a11 ((n + 5) + 12))), .ref ((a11 ((n + 5) + 17)))]) := ((congrFun hc18 _).trans (up_ne _ _ (by omega))).trans e_n_4
  replace a_n_17 : a18 (n + 17) = (a11 (n + 17)) := ((congrFun ha18 _).trans (up_ne _ _ (by omega))).trans a_n_17
  replace e_n_17 : c18 (n + 17) = .inl (g.2 6, 4, .inr (.inr (.inr (.inr (fun i8 => some (a11 ((n + 5) + 13 + i8))))))) := ((congrFun hc18 _).trans (up_ne _ _ (by omega))).trans e_n_17
  replace a_n_18 : a18 (n + 18) = (a11 (n + 18)) := ((congrFun ha18 _).trans (up_ne _ _ (by omega))).trans a_n_18
  replace e_n_18 : c18 (n + 18) = .inl (g.2 0, 2, .inl (fun _ => zI 0)) := ((congrFun hc18 _).trans (up_ne _ _ (by omega))).trans e_n_18
  replace a_n_19 : a18 (n + 19) = (a11 (n + 19)) := ((congrFun ha18 _).trans (up_ne _ _ (by omega))).trans a_n_19
  replace e_n_19 : c18 (n + 19) = .inl (g.2 0, 2, .inl (fun _ => zI 0)) := ((congrFun hc18 _).trans (up_ne _ _ (by omega))).trans e_n_19
  replace a_n_20 : a18 (n + 20) = (a11 (n + 20)) := ((congrFun ha18 _).trans (up_ne _ _ (by omega))).trans a_n_20
  replace e_n_20 : c18 (n + 20) = .inl (g.2 0, 2, .inl (fun _ => zI 0)) := ((congrFun hc18 _).trans (up_ne _ _ (by omega))).trans e_n_20
  replace a_n_21 : a18 (n + 21) = (a11 (n + 21)) := ((congrFun ha18 _).trans (up_ne _ _ (by omega))).trans a_n_21
  replace e_n_21 : c18 (n + 21) = .inl (g.2 0, 2, .inl (fun _ => zI 0)) := ((congrFun hc18 _).trans (up_ne _ _ (by omega))).trans e_n_21
  replace a_n_23 : a18 (n + 23) = q113 := ((congrFun ha18 _).trans (up_ne _ _ (by omega))).trans a_n_23
  replace e_n_23 : c18 (n + 23) = .inr (2, [.ref ((a15 ((n + 24)))), .ref ((a15 ((n + 24) + 2))), .ref ((a15 ((n + 24) + 8))), .ref ((a15 ((n + 24) + 12))), .ref ((a15 ((n + 24) + 17)))]) := ((congrFun hc18 _).trans (up_ne _ _ (by omega))).trans e_n_23
  have a_n_42 : a18 (n + 42) = q117 := (congrFun ha18 _).trans (up_at _ _ _)
  have e_n_42 : c18 (n + 42) = .inl (g.2 4, 4, .inr (.inr (.inr (.inr (fun _ => none))))) := (congrFun hc18 _).trans (up_at _ _ _)
  clear ha18 hc18
  refine n_putF (ci := 8) (v := .ref q117) (ty := .array (.object "HoursBank$Sheet")) (C := RX8) (T := TX8) (N := 7) hx hb hts hinX8 tyX8 tyX8_ok nmX8 hown hK hP hD hS (x) (show x < n + 43 by omega) a_x e_x rfl 2 (by decide) k37 (fun _ h9 => h9) rfl hin9 rfl (by decide +kernel) rfl rfl (Nat.le_of_ble_eq_true rfl) dX8_init_57 (fun H locs hP hD hS => ?_)
  obtain ⟨c19, hc19⟩ : ∃ x9 : Nat → va_E, x9 = va_up c18 (x) (.inr (8, [.ref q101, .ref q105, .ref q117, .null, .ref q109, .ref q113, .int (zI (0))])) := ⟨_, rfl⟩
  have hP : nP g (n + 43) a18 c19 H := by rw [hc19]; exact hP
  have hD : va_D A (nL (n + 43) a18 c19) := by rw [hc19]; exact hD
  replace hexc : ∀ j : Nat, j < n → ¬ j = x → c19 j = ce j := fun j hj9 q0 => ((congrFun hc19 j).trans (up_ne _ _ q0)).trans (hexc j hj9 q0)
  replace fc_R1 : ∀ j : Nat, j < n + 23 → ¬ j = x → c19 j = c11 j := fun j hj9 q9_0 => ((congrFun hc19 j).trans (up_ne _ _ q9_0)).trans (fc_R1 j hj9 q9_0)
  replace fc_R2 : ∀ j : Nat, j < n + 42 → ¬ j = x → c19 j = c15 j := fun j hj9 q9_0 => ((congrFun hc19 j).trans (up_ne _ _ q9_0)).trans (fc_R2 j hj9 q9_0)
  replace e_x : c19 (x) = .inr (8, [.ref q101, .ref q105, .ref q117, .null, .ref q109, .ref q113, .int (zI (0))]) := (congrFun hc19 _).trans (up_at _ _ _)
  replace e_n : c19 (n) = .inr (5, [.ref ((a3 ((n + 1)))), .int (zI (0))]) := ((congrFun hc19 _).trans (up_ne _ _ (by omega))).trans e_n
  replace e_n_1 : c19 (n + 1) = .inl (g.2 1, 740, .inl (fun _ => zI 0)) := ((congrFun hc19 _).trans (up_ne _ _ (by omega))).trans e_n_1
  replace e_n_2 : c19 (n + 2) = .inr (6, [.ref q101, .ref ((a7 ((n + 3)))), .int (zI (0)), .int (zI (0))]) := ((congrFun hc19 _).trans (up_ne _ _ (by omega))).trans e_n_2
  replace e_n_3 : c19 (n + 3) = .inr (7, [.ref q101, .int (zI (0)), .int (zI (0)), .int (zI (0)), .int (zI (0))]) := ((congrFun hc19 _).trans (up_ne _ _ (by omega))).trans e_n_3
  replace e_n_4 : c19 (n + 4) = .inr (2, [.ref ((a11 ((n + 5)))), .ref ((a11 ((n + 5) + 2))), .ref ((a11 ((n + 5) + 8))), .ref ((a11 ((n + 5) + 12))), .ref ((a11 ((n + 5) + 17)))]) := ((congrFun hc19 _).trans (up_ne _ _ (by omega))).trans e_n_4
  replace e_n_17 : c19 (n + 17) = .inl (g.2 6, 4, .inr (.inr (.inr (.inr (fun i8 => some (a11 ((n + 5) + 13 + i8))))))) := ((congrFun hc19 _).trans (up_ne _ _ (by omega))).trans e_n_17
  replace e_n_18 : c19 (n + 18) = .inl (g.2 0, 2, .inl (fun _ => zI 0)) := ((congrFun hc19 _).trans (up_ne _ _ (by omega))).trans e_n_18
  replace e_n_19 : c19 (n + 19) = .inl (g.2 0, 2, .inl (fun _ => zI 0)) := ((congrFun hc19 _).trans (up_ne _ _ (by omega))).trans e_n_19
  replace e_n_20 : c19 (n + 20) = .inl (g.2 0, 2, .inl (fun _ => zI 0)) := ((congrFun hc19 _).trans (up_ne _ _ (by omega))).trans e_n_20
  replace e_n_21 : c19 (n + 21) = .inl (g.2 0, 2, .inl (fun _ => zI 0)) := ((congrFun hc19 _).trans (up_ne _ _ (by omega))).trans e_n_21
  replace e_n_23 : c19 (n + 23) = .inr (2, [.ref ((a15 ((n + 24)))), .ref ((a15 ((n + 24) + 2))), .ref ((a15 ((n + 24) + 8))), .ref ((a15 ((n + 24) + 12))), .ref ((a15 ((n + 24) + 17)))]) := ((congrFun hc19 _).trans (up_ne _ _ (by omega))).trans e_n_23
  replace e_n_42 : c19 (n + 42) = .inl (g.2 4, 4, .inr (.inr (.inr (.inr (fun _ => none))))) := ((congrFun hc19 _).trans (up_ne _ _ (by omega))).trans e_n_42
  clear hc19
  refine lv_iconst (v := zI (0)) hx hb dX8_init_60 (by decide) ?_
  refine lv_istore_n (lv' := [(1, .int (zI (0))), (0, .ref h0)]) hx hb dX8_init_61 rfl hl (by decide) rfl (fun ls hl => ?_)
  refine lv_iload_n hx hb dX8_init_62 rfl (lv_at hl 0 rfl) ?_
  refine lv_iconst (v := zI (4)) hx hb dX8_init_63 (by decide) ?_
  refine z_icmp_ge (tgt := 91) hx hb dX8_init_64 (by decide) (by omega) (by omega) (fun h64 => ?_) (fun h64 => ?_)
  · exfalso; omega
  · refine lv_aload_n hx hb dX8_init_67 rfl (lv_at hl 1 rfl) ?_
    refine va_get (D := g.1) (ci := 8) (v := .ref q117) (C := RX8) (T := TX8) (N := 7) hx hb hts hinX8 hown hK (nb1 hP (show x < n + 43 by omega) a_x e_x) 0 rfl rfl 2 (by decide) k37 (fun _ h9 => h9) rfl dX8_init_68 ?_
    refine lv_iload_n hx hb dX8_init_71 rfl (lv_at hl 0 rfl) ?_
    refine n_new (ci := 3) (fs := [.null, .null, .null, .null, .int (zI (0)), .int (zI (0)), .null]) (C := RX3) (T := TX3) (N := 7) hx hb hts hinX3 tyX3 tyX3_ok hown kN35 kIX3 kJX3 hK hP hD hS hA rfl (fun j hj => by rcases (show j = 0 ∨ j = 1 ∨ j = 2 ∨ j = 3 ∨ j = 4 ∨ j = 5 ∨ j = 6 by omega) with rfl | rfl | rfl | rfl | rfl | rfl | rfl <;> rfl) (Nat.le_of_ble_eq_true rfl) (Nat.le_of_ble_eq_true rfl) dX8_init_72 (fun q120 H hP hD hS => ?_)
    obtain ⟨a21, ha21⟩ : ∃ x9 : Nat → Nat, x9 = va_up a18 (n + 43) q120 := ⟨_, rfl⟩
    obtain ⟨c21, hc21⟩ : ∃ x9 : Nat → va_E, x9 = va_up c19 (n + 43) (.inr (3, [.null, .null, .null, .null, .int (zI (0)), .int (zI (0)), .null])) := ⟨_, rfl⟩
    have hP : nP g (n + 44) a21 c21 H := by rw [ha21, hc21]; exact hP
    have hD : va_D A (nL (n + 44) a21 c21) := by rw [ha21, hc21]; exact hD
    replace hexa : ∀ j : Nat, j < n → a21 j = ad j := fun j hj9 => ((congrFun ha21 j).trans (up_ne _ _ (by omega))).trans (hexa j hj9)
    replace hexc : ∀ j : Nat, j < n → ¬ j = x → c21 j = ce j := fun j hj9 q0 => ((congrFun hc21 j).trans (up_ne _ _ (by omega))).trans (hexc j hj9 q0)
    replace fa_R1 : ∀ j : Nat, j < n + 23 → a21 j = a11 j := fun j hj9 => ((congrFun ha21 j).trans (up_ne _ _ (by omega))).trans (fa_R1 j hj9)
    replace fa_R2 : ∀ j : Nat, j < n + 42 → a21 j = a15 j := fun j hj9 => ((congrFun ha21 j).trans (up_ne _ _ (by omega))).trans (fa_R2 j hj9)
    replace fc_R1 : ∀ j : Nat, j < n + 23 → ¬ j = x → c21 j = c11 j := fun j hj9 q9_0 => ((congrFun hc21 j).trans (up_ne _ _ (by omega))).trans (fc_R1 j hj9 q9_0)
    replace fc_R2 : ∀ j : Nat, j < n + 42 → ¬ j = x → c21 j = c15 j := fun j hj9 q9_0 => ((congrFun hc21 j).trans (up_ne _ _ (by omega))).trans (fc_R2 j hj9 q9_0)
    replace a_x : a21 (x) = h0 := ((congrFun ha21 _).trans (up_ne _ _ (by omega))).trans a_x
    replace e_x : c21 (x) = .inr (8, [.ref q101, .ref q105, .ref q117, .null, .ref q109, .ref q113, .int (zI (0))]) := ((congrFun hc21 _).trans (up_ne _ _ (by omega))).trans e_x
    replace a_n : a21 (n) = q101 := ((congrFun ha21 _).trans (up_ne _ _ (by omega))).trans a_n
    replace e_n : c21 (n) = .inr (5, [.ref ((a3 ((n + 1)))), .int (zI (0))]) := ((congrFun hc21 _).trans (up_ne _ _ (by omega))).trans e_n
    replace a_n_1 : a21 (n + 1) = (a3 (n + 1)) := ((congrFun ha21 _).trans (up_ne _ _ (by omega))).trans a_n_1
    replace e_n_1 : c21 (n + 1) = .inl (g.2 1, 740, .inl (fun _ => zI 0)) := ((congrFun hc21 _).trans (up_ne _ _ (by omega))).trans e_n_1
    replace a_n_2 : a21 (n + 2) = q105 := ((congrFun ha21 _).trans (up_ne _ _ (by omega))).trans a_n_2
    replace e_n_2 : c21 (n + 2) = .inr (6, [.ref q101, .ref ((a7 ((n + 3)))), .int (zI (0)), .int (zI (0))]) := ((congrFun hc21 _).trans (up_ne _ _ (by omega))).trans e_n_2
    replace a_n_3 : a21 (n + 3) = (a7 (n + 3)) := ((congrFun ha21 _).trans (up_ne _ _ (by omega))).trans a_n_3
    replace e_n_3 : c21 (n + 3) = .inr (7, [.ref q101, .int (zI (0)), .int (zI (0)), .int (zI (0)), .int (zI (0))]) := ((congrFun hc21 _).trans (up_ne _ _ (by omega))).trans e_n_3
    replace a_n_4 : a21 (n + 4) = q109 := ((congrFun ha21 _).trans (up_ne _ _ (by omega))).trans a_n_4
    replace e_n_4 : c21 (n + 4) = .inr (2, [.ref ((a11 ((n + 5)))), .ref ((a11 ((n + 5) + 2))), .ref ((a11 ((n + 5) + 8))), .ref ((a11 ((n + 5) + 12))), .ref ((a11 ((n + 5) + 17)))]) := ((congrFun hc21 _).trans (up_ne _ _ (by omega))).trans e_n_4
    replace a_n_17 : a21 (n + 17) = (a11 (n + 17)) := ((congrFun ha21 _).trans (up_ne _ _ (by omega))).trans a_n_17
    replace e_n_17 : c21 (n + 17) = .inl (g.2 6, 4, .inr (.inr (.inr (.inr (fun i8 => some (a11 ((n + 5) + 13 + i8))))))) := ((congrFun hc21 _).trans (up_ne _ _ (by omega))).trans e_n_17
    replace a_n_18 : a21 (n + 18) = (a11 (n + 18)) := ((congrFun ha21 _).trans (up_ne _ _ (by omega))).trans a_n_18
    replace e_n_18 : c21 (n + 18) = .inl (g.2 0, 2, .inl (fun _ => zI 0)) := ((congrFun hc21 _).trans (up_ne _ _ (by omega))).trans e_n_18
    replace a_n_19 : a21 (n + 19) = (a11 (n + 19)) := ((congrFun ha21 _).trans (up_ne _ _ (by omega))).trans a_n_19
    replace e_n_19 : c21 (n + 19) = .inl (g.2 0, 2, .inl (fun _ => zI 0)) := ((congrFun hc21 _).trans (up_ne _ _ (by omega))).trans e_n_19
    replace a_n_20 : a21 (n + 20) = (a11 (n + 20)) := ((congrFun ha21 _).trans (up_ne _ _ (by omega))).trans a_n_20
    replace e_n_20 : c21 (n + 20) = .inl (g.2 0, 2, .inl (fun _ => zI 0)) := ((congrFun hc21 _).trans (up_ne _ _ (by omega))).trans e_n_20
    replace a_n_21 : a21 (n + 21) = (a11 (n + 21)) := ((congrFun ha21 _).trans (up_ne _ _ (by omega))).trans a_n_21
    replace e_n_21 : c21 (n + 21) = .inl (g.2 0, 2, .inl (fun _ => zI 0)) := ((congrFun hc21 _).trans (up_ne _ _ (by omega))).trans e_n_21
    replace a_n_23 : a21 (n + 23) = q113 := ((congrFun ha21 _).trans (up_ne _ _ (by omega))).trans a_n_23
    replace e_n_23 : c21 (n + 23) = .inr (2, [.ref ((a15 ((n + 24)))), .ref ((a15 ((n + 24) + 2))), .ref ((a15 ((n + 24) + 8))), .ref ((a15 ((n + 24) + 12))), .ref ((a15 ((n + 24) + 17)))]) := ((congrFun hc21 _).trans (up_ne _ _ (by omega))).trans e_n_23
    replace a_n_42 : a21 (n + 42) = q117 := ((congrFun ha21 _).trans (up_ne _ _ (by omega))).trans a_n_42
    replace e_n_42 : c21 (n + 42) = .inl (g.2 4, 4, .inr (.inr (.inr (.inr (fun _ => none))))) := ((congrFun hc21 _).trans (up_ne _ _ (by omega))).trans e_n_42
    have a_n_43 : a21 (n + 43) = q120 := (congrFun ha21 _).trans (up_at _ _ _)
    have e_n_43 : c21 (n + 43) = .inr (3, [.null, .null, .null, .null, .int (zI (0)), .int (zI (0)), .null]) := (congrFun hc21 _).trans (up_at _ _ _)
    clear ha21 hc21
    refine lv_dup hx hb dX8_init_75 rfl ?_
    refine lv_aload_n hx hb dX8_init_76 rfl (lv_at hl 1 rfl) ?_
    refine va_get (D := g.1) (ci := 8) (v := .ref q109) (C := RX8) (T := TX8) (N := 7) hx hb hts hinX8 hown hK (nb1 hP (show x < n + 44 by omega) a_x e_x) 0 rfl rfl 4 (by decide) k28 (fun _ h9 => h9) rfl dX8_init_77 ?_
    refine lv_iload_n hx hb dX8_init_80 rfl (lv_at hl 0 rfl) ?_
    refine z_top (y := zI (((0 : Nat) : Int))) (congrArg zI (by omega)) ?_
    have hF9 := n_free hD hS hA
    have hS9 := hS
    refine va_callv (va_runI (As := [.ref q109, .int (zI (((0 : Nat) : Int)))]) (rest := [.ref q120, .int (zI (0)), .ref q117]) ⟨hx, hb, hml, hown, hts⟩ (c_X3_init_N l g (n + 44) (a21) (c21) (H.size) (n + 43) (by omega) (q120) (a_n_43) (n + 4) (by omega) (q109) (a_n_4) (n + 17) (by omega) ((a11 (n + 17))) (a_n_17) (n + 18) (by omega) ((a11 (n + 18))) (a_n_18) (.ref ((a11 ((n + 5))))) (.ref ((a11 ((n + 5) + 2)))) (.ref ((a11 ((n + 5) + 8)))) (.ref ((a11 ((n + 5) + 17)))) (fun i8 => some (a11 ((n + 5) + 13 + i8))) (0) (by omega) (rfl) ((fun _ => zI 0)) (by omega) (e_n_43) (e_n_4) (e_n_17) (e_n_18)) (cwI 2 hts gX8_init_X3_init rfl rfl rfl kJX3 kMl41 kIm_X3_init rfl (by decide +kernel) ⟨Nat.le_of_ble_eq_true rfl, Nat.le_of_ble_eq_true rfl⟩) (n_preS hP hD hK hN) rfl rfl hl.1 rfl (lv_room (Nat.le_of_ble_eq_true rfl)) dX8_init_81 ⟨Nat.le_of_ble_eq_true rfl, Nat.le_of_ble_eq_true rfl⟩) hS (fun q _ h => hF9 q h) hF9 (fun u9 t9 H1 locs ht9 hvm9 hw9 hB9 hz9 hk9 hS => ?_)
    obtain ⟨a22, c22⟩ := u9
    rw [ht9] at hB9
    clear hz9 hk9 hvm9 ht9 hF9
    try dsimp only at hw9 hB9
    obtain ⟨hq9, hu9, hp9_0, hp9_1, hp9_2, hp9_3, hp9_4⟩ := hw9
    have hD : va_D A (nL (n + 48) a22 c22) := n_joinD (n := n + 44) (m := 4) hD hS9 hA hq9
    clear hS9
    have hP : nP g (n + 48) a22 c22 H1 := hB9
    clear hB9
    generalize H1 = H at hP hS ⊢
    replace hexa : ∀ j : Nat, j < n → a22 j = ad j := fun j hj9 => (hq9.1 j (by omega)).trans (hexa j hj9)
    replace hexc : ∀ j : Nat, j < n → ¬ j = x → c22 j = ce j := fun j hj9 q0 => (hu9 j (by omega) (by omega)).trans (hexc j hj9 q0)
    replace fa_R1 : ∀ j : Nat, j < n + 23 → a22 j = a11 j := fun j hj9 => (hq9.1 j (by omega)).trans (fa_R1 j hj9)
    replace fa_R2 : ∀ j : Nat, j < n + 42 → a22 j = a15 j := fun j hj9 => (hq9.1 j (by omega)).trans (fa_R2 j hj9)
    replace fc_R1 : ∀ j : Nat, j < n + 23 → ¬ j = x → c22 j = c11 j := fun j hj9 q9_0 => (hu9 j (by omega) (by omega)).trans (fc_R1 j hj9 q9_0)
    replace fc_R2 : ∀ j : Nat, j < n + 42 → ¬ j = x → c22 j = c15 j := fun j hj9 q9_0 => (hu9 j (by omega) (by omega)).trans (fc_R2 j hj9 q9_0)
    replace a_x : a22 (x) = h0 := (hq9.1 _ (by omega)).trans a_x
    replace e_x : c22 (x) = .inr (8, [.ref q101, .ref q105, .ref q117, .null, .ref q109, .ref q113, .int (zI (0))]) := (hu9 _ (by omega) (by omega)).trans e_x
    replace a_n : a22 (n) = q101 := (hq9.1 _ (by omega)).trans a_n
    replace e_n : c22 (n) = .inr (5, [.ref ((a3 ((n + 1)))), .int (zI (0))]) := (hu9 _ (by omega) (by omega)).trans e_n
    replace a_n_1 : a22 (n + 1) = (a3 (n + 1)) := (hq9.1 _ (by omega)).trans a_n_1
    replace e_n_1 : c22 (n + 1) = .inl (g.2 1, 740, .inl (fun _ => zI 0)) := (hu9 _ (by omega) (by omega)).trans e_n_1
    replace a_n_2 : a22 (n + 2) = q105 := (hq9.1 _ (by omega)).trans a_n_2
    replace e_n_2 : c22 (n + 2) = .inr (6, [.ref q101, .ref ((a7 ((n + 3)))), .int (zI (0)), .int (zI (0))]) := (hu9 _ (by omega) (by omega)).trans e_n_2
    replace a_n_3 : a22 (n + 3) = (a7 (n + 3)) := (hq9.1 _ (by omega)).trans a_n_3
    replace e_n_3 : c22 (n + 3) = .inr (7, [.ref q101, .int (zI (0)), .int (zI (0)), .int (zI (0)), .int (zI (0))]) := (hu9 _ (by omega) (by omega)).trans e_n_3
    replace a_n_4 : a22 (n + 4) = q109 := (hq9.1 _ (by omega)).trans a_n_4
    replace e_n_4 : c22 (n + 4) = .inr (2, [.ref ((a11 ((n + 5)))), .ref ((a11 ((n + 5) + 2))), .ref ((a11 ((n + 5) + 8))), .ref ((a11 ((n + 5) + 12))), .ref ((a11 ((n + 5) + 17)))]) := (hu9 _ (by omega) (by omega)).trans e_n_4
    replace a_n_17 : a22 (n + 17) = (a11 (n + 17)) := (hq9.1 _ (by omega)).trans a_n_17
    replace e_n_17 : c22 (n + 17) = .inl (g.2 6, 4, .inr (.inr (.inr (.inr (fun i8 => some (a11 ((n + 5) + 13 + i8))))))) := (hu9 _ (by omega) (by omega)).trans e_n_17
    replace a_n_18 : a22 (n + 18) = (a11 (n + 18)) := (hq9.1 _ (by omega)).trans a_n_18
    replace e_n_18 : c22 (n + 18) = .inl (g.2 0, 2, .inl (fun _ => zI 0)) := (hu9 _ (by omega) (by omega)).trans e_n_18
    replace a_n_19 : a22 (n + 19) = (a11 (n + 19)) := (hq9.1 _ (by omega)).trans a_n_19
    replace e_n_19 : c22 (n + 19) = .inl (g.2 0, 2, .inl (fun _ => zI 0)) := (hu9 _ (by omega) (by omega)).trans e_n_19
    replace a_n_20 : a22 (n + 20) = (a11 (n + 20)) := (hq9.1 _ (by omega)).trans a_n_20
    replace e_n_20 : c22 (n + 20) = .inl (g.2 0, 2, .inl (fun _ => zI 0)) := (hu9 _ (by omega) (by omega)).trans e_n_20
    replace a_n_21 : a22 (n + 21) = (a11 (n + 21)) := (hq9.1 _ (by omega)).trans a_n_21
    replace e_n_21 : c22 (n + 21) = .inl (g.2 0, 2, .inl (fun _ => zI 0)) := (hu9 _ (by omega) (by omega)).trans e_n_21
    replace a_n_23 : a22 (n + 23) = q113 := (hq9.1 _ (by omega)).trans a_n_23
    replace e_n_23 : c22 (n + 23) = .inr (2, [.ref ((a15 ((n + 24)))), .ref ((a15 ((n + 24) + 2))), .ref ((a15 ((n + 24) + 8))), .ref ((a15 ((n + 24) + 12))), .ref ((a15 ((n + 24) + 17)))]) := (hu9 _ (by omega) (by omega)).trans e_n_23
    replace a_n_42 : a22 (n + 42) = q117 := (hq9.1 _ (by omega)).trans a_n_42
    replace e_n_42 : c22 (n + 42) = .inl (g.2 4, 4, .inr (.inr (.inr (.inr (fun _ => none))))) := (hu9 _ (by omega) (by omega)).trans e_n_42
    replace a_n_43 : a22 (n + 43) = q120 := (hq9.1 _ (by omega)).trans a_n_43
    have e_n_43 : c22 (n + 43) = .inr (3, [.ref ((a22 ((n + 44)))), .ref ((a22 ((n + 44) + 1))), .ref ((a22 ((n + 44) + 2))), .ref ((a22 ((n + 44) + 3))), .int ((fun _ => zI 0) 0), .int ((fun _ => zI 0) 1), .ref q109]) := hp9_0
    have a_n_44 : a22 (n + 44) = a22 (n + 44) := rfl
    have e_n_44 : c22 (n + 44) = .inl (g.2 0, 364, .inl (fillR (zI (-1)) (fun _ => zI 0) 364)) := hp9_1
    have a_n_45 : a22 (n + 45) = a22 (n + 45) := rfl
    have e_n_45 : c22 (n + 45) = .inl (g.2 0, 364, .inl (fillR (zI (0)) (fun _ => zI 0) 364)) := hp9_2
    have a_n_46 : a22 (n + 46) = a22 (n + 46) := rfl
    have e_n_46 : c22 (n + 46) = .inl (g.2 2, 364, .inl (fillR (zI (0)) (fun _ => zI 0) 364)) := hp9_3
    have a_n_47 : a22 (n + 47) = a22 (n + 47) := rfl
    have e_n_47 : c22 (n + 47) = .inr (0, [.int (zI (0)), .int (zI (0)), .int (zI (0)), .int (zI (0)), .int (zI (0)), .int (zI (0)), .int (zI (0)), .int (zI (0)), .int (zI (365))]) := hp9_4
    clear hq9 hu9 hp9_0 hp9_1 hp9_2 hp9_3 hp9_4
    have fa_S0 : ∀ j : Nat, j < n + 48 → a22 j = a22 j := fun _ _ => rfl
    have fc_S0 : ∀ j : Nat, j < n + 48 → ¬ j = x → ¬ j = n + 42 → c22 j = c22 j := fun _ _ _ _ => rfl
    have hsh0 : shC g a22 c22 (n + 43) q109 := ⟨e_n_43, e_n_44, e_n_45, e_n_46, e_n_47⟩
    clear a_n_44 e_n_44 a_n_45 e_n_45 a_n_46 e_n_46 a_n_47 e_n_47
    refine n_aast hx hb hK hP hD hS (n + 42) (show n + 42 < n + 48 by omega) a_n_42 4 e_n_42 3 rfl rfl (by decide) (n + 43) (show n + 43 < n + 48 by omega) a_n_43 e_n_43 (0) (by omega) (by omega) dX8_init_84 (fun H locs hP hD hS => ?_)
    obtain ⟨c23, hc23⟩ : ∃ x9 : Nat → va_E, x9 = va_up c22 (n + 42) (.inl (g.2 4, 4, .inr (.inr (.inr (.inr (va_up (fun _ => none) 0 (some q120))))))) := ⟨_, rfl⟩
    have hP : nP g (n + 48) a22 c23 H := by rw [hc23]; exact hP
    have hD : va_D A (nL (n + 48) a22 c23) := by rw [hc23]; exact hD
    replace hexc : ∀ j : Nat, j < n → ¬ j = x → c23 j = ce j := fun j hj9 q0 => ((congrFun hc23 j).trans (up_ne _ _ (by omega))).trans (hexc j hj9 q0)
    replace fc_R1 : ∀ j : Nat, j < n + 23 → ¬ j = x → c23 j = c11 j := fun j hj9 q9_0 => ((congrFun hc23 j).trans (up_ne _ _ (by omega))).trans (fc_R1 j hj9 q9_0)
    replace fc_R2 : ∀ j : Nat, j < n + 42 → ¬ j = x → c23 j = c15 j := fun j hj9 q9_0 => ((congrFun hc23 j).trans (up_ne _ _ (by omega))).trans (fc_R2 j hj9 q9_0)
    replace fc_S0 : ∀ j : Nat, j < n + 48 → ¬ j = x → ¬ j = n + 42 → c23 j = c22 j := fun j hj9 q9_0 q9_1 => ((congrFun hc23 j).trans (up_ne _ _ q9_1)).trans (fc_S0 j hj9 q9_0 q9_1)
    replace e_x : c23 (x) = .inr (8, [.ref q101, .ref q105, .ref q117, .null, .ref q109, .ref q113, .int (zI (0))]) := ((congrFun hc23 _).trans (up_ne _ _ (by omega))).trans e_x
    replace e_n : c23 (n) = .inr (5, [.ref ((a3 ((n + 1)))), .int (zI (0))]) := ((congrFun hc23 _).trans (up_ne _ _ (by omega))).trans e_n
    replace e_n_1 : c23 (n + 1) = .inl (g.2 1, 740, .inl (fun _ => zI 0)) := ((congrFun hc23 _).trans (up_ne _ _ (by omega))).trans e_n_1
    replace e_n_2 : c23 (n + 2) = .inr (6, [.ref q101, .ref ((a7 ((n + 3)))), .int (zI (0)), .int (zI (0))]) := ((congrFun hc23 _).trans (up_ne _ _ (by omega))).trans e_n_2
    replace e_n_3 : c23 (n + 3) = .inr (7, [.ref q101, .int (zI (0)), .int (zI (0)), .int (zI (0)), .int (zI (0))]) := ((congrFun hc23 _).trans (up_ne _ _ (by omega))).trans e_n_3
    replace e_n_4 : c23 (n + 4) = .inr (2, [.ref ((a11 ((n + 5)))), .ref ((a11 ((n + 5) + 2))), .ref ((a11 ((n + 5) + 8))), .ref ((a11 ((n + 5) + 12))), .ref ((a11 ((n + 5) + 17)))]) := ((congrFun hc23 _).trans (up_ne _ _ (by omega))).trans e_n_4
    replace e_n_17 : c23 (n + 17) = .inl (g.2 6, 4, .inr (.inr (.inr (.inr (fun i8 => some (a11 ((n + 5) + 13 + i8))))))) := ((congrFun hc23 _).trans (up_ne _ _ (by omega))).trans e_n_17
    replace e_n_18 : c23 (n + 18) = .inl (g.2 0, 2, .inl (fun _ => zI 0)) := ((congrFun hc23 _).trans (up_ne _ _ (by omega))).trans e_n_18
    replace e_n_19 : c23 (n + 19) = .inl (g.2 0, 2, .inl (fun _ => zI 0)) := ((congrFun hc23 _).trans (up_ne _ _ (by omega))).trans e_n_19
    replace e_n_20 : c23 (n + 20) = .inl (g.2 0, 2, .inl (fun _ => zI 0)) := ((congrFun hc23 _).trans (up_ne _ _ (by omega))).trans e_n_20
    replace e_n_21 : c23 (n + 21) = .inl (g.2 0, 2, .inl (fun _ => zI 0)) := ((congrFun hc23 _).trans (up_ne _ _ (by omega))).trans e_n_21
    replace e_n_23 : c23 (n + 23) = .inr (2, [.ref ((a15 ((n + 24)))), .ref ((a15 ((n + 24) + 2))), .ref ((a15 ((n + 24) + 8))), .ref ((a15 ((n + 24) + 12))), .ref ((a15 ((n + 24) + 17)))]) := ((congrFun hc23 _).trans (up_ne _ _ (by omega))).trans e_n_23
    replace e_n_42 : c23 (n + 42) = .inl (g.2 4, 4, .inr (.inr (.inr (.inr (va_up (fun _ => none) 0 (some q120)))))) := (congrFun hc23 _).trans (up_at _ _ _)
    replace e_n_43 : c23 (n + 43) = .inr (3, [.ref ((a22 ((n + 44)))), .ref ((a22 ((n + 44) + 1))), .ref ((a22 ((n + 44) + 2))), .ref ((a22 ((n + 44) + 3))), .int ((fun _ => zI 0) 0), .int ((fun _ => zI 0) 1), .ref q109]) := ((congrFun hc23 _).trans (up_ne _ _ (by omega))).trans e_n_43
    clear hc23
    refine z_iinc (lv' := [(1, .int (zI (0 + 1))), (0, .ref h0)]) hx hb dX8_init_85 hl (k := 0) rfl (by decide) rfl (fun ls hl => ?_)
    refine lv_goto (tgt := 62) hx hb dX8_init_88 (by decide) ?_
    refine lv_iload_n hx hb dX8_init_62 rfl (lv_at hl 0 rfl) ?_
    refine lv_iconst (v := zI (4)) hx hb dX8_init_63 (by decide) ?_
    refine z_icmp_ge (tgt := 91) hx hb dX8_init_64 (by decide) (by omega) (by omega) (fun h64 => ?_) (fun h64 => ?_)
    · exfalso; omega
    · refine lv_aload_n hx hb dX8_init_67 rfl (lv_at hl 1 rfl) ?_
      refine va_get (D := g.1) (ci := 8) (v := .ref q117) (C := RX8) (T := TX8) (N := 7) hx hb hts hinX8 hown hK (nb1 hP (show x < n + 48 by omega) a_x e_x) 0 rfl rfl 2 (by decide) k37 (fun _ h9 => h9) rfl dX8_init_68 ?_
      refine lv_iload_n hx hb dX8_init_71 rfl (lv_at hl 0 rfl) ?_
      refine n_new (ci := 3) (fs := [.null, .null, .null, .null, .int (zI (0)), .int (zI (0)), .null]) (C := RX3) (T := TX3) (N := 7) hx hb hts hinX3 tyX3 tyX3_ok hown kN35 kIX3 kJX3 hK hP hD hS hA rfl (fun j hj => by rcases (show j = 0 ∨ j = 1 ∨ j = 2 ∨ j = 3 ∨ j = 4 ∨ j = 5 ∨ j = 6 by omega) with rfl | rfl | rfl | rfl | rfl | rfl | rfl <;> rfl) (Nat.le_of_ble_eq_true rfl) (Nat.le_of_ble_eq_true rfl) dX8_init_72 (fun q124 H hP hD hS => ?_)
      obtain ⟨a25, ha25⟩ : ∃ x9 : Nat → Nat, x9 = va_up a22 (n + 48) q124 := ⟨_, rfl⟩
      obtain ⟨c25, hc25⟩ : ∃ x9 : Nat → va_E, x9 = va_up c23 (n + 48) (.inr (3, [.null, .null, .null, .null, .int (zI (0)), .int (zI (0)), .null])) := ⟨_, rfl⟩
      have hP : nP g (n + 49) a25 c25 H := by rw [ha25, hc25]; exact hP
      have hD : va_D A (nL (n + 49) a25 c25) := by rw [ha25, hc25]; exact hD
      replace hexa : ∀ j : Nat, j < n → a25 j = ad j := fun j hj9 => ((congrFun ha25 j).trans (up_ne _ _ (by omega))).trans (hexa j hj9)
      replace hexc : ∀ j : Nat, j < n → ¬ j = x → c25 j = ce j := fun j hj9 q0 => ((congrFun hc25 j).trans (up_ne _ _ (by omega))).trans (hexc j hj9 q0)
      replace fa_R1 : ∀ j : Nat, j < n + 23 → a25 j = a11 j := fun j hj9 => ((congrFun ha25 j).trans (up_ne _ _ (by omega))).trans (fa_R1 j hj9)
      replace fa_R2 : ∀ j : Nat, j < n + 42 → a25 j = a15 j := fun j hj9 => ((congrFun ha25 j).trans (up_ne _ _ (by omega))).trans (fa_R2 j hj9)
      replace fa_S0 : ∀ j : Nat, j < n + 48 → a25 j = a22 j := fun j hj9 => ((congrFun ha25 j).trans (up_ne _ _ (by omega))).trans (fa_S0 j hj9)
      replace fc_R1 : ∀ j : Nat, j < n + 23 → ¬ j = x → c25 j = c11 j := fun j hj9 q9_0 => ((congrFun hc25 j).trans (up_ne _ _ (by omega))).trans (fc_R1 j hj9 q9_0)
      replace fc_R2 : ∀ j : Nat, j < n + 42 → ¬ j = x → c25 j = c15 j := fun j hj9 q9_0 => ((congrFun hc25 j).trans (up_ne _ _ (by omega))).trans (fc_R2 j hj9 q9_0)
      replace fc_S0 : ∀ j : Nat, j < n + 48 → ¬ j = x → ¬ j = n + 42 → c25 j = c22 j := fun j hj9 q9_0 q9_1 => ((congrFun hc25 j).trans (up_ne _ _ (by omega))).trans (fc_S0 j hj9 q9_0 q9_1)
      replace a_x : a25 (x) = h0 := ((congrFun ha25 _).trans (up_ne _ _ (by omega))).trans a_x
      replace e_x : c25 (x) = .inr (8, [.ref q101, .ref q105, .ref q117, .null, .ref q109, .ref q113, .int (zI (0))]) := ((congrFun hc25 _).trans (up_ne _ _ (by omega))).trans e_x
      replace a_n : a25 (n) = q101 := ((congrFun ha25 _).trans (up_ne _ _ (by omega))).trans a_n
      replace e_n : c25 (n) = .inr (5, [.ref ((a3 ((n + 1)))), .int (zI (0))]) := ((congrFun hc25 _).trans (up_ne _ _ (by omega))).trans e_n
      replace a_n_1 : a25 (n + 1) = (a3 (n + 1)) := ((congrFun ha25 _).trans (up_ne _ _ (by omega))).trans a_n_1
      replace e_n_1 : c25 (n + 1) = .inl (g.2 1, 740, .inl (fun _ => zI 0)) := ((congrFun hc25 _).trans (up_ne _ _ (by omega))).trans e_n_1
      replace a_n_2 : a25 (n + 2) = q105 := ((congrFun ha25 _).trans (up_ne _ _ (by omega))).trans a_n_2
      replace e_n_2 : c25 (n + 2) = .inr (6, [.ref q101, .ref ((a7 ((n + 3)))), .int (zI (0)), .int (zI (0))]) := ((congrFun hc25 _).trans (up_ne _ _ (by omega))).trans e_n_2
      replace a_n_3 : a25 (n + 3) = (a7 (n + 3)) := ((congrFun ha25 _).trans (up_ne _ _ (by omega))).trans a_n_3
      replace e_n_3 : c25 (n + 3) = .inr (7, [.ref q101, .int (zI (0)), .int (zI (0)), .int (zI (0)), .int (zI (0))]) := ((congrFun hc25 _).trans (up_ne _ _ (by omega))).trans e_n_3
      replace a_n_4 : a25 (n + 4) = q109 := ((congrFun ha25 _).trans (up_ne _ _ (by omega))).trans a_n_4
      replace e_n_4 : c25 (n + 4) = .inr (2, [.ref ((a11 ((n + 5)))), .ref ((a11 ((n + 5) + 2))), .ref ((a11 ((n + 5) + 8))), .ref ((a11 ((n + 5) + 12))), .ref ((a11 ((n + 5) + 17)))]) := ((congrFun hc25 _).trans (up_ne _ _ (by omega))).trans e_n_4
      replace a_n_17 : a25 (n + 17) = (a11 (n + 17)) := ((congrFun ha25 _).trans (up_ne _ _ (by omega))).trans a_n_17
      replace e_n_17 : c25 (n + 17) = .inl (g.2 6, 4, .inr (.inr (.inr (.inr (fun i8 => some (a11 ((n + 5) + 13 + i8))))))) := ((congrFun hc25 _).trans (up_ne _ _ (by omega))).trans e_n_17
      replace a_n_18 : a25 (n + 18) = (a11 (n + 18)) := ((congrFun ha25 _).trans (up_ne _ _ (by omega))).trans a_n_18
      replace e_n_18 : c25 (n + 18) = .inl (g.2 0, 2, .inl (fun _ => zI 0)) := ((congrFun hc25 _).trans (up_ne _ _ (by omega))).trans e_n_18
      replace a_n_19 : a25 (n + 19) = (a11 (n + 19)) := ((congrFun ha25 _).trans (up_ne _ _ (by omega))).trans a_n_19
      replace e_n_19 : c25 (n + 19) = .inl (g.2 0, 2, .inl (fun _ => zI 0)) := ((congrFun hc25 _).trans (up_ne _ _ (by omega))).trans e_n_19
      replace a_n_20 : a25 (n + 20) = (a11 (n + 20)) := ((congrFun ha25 _).trans (up_ne _ _ (by omega))).trans a_n_20
      replace e_n_20 : c25 (n + 20) = .inl (g.2 0, 2, .inl (fun _ => zI 0)) := ((congrFun hc25 _).trans (up_ne _ _ (by omega))).trans e_n_20
      replace a_n_21 : a25 (n + 21) = (a11 (n + 21)) := ((congrFun ha25 _).trans (up_ne _ _ (by omega))).trans a_n_21
      replace e_n_21 : c25 (n + 21) = .inl (g.2 0, 2, .inl (fun _ => zI 0)) := ((congrFun hc25 _).trans (up_ne _ _ (by omega))).trans e_n_21
      replace a_n_23 : a25 (n + 23) = q113 := ((congrFun ha25 _).trans (up_ne _ _ (by omega))).trans a_n_23
      replace e_n_23 : c25 (n + 23) = .inr (2, [.ref ((a15 ((n + 24)))), .ref ((a15 ((n + 24) + 2))), .ref ((a15 ((n + 24) + 8))), .ref ((a15 ((n + 24) + 12))), .ref ((a15 ((n + 24) + 17)))]) := ((congrFun hc25 _).trans (up_ne _ _ (by omega))).trans e_n_23
      replace a_n_42 : a25 (n + 42) = q117 := ((congrFun ha25 _).trans (up_ne _ _ (by omega))).trans a_n_42
      replace e_n_42 : c25 (n + 42) = .inl (g.2 4, 4, .inr (.inr (.inr (.inr (va_up (fun _ => none) 0 (some q120)))))) := ((congrFun hc25 _).trans (up_ne _ _ (by omega))).trans e_n_42
      replace a_n_43 : a25 (n + 43) = q120 := ((congrFun ha25 _).trans (up_ne _ _ (by omega))).trans a_n_43
      replace e_n_43 : c25 (n + 43) = .inr (3, [.ref ((a22 ((n + 44)))), .ref ((a22 ((n + 44) + 1))), .ref ((a22 ((n + 44) + 2))), .ref ((a22 ((n + 44) + 3))), .int ((fun _ => zI 0) 0), .int ((fun _ => zI 0) 1), .ref q109]) := ((congrFun hc25 _).trans (up_ne _ _ (by omega))).trans e_n_43
      have a_n_48 : a25 (n + 48) = q124 := (congrFun ha25 _).trans (up_at _ _ _)
      have e_n_48 : c25 (n + 48) = .inr (3, [.null, .null, .null, .null, .int (zI (0)), .int (zI (0)), .null]) := (congrFun hc25 _).trans (up_at _ _ _)
      clear ha25 hc25
      refine lv_dup hx hb dX8_init_75 rfl ?_
      refine lv_aload_n hx hb dX8_init_76 rfl (lv_at hl 1 rfl) ?_
      refine va_get (D := g.1) (ci := 8) (v := .ref q109) (C := RX8) (T := TX8) (N := 7) hx hb hts hinX8 hown hK (nb1 hP (show x < n + 49 by omega) a_x e_x) 0 rfl rfl 4 (by decide) k28 (fun _ h9 => h9) rfl dX8_init_77 ?_
      refine lv_iload_n hx hb dX8_init_80 rfl (lv_at hl 0 rfl) ?_
      refine z_top (y := zI (((1 : Nat) : Int))) (congrArg zI (by omega)) ?_
      have hF9 := n_free hD hS hA
      have hS9 := hS
      refine va_callv (va_runI (As := [.ref q109, .int (zI (((1 : Nat) : Int)))]) (rest := [.ref q124, .int (zI (0 + 1)), .ref q117]) ⟨hx, hb, hml, hown, hts⟩ (c_X3_init_N l g (n + 49) (a25) (c25) (H.size) (n + 48) (by omega) (q124) (a_n_48) (n + 4) (by omega) (q109) (a_n_4) (n + 17) (by omega) ((a11 (n + 17))) (a_n_17) (n + 19) (by omega) ((a11 (n + 19))) (a_n_19) (.ref ((a11 ((n + 5))))) (.ref ((a11 ((n + 5) + 2)))) (.ref ((a11 ((n + 5) + 8)))) (.ref ((a11 ((n + 5) + 17)))) (fun i8 => some (a11 ((n + 5) + 13 + i8))) (1) (by omega) (rfl) ((fun _ => zI 0)) (by omega) (e_n_48) (e_n_4) (e_n_17) (e_n_19)) (cwI 2 hts gX8_init_X3_init rfl rfl rfl kJX3 kMl41 kIm_X3_init rfl (by decide +kernel) ⟨Nat.le_of_ble_eq_true rfl, Nat.le_of_ble_eq_true rfl⟩) (n_preS hP hD hK hN) rfl rfl hl.1 rfl (lv_room (Nat.le_of_ble_eq_true rfl)) dX8_init_81 ⟨Nat.le_of_ble_eq_true rfl, Nat.le_of_ble_eq_true rfl⟩) hS (fun q _ h => hF9 q h) hF9 (fun u9 t9 H1 locs ht9 hvm9 hw9 hB9 hz9 hk9 hS => ?_)
      obtain ⟨a26, c26⟩ := u9
      rw [ht9] at hB9
      clear hz9 hk9 hvm9 ht9 hF9
      try dsimp only at hw9 hB9
      obtain ⟨hq9, hu9, hp9_0, hp9_1, hp9_2, hp9_3, hp9_4⟩ := hw9
      have hD : va_D A (nL (n + 53) a26 c26) := n_joinD (n := n + 49) (m := 4) hD hS9 hA hq9
      clear hS9
      have hP : nP g (n + 53) a26 c26 H1 := hB9
      clear hB9
      generalize H1 = H at hP hS ⊢
      replace hexa : ∀ j : Nat, j < n → a26 j = ad j := fun j hj9 => (hq9.1 j (by omega)).trans (hexa j hj9)
      replace hexc : ∀ j : Nat, j < n → ¬ j = x → c26 j = ce j := fun j hj9 q0 => (hu9 j (by omega) (by omega)).trans (hexc j hj9 q0)
      replace fa_R1 : ∀ j : Nat, j < n + 23 → a26 j = a11 j := fun j hj9 => (hq9.1 j (by omega)).trans (fa_R1 j hj9)
      replace fa_R2 : ∀ j : Nat, j < n + 42 → a26 j = a15 j := fun j hj9 => (hq9.1 j (by omega)).trans (fa_R2 j hj9)
      replace fa_S0 : ∀ j : Nat, j < n + 48 → a26 j = a22 j := fun j hj9 => (hq9.1 j (by omega)).trans (fa_S0 j hj9)
      replace fc_R1 : ∀ j : Nat, j < n + 23 → ¬ j = x → c26 j = c11 j := fun j hj9 q9_0 => (hu9 j (by omega) (by omega)).trans (fc_R1 j hj9 q9_0)
      replace fc_R2 : ∀ j : Nat, j < n + 42 → ¬ j = x → c26 j = c15 j := fun j hj9 q9_0 => (hu9 j (by omega) (by omega)).trans (fc_R2 j hj9 q9_0)
      replace fc_S0 : ∀ j : Nat, j < n + 48 → ¬ j = x → ¬ j = n + 42 → c26 j = c22 j := fun j hj9 q9_0 q9_1 => (hu9 j (by omega) (by omega)).trans (fc_S0 j hj9 q9_0 q9_1)
      replace a_x : a26 (x) = h0 := (hq9.1 _ (by omega)).trans a_x
      replace e_x : c26 (x) = .inr (8, [.ref q101, .ref q105, .ref q117, .null, .ref q109, .ref q113, .int (zI (0))]) := (hu9 _ (by omega) (by omega)).trans e_x
      replace a_n : a26 (n) = q101 := (hq9.1 _ (by omega)).trans a_n
      replace e_n : c26 (n) = .inr (5, [.ref ((a3 ((n + 1)))), .int (zI (0))]) := (hu9 _ (by omega) (by omega)).trans e_n
      replace a_n_1 : a26 (n + 1) = (a3 (n + 1)) := (hq9.1 _ (by omega)).trans a_n_1
      replace e_n_1 : c26 (n + 1) = .inl (g.2 1, 740, .inl (fun _ => zI 0)) := (hu9 _ (by omega) (by omega)).trans e_n_1
      replace a_n_2 : a26 (n + 2) = q105 := (hq9.1 _ (by omega)).trans a_n_2
      replace e_n_2 : c26 (n + 2) = .inr (6, [.ref q101, .ref ((a7 ((n + 3)))), .int (zI (0)), .int (zI (0))]) := (hu9 _ (by omega) (by omega)).trans e_n_2
      replace a_n_3 : a26 (n + 3) = (a7 (n + 3)) := (hq9.1 _ (by omega)).trans a_n_3
      replace e_n_3 : c26 (n + 3) = .inr (7, [.ref q101, .int (zI (0)), .int (zI (0)), .int (zI (0)), .int (zI (0))]) := (hu9 _ (by omega) (by omega)).trans e_n_3
      replace a_n_4 : a26 (n + 4) = q109 := (hq9.1 _ (by omega)).trans a_n_4
      replace e_n_4 : c26 (n + 4) = .inr (2, [.ref ((a11 ((n + 5)))), .ref ((a11 ((n + 5) + 2))), .ref ((a11 ((n + 5) + 8))), .ref ((a11 ((n + 5) + 12))), .ref ((a11 ((n + 5) + 17)))]) := (hu9 _ (by omega) (by omega)).trans e_n_4
      replace a_n_17 : a26 (n + 17) = (a11 (n + 17)) := (hq9.1 _ (by omega)).trans a_n_17
      replace e_n_17 : c26 (n + 17) = .inl (g.2 6, 4, .inr (.inr (.inr (.inr (fun i8 => some (a11 ((n + 5) + 13 + i8))))))) := (hu9 _ (by omega) (by omega)).trans e_n_17
      replace a_n_18 : a26 (n + 18) = (a11 (n + 18)) := (hq9.1 _ (by omega)).trans a_n_18
      replace e_n_18 : c26 (n + 18) = .inl (g.2 0, 2, .inl (fun _ => zI 0)) := (hu9 _ (by omega) (by omega)).trans e_n_18
      replace a_n_19 : a26 (n + 19) = (a11 (n + 19)) := (hq9.1 _ (by omega)).trans a_n_19
      replace e_n_19 : c26 (n + 19) = .inl (g.2 0, 2, .inl (fun _ => zI 0)) := (hu9 _ (by omega) (by omega)).trans e_n_19
      replace a_n_20 : a26 (n + 20) = (a11 (n + 20)) := (hq9.1 _ (by omega)).trans a_n_20
      replace e_n_20 : c26 (n + 20) = .inl (g.2 0, 2, .inl (fun _ => zI 0)) := (hu9 _ (by omega) (by omega)).trans e_n_20
      replace a_n_21 : a26 (n + 21) = (a11 (n + 21)) := (hq9.1 _ (by omega)).trans a_n_21
      replace e_n_21 : c26 (n + 21) = .inl (g.2 0, 2, .inl (fun _ => zI 0)) := (hu9 _ (by omega) (by omega)).trans e_n_21
      replace a_n_23 : a26 (n + 23) = q113 := (hq9.1 _ (by omega)).trans a_n_23
      replace e_n_23 : c26 (n + 23) = .inr (2, [.ref ((a15 ((n + 24)))), .ref ((a15 ((n + 24) + 2))), .ref ((a15 ((n + 24) + 8))), .ref ((a15 ((n + 24) + 12))), .ref ((a15 ((n + 24) + 17)))]) := (hu9 _ (by omega) (by omega)).trans e_n_23
      replace a_n_42 : a26 (n + 42) = q117 := (hq9.1 _ (by omega)).trans a_n_42
      replace e_n_42 : c26 (n + 42) = .inl (g.2 4, 4, .inr (.inr (.inr (.inr (va_up (fun _ => none) 0 (some q120)))))) := (hu9 _ (by omega) (by omega)).trans e_n_42
      replace a_n_43 : a26 (n + 43) = q120 := (hq9.1 _ (by omega)).trans a_n_43
      replace e_n_43 : c26 (n + 43) = .inr (3, [.ref ((a22 ((n + 44)))), .ref ((a22 ((n + 44) + 1))), .ref ((a22 ((n + 44) + 2))), .ref ((a22 ((n + 44) + 3))), .int ((fun _ => zI 0) 0), .int ((fun _ => zI 0) 1), .ref q109]) := (hu9 _ (by omega) (by omega)).trans e_n_43
      replace a_n_48 : a26 (n + 48) = q124 := (hq9.1 _ (by omega)).trans a_n_48
      have e_n_48 : c26 (n + 48) = .inr (3, [.ref ((a26 ((n + 49)))), .ref ((a26 ((n + 49) + 1))), .ref ((a26 ((n + 49) + 2))), .ref ((a26 ((n + 49) + 3))), .int ((fun _ => zI 0) 0), .int ((fun _ => zI 0) 1), .ref q109]) := hp9_0
      have a_n_49 : a26 (n + 49) = a26 (n + 49) := rfl
      have e_n_49 : c26 (n + 49) = .inl (g.2 0, 364, .inl (fillR (zI (-1)) (fun _ => zI 0) 364)) := hp9_1
      have a_n_50 : a26 (n + 50) = a26 (n + 50) := rfl
      have e_n_50 : c26 (n + 50) = .inl (g.2 0, 364, .inl (fillR (zI (0)) (fun _ => zI 0) 364)) := hp9_2
      have a_n_51 : a26 (n + 51) = a26 (n + 51) := rfl
      have e_n_51 : c26 (n + 51) = .inl (g.2 2, 364, .inl (fillR (zI (0)) (fun _ => zI 0) 364)) := hp9_3
      have a_n_52 : a26 (n + 52) = a26 (n + 52) := rfl
      have e_n_52 : c26 (n + 52) = .inr (0, [.int (zI (0)), .int (zI (0)), .int (zI (0)), .int (zI (0)), .int (zI (0)), .int (zI (0)), .int (zI (0)), .int (zI (0)), .int (zI (365))]) := hp9_4
      clear hq9 hu9 hp9_0 hp9_1 hp9_2 hp9_3 hp9_4
      have fa_S1 : ∀ j : Nat, j < n + 53 → a26 j = a26 j := fun _ _ => rfl
      have fc_S1 : ∀ j : Nat, j < n + 53 → ¬ j = x → ¬ j = n + 42 → c26 j = c26 j := fun _ _ _ _ => rfl
      have hsh1 : shC g a26 c26 (n + 48) q109 := ⟨e_n_48, e_n_49, e_n_50, e_n_51, e_n_52⟩
      clear a_n_49 e_n_49 a_n_50 e_n_50 a_n_51 e_n_51 a_n_52 e_n_52
      refine n_aast hx hb hK hP hD hS (n + 42) (show n + 42 < n + 53 by omega) a_n_42 4 e_n_42 3 rfl rfl (by decide) (n + 48) (show n + 48 < n + 53 by omega) a_n_48 e_n_48 (1) (by omega) (by omega) dX8_init_84 (fun H locs hP hD hS => ?_)
      obtain ⟨c27, hc27⟩ : ∃ x9 : Nat → va_E, x9 = va_up c26 (n + 42) (.inl (g.2 4, 4, .inr (.inr (.inr (.inr (va_up (va_up (fun _ => none) 0 (some q120)) 1 (some q124))))))) := ⟨_, rfl⟩
      have hP : nP g (n + 53) a26 c27 H := by rw [hc27]; exact hP
      have hD : va_D A (nL (n + 53) a26 c27) := by rw [hc27]; exact hD
      replace hexc : ∀ j : Nat, j < n → ¬ j = x → c27 j = ce j := fun j hj9 q0 => ((congrFun hc27 j).trans (up_ne _ _ (by omega))).trans (hexc j hj9 q0)
      replace fc_R1 : ∀ j : Nat, j < n + 23 → ¬ j = x → c27 j = c11 j := fun j hj9 q9_0 => ((congrFun hc27 j).trans (up_ne _ _ (by omega))).trans (fc_R1 j hj9 q9_0)
      replace fc_R2 : ∀ j : Nat, j < n + 42 → ¬ j = x → c27 j = c15 j := fun j hj9 q9_0 => ((congrFun hc27 j).trans (up_ne _ _ (by omega))).trans (fc_R2 j hj9 q9_0)
      replace fc_S0 : ∀ j : Nat, j < n + 48 → ¬ j = x → ¬ j = n + 42 → c27 j = c22 j := fun j hj9 q9_0 q9_1 => ((congrFun hc27 j).trans (up_ne _ _ q9_1)).trans (fc_S0 j hj9 q9_0 q9_1)
      replace fc_S1 : ∀ j : Nat, j < n + 53 → ¬ j = x → ¬ j = n + 42 → c27 j = c26 j := fun j hj9 q9_0 q9_1 => ((congrFun hc27 j).trans (up_ne _ _ q9_1)).trans (fc_S1 j hj9 q9_0 q9_1)
      replace e_x : c27 (x) = .inr (8, [.ref q101, .ref q105, .ref q117, .null, .ref q109, .ref q113, .int (zI (0))]) := ((congrFun hc27 _).trans (up_ne _ _ (by omega))).trans e_x
      replace e_n : c27 (n) = .inr (5, [.ref ((a3 ((n + 1)))), .int (zI (0))]) := ((congrFun hc27 _).trans (up_ne _ _ (by omega))).trans e_n
      replace e_n_1 : c27 (n + 1) = .inl (g.2 1, 740, .inl (fun _ => zI 0)) := ((congrFun hc27 _).trans (up_ne _ _ (by omega))).trans e_n_1
      replace e_n_2 : c27 (n + 2) = .inr (6, [.ref q101, .ref ((a7 ((n + 3)))), .int (zI (0)), .int (zI (0))]) := ((congrFun hc27 _).trans (up_ne _ _ (by omega))).trans e_n_2
      replace e_n_3 : c27 (n + 3) = .inr (7, [.ref q101, .int (zI (0)), .int (zI (0)), .int (zI (0)), .int (zI (0))]) := ((congrFun hc27 _).trans (up_ne _ _ (by omega))).trans e_n_3
      replace e_n_4 : c27 (n + 4) = .inr (2, [.ref ((a11 ((n + 5)))), .ref ((a11 ((n + 5) + 2))), .ref ((a11 ((n + 5) + 8))), .ref ((a11 ((n + 5) + 12))), .ref ((a11 ((n + 5) + 17)))]) := ((congrFun hc27 _).trans (up_ne _ _ (by omega))).trans e_n_4
      replace e_n_17 : c27 (n + 17) = .inl (g.2 6, 4, .inr (.inr (.inr (.inr (fun i8 => some (a11 ((n + 5) + 13 + i8))))))) := ((congrFun hc27 _).trans (up_ne _ _ (by omega))).trans e_n_17
      replace e_n_18 : c27 (n + 18) = .inl (g.2 0, 2, .inl (fun _ => zI 0)) := ((congrFun hc27 _).trans (up_ne _ _ (by omega))).trans e_n_18
      replace e_n_19 : c27 (n + 19) = .inl (g.2 0, 2, .inl (fun _ => zI 0)) := ((congrFun hc27 _).trans (up_ne _ _ (by omega))).trans e_n_19
      replace e_n_20 : c27 (n + 20) = .inl (g.2 0, 2, .inl (fun _ => zI 0)) := ((congrFun hc27 _).trans (up_ne _ _ (by omega))).trans e_n_20
      replace e_n_21 : c27 (n + 21) = .inl (g.2 0, 2, .inl (fun _ => zI 0)) := ((congrFun hc27 _).trans (up_ne _ _ (by omega))).trans e_n_21
      replace e_n_23 : c27 (n + 23) = .inr (2, [.ref ((a15 ((n + 24)))), .ref ((a15 ((n + 24) + 2))), .ref ((a15 ((n + 24) + 8))), .ref ((a15 ((n + 24) + 12))), .ref ((a15 ((n + 24) + 17)))]) := ((congrFun hc27 _).trans (up_ne _ _ (by omega))).trans e_n_23
      replace e_n_42 : c27 (n + 42) = .inl (g.2 4, 4, .inr (.inr (.inr (.inr (va_up (va_up (fun _ => none) 0 (some q120)) 1 (some q124)))))) := (congrFun hc27 _).trans (up_at _ _ _)
      replace e_n_43 : c27 (n + 43) = .inr (3, [.ref ((a22 ((n + 44)))), .ref ((a22 ((n + 44) + 1))), .ref ((a22 ((n + 44) + 2))), .ref ((a22 ((n + 44) + 3))), .int ((fun _ => zI 0) 0), .int ((fun _ => zI 0) 1), .ref q109]) := ((congrFun hc27 _).trans (up_ne _ _ (by omega))).trans e_n_43
      replace e_n_48 : c27 (n + 48) = .inr (3, [.ref ((a26 ((n + 49)))), .ref ((a26 ((n + 49) + 1))), .ref ((a26 ((n + 49) + 2))), .ref ((a26 ((n + 49) + 3))), .int ((fun _ => zI 0) 0), .int ((fun _ => zI 0) 1), .ref q109]) := ((congrFun hc27 _).trans (up_ne _ _ (by omega))).trans e_n_48
      clear hc27
      refine z_iinc (lv' := [(1, .int (zI ((0 + 1) + 1))), (0, .ref h0)]) hx hb dX8_init_85 hl (k := 0) rfl (by decide) rfl (fun ls hl => ?_)
      refine lv_goto (tgt := 62) hx hb dX8_init_88 (by decide) ?_
      refine lv_iload_n hx hb dX8_init_62 rfl (lv_at hl 0 rfl) ?_
      refine lv_iconst (v := zI (4)) hx hb dX8_init_63 (by decide) ?_
      refine z_icmp_ge (tgt := 91) hx hb dX8_init_64 (by decide) (by omega) (by omega) (fun h64 => ?_) (fun h64 => ?_)
      · exfalso; omega
      · refine lv_aload_n hx hb dX8_init_67 rfl (lv_at hl 1 rfl) ?_
        refine va_get (D := g.1) (ci := 8) (v := .ref q117) (C := RX8) (T := TX8) (N := 7) hx hb hts hinX8 hown hK (nb1 hP (show x < n + 53 by omega) a_x e_x) 0 rfl rfl 2 (by decide) k37 (fun _ h9 => h9) rfl dX8_init_68 ?_
        refine lv_iload_n hx hb dX8_init_71 rfl (lv_at hl 0 rfl) ?_
        refine n_new (ci := 3) (fs := [.null, .null, .null, .null, .int (zI (0)), .int (zI (0)), .null]) (C := RX3) (T := TX3) (N := 7) hx hb hts hinX3 tyX3 tyX3_ok hown kN35 kIX3 kJX3 hK hP hD hS hA rfl (fun j hj => by rcases (show j = 0 ∨ j = 1 ∨ j = 2 ∨ j = 3 ∨ j = 4 ∨ j = 5 ∨ j = 6 by omega) with rfl | rfl | rfl | rfl | rfl | rfl | rfl <;> rfl) (Nat.le_of_ble_eq_true rfl) (Nat.le_of_ble_eq_true rfl) dX8_init_72 (fun q128 H hP hD hS => ?_)
        obtain ⟨a29, ha29⟩ : ∃ x9 : Nat → Nat, x9 = va_up a26 (n + 53) q128 := ⟨_, rfl⟩
        obtain ⟨c29, hc29⟩ : ∃ x9 : Nat → va_E, x9 = va_up c27 (n + 53) (.inr (3, [.null, .null, .null, .null, .int (zI (0)), .int (zI (0)), .null])) := ⟨_, rfl⟩
        have hP : nP g (n + 54) a29 c29 H := by rw [ha29, hc29]; exact hP
        have hD : va_D A (nL (n + 54) a29 c29) := by rw [ha29, hc29]; exact hD
        replace hexa : ∀ j : Nat, j < n → a29 j = ad j := fun j hj9 => ((congrFun ha29 j).trans (up_ne _ _ (by omega))).trans (hexa j hj9)
        replace hexc : ∀ j : Nat, j < n → ¬ j = x → c29 j = ce j := fun j hj9 q0 => ((congrFun hc29 j).trans (up_ne _ _ (by omega))).trans (hexc j hj9 q0)
        replace fa_R1 : ∀ j : Nat, j < n + 23 → a29 j = a11 j := fun j hj9 => ((congrFun ha29 j).trans (up_ne _ _ (by omega))).trans (fa_R1 j hj9)
        replace fa_R2 : ∀ j : Nat, j < n + 42 → a29 j = a15 j := fun j hj9 => ((congrFun ha29 j).trans (up_ne _ _ (by omega))).trans (fa_R2 j hj9)
        replace fa_S0 : ∀ j : Nat, j < n + 48 → a29 j = a22 j := fun j hj9 => ((congrFun ha29 j).trans (up_ne _ _ (by omega))).trans (fa_S0 j hj9)
        replace fa_S1 : ∀ j : Nat, j < n + 53 → a29 j = a26 j := fun j hj9 => ((congrFun ha29 j).trans (up_ne _ _ (by omega))).trans (fa_S1 j hj9)
        replace fc_R1 : ∀ j : Nat, j < n + 23 → ¬ j = x → c29 j = c11 j := fun j hj9 q9_0 => ((congrFun hc29 j).trans (up_ne _ _ (by omega))).trans (fc_R1 j hj9 q9_0)
        replace fc_R2 : ∀ j : Nat, j < n + 42 → ¬ j = x → c29 j = c15 j := fun j hj9 q9_0 => ((congrFun hc29 j).trans (up_ne _ _ (by omega))).trans (fc_R2 j hj9 q9_0)
        replace fc_S0 : ∀ j : Nat, j < n + 48 → ¬ j = x → ¬ j = n + 42 → c29 j = c22 j := fun j hj9 q9_0 q9_1 => ((congrFun hc29 j).trans (up_ne _ _ (by omega))).trans (fc_S0 j hj9 q9_0 q9_1)
        replace fc_S1 : ∀ j : Nat, j < n + 53 → ¬ j = x → ¬ j = n + 42 → c29 j = c26 j := fun j hj9 q9_0 q9_1 => ((congrFun hc29 j).trans (up_ne _ _ (by omega))).trans (fc_S1 j hj9 q9_0 q9_1)
        replace a_x : a29 (x) = h0 := ((congrFun ha29 _).trans (up_ne _ _ (by omega))).trans a_x
        replace e_x : c29 (x) = .inr (8, [.ref q101, .ref q105, .ref q117, .null, .ref q109, .ref q113, .int (zI (0))]) := ((congrFun hc29 _).trans (up_ne _ _ (by omega))).trans e_x
        replace a_n : a29 (n) = q101 := ((congrFun ha29 _).trans (up_ne _ _ (by omega))).trans a_n
        replace e_n : c29 (n) = .inr (5, [.ref ((a3 ((n + 1)))), .int (zI (0))]) := ((congrFun hc29 _).trans (up_ne _ _ (by omega))).trans e_n
        replace a_n_1 : a29 (n + 1) = (a3 (n + 1)) := ((congrFun ha29 _).trans (up_ne _ _ (by omega))).trans a_n_1
        replace e_n_1 : c29 (n + 1) = .inl (g.2 1, 740, .inl (fun _ => zI 0)) := ((congrFun hc29 _).trans (up_ne _ _ (by omega))).trans e_n_1
        replace a_n_2 : a29 (n + 2) = q105 := ((congrFun ha29 _).trans (up_ne _ _ (by omega))).trans a_n_2
        replace e_n_2 : c29 (n + 2) = .inr (6, [.ref q101, .ref ((a7 ((n + 3)))), .int (zI (0)), .int (zI (0))]) := ((congrFun hc29 _).trans (up_ne _ _ (by omega))).trans e_n_2
        replace a_n_3 : a29 (n + 3) = (a7 (n + 3)) := ((congrFun ha29 _).trans (up_ne _ _ (by omega))).trans a_n_3
        replace e_n_3 : c29 (n + 3) = .inr (7, [.ref q101, .int (zI (0)), .int (zI (0)), .int (zI (0)), .int (zI (0))]) := ((congrFun hc29 _).trans (up_ne _ _ (by omega))).trans e_n_3
        replace a_n_4 : a29 (n + 4) = q109 := ((congrFun ha29 _).trans (up_ne _ _ (by omega))).trans a_n_4
        replace e_n_4 : c29 (n + 4) = .inr (2, [.ref ((a11 ((n + 5)))), .ref ((a11 ((n + 5) + 2))), .ref ((a11 ((n + 5) + 8))), .ref ((a11 ((n + 5) + 12))), .ref ((a11 ((n + 5) + 17)))]) := ((congrFun hc29 _).trans (up_ne _ _ (by omega))).trans e_n_4
        replace a_n_17 : a29 (n + 17) = (a11 (n + 17)) := ((congrFun ha29 _).trans (up_ne _ _ (by omega))).trans a_n_17
        replace e_n_17 : c29 (n + 17) = .inl (g.2 6, 4, .inr (.inr (.inr (.inr (fun i8 => some (a11 ((n + 5) + 13 + i8))))))) := ((congrFun hc29 _).trans (up_ne _ _ (by omega))).trans e_n_17
        replace a_n_18 : a29 (n + 18) = (a11 (n + 18)) := ((congrFun ha29 _).trans (up_ne _ _ (by omega))).trans a_n_18
        replace e_n_18 : c29 (n + 18) = .inl (g.2 0, 2, .inl (fun _ => zI 0)) := ((congrFun hc29 _).trans (up_ne _ _ (by omega))).trans e_n_18
        replace a_n_19 : a29 (n + 19) = (a11 (n + 19)) := ((congrFun ha29 _).trans (up_ne _ _ (by omega))).trans a_n_19
        replace e_n_19 : c29 (n + 19) = .inl (g.2 0, 2, .inl (fun _ => zI 0)) := ((congrFun hc29 _).trans (up_ne _ _ (by omega))).trans e_n_19
        replace a_n_20 : a29 (n + 20) = (a11 (n + 20)) := ((congrFun ha29 _).trans (up_ne _ _ (by omega))).trans a_n_20
        replace e_n_20 : c29 (n + 20) = .inl (g.2 0, 2, .inl (fun _ => zI 0)) := ((congrFun hc29 _).trans (up_ne _ _ (by omega))).trans e_n_20
        replace a_n_21 : a29 (n + 21) = (a11 (n + 21)) := ((congrFun ha29 _).trans (up_ne _ _ (by omega))).trans a_n_21
        replace e_n_21 : c29 (n + 21) = .inl (g.2 0, 2, .inl (fun _ => zI 0)) := ((congrFun hc29 _).trans (up_ne _ _ (by omega))).trans e_n_21
        replace a_n_23 : a29 (n + 23) = q113 := ((congrFun ha29 _).trans (up_ne _ _ (by omega))).trans a_n_23
        replace e_n_23 : c29 (n + 23) = .inr (2, [.ref ((a15 ((n + 24)))), .ref ((a15 ((n + 24) + 2))), .ref ((a15 ((n + 24) + 8))), .ref ((a15 ((n + 24) + 12))), .ref ((a15 ((n + 24) + 17)))]) := ((congrFun hc29 _).trans (up_ne _ _ (by omega))).trans e_n_23
        replace a_n_42 : a29 (n + 42) = q117 := ((congrFun ha29 _).trans (up_ne _ _ (by omega))).trans a_n_42
        replace e_n_42 : c29 (n + 42) = .inl (g.2 4, 4, .inr (.inr (.inr (.inr (va_up (va_up (fun _ => none) 0 (some q120)) 1 (some q124)))))) := ((congrFun hc29 _).trans (up_ne _ _ (by omega))).trans e_n_42
        replace a_n_43 : a29 (n + 43) = q120 := ((congrFun ha29 _).trans (up_ne _ _ (by omega))).trans a_n_43
        replace e_n_43 : c29 (n + 43) = .inr (3, [.ref ((a22 ((n + 44)))), .ref ((a22 ((n + 44) + 1))), .ref ((a22 ((n + 44) + 2))), .ref ((a22 ((n + 44) + 3))), .int ((fun _ => zI 0) 0), .int ((fun _ => zI 0) 1), .ref q109]) := ((congrFun hc29 _).trans (up_ne _ _ (by omega))).trans e_n_43
        replace a_n_48 : a29 (n + 48) = q124 := ((congrFun ha29 _).trans (up_ne _ _ (by omega))).trans a_n_48
        replace e_n_48 : c29 (n + 48) = .inr (3, [.ref ((a26 ((n + 49)))), .ref ((a26 ((n + 49) + 1))), .ref ((a26 ((n + 49) + 2))), .ref ((a26 ((n + 49) + 3))), .int ((fun _ => zI 0) 0), .int ((fun _ => zI 0) 1), .ref q109]) := ((congrFun hc29 _).trans (up_ne _ _ (by omega))).trans e_n_48
        have a_n_53 : a29 (n + 53) = q128 := (congrFun ha29 _).trans (up_at _ _ _)
        have e_n_53 : c29 (n + 53) = .inr (3, [.null, .null, .null, .null, .int (zI (0)), .int (zI (0)), .null]) := (congrFun hc29 _).trans (up_at _ _ _)
        clear ha29 hc29
        refine lv_dup hx hb dX8_init_75 rfl ?_
        refine lv_aload_n hx hb dX8_init_76 rfl (lv_at hl 1 rfl) ?_
        refine va_get (D := g.1) (ci := 8) (v := .ref q109) (C := RX8) (T := TX8) (N := 7) hx hb hts hinX8 hown hK (nb1 hP (show x < n + 54 by omega) a_x e_x) 0 rfl rfl 4 (by decide) k28 (fun _ h9 => h9) rfl dX8_init_77 ?_
        refine lv_iload_n hx hb dX8_init_80 rfl (lv_at hl 0 rfl) ?_
        refine z_top (y := zI (((2 : Nat) : Int))) (congrArg zI (by omega)) ?_
        have hF9 := n_free hD hS hA
        have hS9 := hS
        refine va_callv (va_runI (As := [.ref q109, .int (zI (((2 : Nat) : Int)))]) (rest := [.ref q128, .int (zI ((0 + 1) + 1)), .ref q117]) ⟨hx, hb, hml, hown, hts⟩ (c_X3_init_N l g (n + 54) (a29) (c29) (H.size) (n + 53) (by omega) (q128) (a_n_53) (n + 4) (by omega) (q109) (a_n_4) (n + 17) (by omega) ((a11 (n + 17))) (a_n_17) (n + 20) (by omega) ((a11 (n + 20))) (a_n_20) (.ref ((a11 ((n + 5))))) (.ref ((a11 ((n + 5) + 2)))) (.ref ((a11 ((n + 5) + 8)))) (.ref ((a11 ((n + 5) + 17)))) (fun i8 => some (a11 ((n + 5) + 13 + i8))) (2) (by omega) (rfl) ((fun _ => zI 0)) (by omega) (e_n_53) (e_n_4) (e_n_17) (e_n_20)) (cwI 2 hts gX8_init_X3_init rfl rfl rfl kJX3 kMl41 kIm_X3_init rfl (by decide +kernel) ⟨Nat.le_of_ble_eq_true rfl, Nat.le_of_ble_eq_true rfl⟩) (n_preS hP hD hK hN) rfl rfl hl.1 rfl (lv_room (Nat.le_of_ble_eq_true rfl)) dX8_init_81 ⟨Nat.le_of_ble_eq_true rfl, Nat.le_of_ble_eq_true rfl⟩) hS (fun q _ h => hF9 q h) hF9 (fun u9 t9 H1 locs ht9 hvm9 hw9 hB9 hz9 hk9 hS => ?_)
        obtain ⟨a30, c30⟩ := u9
        rw [ht9] at hB9
        clear hz9 hk9 hvm9 ht9 hF9
        try dsimp only at hw9 hB9
        obtain ⟨hq9, hu9, hp9_0, hp9_1, hp9_2, hp9_3, hp9_4⟩ := hw9
        have hD : va_D A (nL (n + 58) a30 c30) := n_joinD (n := n + 54) (m := 4) hD hS9 hA hq9
        clear hS9
        have hP : nP g (n + 58) a30 c30 H1 := hB9
        clear hB9
        generalize H1 = H at hP hS ⊢
        replace hexa : ∀ j : Nat, j < n → a30 j = ad j := fun j hj9 => (hq9.1 j (by omega)).trans (hexa j hj9)
        replace hexc : ∀ j : Nat, j < n → ¬ j = x → c30 j = ce j := fun j hj9 q0 => (hu9 j (by omega) (by omega)).trans (hexc j hj9 q0)
        replace fa_R1 : ∀ j : Nat, j < n + 23 → a30 j = a11 j := fun j hj9 => (hq9.1 j (by omega)).trans (fa_R1 j hj9)
        replace fa_R2 : ∀ j : Nat, j < n + 42 → a30 j = a15 j := fun j hj9 => (hq9.1 j (by omega)).trans (fa_R2 j hj9)
        replace fa_S0 : ∀ j : Nat, j < n + 48 → a30 j = a22 j := fun j hj9 => (hq9.1 j (by omega)).trans (fa_S0 j hj9)
        replace fa_S1 : ∀ j : Nat, j < n + 53 → a30 j = a26 j := fun j hj9 => (hq9.1 j (by omega)).trans (fa_S1 j hj9)
        replace fc_R1 : ∀ j : Nat, j < n + 23 → ¬ j = x → c30 j = c11 j := fun j hj9 q9_0 => (hu9 j (by omega) (by omega)).trans (fc_R1 j hj9 q9_0)
        replace fc_R2 : ∀ j : Nat, j < n + 42 → ¬ j = x → c30 j = c15 j := fun j hj9 q9_0 => (hu9 j (by omega) (by omega)).trans (fc_R2 j hj9 q9_0)
        replace fc_S0 : ∀ j : Nat, j < n + 48 → ¬ j = x → ¬ j = n + 42 → c30 j = c22 j := fun j hj9 q9_0 q9_1 => (hu9 j (by omega) (by omega)).trans (fc_S0 j hj9 q9_0 q9_1)
        replace fc_S1 : ∀ j : Nat, j < n + 53 → ¬ j = x → ¬ j = n + 42 → c30 j = c26 j := fun j hj9 q9_0 q9_1 => (hu9 j (by omega) (by omega)).trans (fc_S1 j hj9 q9_0 q9_1)
        replace a_x : a30 (x) = h0 := (hq9.1 _ (by omega)).trans a_x
        replace e_x : c30 (x) = .inr (8, [.ref q101, .ref q105, .ref q117, .null, .ref q109, .ref q113, .int (zI (0))]) := (hu9 _ (by omega) (by omega)).trans e_x
        replace a_n : a30 (n) = q101 := (hq9.1 _ (by omega)).trans a_n
        replace e_n : c30 (n) = .inr (5, [.ref ((a3 ((n + 1)))), .int (zI (0))]) := (hu9 _ (by omega) (by omega)).trans e_n
        replace a_n_1 : a30 (n + 1) = (a3 (n + 1)) := (hq9.1 _ (by omega)).trans a_n_1
        replace e_n_1 : c30 (n + 1) = .inl (g.2 1, 740, .inl (fun _ => zI 0)) := (hu9 _ (by omega) (by omega)).trans e_n_1
        replace a_n_2 : a30 (n + 2) = q105 := (hq9.1 _ (by omega)).trans a_n_2
        replace e_n_2 : c30 (n + 2) = .inr (6, [.ref q101, .ref ((a7 ((n + 3)))), .int (zI (0)), .int (zI (0))]) := (hu9 _ (by omega) (by omega)).trans e_n_2
        replace a_n_3 : a30 (n + 3) = (a7 (n + 3)) := (hq9.1 _ (by omega)).trans a_n_3
        replace e_n_3 : c30 (n + 3) = .inr (7, [.ref q101, .int (zI (0)), .int (zI (0)), .int (zI (0)), .int (zI (0))]) := (hu9 _ (by omega) (by omega)).trans e_n_3
        replace a_n_4 : a30 (n + 4) = q109 := (hq9.1 _ (by omega)).trans a_n_4
        replace e_n_4 : c30 (n + 4) = .inr (2, [.ref ((a11 ((n + 5)))), .ref ((a11 ((n + 5) + 2))), .ref ((a11 ((n + 5) + 8))), .ref ((a11 ((n + 5) + 12))), .ref ((a11 ((n + 5) + 17)))]) := (hu9 _ (by omega) (by omega)).trans e_n_4
        replace a_n_17 : a30 (n + 17) = (a11 (n + 17)) := (hq9.1 _ (by omega)).trans a_n_17
        replace e_n_17 : c30 (n + 17) = .inl (g.2 6, 4, .inr (.inr (.inr (.inr (fun i8 => some (a11 ((n + 5) + 13 + i8))))))) := (hu9 _ (by omega) (by omega)).trans e_n_17
        replace a_n_18 : a30 (n + 18) = (a11 (n + 18)) := (hq9.1 _ (by omega)).trans a_n_18
        replace e_n_18 : c30 (n + 18) = .inl (g.2 0, 2, .inl (fun _ => zI 0)) := (hu9 _ (by omega) (by omega)).trans e_n_18
        replace a_n_19 : a30 (n + 19) = (a11 (n + 19)) := (hq9.1 _ (by omega)).trans a_n_19
        replace e_n_19 : c30 (n + 19) = .inl (g.2 0, 2, .inl (fun _ => zI 0)) := (hu9 _ (by omega) (by omega)).trans e_n_19
        replace a_n_20 : a30 (n + 20) = (a11 (n + 20)) := (hq9.1 _ (by omega)).trans a_n_20
        replace e_n_20 : c30 (n + 20) = .inl (g.2 0, 2, .inl (fun _ => zI 0)) := (hu9 _ (by omega) (by omega)).trans e_n_20
        replace a_n_21 : a30 (n + 21) = (a11 (n + 21)) := (hq9.1 _ (by omega)).trans a_n_21
        replace e_n_21 : c30 (n + 21) = .inl (g.2 0, 2, .inl (fun _ => zI 0)) := (hu9 _ (by omega) (by omega)).trans e_n_21
        replace a_n_23 : a30 (n + 23) = q113 := (hq9.1 _ (by omega)).trans a_n_23
        replace e_n_23 : c30 (n + 23) = .inr (2, [.ref ((a15 ((n + 24)))), .ref ((a15 ((n + 24) + 2))), .ref ((a15 ((n + 24) + 8))), .ref ((a15 ((n + 24) + 12))), .ref ((a15 ((n + 24) + 17)))]) := (hu9 _ (by omega) (by omega)).trans e_n_23
        replace a_n_42 : a30 (n + 42) = q117 := (hq9.1 _ (by omega)).trans a_n_42
        replace e_n_42 : c30 (n + 42) = .inl (g.2 4, 4, .inr (.inr (.inr (.inr (va_up (va_up (fun _ => none) 0 (some q120)) 1 (some q124)))))) := (hu9 _ (by omega) (by omega)).trans e_n_42
        replace a_n_43 : a30 (n + 43) = q120 := (hq9.1 _ (by omega)).trans a_n_43
        replace e_n_43 : c30 (n + 43) = .inr (3, [.ref ((a22 ((n + 44)))), .ref ((a22 ((n + 44) + 1))), .ref ((a22 ((n + 44) + 2))), .ref ((a22 ((n + 44) + 3))), .int ((fun _ => zI 0) 0), .int ((fun _ => zI 0) 1), .ref q109]) := (hu9 _ (by omega) (by omega)).trans e_n_43
        replace a_n_48 : a30 (n + 48) = q124 := (hq9.1 _ (by omega)).trans a_n_48
        replace e_n_48 : c30 (n + 48) = .inr (3, [.ref ((a26 ((n + 49)))), .ref ((a26 ((n + 49) + 1))), .ref ((a26 ((n + 49) + 2))), .ref ((a26 ((n + 49) + 3))), .int ((fun _ => zI 0) 0), .int ((fun _ => zI 0) 1), .ref q109]) := (hu9 _ (by omega) (by omega)).trans e_n_48
        replace a_n_53 : a30 (n + 53) = q128 := (hq9.1 _ (by omega)).trans a_n_53
        have e_n_53 : c30 (n + 53) = .inr (3, [.ref ((a30 ((n + 54)))), .ref ((a30 ((n + 54) + 1))), .ref ((a30 ((n + 54) + 2))), .ref ((a30 ((n + 54) + 3))), .int ((fun _ => zI 0) 0), .int ((fun _ => zI 0) 1), .ref q109]) := hp9_0
        have a_n_54 : a30 (n + 54) = a30 (n + 54) := rfl
        have e_n_54 : c30 (n + 54) = .inl (g.2 0, 364, .inl (fillR (zI (-1)) (fun _ => zI 0) 364)) := hp9_1
        have a_n_55 : a30 (n + 55) = a30 (n + 55) := rfl
        have e_n_55 : c30 (n + 55) = .inl (g.2 0, 364, .inl (fillR (zI (0)) (fun _ => zI 0) 364)) := hp9_2
        have a_n_56 : a30 (n + 56) = a30 (n + 56) := rfl
        have e_n_56 : c30 (n + 56) = .inl (g.2 2, 364, .inl (fillR (zI (0)) (fun _ => zI 0) 364)) := hp9_3
        have a_n_57 : a30 (n + 57) = a30 (n + 57) := rfl
        have e_n_57 : c30 (n + 57) = .inr (0, [.int (zI (0)), .int (zI (0)), .int (zI (0)), .int (zI (0)), .int (zI (0)), .int (zI (0)), .int (zI (0)), .int (zI (0)), .int (zI (365))]) := hp9_4
        clear hq9 hu9 hp9_0 hp9_1 hp9_2 hp9_3 hp9_4
        have fa_S2 : ∀ j : Nat, j < n + 58 → a30 j = a30 j := fun _ _ => rfl
        have fc_S2 : ∀ j : Nat, j < n + 58 → ¬ j = x → ¬ j = n + 42 → c30 j = c30 j := fun _ _ _ _ => rfl
        have hsh2 : shC g a30 c30 (n + 53) q109 := ⟨e_n_53, e_n_54, e_n_55, e_n_56, e_n_57⟩
        clear a_n_54 e_n_54 a_n_55 e_n_55 a_n_56 e_n_56 a_n_57 e_n_57
        refine n_aast hx hb hK hP hD hS (n + 42) (show n + 42 < n + 58 by omega) a_n_42 4 e_n_42 3 rfl rfl (by decide) (n + 53) (show n + 53 < n + 58 by omega) a_n_53 e_n_53 (2) (by omega) (by omega) dX8_init_84 (fun H locs hP hD hS => ?_)
        obtain ⟨c31, hc31⟩ : ∃ x9 : Nat → va_E, x9 = va_up c30 (n + 42) (.inl (g.2 4, 4, .inr (.inr (.inr (.inr (va_up (va_up (va_up (fun _ => none) 0 (some q120)) 1 (some q124)) 2 (some q128))))))) := ⟨_, rfl⟩
        have hP : nP g (n + 58) a30 c31 H := by rw [hc31]; exact hP
        have hD : va_D A (nL (n + 58) a30 c31) := by rw [hc31]; exact hD
        replace hexc : ∀ j : Nat, j < n → ¬ j = x → c31 j = ce j := fun j hj9 q0 => ((congrFun hc31 j).trans (up_ne _ _ (by omega))).trans (hexc j hj9 q0)
        replace fc_R1 : ∀ j : Nat, j < n + 23 → ¬ j = x → c31 j = c11 j := fun j hj9 q9_0 => ((congrFun hc31 j).trans (up_ne _ _ (by omega))).trans (fc_R1 j hj9 q9_0)
        replace fc_R2 : ∀ j : Nat, j < n + 42 → ¬ j = x → c31 j = c15 j := fun j hj9 q9_0 => ((congrFun hc31 j).trans (up_ne _ _ (by omega))).trans (fc_R2 j hj9 q9_0)
        replace fc_S0 : ∀ j : Nat, j < n + 48 → ¬ j = x → ¬ j = n + 42 → c31 j = c22 j := fun j hj9 q9_0 q9_1 => ((congrFun hc31 j).trans (up_ne _ _ q9_1)).trans (fc_S0 j hj9 q9_0 q9_1)
        replace fc_S1 : ∀ j : Nat, j < n + 53 → ¬ j = x → ¬ j = n + 42 → c31 j = c26 j := fun j hj9 q9_0 q9_1 => ((congrFun hc31 j).trans (up_ne _ _ q9_1)).trans (fc_S1 j hj9 q9_0 q9_1)
        replace fc_S2 : ∀ j : Nat, j < n + 58 → ¬ j = x → ¬ j = n + 42 → c31 j = c30 j := fun j hj9 q9_0 q9_1 => ((congrFun hc31 j).trans (up_ne _ _ q9_1)).trans (fc_S2 j hj9 q9_0 q9_1)
        replace e_x : c31 (x) = .inr (8, [.ref q101, .ref q105, .ref q117, .null, .ref q109, .ref q113, .int (zI (0))]) := ((congrFun hc31 _).trans (up_ne _ _ (by omega))).trans e_x
        replace e_n : c31 (n) = .inr (5, [.ref ((a3 ((n + 1)))), .int (zI (0))]) := ((congrFun hc31 _).trans (up_ne _ _ (by omega))).trans e_n
        replace e_n_1 : c31 (n + 1) = .inl (g.2 1, 740, .inl (fun _ => zI 0)) := ((congrFun hc31 _).trans (up_ne _ _ (by omega))).trans e_n_1
        replace e_n_2 : c31 (n + 2) = .inr (6, [.ref q101, .ref ((a7 ((n + 3)))), .int (zI (0)), .int (zI (0))]) := ((congrFun hc31 _).trans (up_ne _ _ (by omega))).trans e_n_2
        replace e_n_3 : c31 (n + 3) = .inr (7, [.ref q101, .int (zI (0)), .int (zI (0)), .int (zI (0)), .int (zI (0))]) := ((congrFun hc31 _).trans (up_ne _ _ (by omega))).trans e_n_3
        replace e_n_4 : c31 (n + 4) = .inr (2, [.ref ((a11 ((n + 5)))), .ref ((a11 ((n + 5) + 2))), .ref ((a11 ((n + 5) + 8))), .ref ((a11 ((n + 5) + 12))), .ref ((a11 ((n + 5) + 17)))]) := ((congrFun hc31 _).trans (up_ne _ _ (by omega))).trans e_n_4
        replace e_n_17 : c31 (n + 17) = .inl (g.2 6, 4, .inr (.inr (.inr (.inr (fun i8 => some (a11 ((n + 5) + 13 + i8))))))) := ((congrFun hc31 _).trans (up_ne _ _ (by omega))).trans e_n_17
        replace e_n_18 : c31 (n + 18) = .inl (g.2 0, 2, .inl (fun _ => zI 0)) := ((congrFun hc31 _).trans (up_ne _ _ (by omega))).trans e_n_18
        replace e_n_19 : c31 (n + 19) = .inl (g.2 0, 2, .inl (fun _ => zI 0)) := ((congrFun hc31 _).trans (up_ne _ _ (by omega))).trans e_n_19
        replace e_n_20 : c31 (n + 20) = .inl (g.2 0, 2, .inl (fun _ => zI 0)) := ((congrFun hc31 _).trans (up_ne _ _ (by omega))).trans e_n_20
        replace e_n_21 : c31 (n + 21) = .inl (g.2 0, 2, .inl (fun _ => zI 0)) := ((congrFun hc31 _).trans (up_ne _ _ (by omega))).trans e_n_21
        replace e_n_23 : c31 (n + 23) = .inr (2, [.ref ((a15 ((n + 24)))), .ref ((a15 ((n + 24) + 2))), .ref ((a15 ((n + 24) + 8))), .ref ((a15 ((n + 24) + 12))), .ref ((a15 ((n + 24) + 17)))]) := ((congrFun hc31 _).trans (up_ne _ _ (by omega))).trans e_n_23
        replace e_n_42 : c31 (n + 42) = .inl (g.2 4, 4, .inr (.inr (.inr (.inr (va_up (va_up (va_up (fun _ => none) 0 (some q120)) 1 (some q124)) 2 (some q128)))))) := (congrFun hc31 _).trans (up_at _ _ _)
        replace e_n_43 : c31 (n + 43) = .inr (3, [.ref ((a22 ((n + 44)))), .ref ((a22 ((n + 44) + 1))), .ref ((a22 ((n + 44) + 2))), .ref ((a22 ((n + 44) + 3))), .int ((fun _ => zI 0) 0), .int ((fun _ => zI 0) 1), .ref q109]) := ((congrFun hc31 _).trans (up_ne _ _ (by omega))).trans e_n_43
        replace e_n_48 : c31 (n + 48) = .inr (3, [.ref ((a26 ((n + 49)))), .ref ((a26 ((n + 49) + 1))), .ref ((a26 ((n + 49) + 2))), .ref ((a26 ((n + 49) + 3))), .int ((fun _ => zI 0) 0), .int ((fun _ => zI 0) 1), .ref q109]) := ((congrFun hc31 _).trans (up_ne _ _ (by omega))).trans e_n_48
        replace e_n_53 : c31 (n + 53) = .inr (3, [.ref ((a30 ((n + 54)))), .ref ((a30 ((n + 54) + 1))), .ref ((a30 ((n + 54) + 2))), .ref ((a30 ((n + 54) + 3))), .int ((fun _ => zI 0) 0), .int ((fun _ => zI 0) 1), .ref q109]) := ((congrFun hc31 _).trans (up_ne _ _ (by omega))).trans e_n_53
        clear hc31
        refine z_iinc (lv' := [(1, .int (zI (((0 + 1) + 1) + 1))), (0, .ref h0)]) hx hb dX8_init_85 hl (k := 0) rfl (by decide) rfl (fun ls hl => ?_)
        refine lv_goto (tgt := 62) hx hb dX8_init_88 (by decide) ?_
        refine lv_iload_n hx hb dX8_init_62 rfl (lv_at hl 0 rfl) ?_
        refine lv_iconst (v := zI (4)) hx hb dX8_init_63 (by decide) ?_
        refine z_icmp_ge (tgt := 91) hx hb dX8_init_64 (by decide) (by omega) (by omega) (fun h64 => ?_) (fun h64 => ?_)
        · exfalso; omega
        · refine lv_aload_n hx hb dX8_init_67 rfl (lv_at hl 1 rfl) ?_
          refine va_get (D := g.1) (ci := 8) (v := .ref q117) (C := RX8) (T := TX8) (N := 7) hx hb hts hinX8 hown hK (nb1 hP (show x < n + 58 by omega) a_x e_x) 0 rfl rfl 2 (by decide) k37 (fun _ h9 => h9) rfl dX8_init_68 ?_
          refine lv_iload_n hx hb dX8_init_71 rfl (lv_at hl 0 rfl) ?_
          refine n_new (ci := 3) (fs := [.null, .null, .null, .null, .int (zI (0)), .int (zI (0)), .null]) (C := RX3) (T := TX3) (N := 7) hx hb hts hinX3 tyX3 tyX3_ok hown kN35 kIX3 kJX3 hK hP hD hS hA rfl (fun j hj => by rcases (show j = 0 ∨ j = 1 ∨ j = 2 ∨ j = 3 ∨ j = 4 ∨ j = 5 ∨ j = 6 by omega) with rfl | rfl | rfl | rfl | rfl | rfl | rfl <;> rfl) (Nat.le_of_ble_eq_true rfl) (Nat.le_of_ble_eq_true rfl) dX8_init_72 (fun q132 H hP hD hS => ?_)
          obtain ⟨a33, ha33⟩ : ∃ x9 : Nat → Nat, x9 = va_up a30 (n + 58) q132 := ⟨_, rfl⟩
          obtain ⟨c33, hc33⟩ : ∃ x9 : Nat → va_E, x9 = va_up c31 (n + 58) (.inr (3, [.null, .null, .null, .null, .int (zI (0)), .int (zI (0)), .null])) := ⟨_, rfl⟩
          have hP : nP g (n + 59) a33 c33 H := by rw [ha33, hc33]; exact hP
          have hD : va_D A (nL (n + 59) a33 c33) := by rw [ha33, hc33]; exact hD
          replace hexa : ∀ j : Nat, j < n → a33 j = ad j := fun j hj9 => ((congrFun ha33 j).trans (up_ne _ _ (by omega))).trans (hexa j hj9)
          replace hexc : ∀ j : Nat, j < n → ¬ j = x → c33 j = ce j := fun j hj9 q0 => ((congrFun hc33 j).trans (up_ne _ _ (by omega))).trans (hexc j hj9 q0)
          replace fa_R1 : ∀ j : Nat, j < n + 23 → a33 j = a11 j := fun j hj9 => ((congrFun ha33 j).trans (up_ne _ _ (by omega))).trans (fa_R1 j hj9)
          replace fa_R2 : ∀ j : Nat, j < n + 42 → a33 j = a15 j := fun j hj9 => ((congrFun ha33 j).trans (up_ne _ _ (by omega))).trans (fa_R2 j hj9)
          replace fa_S0 : ∀ j : Nat, j < n + 48 → a33 j = a22 j := fun j hj9 => ((congrFun ha33 j).trans (up_ne _ _ (by omega))).trans (fa_S0 j hj9)
          replace fa_S1 : ∀ j : Nat, j < n + 53 → a33 j = a26 j := fun j hj9 => ((congrFun ha33 j).trans (up_ne _ _ (by omega))).trans (fa_S1 j hj9)
          replace fa_S2 : ∀ j : Nat, j < n + 58 → a33 j = a30 j := fun j hj9 => ((congrFun ha33 j).trans (up_ne _ _ (by omega))).trans (fa_S2 j hj9)
          replace fc_R1 : ∀ j : Nat, j < n + 23 → ¬ j = x → c33 j = c11 j := fun j hj9 q9_0 => ((congrFun hc33 j).trans (up_ne _ _ (by omega))).trans (fc_R1 j hj9 q9_0)
          replace fc_R2 : ∀ j : Nat, j < n + 42 → ¬ j = x → c33 j = c15 j := fun j hj9 q9_0 => ((congrFun hc33 j).trans (up_ne _ _ (by omega))).trans (fc_R2 j hj9 q9_0)
          replace fc_S0 : ∀ j : Nat, j < n + 48 → ¬ j = x → ¬ j = n + 42 → c33 j = c22 j := fun j hj9 q9_0 q9_1 => ((congrFun hc33 j).trans (up_ne _ _ (by omega))).trans (fc_S0 j hj9 q9_0 q9_1)
          replace fc_S1 : ∀ j : Nat, j < n + 53 → ¬ j = x → ¬ j = n + 42 → c33 j = c26 j := fun j hj9 q9_0 q9_1 => ((congrFun hc33 j).trans (up_ne _ _ (by omega))).trans (fc_S1 j hj9 q9_0 q9_1)
          replace fc_S2 : ∀ j : Nat, j < n + 58 → ¬ j = x → ¬ j = n + 42 → c33 j = c30 j := fun j hj9 q9_0 q9_1 => ((congrFun hc33 j).trans (up_ne _ _ (by omega))).trans (fc_S2 j hj9 q9_0 q9_1)
          replace a_x : a33 (x) = h0 := ((congrFun ha33 _).trans (up_ne _ _ (by omega))).trans a_x
          replace e_x : c33 (x) = .inr (8, [.ref q101, .ref q105, .ref q117, .null, .ref q109, .ref q113, .int (zI (0))]) := ((congrFun hc33 _).trans (up_ne _ _ (by omega))).trans e_x
          replace a_n : a33 (n) = q101 := ((congrFun ha33 _).trans (up_ne _ _ (by omega))).trans a_n
          replace e_n : c33 (n) = .inr (5, [.ref ((a3 ((n + 1)))), .int (zI (0))]) := ((congrFun hc33 _).trans (up_ne _ _ (by omega))).trans e_n
          replace a_n_1 : a33 (n + 1) = (a3 (n + 1)) := ((congrFun ha33 _).trans (up_ne _ _ (by omega))).trans a_n_1
          replace e_n_1 : c33 (n + 1) = .inl (g.2 1, 740, .inl (fun _ => zI 0)) := ((congrFun hc33 _).trans (up_ne _ _ (by omega))).trans e_n_1
          replace a_n_2 : a33 (n + 2) = q105 := ((congrFun ha33 _).trans (up_ne _ _ (by omega))).trans a_n_2
          replace e_n_2 : c33 (n + 2) = .inr (6, [.ref q101, .ref ((a7 ((n + 3)))), .int (zI (0)), .int (zI (0))]) := ((congrFun hc33 _).trans (up_ne _ _ (by omega))).trans e_n_2
          replace a_n_3 : a33 (n + 3) = (a7 (n + 3)) := ((congrFun ha33 _).trans (up_ne _ _ (by omega))).trans a_n_3
          replace e_n_3 : c33 (n + 3) = .inr (7, [.ref q101, .int (zI (0)), .int (zI (0)), .int (zI (0)), .int (zI (0))]) := ((congrFun hc33 _).trans (up_ne _ _ (by omega))).trans e_n_3
          replace a_n_4 : a33 (n + 4) = q109 := ((congrFun ha33 _).trans (up_ne _ _ (by omega))).trans a_n_4
          replace e_n_4 : c33 (n + 4) = .inr (2, [.ref ((a11 ((n + 5)))), .ref ((a11 ((n + 5) + 2))), .ref ((a11 ((n + 5) + 8))), .ref ((a11 ((n + 5) + 12))), .ref ((a11 ((n + 5) + 17)))]) := ((congrFun hc33 _).trans (up_ne _ _ (by omega))).trans e_n_4
          replace a_n_17 : a33 (n + 17) = (a11 (n + 17)) := ((congrFun ha33 _).trans (up_ne _ _ (by omega))).trans a_n_17
          replace e_n_17 : c33 (n + 17) = .inl (g.2 6, 4, .inr (.inr (.inr (.inr (fun i8 => some (a11 ((n + 5) + 13 + i8))))))) := ((congrFun hc33 _).trans (up_ne _ _ (by omega))).trans e_n_17
          replace a_n_18 : a33 (n + 18) = (a11 (n + 18)) := ((congrFun ha33 _).trans (up_ne _ _ (by omega))).trans a_n_18
          replace e_n_18 : c33 (n + 18) = .inl (g.2 0, 2, .inl (fun _ => zI 0)) := ((congrFun hc33 _).trans (up_ne _ _ (by omega))).trans e_n_18
          replace a_n_19 : a33 (n + 19) = (a11 (n + 19)) := ((congrFun ha33 _).trans (up_ne _ _ (by omega))).trans a_n_19
          replace e_n_19 : c33 (n + 19) = .inl (g.2 0, 2, .inl (fun _ => zI 0)) := ((congrFun hc33 _).trans (up_ne _ _ (by omega))).trans e_n_19
          replace a_n_20 : a33 (n + 20) = (a11 (n + 20)) := ((congrFun ha33 _).trans (up_ne _ _ (by omega))).trans a_n_20
          replace e_n_20 : c33 (n + 20) = .inl (g.2 0, 2, .inl (fun _ => zI 0)) := ((congrFun hc33 _).trans (up_ne _ _ (by omega))).trans e_n_20
          replace a_n_21 : a33 (n + 21) = (a11 (n + 21)) := ((congrFun ha33 _).trans (up_ne _ _ (by omega))).trans a_n_21
          replace e_n_21 : c33 (n + 21) = .inl (g.2 0, 2, .inl (fun _ => zI 0)) := ((congrFun hc33 _).trans (up_ne _ _ (by omega))).trans e_n_21
          replace a_n_23 : a33 (n + 23) = q113 := ((congrFun ha33 _).trans (up_ne _ _ (by omega))).trans a_n_23
          replace e_n_23 : c33 (n + 23) = .inr (2, [.ref ((a15 ((n + 24)))), .ref ((a15 ((n + 24) + 2))), .ref ((a15 ((n + 24) + 8))), .ref ((a15 ((n + 24) + 12))), .ref ((a15 ((n + 24) + 17)))]) := ((congrFun hc33 _).trans (up_ne _ _ (by omega))).trans e_n_23
          replace a_n_42 : a33 (n + 42) = q117 := ((congrFun ha33 _).trans (up_ne _ _ (by omega))).trans a_n_42
          replace e_n_42 : c33 (n + 42) = .inl (g.2 4, 4, .inr (.inr (.inr (.inr (va_up (va_up (va_up (fun _ => none) 0 (some q120)) 1 (some q124)) 2 (some q128)))))) := ((congrFun hc33 _).trans (up_ne _ _ (by omega))).trans e_n_42
          replace a_n_43 : a33 (n + 43) = q120 := ((congrFun ha33 _).trans (up_ne _ _ (by omega))).trans a_n_43
          replace e_n_43 : c33 (n + 43) = .inr (3, [.ref ((a22 ((n + 44)))), .ref ((a22 ((n + 44) + 1))), .ref ((a22 ((n + 44) + 2))), .ref ((a22 ((n + 44) + 3))), .int ((fun _ => zI 0) 0), .int ((fun _ => zI 0) 1), .ref q109]) := ((congrFun hc33 _).trans (up_ne _ _ (by omega))).trans e_n_43
          replace a_n_48 : a33 (n + 48) = q124 := ((congrFun ha33 _).trans (up_ne _ _ (by omega))).trans a_n_48
          replace e_n_48 : c33 (n + 48) = .inr (3, [.ref ((a26 ((n + 49)))), .ref ((a26 ((n + 49) + 1))), .ref ((a26 ((n + 49) + 2))), .ref ((a26 ((n + 49) + 3))), .int ((fun _ => zI 0) 0), .int ((fun _ => zI 0) 1), .ref q109]) := ((congrFun hc33 _).trans (up_ne _ _ (by omega))).trans e_n_48
          replace a_n_53 : a33 (n + 53) = q128 := ((congrFun ha33 _).trans (up_ne _ _ (by omega))).trans a_n_53
          replace e_n_53 : c33 (n + 53) = .inr (3, [.ref ((a30 ((n + 54)))), .ref ((a30 ((n + 54) + 1))), .ref ((a30 ((n + 54) + 2))), .ref ((a30 ((n + 54) + 3))), .int ((fun _ => zI 0) 0), .int ((fun _ => zI 0) 1), .ref q109]) := ((congrFun hc33 _).trans (up_ne _ _ (by omega))).trans e_n_53
          have a_n_58 : a33 (n + 58) = q132 := (congrFun ha33 _).trans (up_at _ _ _)
          have e_n_58 : c33 (n + 58) = .inr (3, [.null, .null, .null, .null, .int (zI (0)), .int (zI (0)), .null]) := (congrFun hc33 _).trans (up_at _ _ _)
          clear ha33 hc33
          refine lv_dup hx hb dX8_init_75 rfl ?_
          refine lv_aload_n hx hb dX8_init_76 rfl (lv_at hl 1 rfl) ?_
          refine va_get (D := g.1) (ci := 8) (v := .ref q109) (C := RX8) (T := TX8) (N := 7) hx hb hts hinX8 hown hK (nb1 hP (show x < n + 59 by omega) a_x e_x) 0 rfl rfl 4 (by decide) k28 (fun _ h9 => h9) rfl dX8_init_77 ?_
          refine lv_iload_n hx hb dX8_init_80 rfl (lv_at hl 0 rfl) ?_
          refine z_top (y := zI (((3 : Nat) : Int))) (congrArg zI (by omega)) ?_
          have hF9 := n_free hD hS hA
          have hS9 := hS
          refine va_callv (va_runI (As := [.ref q109, .int (zI (((3 : Nat) : Int)))]) (rest := [.ref q132, .int (zI (((0 + 1) + 1) + 1)), .ref q117]) ⟨hx, hb, hml, hown, hts⟩ (c_X3_init_N l g (n + 59) (a33) (c33) (H.size) (n + 58) (by omega) (q132) (a_n_58) (n + 4) (by omega) (q109) (a_n_4) (n + 17) (by omega) ((a11 (n + 17))) (a_n_17) (n + 21) (by omega) ((a11 (n + 21))) (a_n_21) (.ref ((a11 ((n + 5))))) (.ref ((a11 ((n + 5) + 2)))) (.ref ((a11 ((n + 5) + 8)))) (.ref ((a11 ((n + 5) + 17)))) (fun i8 => some (a11 ((n + 5) + 13 + i8))) (3) (by omega) (rfl) ((fun _ => zI 0)) (by omega) (e_n_58) (e_n_4) (e_n_17) (e_n_21)) (cwI 2 hts gX8_init_X3_init rfl rfl rfl kJX3 kMl41 kIm_X3_init rfl (by decide +kernel) ⟨Nat.le_of_ble_eq_true rfl, Nat.le_of_ble_eq_true rfl⟩) (n_preS hP hD hK hN) rfl rfl hl.1 rfl (lv_room (Nat.le_of_ble_eq_true rfl)) dX8_init_81 ⟨Nat.le_of_ble_eq_true rfl, Nat.le_of_ble_eq_true rfl⟩) hS (fun q _ h => hF9 q h) hF9 (fun u9 t9 H1 locs ht9 hvm9 hw9 hB9 hz9 hk9 hS => ?_)
          obtain ⟨a34, c34⟩ := u9
          rw [ht9] at hB9
          clear hz9 hk9 hvm9 ht9 hF9
          try dsimp only at hw9 hB9
          obtain ⟨hq9, hu9, hp9_0, hp9_1, hp9_2, hp9_3, hp9_4⟩ := hw9
          have hD : va_D A (nL (n + 63) a34 c34) := n_joinD (n := n + 59) (m := 4) hD hS9 hA hq9
          clear hS9
          have hP : nP g (n + 63) a34 c34 H1 := hB9
          clear hB9
          generalize H1 = H at hP hS ⊢
          replace hexa : ∀ j : Nat, j < n → a34 j = ad j := fun j hj9 => (hq9.1 j (by omega)).trans (hexa j hj9)
          replace hexc : ∀ j : Nat, j < n → ¬ j = x → c34 j = ce j := fun j hj9 q0 => (hu9 j (by omega) (by omega)).trans (hexc j hj9 q0)
          replace fa_R1 : ∀ j : Nat, j < n + 23 → a34 j = a11 j := fun j hj9 => (hq9.1 j (by omega)).trans (fa_R1 j hj9)
          replace fa_R2 : ∀ j : Nat, j < n + 42 → a34 j = a15 j := fun j hj9 => (hq9.1 j (by omega)).trans (fa_R2 j hj9)
          replace fa_S0 : ∀ j : Nat, j < n + 48 → a34 j = a22 j := fun j hj9 => (hq9.1 j (by omega)).trans (fa_S0 j hj9)
          replace fa_S1 : ∀ j : Nat, j < n + 53 → a34 j = a26 j := fun j hj9 => (hq9.1 j (by omega)).trans (fa_S1 j hj9)
          replace fa_S2 : ∀ j : Nat, j < n + 58 → a34 j = a30 j := fun j hj9 => (hq9.1 j (by omega)).trans (fa_S2 j hj9)
          replace fc_R1 : ∀ j : Nat, j < n + 23 → ¬ j = x → c34 j = c11 j := fun j hj9 q9_0 => (hu9 j (by omega) (by omega)).trans (fc_R1 j hj9 q9_0)
          replace fc_R2 : ∀ j : Nat, j < n + 42 → ¬ j = x → c34 j = c15 j := fun j hj9 q9_0 => (hu9 j (by omega) (by omega)).trans (fc_R2 j hj9 q9_0)
          replace fc_S0 : ∀ j : Nat, j < n + 48 → ¬ j = x → ¬ j = n + 42 → c34 j = c22 j := fun j hj9 q9_0 q9_1 => (hu9 j (by omega) (by omega)).trans (fc_S0 j hj9 q9_0 q9_1)
          replace fc_S1 : ∀ j : Nat, j < n + 53 → ¬ j = x → ¬ j = n + 42 → c34 j = c26 j := fun j hj9 q9_0 q9_1 => (hu9 j (by omega) (by omega)).trans (fc_S1 j hj9 q9_0 q9_1)
          replace fc_S2 : ∀ j : Nat, j < n + 58 → ¬ j = x → ¬ j = n + 42 → c34 j = c30 j := fun j hj9 q9_0 q9_1 => (hu9 j (by omega) (by omega)).trans (fc_S2 j hj9 q9_0 q9_1)
          replace a_x : a34 (x) = h0 := (hq9.1 _ (by omega)).trans a_x
          replace e_x : c34 (x) = .inr (8, [.ref q101, .ref q105, .ref q117, .null, .ref q109, .ref q113, .int (zI (0))]) := (hu9 _ (by omega) (by omega)).trans e_x
          replace a_n : a34 (n) = q101 := (hq9.1 _ (by omega)).trans a_n
          replace e_n : c34 (n) = .inr (5, [.ref ((a3 ((n + 1)))), .int (zI (0))]) := (hu9 _ (by omega) (by omega)).trans e_n
          replace a_n_1 : a34 (n + 1) = (a3 (n + 1)) := (hq9.1 _ (by omega)).trans a_n_1
          replace e_n_1 : c34 (n + 1) = .inl (g.2 1, 740, .inl (fun _ => zI 0)) := (hu9 _ (by omega) (by omega)).trans e_n_1
          replace a_n_2 : a34 (n + 2) = q105 := (hq9.1 _ (by omega)).trans a_n_2
          replace e_n_2 : c34 (n + 2) = .inr (6, [.ref q101, .ref ((a7 ((n + 3)))), .int (zI (0)), .int (zI (0))]) := (hu9 _ (by omega) (by omega)).trans e_n_2
          replace a_n_3 : a34 (n + 3) = (a7 (n + 3)) := (hq9.1 _ (by omega)).trans a_n_3
          replace e_n_3 : c34 (n + 3) = .inr (7, [.ref q101, .int (zI (0)), .int (zI (0)), .int (zI (0)), .int (zI (0))]) := (hu9 _ (by omega) (by omega)).trans e_n_3
          replace a_n_4 : a34 (n + 4) = q109 := (hq9.1 _ (by omega)).trans a_n_4
          replace e_n_4 : c34 (n + 4) = .inr (2, [.ref ((a11 ((n + 5)))), .ref ((a11 ((n + 5) + 2))), .ref ((a11 ((n + 5) + 8))), .ref ((a11 ((n + 5) + 12))), .ref ((a11 ((n + 5) + 17)))]) := (hu9 _ (by omega) (by omega)).trans e_n_4
          replace a_n_17 : a34 (n + 17) = (a11 (n + 17)) := (hq9.1 _ (by omega)).trans a_n_17
          replace e_n_17 : c34 (n + 17) = .inl (g.2 6, 4, .inr (.inr (.inr (.inr (fun i8 => some (a11 ((n + 5) + 13 + i8))))))) := (hu9 _ (by omega) (by omega)).trans e_n_17
          replace a_n_18 : a34 (n + 18) = (a11 (n + 18)) := (hq9.1 _ (by omega)).trans a_n_18
          replace e_n_18 : c34 (n + 18) = .inl (g.2 0, 2, .inl (fun _ => zI 0)) := (hu9 _ (by omega) (by omega)).trans e_n_18
          replace a_n_19 : a34 (n + 19) = (a11 (n + 19)) := (hq9.1 _ (by omega)).trans a_n_19
          replace e_n_19 : c34 (n + 19) = .inl (g.2 0, 2, .inl (fun _ => zI 0)) := (hu9 _ (by omega) (by omega)).trans e_n_19
          replace a_n_20 : a34 (n + 20) = (a11 (n + 20)) := (hq9.1 _ (by omega)).trans a_n_20
          replace e_n_20 : c34 (n + 20) = .inl (g.2 0, 2, .inl (fun _ => zI 0)) := (hu9 _ (by omega) (by omega)).trans e_n_20
          replace a_n_21 : a34 (n + 21) = (a11 (n + 21)) := (hq9.1 _ (by omega)).trans a_n_21
          replace e_n_21 : c34 (n + 21) = .inl (g.2 0, 2, .inl (fun _ => zI 0)) := (hu9 _ (by omega) (by omega)).trans e_n_21
          replace a_n_23 : a34 (n + 23) = q113 := (hq9.1 _ (by omega)).trans a_n_23
          replace e_n_23 : c34 (n + 23) = .inr (2, [.ref ((a15 ((n + 24)))), .ref ((a15 ((n + 24) + 2))), .ref ((a15 ((n + 24) + 8))), .ref ((a15 ((n + 24) + 12))), .ref ((a15 ((n + 24) + 17)))]) := (hu9 _ (by omega) (by omega)).trans e_n_23
          replace a_n_42 : a34 (n + 42) = q117 := (hq9.1 _ (by omega)).trans a_n_42
          replace e_n_42 : c34 (n + 42) = .inl (g.2 4, 4, .inr (.inr (.inr (.inr (va_up (va_up (va_up (fun _ => none) 0 (some q120)) 1 (some q124)) 2 (some q128)))))) := (hu9 _ (by omega) (by omega)).trans e_n_42
          replace a_n_43 : a34 (n + 43) = q120 := (hq9.1 _ (by omega)).trans a_n_43
          replace e_n_43 : c34 (n + 43) = .inr (3, [.ref ((a22 ((n + 44)))), .ref ((a22 ((n + 44) + 1))), .ref ((a22 ((n + 44) + 2))), .ref ((a22 ((n + 44) + 3))), .int ((fun _ => zI 0) 0), .int ((fun _ => zI 0) 1), .ref q109]) := (hu9 _ (by omega) (by omega)).trans e_n_43
          replace a_n_48 : a34 (n + 48) = q124 := (hq9.1 _ (by omega)).trans a_n_48
          replace e_n_48 : c34 (n + 48) = .inr (3, [.ref ((a26 ((n + 49)))), .ref ((a26 ((n + 49) + 1))), .ref ((a26 ((n + 49) + 2))), .ref ((a26 ((n + 49) + 3))), .int ((fun _ => zI 0) 0), .int ((fun _ => zI 0) 1), .ref q109]) := (hu9 _ (by omega) (by omega)).trans e_n_48
          replace a_n_53 : a34 (n + 53) = q128 := (hq9.1 _ (by omega)).trans a_n_53
          replace e_n_53 : c34 (n + 53) = .inr (3, [.ref ((a30 ((n + 54)))), .ref ((a30 ((n + 54) + 1))), .ref ((a30 ((n + 54) + 2))), .ref ((a30 ((n + 54) + 3))), .int ((fun _ => zI 0) 0), .int ((fun _ => zI 0) 1), .ref q109]) := (hu9 _ (by omega) (by omega)).trans e_n_53
          replace a_n_58 : a34 (n + 58) = q132 := (hq9.1 _ (by omega)).trans a_n_58
          have e_n_58 : c34 (n + 58) = .inr (3, [.ref ((a34 ((n + 59)))), .ref ((a34 ((n + 59) + 1))), .ref ((a34 ((n + 59) + 2))), .ref ((a34 ((n + 59) + 3))), .int ((fun _ => zI 0) 0), .int ((fun _ => zI 0) 1), .ref q109]) := hp9_0
          have a_n_59 : a34 (n + 59) = a34 (n + 59) := rfl
          have e_n_59 : c34 (n + 59) = .inl (g.2 0, 364, .inl (fillR (zI (-1)) (fun _ => zI 0) 364)) := hp9_1
          have a_n_60 : a34 (n + 60) = a34 (n + 60) := rfl
          have e_n_60 : c34 (n + 60) = .inl (g.2 0, 364, .inl (fillR (zI (0)) (fun _ => zI 0) 364)) := hp9_2
          have a_n_61 : a34 (n + 61) = a34 (n + 61) := rfl
          have e_n_61 : c34 (n + 61) = .inl (g.2 2, 364, .inl (fillR (zI (0)) (fun _ => zI 0) 364)) := hp9_3
          have a_n_62 : a34 (n + 62) = a34 (n + 62) := rfl
          have e_n_62 : c34 (n + 62) = .inr (0, [.int (zI (0)), .int (zI (0)), .int (zI (0)), .int (zI (0)), .int (zI (0)), .int (zI (0)), .int (zI (0)), .int (zI (0)), .int (zI (365))]) := hp9_4
          clear hq9 hu9 hp9_0 hp9_1 hp9_2 hp9_3 hp9_4
          have fa_S3 : ∀ j : Nat, j < n + 63 → a34 j = a34 j := fun _ _ => rfl
          have fc_S3 : ∀ j : Nat, j < n + 63 → ¬ j = x → ¬ j = n + 42 → c34 j = c34 j := fun _ _ _ _ => rfl
          have hsh3 : shC g a34 c34 (n + 58) q109 := ⟨e_n_58, e_n_59, e_n_60, e_n_61, e_n_62⟩
          clear a_n_59 e_n_59 a_n_60 e_n_60 a_n_61 e_n_61 a_n_62 e_n_62
          refine n_aast hx hb hK hP hD hS (n + 42) (show n + 42 < n + 63 by omega) a_n_42 4 e_n_42 3 rfl rfl (by decide) (n + 58) (show n + 58 < n + 63 by omega) a_n_58 e_n_58 (3) (by omega) (by omega) dX8_init_84 (fun H locs hP hD hS => ?_)
          obtain ⟨c35, hc35⟩ : ∃ x9 : Nat → va_E, x9 = va_up c34 (n + 42) (.inl (g.2 4, 4, .inr (.inr (.inr (.inr (va_up (va_up (va_up (va_up (fun _ => none) 0 (some q120)) 1 (some q124)) 2 (some q128)) 3 (some q132))))))) := ⟨_, rfl⟩
          have hP : nP g (n + 63) a34 c35 H := by rw [hc35]; exact hP
          have hD : va_D A (nL (n + 63) a34 c35) := by rw [hc35]; exact hD
          replace hexc : ∀ j : Nat, j < n → ¬ j = x → c35 j = ce j := fun j hj9 q0 => ((congrFun hc35 j).trans (up_ne _ _ (by omega))).trans (hexc j hj9 q0)
          replace fc_R1 : ∀ j : Nat, j < n + 23 → ¬ j = x → c35 j = c11 j := fun j hj9 q9_0 => ((congrFun hc35 j).trans (up_ne _ _ (by omega))).trans (fc_R1 j hj9 q9_0)
          replace fc_R2 : ∀ j : Nat, j < n + 42 → ¬ j = x → c35 j = c15 j := fun j hj9 q9_0 => ((congrFun hc35 j).trans (up_ne _ _ (by omega))).trans (fc_R2 j hj9 q9_0)
          replace fc_S0 : ∀ j : Nat, j < n + 48 → ¬ j = x → ¬ j = n + 42 → c35 j = c22 j := fun j hj9 q9_0 q9_1 => ((congrFun hc35 j).trans (up_ne _ _ q9_1)).trans (fc_S0 j hj9 q9_0 q9_1)
          replace fc_S1 : ∀ j : Nat, j < n + 53 → ¬ j = x → ¬ j = n + 42 → c35 j = c26 j := fun j hj9 q9_0 q9_1 => ((congrFun hc35 j).trans (up_ne _ _ q9_1)).trans (fc_S1 j hj9 q9_0 q9_1)
          replace fc_S2 : ∀ j : Nat, j < n + 58 → ¬ j = x → ¬ j = n + 42 → c35 j = c30 j := fun j hj9 q9_0 q9_1 => ((congrFun hc35 j).trans (up_ne _ _ q9_1)).trans (fc_S2 j hj9 q9_0 q9_1)
          replace fc_S3 : ∀ j : Nat, j < n + 63 → ¬ j = x → ¬ j = n + 42 → c35 j = c34 j := fun j hj9 q9_0 q9_1 => ((congrFun hc35 j).trans (up_ne _ _ q9_1)).trans (fc_S3 j hj9 q9_0 q9_1)
          replace e_x : c35 (x) = .inr (8, [.ref q101, .ref q105, .ref q117, .null, .ref q109, .ref q113, .int (zI (0))]) := ((congrFun hc35 _).trans (up_ne _ _ (by omega))).trans e_x
          replace e_n : c35 (n) = .inr (5, [.ref ((a3 ((n + 1)))), .int (zI (0))]) := ((congrFun hc35 _).trans (up_ne _ _ (by omega))).trans e_n
          replace e_n_1 : c35 (n + 1) = .inl (g.2 1, 740, .inl (fun _ => zI 0)) := ((congrFun hc35 _).trans (up_ne _ _ (by omega))).trans e_n_1
          replace e_n_2 : c35 (n + 2) = .inr (6, [.ref q101, .ref ((a7 ((n + 3)))), .int (zI (0)), .int (zI (0))]) := ((congrFun hc35 _).trans (up_ne _ _ (by omega))).trans e_n_2
          replace e_n_3 : c35 (n + 3) = .inr (7, [.ref q101, .int (zI (0)), .int (zI (0)), .int (zI (0)), .int (zI (0))]) := ((congrFun hc35 _).trans (up_ne _ _ (by omega))).trans e_n_3
          replace e_n_4 : c35 (n + 4) = .inr (2, [.ref ((a11 ((n + 5)))), .ref ((a11 ((n + 5) + 2))), .ref ((a11 ((n + 5) + 8))), .ref ((a11 ((n + 5) + 12))), .ref ((a11 ((n + 5) + 17)))]) := ((congrFun hc35 _).trans (up_ne _ _ (by omega))).trans e_n_4
          replace e_n_17 : c35 (n + 17) = .inl (g.2 6, 4, .inr (.inr (.inr (.inr (fun i8 => some (a11 ((n + 5) + 13 + i8))))))) := ((congrFun hc35 _).trans (up_ne _ _ (by omega))).trans e_n_17
          replace e_n_18 : c35 (n + 18) = .inl (g.2 0, 2, .inl (fun _ => zI 0)) := ((congrFun hc35 _).trans (up_ne _ _ (by omega))).trans e_n_18
          replace e_n_19 : c35 (n + 19) = .inl (g.2 0, 2, .inl (fun _ => zI 0)) := ((congrFun hc35 _).trans (up_ne _ _ (by omega))).trans e_n_19
          replace e_n_20 : c35 (n + 20) = .inl (g.2 0, 2, .inl (fun _ => zI 0)) := ((congrFun hc35 _).trans (up_ne _ _ (by omega))).trans e_n_20
          replace e_n_21 : c35 (n + 21) = .inl (g.2 0, 2, .inl (fun _ => zI 0)) := ((congrFun hc35 _).trans (up_ne _ _ (by omega))).trans e_n_21
          replace e_n_23 : c35 (n + 23) = .inr (2, [.ref ((a15 ((n + 24)))), .ref ((a15 ((n + 24) + 2))), .ref ((a15 ((n + 24) + 8))), .ref ((a15 ((n + 24) + 12))), .ref ((a15 ((n + 24) + 17)))]) := ((congrFun hc35 _).trans (up_ne _ _ (by omega))).trans e_n_23
          replace e_n_42 : c35 (n + 42) = .inl (g.2 4, 4, .inr (.inr (.inr (.inr (va_up (va_up (va_up (va_up (fun _ => none) 0 (some q120)) 1 (some q124)) 2 (some q128)) 3 (some q132)))))) := (congrFun hc35 _).trans (up_at _ _ _)
          replace e_n_43 : c35 (n + 43) = .inr (3, [.ref ((a22 ((n + 44)))), .ref ((a22 ((n + 44) + 1))), .ref ((a22 ((n + 44) + 2))), .ref ((a22 ((n + 44) + 3))), .int ((fun _ => zI 0) 0), .int ((fun _ => zI 0) 1), .ref q109]) := ((congrFun hc35 _).trans (up_ne _ _ (by omega))).trans e_n_43
          replace e_n_48 : c35 (n + 48) = .inr (3, [.ref ((a26 ((n + 49)))), .ref ((a26 ((n + 49) + 1))), .ref ((a26 ((n + 49) + 2))), .ref ((a26 ((n + 49) + 3))), .int ((fun _ => zI 0) 0), .int ((fun _ => zI 0) 1), .ref q109]) := ((congrFun hc35 _).trans (up_ne _ _ (by omega))).trans e_n_48
          replace e_n_53 : c35 (n + 53) = .inr (3, [.ref ((a30 ((n + 54)))), .ref ((a30 ((n + 54) + 1))), .ref ((a30 ((n + 54) + 2))), .ref ((a30 ((n + 54) + 3))), .int ((fun _ => zI 0) 0), .int ((fun _ => zI 0) 1), .ref q109]) := ((congrFun hc35 _).trans (up_ne _ _ (by omega))).trans e_n_53
          replace e_n_58 : c35 (n + 58) = .inr (3, [.ref ((a34 ((n + 59)))), .ref ((a34 ((n + 59) + 1))), .ref ((a34 ((n + 59) + 2))), .ref ((a34 ((n + 59) + 3))), .int ((fun _ => zI 0) 0), .int ((fun _ => zI 0) 1), .ref q109]) := ((congrFun hc35 _).trans (up_ne _ _ (by omega))).trans e_n_58
          clear hc35
          refine z_iinc (lv' := [(1, .int (zI ((((0 + 1) + 1) + 1) + 1))), (0, .ref h0)]) hx hb dX8_init_85 hl (k := 0) rfl (by decide) rfl (fun ls hl => ?_)
          refine lv_goto (tgt := 62) hx hb dX8_init_88 (by decide) ?_
          refine lv_iload_n hx hb dX8_init_62 rfl (lv_at hl 0 rfl) ?_
          refine lv_iconst (v := zI (4)) hx hb dX8_init_63 (by decide) ?_
          refine z_icmp_ge (tgt := 91) hx hb dX8_init_64 (by decide) (by omega) (by omega) (fun h64 => ?_) (fun h64 => ?_)
          · refine lv_aload_n hx hb dX8_init_91 rfl (lv_at hl 1 rfl) ?_
            refine n_new (ci := 1) (fs := [.null, .int (zI (0)), .int (zI (0))]) (C := RX1) (T := TX1) (N := 3) hx hb hts hinX1 tyX1 tyX1_ok hown kN44 kIX1 kJX1 hK hP hD hS hA rfl (fun j hj => by rcases (show j = 0 ∨ j = 1 ∨ j = 2 by omega) with rfl | rfl | rfl <;> rfl) (Nat.le_of_ble_eq_true rfl) (Nat.le_of_ble_eq_true rfl) dX8_init_92 (fun q136 H hP hD hS => ?_)
            obtain ⟨a37, ha37⟩ : ∃ x9 : Nat → Nat, x9 = va_up a34 (n + 63) q136 := ⟨_, rfl⟩
            obtain ⟨c37, hc37⟩ : ∃ x9 : Nat → va_E, x9 = va_up c35 (n + 63) (.inr (1, [.null, .int (zI (0)), .int (zI (0))])) := ⟨_, rfl⟩
            have hP : nP g (n + 64) a37 c37 H := by rw [ha37, hc37]; exact hP
            have hD : va_D A (nL (n + 64) a37 c37) := by rw [ha37, hc37]; exact hD
            replace hexa : ∀ j : Nat, j < n → a37 j = ad j := fun j hj9 => ((congrFun ha37 j).trans (up_ne _ _ (by omega))).trans (hexa j hj9)
            replace hexc : ∀ j : Nat, j < n → ¬ j = x → c37 j = ce j := fun j hj9 q0 => ((congrFun hc37 j).trans (up_ne _ _ (by omega))).trans (hexc j hj9 q0)
            replace fa_R1 : ∀ j : Nat, j < n + 23 → a37 j = a11 j := fun j hj9 => ((congrFun ha37 j).trans (up_ne _ _ (by omega))).trans (fa_R1 j hj9)
            replace fa_R2 : ∀ j : Nat, j < n + 42 → a37 j = a15 j := fun j hj9 => ((congrFun ha37 j).trans (up_ne _ _ (by omega))).trans (fa_R2 j hj9)
            replace fa_S0 : ∀ j : Nat, j < n + 48 → a37 j = a22 j := fun j hj9 => ((congrFun ha37 j).trans (up_ne _ _ (by omega))).trans (fa_S0 j hj9)
            replace fa_S1 : ∀ j : Nat, j < n + 53 → a37 j = a26 j := fun j hj9 => ((congrFun ha37 j).trans (up_ne _ _ (by omega))).trans (fa_S1 j hj9)
            replace fa_S2 : ∀ j : Nat, j < n + 58 → a37 j = a30 j := fun j hj9 => ((congrFun ha37 j).trans (up_ne _ _ (by omega))).trans (fa_S2 j hj9)
            replace fa_S3 : ∀ j : Nat, j < n + 63 → a37 j = a34 j := fun j hj9 => ((congrFun ha37 j).trans (up_ne _ _ (by omega))).trans (fa_S3 j hj9)
            replace fc_R1 : ∀ j : Nat, j < n + 23 → ¬ j = x → c37 j = c11 j := fun j hj9 q9_0 => ((congrFun hc37 j).trans (up_ne _ _ (by omega))).trans (fc_R1 j hj9 q9_0)
            replace fc_R2 : ∀ j : Nat, j < n + 42 → ¬ j = x → c37 j = c15 j := fun j hj9 q9_0 => ((congrFun hc37 j).trans (up_ne _ _ (by omega))).trans (fc_R2 j hj9 q9_0)
            replace fc_S0 : ∀ j : Nat, j < n + 48 → ¬ j = x → ¬ j = n + 42 → c37 j = c22 j := fun j hj9 q9_0 q9_1 => ((congrFun hc37 j).trans (up_ne _ _ (by omega))).trans (fc_S0 j hj9 q9_0 q9_1)
            replace fc_S1 : ∀ j : Nat, j < n + 53 → ¬ j = x → ¬ j = n + 42 → c37 j = c26 j := fun j hj9 q9_0 q9_1 => ((congrFun hc37 j).trans (up_ne _ _ (by omega))).trans (fc_S1 j hj9 q9_0 q9_1)
            replace fc_S2 : ∀ j : Nat, j < n + 58 → ¬ j = x → ¬ j = n + 42 → c37 j = c30 j := fun j hj9 q9_0 q9_1 => ((congrFun hc37 j).trans (up_ne _ _ (by omega))).trans (fc_S2 j hj9 q9_0 q9_1)
            replace fc_S3 : ∀ j : Nat, j < n + 63 → ¬ j = x → ¬ j = n + 42 → c37 j = c34 j := fun j hj9 q9_0 q9_1 => ((congrFun hc37 j).trans (up_ne _ _ (by omega))).trans (fc_S3 j hj9 q9_0 q9_1)
            replace a_x : a37 (x) = h0 := ((congrFun ha37 _).trans (up_ne _ _ (by omega))).trans a_x
            replace e_x : c37 (x) = .inr (8, [.ref q101, .ref q105, .ref q117, .null, .ref q109, .ref q113, .int (zI (0))]) := ((congrFun hc37 _).trans (up_ne _ _ (by omega))).trans e_x
            replace a_n : a37 (n) = q101 := ((congrFun ha37 _).trans (up_ne _ _ (by omega))).trans a_n
            replace e_n : c37 (n) = .inr (5, [.ref ((a3 ((n + 1)))), .int (zI (0))]) := ((congrFun hc37 _).trans (up_ne _ _ (by omega))).trans e_n
            replace a_n_1 : a37 (n + 1) = (a3 (n + 1)) := ((congrFun ha37 _).trans (up_ne _ _ (by omega))).trans a_n_1
            replace e_n_1 : c37 (n + 1) = .inl (g.2 1, 740, .inl (fun _ => zI 0)) := ((congrFun hc37 _).trans (up_ne _ _ (by omega))).trans e_n_1
            replace a_n_2 : a37 (n + 2) = q105 := ((congrFun ha37 _).trans (up_ne _ _ (by omega))).trans a_n_2
            replace e_n_2 : c37 (n + 2) = .inr (6, [.ref q101, .ref ((a7 ((n + 3)))), .int (zI (0)), .int (zI (0))]) := ((congrFun hc37 _).trans (up_ne _ _ (by omega))).trans e_n_2
            replace a_n_3 : a37 (n + 3) = (a7 (n + 3)) := ((congrFun ha37 _).trans (up_ne _ _ (by omega))).trans a_n_3
            replace e_n_3 : c37 (n + 3) = .inr (7, [.ref q101, .int (zI (0)), .int (zI (0)), .int (zI (0)), .int (zI (0))]) := ((congrFun hc37 _).trans (up_ne _ _ (by omega))).trans e_n_3
            replace a_n_4 : a37 (n + 4) = q109 := ((congrFun ha37 _).trans (up_ne _ _ (by omega))).trans a_n_4
            replace e_n_4 : c37 (n + 4) = .inr (2, [.ref ((a11 ((n + 5)))), .ref ((a11 ((n + 5) + 2))), .ref ((a11 ((n + 5) + 8))), .ref ((a11 ((n + 5) + 12))), .ref ((a11 ((n + 5) + 17)))]) := ((congrFun hc37 _).trans (up_ne _ _ (by omega))).trans e_n_4
            replace a_n_17 : a37 (n + 17) = (a11 (n + 17)) := ((congrFun ha37 _).trans (up_ne _ _ (by omega))).trans a_n_17
            replace e_n_17 : c37 (n + 17) = .inl (g.2 6, 4, .inr (.inr (.inr (.inr (fun i8 => some (a11 ((n + 5) + 13 + i8))))))) := ((congrFun hc37 _).trans (up_ne _ _ (by omega))).trans e_n_17
            replace a_n_18 : a37 (n + 18) = (a11 (n + 18)) := ((congrFun ha37 _).trans (up_ne _ _ (by omega))).trans a_n_18
            replace e_n_18 : c37 (n + 18) = .inl (g.2 0, 2, .inl (fun _ => zI 0)) := ((congrFun hc37 _).trans (up_ne _ _ (by omega))).trans e_n_18
            replace a_n_19 : a37 (n + 19) = (a11 (n + 19)) := ((congrFun ha37 _).trans (up_ne _ _ (by omega))).trans a_n_19
            replace e_n_19 : c37 (n + 19) = .inl (g.2 0, 2, .inl (fun _ => zI 0)) := ((congrFun hc37 _).trans (up_ne _ _ (by omega))).trans e_n_19
            replace a_n_20 : a37 (n + 20) = (a11 (n + 20)) := ((congrFun ha37 _).trans (up_ne _ _ (by omega))).trans a_n_20
            replace e_n_20 : c37 (n + 20) = .inl (g.2 0, 2, .inl (fun _ => zI 0)) := ((congrFun hc37 _).trans (up_ne _ _ (by omega))).trans e_n_20
            replace a_n_21 : a37 (n + 21) = (a11 (n + 21)) := ((congrFun ha37 _).trans (up_ne _ _ (by omega))).trans a_n_21
            replace e_n_21 : c37 (n + 21) = .inl (g.2 0, 2, .inl (fun _ => zI 0)) := ((congrFun hc37 _).trans (up_ne _ _ (by omega))).trans e_n_21
            replace a_n_23 : a37 (n + 23) = q113 := ((congrFun ha37 _).trans (up_ne _ _ (by omega))).trans a_n_23
            replace e_n_23 : c37 (n + 23) = .inr (2, [.ref ((a15 ((n + 24)))), .ref ((a15 ((n + 24) + 2))), .ref ((a15 ((n + 24) + 8))), .ref ((a15 ((n + 24) + 12))), .ref ((a15 ((n + 24) + 17)))]) := ((congrFun hc37 _).trans (up_ne _ _ (by omega))).trans e_n_23
            replace a_n_42 : a37 (n + 42) = q117 := ((congrFun ha37 _).trans (up_ne _ _ (by omega))).trans a_n_42
            replace e_n_42 : c37 (n + 42) = .inl (g.2 4, 4, .inr (.inr (.inr (.inr (va_up (va_up (va_up (va_up (fun _ => none) 0 (some q120)) 1 (some q124)) 2 (some q128)) 3 (some q132)))))) := ((congrFun hc37 _).trans (up_ne _ _ (by omega))).trans e_n_42
            replace a_n_43 : a37 (n + 43) = q120 := ((congrFun ha37 _).trans (up_ne _ _ (by omega))).trans a_n_43
            replace e_n_43 : c37 (n + 43) = .inr (3, [.ref ((a22 ((n + 44)))), .ref ((a22 ((n + 44) + 1))), .ref ((a22 ((n + 44) + 2))), .ref ((a22 ((n + 44) + 3))), .int ((fun _ => zI 0) 0), .int ((fun _ => zI 0) 1), .ref q109]) := ((congrFun hc37 _).trans (up_ne _ _ (by omega))).trans e_n_43
            replace a_n_48 : a37 (n + 48) = q124 := ((congrFun ha37 _).trans (up_ne _ _ (by omega))).trans a_n_48
            replace e_n_48 : c37 (n + 48) = .inr (3, [.ref ((a26 ((n + 49)))), .ref ((a26 ((n + 49) + 1))), .ref ((a26 ((n + 49) + 2))), .ref ((a26 ((n + 49) + 3))), .int ((fun _ => zI 0) 0), .int ((fun _ => zI 0) 1), .ref q109]) := ((congrFun hc37 _).trans (up_ne _ _ (by omega))).trans e_n_48
            replace a_n_53 : a37 (n + 53) = q128 := ((congrFun ha37 _).trans (up_ne _ _ (by omega))).trans a_n_53
            replace e_n_53 : c37 (n + 53) = .inr (3, [.ref ((a30 ((n + 54)))), .ref ((a30 ((n + 54) + 1))), .ref ((a30 ((n + 54) + 2))), .ref ((a30 ((n + 54) + 3))), .int ((fun _ => zI 0) 0), .int ((fun _ => zI 0) 1), .ref q109]) := ((congrFun hc37 _).trans (up_ne _ _ (by omega))).trans e_n_53
            replace a_n_58 : a37 (n + 58) = q132 := ((congrFun ha37 _).trans (up_ne _ _ (by omega))).trans a_n_58
            replace e_n_58 : c37 (n + 58) = .inr (3, [.ref ((a34 ((n + 59)))), .ref ((a34 ((n + 59) + 1))), .ref ((a34 ((n + 59) + 2))), .ref ((a34 ((n + 59) + 3))), .int ((fun _ => zI 0) 0), .int ((fun _ => zI 0) 1), .ref q109]) := ((congrFun hc37 _).trans (up_ne _ _ (by omega))).trans e_n_58
            have a_n_63 : a37 (n + 63) = q136 := (congrFun ha37 _).trans (up_at _ _ _)
            have e_n_63 : c37 (n + 63) = .inr (1, [.null, .int (zI (0)), .int (zI (0))]) := (congrFun hc37 _).trans (up_at _ _ _)
            clear ha37 hc37
            refine lv_dup hx hb dX8_init_95 rfl ?_
            have hF9 := n_free hD hS hA
            have hS9 := hS
            refine va_callv (va_runI (As := []) (rest := [.ref q136, .ref h0]) ⟨hx, hb, hml, hown, hts⟩ (c_X1_init_N l g (n + 64) (a37) (c37) (H.size) (n + 63) (by omega) (q136) (a_n_63) (e_n_63)) (cwI 0 hts gX8_init_X1_init rfl rfl rfl kJX1 kMl46 kIm_X1_init rfl (by decide +kernel) ⟨Nat.le_of_ble_eq_true rfl, Nat.le_of_ble_eq_true rfl⟩) (n_preS hP hD hK hN) rfl rfl hl.1 rfl (lv_room (Nat.le_of_ble_eq_true rfl)) dX8_init_96 ⟨Nat.le_of_ble_eq_true rfl, Nat.le_of_ble_eq_true rfl⟩) hS (fun q _ h => hF9 q h) hF9 (fun u9 t9 H1 locs ht9 hvm9 hw9 hB9 hz9 hk9 hS => ?_)
            obtain ⟨a38, c38⟩ := u9
            rw [ht9] at hB9
            clear hz9 hk9 hvm9 ht9 hF9
            try dsimp only at hw9 hB9
            obtain ⟨hq9, hu9, hp9_0, hx9⟩ := hw9
            have hD : va_D A (nL (n + 125) a38 c38) := n_joinD (n := n + 64) (m := 61) hD hS9 hA hq9
            clear hS9
            have hP : nP g (n + 125) a38 c38 H1 := hB9
            clear hB9
            generalize H1 = H at hP hS ⊢
            replace hexa : ∀ j : Nat, j < n → a38 j = ad j := fun j hj9 => (hq9.1 j (by omega)).trans (hexa j hj9)
            replace hexc : ∀ j : Nat, j < n → ¬ j = x → c38 j = ce j := fun j hj9 q0 => (hu9 j (by omega) (by omega)).trans (hexc j hj9 q0)
            replace fa_R1 : ∀ j : Nat, j < n + 23 → a38 j = a11 j := fun j hj9 => (hq9.1 j (by omega)).trans (fa_R1 j hj9)
            replace fa_R2 : ∀ j : Nat, j < n + 42 → a38 j = a15 j := fun j hj9 => (hq9.1 j (by omega)).trans (fa_R2 j hj9)
            replace fa_S0 : ∀ j : Nat, j < n + 48 → a38 j = a22 j := fun j hj9 => (hq9.1 j (by omega)).trans (fa_S0 j hj9)
            replace fa_S1 : ∀ j : Nat, j < n + 53 → a38 j = a26 j := fun j hj9 => (hq9.1 j (by omega)).trans (fa_S1 j hj9)
            replace fa_S2 : ∀ j : Nat, j < n + 58 → a38 j = a30 j := fun j hj9 => (hq9.1 j (by omega)).trans (fa_S2 j hj9)
            replace fa_S3 : ∀ j : Nat, j < n + 63 → a38 j = a34 j := fun j hj9 => (hq9.1 j (by omega)).trans (fa_S3 j hj9)
            replace fc_R1 : ∀ j : Nat, j < n + 23 → ¬ j = x → c38 j = c11 j := fun j hj9 q9_0 => (hu9 j (by omega) (by omega)).trans (fc_R1 j hj9 q9_0)
            replace fc_R2 : ∀ j : Nat, j < n + 42 → ¬ j = x → c38 j = c15 j := fun j hj9 q9_0 => (hu9 j (by omega) (by omega)).trans (fc_R2 j hj9 q9_0)
            replace fc_S0 : ∀ j : Nat, j < n + 48 → ¬ j = x → ¬ j = n + 42 → c38 j = c22 j := fun j hj9 q9_0 q9_1 => (hu9 j (by omega) (by omega)).trans (fc_S0 j hj9 q9_0 q9_1)
            replace fc_S1 : ∀ j : Nat, j < n + 53 → ¬ j = x → ¬ j = n + 42 → c38 j = c26 j := fun j hj9 q9_0 q9_1 => (hu9 j (by omega) (by omega)).trans (fc_S1 j hj9 q9_0 q9_1)
            replace fc_S2 : ∀ j : Nat, j < n + 58 → ¬ j = x → ¬ j = n + 42 → c38 j = c30 j := fun j hj9 q9_0 q9_1 => (hu9 j (by omega) (by omega)).trans (fc_S2 j hj9 q9_0 q9_1)
            replace fc_S3 : ∀ j : Nat, j < n + 63 → ¬ j = x → ¬ j = n + 42 → c38 j = c34 j := fun j hj9 q9_0 q9_1 => (hu9 j (by omega) (by omega)).trans (fc_S3 j hj9 q9_0 q9_1)
            replace a_x : a38 (x) = h0 := (hq9.1 _ (by omega)).trans a_x
            replace e_x : c38 (x) = .inr (8, [.ref q101, .ref q105, .ref q117, .null, .ref q109, .ref q113, .int (zI (0))]) := (hu9 _ (by omega) (by omega)).trans e_x
            replace a_n : a38 (n) = q101 := (hq9.1 _ (by omega)).trans a_n
            replace e_n : c38 (n) = .inr (5, [.ref ((a3 ((n + 1)))), .int (zI (0))]) := (hu9 _ (by omega) (by omega)).trans e_n
            replace a_n_1 : a38 (n + 1) = (a3 (n + 1)) := (hq9.1 _ (by omega)).trans a_n_1
            replace e_n_1 : c38 (n + 1) = .inl (g.2 1, 740, .inl (fun _ => zI 0)) := (hu9 _ (by omega) (by omega)).trans e_n_1
            replace a_n_2 : a38 (n + 2) = q105 := (hq9.1 _ (by omega)).trans a_n_2
            replace e_n_2 : c38 (n + 2) = .inr (6, [.ref q101, .ref ((a7 ((n + 3)))), .int (zI (0)), .int (zI (0))]) := (hu9 _ (by omega) (by omega)).trans e_n_2
            replace a_n_3 : a38 (n + 3) = (a7 (n + 3)) := (hq9.1 _ (by omega)).trans a_n_3
            replace e_n_3 : c38 (n + 3) = .inr (7, [.ref q101, .int (zI (0)), .int (zI (0)), .int (zI (0)), .int (zI (0))]) := (hu9 _ (by omega) (by omega)).trans e_n_3
            replace a_n_4 : a38 (n + 4) = q109 := (hq9.1 _ (by omega)).trans a_n_4
            replace e_n_4 : c38 (n + 4) = .inr (2, [.ref ((a11 ((n + 5)))), .ref ((a11 ((n + 5) + 2))), .ref ((a11 ((n + 5) + 8))), .ref ((a11 ((n + 5) + 12))), .ref ((a11 ((n + 5) + 17)))]) := (hu9 _ (by omega) (by omega)).trans e_n_4
            replace a_n_17 : a38 (n + 17) = (a11 (n + 17)) := (hq9.1 _ (by omega)).trans a_n_17
            replace e_n_17 : c38 (n + 17) = .inl (g.2 6, 4, .inr (.inr (.inr (.inr (fun i8 => some (a11 ((n + 5) + 13 + i8))))))) := (hu9 _ (by omega) (by omega)).trans e_n_17
            replace a_n_18 : a38 (n + 18) = (a11 (n + 18)) := (hq9.1 _ (by omega)).trans a_n_18
            replace e_n_18 : c38 (n + 18) = .inl (g.2 0, 2, .inl (fun _ => zI 0)) := (hu9 _ (by omega) (by omega)).trans e_n_18
            replace a_n_19 : a38 (n + 19) = (a11 (n + 19)) := (hq9.1 _ (by omega)).trans a_n_19
            replace e_n_19 : c38 (n + 19) = .inl (g.2 0, 2, .inl (fun _ => zI 0)) := (hu9 _ (by omega) (by omega)).trans e_n_19
            replace a_n_20 : a38 (n + 20) = (a11 (n + 20)) := (hq9.1 _ (by omega)).trans a_n_20
            replace e_n_20 : c38 (n + 20) = .inl (g.2 0, 2, .inl (fun _ => zI 0)) := (hu9 _ (by omega) (by omega)).trans e_n_20
            replace a_n_21 : a38 (n + 21) = (a11 (n + 21)) := (hq9.1 _ (by omega)).trans a_n_21
            replace e_n_21 : c38 (n + 21) = .inl (g.2 0, 2, .inl (fun _ => zI 0)) := (hu9 _ (by omega) (by omega)).trans e_n_21
            replace a_n_23 : a38 (n + 23) = q113 := (hq9.1 _ (by omega)).trans a_n_23
            replace e_n_23 : c38 (n + 23) = .inr (2, [.ref ((a15 ((n + 24)))), .ref ((a15 ((n + 24) + 2))), .ref ((a15 ((n + 24) + 8))), .ref ((a15 ((n + 24) + 12))), .ref ((a15 ((n + 24) + 17)))]) := (hu9 _ (by omega) (by omega)).trans e_n_23
            replace a_n_42 : a38 (n + 42) = q117 := (hq9.1 _ (by omega)).trans a_n_42
            replace e_n_42 : c38 (n + 42) = .inl (g.2 4, 4, .inr (.inr (.inr (.inr (va_up (va_up (va_up (va_up (fun _ => none) 0 (some q120)) 1 (some q124)) 2 (some q128)) 3 (some q132)))))) := (hu9 _ (by omega) (by omega)).trans e_n_42
            replace a_n_43 : a38 (n + 43) = q120 := (hq9.1 _ (by omega)).trans a_n_43
            replace e_n_43 : c38 (n + 43) = .inr (3, [.ref ((a22 ((n + 44)))), .ref ((a22 ((n + 44) + 1))), .ref ((a22 ((n + 44) + 2))), .ref ((a22 ((n + 44) + 3))), .int ((fun _ => zI 0) 0), .int ((fun _ => zI 0) 1), .ref q109]) := (hu9 _ (by omega) (by omega)).trans e_n_43
            replace a_n_48 : a38 (n + 48) = q124 := (hq9.1 _ (by omega)).trans a_n_48
            replace e_n_48 : c38 (n + 48) = .inr (3, [.ref ((a26 ((n + 49)))), .ref ((a26 ((n + 49) + 1))), .ref ((a26 ((n + 49) + 2))), .ref ((a26 ((n + 49) + 3))), .int ((fun _ => zI 0) 0), .int ((fun _ => zI 0) 1), .ref q109]) := (hu9 _ (by omega) (by omega)).trans e_n_48
            replace a_n_53 : a38 (n + 53) = q128 := (hq9.1 _ (by omega)).trans a_n_53
            replace e_n_53 : c38 (n + 53) = .inr (3, [.ref ((a30 ((n + 54)))), .ref ((a30 ((n + 54) + 1))), .ref ((a30 ((n + 54) + 2))), .ref ((a30 ((n + 54) + 3))), .int ((fun _ => zI 0) 0), .int ((fun _ => zI 0) 1), .ref q109]) := (hu9 _ (by omega) (by omega)).trans e_n_53
            replace a_n_58 : a38 (n + 58) = q132 := (hq9.1 _ (by omega)).trans a_n_58
            replace e_n_58 : c38 (n + 58) = .inr (3, [.ref ((a34 ((n + 59)))), .ref ((a34 ((n + 59) + 1))), .ref ((a34 ((n + 59) + 2))), .ref ((a34 ((n + 59) + 3))), .int ((fun _ => zI 0) 0), .int ((fun _ => zI 0) 1), .ref q109]) := (hu9 _ (by omega) (by omega)).trans e_n_58
            replace a_n_63 : a38 (n + 63) = q136 := (hq9.1 _ (by omega)).trans a_n_63
            have e_n_63 : c38 (n + 63) = .inr (1, [.ref ((a38 ((n + 64)))), .int (zI (0)), .int (zI (0))]) := hp9_0
            clear hq9 hu9 hp9_0
            have fa_H : ∀ j : Nat, j < n + 125 → a38 j = a38 j := fun _ _ => rfl
            have fc_H : ∀ j : Nat, j < n + 125 → ¬ j = x → ¬ j = n + 42 → c38 j = c38 j := fun _ _ _ _ => rfl
            obtain ⟨⟨hh9, hhn9, hhs9⟩, hst9⟩ := hx9
            refine n_putF (ci := 8) (v := .ref q136) (ty := .object "HoursBank$History") (C := RX8) (T := TX8) (N := 7) hx hb hts hinX8 tyX8 tyX8_ok nmX8 hown hK hP hD hS (x) (show x < n + 125 by omega) a_x e_x rfl 3 (by decide) k47 (fun _ h9 => h9) rfl hin9 rfl (by decide +kernel) rfl rfl (Nat.le_of_ble_eq_true rfl) dX8_init_99 (fun H locs hP hD hS => ?_)
            obtain ⟨c39, hc39⟩ : ∃ x9 : Nat → va_E, x9 = va_up c38 (x) (.inr (8, [.ref q101, .ref q105, .ref q117, .ref q136, .ref q109, .ref q113, .int (zI (0))])) := ⟨_, rfl⟩
            have hP : nP g (n + 125) a38 c39 H := by rw [hc39]; exact hP
            have hD : va_D A (nL (n + 125) a38 c39) := by rw [hc39]; exact hD
            replace hexc : ∀ j : Nat, j < n → ¬ j = x → c39 j = ce j := fun j hj9 q0 => ((congrFun hc39 j).trans (up_ne _ _ q0)).trans (hexc j hj9 q0)
            replace fc_R1 : ∀ j : Nat, j < n + 23 → ¬ j = x → c39 j = c11 j := fun j hj9 q9_0 => ((congrFun hc39 j).trans (up_ne _ _ q9_0)).trans (fc_R1 j hj9 q9_0)
            replace fc_R2 : ∀ j : Nat, j < n + 42 → ¬ j = x → c39 j = c15 j := fun j hj9 q9_0 => ((congrFun hc39 j).trans (up_ne _ _ q9_0)).trans (fc_R2 j hj9 q9_0)
            replace fc_S0 : ∀ j : Nat, j < n + 48 → ¬ j = x → ¬ j = n + 42 → c39 j = c22 j := fun j hj9 q9_0 q9_1 => ((congrFun hc39 j).trans (up_ne _ _ q9_0)).trans (fc_S0 j hj9 q9_0 q9_1)
            replace fc_S1 : ∀ j : Nat, j < n + 53 → ¬ j = x → ¬ j = n + 42 → c39 j = c26 j := fun j hj9 q9_0 q9_1 => ((congrFun hc39 j).trans (up_ne _ _ q9_0)).trans (fc_S1 j hj9 q9_0 q9_1)
            replace fc_S2 : ∀ j : Nat, j < n + 58 → ¬ j = x → ¬ j = n + 42 → c39 j = c30 j := fun j hj9 q9_0 q9_1 => ((congrFun hc39 j).trans (up_ne _ _ q9_0)).trans (fc_S2 j hj9 q9_0 q9_1)
            replace fc_S3 : ∀ j : Nat, j < n + 63 → ¬ j = x → ¬ j = n + 42 → c39 j = c34 j := fun j hj9 q9_0 q9_1 => ((congrFun hc39 j).trans (up_ne _ _ q9_0)).trans (fc_S3 j hj9 q9_0 q9_1)
            replace fc_H : ∀ j : Nat, j < n + 125 → ¬ j = x → ¬ j = n + 42 → c39 j = c38 j := fun j hj9 q9_0 q9_1 => ((congrFun hc39 j).trans (up_ne _ _ q9_0)).trans (fc_H j hj9 q9_0 q9_1)
            replace e_x : c39 (x) = .inr (8, [.ref q101, .ref q105, .ref q117, .ref q136, .ref q109, .ref q113, .int (zI (0))]) := (congrFun hc39 _).trans (up_at _ _ _)
            replace e_n : c39 (n) = .inr (5, [.ref ((a3 ((n + 1)))), .int (zI (0))]) := ((congrFun hc39 _).trans (up_ne _ _ (by omega))).trans e_n
            replace e_n_1 : c39 (n + 1) = .inl (g.2 1, 740, .inl (fun _ => zI 0)) := ((congrFun hc39 _).trans (up_ne _ _ (by omega))).trans e_n_1
            replace e_n_2 : c39 (n + 2) = .inr (6, [.ref q101, .ref ((a7 ((n + 3)))), .int (zI (0)), .int (zI (0))]) := ((congrFun hc39 _).trans (up_ne _ _ (by omega))).trans e_n_2
            replace e_n_3 : c39 (n + 3) = .inr (7, [.ref q101, .int (zI (0)), .int (zI (0)), .int (zI (0)), .int (zI (0))]) := ((congrFun hc39 _).trans (up_ne _ _ (by omega))).trans e_n_3
            replace e_n_4 : c39 (n + 4) = .inr (2, [.ref ((a11 ((n + 5)))), .ref ((a11 ((n + 5) + 2))), .ref ((a11 ((n + 5) + 8))), .ref ((a11 ((n + 5) + 12))), .ref ((a11 ((n + 5) + 17)))]) := ((congrFun hc39 _).trans (up_ne _ _ (by omega))).trans e_n_4
            replace e_n_17 : c39 (n + 17) = .inl (g.2 6, 4, .inr (.inr (.inr (.inr (fun i8 => some (a11 ((n + 5) + 13 + i8))))))) := ((congrFun hc39 _).trans (up_ne _ _ (by omega))).trans e_n_17
            replace e_n_18 : c39 (n + 18) = .inl (g.2 0, 2, .inl (fun _ => zI 0)) := ((congrFun hc39 _).trans (up_ne _ _ (by omega))).trans e_n_18
            replace e_n_19 : c39 (n + 19) = .inl (g.2 0, 2, .inl (fun _ => zI 0)) := ((congrFun hc39 _).trans (up_ne _ _ (by omega))).trans e_n_19
            replace e_n_20 : c39 (n + 20) = .inl (g.2 0, 2, .inl (fun _ => zI 0)) := ((congrFun hc39 _).trans (up_ne _ _ (by omega))).trans e_n_20
            replace e_n_21 : c39 (n + 21) = .inl (g.2 0, 2, .inl (fun _ => zI 0)) := ((congrFun hc39 _).trans (up_ne _ _ (by omega))).trans e_n_21
            replace e_n_23 : c39 (n + 23) = .inr (2, [.ref ((a15 ((n + 24)))), .ref ((a15 ((n + 24) + 2))), .ref ((a15 ((n + 24) + 8))), .ref ((a15 ((n + 24) + 12))), .ref ((a15 ((n + 24) + 17)))]) := ((congrFun hc39 _).trans (up_ne _ _ (by omega))).trans e_n_23
            replace e_n_42 : c39 (n + 42) = .inl (g.2 4, 4, .inr (.inr (.inr (.inr (va_up (va_up (va_up (va_up (fun _ => none) 0 (some q120)) 1 (some q124)) 2 (some q128)) 3 (some q132)))))) := ((congrFun hc39 _).trans (up_ne _ _ (by omega))).trans e_n_42
            replace e_n_43 : c39 (n + 43) = .inr (3, [.ref ((a22 ((n + 44)))), .ref ((a22 ((n + 44) + 1))), .ref ((a22 ((n + 44) + 2))), .ref ((a22 ((n + 44) + 3))), .int ((fun _ => zI 0) 0), .int ((fun _ => zI 0) 1), .ref q109]) := ((congrFun hc39 _).trans (up_ne _ _ (by omega))).trans e_n_43
            replace e_n_48 : c39 (n + 48) = .inr (3, [.ref ((a26 ((n + 49)))), .ref ((a26 ((n + 49) + 1))), .ref ((a26 ((n + 49) + 2))), .ref ((a26 ((n + 49) + 3))), .int ((fun _ => zI 0) 0), .int ((fun _ => zI 0) 1), .ref q109]) := ((congrFun hc39 _).trans (up_ne _ _ (by omega))).trans e_n_48
            replace e_n_53 : c39 (n + 53) = .inr (3, [.ref ((a30 ((n + 54)))), .ref ((a30 ((n + 54) + 1))), .ref ((a30 ((n + 54) + 2))), .ref ((a30 ((n + 54) + 3))), .int ((fun _ => zI 0) 0), .int ((fun _ => zI 0) 1), .ref q109]) := ((congrFun hc39 _).trans (up_ne _ _ (by omega))).trans e_n_53
            replace e_n_58 : c39 (n + 58) = .inr (3, [.ref ((a34 ((n + 59)))), .ref ((a34 ((n + 59) + 1))), .ref ((a34 ((n + 59) + 2))), .ref ((a34 ((n + 59) + 3))), .int ((fun _ => zI 0) 0), .int ((fun _ => zI 0) 1), .ref q109]) := ((congrFun hc39 _).trans (up_ne _ _ (by omega))).trans e_n_58
            replace e_n_63 : c39 (n + 63) = .inr (1, [.ref ((a38 ((n + 64)))), .int (zI (0)), .int (zI (0))]) := ((congrFun hc39 _).trans (up_ne _ _ (by omega))).trans e_n_63
            clear hc39
            refine lv_aload_n hx hb dX8_init_102 rfl (lv_at hl 1 rfl) ?_
            refine lv_iconst (v := zI (0)) hx hb dX8_init_103 (by decide) ?_
            refine n_put (ci := 8) (v := .int (zI (0))) (ty := .int) (C := RX8) (T := TX8) (N := 7) hx hb hts hinX8 tyX8 tyX8_ok nmX8 hown hK hP hD hS (x) (show x < n + 125 by omega) a_x e_x rfl 6 (by decide) k51 (fun _ h9 => h9) rfl (by decide +kernel) rfl rfl (Nat.le_of_ble_eq_true rfl) dX8_init_104 (fun H locs hP hD hS => ?_)
            obtain ⟨c40, hc40⟩ : ∃ x9 : Nat → va_E, x9 = va_up c39 (x) (.inr (8, [.ref q101, .ref q105, .ref q117, .ref q136, .ref q109, .ref q113, .int (zI (0))])) := ⟨_, rfl⟩
            have hP : nP g (n + 125) a38 c40 H := by rw [hc40]; exact hP
            have hD : va_D A (nL (n + 125) a38 c40) := by rw [hc40]; exact hD
            replace hexc : ∀ j : Nat, j < n → ¬ j = x → c40 j = ce j := fun j hj9 q0 => ((congrFun hc40 j).trans (up_ne _ _ q0)).trans (hexc j hj9 q0)
            replace fc_R1 : ∀ j : Nat, j < n + 23 → ¬ j = x → c40 j = c11 j := fun j hj9 q9_0 => ((congrFun hc40 j).trans (up_ne _ _ q9_0)).trans (fc_R1 j hj9 q9_0)
            replace fc_R2 : ∀ j : Nat, j < n + 42 → ¬ j = x → c40 j = c15 j := fun j hj9 q9_0 => ((congrFun hc40 j).trans (up_ne _ _ q9_0)).trans (fc_R2 j hj9 q9_0)
            replace fc_S0 : ∀ j : Nat, j < n + 48 → ¬ j = x → ¬ j = n + 42 → c40 j = c22 j := fun j hj9 q9_0 q9_1 => ((congrFun hc40 j).trans (up_ne _ _ q9_0)).trans (fc_S0 j hj9 q9_0 q9_1)
            replace fc_S1 : ∀ j : Nat, j < n + 53 → ¬ j = x → ¬ j = n + 42 → c40 j = c26 j := fun j hj9 q9_0 q9_1 => ((congrFun hc40 j).trans (up_ne _ _ q9_0)).trans (fc_S1 j hj9 q9_0 q9_1)
            replace fc_S2 : ∀ j : Nat, j < n + 58 → ¬ j = x → ¬ j = n + 42 → c40 j = c30 j := fun j hj9 q9_0 q9_1 => ((congrFun hc40 j).trans (up_ne _ _ q9_0)).trans (fc_S2 j hj9 q9_0 q9_1)
            replace fc_S3 : ∀ j : Nat, j < n + 63 → ¬ j = x → ¬ j = n + 42 → c40 j = c34 j := fun j hj9 q9_0 q9_1 => ((congrFun hc40 j).trans (up_ne _ _ q9_0)).trans (fc_S3 j hj9 q9_0 q9_1)
            replace fc_H : ∀ j : Nat, j < n + 125 → ¬ j = x → ¬ j = n + 42 → c40 j = c38 j := fun j hj9 q9_0 q9_1 => ((congrFun hc40 j).trans (up_ne _ _ q9_0)).trans (fc_H j hj9 q9_0 q9_1)
            replace e_x : c40 (x) = .inr (8, [.ref q101, .ref q105, .ref q117, .ref q136, .ref q109, .ref q113, .int (zI (0))]) := (congrFun hc40 _).trans (up_at _ _ _)
            replace e_n : c40 (n) = .inr (5, [.ref ((a3 ((n + 1)))), .int (zI (0))]) := ((congrFun hc40 _).trans (up_ne _ _ (by omega))).trans e_n
            replace e_n_1 : c40 (n + 1) = .inl (g.2 1, 740, .inl (fun _ => zI 0)) := ((congrFun hc40 _).trans (up_ne _ _ (by omega))).trans e_n_1
            replace e_n_2 : c40 (n + 2) = .inr (6, [.ref q101, .ref ((a7 ((n + 3)))), .int (zI (0)), .int (zI (0))]) := ((congrFun hc40 _).trans (up_ne _ _ (by omega))).trans e_n_2
            replace e_n_3 : c40 (n + 3) = .inr (7, [.ref q101, .int (zI (0)), .int (zI (0)), .int (zI (0)), .int (zI (0))]) := ((congrFun hc40 _).trans (up_ne _ _ (by omega))).trans e_n_3
            replace e_n_4 : c40 (n + 4) = .inr (2, [.ref ((a11 ((n + 5)))), .ref ((a11 ((n + 5) + 2))), .ref ((a11 ((n + 5) + 8))), .ref ((a11 ((n + 5) + 12))), .ref ((a11 ((n + 5) + 17)))]) := ((congrFun hc40 _).trans (up_ne _ _ (by omega))).trans e_n_4
            replace e_n_17 : c40 (n + 17) = .inl (g.2 6, 4, .inr (.inr (.inr (.inr (fun i8 => some (a11 ((n + 5) + 13 + i8))))))) := ((congrFun hc40 _).trans (up_ne _ _ (by omega))).trans e_n_17
            replace e_n_18 : c40 (n + 18) = .inl (g.2 0, 2, .inl (fun _ => zI 0)) := ((congrFun hc40 _).trans (up_ne _ _ (by omega))).trans e_n_18
            replace e_n_19 : c40 (n + 19) = .inl (g.2 0, 2, .inl (fun _ => zI 0)) := ((congrFun hc40 _).trans (up_ne _ _ (by omega))).trans e_n_19
            replace e_n_20 : c40 (n + 20) = .inl (g.2 0, 2, .inl (fun _ => zI 0)) := ((congrFun hc40 _).trans (up_ne _ _ (by omega))).trans e_n_20
            replace e_n_21 : c40 (n + 21) = .inl (g.2 0, 2, .inl (fun _ => zI 0)) := ((congrFun hc40 _).trans (up_ne _ _ (by omega))).trans e_n_21
            replace e_n_23 : c40 (n + 23) = .inr (2, [.ref ((a15 ((n + 24)))), .ref ((a15 ((n + 24) + 2))), .ref ((a15 ((n + 24) + 8))), .ref ((a15 ((n + 24) + 12))), .ref ((a15 ((n + 24) + 17)))]) := ((congrFun hc40 _).trans (up_ne _ _ (by omega))).trans e_n_23
            replace e_n_42 : c40 (n + 42) = .inl (g.2 4, 4, .inr (.inr (.inr (.inr (va_up (va_up (va_up (va_up (fun _ => none) 0 (some q120)) 1 (some q124)) 2 (some q128)) 3 (some q132)))))) := ((congrFun hc40 _).trans (up_ne _ _ (by omega))).trans e_n_42
            replace e_n_43 : c40 (n + 43) = .inr (3, [.ref ((a22 ((n + 44)))), .ref ((a22 ((n + 44) + 1))), .ref ((a22 ((n + 44) + 2))), .ref ((a22 ((n + 44) + 3))), .int ((fun _ => zI 0) 0), .int ((fun _ => zI 0) 1), .ref q109]) := ((congrFun hc40 _).trans (up_ne _ _ (by omega))).trans e_n_43
            replace e_n_48 : c40 (n + 48) = .inr (3, [.ref ((a26 ((n + 49)))), .ref ((a26 ((n + 49) + 1))), .ref ((a26 ((n + 49) + 2))), .ref ((a26 ((n + 49) + 3))), .int ((fun _ => zI 0) 0), .int ((fun _ => zI 0) 1), .ref q109]) := ((congrFun hc40 _).trans (up_ne _ _ (by omega))).trans e_n_48
            replace e_n_53 : c40 (n + 53) = .inr (3, [.ref ((a30 ((n + 54)))), .ref ((a30 ((n + 54) + 1))), .ref ((a30 ((n + 54) + 2))), .ref ((a30 ((n + 54) + 3))), .int ((fun _ => zI 0) 0), .int ((fun _ => zI 0) 1), .ref q109]) := ((congrFun hc40 _).trans (up_ne _ _ (by omega))).trans e_n_53
            replace e_n_58 : c40 (n + 58) = .inr (3, [.ref ((a34 ((n + 59)))), .ref ((a34 ((n + 59) + 1))), .ref ((a34 ((n + 59) + 2))), .ref ((a34 ((n + 59) + 3))), .int ((fun _ => zI 0) 0), .int ((fun _ => zI 0) 1), .ref q109]) := ((congrFun hc40 _).trans (up_ne _ _ (by omega))).trans e_n_58
            replace e_n_63 : c40 (n + 63) = .inr (1, [.ref ((a38 ((n + 64)))), .int (zI (0)), .int (zI (0))]) := ((congrFun hc40 _).trans (up_ne _ _ (by omega))).trans e_n_63
            clear hc40
            have hQ9 := nQ_of (m := 125) hAe hD hexa
            exact W.vret hx hb hr (fun tX htX hWX => ⟨⟨(a38, c40), rfl, ⟨hQ9, fun j hj9 q0 => hexc j hj9 q0, e_x.trans (by dsimp only; rw [a_n, a_n_2, a_n_42, a_n_63, a_n_4, a_n_23]), e_n.trans (by dsimp only; rw [a_n_1]), e_n_1, e_n_2.trans (by dsimp only; rw [a_n, a_n_3]), e_n_3.trans (by dsimp only; rw [a_n]), ruC_tr hru1 (fun k hk => fa_R1 _ (by omega)) (fun k hk => fc_R1 _ (by omega) (by omega)), ruC_tr hru2 (fun k hk => fa_R2 _ (by omega)) (fun k hk => fc_R2 _ (by omega) (by omega)), ⟨_, e_n_42, fun j hj => by
                dsimp only
                rcases (show j = 0 ∨ j = 1 ∨ j = 2 ∨ j = 3 by omega) with rfl | rfl | rfl | rfl
                · exact (show _ = some q120 from rfl).trans (congrArg some a_n_43.symm)
                · exact (show _ = some q124 from rfl).trans (congrArg some a_n_48.symm)
                · exact (show _ = some q128 from rfl).trans (congrArg some a_n_53.symm)
                · exact (show _ = some q132 from rfl).trans (congrArg some a_n_58.symm)⟩, (fun w hw => by
                dsimp only
                rw [a_n_4]
                rcases (show w = 0 ∨ w = 1 ∨ w = 2 ∨ w = 3 by omega) with rfl | rfl | rfl | rfl
                · exact shC_tr hsh0 (fun k hk => fa_S0 _ (by omega)) (fun k hk => fc_S0 _ (by omega) (by omega) (by omega))
                · exact shC_tr hsh1 (fun k hk => fa_S1 _ (by omega)) (fun k hk => fc_S1 _ (by omega) (by omega) (by omega))
                · exact shC_tr hsh2 (fun k hk => fa_S2 _ (by omega)) (fun k hk => fc_S2 _ (by omega) (by omega) (by omega))
                · exact shC_tr hsh3 (fun k hk => fa_S3 _ (by omega)) (fun k hk => fc_S3 _ (by omega) (by omega) (by omega))), e_n_63, ⟨hh9, (fc_H (n + 64) (by omega) (by omega) (by omega)).trans hhn9, fun j hj => (hhs9 j hj).trans (congrArg some (fa_H _ (by omega)).symm)⟩, fun j hj => stC_tr (hst9 j hj) (fun k hk => fa_H _ (by omega)) (fun k hk => fc_H _ (by omega) (by omega) (by omega))⟩, g_at htX hP⟩, hS.F htX⟩) hS.2.2 dX8_init_107
          · exfalso; omega
