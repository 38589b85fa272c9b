set_option maxHeartbeats 4000000 in
set_option maxRecDepth 100000 in
theorem c_X1_init_N (l : Launch) (g : GG) (n : Nat) (ad : Nat → Nat) (ce : Nat → va_E) (sz : Nat) (x : Nat) (hx0 : x < n) (h0 : Nat) (ha0 : ad x = h0) (e_x : ce (x) = .inr (1, [.null, .int (zI (0)), .int (zI (0))])) : Met l yX1_init wsX1_init ({ frames := 3, cells := 61, slots := 470, locals := 53 }) (nPc g n ad ce sz [.ref h0]) (va_Qv (fun (u : (Nat → Nat) × (Nat → va_E)) => nQ n 61 ad sz u.1 ∧ (∀ i, i < n → ¬ i = x → u.2 i = ce i) ∧ u.2 (x) = .inr (1, [.ref ((u.1 (n))), .int (zI (0)), .int (zI (0))]) ∧ (∃ h : Nat → Option Nat, u.2 n = .inl (g.2 5, 10, .inr (.inr (.inr (.inr h)))) ∧ ∀ j, j < 10 → h j = some (u.1 (n + 1 + 6 * j))) ∧ ∀ j, j < 10 → stC g u.1 u.2 (n + 1 + 6 * j)) (fun u (tS : State) => nP g (n + 61) u.1 u.2 tS.heap) (nA n ad sz)) 61 470 (nA n ad sz) := by
  refine Met.ofW (cc := cX1_init) (maxL := 2) (ret := none) (by decide) rfl ?_
  intro p e s m args below meth c s₁ B hml hv
  obtain ⟨rfl, hsz, hP, hD0, hK, hN⟩ := hv
  have hx := B.exec
  have hb := B.bytes
  have hr := B.returns
  have hts := atoms_spec (ws := wsX1_init) B.pre
  have hown : s.vm.findClass RX1 = some m.cls := findClass_of_methodNamed B.named
  have hlocks := B.notSynchronized
  have hin9 := (name_of_methodNamed B.named B.method).1
  have hinX1 : ∀ w ∈ wsX10, w ∈ wsX1_init := by decide +kernel
  have hinX4 : ∀ w ∈ wsX40, w ∈ wsX1_init := by decide +kernel
  have kOI := hts (.methodLink RX1 3 objectInit) (by decide +kernel)
  have kOJ := hts (.instanceMethod objectInit) (by decide +kernel)
  have kOK := hts (.code objectInit ⟨#[0xb1]⟩ 1 none) (by decide +kernel)
  have kN11 := hts (.classLink RX1 11 RX4) (by decide +kernel)
  have k13 := hts (.fieldLink RX1 13 "HoursBank$History" "steps" "[LHoursBank$Step;") (by decide +kernel)
  have kIX4 := hts (.instantiable RX4 6) (by decide +kernel)
  have kJX4 := hts (.initialized RX4) (by decide +kernel)
  have kIm_X4_init := hts (.instanceMethod yX4_init) (by decide +kernel)
  have kMl17 := hts (.methodLink RX1 17 yX4_init) (by decide +kernel)
  subst hsz
  obtain ⟨A, hAe⟩ : ∃ A, A = nA n ad s.heap.size := ⟨_, rfl⟩
  rw [← hAe]
  have hA : ∀ q : Nat, s.heap.size ≤ q → A q := fun q h => by rw [hAe]; exact Or.inr h
  have hD : va_D A (nL n ad ce) := nDa hD0 (fun i hi => by rw [hAe]; exact Or.inl ⟨i, hi, rfl⟩)
  have hl := lv_entry ([.ref h0]) (n := 2) (Nat.le_of_ble_eq_true rfl)
  rw [lg_entry_eq]
  generalize (lg_sl ([.ref h0]) ++ List.replicate (2 - (lg_sl ([.ref h0])).length) Slot.unset).toArray = ls at hl ⊢
  have hl : lv_has ls 2 [(0, .ref h0)] := hl
  have hS : va_S A s.heap s.heap [] := va_S.rf
  obtain ⟨H, hH9⟩ : ∃ H, H = s.heap := ⟨_, rfl⟩
  obtain ⟨locs, hL9⟩ : ∃ x9l : List Loc, x9l = [] := ⟨_, rfl⟩
  have hP : nP g n ad ce H := hH9 ▸ hP
  have hS : va_S A s.heap H locs := by rw [hH9, hL9]; exact hS
  refine z_start hH9 hL9 ?_
  clear hH9 hL9
  have hexa : ∀ j : Nat, j < n → ad j = ad j := fun _ _ => rfl
  have hexc : ∀ j : Nat, j < n → ce j = ce j := fun _ _ => rfl
  have a_x : ad (x) = h0 := ha0
  refine lv_aload_n hx hb dX1_init_0 rfl (lv_at hl 0 rfl) ?_
  refine W.objInit hx hb hown kOI kOJ kOK rfl (by rw [hml]; exact hl.1) rfl dX1_init_1 (Nat.le_of_ble_eq_true rfl) (Nat.le_of_ble_eq_true rfl) ?_
  refine W.eq (g2 := F0 m 4 ls []) rfl ?_
  refine lv_aload_n hx hb dX1_init_4 rfl (lv_at hl 0 rfl) ?_
  refine lv_bipush (v := zI (10)) hx hb dX1_init_5 (by decide) ?_
  refine n_newq (C := RX4) (N' := 10) hx hb hown kN11 hN.2.2.2.2.2.1 hK hP hD hS hA 5 rfl (by omega) (by omega) (Nat.le_of_ble_eq_true rfl) (Nat.le_of_ble_eq_true rfl) (Nat.le_of_ble_eq_true rfl) dX1_init_7 (fun q101 H hP hD hS => ?_)
  obtain ⟨a2, ha2⟩ : ∃ x9 : Nat → Nat, x9 = va_up ad (n) q101 := ⟨_, rfl⟩
  obtain ⟨c2, hc2⟩ : ∃ x9 : Nat → va_E, x9 = va_up ce (n) (.inl (g.2 5, 10, .inr (.inr (.inr (.inr (fun _ => none)))))) := ⟨_, rfl⟩
  have hP : nP g (n + 1) a2 c2 H := by rw [ha2, hc2]; exact hP
  have hD : va_D A (nL (n + 1) a2 c2) := by rw [ha2, hc2]; exact hD
  replace hexa : ∀ j : Nat, j < n → a2 j = ad j := fun j hj9 => ((congrFun ha2 j).trans (up_ne _ _ (by omega))).trans (hexa j hj9)
  replace hexc : ∀ j : Nat, j < n → c2 j = ce j := fun j hj9  => ((congrFun hc2 j).trans (up_ne _ _ (by omega))).trans (hexc j hj9 )
  replace a_x : a2 (x) = h0 := ((congrFun ha2 _).trans (up_ne _ _ (by omega))).trans a_x
  replace e_x : c2 (x) = .inr (1, [.null, .int (zI (0)), .int (zI (0))]) := ((congrFun hc2 _).trans (up_ne _ _ (by omega))).trans e_x
  have a_n : a2 (n) = q101 := (congrFun ha2 _).trans (up_at _ _ _)
  have e_n : c2 (n) = .inl (g.2 5, 10, .inr (.inr (.inr (.inr (fun _ => none))))) := (congrFun hc2 _).trans (up_at _ _ _)
  clear ha2 hc2
  refine n_putF (ci := 1) (v := .ref q101) (ty := .array (.object "HoursBank$Step")) (C := RX1) (T := TX1) (N := 3) hx hb hts hinX1 tyX1 tyX1_ok nmX1 hown hK hP hD hS (x) (show x < n + 1 by omega) a_x e_x rfl 0 (by decide) k13 (fun _ h9 => h9) rfl hin9 rfl (by decide +kernel) rfl rfl (Nat.le_of_ble_eq_true rfl) dX1_init_10 (fun H locs hP hD hS => ?_)
  obtain ⟨c3, hc3⟩ : ∃ x9 : Nat → va_E, x9 = va_up c2 (x) (.inr (1, [.ref q101, .int (zI (0)), .int (zI (0))])) := ⟨_, rfl⟩
  have hP : nP g (n + 1) a2 c3 H := by rw [hc3]; exact hP
  have hD : va_D A (nL (n + 1) a2 c3) := by rw [hc3]; exact hD
  replace hexc : ∀ j : Nat, j < n → ¬ j = x → c3 j = ce j := fun j hj9 q0 => ((congrFun hc3 j).trans (up_ne _ _ q0)).trans (hexc j hj9 )
  replace e_x : c3 (x) = .inr (1, [.ref q101, .int (zI (0)), .int (zI (0))]) := (congrFun hc3 _).trans (up_at _ _ _)
  replace e_n : c3 (n) = .inl (g.2 5, 10, .inr (.inr (.inr (.inr (fun _ => none))))) := ((congrFun hc3 _).trans (up_ne _ _ (by omega))).trans e_n
  clear hc3
  refine lv_iconst (v := zI (0)) hx hb dX1_init_13 (by decide) ?_
  refine lv_istore_n (lv' := [(1, .int (zI (0))), (0, .ref h0)]) hx hb dX1_init_14 rfl hl (by decide) rfl (fun ls hl => ?_)
  have loop15 : ∀ (K9 i : Nat) (hK9 : 10 - i < K9) (hi : i ≤ 10) (H : Heap) (locs : List Loc) (aL : Nat → Nat) (cL : Nat → va_E) (hexa : ∀ j : Nat, j < n → aL j = ad j) (hexc : ∀ j : Nat, j < n → ¬ j = x → cL j = ce j) (a_x : aL x = h0) (e_x : cL x = .inr (1, [.ref q101, .int (zI (0)), .int (zI (0))])) (a_n : aL n = q101) (hA9 : ∃ h : Nat → Option Nat, cL n = .inl (g.2 5, 10, .inr (.inr (.inr (.inr h)))) ∧ ∀ j, j < i → h j = some (aL (n + 1 + 6 * j))) (hB9 : ∀ j, j < i → stC g aL cL (n + 1 + 6 * j)) (hP : nP g (n + 1 + 6 * i) aL cL H) (hD : va_D A (nL (n + 1 + 6 * i) aL cL)) (hS : va_S A s.heap H locs) (ls : Array Slot) (hl : lv_has ls 2 [(1, .int (zI (((i : Nat) : Int)))), (0, .ref h0)]), W p l e (headSpec wsX1_init ({ frames := 3, cells := 61, slots := 470, locals := 53 })).room s m ([.ref h0] : List Value).toArray below meth c H locs (1 + 6 * i) (10 + 46 * i) (MQ below (va_Qv (fun (u : (Nat → Nat) × (Nat → va_E)) => nQ n 61 ad s.heap.size u.1 ∧ (∀ i, i < n → ¬ i = x → u.2 i = ce i) ∧ u.2 (x) = .inr (1, [.ref ((u.1 (n))), .int (zI (0)), .int (zI (0))]) ∧ (∃ h : Nat → Option Nat, u.2 n = .inl (g.2 5, 10, .inr (.inr (.inr (.inr h)))) ∧ ∀ j, j < 10 → h j = some (u.1 (n + 1 + 6 * j))) ∧ ∀ j, j < 10 → stC g u.1 u.2 (n + 1 + 6 * j)) (fun u (tS : State) => nP g (n + 61) u.1 u.2 tS.heap) A) ([.ref h0] : List Value).toArray s 61 470 A) (F0 m 15 ls []) := by
    intro K9
    induction K9 with
    | zero => intro i hK9; exact absurd hK9 (Nat.not_lt_zero _)
    | succ K9 ih =>
      intro i hK9 hi H locs aL cL hexa hexc a_x e_x a_n hA9 hB9 hP hD hS ls hl
      obtain ⟨hf9, e_n, hh9⟩ := hA9
      have fa_L : ∀ j : Nat, j < n + 1 + 6 * i → aL j = aL j := fun _ _ => rfl
      have fc_L : ∀ j : Nat, j < n + 1 + 6 * i → ¬ j = n → cL j = cL j := fun _ _ _ => rfl
      refine lv_iload_n hx hb dX1_init_15 rfl (lv_at hl 0 rfl) ?_
      refine lv_bipush (v := zI (10)) hx hb dX1_init_16 (by decide) ?_
      refine z_icmp_ge (tgt := 40) hx hb dX1_init_18 (by decide) (by omega) (by omega) (fun h18 => ?_) (fun h18 => ?_)
      · obtain rfl : i = 10 := by omega
        have hP : nP g (n + 61) aL cL H := hP
        have hD : va_D A (nL (n + 61) aL cL) := hD
        refine W.widen (k := 61) (n := 470) (by omega) (by omega) ?_
        have hQ9 := nQ_of (m := 61) hAe hD hexa
        exact W.vret hx hb hr (fun tX htX hWX => ⟨⟨(aL, cL), rfl, ⟨hQ9, fun j hj9 q0 => hexc j hj9 q0, e_x.trans (by dsimp only; rw [a_n]), ⟨hf9, e_n, hh9⟩, hB9⟩, g_at htX hP⟩, hS.F htX⟩) hS.2.2 dX1_init_40
      · refine lv_aload_n hx hb dX1_init_21 rfl (lv_at hl 1 rfl) ?_
        refine va_get (D := g.1) (ci := 1) (v := .ref q101) (C := RX1) (T := TX1) (N := 3) hx hb hts hinX1 hown hK (nb1 hP (show x < n + 1 + 6 * i by omega) a_x e_x) 0 rfl rfl 0 (by decide) k13 (fun _ h9 => h9) rfl dX1_init_22 ?_
        refine lv_iload_n hx hb dX1_init_25 rfl (lv_at hl 0 rfl) ?_
        refine n_new (ci := 4) (fs := [.int (zI (0)), .int (zI (0)), .int (zI (0)), .int (zI (0)), .int (zI (0)), .null]) (C := RX4) (T := TX4) (N := 6) hx hb hts hinX4 tyX4 tyX4_ok hown kN11 kIX4 kJX4 hK hP hD hS hA rfl (fun j hj => by rcases (show j = 0 ∨ j = 1 ∨ j = 2 ∨ j = 3 ∨ j = 4 ∨ j = 5 by omega) with rfl | rfl | rfl | rfl | rfl | rfl <;> rfl) (show 1 + 6 * i + 1 ≤ 61 by omega) (show 10 + 46 * i + 6 ≤ 470 by omega) dX1_init_26 (fun q104 H hP hD hS => ?_)
        obtain ⟨a5, ha5⟩ : ∃ x9 : Nat → Nat, x9 = va_up aL (n + 1 + 6 * i) q104 := ⟨_, rfl⟩
        obtain ⟨c5, hc5⟩ : ∃ x9 : Nat → va_E, x9 = va_up cL (n + 1 + 6 * i) (.inr (4, [.int (zI (0)), .int (zI (0)), .int (zI (0)), .int (zI (0)), .int (zI (0)), .null])) := ⟨_, rfl⟩
        have hP : nP g (n + 1 + 6 * i + 1) a5 c5 H := by rw [ha5, hc5]; exact hP
        have hD : va_D A (nL (n + 1 + 6 * i + 1) a5 c5) := by rw [ha5, hc5]; exact hD
        replace hexa : ∀ j : Nat, j < n → a5 j = ad j := fun j hj9 => ((congrFun ha5 j).trans (up_ne _ _ (by omega))).trans (hexa j hj9)
        replace hexc : ∀ j : Nat, j < n → ¬ j = x → c5 j = ce j := fun j hj9 q0 => ((congrFun hc5 j).trans (up_ne _ _ (by omega))).trans (hexc j hj9 q0)
        replace fa_L : ∀ j : Nat, j < n + 1 + 6 * i → a5 j = aL j := fun j hj9 => ((congrFun ha5 j).trans (up_ne _ _ (by omega))).trans (fa_L j hj9)
        replace fc_L : ∀ j : Nat, j < n + 1 + 6 * i → ¬ j = n → c5 j = cL j := fun j hj9 q9_0 => ((congrFun hc5 j).trans (up_ne _ _ (by omega))).trans (fc_L j hj9 q9_0)
        replace a_x : a5 (x) = h0 := ((congrFun ha5 _).trans (up_ne _ _ (by omega))).trans a_x
        replace e_x : c5 (x) = .inr (1, [.ref q101, .int (zI (0)), .int (zI (0))]) := ((congrFun hc5 _).trans (up_ne _ _ (by omega))).trans e_x
        replace a_n : a5 (n) = q101 := ((congrFun ha5 _).trans (up_ne _ _ (by omega))).trans a_n
        replace e_n : c5 (n) = .inl (g.2 5, 10, .inr (.inr (.inr (.inr (hf9))))) := ((congrFun hc5 _).trans (up_ne _ _ (by omega))).trans e_n
        have a_n_1_6_i : a5 (n + 1 + 6 * i) = q104 := (congrFun ha5 _).trans (up_at _ _ _)
        have e_n_1_6_i : c5 (n + 1 + 6 * i) = .inr (4, [.int (zI (0)), .int (zI (0)), .int (zI (0)), .int (zI (0)), .int (zI (0)), .null]) := (congrFun hc5 _).trans (up_at _ _ _)
        clear ha5 hc5
        refine lv_dup hx hb dX1_init_29 rfl ?_
        have hF9 := n_free hD hS hA
        have hS9 := hS
        refine va_callv (va_runI (As := []) (rest := [.ref q104, .int (zI (((i : Nat) : Int))), .ref q101]) ⟨hx, hb, hml, hown, hts⟩ (c_X4_init_N l g (n + 1 + 6 * i + 1) (a5) (c5) (H.size) (n + 1 + 6 * i) (by omega) (q104) (a_n_1_6_i) (e_n_1_6_i)) (cwI 0 hts gX1_init_X4_init rfl rfl rfl kJX4 kMl17 kIm_X4_init rfl (by decide +kernel) ⟨Nat.le_of_ble_eq_true rfl, Nat.le_of_ble_eq_true rfl⟩) (n_preS hP hD hK hN) rfl rfl hl.1 rfl (lv_room (Nat.le_of_ble_eq_true rfl)) dX1_init_30 ⟨show 1 + 6 * i + 1 + 5 ≤ 61 by omega, show 10 + 46 * i + 6 + 40 ≤ 470 by omega⟩) hS (fun q _ h => hF9 q h) hF9 (fun u9 t9 H1 locs ht9 hvm9 hw9 hB9 hz9 hk9 hS => ?_)
        obtain ⟨a6, c6⟩ := u9
        rw [ht9] at hB9
        clear hz9 hk9 hvm9 ht9 hF9
        try dsimp only at hw9 hB9
        obtain ⟨hq9, hu9, hp9_0, hp9_1, hp9_2, hp9_3, hp9_4, hp9_5⟩ := hw9
        have hD : va_D A (nL (n + 1 + 6 * i + 6) a6 c6) := n_joinD (n := n + 1 + 6 * i + 1) (m := 5) hD hS9 hA hq9
        clear hS9
        have hP : nP g (n + 1 + 6 * i + 6) a6 c6 H1 := hB9
        clear hB9
        generalize H1 = H at hP hS ⊢
        replace hexa : ∀ j : Nat, j < n → a6 j = ad j := fun j hj9 => (hq9.1 j (by omega)).trans (hexa j hj9)
        replace hexc : ∀ j : Nat, j < n → ¬ j = x → c6 j = ce j := fun j hj9 q0 => (hu9 j (by omega) (by omega)).trans (hexc j hj9 q0)
        replace fa_L : ∀ j : Nat, j < n + 1 + 6 * i → a6 j = aL j := fun j hj9 => (hq9.1 j (by omega)).trans (fa_L j hj9)
        replace fc_L : ∀ j : Nat, j < n + 1 + 6 * i → ¬ j = n → c6 j = cL j := fun j hj9 q9_0 => (hu9 j (by omega) (by omega)).trans (fc_L j hj9 q9_0)
        replace a_x : a6 (x) = h0 := (hq9.1 _ (by omega)).trans a_x
        replace e_x : c6 (x) = .inr (1, [.ref q101, .int (zI (0)), .int (zI (0))]) := (hu9 _ (by omega) (by omega)).trans e_x
        replace a_n : a6 (n) = q101 := (hq9.1 _ (by omega)).trans a_n
        replace e_n : c6 (n) = .inl (g.2 5, 10, .inr (.inr (.inr (.inr (hf9))))) := (hu9 _ (by omega) (by omega)).trans e_n
        replace a_n_1_6_i : a6 (n + 1 + 6 * i) = q104 := (hq9.1 _ (by omega)).trans a_n_1_6_i
        have e_n_1_6_i : c6 (n + 1 + 6 * i) = .inr (4, [.int (zI (0)), .int (zI (0)), .int (zI (0)), .int (zI (0)), .int (zI (0)), .ref ((a6 ((n + 1 + 6 * i + 1))))]) := hp9_0
        have a_n_1_6_i_1 : a6 (n + 1 + 6 * i + 1) = a6 (n + 1 + 6 * i + 1) := rfl
        have e_n_1_6_i_1 : c6 (n + 1 + 6 * i + 1) = .inl (g.2 3, 4, .inr (.inr (.inr (.inr (fun i8 => some (a6 ((n + 1 + 6 * i + 1) + 1 + i8))))))) := hp9_1
        have a_n_1_6_i_2 : a6 (n + 1 + 6 * i + 2) = a6 (n + 1 + 6 * i + 2) := rfl
        have e_n_1_6_i_2 : c6 (n + 1 + 6 * i + 2) = .inr (0, [.int (zI (0)), .int (zI (0)), .int (zI (0)), .int (zI (0)), .int (zI (0)), .int (zI (0)), .int (zI (0)), .int (zI (0)), .int (zI (365))]) := hp9_2
        have a_n_1_6_i_3 : a6 (n + 1 + 6 * i + 3) = a6 (n + 1 + 6 * i + 3) := rfl
        have e_n_1_6_i_3 : c6 (n + 1 + 6 * i + 3) = .inr (0, [.int (zI (0)), .int (zI (0)), .int (zI (0)), .int (zI (0)), .int (zI (0)), .int (zI (0)), .int (zI (0)), .int (zI (0)), .int (zI (365))]) := hp9_3
        have a_n_1_6_i_4 : a6 (n + 1 + 6 * i + 4) = a6 (n + 1 + 6 * i + 4) := rfl
        have e_n_1_6_i_4 : c6 (n + 1 + 6 * i + 4) = .inr (0, [.int (zI (0)), .int (zI (0)), .int (zI (0)), .int (zI (0)), .int (zI (0)), .int (zI (0)), .int (zI (0)), .int (zI (0)), .int (zI (365))]) := hp9_4
        have a_n_1_6_i_5 : a6 (n + 1 + 6 * i + 5) = a6 (n + 1 + 6 * i + 5) := rfl
        have e_n_1_6_i_5 : c6 (n + 1 + 6 * i + 5) = .inr (0, [.int (zI (0)), .int (zI (0)), .int (zI (0)), .int (zI (0)), .int (zI (0)), .int (zI (0)), .int (zI (0)), .int (zI (0)), .int (zI (365))]) := hp9_5
        clear hq9 hu9 hp9_0 hp9_1 hp9_2 hp9_3 hp9_4 hp9_5
        refine n_aast hx hb hK hP hD hS (n) (show n < n + 1 + 6 * i + 6 by omega) a_n 5 e_n 4 rfl rfl (by decide) (n + 1 + 6 * i) (show n + 1 + 6 * i < n + 1 + 6 * i + 6 by omega) a_n_1_6_i e_n_1_6_i (i) (by omega) (by omega) dX1_init_33 (fun H locs hP hD hS => ?_)
        obtain ⟨c7, hc7⟩ : ∃ x9 : Nat → va_E, x9 = va_up c6 (n) (.inl (g.2 5, 10, .inr (.inr (.inr (.inr (va_up hf9 i (some q104))))))) := ⟨_, rfl⟩
        have hP : nP g (n + 1 + 6 * i + 6) a6 c7 H := by rw [hc7]; exact hP
        have hD : va_D A (nL (n + 1 + 6 * i + 6) a6 c7) := by rw [hc7]; exact hD
        replace hexc : ∀ j : Nat, j < n → ¬ j = x → c7 j = ce j := fun j hj9 q0 => ((congrFun hc7 j).trans (up_ne _ _ (by omega))).trans (hexc j hj9 q0)
        replace fc_L : ∀ j : Nat, j < n + 1 + 6 * i → ¬ j = n → c7 j = cL j := fun j hj9 q9_0 => ((congrFun hc7 j).trans (up_ne _ _ q9_0)).trans (fc_L j hj9 q9_0)
        replace e_x : c7 (x) = .inr (1, [.ref q101, .int (zI (0)), .int (zI (0))]) := ((congrFun hc7 _).trans (up_ne _ _ (by omega))).trans e_x
        replace e_n : c7 (n) = .inl (g.2 5, 10, .inr (.inr (.inr (.inr (va_up hf9 i (some q104)))))) := (congrFun hc7 _).trans (up_at _ _ _)
        replace e_n_1_6_i : c7 (n + 1 + 6 * i) = .inr (4, [.int (zI (0)), .int (zI (0)), .int (zI (0)), .int (zI (0)), .int (zI (0)), .ref ((a6 ((n + 1 + 6 * i + 1))))]) := ((congrFun hc7 _).trans (up_ne _ _ (by omega))).trans e_n_1_6_i
        replace e_n_1_6_i_1 : c7 (n + 1 + 6 * i + 1) = .inl (g.2 3, 4, .inr (.inr (.inr (.inr (fun i8 => some (a6 ((n + 1 + 6 * i + 1) + 1 + i8))))))) := ((congrFun hc7 _).trans (up_ne _ _ (by omega))).trans e_n_1_6_i_1
        replace e_n_1_6_i_2 : c7 (n + 1 + 6 * i + 2) = .inr (0, [.int (zI (0)), .int (zI (0)), .int (zI (0)), .int (zI (0)), .int (zI (0)), .int (zI (0)), .int (zI (0)), .int (zI (0)), .int (zI (365))]) := ((congrFun hc7 _).trans (up_ne _ _ (by omega))).trans e_n_1_6_i_2
        replace e_n_1_6_i_3 : c7 (n + 1 + 6 * i + 3) = .inr (0, [.int (zI (0)), .int (zI (0)), .int (zI (0)), .int (zI (0)), .int (zI (0)), .int (zI (0)), .int (zI (0)), .int (zI (0)), .int (zI (365))]) := ((congrFun hc7 _).trans (up_ne _ _ (by omega))).trans e_n_1_6_i_3
        replace e_n_1_6_i_4 : c7 (n + 1 + 6 * i + 4) = .inr (0, [.int (zI (0)), .int (zI (0)), .int (zI (0)), .int (zI (0)), .int (zI (0)), .int (zI (0)), .int (zI (0)), .int (zI (0)), .int (zI (365))]) := ((congrFun hc7 _).trans (up_ne _ _ (by omega))).trans e_n_1_6_i_4
        replace e_n_1_6_i_5 : c7 (n + 1 + 6 * i + 5) = .inr (0, [.int (zI (0)), .int (zI (0)), .int (zI (0)), .int (zI (0)), .int (zI (0)), .int (zI (0)), .int (zI (0)), .int (zI (0)), .int (zI (365))]) := ((congrFun hc7 _).trans (up_ne _ _ (by omega))).trans e_n_1_6_i_5
        clear hc7
        refine z_iinc (lv' := [(1, .int (zI (((i : Nat) : Int) + 1))), (0, .ref h0)]) hx hb dX1_init_34 hl (k := 0) rfl (by decide) rfl (fun ls hl => ?_)
        refine lv_goto (tgt := 15) hx hb dX1_init_37 (by decide) ?_
        have hl : lv_has ls 2 [(1, .int (zI ((((i + 1 : Nat)) : Int)))), (0, .ref h0)] := lv_cg (lvE (congrArg zI (by omega)) (lvR rfl)) (lv_sub (l' := [(1, .int (zI (((i : Nat) : Int) + 1))), (0, .ref h0)]) hl [0, 1] rfl)
        have hP : nP g (n + 1 + 6 * (i + 1)) a6 c7 H := by rw [show n + 1 + 6 * (i + 1) = n + 1 + 6 * i + 6 by omega]; exact hP
        have hD : va_D A (nL (n + 1 + 6 * (i + 1)) a6 c7) := by rw [show n + 1 + 6 * (i + 1) = n + 1 + 6 * i + 6 by omega]; exact hD
        have hst9 : stC g a6 c7 (n + 1 + 6 * i) := stC_of (e_n_1_6_i.trans (by rw [← a_n_1_6_i_1])) e_n_1_6_i_1 (fun k hk => by
            rcases (show k = 0 ∨ k = 1 ∨ k = 2 ∨ k = 3 by omega) with rfl | rfl | rfl | rfl
            · exact (show _ = some (a6 (n + 1 + 6 * i + 2)) from rfl).trans (congrArg some a_n_1_6_i_2.symm)
            · exact (show _ = some (a6 (n + 1 + 6 * i + 3)) from rfl).trans (congrArg some a_n_1_6_i_3.symm)
            · exact (show _ = some (a6 (n + 1 + 6 * i + 4)) from rfl).trans (congrArg some a_n_1_6_i_4.symm)
            · exact (show _ = some (a6 (n + 1 + 6 * i + 5)) from rfl).trans (congrArg some a_n_1_6_i_5.symm)) e_n_1_6_i_2 e_n_1_6_i_3 e_n_1_6_i_4 e_n_1_6_i_5
        refine W.widen (k := 1 + 6 * (i + 1)) (n := 10 + 46 * (i + 1)) (by omega) (by omega) ?_
        exact ih (i + 1) (by omega) (by omega) H locs a6 c7 hexa (fun j hj9 q0 => hexc j hj9 q0) a_x e_x a_n ⟨_, e_n, stA_s hh9 (fun j hj9 => fa_L _ (by omega)) a_n_1_6_i⟩ (fun j hj9 => by
            by_cases z9 : j = i
            · rw [z9]; exact hst9
            · exact stC_tr (hB9 j (by omega)) (fun k hk => fa_L _ (by omega)) (fun k hk => fc_L _ (by omega) (by omega))) hP hD hS ls hl
  have hl := lv_sub (l' := [(1, .int (zI (0))), (0, .ref h0)]) hl [0, 1] rfl
  exact loop15 _ 0 (Nat.lt_succ_self _) (by omega) H locs a2 c3 hexa (fun j hj9 q0 => hexc j hj9 q0) a_x e_x a_n ⟨_, e_n, fun j hj => absurd hj (Nat.not_lt_zero _)⟩ (fun j hj => absurd hj (Nat.not_lt_zero _)) hP hD hS ls hl
