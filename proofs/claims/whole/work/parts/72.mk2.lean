set_option maxHeartbeats 4000000 in
set_option maxRecDepth 100000 in
theorem c_J7_fill_53178_N (l : Launch) (g : GG) (n : Nat) (ad : Nat → Nat) (ce : Nat → va_E) (sz : Nat) (x : Nat) (hx0 : x < n) (h0 : Nat) (ha0 : ad x = h0) (f : Nat → Int32) (e_x : ce (x) = .inl (g.2 0, 4, .inl (f))) : Met l yJ7_fill_53178 wsJ7_fill_53178 ({ frames := 1, cells := 0, slots := 0, locals := 12 }) (nPc g n ad ce sz [.ref h0, .int (zI (0))]) (va_Qv (fun (u : (Nat → Nat) × (Nat → va_E)) => nQ n 0 ad sz u.1 ∧ (∀ i, i < n → ¬ i = x → u.2 i = ce i) ∧ u.2 (x) = .inl (g.2 0, 4, .inl (fillR (zI (0)) f 4))) (fun u (tS : State) => nP g (n + 0) u.1 u.2 tS.heap) (nA n ad sz)) 0 0 (nA n ad sz) := by
  refine Met.ofW (cc := cJ7_fill_53178) (maxL := 4) (ret := none) (by decide) rfl ?_
  intro p e s m args below meth c s₁ B hml hv
  obtain ⟨rfl, hsz, hP, hD0, hK, hN⟩ := hv
  have hx := B.exec
  have hb := B.bytes
  have hr := B.returns
  have hts := atoms_spec (ws := wsJ7_fill_53178) B.pre
  have hown : s.vm.findClass RJ7 = some m.cls := findClass_of_methodNamed B.named
  have hlocks := B.notSynchronized
  have hin9 := (name_of_methodNamed B.named B.method).1
  subst hsz
  obtain ⟨A, hAe⟩ : ∃ A, A = nA n ad s.heap.size := ⟨_, rfl⟩
  rw [← hAe]
  have hA : ∀ q : Nat, s.heap.size ≤ q → A q := fun q h => by rw [hAe]; exact Or.inr h
  have hD : va_D A (nL n ad ce) := nDa hD0 (fun i hi => by rw [hAe]; exact Or.inl ⟨i, hi, rfl⟩)
  have hl := lv_entry ([.ref h0, .int (zI (0))]) (n := 4) (Nat.le_of_ble_eq_true rfl)
  rw [lg_entry_eq]
  generalize (lg_sl ([.ref h0, .int (zI (0))]) ++ List.replicate (4 - (lg_sl ([.ref h0, .int (zI (0))])).length) Slot.unset).toArray = ls at hl ⊢
  have hl : lv_has ls 4 [(0, .ref h0), (1, .int (zI (0)))] := hl
  have hS : va_S A s.heap s.heap [] := va_S.rf
  obtain ⟨H, hH9⟩ : ∃ H, H = s.heap := ⟨_, rfl⟩
  obtain ⟨locs, hL9⟩ : ∃ x9l : List Loc, x9l = [] := ⟨_, rfl⟩
  have hP : nP g n ad ce H := hH9 ▸ hP
  have hS : va_S A s.heap H locs := by rw [hH9, hL9]; exact hS
  refine z_start hH9 hL9 ?_
  clear hH9 hL9
  have hexa : ∀ j : Nat, j < n → ad j = ad j := fun _ _ => rfl
  have hexc : ∀ j : Nat, j < n → ce j = ce j := fun _ _ => rfl
  have a_x : ad (x) = h0 := ha0
  refine lv_iconst (v := zI (0)) hx hb dJ7_fill_53178_0 (by decide) ?_
  refine lv_istore_n (lv' := [(2, .int (zI (0))), (0, .ref h0), (1, .int (zI (0)))]) hx hb dJ7_fill_53178_1 rfl hl (by decide) rfl (fun ls hl => ?_)
  refine lv_aload_n hx hb dJ7_fill_53178_2 rfl (lv_at hl 1 rfl) ?_
  refine va_alen hx hb hK (nb1 hP (show x < n by omega) a_x e_x) 0 0 rfl rfl (v := zI 4) (show Int32.ofNat 4 = zI 4 by decide) dJ7_fill_53178_3 ?_
  refine lv_istore_n (lv' := [(3, .int (zI (4))), (2, .int (zI (0))), (0, .ref h0), (1, .int (zI (0)))]) hx hb dJ7_fill_53178_4 rfl hl (by decide) rfl (fun ls hl => ?_)
  have loop5 : ∀ (K9 : Nat) (i : Nat) (hK9 : 4 - i < K9) (hi : i ≤ 4) (H : Heap) (locs : List Loc) (c1 : Nat → va_E) (e_x : c1 (x) = .inl (g.2 0, 4, .inl (fillR (zI (0)) f i))) (hexc : ∀ j : Nat, j < n → ¬ j = x → c1 j = ce j) (hP : nP g (n) ad c1 H) (hD : va_D A (nL (n) ad c1)) (hS : va_S A s.heap H locs) (ls : Array Slot) (hl : lv_has ls 4 [(3, .int (zI (4))), (2, .int (zI (((i : Nat) : Int)))), (0, .ref h0), (1, .int (zI (0)))]), W p l e (headSpec wsJ7_fill_53178 ({ frames := 1, cells := 0, slots := 0, locals := 12 })).room s m ([.ref h0, .int (zI (0))] : List Value).toArray below meth c H locs (0) (0) (MQ below (va_Qv (fun (u : (Nat → Nat) × (Nat → va_E)) => nQ n 0 ad s.heap.size u.1 ∧ (∀ i, i < n → ¬ i = x → u.2 i = ce i) ∧ u.2 (x) = .inl (g.2 0, 4, .inl (fillR (zI (0)) f 4))) (fun u (tS : State) => nP g (n + 0) u.1 u.2 tS.heap) A) ([.ref h0, .int (zI (0))] : List Value).toArray s 0 0 A) (F0 m 5 ls []) := by
    intro K9
    induction K9 with
    | zero => intro i hK9; exact absurd hK9 (Nat.not_lt_zero _)
    | succ K9 ih =>
      intro i hK9 hi H locs c1 e_x hexc hP hD hS ls hl
      refine lv_iload_n hx hb dJ7_fill_53178_5 rfl (lv_at hl 1 rfl) ?_
      refine lv_iload_n hx hb dJ7_fill_53178_6 rfl (lv_at hl 0 rfl) ?_
      refine z_icmp_ge (tgt := 20) hx hb dJ7_fill_53178_7 (by decide) (by omega) (by omega) (fun h7 => ?_) (fun h7 => ?_)
      · have hQ9 := nQ_of (m := 0) hAe hD hexa
        exact W.vret hx hb hr (fun tX htX hWX => ⟨⟨(ad, c1), rfl, ⟨hQ9, fun j hj9 q0 => hexc j hj9 q0, (show i = 4 by omega) ▸ e_x⟩, g_at htX hP⟩, hS.F htX⟩) hS.2.2 dJ7_fill_53178_20
      · refine lv_aload_n hx hb dJ7_fill_53178_10 rfl (lv_at hl 2 rfl) ?_
        refine lv_iload_n hx hb dJ7_fill_53178_11 rfl (lv_at hl 1 rfl) ?_
        refine lv_iload_n hx hb dJ7_fill_53178_12 rfl (lv_at hl 3 rfl) ?_
        refine n_iast hx hb hK hP hD hS (x) (show x < n by omega) a_x e_x (by decide) (i) (by omega) (by omega) dJ7_fill_53178_13 (fun H locs hP hD hS => ?_)
        obtain ⟨c2, hc2⟩ : ∃ x9 : Nat → va_E, x9 = va_up c1 (x) (.inl (g.2 0, 4, .inl (upd (fillR (zI (0)) f i) i (zI (0))))) := ⟨_, rfl⟩
        have hP : nP g (n) ad c2 H := by rw [hc2]; exact hP
        have hD : va_D A (nL (n) ad c2) := by rw [hc2]; exact hD
        replace hexc : ∀ j : Nat, j < n → ¬ j = x → c2 j = ce j := fun j hj9 q0 => ((congrFun hc2 j).trans (up_ne _ _ q0)).trans (hexc j hj9 q0)
        replace e_x : c2 (x) = .inl (g.2 0, 4, .inl (upd (fillR (zI (0)) f i) i (zI (0)))) := (congrFun hc2 _).trans (up_at _ _ _)
        clear hc2
        refine z_iinc (lv' := [(2, .int (zI (((i : Nat) : Int) + 1))), (3, .int (zI (4))), (0, .ref h0), (1, .int (zI (0)))]) hx hb dJ7_fill_53178_14 hl (k := 1) rfl (by decide) rfl (fun ls hl => ?_)
        refine lv_goto (tgt := 5) hx hb dJ7_fill_53178_17 (by decide) ?_
        have hl := lv_sub (l' := [(3, .int (zI (4))), (2, .int (zI (((i : Nat) : Int) + 1))), (0, .ref h0), (1, .int (zI (0)))]) hl [1, 0, 2, 3] rfl
        have hl : lv_has ls 4 [(3, .int (zI (4))), (2, .int (zI ((((i + 1) : Nat) : Int)))), (0, .ref h0), (1, .int (zI (0)))] := lv_cg (lvR (lvE (congrArg zI (by omega)) (lvR (lvR (rfl))))) hl
        exact ih (i + 1) (by omega) (by omega) H locs c2 (by rw [← fillR_s]; exact e_x) (fun j hj9 q0 => hexc j hj9 q0) hP hD hS ls hl
  have hl := lv_sub (l' := [(3, .int (zI (4))), (2, .int (zI (0))), (0, .ref h0), (1, .int (zI (0)))]) hl [0, 1, 2, 3] rfl
  have hl : lv_has ls 4 [(3, .int (zI (4))), (2, .int (zI (((0 : Nat) : Int)))), (0, .ref h0), (1, .int (zI (0)))] := lv_cg (lvR (lvE (congrArg zI (rfl)) (lvR (lvR (rfl))))) hl
  exact loop5 _ (0) (Nat.lt_succ_self _) (Nat.zero_le _) H locs ce (by rw [fillR_0]; exact e_x) (fun j hj9 q0 => hexc j hj9 ) hP hD hS ls hl

set_option maxHeartbeats 4000000 in
set_option maxRecDepth 100000 in
theorem c_X2_clear_N (l : Launch) (g : GG) (n : Nat) (ad : Nat → Nat) (ce : Nat → va_E) (sz : Nat) (x : Nat) (hx0 : x < n) (h0 : Nat) (ha0 : ad x = h0) (y : Nat) (hy0 : y < n) (h1 : Nat) (ha1 : ad y = h1) (z : Nat) (hz0 : z < n) (h2 : Nat) (ha2 : ad z = h2) (t : Nat) (ht0 : t < n) (h3 : Nat) (ha3 : ad t = h3) (v1 v2 v3 : Value) (f1 : Nat → Option Nat) (hf1 : f1 0 = some h3) (rc rb : Nat → Int32) (hd9 : ¬ x = y ∧ ¬ x = z ∧ ¬ x = t ∧ ¬ y = z ∧ ¬ y = t ∧ ¬ z = t) (e_x : ce (x) = .inr (2, [.ref h1, v1, v2, v3, .ref h2])) (e_y : ce (y) = .inl (g.2 6, 1, .inr (.inr (.inr (.inr (f1)))))) (e_z : ce (z) = .inl (g.2 0, 4, .inl (rc))) (e_t : ce (t) = .inl (g.2 0, 4, .inl (rb))) : Met l yX2_clear wsX2_clear ({ frames := 2, cells := 0, slots := 0, locals := 35 }) (nPc g n ad ce sz [.ref h0]) (va_Qv (fun (u : (Nat → Nat) × (Nat → va_E)) => nQ n 0 ad sz u.1 ∧ (∀ i, i < n → ¬ i = z → ¬ i = t → u.2 i = ce i) ∧ u.2 (z) = .inl (g.2 0, 4, .inl (fillR (zI (0)) rc 4)) ∧ u.2 (t) = .inl (g.2 0, 4, .inl (upd (fillR (zI (0)) rb 4) 2 (zI (1))))) (fun u (tS : State) => nP g (n + 0) u.1 u.2 tS.heap) (nA n ad sz)) 0 0 (nA n ad sz) := by
  refine Met.ofW (cc := cX2_clear) (maxL := 1) (ret := none) (by decide) rfl ?_
  intro p e s m args below meth c s₁ B hml hv
  obtain ⟨rfl, hsz, hP, hD0, hK, hN⟩ := hv
  have hx := B.exec
  have hb := B.bytes
  have hr := B.returns
  have hts := atoms_spec (ws := wsX2_clear) B.pre
  have hown : s.vm.findClass RX2 = some m.cls := findClass_of_methodNamed B.named
  have hlocks := B.notSynchronized
  have hin9 := (name_of_methodNamed B.named B.method).1
  have hinX2 : ∀ w ∈ wsX20, w ∈ wsX2_clear := by decide +kernel
  have k25 := hts (.fieldLink RX2 25 "HoursBank$Rules" "counts" "[I") (by decide +kernel)
  have k11 := hts (.fieldLink RX2 11 "HoursBank$Rules" "banks" "[[I") (by decide +kernel)
  subst hsz
  obtain ⟨A, hAe⟩ : ∃ A, A = nA n ad s.heap.size := ⟨_, rfl⟩
  rw [← hAe]
  have hA : ∀ q : Nat, s.heap.size ≤ q → A q := fun q h => by rw [hAe]; exact Or.inr h
  have hD : va_D A (nL n ad ce) := nDa hD0 (fun i hi => by rw [hAe]; exact Or.inl ⟨i, hi, rfl⟩)
  have hl := lv_entry ([.ref h0]) (n := 1) (Nat.le_of_ble_eq_true rfl)
  rw [lg_entry_eq]
  generalize (lg_sl ([.ref h0]) ++ List.replicate (1 - (lg_sl ([.ref h0])).length) Slot.unset).toArray = ls at hl ⊢
  have hl : lv_has ls 1 [(0, .ref h0)] := hl
  have hS : va_S A s.heap s.heap [] := va_S.rf
  obtain ⟨H, hH9⟩ : ∃ H, H = s.heap := ⟨_, rfl⟩
  obtain ⟨locs, hL9⟩ : ∃ x9l : List Loc, x9l = [] := ⟨_, rfl⟩
  have hP : nP g n ad ce H := hH9 ▸ hP
  have hS : va_S A s.heap H locs := by rw [hH9, hL9]; exact hS
  refine z_start hH9 hL9 ?_
  clear hH9 hL9
  have hexa : ∀ j : Nat, j < n → ad j = ad j := fun _ _ => rfl
  have hexc : ∀ j : Nat, j < n → ce j = ce j := fun _ _ => rfl
  have a_x : ad (x) = h0 := ha0
  have a_y : ad (y) = h1 := ha1
  have a_z : ad (z) = h2 := ha2
  have a_t : ad (t) = h3 := ha3
  refine lv_aload_n hx hb dX2_clear_0 rfl (lv_at hl 0 rfl) ?_
  refine va_get (D := g.1) (ci := 2) (v := .ref h2) (C := RX2) (T := TX2) (N := 5) hx hb hts hinX2 hown hK (nb1 hP (show x < n by omega) a_x e_x) 0 rfl rfl 4 (by decide) k25 (fun _ h9 => h9) rfl dX2_clear_1 ?_
  refine lv_iconst (v := zI (0)) hx hb dX2_clear_4 (by decide) ?_
  have hF9 := n_free hD hS hA
  have hS9 := hS
  refine va_callv (va_runS (As := [.ref h2, .int (zI (0))]) (rest := []) ⟨hx, hb, hml, hown, hts⟩ (c_J7_fill_53178_N l g (n) (ad) (ce) (H.size) (z) (by omega) (h2) (a_z) (rc) (e_z)) (va_cwS 2 hts gX2_clear_J7_fill_53178 rfl rfl rfl (by decide +kernel) ⟨Nat.le_of_ble_eq_true rfl, Nat.le_of_ble_eq_true rfl⟩) (n_preS hP hD hK hN) rfl rfl hl.1 rfl (lv_room (Nat.le_of_ble_eq_true rfl)) dX2_clear_5 ⟨Nat.le_of_ble_eq_true rfl, Nat.le_of_ble_eq_true rfl⟩) hS (fun q _ h => hF9 q h) hF9 (fun u9 t9 H1 locs ht9 hvm9 hw9 hB9 hz9 hk9 hS => ?_)
  obtain ⟨a1, c1⟩ := u9
  rw [ht9] at hB9
  clear hz9 hk9 hvm9 ht9 hF9
  try dsimp only at hw9 hB9
  obtain ⟨hq9, hu9, hp9_0⟩ := hw9
  have hD : va_D A (nL (n) a1 c1) := n_joinD (n := n) (m := 0) hD hS9 hA hq9
  clear hS9
  have hP : nP g (n) a1 c1 H1 := hB9
  clear hB9
  generalize H1 = H at hP hS ⊢
  replace hexa : ∀ j : Nat, j < n → a1 j = ad j := fun j hj9 => (hq9.1 j (by omega)).trans (hexa j hj9)
  replace hexc : ∀ j : Nat, j < n → ¬ j = z → c1 j = ce j := fun j hj9 q0 => (hu9 j (by omega) q0).trans (hexc j hj9 )
  replace a_x : a1 (x) = h0 := (hq9.1 _ (by omega)).trans a_x
  replace e_x : c1 (x) = .inr (2, [.ref h1, v1, v2, v3, .ref h2]) := (hu9 _ (by omega) (by omega)).trans e_x
  replace a_y : a1 (y) = h1 := (hq9.1 _ (by omega)).trans a_y
  replace e_y : c1 (y) = .inl (g.2 6, 1, .inr (.inr (.inr (.inr (f1))))) := (hu9 _ (by omega) (by omega)).trans e_y
  replace a_z : a1 (z) = h2 := (hq9.1 _ (by omega)).trans a_z
  replace a_t : a1 (t) = h3 := (hq9.1 _ (by omega)).trans a_t
  replace e_t : c1 (t) = .inl (g.2 0, 4, .inl (rb)) := (hu9 _ (by omega) (by omega)).trans e_t
  have e_z : c1 (z) = .inl (g.2 0, 4, .inl (fillR (zI (0)) rc 4)) := hp9_0
  clear hq9 hu9 hp9_0
  refine lv_aload_n hx hb dX2_clear_8 rfl (lv_at hl 0 rfl) ?_
  refine va_get (D := g.1) (ci := 2) (v := .ref h1) (C := RX2) (T := TX2) (N := 5) hx hb hts hinX2 hown hK (nb1 hP (show x < n by omega) a_x e_x) 0 rfl rfl 0 (by decide) k11 (fun _ h9 => h9) rfl dX2_clear_9 ?_
  refine lv_iconst (v := zI (0)) hx hb dX2_clear_12 (by decide) ?_
  refine z_aald hx hb hK (nb1 hP (show y < n by omega) a_y e_y) 0 6 rfl rfl rfl (by decide) (0) (by omega) (by omega) hf1 dX2_clear_13 ?_
  refine lv_iconst (v := zI (0)) hx hb dX2_clear_14 (by decide) ?_
  have hF9 := n_free hD hS hA
  have hS9 := hS
  refine va_callv (va_runS (As := [.ref h3, .int (zI (0))]) (rest := []) ⟨hx, hb, hml, hown, hts⟩ (c_J7_fill_53178_N l g (n) (a1) (c1) (H.size) (t) (by omega) (h3) (a_t) (rb) (e_t)) (va_cwS 2 hts gX2_clear_J7_fill_53178 rfl rfl rfl (by decide +kernel) ⟨Nat.le_of_ble_eq_true rfl, Nat.le_of_ble_eq_true rfl⟩) (n_preS hP hD hK hN) rfl rfl hl.1 rfl (lv_room (Nat.le_of_ble_eq_true rfl)) dX2_clear_15 ⟨Nat.le_of_ble_eq_true rfl, Nat.le_of_ble_eq_true rfl⟩) hS (fun q _ h => hF9 q h) hF9 (fun u9 t9 H1 locs ht9 hvm9 hw9 hB9 hz9 hk9 hS => ?_)
  obtain ⟨a2, c2⟩ := u9
  rw [ht9] at hB9
  clear hz9 hk9 hvm9 ht9 hF9
  try dsimp only at hw9 hB9
  obtain ⟨hq9, hu9, hp9_0⟩ := hw9
  have hD : va_D A (nL (n) a2 c2) := n_joinD (n := n) (m := 0) hD hS9 hA hq9
  clear hS9
  have hP : nP g (n) a2 c2 H1 := hB9
  clear hB9
  generalize H1 = H at hP hS ⊢
  replace hexa : ∀ j : Nat, j < n → a2 j = ad j := fun j hj9 => (hq9.1 j (by omega)).trans (hexa j hj9)
  replace hexc : ∀ j : Nat, j < n → ¬ j = z → ¬ j = t → c2 j = ce j := fun j hj9 q0 q1 => (hu9 j (by omega) q1).trans (hexc j hj9 q0)
  replace a_x : a2 (x) = h0 := (hq9.1 _ (by omega)).trans a_x
  replace e_x : c2 (x) = .inr (2, [.ref h1, v1, v2, v3, .ref h2]) := (hu9 _ (by omega) (by omega)).trans e_x
  replace a_y : a2 (y) = h1 := (hq9.1 _ (by omega)).trans a_y
  replace e_y : c2 (y) = .inl (g.2 6, 1, .inr (.inr (.inr (.inr (f1))))) := (hu9 _ (by omega) (by omega)).trans e_y
  replace a_z : a2 (z) = h2 := (hq9.1 _ (by omega)).trans a_z
  replace e_z : c2 (z) = .inl (g.2 0, 4, .inl (fillR (zI (0)) rc 4)) := (hu9 _ (by omega) (by omega)).trans e_z
  replace a_t : a2 (t) = h3 := (hq9.1 _ (by omega)).trans a_t
  have e_t : c2 (t) = .inl (g.2 0, 4, .inl (fillR (zI (0)) rb 4)) := hp9_0
  clear hq9 hu9 hp9_0
  refine lv_aload_n hx hb dX2_clear_18 rfl (lv_at hl 0 rfl) ?_
  refine va_get (D := g.1) (ci := 2) (v := .ref h1) (C := RX2) (T := TX2) (N := 5) hx hb hts hinX2 hown hK (nb1 hP (show x < n by omega) a_x e_x) 0 rfl rfl 0 (by decide) k11 (fun _ h9 => h9) rfl dX2_clear_19 ?_
  refine lv_iconst (v := zI (0)) hx hb dX2_clear_22 (by decide) ?_
  refine z_aald hx hb hK (nb1 hP (show y < n by omega) a_y e_y) 0 6 rfl rfl rfl (by decide) (0) (by omega) (by omega) hf1 dX2_clear_23 ?_
  refine lv_iconst (v := zI (2)) hx hb dX2_clear_24 (by decide) ?_
  refine lv_iconst (v := zI (1)) hx hb dX2_clear_25 (by decide) ?_
  refine n_iast hx hb hK hP hD hS (t) (show t < n by omega) a_t e_t (by decide) (2) (by omega) (by omega) dX2_clear_26 (fun H locs hP hD hS => ?_)
  obtain ⟨c3, hc3⟩ : ∃ x9 : Nat → va_E, x9 = va_up c2 (t) (.inl (g.2 0, 4, .inl (upd (fillR (zI (0)) rb 4) 2 (zI (1))))) := ⟨_, rfl⟩
  have hP : nP g (n) a2 c3 H := by rw [hc3]; exact hP
  have hD : va_D A (nL (n) a2 c3) := by rw [hc3]; exact hD
  replace hexc : ∀ j : Nat, j < n → ¬ j = z → ¬ j = t → c3 j = ce j := fun j hj9 q0 q1 => ((congrFun hc3 j).trans (up_ne _ _ q1)).trans (hexc j hj9 q0 q1)
  replace e_x : c3 (x) = .inr (2, [.ref h1, v1, v2, v3, .ref h2]) := ((congrFun hc3 _).trans (up_ne _ _ (by omega))).trans e_x
  replace e_y : c3 (y) = .inl (g.2 6, 1, .inr (.inr (.inr (.inr (f1))))) := ((congrFun hc3 _).trans (up_ne _ _ (by omega))).trans e_y
  replace e_z : c3 (z) = .inl (g.2 0, 4, .inl (fillR (zI (0)) rc 4)) := ((congrFun hc3 _).trans (up_ne _ _ (by omega))).trans e_z
  replace e_t : c3 (t) = .inl (g.2 0, 4, .inl (upd (fillR (zI (0)) rb 4) 2 (zI (1)))) := (congrFun hc3 _).trans (up_at _ _ _)
  clear hc3
  have hQ9 := nQ_of (m := 0) hAe hD hexa
  exact W.vret hx hb hr (fun tX htX hWX => ⟨⟨(a2, c3), rfl, ⟨hQ9, fun j hj9 q0 q1 => hexc j hj9 q0 q1, e_z, e_t⟩, g_at htX hP⟩, hS.F htX⟩) hS.2.2 dX2_clear_27

set_option maxHeartbeats 4000000 in
set_option maxRecDepth 100000 in
theorem c_X2_init_N (l : Launch) (g : GG) (n : Nat) (ad : Nat → Nat) (ce : Nat → va_E) (sz : Nat) (x : Nat) (hx0 : x < n) (h0 : Nat) (ha0 : ad x = h0) (e_x : ce (x) = .inr (2, [.null, .null, .null, .null, .null])) : Met l yX2_init wsX2_init ({ frames := 3, cells := 18, slots := 80, locals := 55 }) (nPc g n ad ce sz [.ref h0]) (va_Qv (fun (u : (Nat → Nat) × (Nat → va_E)) => nQ n 18 ad sz u.1 ∧ (∀ i, i < n → ¬ i = x → u.2 i = ce i) ∧ u.2 (x) = .inr (2, [.ref ((u.1 (n))), .ref ((u.1 (n + 2))), .ref ((u.1 (n + 8))), .ref ((u.1 (n + 12))), .ref ((u.1 (n + 17)))]) ∧ u.2 (n) = .inl (g.2 6, 1, .inr (.inr (.inr (.inr (fun i8 => some (u.1 (n + 1 + i8))))))) ∧ u.2 (n + 1) = .inl (g.2 0, 4, .inl (upd (fillR (zI (0)) (fun _ => zI 0) 4) 2 (zI (1)))) ∧ u.2 (n + 2) = .inl (g.2 6, 5, .inr (.inr (.inr (.inr (fun i8 => some (u.1 (n + 3 + i8))))))) ∧ u.2 (n + 3) = .inl (g.2 0, 9, .inl (fun _ => zI 0)) ∧ u.2 (n + 4) = .inl (g.2 0, 9, .inl (fun _ => zI 0)) ∧ u.2 (n + 5) = .inl (g.2 0, 9, .inl (fun _ => zI 0)) ∧ u.2 (n + 6) = .inl (g.2 0, 9, .inl (fun _ => zI 0)) ∧ u.2 (n + 7) = .inl (g.2 0, 9, .inl (fun _ => zI 0)) ∧ u.2 (n + 8) = .inl (g.2 6, 3, .inr (.inr (.inr (.inr (fun i8 => some (u.1 (n + 9 + i8))))))) ∧ u.2 (n + 9) = .inl (g.2 0, 2, .inl (fun _ => zI 0)) ∧ u.2 (n + 10) = .inl (g.2 0, 2, .inl (fun _ => zI 0)) ∧ u.2 (n + 11) = .inl (g.2 0, 2, .inl (fun _ => zI 0)) ∧ u.2 (n + 12) = .inl (g.2 6, 4, .inr (.inr (.inr (.inr (fun i8 => some (u.1 (n + 13 + i8))))))) ∧ u.2 (n + 13) = .inl (g.2 0, 2, .inl (fun _ => zI 0)) ∧ u.2 (n + 14) = .inl (g.2 0, 2, .inl (fun _ => zI 0)) ∧ u.2 (n + 15) = .inl (g.2 0, 2, .inl (fun _ => zI 0)) ∧ u.2 (n + 16) = .inl (g.2 0, 2, .inl (fun _ => zI 0)) ∧ u.2 (n + 17) = .inl (g.2 0, 4, .inl (fillR (zI (0)) (fun _ => zI 0) 4))) (fun u (tS : State) => nP g (n + 18) u.1 u.2 tS.heap) (nA n ad sz)) 18 80 (nA n ad sz) := by
  refine Met.ofW (cc := cX2_init) (maxL := 1) (ret := none) (by decide) rfl ?_
  intro p e s m args below meth c s₁ B hml hv
  obtain ⟨rfl, hsz, hP, hD0, hK, hN⟩ := hv
  have hx := B.exec
  have hb := B.bytes
  have hr := B.returns
  have hts := atoms_spec (ws := wsX2_init) B.pre
  have hown : s.vm.findClass RX2 = some m.cls := findClass_of_methodNamed B.named
  have hlocks := B.notSynchronized
  have hin9 := (name_of_methodNamed B.named B.method).1
  have hinX2 : ∀ w ∈ wsX20, w ∈ wsX2_init := by decide +kernel
  have kOI := hts (.methodLink RX2 3 objectInit) (by decide +kernel)
  have kOJ := hts (.instanceMethod objectInit) (by decide +kernel)
  have kOK := hts (.code objectInit ⟨#[0xb1]⟩ 1 none) (by decide +kernel)
  have kN9 := hts (.classLink RX2 9 "[[I") (by decide +kernel)
  have kACint := hts (.arrayClass .int) (by decide +kernel)
  have k11 := hts (.fieldLink RX2 11 "HoursBank$Rules" "banks" "[[I") (by decide +kernel)
  have k16 := hts (.fieldLink RX2 16 "HoursBank$Rules" "seasons" "[[I") (by decide +kernel)
  have k19 := hts (.fieldLink RX2 19 "HoursBank$Rules" "notices" "[[I") (by decide +kernel)
  have k22 := hts (.fieldLink RX2 22 "HoursBank$Rules" "workers" "[[I") (by decide +kernel)
  have k25 := hts (.fieldLink RX2 25 "HoursBank$Rules" "counts" "[I") (by decide +kernel)
  subst hsz
  obtain ⟨A, hAe⟩ : ∃ A, A = nA n ad s.heap.size := ⟨_, rfl⟩
  rw [← hAe]
  have hA : ∀ q : Nat, s.heap.size ≤ q → A q := fun q h => by rw [hAe]; exact Or.inr h
  have hD : va_D A (nL n ad ce) := nDa hD0 (fun i hi => by rw [hAe]; exact Or.inl ⟨i, hi, rfl⟩)
  have hl := lv_entry ([.ref h0]) (n := 1) (Nat.le_of_ble_eq_true rfl)
  rw [lg_entry_eq]
  generalize (lg_sl ([.ref h0]) ++ List.replicate (1 - (lg_sl ([.ref h0])).length) Slot.unset).toArray = ls at hl ⊢
  have hl : lv_has ls 1 [(0, .ref h0)] := hl
  have hS : va_S A s.heap s.heap [] := va_S.rf
  obtain ⟨H, hH9⟩ : ∃ H, H = s.heap := ⟨_, rfl⟩
  obtain ⟨locs, hL9⟩ : ∃ x9l : List Loc, x9l = [] := ⟨_, rfl⟩
  have hP : nP g n ad ce H := hH9 ▸ hP
  have hS : va_S A s.heap H locs := by rw [hH9, hL9]; exact hS
  refine z_start hH9 hL9 ?_
  clear hH9 hL9
  have hexa : ∀ j : Nat, j < n → ad j = ad j := fun _ _ => rfl
  have hexc : ∀ j : Nat, j < n → ce j = ce j := fun _ _ => rfl
  have a_x : ad (x) = h0 := ha0
  refine lv_aload_n hx hb dX2_init_0 rfl (lv_at hl 0 rfl) ?_
  refine W.objInit hx hb hown kOI kOJ kOK rfl (by rw [hml]; exact hl.1) rfl dX2_init_1 (Nat.le_of_ble_eq_true rfl) (Nat.le_of_ble_eq_true rfl) ?_
  refine W.eq (g2 := F0 m 4 ls []) rfl ?_
  refine lv_aload_n hx hb dX2_init_4 rfl (lv_at hl 0 rfl) ?_
  refine lv_iconst (v := zI (1)) hx hb dX2_init_5 (by decide) ?_
  refine lv_iconst (v := zI (4)) hx hb dX2_init_6 (by decide) ?_
  refine n_mna (N' := 1) (K' := 4) hx hb hown kN9 hN.2.2.2.2.2.2 kACint hK hP hD hS hA (by omega) (by omega) (by omega) (by omega) (Nat.le_of_ble_eq_true rfl) (Nat.le_of_ble_eq_true rfl) dX2_init_7 (fun a1 c1 H ha9 hc9 hc8 hc7 hP hD hS => ?_)
  have hP : nP g (n + 2) a1 c1 H := hP
  have hD : va_D A (nL (n + 2) a1 c1) := hD
  replace hexa : ∀ j : Nat, j < n → a1 j = ad j := fun j hj9 => (ha9 j (by omega)).trans (hexa j hj9)
  replace hexc : ∀ j : Nat, j < n → c1 j = ce j := fun j hj9  => (hc9 j (by omega)).trans (hexc j hj9 )
  have a_x : a1 (x) = h0 := (ha9 _ (by omega)).trans a_x
  have e_x : c1 (x) = .inr (2, [.null, .null, .null, .null, .null]) := (hc9 _ (by omega)).trans e_x
  have a_n : a1 (n) = a1 (n) := rfl
  have e_n : c1 (n) = .inl (g.2 6, 1, .inr (.inr (.inr (.inr (fun i8 => some (a1 (n + 1 + i8))))))) := hc8
  have a_n_1 : a1 (n + 1) = a1 (n + 1) := rfl
  have e_n_1 : c1 (n + 1) = .inl (g.2 0, 4, .inl (fun _ => zI 0)) := hc7 0 (by omega)
  refine n_putF (ci := 2) (v := .ref ((a1 (n)))) (ty := .array (.array .int)) (C := RX2) (T := TX2) (N := 5) hx hb hts hinX2 tyX2 tyX2_ok nmX2 hown hK hP hD hS (x) (show x < n + 2 by omega) a_x e_x rfl 0 (by decide) k11 (fun _ h9 => h9) rfl hin9 rfl (by decide +kernel) rfl rfl (Nat.le_of_ble_eq_true rfl) dX2_init_11 (fun H locs hP hD hS => ?_)
  obtain ⟨c2, hc2⟩ : ∃ x9 : Nat → va_E, x9 = va_up c1 (x) (.inr (2, [.ref ((a1 (n))), .null, .null, .null, .null])) := ⟨_, rfl⟩
  have hP : nP g (n + 2) a1 c2 H := by rw [hc2]; exact hP
  have hD : va_D A (nL (n + 2) a1 c2) := by rw [hc2]; exact hD
  replace hexc : ∀ j : Nat, j < n → ¬ j = x → c2 j = ce j := fun j hj9 q0 => ((congrFun hc2 j).trans (up_ne _ _ q0)).trans (hexc j hj9 )
  replace e_x : c2 (x) = .inr (2, [.ref ((a1 (n))), .null, .null, .null, .null]) := (congrFun hc2 _).trans (up_at _ _ _)
  replace e_n : c2 (n) = .inl (g.2 6, 1, .inr (.inr (.inr (.inr (fun i8 => some (a1 (n + 1 + i8))))))) := ((congrFun hc2 _).trans (up_ne _ _ (by omega))).trans e_n
  replace e_n_1 : c2 (n + 1) = .inl (g.2 0, 4, .inl (fun _ => zI 0)) := ((congrFun hc2 _).trans (up_ne _ _ (by omega))).trans e_n_1
  clear hc2
  refine lv_aload_n hx hb dX2_init_14 rfl (lv_at hl 0 rfl) ?_
  refine lv_iconst (v := zI (5)) hx hb dX2_init_15 (by decide) ?_
  refine lv_bipush (v := zI (9)) hx hb dX2_init_16 (by decide) ?_
  refine n_mna (N' := 5) (K' := 9) hx hb hown kN9 hN.2.2.2.2.2.2 kACint hK hP hD hS hA (by omega) (by omega) (by omega) (by omega) (Nat.le_of_ble_eq_true rfl) (Nat.le_of_ble_eq_true rfl) dX2_init_18 (fun a3 c3 H ha9 hc9 hc8 hc7 hP hD hS => ?_)
  have hP : nP g (n + 8) a3 c3 H := hP
  have hD : va_D A (nL (n + 8) a3 c3) := hD
  replace hexa : ∀ j : Nat, j < n → a3 j = ad j := fun j hj9 => (ha9 j (by omega)).trans (hexa j hj9)
  replace hexc : ∀ j : Nat, j < n → ¬ j = x → c3 j = ce j := fun j hj9 q0 => (hc9 j (by omega)).trans (hexc j hj9 q0)
  have a_x : a3 (x) = h0 := (ha9 _ (by omega)).trans a_x
  have e_x : c3 (x) = .inr (2, [.ref ((a1 (n))), .null, .null, .null, .null]) := (hc9 _ (by omega)).trans e_x
  have a_n : a3 (n) = (a1 (n)) := (ha9 _ (by omega)).trans a_n
  have e_n : c3 (n) = .inl (g.2 6, 1, .inr (.inr (.inr (.inr (fun i8 => some (a1 (n + 1 + i8))))))) := (hc9 _ (by omega)).trans e_n
  have a_n_1 : a3 (n + 1) = (a1 (n + 1)) := (ha9 _ (by omega)).trans a_n_1
  have e_n_1 : c3 (n + 1) = .inl (g.2 0, 4, .inl (fun _ => zI 0)) := (hc9 _ (by omega)).trans e_n_1
  have a_n_2 : a3 (n + 2) = a3 (n + 2) := rfl
  have e_n_2 : c3 (n + 2) = .inl (g.2 6, 5, .inr (.inr (.inr (.inr (fun i8 => some (a3 (n + 3 + i8))))))) := hc8
  have a_n_3 : a3 (n + 3) = a3 (n + 3) := rfl
  have e_n_3 : c3 (n + 3) = .inl (g.2 0, 9, .inl (fun _ => zI 0)) := hc7 0 (by omega)
  have a_n_4 : a3 (n + 4) = a3 (n + 4) := rfl
  have e_n_4 : c3 (n + 4) = .inl (g.2 0, 9, .inl (fun _ => zI 0)) := hc7 1 (by omega)
  have a_n_5 : a3 (n + 5) = a3 (n + 5) := rfl
  have e_n_5 : c3 (n + 5) = .inl (g.2 0, 9, .inl (fun _ => zI 0)) := hc7 2 (by omega)
  have a_n_6 : a3 (n + 6) = a3 (n + 6) := rfl
  have e_n_6 : c3 (n + 6) = .inl (g.2 0, 9, .inl (fun _ => zI 0)) := hc7 3 (by omega)
  have a_n_7 : a3 (n + 7) = a3 (n + 7) := rfl
  have e_n_7 : c3 (n + 7) = .inl (g.2 0, 9, .inl (fun _ => zI 0)) := hc7 4 (by omega)
  refine n_putF (ci := 2) (v := .ref ((a3 (n + 2)))) (ty := .array (.array .int)) (C := RX2) (T := TX2) (N := 5) hx hb hts hinX2 tyX2 tyX2_ok nmX2 hown hK hP hD hS (x) (show x < n + 8 by omega) a_x e_x rfl 1 (by decide) k16 (fun _ h9 => h9) rfl hin9 rfl (by decide +kernel) rfl rfl (Nat.le_of_ble_eq_true rfl) dX2_init_22 (fun H locs hP hD hS => ?_)
  obtain ⟨c4, hc4⟩ : ∃ x9 : Nat → va_E, x9 = va_up c3 (x) (.inr (2, [.ref ((a1 (n))), .ref ((a3 (n + 2))), .null, .null, .null])) := ⟨_, rfl⟩
  have hP : nP g (n + 8) a3 c4 H := by rw [hc4]; exact hP
  have hD : va_D A (nL (n + 8) a3 c4) := by rw [hc4]; exact hD
  replace hexc : ∀ j : Nat, j < n → ¬ j = x → c4 j = ce j := fun j hj9 q0 => ((congrFun hc4 j).trans (up_ne _ _ q0)).trans (hexc j hj9 q0)
  replace e_x : c4 (x) = .inr (2, [.ref ((a1 (n))), .ref ((a3 (n + 2))), .null, .null, .null]) := (congrFun hc4 _).trans (up_at _ _ _)
  replace e_n : c4 (n) = .inl (g.2 6, 1, .inr (.inr (.inr (.inr (fun i8 => some (a1 (n + 1 + i8))))))) := ((congrFun hc4 _).trans (up_ne _ _ (by omega))).trans e_n
  replace e_n_1 : c4 (n + 1) = .inl (g.2 0, 4, .inl (fun _ => zI 0)) := ((congrFun hc4 _).trans (up_ne _ _ (by omega))).trans e_n_1
  replace e_n_2 : c4 (n + 2) = .inl (g.2 6, 5, .inr (.inr (.inr (.inr (fun i8 => some (a3 (n + 3 + i8))))))) := ((congrFun hc4 _).trans (up_ne _ _ (by omega))).trans e_n_2
  replace e_n_3 : c4 (n + 3) = .inl (g.2 0, 9, .inl (fun _ => zI 0)) := ((congrFun hc4 _).trans (up_ne _ _ (by omega))).trans e_n_3
  replace e_n_4 : c4 (n + 4) = .inl (g.2 0, 9, .inl (fun _ => zI 0)) := ((congrFun hc4 _).trans (up_ne _ _ (by omega))).trans e_n_4
  replace e_n_5 : c4 (n + 5) = .inl (g.2 0, 9, .inl (fun _ => zI 0)) := ((congrFun hc4 _).trans (up_ne _ _ (by omega))).trans e_n_5
  replace e_n_6 : c4 (n + 6) = .inl (g.2 0, 9, .inl (fun _ => zI 0)) := ((congrFun hc4 _).trans (up_ne _ _ (by omega))).trans e_n_6
  replace e_n_7 : c4 (n + 7) = .inl (g.2 0, 9, .inl (fun _ => zI 0)) := ((congrFun hc4 _).trans (up_ne _ _ (by omega))).trans e_n_7
  clear hc4
  refine lv_aload_n hx hb dX2_init_25 rfl (lv_at hl 0 rfl) ?_
  refine lv_iconst (v := zI (3)) hx hb dX2_init_26 (by decide) ?_
  refine lv_iconst (v := zI (2)) hx hb dX2_init_27 (by decide) ?_
  refine n_mna (N' := 3) (K' := 2) hx hb hown kN9 hN.2.2.2.2.2.2 kACint hK hP hD hS hA (by omega) (by omega) (by omega) (by omega) (Nat.le_of_ble_eq_true rfl) (Nat.le_of_ble_eq_true rfl) dX2_init_28 (fun a5 c5 H ha9 hc9 hc8 hc7 hP hD hS => ?_)
  have hP : nP g (n + 12) a5 c5 H := hP
  have hD : va_D A (nL (n + 12) a5 c5) := hD
  replace hexa : ∀ j : Nat, j < n → a5 j = ad j := fun j hj9 => (ha9 j (by omega)).trans (hexa j hj9)
  replace hexc : ∀ j : Nat, j < n → ¬ j = x → c5 j = ce j := fun j hj9 q0 => (hc9 j (by omega)).trans (hexc j hj9 q0)
  have a_x : a5 (x) = h0 := (ha9 _ (by omega)).trans a_x
  have e_x : c5 (x) = .inr (2, [.ref ((a1 (n))), .ref ((a3 (n + 2))), .null, .null, .null]) := (hc9 _ (by omega)).trans e_x
  have a_n : a5 (n) = (a1 (n)) := (ha9 _ (by omega)).trans a_n
  have e_n : c5 (n) = .inl (g.2 6, 1, .inr (.inr (.inr (.inr (fun i8 => some (a1 (n + 1 + i8))))))) := (hc9 _ (by omega)).trans e_n
  have a_n_1 : a5 (n + 1) = (a1 (n + 1)) := (ha9 _ (by omega)).trans a_n_1
  have e_n_1 : c5 (n + 1) = .inl (g.2 0, 4, .inl (fun _ => zI 0)) := (hc9 _ (by omega)).trans e_n_1
  have a_n_2 : a5 (n + 2) = (a3 (n + 2)) := (ha9 _ (by omega)).trans a_n_2
  have e_n_2 : c5 (n + 2) = .inl (g.2 6, 5, .inr (.inr (.inr (.inr (fun i8 => some (a3 (n + 3 + i8))))))) := (hc9 _ (by omega)).trans e_n_2
  have a_n_3 : a5 (n + 3) = (a3 (n + 3)) := (ha9 _ (by omega)).trans a_n_3
  have e_n_3 : c5 (n + 3) = .inl (g.2 0, 9, .inl (fun _ => zI 0)) := (hc9 _ (by omega)).trans e_n_3
  have a_n_4 : a5 (n + 4) = (a3 (n + 4)) := (ha9 _ (by omega)).trans a_n_4
  have e_n_4 : c5 (n + 4) = .inl (g.2 0, 9, .inl (fun _ => zI 0)) := (hc9 _ (by omega)).trans e_n_4
  have a_n_5 : a5 (n + 5) = (a3 (n + 5)) := (ha9 _ (by omega)).trans a_n_5
  have e_n_5 : c5 (n + 5) = .inl (g.2 0, 9, .inl (fun _ => zI 0)) := (hc9 _ (by omega)).trans e_n_5
  have a_n_6 : a5 (n + 6) = (a3 (n + 6)) := (ha9 _ (by omega)).trans a_n_6
  have e_n_6 : c5 (n + 6) = .inl (g.2 0, 9, .inl (fun _ => zI 0)) := (hc9 _ (by omega)).trans e_n_6
  have a_n_7 : a5 (n + 7) = (a3 (n + 7)) := (ha9 _ (by omega)).trans a_n_7
  have e_n_7 : c5 (n + 7) = .inl (g.2 0, 9, .inl (fun _ => zI 0)) := (hc9 _ (by omega)).trans e_n_7
  have a_n_8 : a5 (n + 8) = a5 (n + 8) := rfl
  have e_n_8 : c5 (n + 8) = .inl (g.2 6, 3, .inr (.inr (.inr (.inr (fun i8 => some (a5 (n + 9 + i8))))))) := hc8
  have a_n_9 : a5 (n + 9) = a5 (n + 9) := rfl
  have e_n_9 : c5 (n + 9) = .inl (g.2 0, 2, .inl (fun _ => zI 0)) := hc7 0 (by omega)
  have a_n_10 : a5 (n + 10) = a5 (n + 10) := rfl
  have e_n_10 : c5 (n + 10) = .inl (g.2 0, 2, .inl (fun _ => zI 0)) := hc7 1 (by omega)
  have a_n_11 : a5 (n + 11) = a5 (n + 11) := rfl
  have e_n_11 : c5 (n + 11) = .inl (g.2 0, 2, .inl (fun _ => zI 0)) := hc7 2 (by omega)
  refine n_putF (ci := 2) (v := .ref ((a5 (n + 8)))) (ty := .array (.array .int)) (C := RX2) (T := TX2) (N := 5) hx hb hts hinX2 tyX2 tyX2_ok nmX2 hown hK hP hD hS (x) (show x < n + 12 by omega) a_x e_x rfl 2 (by decide) k19 (fun _ h9 => h9) rfl hin9 rfl (by decide +kernel) rfl rfl (Nat.le_of_ble_eq_true rfl) dX2_init_32 (fun H locs hP hD hS => ?_)
  obtain ⟨c6, hc6⟩ : ∃ x9 : Nat → va_E, x9 = va_up c5 (x) (.inr (2, [.ref ((a1 (n))), .ref ((a3 (n + 2))), .ref ((a5 (n + 8))), .null, .null])) := ⟨_, rfl⟩
  have hP : nP g (n + 12) a5 c6 H := by rw [hc6]; exact hP
  have hD : va_D A (nL (n + 12) a5 c6) := by rw [hc6]; exact hD
  replace hexc : ∀ j : Nat, j < n → ¬ j = x → c6 j = ce j := fun j hj9 q0 => ((congrFun hc6 j).trans (up_ne _ _ q0)).trans (hexc j hj9 q0)
  replace e_x : c6 (x) = .inr (2, [.ref ((a1 (n))), .ref ((a3 (n + 2))), .ref ((a5 (n + 8))), .null, .null]) := (congrFun hc6 _).trans (up_at _ _ _)
  replace e_n : c6 (n) = .inl (g.2 6, 1, .inr (.inr (.inr (.inr (fun i8 => some (a1 (n + 1 + i8))))))) := ((congrFun hc6 _).trans (up_ne _ _ (by omega))).trans e_n
  replace e_n_1 : c6 (n + 1) = .inl (g.2 0, 4, .inl (fun _ => zI 0)) := ((congrFun hc6 _).trans (up_ne _ _ (by omega))).trans e_n_1
  replace e_n_2 : c6 (n + 2) = .inl (g.2 6, 5, .inr (.inr (.inr (.inr (fun i8 => some (a3 (n + 3 + i8))))))) := ((congrFun hc6 _).trans (up_ne _ _ (by omega))).trans e_n_2
  replace e_n_3 : c6 (n + 3) = .inl (g.2 0, 9, .inl (fun _ => zI 0)) := ((congrFun hc6 _).trans (up_ne _ _ (by omega))).trans e_n_3
  replace e_n_4 : c6 (n + 4) = .inl (g.2 0, 9, .inl (fun _ => zI 0)) := ((congrFun hc6 _).trans (up_ne _ _ (by omega))).trans e_n_4
  replace e_n_5 : c6 (n + 5) = .inl (g.2 0, 9, .inl (fun _ => zI 0)) := ((congrFun hc6 _).trans (up_ne _ _ (by omega))).trans e_n_5
  replace e_n_6 : c6 (n + 6) = .inl (g.2 0, 9, .inl (fun _ => zI 0)) := ((congrFun hc6 _).trans (up_ne _ _ (by omega))).trans e_n_6
  replace e_n_7 : c6 (n + 7) = .inl (g.2 0, 9, .inl (fun _ => zI 0)) := ((congrFun hc6 _).trans (up_ne _ _ (by omega))).trans e_n_7
  replace e_n_8 : c6 (n + 8) = .inl (g.2 6, 3, .inr (.inr (.inr (.inr (fun i8 => some (a5 (n + 9 + i8))))))) := ((congrFun hc6 _).trans (up_ne _ _ (by omega))).trans e_n_8
  replace e_n_9 : c6 (n + 9) = .inl (g.2 0, 2, .inl (fun _ => zI 0)) := ((congrFun hc6 _).trans (up_ne _ _ (by omega))).trans e_n_9
  replace e_n_10 : c6 (n + 10) = .inl (g.2 0, 2, .inl (fun _ => zI 0)) := ((congrFun hc6 _).trans (up_ne _ _ (by omega))).trans e_n_10
  replace e_n_11 : c6 (n + 11) = .inl (g.2 0, 2, .inl (fun _ => zI 0)) := ((congrFun hc6 _).trans (up_ne _ _ (by omega))).trans e_n_11
  clear hc6
  refine lv_aload_n hx hb dX2_init_35 rfl (lv_at hl 0 rfl) ?_
  refine lv_iconst (v := zI (4)) hx hb dX2_init_36 (by decide) ?_
  refine lv_iconst (v := zI (2)) hx hb dX2_init_37 (by decide) ?_
  refine n_mna (N' := 4) (K' := 2) hx hb hown kN9 hN.2.2.2.2.2.2 kACint hK hP hD hS hA (by omega) (by omega) (by omega) (by omega) (Nat.le_of_ble_eq_true rfl) (Nat.le_of_ble_eq_true rfl) dX2_init_38 (fun a7 c7 H ha9 hc9 hc8 hc7 hP hD hS => ?_)
  have hP : nP g (n + 17) a7 c7 H := hP
  have hD : va_D A (nL (n + 17) a7 c7) := hD
  replace hexa : ∀ j : Nat, j < n → a7 j = ad j := fun j hj9 => (ha9 j (by omega)).trans (hexa j hj9)
  replace hexc : ∀ j : Nat, j < n → ¬ j = x → c7 j = ce j := fun j hj9 q0 => (hc9 j (by omega)).trans (hexc j hj9 q0)
  have a_x : a7 (x) = h0 := (ha9 _ (by omega)).trans a_x
  have e_x : c7 (x) = .inr (2, [.ref ((a1 (n))), .ref ((a3 (n + 2))), .ref ((a5 (n + 8))), .null, .null]) := (hc9 _ (by omega)).trans e_x
  have a_n : a7 (n) = (a1 (n)) := (ha9 _ (by omega)).trans a_n
  have e_n : c7 (n) = .inl (g.2 6, 1, .inr (.inr (.inr (.inr (fun i8 => some (a1 (n + 1 + i8))))))) := (hc9 _ (by omega)).trans e_n
  have a_n_1 : a7 (n + 1) = (a1 (n + 1)) := (ha9 _ (by omega)).trans a_n_1
  have e_n_1 : c7 (n + 1) = .inl (g.2 0, 4, .inl (fun _ => zI 0)) := (hc9 _ (by omega)).trans e_n_1
  have a_n_2 : a7 (n + 2) = (a3 (n + 2)) := (ha9 _ (by omega)).trans a_n_2
  have e_n_2 : c7 (n + 2) = .inl (g.2 6, 5, .inr (.inr (.inr (.inr (fun i8 => some (a3 (n + 3 + i8))))))) := (hc9 _ (by omega)).trans e_n_2
  have a_n_3 : a7 (n + 3) = (a3 (n + 3)) := (ha9 _ (by omega)).trans a_n_3
  have e_n_3 : c7 (n + 3) = .inl (g.2 0, 9, .inl (fun _ => zI 0)) := (hc9 _ (by omega)).trans e_n_3
  have a_n_4 : a7 (n + 4) = (a3 (n + 4)) := (ha9 _ (by omega)).trans a_n_4
  have e_n_4 : c7 (n + 4) = .inl (g.2 0, 9, .inl (fun _ => zI 0)) := (hc9 _ (by omega)).trans e_n_4
  have a_n_5 : a7 (n + 5) = (a3 (n + 5)) := (ha9 _ (by omega)).trans a_n_5
  have e_n_5 : c7 (n + 5) = .inl (g.2 0, 9, .inl (fun _ => zI 0)) := (hc9 _ (by omega)).trans e_n_5
  have a_n_6 : a7 (n + 6) = (a3 (n + 6)) := (ha9 _ (by omega)).trans a_n_6
  have e_n_6 : c7 (n + 6) = .inl (g.2 0, 9, .inl (fun _ => zI 0)) := (hc9 _ (by omega)).trans e_n_6
  have a_n_7 : a7 (n + 7) = (a3 (n + 7)) := (ha9 _ (by omega)).trans a_n_7
  have e_n_7 : c7 (n + 7) = .inl (g.2 0, 9, .inl (fun _ => zI 0)) := (hc9 _ (by omega)).trans e_n_7
  have a_n_8 : a7 (n + 8) = (a5 (n + 8)) := (ha9 _ (by omega)).trans a_n_8
  have e_n_8 : c7 (n + 8) = .inl (g.2 6, 3, .inr (.inr (.inr (.inr (fun i8 => some (a5 (n + 9 + i8))))))) := (hc9 _ (by omega)).trans e_n_8
  have a_n_9 : a7 (n + 9) = (a5 (n + 9)) := (ha9 _ (by omega)).trans a_n_9
  have e_n_9 : c7 (n + 9) = .inl (g.2 0, 2, .inl (fun _ => zI 0)) := (hc9 _ (by omega)).trans e_n_9
  have a_n_10 : a7 (n + 10) = (a5 (n + 10)) := (ha9 _ (by omega)).trans a_n_10
  have e_n_10 : c7 (n + 10) = .inl (g.2 0, 2, .inl (fun _ => zI 0)) := (hc9 _ (by omega)).trans e_n_10
  have a_n_11 : a7 (n + 11) = (a5 (n + 11)) := (ha9 _ (by omega)).trans a_n_11
  have e_n_11 : c7 (n + 11) = .inl (g.2 0, 2, .inl (fun _ => zI 0)) := (hc9 _ (by omega)).trans e_n_11
  have a_n_12 : a7 (n + 12) = a7 (n + 12) := rfl
  have e_n_12 : c7 (n + 12) = .inl (g.2 6, 4, .inr (.inr (.inr (.inr (fun i8 => some (a7 (n + 13 + i8))))))) := hc8
  have a_n_13 : a7 (n + 13) = a7 (n + 13) := rfl
  have e_n_13 : c7 (n + 13) = .inl (g.2 0, 2, .inl (fun _ => zI 0)) := hc7 0 (by omega)
  have a_n_14 : a7 (n + 14) = a7 (n + 14) := rfl
  have e_n_14 : c7 (n + 14) = .inl (g.2 0, 2, .inl (fun _ => zI 0)) := hc7 1 (by omega)
  have a_n_15 : a7 (n + 15) = a7 (n + 15) := rfl
  have e_n_15 : c7 (n + 15) = .inl (g.2 0, 2, .inl (fun _ => zI 0)) := hc7 2 (by omega)
  have a_n_16 : a7 (n + 16) = a7 (n + 16) := rfl
  have e_n_16 : c7 (n + 16) = .inl (g.2 0, 2, .inl (fun _ => zI 0)) := hc7 3 (by omega)
  refine n_putF (ci := 2) (v := .ref ((a7 (n + 12)))) (ty := .array (.array .int)) (C := RX2) (T := TX2) (N := 5) hx hb hts hinX2 tyX2 tyX2_ok nmX2 hown hK hP hD hS (x) (show x < n + 17 by omega) a_x e_x rfl 3 (by decide) k22 (fun _ h9 => h9) rfl hin9 rfl (by decide +kernel) rfl rfl (Nat.le_of_ble_eq_true rfl) dX2_init_42 (fun H locs hP hD hS => ?_)
  obtain ⟨c8, hc8⟩ : ∃ x9 : Nat → va_E, x9 = va_up c7 (x) (.inr (2, [.ref ((a1 (n))), .ref ((a3 (n + 2))), .ref ((a5 (n + 8))), .ref ((a7 (n + 12))), .null])) := ⟨_, rfl⟩
  have hP : nP g (n + 17) a7 c8 H := by rw [hc8]; exact hP
  have hD : va_D A (nL (n + 17) a7 c8) := by rw [hc8]; exact hD
  replace hexc : ∀ j : Nat, j < n → ¬ j = x → c8 j = ce j := fun j hj9 q0 => ((congrFun hc8 j).trans (up_ne _ _ q0)).trans (hexc j hj9 q0)
  replace e_x : c8 (x) = .inr (2, [.ref ((a1 (n))), .ref ((a3 (n + 2))), .ref ((a5 (n + 8))), .ref ((a7 (n + 12))), .null]) := (congrFun hc8 _).trans (up_at _ _ _)
  replace e_n : c8 (n) = .inl (g.2 6, 1, .inr (.inr (.inr (.inr (fun i8 => some (a1 (n + 1 + i8))))))) := ((congrFun hc8 _).trans (up_ne _ _ (by omega))).trans e_n
  replace e_n_1 : c8 (n + 1) = .inl (g.2 0, 4, .inl (fun _ => zI 0)) := ((congrFun hc8 _).trans (up_ne _ _ (by omega))).trans e_n_1
  replace e_n_2 : c8 (n + 2) = .inl (g.2 6, 5, .inr (.inr (.inr (.inr (fun i8 => some (a3 (n + 3 + i8))))))) := ((congrFun hc8 _).trans (up_ne _ _ (by omega))).trans e_n_2
  replace e_n_3 : c8 (n + 3) = .inl (g.2 0, 9, .inl (fun _ => zI 0)) := ((congrFun hc8 _).trans (up_ne _ _ (by omega))).trans e_n_3
  replace e_n_4 : c8 (n + 4) = .inl (g.2 0, 9, .inl (fun _ => zI 0)) := ((congrFun hc8 _).trans (up_ne _ _ (by omega))).trans e_n_4
  replace e_n_5 : c8 (n + 5) = .inl (g.2 0, 9, .inl (fun _ => zI 0)) := ((congrFun hc8 _).trans (up_ne _ _ (by omega))).trans e_n_5
  replace e_n_6 : c8 (n + 6) = .inl (g.2 0, 9, .inl (fun _ => zI 0)) := ((congrFun hc8 _).trans (up_ne _ _ (by omega))).trans e_n_6
  replace e_n_7 : c8 (n + 7) = .inl (g.2 0, 9, .inl (fun _ => zI 0)) := ((congrFun hc8 _).trans (up_ne _ _ (by omega))).trans e_n_7
  replace e_n_8 : c8 (n + 8) = .inl (g.2 6, 3, .inr (.inr (.inr (.inr (fun i8 => some (a5 (n + 9 + i8))))))) := ((congrFun hc8 _).trans (up_ne _ _ (by omega))).trans e_n_8
  replace e_n_9 : c8 (n + 9) = .inl (g.2 0, 2, .inl (fun _ => zI 0)) := ((congrFun hc8 _).trans (up_ne _ _ (by omega))).trans e_n_9
  replace e_n_10 : c8 (n + 10) = .inl (g.2 0, 2, .inl (fun _ => zI 0)) := ((congrFun hc8 _).trans (up_ne _ _ (by omega))).trans e_n_10
  replace e_n_11 : c8 (n + 11) = .inl (g.2 0, 2, .inl (fun _ => zI 0)) := ((congrFun hc8 _).trans (up_ne _ _ (by omega))).trans e_n_11
  replace e_n_12 : c8 (n + 12) = .inl (g.2 6, 4, .inr (.inr (.inr (.inr (fun i8 => some (a7 (n + 13 + i8))))))) := ((congrFun hc8 _).trans (up_ne _ _ (by omega))).trans e_n_12
  replace e_n_13 : c8 (n + 13) = .inl (g.2 0, 2, .inl (fun _ => zI 0)) := ((congrFun hc8 _).trans (up_ne _ _ (by omega))).trans e_n_13
  replace e_n_14 : c8 (n + 14) = .inl (g.2 0, 2, .inl (fun _ => zI 0)) := ((congrFun hc8 _).trans (up_ne _ _ (by omega))).trans e_n_14
  replace e_n_15 : c8 (n + 15) = .inl (g.2 0, 2, .inl (fun _ => zI 0)) := ((congrFun hc8 _).trans (up_ne _ _ (by omega))).trans e_n_15
  replace e_n_16 : c8 (n + 16) = .inl (g.2 0, 2, .inl (fun _ => zI 0)) := ((congrFun hc8 _).trans (up_ne _ _ (by omega))).trans e_n_16
  clear hc8
  refine lv_aload_n hx hb dX2_init_45 rfl (lv_at hl 0 rfl) ?_
  refine lv_iconst (v := zI (4)) hx hb dX2_init_46 (by decide) ?_
  refine n_newa (atype := .int) (ty := .int) (a0 := (4, .inl (fun _ => zI 0))) (N' := 4) hx hb kACint rfl hK hP hD hS hA 0 rfl (fun _ => rfl) (by omega) (by omega) (Nat.le_of_ble_eq_true rfl) (Nat.le_of_ble_eq_true rfl) (Nat.le_of_ble_eq_true rfl) dX2_init_47 (fun q109 H hP hD hS => ?_)
  obtain ⟨a10, ha10⟩ : ∃ x9 : Nat → Nat, x9 = va_up a7 (n + 17) q109 := ⟨_, rfl⟩
  obtain ⟨c10, hc10⟩ : ∃ x9 : Nat → va_E, x9 = va_up c8 (n + 17) (.inl (g.2 0, 4, .inl (fun _ => zI 0))) := ⟨_, rfl⟩
  have hP : nP g (n + 18) a10 c10 H := by rw [ha10, hc10]; exact hP
  have hD : va_D A (nL (n + 18) a10 c10) := by rw [ha10, hc10]; exact hD
  replace hexa : ∀ j : Nat, j < n → a10 j = ad j := fun j hj9 => ((congrFun ha10 j).trans (up_ne _ _ (by omega))).trans (hexa j hj9)
  replace hexc : ∀ j : Nat, j < n → ¬ j = x → c10 j = ce j := fun j hj9 q0 => ((congrFun hc10 j).trans (up_ne _ _ (by omega))).trans (hexc j hj9 q0)
  replace a_x : a10 (x) = h0 := ((congrFun ha10 _).trans (up_ne _ _ (by omega))).trans a_x
  replace e_x : c10 (x) = .inr (2, [.ref ((a1 (n))), .ref ((a3 (n + 2))), .ref ((a5 (n + 8))), .ref ((a7 (n + 12))), .null]) := ((congrFun hc10 _).trans (up_ne _ _ (by omega))).trans e_x
  replace a_n : a10 (n) = (a1 (n)) := ((congrFun ha10 _).trans (up_ne _ _ (by omega))).trans a_n
  replace e_n : c10 (n) = .inl (g.2 6, 1, .inr (.inr (.inr (.inr (fun i8 => some (a1 (n + 1 + i8))))))) := ((congrFun hc10 _).trans (up_ne _ _ (by omega))).trans e_n
  replace a_n_1 : a10 (n + 1) = (a1 (n + 1)) := ((congrFun ha10 _).trans (up_ne _ _ (by omega))).trans a_n_1
  replace e_n_1 : c10 (n + 1) = .inl (g.2 0, 4, .inl (fun _ => zI 0)) := ((congrFun hc10 _).trans (up_ne _ _ (by omega))).trans e_n_1
  replace a_n_2 : a10 (n + 2) = (a3 (n + 2)) := ((congrFun ha10 _).trans (up_ne _ _ (by omega))).trans a_n_2
  replace e_n_2 : c10 (n + 2) = .inl (g.2 6, 5, .inr (.inr (.inr (.inr (fun i8 => some (a3 (n + 3 + i8))))))) := ((congrFun hc10 _).trans (up_ne _ _ (by omega))).trans e_n_2
  replace a_n_3 : a10 (n + 3) = (a3 (n + 3)) := ((congrFun ha10 _).trans (up_ne _ _ (by omega))).trans a_n_3
  replace e_n_3 : c10 (n + 3) = .inl (g.2 0, 9, .inl (fun _ => zI 0)) := ((congrFun hc10 _).trans (up_ne _ _ (by omega))).trans e_n_3
  replace a_n_4 : a10 (n + 4) = (a3 (n + 4)) := ((congrFun ha10 _).trans (up_ne _ _ (by omega))).trans a_n_4
  replace e_n_4 : c10 (n + 4) = .inl (g.2 0, 9, .inl (fun _ => zI 0)) := ((congrFun hc10 _).trans (up_ne _ _ (by omega))).trans e_n_4
  replace a_n_5 : a10 (n + 5) = (a3 (n + 5)) := ((congrFun ha10 _).trans (up_ne _ _ (by omega))).trans a_n_5
  replace e_n_5 : c10 (n + 5) = .inl (g.2 0, 9, .inl (fun _ => zI 0)) := ((congrFun hc10 _).trans (up_ne _ _ (by omega))).trans e_n_5
  replace a_n_6 : a10 (n + 6) = (a3 (n + 6)) := ((congrFun ha10 _).trans (up_ne _ _ (by omega))).trans a_n_6
  replace e_n_6 : c10 (n + 6) = .inl (g.2 0, 9, .inl (fun _ => zI 0)) := ((congrFun hc10 _).trans (up_ne _ _ (by omega))).trans e_n_6
  replace a_n_7 : a10 (n + 7) = (a3 (n + 7)) := ((congrFun ha10 _).trans (up_ne _ _ (by omega))).trans a_n_7
  replace e_n_7 : c10 (n + 7) = .inl (g.2 0, 9, .inl (fun _ => zI 0)) := ((congrFun hc10 _).trans (up_ne _ _ (by omega))).trans e_n_7
  replace a_n_8 : a10 (n + 8) = (a5 (n + 8)) := ((congrFun ha10 _).trans (up_ne _ _ (by omega))).trans a_n_8
  replace e_n_8 : c10 (n + 8) = .inl (g.2 6, 3, .inr (.inr (.inr (.inr (fun i8 => some (a5 (n + 9 + i8))))))) := ((congrFun hc10 _).trans (up_ne _ _ (by omega))).trans e_n_8
  replace a_n_9 : a10 (n + 9) = (a5 (n + 9)) := ((congrFun ha10 _).trans (up_ne _ _ (by omega))).trans a_n_9
  replace e_n_9 : c10 (n + 9) = .inl (g.2 0, 2, .inl (fun _ => zI 0)) := ((congrFun hc10 _).trans (up_ne _ _ (by omega))).trans e_n_9
  replace a_n_10 : a10 (n + 10) = (a5 (n + 10)) := ((congrFun ha10 _).trans (up_ne _ _ (by omega))).trans a_n_10
  replace e_n_10 : c10 (n + 10) = .inl (g.2 0, 2, .inl (fun _ => zI 0)) := ((congrFun hc10 _).trans (up_ne _ _ (by omega))).trans e_n_10
  replace a_n_11 : a10 (n + 11) = (a5 (n + 11)) := ((congrFun ha10 _).trans (up_ne _ _ (by omega))).trans a_n_11
  replace e_n_11 : c10 (n + 11) = .inl (g.2 0, 2, .inl (fun _ => zI 0)) := ((congrFun hc10 _).trans (up_ne _ _ (by omega))).trans e_n_11
  replace a_n_12 : a10 (n + 12) = (a7 (n + 12)) := ((congrFun ha10 _).trans (up_ne _ _ (by omega))).trans a_n_12
  replace e_n_12 : c10 (n + 12) = .inl (g.2 6, 4, .inr (.inr (.inr (.inr (fun i8 => some (a7 (n + 13 + i8))))))) := ((congrFun hc10 _).trans (up_ne _ _ (by omega))).trans e_n_12
  replace a_n_13 : a10 (n + 13) = (a7 (n + 13)) := ((congrFun ha10 _).trans (up_ne _ _ (by omega))).trans a_n_13
  replace e_n_13 : c10 (n + 13) = .inl (g.2 0, 2, .inl (fun _ => zI 0)) := ((congrFun hc10 _).trans (up_ne _ _ (by omega))).trans e_n_13
  replace a_n_14 : a10 (n + 14) = (a7 (n + 14)) := ((congrFun ha10 _).trans (up_ne _ _ (by omega))).trans a_n_14
  replace e_n_14 : c10 (n + 14) = .inl (g.2 0, 2, .inl (fun _ => zI 0)) := ((congrFun hc10 _).trans (up_ne _ _ (by omega))).trans e_n_14
  replace a_n_15 : a10 (n + 15) = (a7 (n + 15)) := ((congrFun ha10 _).trans (up_ne _ _ (by omega))).trans a_n_15
  replace e_n_15 : c10 (n + 15) = .inl (g.2 0, 2, .inl (fun _ => zI 0)) := ((congrFun hc10 _).trans (up_ne _ _ (by omega))).trans e_n_15
  replace a_n_16 : a10 (n + 16) = (a7 (n + 16)) := ((congrFun ha10 _).trans (up_ne _ _ (by omega))).trans a_n_16
  replace e_n_16 : c10 (n + 16) = .inl (g.2 0, 2, .inl (fun _ => zI 0)) := ((congrFun hc10 _).trans (up_ne _ _ (by omega))).trans e_n_16
  have a_n_17 : a10 (n + 17) = q109 := (congrFun ha10 _).trans (up_at _ _ _)
  have e_n_17 : c10 (n + 17) = .inl (g.2 0, 4, .inl (fun _ => zI 0)) := (congrFun hc10 _).trans (up_at _ _ _)
  clear ha10 hc10
  refine n_putF (ci := 2) (v := .ref q109) (ty := .array .int) (C := RX2) (T := TX2) (N := 5) hx hb hts hinX2 tyX2 tyX2_ok nmX2 hown hK hP hD hS (x) (show x < n + 18 by omega) a_x e_x rfl 4 (by decide) k25 (fun _ h9 => h9) rfl hin9 rfl (by decide +kernel) rfl rfl (Nat.le_of_ble_eq_true rfl) dX2_init_49 (fun H locs hP hD hS => ?_)
  obtain ⟨c11, hc11⟩ : ∃ x9 : Nat → va_E, x9 = va_up c10 (x) (.inr (2, [.ref ((a1 (n))), .ref ((a3 (n + 2))), .ref ((a5 (n + 8))), .ref ((a7 (n + 12))), .ref q109])) := ⟨_, rfl⟩
  have hP : nP g (n + 18) a10 c11 H := by rw [hc11]; exact hP
  have hD : va_D A (nL (n + 18) a10 c11) := by rw [hc11]; exact hD
  replace hexc : ∀ j : Nat, j < n → ¬ j = x → c11 j = ce j := fun j hj9 q0 => ((congrFun hc11 j).trans (up_ne _ _ q0)).trans (hexc j hj9 q0)
  replace e_x : c11 (x) = .inr (2, [.ref ((a1 (n))), .ref ((a3 (n + 2))), .ref ((a5 (n + 8))), .ref ((a7 (n + 12))), .ref q109]) := (congrFun hc11 _).trans (up_at _ _ _)
  replace e_n : c11 (n) = .inl (g.2 6, 1, .inr (.inr (.inr (.inr (fun i8 => some (a1 (n + 1 + i8))))))) := ((congrFun hc11 _).trans (up_ne _ _ (by omega))).trans e_n
  replace e_n_1 : c11 (n + 1) = .inl (g.2 0, 4, .inl (fun _ => zI 0)) := ((congrFun hc11 _).trans (up_ne _ _ (by omega))).trans e_n_1
  replace e_n_2 : c11 (n + 2) = .inl (g.2 6, 5, .inr (.inr (.inr (.inr (fun i8 => some (a3 (n + 3 + i8))))))) := ((congrFun hc11 _).trans (up_ne _ _ (by omega))).trans e_n_2
  replace e_n_3 : c11 (n + 3) = .inl (g.2 0, 9, .inl (fun _ => zI 0)) := ((congrFun hc11 _).trans (up_ne _ _ (by omega))).trans e_n_3
  replace e_n_4 : c11 (n + 4) = .inl (g.2 0, 9, .inl (fun _ => zI 0)) := ((congrFun hc11 _).trans (up_ne _ _ (by omega))).trans e_n_4
  replace e_n_5 : c11 (n + 5) = .inl (g.2 0, 9, .inl (fun _ => zI 0)) := ((congrFun hc11 _).trans (up_ne _ _ (by omega))).trans e_n_5
  replace e_n_6 : c11 (n + 6) = .inl (g.2 0, 9, .inl (fun _ => zI 0)) := ((congrFun hc11 _).trans (up_ne _ _ (by omega))).trans e_n_6
  replace e_n_7 : c11 (n + 7) = .inl (g.2 0, 9, .inl (fun _ => zI 0)) := ((congrFun hc11 _).trans (up_ne _ _ (by omega))).trans e_n_7
  replace e_n_8 : c11 (n + 8) = .inl (g.2 6, 3, .inr (.inr (.inr (.inr (fun i8 => some (a5 (n + 9 + i8))))))) := ((congrFun hc11 _).trans (up_ne _ _ (by omega))).trans e_n_8
  replace e_n_9 : c11 (n + 9) = .inl (g.2 0, 2, .inl (fun _ => zI 0)) := ((congrFun hc11 _).trans (up_ne _ _ (by omega))).trans e_n_9
  replace e_n_10 : c11 (n + 10) = .inl (g.2 0, 2, .inl (fun _ => zI 0)) := ((congrFun hc11 _).trans (up_ne _ _ (by omega))).trans e_n_10
  replace e_n_11 : c11 (n + 11) = .inl (g.2 0, 2, .inl (fun _ => zI 0)) := ((congrFun hc11 _).trans (up_ne _ _ (by omega))).trans e_n_11
  replace e_n_12 : c11 (n + 12) = .inl (g.2 6, 4, .inr (.inr (.inr (.inr (fun i8 => some (a7 (n + 13 + i8))))))) := ((congrFun hc11 _).trans (up_ne _ _ (by omega))).trans e_n_12
  replace e_n_13 : c11 (n + 13) = .inl (g.2 0, 2, .inl (fun _ => zI 0)) := ((congrFun hc11 _).trans (up_ne _ _ (by omega))).trans e_n_13
  replace e_n_14 : c11 (n + 14) = .inl (g.2 0, 2, .inl (fun _ => zI 0)) := ((congrFun hc11 _).trans (up_ne _ _ (by omega))).trans e_n_14
  replace e_n_15 : c11 (n + 15) = .inl (g.2 0, 2, .inl (fun _ => zI 0)) := ((congrFun hc11 _).trans (up_ne _ _ (by omega))).trans e_n_15
  replace e_n_16 : c11 (n + 16) = .inl (g.2 0, 2, .inl (fun _ => zI 0)) := ((congrFun hc11 _).trans (up_ne _ _ (by omega))).trans e_n_16
  replace e_n_17 : c11 (n + 17) = .inl (g.2 0, 4, .inl (fun _ => zI 0)) := ((congrFun hc11 _).trans (up_ne _ _ (by omega))).trans e_n_17
  clear hc11
  refine lv_aload_n hx hb dX2_init_52 rfl (lv_at hl 0 rfl) ?_
  have hF9 := n_free hD hS hA
  have hS9 := hS
  refine va_callv (va_runV (As := []) (rest := []) ⟨hx, hb, hml, hown, hts⟩ (c_X2_clear_N l g (n + 18) (a10) (c11) (H.size) (x) (by omega) (h0) (a_x) (n) (by omega) ((a1 (n))) (a_n) (n + 17) (by omega) (q109) (a_n_17) (n + 1) (by omega) ((a1 (n + 1))) (a_n_1) (.ref ((a3 (n + 2)))) (.ref ((a5 (n + 8)))) (.ref ((a7 (n + 12)))) (fun i8 => some (a1 (n + 1 + i8))) (rfl) (fun _ => zI 0) (fun _ => zI 0) (by omega) (e_x) (e_n) (e_n_17) (e_n_1)) (cwV 0 hts gX2_init_X2_clear rfl rfl rfl (by decide +kernel) ⟨Nat.le_of_ble_eq_true rfl, Nat.le_of_ble_eq_true rfl⟩) (n_preV hP hD hK hN (va_recv hK (nb1 hP (show x < n + 18 by omega) a_x e_x) (q0 := 0) (ci := 2) rfl rfl)) rfl rfl hl.1 rfl (lv_room (Nat.le_of_ble_eq_true rfl)) dX2_init_53 ⟨Nat.le_of_ble_eq_true rfl, Nat.le_of_ble_eq_true rfl⟩) hS (fun q _ h => hF9 q h) hF9 (fun u9 t9 H1 locs ht9 hvm9 hw9 hB9 hz9 hk9 hS => ?_)
  obtain ⟨a12, c12⟩ := u9
  rw [ht9] at hB9
  clear hz9 hk9 hvm9 ht9 hF9
  try dsimp only at hw9 hB9
  obtain ⟨hq9, hu9, hp9_0, hp9_1⟩ := hw9
  have hD : va_D A (nL (n + 18) a12 c12) := n_joinD (n := n + 18) (m := 0) hD hS9 hA hq9
  clear hS9
  have hP : nP g (n + 18) a12 c12 H1 := hB9
  clear hB9
  generalize H1 = H at hP hS ⊢
  replace hexa : ∀ j : Nat, j < n → a12 j = ad j := fun j hj9 => (hq9.1 j (by omega)).trans (hexa j hj9)
  replace hexc : ∀ j : Nat, j < n → ¬ j = x → c12 j = ce j := fun j hj9 q0 => (hu9 j (by omega) (by omega) (by omega)).trans (hexc j hj9 q0)
  replace a_x : a12 (x) = h0 := (hq9.1 _ (by omega)).trans a_x
  replace e_x : c12 (x) = .inr (2, [.ref ((a1 (n))), .ref ((a3 (n + 2))), .ref ((a5 (n + 8))), .ref ((a7 (n + 12))), .ref q109]) := (hu9 _ (by omega) (by omega) (by omega)).trans e_x
  replace a_n : a12 (n) = (a1 (n)) := (hq9.1 _ (by omega)).trans a_n
  replace e_n : c12 (n) = .inl (g.2 6, 1, .inr (.inr (.inr (.inr (fun i8 => some (a1 (n + 1 + i8))))))) := (hu9 _ (by omega) (by omega) (by omega)).trans e_n
  replace a_n_1 : a12 (n + 1) = (a1 (n + 1)) := (hq9.1 _ (by omega)).trans a_n_1
  replace a_n_2 : a12 (n + 2) = (a3 (n + 2)) := (hq9.1 _ (by omega)).trans a_n_2
  replace e_n_2 : c12 (n + 2) = .inl (g.2 6, 5, .inr (.inr (.inr (.inr (fun i8 => some (a3 (n + 3 + i8))))))) := (hu9 _ (by omega) (by omega) (by omega)).trans e_n_2
  replace a_n_3 : a12 (n + 3) = (a3 (n + 3)) := (hq9.1 _ (by omega)).trans a_n_3
  replace e_n_3 : c12 (n + 3) = .inl (g.2 0, 9, .inl (fun _ => zI 0)) := (hu9 _ (by omega) (by omega) (by omega)).trans e_n_3
  replace a_n_4 : a12 (n + 4) = (a3 (n + 4)) := (hq9.1 _ (by omega)).trans a_n_4
  replace e_n_4 : c12 (n + 4) = .inl (g.2 0, 9, .inl (fun _ => zI 0)) := (hu9 _ (by omega) (by omega) (by omega)).trans e_n_4
  replace a_n_5 : a12 (n + 5) = (a3 (n + 5)) := (hq9.1 _ (by omega)).trans a_n_5
  replace e_n_5 : c12 (n + 5) = .inl (g.2 0, 9, .inl (fun _ => zI 0)) := (hu9 _ (by omega) (by omega) (by omega)).trans e_n_5
  replace a_n_6 : a12 (n + 6) = (a3 (n + 6)) := (hq9.1 _ (by omega)).trans a_n_6
  replace e_n_6 : c12 (n + 6) = .inl (g.2 0, 9, .inl (fun _ => zI 0)) := (hu9 _ (by omega) (by omega) (by omega)).trans e_n_6
  replace a_n_7 : a12 (n + 7) = (a3 (n + 7)) := (hq9.1 _ (by omega)).trans a_n_7
  replace e_n_7 : c12 (n + 7) = .inl (g.2 0, 9, .inl (fun _ => zI 0)) := (hu9 _ (by omega) (by omega) (by omega)).trans e_n_7
  replace a_n_8 : a12 (n + 8) = (a5 (n + 8)) := (hq9.1 _ (by omega)).trans a_n_8
  replace e_n_8 : c12 (n + 8) = .inl (g.2 6, 3, .inr (.inr (.inr (.inr (fun i8 => some (a5 (n + 9 + i8))))))) := (hu9 _ (by omega) (by omega) (by omega)).trans e_n_8
  replace a_n_9 : a12 (n + 9) = (a5 (n + 9)) := (hq9.1 _ (by omega)).trans a_n_9
  replace e_n_9 : c12 (n + 9) = .inl (g.2 0, 2, .inl (fun _ => zI 0)) := (hu9 _ (by omega) (by omega) (by omega)).trans e_n_9
  replace a_n_10 : a12 (n + 10) = (a5 (n + 10)) := (hq9.1 _ (by omega)).trans a_n_10
  replace e_n_10 : c12 (n + 10) = .inl (g.2 0, 2, .inl (fun _ => zI 0)) := (hu9 _ (by omega) (by omega) (by omega)).trans e_n_10
  replace a_n_11 : a12 (n + 11) = (a5 (n + 11)) := (hq9.1 _ (by omega)).trans a_n_11
  replace e_n_11 : c12 (n + 11) = .inl (g.2 0, 2, .inl (fun _ => zI 0)) := (hu9 _ (by omega) (by omega) (by omega)).trans e_n_11
  replace a_n_12 : a12 (n + 12) = (a7 (n + 12)) := (hq9.1 _ (by omega)).trans a_n_12
  replace e_n_12 : c12 (n + 12) = .inl (g.2 6, 4, .inr (.inr (.inr (.inr (fun i8 => some (a7 (n + 13 + i8))))))) := (hu9 _ (by omega) (by omega) (by omega)).trans e_n_12
  replace a_n_13 : a12 (n + 13) = (a7 (n + 13)) := (hq9.1 _ (by omega)).trans a_n_13
  replace e_n_13 : c12 (n + 13) = .inl (g.2 0, 2, .inl (fun _ => zI 0)) := (hu9 _ (by omega) (by omega) (by omega)).trans e_n_13
  replace a_n_14 : a12 (n + 14) = (a7 (n + 14)) := (hq9.1 _ (by omega)).trans a_n_14
  replace e_n_14 : c12 (n + 14) = .inl (g.2 0, 2, .inl (fun _ => zI 0)) := (hu9 _ (by omega) (by omega) (by omega)).trans e_n_14
  replace a_n_15 : a12 (n + 15) = (a7 (n + 15)) := (hq9.1 _ (by omega)).trans a_n_15
  replace e_n_15 : c12 (n + 15) = .inl (g.2 0, 2, .inl (fun _ => zI 0)) := (hu9 _ (by omega) (by omega) (by omega)).trans e_n_15
  replace a_n_16 : a12 (n + 16) = (a7 (n + 16)) := (hq9.1 _ (by omega)).trans a_n_16
  replace e_n_16 : c12 (n + 16) = .inl (g.2 0, 2, .inl (fun _ => zI 0)) := (hu9 _ (by omega) (by omega) (by omega)).trans e_n_16
  replace a_n_17 : a12 (n + 17) = q109 := (hq9.1 _ (by omega)).trans a_n_17
  have e_n_17 : c12 (n + 17) = .inl (g.2 0, 4, .inl (fillR (zI (0)) (fun _ => zI 0) 4)) := hp9_0
  have e_n_1 : c12 (n + 1) = .inl (g.2 0, 4, .inl (upd (fillR (zI (0)) (fun _ => zI 0) 4) 2 (zI (1)))) := hp9_1
  clear hq9 hu9 hp9_0 hp9_1
  have hP := nP_rf (i := n) (f := fun i8 => some (a12 (n + 1 + i8))) hP (by omega) e_n (fun j hj => by
    rcases (show j = 0 by omega) with rfl
    · exact congrArg some a_n_1.symm)
  obtain ⟨c13, hc13⟩ : ∃ x9 : Nat → va_E, x9 = va_up c12 (n) (.inl (g.2 6, 1, .inr (.inr (.inr (.inr (fun i8 => some (a12 (n + 1 + i8)))))))) := ⟨_, rfl⟩
  have hP : nP g (n + 18) a12 c13 H := by rw [hc13]; exact hP
  have hD : va_D A (nL (n + 18) a12 c13) := nDa (nD_of hD) (fun i hi => nA_of hD hi)
  replace hexc : ∀ j : Nat, j < n → ¬ j = x → c13 j = ce j := fun j hj9 q0 => ((congrFun hc13 j).trans (up_ne _ _ (by omega))).trans (hexc j hj9 q0)
  have e_x : c13 (x) = .inr (2, [.ref ((a1 (n))), .ref ((a3 (n + 2))), .ref ((a5 (n + 8))), .ref ((a7 (n + 12))), .ref q109]) := ((congrFun hc13 _).trans (up_ne _ _ (by omega))).trans e_x
  have e_n : c13 (n) = .inl (g.2 6, 1, .inr (.inr (.inr (.inr (fun i8 => some (a12 (n + 1 + i8))))))) := (congrFun hc13 _).trans (up_at _ _ _)
  have e_n_1 : c13 (n + 1) = .inl (g.2 0, 4, .inl (upd (fillR (zI (0)) (fun _ => zI 0) 4) 2 (zI (1)))) := ((congrFun hc13 _).trans (up_ne _ _ (by omega))).trans e_n_1
  have e_n_2 : c13 (n + 2) = .inl (g.2 6, 5, .inr (.inr (.inr (.inr (fun i8 => some (a3 (n + 3 + i8))))))) := ((congrFun hc13 _).trans (up_ne _ _ (by omega))).trans e_n_2
  have e_n_3 : c13 (n + 3) = .inl (g.2 0, 9, .inl (fun _ => zI 0)) := ((congrFun hc13 _).trans (up_ne _ _ (by omega))).trans e_n_3
  have e_n_4 : c13 (n + 4) = .inl (g.2 0, 9, .inl (fun _ => zI 0)) := ((congrFun hc13 _).trans (up_ne _ _ (by omega))).trans e_n_4
  have e_n_5 : c13 (n + 5) = .inl (g.2 0, 9, .inl (fun _ => zI 0)) := ((congrFun hc13 _).trans (up_ne _ _ (by omega))).trans e_n_5
  have e_n_6 : c13 (n + 6) = .inl (g.2 0, 9, .inl (fun _ => zI 0)) := ((congrFun hc13 _).trans (up_ne _ _ (by omega))).trans e_n_6
  have e_n_7 : c13 (n + 7) = .inl (g.2 0, 9, .inl (fun _ => zI 0)) := ((congrFun hc13 _).trans (up_ne _ _ (by omega))).trans e_n_7
  have e_n_8 : c13 (n + 8) = .inl (g.2 6, 3, .inr (.inr (.inr (.inr (fun i8 => some (a5 (n + 9 + i8))))))) := ((congrFun hc13 _).trans (up_ne _ _ (by omega))).trans e_n_8
  have e_n_9 : c13 (n + 9) = .inl (g.2 0, 2, .inl (fun _ => zI 0)) := ((congrFun hc13 _).trans (up_ne _ _ (by omega))).trans e_n_9
  have e_n_10 : c13 (n + 10) = .inl (g.2 0, 2, .inl (fun _ => zI 0)) := ((congrFun hc13 _).trans (up_ne _ _ (by omega))).trans e_n_10
  have e_n_11 : c13 (n + 11) = .inl (g.2 0, 2, .inl (fun _ => zI 0)) := ((congrFun hc13 _).trans (up_ne _ _ (by omega))).trans e_n_11
  have e_n_12 : c13 (n + 12) = .inl (g.2 6, 4, .inr (.inr (.inr (.inr (fun i8 => some (a7 (n + 13 + i8))))))) := ((congrFun hc13 _).trans (up_ne _ _ (by omega))).trans e_n_12
  have e_n_13 : c13 (n + 13) = .inl (g.2 0, 2, .inl (fun _ => zI 0)) := ((congrFun hc13 _).trans (up_ne _ _ (by omega))).trans e_n_13
  have e_n_14 : c13 (n + 14) = .inl (g.2 0, 2, .inl (fun _ => zI 0)) := ((congrFun hc13 _).trans (up_ne _ _ (by omega))).trans e_n_14
  have e_n_15 : c13 (n + 15) = .inl (g.2 0, 2, .inl (fun _ => zI 0)) := ((congrFun hc13 _).trans (up_ne _ _ (by omega))).trans e_n_15
  have e_n_16 : c13 (n + 16) = .inl (g.2 0, 2, .inl (fun _ => zI 0)) := ((congrFun hc13 _).trans (up_ne _ _ (by omega))).trans e_n_16
  have e_n_17 : c13 (n + 17) = .inl (g.2 0, 4, .inl (fillR (zI (0)) (fun _ => zI 0) 4)) := ((congrFun hc13 _).trans (up_ne _ _ (by omega))).trans e_n_17
  have hP := nP_rf (i := n + 2) (f := fun i8 => some (a12 (n + 3 + i8))) hP (by omega) e_n_2 (fun j hj => by
    rcases (show j = 0 ∨ j = 1 ∨ j = 2 ∨ j = 3 ∨ j = 4 by omega) with rfl | rfl | rfl | rfl | rfl
    · exact congrArg some a_n_3.symm
    · exact congrArg some a_n_4.symm
    · exact congrArg some a_n_5.symm
    · exact congrArg some a_n_6.symm
    · exact congrArg some a_n_7.symm)
  obtain ⟨c14, hc14⟩ : ∃ x9 : Nat → va_E, x9 = va_up c13 (n + 2) (.inl (g.2 6, 5, .inr (.inr (.inr (.inr (fun i8 => some (a12 (n + 3 + i8)))))))) := ⟨_, rfl⟩
  have hP : nP g (n + 18) a12 c14 H := by rw [hc14]; exact hP
  have hD : va_D A (nL (n + 18) a12 c14) := nDa (nD_of hD) (fun i hi => nA_of hD hi)
  replace hexc : ∀ j : Nat, j < n → ¬ j = x → c14 j = ce j := fun j hj9 q0 => ((congrFun hc14 j).trans (up_ne _ _ (by omega))).trans (hexc j hj9 q0)
  have e_x : c14 (x) = .inr (2, [.ref ((a1 (n))), .ref ((a3 (n + 2))), .ref ((a5 (n + 8))), .ref ((a7 (n + 12))), .ref q109]) := ((congrFun hc14 _).trans (up_ne _ _ (by omega))).trans e_x
  have e_n : c14 (n) = .inl (g.2 6, 1, .inr (.inr (.inr (.inr (fun i8 => some (a12 (n + 1 + i8))))))) := ((congrFun hc14 _).trans (up_ne _ _ (by omega))).trans e_n
  have e_n_1 : c14 (n + 1) = .inl (g.2 0, 4, .inl (upd (fillR (zI (0)) (fun _ => zI 0) 4) 2 (zI (1)))) := ((congrFun hc14 _).trans (up_ne _ _ (by omega))).trans e_n_1
  have e_n_2 : c14 (n + 2) = .inl (g.2 6, 5, .inr (.inr (.inr (.inr (fun i8 => some (a12 (n + 3 + i8))))))) := (congrFun hc14 _).trans (up_at _ _ _)
  have e_n_3 : c14 (n + 3) = .inl (g.2 0, 9, .inl (fun _ => zI 0)) := ((congrFun hc14 _).trans (up_ne _ _ (by omega))).trans e_n_3
  have e_n_4 : c14 (n + 4) = .inl (g.2 0, 9, .inl (fun _ => zI 0)) := ((congrFun hc14 _).trans (up_ne _ _ (by omega))).trans e_n_4
  have e_n_5 : c14 (n + 5) = .inl (g.2 0, 9, .inl (fun _ => zI 0)) := ((congrFun hc14 _).trans (up_ne _ _ (by omega))).trans e_n_5
  have e_n_6 : c14 (n + 6) = .inl (g.2 0, 9, .inl (fun _ => zI 0)) := ((congrFun hc14 _).trans (up_ne _ _ (by omega))).trans e_n_6
  have e_n_7 : c14 (n + 7) = .inl (g.2 0, 9, .inl (fun _ => zI 0)) := ((congrFun hc14 _).trans (up_ne _ _ (by omega))).trans e_n_7
  have e_n_8 : c14 (n + 8) = .inl (g.2 6, 3, .inr (.inr (.inr (.inr (fun i8 => some (a5 (n + 9 + i8))))))) := ((congrFun hc14 _).trans (up_ne _ _ (by omega))).trans e_n_8
  have e_n_9 : c14 (n + 9) = .inl (g.2 0, 2, .inl (fun _ => zI 0)) := ((congrFun hc14 _).trans (up_ne _ _ (by omega))).trans e_n_9
  have e_n_10 : c14 (n + 10) = .inl (g.2 0, 2, .inl (fun _ => zI 0)) := ((congrFun hc14 _).trans (up_ne _ _ (by omega))).trans e_n_10
  have e_n_11 : c14 (n + 11) = .inl (g.2 0, 2, .inl (fun _ => zI 0)) := ((congrFun hc14 _).trans (up_ne _ _ (by omega))).trans e_n_11
  have e_n_12 : c14 (n + 12) = .inl (g.2 6, 4, .inr (.inr (.inr (.inr (fun i8 => some (a7 (n + 13 + i8))))))) := ((congrFun hc14 _).trans (up_ne _ _ (by omega))).trans e_n_12
  have e_n_13 : c14 (n + 13) = .inl (g.2 0, 2, .inl (fun _ => zI 0)) := ((congrFun hc14 _).trans (up_ne _ _ (by omega))).trans e_n_13
  have e_n_14 : c14 (n + 14) = .inl (g.2 0, 2, .inl (fun _ => zI 0)) := ((congrFun hc14 _).trans (up_ne _ _ (by omega))).trans e_n_14
  have e_n_15 : c14 (n + 15) = .inl (g.2 0, 2, .inl (fun _ => zI 0)) := ((congrFun hc14 _).trans (up_ne _ _ (by omega))).trans e_n_15
  have e_n_16 : c14 (n + 16) = .inl (g.2 0, 2, .inl (fun _ => zI 0)) := ((congrFun hc14 _).trans (up_ne _ _ (by omega))).trans e_n_16
  have e_n_17 : c14 (n + 17) = .inl (g.2 0, 4, .inl (fillR (zI (0)) (fun _ => zI 0) 4)) := ((congrFun hc14 _).trans (up_ne _ _ (by omega))).trans e_n_17
  have hP := nP_rf (i := n + 8) (f := fun i8 => some (a12 (n + 9 + i8))) hP (by omega) e_n_8 (fun j hj => by
    rcases (show j = 0 ∨ j = 1 ∨ j = 2 by omega) with rfl | rfl | rfl
    · exact congrArg some a_n_9.symm
    · exact congrArg some a_n_10.symm
    · exact congrArg some a_n_11.symm)
  obtain ⟨c15, hc15⟩ : ∃ x9 : Nat → va_E, x9 = va_up c14 (n + 8) (.inl (g.2 6, 3, .inr (.inr (.inr (.inr (fun i8 => some (a12 (n + 9 + i8)))))))) := ⟨_, rfl⟩
  have hP : nP g (n + 18) a12 c15 H := by rw [hc15]; exact hP
  have hD : va_D A (nL (n + 18) a12 c15) := nDa (nD_of hD) (fun i hi => nA_of hD hi)
  replace hexc : ∀ j : Nat, j < n → ¬ j = x → c15 j = ce j := fun j hj9 q0 => ((congrFun hc15 j).trans (up_ne _ _ (by omega))).trans (hexc j hj9 q0)
  have e_x : c15 (x) = .inr (2, [.ref ((a1 (n))), .ref ((a3 (n + 2))), .ref ((a5 (n + 8))), .ref ((a7 (n + 12))), .ref q109]) := ((congrFun hc15 _).trans (up_ne _ _ (by omega))).trans e_x
  have e_n : c15 (n) = .inl (g.2 6, 1, .inr (.inr (.inr (.inr (fun i8 => some (a12 (n + 1 + i8))))))) := ((congrFun hc15 _).trans (up_ne _ _ (by omega))).trans e_n
  have e_n_1 : c15 (n + 1) = .inl (g.2 0, 4, .inl (upd (fillR (zI (0)) (fun _ => zI 0) 4) 2 (zI (1)))) := ((congrFun hc15 _).trans (up_ne _ _ (by omega))).trans e_n_1
  have e_n_2 : c15 (n + 2) = .inl (g.2 6, 5, .inr (.inr (.inr (.inr (fun i8 => some (a12 (n + 3 + i8))))))) := ((congrFun hc15 _).trans (up_ne _ _ (by omega))).trans e_n_2
  have e_n_3 : c15 (n + 3) = .inl (g.2 0, 9, .inl (fun _ => zI 0)) := ((congrFun hc15 _).trans (up_ne _ _ (by omega))).trans e_n_3
  have e_n_4 : c15 (n + 4) = .inl (g.2 0, 9, .inl (fun _ => zI 0)) := ((congrFun hc15 _).trans (up_ne _ _ (by omega))).trans e_n_4
  have e_n_5 : c15 (n + 5) = .inl (g.2 0, 9, .inl (fun _ => zI 0)) := ((congrFun hc15 _).trans (up_ne _ _ (by omega))).trans e_n_5
  have e_n_6 : c15 (n + 6) = .inl (g.2 0, 9, .inl (fun _ => zI 0)) := ((congrFun hc15 _).trans (up_ne _ _ (by omega))).trans e_n_6
  have e_n_7 : c15 (n + 7) = .inl (g.2 0, 9, .inl (fun _ => zI 0)) := ((congrFun hc15 _).trans (up_ne _ _ (by omega))).trans e_n_7
  have e_n_8 : c15 (n + 8) = .inl (g.2 6, 3, .inr (.inr (.inr (.inr (fun i8 => some (a12 (n + 9 + i8))))))) := (congrFun hc15 _).trans (up_at _ _ _)
  have e_n_9 : c15 (n + 9) = .inl (g.2 0, 2, .inl (fun _ => zI 0)) := ((congrFun hc15 _).trans (up_ne _ _ (by omega))).trans e_n_9
  have e_n_10 : c15 (n + 10) = .inl (g.2 0, 2, .inl (fun _ => zI 0)) := ((congrFun hc15 _).trans (up_ne _ _ (by omega))).trans e_n_10
  have e_n_11 : c15 (n + 11) = .inl (g.2 0, 2, .inl (fun _ => zI 0)) := ((congrFun hc15 _).trans (up_ne _ _ (by omega))).trans e_n_11
  have e_n_12 : c15 (n + 12) = .inl (g.2 6, 4, .inr (.inr (.inr (.inr (fun i8 => some (a7 (n + 13 + i8))))))) := ((congrFun hc15 _).trans (up_ne _ _ (by omega))).trans e_n_12
  have e_n_13 : c15 (n + 13) = .inl (g.2 0, 2, .inl (fun _ => zI 0)) := ((congrFun hc15 _).trans (up_ne _ _ (by omega))).trans e_n_13
  have e_n_14 : c15 (n + 14) = .inl (g.2 0, 2, .inl (fun _ => zI 0)) := ((congrFun hc15 _).trans (up_ne _ _ (by omega))).trans e_n_14
  have e_n_15 : c15 (n + 15) = .inl (g.2 0, 2, .inl (fun _ => zI 0)) := ((congrFun hc15 _).trans (up_ne _ _ (by omega))).trans e_n_15
  have e_n_16 : c15 (n + 16) = .inl (g.2 0, 2, .inl (fun _ => zI 0)) := ((congrFun hc15 _).trans (up_ne _ _ (by omega))).trans e_n_16
  have e_n_17 : c15 (n + 17) = .inl (g.2 0, 4, .inl (fillR (zI (0)) (fun _ => zI 0) 4)) := ((congrFun hc15 _).trans (up_ne _ _ (by omega))).trans e_n_17
  have hP := nP_rf (i := n + 12) (f := fun i8 => some (a12 (n + 13 + i8))) hP (by omega) e_n_12 (fun j hj => by
    rcases (show j = 0 ∨ j = 1 ∨ j = 2 ∨ j = 3 by omega) with rfl | rfl | rfl | rfl
    · exact congrArg some a_n_13.symm
    · exact congrArg some a_n_14.symm
    · exact congrArg some a_n_15.symm
    · exact congrArg some a_n_16.symm)
  obtain ⟨c16, hc16⟩ : ∃ x9 : Nat → va_E, x9 = va_up c15 (n + 12) (.inl (g.2 6, 4, .inr (.inr (.inr (.inr (fun i8 => some (a12 (n + 13 + i8)))))))) := ⟨_, rfl⟩
  have hP : nP g (n + 18) a12 c16 H := by rw [hc16]; exact hP
  have hD : va_D A (nL (n + 18) a12 c16) := nDa (nD_of hD) (fun i hi => nA_of hD hi)
  replace hexc : ∀ j : Nat, j < n → ¬ j = x → c16 j = ce j := fun j hj9 q0 => ((congrFun hc16 j).trans (up_ne _ _ (by omega))).trans (hexc j hj9 q0)
  have e_x : c16 (x) = .inr (2, [.ref ((a1 (n))), .ref ((a3 (n + 2))), .ref ((a5 (n + 8))), .ref ((a7 (n + 12))), .ref q109]) := ((congrFun hc16 _).trans (up_ne _ _ (by omega))).trans e_x
  have e_n : c16 (n) = .inl (g.2 6, 1, .inr (.inr (.inr (.inr (fun i8 => some (a12 (n + 1 + i8))))))) := ((congrFun hc16 _).trans (up_ne _ _ (by omega))).trans e_n
  have e_n_1 : c16 (n + 1) = .inl (g.2 0, 4, .inl (upd (fillR (zI (0)) (fun _ => zI 0) 4) 2 (zI (1)))) := ((congrFun hc16 _).trans (up_ne _ _ (by omega))).trans e_n_1
  have e_n_2 : c16 (n + 2) = .inl (g.2 6, 5, .inr (.inr (.inr (.inr (fun i8 => some (a12 (n + 3 + i8))))))) := ((congrFun hc16 _).trans (up_ne _ _ (by omega))).trans e_n_2
  have e_n_3 : c16 (n + 3) = .inl (g.2 0, 9, .inl (fun _ => zI 0)) := ((congrFun hc16 _).trans (up_ne _ _ (by omega))).trans e_n_3
  have e_n_4 : c16 (n + 4) = .inl (g.2 0, 9, .inl (fun _ => zI 0)) := ((congrFun hc16 _).trans (up_ne _ _ (by omega))).trans e_n_4
  have e_n_5 : c16 (n + 5) = .inl (g.2 0, 9, .inl (fun _ => zI 0)) := ((congrFun hc16 _).trans (up_ne _ _ (by omega))).trans e_n_5
  have e_n_6 : c16 (n + 6) = .inl (g.2 0, 9, .inl (fun _ => zI 0)) := ((congrFun hc16 _).trans (up_ne _ _ (by omega))).trans e_n_6
  have e_n_7 : c16 (n + 7) = .inl (g.2 0, 9, .inl (fun _ => zI 0)) := ((congrFun hc16 _).trans (up_ne _ _ (by omega))).trans e_n_7
  have e_n_8 : c16 (n + 8) = .inl (g.2 6, 3, .inr (.inr (.inr (.inr (fun i8 => some (a12 (n + 9 + i8))))))) := ((congrFun hc16 _).trans (up_ne _ _ (by omega))).trans e_n_8
  have e_n_9 : c16 (n + 9) = .inl (g.2 0, 2, .inl (fun _ => zI 0)) := ((congrFun hc16 _).trans (up_ne _ _ (by omega))).trans e_n_9
  have e_n_10 : c16 (n + 10) = .inl (g.2 0, 2, .inl (fun _ => zI 0)) := ((congrFun hc16 _).trans (up_ne _ _ (by omega))).trans e_n_10
  have e_n_11 : c16 (n + 11) = .inl (g.2 0, 2, .inl (fun _ => zI 0)) := ((congrFun hc16 _).trans (up_ne _ _ (by omega))).trans e_n_11
  have e_n_12 : c16 (n + 12) = .inl (g.2 6, 4, .inr (.inr (.inr (.inr (fun i8 => some (a12 (n + 13 + i8))))))) := (congrFun hc16 _).trans (up_at _ _ _)
  have e_n_13 : c16 (n + 13) = .inl (g.2 0, 2, .inl (fun _ => zI 0)) := ((congrFun hc16 _).trans (up_ne _ _ (by omega))).trans e_n_13
  have e_n_14 : c16 (n + 14) = .inl (g.2 0, 2, .inl (fun _ => zI 0)) := ((congrFun hc16 _).trans (up_ne _ _ (by omega))).trans e_n_14
  have e_n_15 : c16 (n + 15) = .inl (g.2 0, 2, .inl (fun _ => zI 0)) := ((congrFun hc16 _).trans (up_ne _ _ (by omega))).trans e_n_15
  have e_n_16 : c16 (n + 16) = .inl (g.2 0, 2, .inl (fun _ => zI 0)) := ((congrFun hc16 _).trans (up_ne _ _ (by omega))).trans e_n_16
  have e_n_17 : c16 (n + 17) = .inl (g.2 0, 4, .inl (fillR (zI (0)) (fun _ => zI 0) 4)) := ((congrFun hc16 _).trans (up_ne _ _ (by omega))).trans e_n_17
  have hQ9 := nQ_of (m := 18) hAe hD hexa
  exact W.vret hx hb hr (fun tX htX hWX => ⟨⟨(a12, c16), rfl, ⟨hQ9, fun j hj9 q0 => hexc j hj9 q0, e_x.trans (by dsimp only; rw [a_n, a_n_2, a_n_8, a_n_12, a_n_17]), e_n, e_n_1, e_n_2, e_n_3, e_n_4, e_n_5, e_n_6, e_n_7, e_n_8, e_n_9, e_n_10, e_n_11, e_n_12, e_n_13, e_n_14, e_n_15, e_n_16, e_n_17⟩, g_at htX hP⟩, hS.F htX⟩) hS.2.2 dX2_init_56
