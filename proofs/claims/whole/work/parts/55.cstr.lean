set_option maxHeartbeats 4000000 in
set_option maxRecDepth 100000 in
theorem c_J0_coder_7d493 (l : Launch) (g : GG) (ad : Nat → Nat) (hd9 : hD ad) (P : Nat → Nat) (M : Nat → Nat → Int32) (kk : KK) (i : Nat) (hi : i < 4) : Met l yJ0_coder_7d493 wsJ0_coder_7d493 ({ frames := 0, cells := 0, slots := 0, locals := 0 }) (gkPc g kk ad [.ref ((kk.2.1 i))] (cw g ad P M)) (va_Qi (fun (r : Int32) (u : Unit) => r = zI (0)) (fun (u : Unit) (tS : State) => cw g ad P M tS.heap) (hbA ad)) 0 0 (hbA ad) := by
  refine Met.ofW (cc := cJ0_coder_7d493) (maxL := 1) (ret := (some .byte)) (by decide) rfl ?_
  intro p e s m args below meth c s₁ B hml hv
  obtain ⟨rfl, hW, hK, hC⟩ := hv
  have hx := B.exec
  have hb := B.bytes
  have hr := B.returns
  have hts := atoms_spec (ws := wsJ0_coder_7d493) B.pre
  have hown : s.vm.findClass RJ0 = some m.cls := findClass_of_methodNamed B.named
  have hlocks := B.notSynchronized
  have k38 := hts (.fieldLink RJ0 38 "java/lang/String" "COMPACT_STRINGS" "Z") (by decide +kernel)
  have k15 := hts (.fieldLink RJ0 15 "java/lang/String" "coder" "B") (by decide +kernel)
  have hl := lv_entry ([.ref ((kk.2.1 i))]) (n := 1) (Nat.le_of_ble_eq_true rfl)
  rw [lg_entry_eq]
  generalize (lg_sl ([.ref ((kk.2.1 i))]) ++ List.replicate (1 - (lg_sl ([.ref ((kk.2.1 i))])).length) Slot.unset).toArray = ls at hl ⊢
  have hl : lv_has ls 1 [(0, .ref ((kk.2.1 i)))] := hl
  have hS : va_S (hbA ad) s.heap s.heap [] := va_S.rf
  obtain ⟨H, hH9⟩ : ∃ H, H = s.heap := ⟨_, rfl⟩
  obtain ⟨locs, hL9⟩ : ∃ x9l : List Loc, x9l = [] := ⟨_, rfl⟩
  have hW : cw g ad P M H := hH9 ▸ hW
  have hS : va_S (hbA ad) s.heap H locs := by rw [hH9, hL9]; exact hS
  refine z_start hH9 hL9 ?_
  clear hH9 hL9
  have hex : ∀ j : Nat, M j = M j := fun _ => rfl
  refine va_gets hx hb hC.2.2.2.2.1 hS hown k38 (fun _ h9 => h9) dJ0_coder_7d493_0 ?_
  refine z_top (y := zI 1) (by decide) ?_
  refine z_if_eq (tgt := 13) hx hb dJ0_coder_7d493_3 (by decide) (by omega) (fun h3 => ?_) (fun h3 => ?_)
  · exfalso; omega
  · refine lv_aload_n hx hb dJ0_coder_7d493_6 rfl (lv_at hl 0 rfl) ?_
    refine vk_getf hx hb (hC.2.2.2.1.1 i hi).2.1 hS hown k15 (fun _ h9 => h9) dJ0_coder_7d493_7 ?_
    refine z_top (y := zI 0) (by decide) ?_
    refine lv_goto (tgt := 14) hx hb dJ0_coder_7d493_10 (by decide) ?_
    have hW : cw g ad P M H := hW
    exact W.zret hx hb hr (by decide) (fun tX htX hWX => ⟨⟨_, (), rfl, rfl, g_at htX hW⟩, hS.F htX⟩) hS.2.2 dJ0_coder_7d493_14

set_option maxHeartbeats 4000000 in
set_option maxRecDepth 100000 in
theorem c_J0_length_8abf5 (l : Launch) (g : GG) (ad : Nat → Nat) (hd9 : hD ad) (P : Nat → Nat) (M : Nat → Nat → Int32) (kk : KK) (i : Nat) (hi : i < 4) : Met l yJ0_length_8abf5 wsJ0_length_8abf5 ({ frames := 1, cells := 0, slots := 0, locals := 20 }) (gkPc g kk ad [.ref ((kk.2.1 i))] (cw g ad P M)) (va_Qi (fun (r : Int32) (u : Unit) => r = zI (((woL.getD i 0 : Nat) : Int))) (fun (u : Unit) (tS : State) => cw g ad P M tS.heap) (hbA ad)) 0 0 (hbA ad) := by
  refine Met.ofW (cc := cJ0_length_8abf5) (maxL := 1) (ret := (some .int)) (by decide) rfl ?_
  intro p e s m args below meth c s₁ B hml hv
  obtain ⟨rfl, hW, hK, hC⟩ := hv
  have hx := B.exec
  have hb := B.bytes
  have hr := B.returns
  have hts := atoms_spec (ws := wsJ0_length_8abf5) B.pre
  have hown : s.vm.findClass RJ0 = some m.cls := findClass_of_methodNamed B.named
  have hlocks := B.notSynchronized
  have k9 := hts (.fieldLink RJ0 9 "java/lang/String" "value" "[B") (by decide +kernel)
  have hl := lv_entry ([.ref ((kk.2.1 i))]) (n := 1) (Nat.le_of_ble_eq_true rfl)
  rw [lg_entry_eq]
  generalize (lg_sl ([.ref ((kk.2.1 i))]) ++ List.replicate (1 - (lg_sl ([.ref ((kk.2.1 i))])).length) Slot.unset).toArray = ls at hl ⊢
  have hl : lv_has ls 1 [(0, .ref ((kk.2.1 i)))] := hl
  have hS : va_S (hbA ad) s.heap s.heap [] := va_S.rf
  obtain ⟨H, hH9⟩ : ∃ H, H = s.heap := ⟨_, rfl⟩
  obtain ⟨locs, hL9⟩ : ∃ x9l : List Loc, x9l = [] := ⟨_, rfl⟩
  have hW : cw g ad P M H := hH9 ▸ hW
  have hS : va_S (hbA ad) s.heap H locs := by rw [hH9, hL9]; exact hS
  refine z_start hH9 hL9 ?_
  clear hH9 hL9
  have hex : ∀ j : Nat, M j = M j := fun _ => rfl
  refine lv_aload_n hx hb dJ0_length_8abf5_0 rfl (lv_at hl 0 rfl) ?_
  refine vk_getf hx hb (hC.2.2.2.1.1 i hi).2.2.1 hS hown k9 (fun _ h9 => h9) dJ0_length_8abf5_1 ?_
  refine va_tlen hx hb (hC.2.2.2.1.1 i hi).2.2.2 hS (v := zI ((woL.getD i 0 : Nat))) (zI_nI _) dJ0_length_8abf5_4 ?_
  refine lv_aload_n hx hb dJ0_length_8abf5_5 rfl (lv_at hl 0 rfl) ?_
  refine va_calli (va_runV (As := []) (rest := [.int (zI (((woL.getD i 0 : Nat) : Int)))]) ⟨hx, hb, hml, hown, hts⟩ (c_J0_coder_7d493 l g (ad) (hd9) (P) (M) (kk) (i) (hi)) (cwV 0 hts gJ0_length_8abf5_J0_coder_7d493 rfl rfl rfl (by decide +kernel) ⟨Nat.le_of_ble_eq_true rfl, Nat.le_of_ble_eq_true rfl⟩) (gk_preV hW hK hC hS (vk_recv hC.2.2.2.1 hi hS)) rfl rfl hl.1 rfl (lv_room (Nat.le_of_ble_eq_true rfl)) dJ0_length_8abf5_6 ⟨Nat.le_of_ble_eq_true rfl, Nat.le_of_ble_eq_true rfl⟩) hS (fun q _ h => h) (fun q h => h) (fun r u0 t9 H1 locs ht9 hvm9 hw9 hB9 hz9 hk9 hS => ?_)
  rw [ht9] at hB9
  clear hz9 hk9 hvm9 ht9
  generalize H1 = H at hB9 hS ⊢
  have hW := hB9
  clear hB9
  have hW : cw g ad P M H := hW
  obtain rfl : r = zI (0) := hw9
  refine lv_ishr hx hb dJ0_length_8abf5_9 ?_
  have hW : cw g ad P M H := hW
  exact W.iret hx hb hr (fun tX htX hWX => ⟨⟨_, (), rfl, (woL_le i hi).2, g_at htX hW⟩, hS.F htX⟩) hS.2.2 dJ0_length_8abf5_10

set_option maxHeartbeats 4000000 in
set_option maxRecDepth 100000 in
theorem c_J0_isLatin1_aae02 (l : Launch) (g : GG) (ad : Nat → Nat) (hd9 : hD ad) (P : Nat → Nat) (M : Nat → Nat → Int32) (kk : KK) (i : Nat) (hi : i < 4) : Met l yJ0_isLatin1_aae02 wsJ0_isLatin1_aae02 ({ frames := 0, cells := 0, slots := 0, locals := 0 }) (gkPc g kk ad [.ref ((kk.2.1 i))] (cw g ad P M)) (va_Qi (fun (r : Int32) (u : Unit) => r = zI (1)) (fun (u : Unit) (tS : State) => cw g ad P M tS.heap) (hbA ad)) 0 0 (hbA ad) := by
  refine Met.ofW (cc := cJ0_isLatin1_aae02) (maxL := 1) (ret := (some .boolean)) (by decide) rfl ?_
  intro p e s m args below meth c s₁ B hml hv
  obtain ⟨rfl, hW, hK, hC⟩ := hv
  have hx := B.exec
  have hb := B.bytes
  have hr := B.returns
  have hts := atoms_spec (ws := wsJ0_isLatin1_aae02) B.pre
  have hown : s.vm.findClass RJ0 = some m.cls := findClass_of_methodNamed B.named
  have hlocks := B.notSynchronized
  have k38 := hts (.fieldLink RJ0 38 "java/lang/String" "COMPACT_STRINGS" "Z") (by decide +kernel)
  have k15 := hts (.fieldLink RJ0 15 "java/lang/String" "coder" "B") (by decide +kernel)
  have hl := lv_entry ([.ref ((kk.2.1 i))]) (n := 1) (Nat.le_of_ble_eq_true rfl)
  rw [lg_entry_eq]
  generalize (lg_sl ([.ref ((kk.2.1 i))]) ++ List.replicate (1 - (lg_sl ([.ref ((kk.2.1 i))])).length) Slot.unset).toArray = ls at hl ⊢
  have hl : lv_has ls 1 [(0, .ref ((kk.2.1 i)))] := hl
  have hS : va_S (hbA ad) s.heap s.heap [] := va_S.rf
  obtain ⟨H, hH9⟩ : ∃ H, H = s.heap := ⟨_, rfl⟩
  obtain ⟨locs, hL9⟩ : ∃ x9l : List Loc, x9l = [] := ⟨_, rfl⟩
  have hW : cw g ad P M H := hH9 ▸ hW
  have hS : va_S (hbA ad) s.heap H locs := by rw [hH9, hL9]; exact hS
  refine z_start hH9 hL9 ?_
  clear hH9 hL9
  have hex : ∀ j : Nat, M j = M j := fun _ => rfl
  refine va_gets hx hb hC.2.2.2.2.1 hS hown k38 (fun _ h9 => h9) dJ0_isLatin1_aae02_0 ?_
  refine z_top (y := zI 1) (by decide) ?_
  refine z_if_eq (tgt := 17) hx hb dJ0_isLatin1_aae02_3 (by decide) (by omega) (fun h3 => ?_) (fun h3 => ?_)
  · exfalso; omega
  · refine lv_aload_n hx hb dJ0_isLatin1_aae02_6 rfl (lv_at hl 0 rfl) ?_
    refine vk_getf hx hb (hC.2.2.2.1.1 i hi).2.1 hS hown k15 (fun _ h9 => h9) dJ0_isLatin1_aae02_7 ?_
    refine z_top (y := zI 0) (by decide) ?_
    refine z_if_ne (tgt := 17) hx hb dJ0_isLatin1_aae02_10 (by decide) (by omega) (fun h10 => ?_) (fun h10 => ?_)
    · exfalso; omega
    · refine lv_iconst (v := zI (1)) hx hb dJ0_isLatin1_aae02_13 (by decide) ?_
      refine lv_goto (tgt := 18) hx hb dJ0_isLatin1_aae02_14 (by decide) ?_
      have hW : cw g ad P M H := hW
      exact W.zret hx hb hr (by decide) (fun tX htX hWX => ⟨⟨_, (), rfl, rfl, g_at htX hW⟩, hS.F htX⟩) hS.2.2 dJ0_isLatin1_aae02_18

set_option maxHeartbeats 4000000 in
set_option maxRecDepth 100000 in
theorem c_J3_checkIndex_8e157_n (l : Launch) (x y : Int) (hxy : 0 ≤ x ∧ x < y) (hy9 : y < 2147483648) : Met l yJ3_checkIndex_8e157 wsJ3_checkIndex_8e157 ({ frames := 0, cells := 0, slots := 0, locals := 0 }) (va_Pc [.int (zI (x)), .int (zI (y)), .null] (fun _ => True)) (vp_Si (fun r : Int32 => r = zI (x))) 0 0 (fun _ => False) := by
  refine Met.ofW (cc := cJ3_checkIndex_8e157) (maxL := 3) (ret := (some .int)) (by decide) rfl ?_
  intro p e s m args below meth c s₁ B hml hv
  obtain ⟨rfl, -⟩ := hv
  have hx := B.exec
  have hb := B.bytes
  have hr := B.returns
  have hts := atoms_spec (ws := wsJ3_checkIndex_8e157) B.pre
  have hown : s.vm.findClass RJ3 = some m.cls := findClass_of_methodNamed B.named
  have hlocks := B.notSynchronized
  have hl := lv_entry ([.int (zI (x)), .int (zI (y)), .null]) (n := 3) (Nat.le_of_ble_eq_true rfl)
  rw [lg_entry_eq]
  generalize (lg_sl ([.int (zI (x)), .int (zI (y)), .null]) ++ List.replicate (3 - (lg_sl ([.int (zI (x)), .int (zI (y)), .null])).length) Slot.unset).toArray = ls at hl ⊢
  have hl : lv_has ls 3 [(0, .int (zI (x))), (1, .int (zI (y))), (2, .null)] := hl
  refine lv_iload_n hx hb dJ3_checkIndex_8e157_0 rfl (lv_at hl 0 rfl) ?_
  refine z_if_lt (tgt := 9) hx hb dJ3_checkIndex_8e157_1 (by decide) (by omega) (fun h1 => ?_) (fun h1 => ?_)
  · exfalso; omega
  · refine lv_iload_n hx hb dJ3_checkIndex_8e157_4 rfl (lv_at hl 0 rfl) ?_
    refine lv_iload_n hx hb dJ3_checkIndex_8e157_5 rfl (lv_at hl 1 rfl) ?_
    refine z_icmp_lt (tgt := 16) hx hb dJ3_checkIndex_8e157_6 (by decide) (by omega) (by omega) (fun h6 => ?_) (fun h6 => ?_)
    · refine lv_iload_n hx hb dJ3_checkIndex_8e157_16 rfl (lv_at hl 0 rfl) ?_
      exact W.iret hx hb hr (fun tX htX hWX => ⟨_, rfl, rfl, htX⟩) (fun _ h9 => by cases h9) dJ3_checkIndex_8e157_17
    · exfalso; omega

set_option maxHeartbeats 4000000 in
set_option maxRecDepth 100000 in
theorem c_J3_checkIndex_8e157_r (l : Launch) (x y : Int) (t9 : Nat) (hxy : 0 ≤ x ∧ x < y) (hy9 : y < 2147483648) : Met l yJ3_checkIndex_8e157 wsJ3_checkIndex_8e157 ({ frames := 0, cells := 0, slots := 0, locals := 0 }) (va_Pc [.int (zI (x)), .int (zI (y)), .ref t9] (fun _ => True)) (vp_Si (fun r : Int32 => r = zI (x))) 0 0 (fun _ => False) := by
  refine Met.ofW (cc := cJ3_checkIndex_8e157) (maxL := 3) (ret := (some .int)) (by decide) rfl ?_
  intro p e s m args below meth c s₁ B hml hv
  obtain ⟨rfl, -⟩ := hv
  have hx := B.exec
  have hb := B.bytes
  have hr := B.returns
  have hts := atoms_spec (ws := wsJ3_checkIndex_8e157) B.pre
  have hown : s.vm.findClass RJ3 = some m.cls := findClass_of_methodNamed B.named
  have hlocks := B.notSynchronized
  have hl := lv_entry ([.int (zI (x)), .int (zI (y)), .ref t9]) (n := 3) (Nat.le_of_ble_eq_true rfl)
  rw [lg_entry_eq]
  generalize (lg_sl ([.int (zI (x)), .int (zI (y)), .ref t9]) ++ List.replicate (3 - (lg_sl ([.int (zI (x)), .int (zI (y)), .ref t9])).length) Slot.unset).toArray = ls at hl ⊢
  have hl : lv_has ls 3 [(0, .int (zI (x))), (1, .int (zI (y))), (2, .ref t9)] := hl
  refine lv_iload_n hx hb dJ3_checkIndex_8e157_0 rfl (lv_at hl 0 rfl) ?_
  refine z_if_lt (tgt := 9) hx hb dJ3_checkIndex_8e157_1 (by decide) (by omega) (fun h1 => ?_) (fun h1 => ?_)
  · exfalso; omega
  · refine lv_iload_n hx hb dJ3_checkIndex_8e157_4 rfl (lv_at hl 0 rfl) ?_
    refine lv_iload_n hx hb dJ3_checkIndex_8e157_5 rfl (lv_at hl 1 rfl) ?_
    refine z_icmp_lt (tgt := 16) hx hb dJ3_checkIndex_8e157_6 (by decide) (by omega) (by omega) (fun h6 => ?_) (fun h6 => ?_)
    · refine lv_iload_n hx hb dJ3_checkIndex_8e157_16 rfl (lv_at hl 0 rfl) ?_
      exact W.iret hx hb hr (fun tX htX hWX => ⟨_, rfl, rfl, htX⟩) (fun _ h9 => by cases h9) dJ3_checkIndex_8e157_17
    · exfalso; omega

set_option maxHeartbeats 4000000 in
set_option maxRecDepth 100000 in
theorem c_J0_checkIndex_df160 (l : Launch) (g : GG) (ad : Nat → Nat) (hd9 : hD ad) (P : Nat → Nat) (M : Nat → Nat → Int32) (kk : KK) (x y : Int) (hxy : 0 ≤ x ∧ x < y) (hy9 : y < 2147483648) : Met l yJ0_checkIndex_df160 wsJ0_checkIndex_df160 ({ frames := 1, cells := 0, slots := 0, locals := 22 }) (gkPc g kk ad [.int (zI (x)), .int (zI (y))] (cw g ad P M)) (va_Qv (fun (u : Unit) => True) (fun (u : Unit) (tS : State) => cw g ad P M tS.heap) (hbA ad)) 0 0 (hbA ad) := by
  refine Met.ofW (cc := cJ0_checkIndex_df160) (maxL := 2) (ret := none) (by decide) rfl ?_
  intro p e s m args below meth c s₁ B hml hv
  obtain ⟨rfl, hW, hK, hC⟩ := hv
  have hx := B.exec
  have hb := B.bytes
  have hr := B.returns
  have hts := atoms_spec (ws := wsJ0_checkIndex_df160) B.pre
  have hown : s.vm.findClass RJ0 = some m.cls := findClass_of_methodNamed B.named
  have hlocks := B.notSynchronized
  have k1053 := hts (.fieldLink RJ0 1053 "jdk/internal/util/Preconditions" "SIOOBE_FORMATTER" "Ljava/util/function/BiFunction;") (by decide +kernel)
  have hl := lv_entry ([.int (zI (x)), .int (zI (y))]) (n := 2) (Nat.le_of_ble_eq_true rfl)
  rw [lg_entry_eq]
  generalize (lg_sl ([.int (zI (x)), .int (zI (y))]) ++ List.replicate (2 - (lg_sl ([.int (zI (x)), .int (zI (y))])).length) Slot.unset).toArray = ls at hl ⊢
  have hl : lv_has ls 2 [(0, .int (zI (x))), (1, .int (zI (y)))] := hl
  have hS : va_S (hbA ad) s.heap s.heap [] := va_S.rf
  obtain ⟨H, hH9⟩ : ∃ H, H = s.heap := ⟨_, rfl⟩
  obtain ⟨locs, hL9⟩ : ∃ x9l : List Loc, x9l = [] := ⟨_, rfl⟩
  have hW : cw g ad P M H := hH9 ▸ hW
  have hS : va_S (hbA ad) s.heap H locs := by rw [hH9, hL9]; exact hS
  refine z_start hH9 hL9 ?_
  clear hH9 hL9
  have hex : ∀ j : Nat, M j = M j := fun _ => rfl
  refine lv_iload_n hx hb dJ0_checkIndex_df160_0 rfl (lv_at hl 0 rfl) ?_
  refine lv_iload_n hx hb dJ0_checkIndex_df160_1 rfl (lv_at hl 1 rfl) ?_
  rcases hC.2.2.2.2.2 with hv9 | ⟨t9, hv9⟩
  · refine va_gets hx hb hv9 hS hown k1053 (fun _ h9 => h9) dJ0_checkIndex_df160_2 ?_
    refine vp_callSi (va_Run.run (va_runS (As := [.int (zI (x)), .int (zI (y)), .null]) (rest := []) ⟨hx, hb, hml, hown, hts⟩ (c_J3_checkIndex_8e157_n l (x) (y) (hxy) (hy9)) (va_cwS 3 hts gJ0_checkIndex_df160_J3_checkIndex_8e157 rfl rfl rfl (by decide +kernel) ⟨Nat.le_of_ble_eq_true rfl, Nat.le_of_ble_eq_true rfl⟩) g_preS0 rfl rfl hl.1 rfl (lv_room (Nat.le_of_ble_eq_true rfl)) dJ0_checkIndex_df160_5 ⟨Nat.le_of_ble_eq_true rfl, Nat.le_of_ble_eq_true rfl⟩)) (fun r hr9 => ?_)
    subst hr9
    refine lv_pop hx hb dJ0_checkIndex_df160_8 rfl ?_
    have hW : cw g ad P M H := hW
    exact W.vret hx hb hr (fun tX htX hWX => ⟨⟨(), rfl, trivial, g_at htX hW⟩, hS.F htX⟩) hS.2.2 dJ0_checkIndex_df160_9
  · refine va_gets hx hb hv9 hS hown k1053 (fun _ h9 => h9) dJ0_checkIndex_df160_2 ?_
    refine vp_callSi (va_Run.run (va_runS (As := [.int (zI (x)), .int (zI (y)), .ref t9]) (rest := []) ⟨hx, hb, hml, hown, hts⟩ (c_J3_checkIndex_8e157_r l (x) (y) (t9) (hxy) (hy9)) (va_cwS 3 hts gJ0_checkIndex_df160_J3_checkIndex_8e157 rfl rfl rfl (by decide +kernel) ⟨Nat.le_of_ble_eq_true rfl, Nat.le_of_ble_eq_true rfl⟩) g_preS0 rfl rfl hl.1 rfl (lv_room (Nat.le_of_ble_eq_true rfl)) dJ0_checkIndex_df160_5 ⟨Nat.le_of_ble_eq_true rfl, Nat.le_of_ble_eq_true rfl⟩)) (fun r hr9 => ?_)
    subst hr9
    refine lv_pop hx hb dJ0_checkIndex_df160_8 rfl ?_
    have hW : cw g ad P M H := hW
    exact W.vret hx hb hr (fun tX htX hWX => ⟨⟨(), rfl, trivial, g_at htX hW⟩, hS.F htX⟩) hS.2.2 dJ0_checkIndex_df160_9

set_option maxHeartbeats 4000000 in
set_option maxRecDepth 100000 in
theorem c_J1_charAt_3b067 (l : Launch) (g : GG) (ad : Nat → Nat) (hd9 : hD ad) (P : Nat → Nat) (M : Nat → Nat → Int32) (kk : KK) (i : Nat) (hi : i < 4) (k : Nat) (hk9 : k < woL.getD i 0) : Met l yJ1_charAt_3b067 wsJ1_charAt_3b067 ({ frames := 2, cells := 0, slots := 0, locals := 43 }) (gkPc g kk ad [.ref ((kk.2.2 i)), .int (zI (k))] (cw g ad P M)) (va_Qi (fun (r : Int32) (u : Unit) => r = zI (((wch i k : Nat) : Int))) (fun (u : Unit) (tS : State) => cw g ad P M tS.heap) (hbA ad)) 0 0 (hbA ad) := by
  refine Met.ofW (cc := cJ1_charAt_3b067) (maxL := 2) (ret := (some .char)) (by decide) rfl ?_
  intro p e s m args below meth c s₁ B hml hv
  obtain ⟨rfl, hW, hK, hC⟩ := hv
  have hx := B.exec
  have hb := B.bytes
  have hr := B.returns
  have hts := atoms_spec (ws := wsJ1_charAt_3b067) B.pre
  have hown : s.vm.findClass RJ1 = some m.cls := findClass_of_methodNamed B.named
  have hlocks := B.notSynchronized
  have hl := lv_entry ([.ref ((kk.2.2 i)), .int (zI (k))]) (n := 2) (Nat.le_of_ble_eq_true rfl)
  rw [lg_entry_eq]
  generalize (lg_sl ([.ref ((kk.2.2 i)), .int (zI (k))]) ++ List.replicate (2 - (lg_sl ([.ref ((kk.2.2 i)), .int (zI (k))])).length) Slot.unset).toArray = ls at hl ⊢
  have hl : lv_has ls 2 [(0, .ref ((kk.2.2 i))), (1, .int (zI (k)))] := hl
  have hS : va_S (hbA ad) s.heap s.heap [] := va_S.rf
  obtain ⟨H, hH9⟩ : ∃ H, H = s.heap := ⟨_, rfl⟩
  obtain ⟨locs, hL9⟩ : ∃ x9l : List Loc, x9l = [] := ⟨_, rfl⟩
  have hW : cw g ad P M H := hH9 ▸ hW
  have hS : va_S (hbA ad) s.heap H locs := by rw [hH9, hL9]; exact hS
  refine z_start hH9 hL9 ?_
  clear hH9 hL9
  have hex : ∀ j : Nat, M j = M j := fun _ => rfl
  refine lv_iload_n hx hb dJ1_charAt_3b067_0 rfl (lv_at hl 1 rfl) ?_
  refine lv_aload_n hx hb dJ1_charAt_3b067_1 rfl (lv_at hl 0 rfl) ?_
  refine va_tlen hx hb (hC.2.2.2.1.1 i hi).2.2.2 hS (v := zI ((woL.getD i 0 : Nat))) (zI_nI _) dJ1_charAt_3b067_2 ?_
  have hw6 := (woL_le i hi).1
  refine va_callv (va_runS (As := [.int (zI (k)), .int (zI (((woL.getD i 0 : Nat) : Int)))]) (rest := []) ⟨hx, hb, hml, hown, hts⟩ (c_J0_checkIndex_df160 l g (ad) (hd9) (P) (M) (kk) ((k : Int)) (((woL.getD i 0 : Nat) : Int)) (by omega) (by omega)) (va_cwS 2 hts gJ1_charAt_3b067_J0_checkIndex_df160 rfl rfl rfl (by decide +kernel) ⟨Nat.le_of_ble_eq_true rfl, Nat.le_of_ble_eq_true rfl⟩) (gk_preS hW hK hC hS) rfl rfl hl.1 rfl (lv_room (Nat.le_of_ble_eq_true rfl)) dJ1_charAt_3b067_3 ⟨Nat.le_of_ble_eq_true rfl, Nat.le_of_ble_eq_true rfl⟩) hS (fun q _ h => h) (fun q h => h) (fun u0 t9 H1 locs ht9 hvm9 hw9 hB9 hz9 hk9 hS => ?_)
  rw [ht9] at hB9
  clear hz9 hk9 hvm9 ht9
  generalize H1 = H at hB9 hS ⊢
  have hW := hB9
  clear hB9
  have hW : cw g ad P M H := hW
  refine lv_aload_n hx hb dJ1_charAt_3b067_6 rfl (lv_at hl 0 rfl) ?_
  refine lv_iload_n hx hb dJ1_charAt_3b067_7 rfl (lv_at hl 1 rfl) ?_
  refine va_tb hx hb (hC.2.2.2.1.1 i hi).2.2.2 hS (zI_in (n := k) hk9 (by have := (woL_le i hi).1; omega)) (v := .int ((woV.getD i []).getD k 0)) (by rw [zI_clamp (by have := (woL_le i hi).1; omega)]) dJ1_charAt_3b067_8 ?_
  refine lv_sipush (v := zI (255)) hx hb dJ1_charAt_3b067_9 (by decide) ?_
  refine lv_iand hx hb dJ1_charAt_3b067_12 ?_
  refine lv_i2c hx hb dJ1_charAt_3b067_13 rfl ?_
  refine z_top (y := zI (((wch i k : Nat) : Int))) ((wch_ok i hi k hk9).1) ?_
  have hW : cw g ad P M H := hW
  exact W.zret hx hb hr ((wch_ok i hi k hk9).2.1) (fun tX htX hWX => ⟨⟨_, (), rfl, rfl, g_at htX hW⟩, hS.F htX⟩) hS.2.2 dJ1_charAt_3b067_14

set_option maxHeartbeats 4000000 in
set_option maxRecDepth 100000 in
theorem c_J0_charAt_5068e (l : Launch) (g : GG) (ad : Nat → Nat) (hd9 : hD ad) (P : Nat → Nat) (M : Nat → Nat → Int32) (kk : KK) (i : Nat) (hi : i < 4) (k : Nat) (hk9 : k < woL.getD i 0) : Met l yJ0_charAt_5068e wsJ0_charAt_5068e ({ frames := 3, cells := 0, slots := 0, locals := 64 }) (gkPc g kk ad [.ref ((kk.2.1 i)), .int (zI (k))] (cw g ad P M)) (va_Qi (fun (r : Int32) (u : Unit) => r = zI (((wch i k : Nat) : Int))) (fun (u : Unit) (tS : State) => cw g ad P M tS.heap) (hbA ad)) 0 0 (hbA ad) := by
  refine Met.ofW (cc := cJ0_charAt_5068e) (maxL := 2) (ret := (some .char)) (by decide) rfl ?_
  intro p e s m args below meth c s₁ B hml hv
  obtain ⟨rfl, hW, hK, hC⟩ := hv
  have hx := B.exec
  have hb := B.bytes
  have hr := B.returns
  have hts := atoms_spec (ws := wsJ0_charAt_5068e) B.pre
  have hown : s.vm.findClass RJ0 = some m.cls := findClass_of_methodNamed B.named
  have hlocks := B.notSynchronized
  have k9 := hts (.fieldLink RJ0 9 "java/lang/String" "value" "[B") (by decide +kernel)
  have hl := lv_entry ([.ref ((kk.2.1 i)), .int (zI (k))]) (n := 2) (Nat.le_of_ble_eq_true rfl)
  rw [lg_entry_eq]
  generalize (lg_sl ([.ref ((kk.2.1 i)), .int (zI (k))]) ++ List.replicate (2 - (lg_sl ([.ref ((kk.2.1 i)), .int (zI (k))])).length) Slot.unset).toArray = ls at hl ⊢
  have hl : lv_has ls 2 [(0, .ref ((kk.2.1 i))), (1, .int (zI (k)))] := hl
  have hS : va_S (hbA ad) s.heap s.heap [] := va_S.rf
  obtain ⟨H, hH9⟩ : ∃ H, H = s.heap := ⟨_, rfl⟩
  obtain ⟨locs, hL9⟩ : ∃ x9l : List Loc, x9l = [] := ⟨_, rfl⟩
  have hW : cw g ad P M H := hH9 ▸ hW
  have hS : va_S (hbA ad) s.heap H locs := by rw [hH9, hL9]; exact hS
  refine z_start hH9 hL9 ?_
  clear hH9 hL9
  have hex : ∀ j : Nat, M j = M j := fun _ => rfl
  refine lv_aload_n hx hb dJ0_charAt_5068e_0 rfl (lv_at hl 0 rfl) ?_
  refine va_calli (va_runV (As := []) (rest := []) ⟨hx, hb, hml, hown, hts⟩ (c_J0_isLatin1_aae02 l g (ad) (hd9) (P) (M) (kk) (i) (hi)) (cwV 0 hts gJ0_charAt_5068e_J0_isLatin1_aae02 rfl rfl rfl (by decide +kernel) ⟨Nat.le_of_ble_eq_true rfl, Nat.le_of_ble_eq_true rfl⟩) (gk_preV hW hK hC hS (vk_recv hC.2.2.2.1 hi hS)) rfl rfl hl.1 rfl (lv_room (Nat.le_of_ble_eq_true rfl)) dJ0_charAt_5068e_1 ⟨Nat.le_of_ble_eq_true rfl, Nat.le_of_ble_eq_true rfl⟩) hS (fun q _ h => h) (fun q h => h) (fun r u0 t9 H1 locs ht9 hvm9 hw9 hB9 hz9 hk9 hS => ?_)
  rw [ht9] at hB9
  clear hz9 hk9 hvm9 ht9
  generalize H1 = H at hB9 hS ⊢
  have hW := hB9
  clear hB9
  have hW : cw g ad P M H := hW
  obtain rfl : r = zI (1) := hw9
  refine z_if_eq (tgt := 16) hx hb dJ0_charAt_5068e_4 (by decide) (by omega) (fun h4 => ?_) (fun h4 => ?_)
  · exfalso; omega
  · refine lv_aload_n hx hb dJ0_charAt_5068e_7 rfl (lv_at hl 0 rfl) ?_
    refine vk_getf hx hb (hC.2.2.2.1.1 i hi).2.2.1 hS hown k9 (fun _ h9 => h9) dJ0_charAt_5068e_8 ?_
    refine lv_iload_n hx hb dJ0_charAt_5068e_11 rfl (lv_at hl 1 rfl) ?_
    refine va_calli (va_runS (As := [.ref ((kk.2.2 i)), .int (zI (k))]) (rest := []) ⟨hx, hb, hml, hown, hts⟩ (c_J1_charAt_3b067 l g (ad) (hd9) (P) (M) (kk) (i) (hi) (k) (hk9)) (va_cwS 2 hts gJ0_charAt_5068e_J1_charAt_3b067 rfl rfl rfl (by decide +kernel) ⟨Nat.le_of_ble_eq_true rfl, Nat.le_of_ble_eq_true rfl⟩) (gk_preS hW hK hC hS) rfl rfl hl.1 rfl (lv_room (Nat.le_of_ble_eq_true rfl)) dJ0_charAt_5068e_12 ⟨Nat.le_of_ble_eq_true rfl, Nat.le_of_ble_eq_true rfl⟩) hS (fun q _ h => h) (fun q h => h) (fun r u1 t9 H1 locs ht9 hvm9 hw9 hB9 hz9 hk9 hS => ?_)
    rw [ht9] at hB9
    clear hz9 hk9 hvm9 ht9
    generalize H1 = H at hB9 hS ⊢
    have hW := hB9
    clear hB9
    have hW : cw g ad P M H := hW
    obtain rfl : r = zI (((wch i k : Nat) : Int)) := hw9
    have hW : cw g ad P M H := hW
    exact W.zret hx hb hr ((wch_ok i hi k hk9).2.1) (fun tX htX hWX => ⟨⟨_, (), rfl, rfl, g_at htX hW⟩, hS.F htX⟩) hS.2.2 dJ0_charAt_5068e_15
