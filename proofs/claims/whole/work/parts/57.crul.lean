set_option maxHeartbeats 4000000 in
set_option maxRecDepth 100000 in
theorem c_X2_wordOf_0 (l : Launch) (g : GG) (ad : Nat → Nat) (hd9 : hD ad) (P : Nat → Nat) (M : Nat → Nat → Int32) (kk : KK)  : Met l yX2_wordOf wsX2_wordOf ({ frames := 0, cells := 0, slots := 0, locals := 0 }) (gkPc g kk ad [.int (zI (0))] (cw g ad P M)) (va_Qr (fun (u : Unit) => True) (fun (u : Unit) (a9 : Nat) (tS : State) => a9 = (kk.2.1 0) ∧ cw g ad P M tS.heap) (hbA ad)) 0 0 (hbA ad) := by
  refine Met.ofW (cc := cX2_wordOf) (maxL := 1) (ret := (some (.object "java/lang/String"))) (by decide) rfl ?_
  intro p e s m args below meth c s₁ B hml hv
  obtain ⟨rfl, hW, hK, hC⟩ := hv
  have hx := B.exec
  have hb := B.bytes
  have hr := B.returns
  have hts := atoms_spec (ws := wsX2_wordOf) B.pre
  have hown : s.vm.findClass RX2 = some m.cls := findClass_of_methodNamed B.named
  have hlocks := B.notSynchronized
  have hl := lv_entry ([.int (zI (0))]) (n := 1) (Nat.le_of_ble_eq_true rfl)
  rw [lg_entry_eq]
  generalize (lg_sl ([.int (zI (0))]) ++ List.replicate (1 - (lg_sl ([.int (zI (0))])).length) Slot.unset).toArray = ls at hl ⊢
  have hl : lv_has ls 1 [(0, .int (zI (0)))] := hl
  have hS : va_S (hbA ad) s.heap s.heap [] := va_S.rf
  obtain ⟨H, hH9⟩ : ∃ H, H = s.heap := ⟨_, rfl⟩
  obtain ⟨locs, hL9⟩ : ∃ x9l : List Loc, x9l = [] := ⟨_, rfl⟩
  have hW : cw g ad P M H := hH9 ▸ hW
  have hS : va_S (hbA ad) s.heap H locs := by rw [hH9, hL9]; exact hS
  refine z_start hH9 hL9 ?_
  clear hH9 hL9
  have hex : ∀ j : Nat, M j = M j := fun _ => rfl
  refine lv_iload_n hx hb dX2_wordOf_0 rfl (lv_at hl 0 rfl) ?_
  refine lv_tableIn (off := 27) (tgt := 28) hx hb dX2_wordOf_1 (by decide) (by decide) (by decide) (by decide) ?_
  refine va_ldcS (tx := "bank") hx hb hown (hC.2.2.1 0 (by decide)) dX2_wordOf_28 ?_
  have hW : cw g ad P M H := hW
  exact W.aret hx hb hr (Or.inl ⟨_, rfl⟩) (Or.inr ⟨_, rfl⟩) (fun tX htX hWX => ⟨⟨(), _, rfl, trivial, rfl, g_at htX hW⟩, hS.F htX⟩) hS.2.2 dX2_wordOf_30

set_option maxHeartbeats 4000000 in
set_option maxRecDepth 100000 in
theorem c_X2_wordOf_1 (l : Launch) (g : GG) (ad : Nat → Nat) (hd9 : hD ad) (P : Nat → Nat) (M : Nat → Nat → Int32) (kk : KK)  : Met l yX2_wordOf wsX2_wordOf ({ frames := 0, cells := 0, slots := 0, locals := 0 }) (gkPc g kk ad [.int (zI (1))] (cw g ad P M)) (va_Qr (fun (u : Unit) => True) (fun (u : Unit) (a9 : Nat) (tS : State) => a9 = (kk.2.1 1) ∧ cw g ad P M tS.heap) (hbA ad)) 0 0 (hbA ad) := by
  refine Met.ofW (cc := cX2_wordOf) (maxL := 1) (ret := (some (.object "java/lang/String"))) (by decide) rfl ?_
  intro p e s m args below meth c s₁ B hml hv
  obtain ⟨rfl, hW, hK, hC⟩ := hv
  have hx := B.exec
  have hb := B.bytes
  have hr := B.returns
  have hts := atoms_spec (ws := wsX2_wordOf) B.pre
  have hown : s.vm.findClass RX2 = some m.cls := findClass_of_methodNamed B.named
  have hlocks := B.notSynchronized
  have hl := lv_entry ([.int (zI (1))]) (n := 1) (Nat.le_of_ble_eq_true rfl)
  rw [lg_entry_eq]
  generalize (lg_sl ([.int (zI (1))]) ++ List.replicate (1 - (lg_sl ([.int (zI (1))])).length) Slot.unset).toArray = ls at hl ⊢
  have hl : lv_has ls 1 [(0, .int (zI (1)))] := hl
  have hS : va_S (hbA ad) s.heap s.heap [] := va_S.rf
  obtain ⟨H, hH9⟩ : ∃ H, H = s.heap := ⟨_, rfl⟩
  obtain ⟨locs, hL9⟩ : ∃ x9l : List Loc, x9l = [] := ⟨_, rfl⟩
  have hW : cw g ad P M H := hH9 ▸ hW
  have hS : va_S (hbA ad) s.heap H locs := by rw [hH9, hL9]; exact hS
  refine z_start hH9 hL9 ?_
  clear hH9 hL9
  have hex : ∀ j : Nat, M j = M j := fun _ => rfl
  refine lv_iload_n hx hb dX2_wordOf_0 rfl (lv_at hl 0 rfl) ?_
  refine lv_tableIn (off := 30) (tgt := 31) hx hb dX2_wordOf_1 (by decide) (by decide) (by decide) (by decide) ?_
  refine va_ldcS (tx := "season") hx hb hown (hC.2.2.1 1 (by decide)) dX2_wordOf_31 ?_
  have hW : cw g ad P M H := hW
  exact W.aret hx hb hr (Or.inl ⟨_, rfl⟩) (Or.inr ⟨_, rfl⟩) (fun tX htX hWX => ⟨⟨(), _, rfl, trivial, rfl, g_at htX hW⟩, hS.F htX⟩) hS.2.2 dX2_wordOf_33

set_option maxHeartbeats 4000000 in
set_option maxRecDepth 100000 in
theorem c_X2_wordOf_2 (l : Launch) (g : GG) (ad : Nat → Nat) (hd9 : hD ad) (P : Nat → Nat) (M : Nat → Nat → Int32) (kk : KK)  : Met l yX2_wordOf wsX2_wordOf ({ frames := 0, cells := 0, slots := 0, locals := 0 }) (gkPc g kk ad [.int (zI (2))] (cw g ad P M)) (va_Qr (fun (u : Unit) => True) (fun (u : Unit) (a9 : Nat) (tS : State) => a9 = (kk.2.1 2) ∧ cw g ad P M tS.heap) (hbA ad)) 0 0 (hbA ad) := by
  refine Met.ofW (cc := cX2_wordOf) (maxL := 1) (ret := (some (.object "java/lang/String"))) (by decide) rfl ?_
  intro p e s m args below meth c s₁ B hml hv
  obtain ⟨rfl, hW, hK, hC⟩ := hv
  have hx := B.exec
  have hb := B.bytes
  have hr := B.returns
  have hts := atoms_spec (ws := wsX2_wordOf) B.pre
  have hown : s.vm.findClass RX2 = some m.cls := findClass_of_methodNamed B.named
  have hlocks := B.notSynchronized
  have hl := lv_entry ([.int (zI (2))]) (n := 1) (Nat.le_of_ble_eq_true rfl)
  rw [lg_entry_eq]
  generalize (lg_sl ([.int (zI (2))]) ++ List.replicate (1 - (lg_sl ([.int (zI (2))])).length) Slot.unset).toArray = ls at hl ⊢
  have hl : lv_has ls 1 [(0, .int (zI (2)))] := hl
  have hS : va_S (hbA ad) s.heap s.heap [] := va_S.rf
  obtain ⟨H, hH9⟩ : ∃ H, H = s.heap := ⟨_, rfl⟩
  obtain ⟨locs, hL9⟩ : ∃ x9l : List Loc, x9l = [] := ⟨_, rfl⟩
  have hW : cw g ad P M H := hH9 ▸ hW
  have hS : va_S (hbA ad) s.heap H locs := by rw [hH9, hL9]; exact hS
  refine z_start hH9 hL9 ?_
  clear hH9 hL9
  have hex : ∀ j : Nat, M j = M j := fun _ => rfl
  refine lv_iload_n hx hb dX2_wordOf_0 rfl (lv_at hl 0 rfl) ?_
  refine lv_tableIn (off := 33) (tgt := 34) hx hb dX2_wordOf_1 (by decide) (by decide) (by decide) (by decide) ?_
  refine va_ldcS (tx := "notice") hx hb hown (hC.2.2.1 2 (by decide)) dX2_wordOf_34 ?_
  have hW : cw g ad P M H := hW
  exact W.aret hx hb hr (Or.inl ⟨_, rfl⟩) (Or.inr ⟨_, rfl⟩) (fun tX htX hWX => ⟨⟨(), _, rfl, trivial, rfl, g_at htX hW⟩, hS.F htX⟩) hS.2.2 dX2_wordOf_36

set_option maxHeartbeats 4000000 in
set_option maxRecDepth 100000 in
theorem c_X2_wordOf_3 (l : Launch) (g : GG) (ad : Nat → Nat) (hd9 : hD ad) (P : Nat → Nat) (M : Nat → Nat → Int32) (kk : KK)  : Met l yX2_wordOf wsX2_wordOf ({ frames := 0, cells := 0, slots := 0, locals := 0 }) (gkPc g kk ad [.int (zI (3))] (cw g ad P M)) (va_Qr (fun (u : Unit) => True) (fun (u : Unit) (a9 : Nat) (tS : State) => a9 = (kk.2.1 3) ∧ cw g ad P M tS.heap) (hbA ad)) 0 0 (hbA ad) := by
  refine Met.ofW (cc := cX2_wordOf) (maxL := 1) (ret := (some (.object "java/lang/String"))) (by decide) rfl ?_
  intro p e s m args below meth c s₁ B hml hv
  obtain ⟨rfl, hW, hK, hC⟩ := hv
  have hx := B.exec
  have hb := B.bytes
  have hr := B.returns
  have hts := atoms_spec (ws := wsX2_wordOf) B.pre
  have hown : s.vm.findClass RX2 = some m.cls := findClass_of_methodNamed B.named
  have hlocks := B.notSynchronized
  have hl := lv_entry ([.int (zI (3))]) (n := 1) (Nat.le_of_ble_eq_true rfl)
  rw [lg_entry_eq]
  generalize (lg_sl ([.int (zI (3))]) ++ List.replicate (1 - (lg_sl ([.int (zI (3))])).length) Slot.unset).toArray = ls at hl ⊢
  have hl : lv_has ls 1 [(0, .int (zI (3)))] := hl
  have hS : va_S (hbA ad) s.heap s.heap [] := va_S.rf
  obtain ⟨H, hH9⟩ : ∃ H, H = s.heap := ⟨_, rfl⟩
  obtain ⟨locs, hL9⟩ : ∃ x9l : List Loc, x9l = [] := ⟨_, rfl⟩
  have hW : cw g ad P M H := hH9 ▸ hW
  have hS : va_S (hbA ad) s.heap H locs := by rw [hH9, hL9]; exact hS
  refine z_start hH9 hL9 ?_
  clear hH9 hL9
  have hex : ∀ j : Nat, M j = M j := fun _ => rfl
  refine lv_iload_n hx hb dX2_wordOf_0 rfl (lv_at hl 0 rfl) ?_
  refine lv_tableOut (tgt := 37) hx hb dX2_wordOf_1 (by decide) (by decide) ?_
  refine va_ldcS (tx := "worker") hx hb hown (hC.2.2.1 3 (by decide)) dX2_wordOf_37 ?_
  have hW : cw g ad P M H := hW
  exact W.aret hx hb hr (Or.inl ⟨_, rfl⟩) (Or.inr ⟨_, rfl⟩) (fun tX htX hWX => ⟨⟨(), _, rfl, trivial, rfl, g_at htX hW⟩, hS.F htX⟩) hS.2.2 dX2_wordOf_39

set_option maxHeartbeats 4000000 in
set_option maxRecDepth 100000 in
theorem c_X2_rowsOf_0 (l : Launch) (g : GG) (ad : Nat → Nat) (hd9 : hD ad) (P : Nat → Nat) (M : Nat → Nat → Int32) (b : Nat) (hb9 : b = 8 ∨ b = 27) : Met l yX2_rowsOf wsX2_rowsOf ({ frames := 0, cells := 0, slots := 0, locals := 0 }) (gPc g [.ref ((ad b)), .int (zI (0))] (cw g ad P M)) (va_Qr (fun (u : Unit) => True) (fun (u : Unit) (a9 : Nat) (tS : State) => a9 = (ad (b + 1)) ∧ cw g ad P M tS.heap) (hbA ad)) 0 0 (hbA ad) := by
  refine Met.ofW (cc := cX2_rowsOf) (maxL := 2) (ret := (some (.array (.array .int)))) (by decide) rfl ?_
  intro p e s m args below meth c s₁ B hml hv
  obtain ⟨rfl, hW, hK⟩ := hv
  have hx := B.exec
  have hb := B.bytes
  have hr := B.returns
  have hts := atoms_spec (ws := wsX2_rowsOf) B.pre
  have hown : s.vm.findClass RX2 = some m.cls := findClass_of_methodNamed B.named
  have hlocks := B.notSynchronized
  have hinX2 : ∀ w ∈ wsX20, w ∈ wsX2_rowsOf := by decide +kernel
  have k11 := hts (.fieldLink RX2 11 "HoursBank$Rules" "banks" "[[I") (by decide +kernel)
  have hl := lv_entry ([.ref ((ad b)), .int (zI (0))]) (n := 2) (Nat.le_of_ble_eq_true rfl)
  rw [lg_entry_eq]
  generalize (lg_sl ([.ref ((ad b)), .int (zI (0))]) ++ List.replicate (2 - (lg_sl ([.ref ((ad b)), .int (zI (0))])).length) Slot.unset).toArray = ls at hl ⊢
  have hl : lv_has ls 2 [(0, .ref ((ad b))), (1, .int (zI (0)))] := hl
  have hS : va_S (hbA ad) s.heap s.heap [] := va_S.rf
  obtain ⟨H, hH9⟩ : ∃ H, H = s.heap := ⟨_, rfl⟩
  obtain ⟨locs, hL9⟩ : ∃ x9l : List Loc, x9l = [] := ⟨_, rfl⟩
  have hW : cw g ad P M H := hH9 ▸ hW
  have hS : va_S (hbA ad) s.heap H locs := by rw [hH9, hL9]; exact hS
  refine z_start hH9 hL9 ?_
  clear hH9 hL9
  have hex : ∀ j : Nat, M j = M j := fun _ => rfl
  refine lv_iload_n hx hb dX2_rowsOf_0 rfl (lv_at hl 1 rfl) ?_
  refine lv_tableIn (off := 27) (tgt := 28) hx hb dX2_rowsOf_1 (by decide) (by decide) (by decide) (by decide) ?_
  refine lv_aload_n hx hb dX2_rowsOf_28 rfl (lv_at hl 0 rfl) ?_
  have r_b : M (b) = M (b) := hex (b) 
  refine va_get (D := g.1) (ci := 2) (v := .ref ((ad (b + 1)))) (C := RX2) (T := TX2) (N := 5) hx hb hts hinX2 hown hK (hb1 hW (show b < 126 by omega) (lcE r_b (sh_R0 hb9))) 0 rfl rfl 0 (by decide) k11 (fun _ h9 => h9) rfl dX2_rowsOf_29 ?_
  have hW : cw g ad P M H := hW
  exact W.aret hx hb hr (Or.inr ⟨_, rfl⟩) (Or.inr ⟨_, rfl⟩) (fun tX htX hWX => ⟨⟨(), _, rfl, trivial, rfl, g_at htX hW⟩, hS.F htX⟩) hS.2.2 dX2_rowsOf_32

set_option maxHeartbeats 4000000 in
set_option maxRecDepth 100000 in
theorem c_X2_rowsOf_1 (l : Launch) (g : GG) (ad : Nat → Nat) (hd9 : hD ad) (P : Nat → Nat) (M : Nat → Nat → Int32) (b : Nat) (hb9 : b = 8 ∨ b = 27) : Met l yX2_rowsOf wsX2_rowsOf ({ frames := 0, cells := 0, slots := 0, locals := 0 }) (gPc g [.ref ((ad b)), .int (zI (1))] (cw g ad P M)) (va_Qr (fun (u : Unit) => True) (fun (u : Unit) (a9 : Nat) (tS : State) => a9 = (ad (b + 3)) ∧ cw g ad P M tS.heap) (hbA ad)) 0 0 (hbA ad) := by
  refine Met.ofW (cc := cX2_rowsOf) (maxL := 2) (ret := (some (.array (.array .int)))) (by decide) rfl ?_
  intro p e s m args below meth c s₁ B hml hv
  obtain ⟨rfl, hW, hK⟩ := hv
  have hx := B.exec
  have hb := B.bytes
  have hr := B.returns
  have hts := atoms_spec (ws := wsX2_rowsOf) B.pre
  have hown : s.vm.findClass RX2 = some m.cls := findClass_of_methodNamed B.named
  have hlocks := B.notSynchronized
  have hinX2 : ∀ w ∈ wsX20, w ∈ wsX2_rowsOf := by decide +kernel
  have k16 := hts (.fieldLink RX2 16 "HoursBank$Rules" "seasons" "[[I") (by decide +kernel)
  have hl := lv_entry ([.ref ((ad b)), .int (zI (1))]) (n := 2) (Nat.le_of_ble_eq_true rfl)
  rw [lg_entry_eq]
  generalize (lg_sl ([.ref ((ad b)), .int (zI (1))]) ++ List.replicate (2 - (lg_sl ([.ref ((ad b)), .int (zI (1))])).length) Slot.unset).toArray = ls at hl ⊢
  have hl : lv_has ls 2 [(0, .ref ((ad b))), (1, .int (zI (1)))] := hl
  have hS : va_S (hbA ad) s.heap s.heap [] := va_S.rf
  obtain ⟨H, hH9⟩ : ∃ H, H = s.heap := ⟨_, rfl⟩
  obtain ⟨locs, hL9⟩ : ∃ x9l : List Loc, x9l = [] := ⟨_, rfl⟩
  have hW : cw g ad P M H := hH9 ▸ hW
  have hS : va_S (hbA ad) s.heap H locs := by rw [hH9, hL9]; exact hS
  refine z_start hH9 hL9 ?_
  clear hH9 hL9
  have hex : ∀ j : Nat, M j = M j := fun _ => rfl
  refine lv_iload_n hx hb dX2_rowsOf_0 rfl (lv_at hl 1 rfl) ?_
  refine lv_tableIn (off := 32) (tgt := 33) hx hb dX2_rowsOf_1 (by decide) (by decide) (by decide) (by decide) ?_
  refine lv_aload_n hx hb dX2_rowsOf_33 rfl (lv_at hl 0 rfl) ?_
  have r_b : M (b) = M (b) := hex (b) 
  refine va_get (D := g.1) (ci := 2) (v := .ref ((ad (b + 3)))) (C := RX2) (T := TX2) (N := 5) hx hb hts hinX2 hown hK (hb1 hW (show b < 126 by omega) (lcE r_b (sh_R0 hb9))) 0 rfl rfl 1 (by decide) k16 (fun _ h9 => h9) rfl dX2_rowsOf_34 ?_
  have hW : cw g ad P M H := hW
  exact W.aret hx hb hr (Or.inr ⟨_, rfl⟩) (Or.inr ⟨_, rfl⟩) (fun tX htX hWX => ⟨⟨(), _, rfl, trivial, rfl, g_at htX hW⟩, hS.F htX⟩) hS.2.2 dX2_rowsOf_37

set_option maxHeartbeats 4000000 in
set_option maxRecDepth 100000 in
theorem c_X2_rowsOf_2 (l : Launch) (g : GG) (ad : Nat → Nat) (hd9 : hD ad) (P : Nat → Nat) (M : Nat → Nat → Int32) (b : Nat) (hb9 : b = 8 ∨ b = 27) : Met l yX2_rowsOf wsX2_rowsOf ({ frames := 0, cells := 0, slots := 0, locals := 0 }) (gPc g [.ref ((ad b)), .int (zI (2))] (cw g ad P M)) (va_Qr (fun (u : Unit) => True) (fun (u : Unit) (a9 : Nat) (tS : State) => a9 = (ad (b + 9)) ∧ cw g ad P M tS.heap) (hbA ad)) 0 0 (hbA ad) := by
  refine Met.ofW (cc := cX2_rowsOf) (maxL := 2) (ret := (some (.array (.array .int)))) (by decide) rfl ?_
  intro p e s m args below meth c s₁ B hml hv
  obtain ⟨rfl, hW, hK⟩ := hv
  have hx := B.exec
  have hb := B.bytes
  have hr := B.returns
  have hts := atoms_spec (ws := wsX2_rowsOf) B.pre
  have hown : s.vm.findClass RX2 = some m.cls := findClass_of_methodNamed B.named
  have hlocks := B.notSynchronized
  have hinX2 : ∀ w ∈ wsX20, w ∈ wsX2_rowsOf := by decide +kernel
  have k19 := hts (.fieldLink RX2 19 "HoursBank$Rules" "notices" "[[I") (by decide +kernel)
  have hl := lv_entry ([.ref ((ad b)), .int (zI (2))]) (n := 2) (Nat.le_of_ble_eq_true rfl)
  rw [lg_entry_eq]
  generalize (lg_sl ([.ref ((ad b)), .int (zI (2))]) ++ List.replicate (2 - (lg_sl ([.ref ((ad b)), .int (zI (2))])).length) Slot.unset).toArray = ls at hl ⊢
  have hl : lv_has ls 2 [(0, .ref ((ad b))), (1, .int (zI (2)))] := hl
  have hS : va_S (hbA ad) s.heap s.heap [] := va_S.rf
  obtain ⟨H, hH9⟩ : ∃ H, H = s.heap := ⟨_, rfl⟩
  obtain ⟨locs, hL9⟩ : ∃ x9l : List Loc, x9l = [] := ⟨_, rfl⟩
  have hW : cw g ad P M H := hH9 ▸ hW
  have hS : va_S (hbA ad) s.heap H locs := by rw [hH9, hL9]; exact hS
  refine z_start hH9 hL9 ?_
  clear hH9 hL9
  have hex : ∀ j : Nat, M j = M j := fun _ => rfl
  refine lv_iload_n hx hb dX2_rowsOf_0 rfl (lv_at hl 1 rfl) ?_
  refine lv_tableIn (off := 37) (tgt := 38) hx hb dX2_rowsOf_1 (by decide) (by decide) (by decide) (by decide) ?_
  refine lv_aload_n hx hb dX2_rowsOf_38 rfl (lv_at hl 0 rfl) ?_
  have r_b : M (b) = M (b) := hex (b) 
  refine va_get (D := g.1) (ci := 2) (v := .ref ((ad (b + 9)))) (C := RX2) (T := TX2) (N := 5) hx hb hts hinX2 hown hK (hb1 hW (show b < 126 by omega) (lcE r_b (sh_R0 hb9))) 0 rfl rfl 2 (by decide) k19 (fun _ h9 => h9) rfl dX2_rowsOf_39 ?_
  have hW : cw g ad P M H := hW
  exact W.aret hx hb hr (Or.inr ⟨_, rfl⟩) (Or.inr ⟨_, rfl⟩) (fun tX htX hWX => ⟨⟨(), _, rfl, trivial, rfl, g_at htX hW⟩, hS.F htX⟩) hS.2.2 dX2_rowsOf_42

set_option maxHeartbeats 4000000 in
set_option maxRecDepth 100000 in
theorem c_X2_rowsOf_3 (l : Launch) (g : GG) (ad : Nat → Nat) (hd9 : hD ad) (P : Nat → Nat) (M : Nat → Nat → Int32) (b : Nat) (hb9 : b = 8 ∨ b = 27) : Met l yX2_rowsOf wsX2_rowsOf ({ frames := 0, cells := 0, slots := 0, locals := 0 }) (gPc g [.ref ((ad b)), .int (zI (3))] (cw g ad P M)) (va_Qr (fun (u : Unit) => True) (fun (u : Unit) (a9 : Nat) (tS : State) => a9 = (ad (b + 13)) ∧ cw g ad P M tS.heap) (hbA ad)) 0 0 (hbA ad) := by
  refine Met.ofW (cc := cX2_rowsOf) (maxL := 2) (ret := (some (.array (.array .int)))) (by decide) rfl ?_
  intro p e s m args below meth c s₁ B hml hv
  obtain ⟨rfl, hW, hK⟩ := hv
  have hx := B.exec
  have hb := B.bytes
  have hr := B.returns
  have hts := atoms_spec (ws := wsX2_rowsOf) B.pre
  have hown : s.vm.findClass RX2 = some m.cls := findClass_of_methodNamed B.named
  have hlocks := B.notSynchronized
  have hinX2 : ∀ w ∈ wsX20, w ∈ wsX2_rowsOf := by decide +kernel
  have k22 := hts (.fieldLink RX2 22 "HoursBank$Rules" "workers" "[[I") (by decide +kernel)
  have hl := lv_entry ([.ref ((ad b)), .int (zI (3))]) (n := 2) (Nat.le_of_ble_eq_true rfl)
  rw [lg_entry_eq]
  generalize (lg_sl ([.ref ((ad b)), .int (zI (3))]) ++ List.replicate (2 - (lg_sl ([.ref ((ad b)), .int (zI (3))])).length) Slot.unset).toArray = ls at hl ⊢
  have hl : lv_has ls 2 [(0, .ref ((ad b))), (1, .int (zI (3)))] := hl
  have hS : va_S (hbA ad) s.heap s.heap [] := va_S.rf
  obtain ⟨H, hH9⟩ : ∃ H, H = s.heap := ⟨_, rfl⟩
  obtain ⟨locs, hL9⟩ : ∃ x9l : List Loc, x9l = [] := ⟨_, rfl⟩
  have hW : cw g ad P M H := hH9 ▸ hW
  have hS : va_S (hbA ad) s.heap H locs := by rw [hH9, hL9]; exact hS
  refine z_start hH9 hL9 ?_
  clear hH9 hL9
  have hex : ∀ j : Nat, M j = M j := fun _ => rfl
  refine lv_iload_n hx hb dX2_rowsOf_0 rfl (lv_at hl 1 rfl) ?_
  refine lv_tableOut (tgt := 43) hx hb dX2_rowsOf_1 (by decide) (by decide) ?_
  refine lv_aload_n hx hb dX2_rowsOf_43 rfl (lv_at hl 0 rfl) ?_
  have r_b : M (b) = M (b) := hex (b) 
  refine va_get (D := g.1) (ci := 2) (v := .ref ((ad (b + 13)))) (C := RX2) (T := TX2) (N := 5) hx hb hts hinX2 hown hK (hb1 hW (show b < 126 by omega) (lcE r_b (sh_R0 hb9))) 0 rfl rfl 3 (by decide) k22 (fun _ h9 => h9) rfl dX2_rowsOf_44 ?_
  have hW : cw g ad P M H := hW
  exact W.aret hx hb hr (Or.inr ⟨_, rfl⟩) (Or.inr ⟨_, rfl⟩) (fun tX htX hWX => ⟨⟨(), _, rfl, trivial, rfl, g_at htX hW⟩, hS.F htX⟩) hS.2.2 dX2_rowsOf_47

set_option maxHeartbeats 4000000 in
set_option maxRecDepth 100000 in
theorem c_X2_leastOf_0 (l : Launch) (g : GG) (ad : Nat → Nat) (hd9 : hD ad) (P : Nat → Nat) (M : Nat → Nat → Int32) (kk : KK)  : Met l yX2_leastOf wsX2_leastOf ({ frames := 0, cells := 0, slots := 0, locals := 0 }) (gkPc g kk ad [.int (zI (0))] (cw g ad P M)) (va_Qr (fun (u : Unit) => True) (fun (u : Unit) (a9 : Nat) (tS : State) => a9 = (kk.1 0) ∧ cw g ad P M tS.heap) (hbA ad)) 0 0 (hbA ad) := by
  refine Met.ofW (cc := cX2_leastOf) (maxL := 1) (ret := (some (.array .int))) (by decide) rfl ?_
  intro p e s m args below meth c s₁ B hml hv
  obtain ⟨rfl, hW, hK, hC⟩ := hv
  have hx := B.exec
  have hb := B.bytes
  have hr := B.returns
  have hts := atoms_spec (ws := wsX2_leastOf) B.pre
  have hown : s.vm.findClass RX2 = some m.cls := findClass_of_methodNamed B.named
  have hlocks := B.notSynchronized
  have k46 := hts (.fieldLink RX2 46 "HoursBank$Rules" "BANK_LEAST" "[I") (by decide +kernel)
  have hl := lv_entry ([.int (zI (0))]) (n := 1) (Nat.le_of_ble_eq_true rfl)
  rw [lg_entry_eq]
  generalize (lg_sl ([.int (zI (0))]) ++ List.replicate (1 - (lg_sl ([.int (zI (0))])).length) Slot.unset).toArray = ls at hl ⊢
  have hl : lv_has ls 1 [(0, .int (zI (0)))] := hl
  have hS : va_S (hbA ad) s.heap s.heap [] := va_S.rf
  obtain ⟨H, hH9⟩ : ∃ H, H = s.heap := ⟨_, rfl⟩
  obtain ⟨locs, hL9⟩ : ∃ x9l : List Loc, x9l = [] := ⟨_, rfl⟩
  have hW : cw g ad P M H := hH9 ▸ hW
  have hS : va_S (hbA ad) s.heap H locs := by rw [hH9, hL9]; exact hS
  refine z_start hH9 hL9 ?_
  clear hH9 hL9
  have hex : ∀ j : Nat, M j = M j := fun _ => rfl
  refine lv_iload_n hx hb dX2_leastOf_0 rfl (lv_at hl 0 rfl) ?_
  refine lv_tableIn (off := 27) (tgt := 28) hx hb dX2_leastOf_1 (by decide) (by decide) (by decide) (by decide) ?_
  refine va_gets (C := RX2) (n := "BANK_LEAST") (d := "[I") (v := .ref (kk.1 0)) hx hb (hC.2.1 0 (by decide)).1 hS hown k46 (fun _ h9 => h9) dX2_leastOf_28 ?_
  have hW : cw g ad P M H := hW
  exact W.aret hx hb hr (Or.inr ⟨_, rfl⟩) (Or.inr ⟨_, rfl⟩) (fun tX htX hWX => ⟨⟨(), _, rfl, trivial, rfl, g_at htX hW⟩, hS.F htX⟩) hS.2.2 dX2_leastOf_31

set_option maxHeartbeats 4000000 in
set_option maxRecDepth 100000 in
theorem c_X2_leastOf_1 (l : Launch) (g : GG) (ad : Nat → Nat) (hd9 : hD ad) (P : Nat → Nat) (M : Nat → Nat → Int32) (kk : KK)  : Met l yX2_leastOf wsX2_leastOf ({ frames := 0, cells := 0, slots := 0, locals := 0 }) (gkPc g kk ad [.int (zI (1))] (cw g ad P M)) (va_Qr (fun (u : Unit) => True) (fun (u : Unit) (a9 : Nat) (tS : State) => a9 = (kk.1 1) ∧ cw g ad P M tS.heap) (hbA ad)) 0 0 (hbA ad) := by
  refine Met.ofW (cc := cX2_leastOf) (maxL := 1) (ret := (some (.array .int))) (by decide) rfl ?_
  intro p e s m args below meth c s₁ B hml hv
  obtain ⟨rfl, hW, hK, hC⟩ := hv
  have hx := B.exec
  have hb := B.bytes
  have hr := B.returns
  have hts := atoms_spec (ws := wsX2_leastOf) B.pre
  have hown : s.vm.findClass RX2 = some m.cls := findClass_of_methodNamed B.named
  have hlocks := B.notSynchronized
  have k49 := hts (.fieldLink RX2 49 "HoursBank$Rules" "SEASON_LEAST" "[I") (by decide +kernel)
  have hl := lv_entry ([.int (zI (1))]) (n := 1) (Nat.le_of_ble_eq_true rfl)
  rw [lg_entry_eq]
  generalize (lg_sl ([.int (zI (1))]) ++ List.replicate (1 - (lg_sl ([.int (zI (1))])).length) Slot.unset).toArray = ls at hl ⊢
  have hl : lv_has ls 1 [(0, .int (zI (1)))] := hl
  have hS : va_S (hbA ad) s.heap s.heap [] := va_S.rf
  obtain ⟨H, hH9⟩ : ∃ H, H = s.heap := ⟨_, rfl⟩
  obtain ⟨locs, hL9⟩ : ∃ x9l : List Loc, x9l = [] := ⟨_, rfl⟩
  have hW : cw g ad P M H := hH9 ▸ hW
  have hS : va_S (hbA ad) s.heap H locs := by rw [hH9, hL9]; exact hS
  refine z_start hH9 hL9 ?_
  clear hH9 hL9
  have hex : ∀ j : Nat, M j = M j := fun _ => rfl
  refine lv_iload_n hx hb dX2_leastOf_0 rfl (lv_at hl 0 rfl) ?_
  refine lv_tableIn (off := 31) (tgt := 32) hx hb dX2_leastOf_1 (by decide) (by decide) (by decide) (by decide) ?_
  refine va_gets (C := RX2) (n := "SEASON_LEAST") (d := "[I") (v := .ref (kk.1 1)) hx hb (hC.2.1 1 (by decide)).1 hS hown k49 (fun _ h9 => h9) dX2_leastOf_32 ?_
  have hW : cw g ad P M H := hW
  exact W.aret hx hb hr (Or.inr ⟨_, rfl⟩) (Or.inr ⟨_, rfl⟩) (fun tX htX hWX => ⟨⟨(), _, rfl, trivial, rfl, g_at htX hW⟩, hS.F htX⟩) hS.2.2 dX2_leastOf_35

set_option maxHeartbeats 4000000 in
set_option maxRecDepth 100000 in
theorem c_X2_leastOf_2 (l : Launch) (g : GG) (ad : Nat → Nat) (hd9 : hD ad) (P : Nat → Nat) (M : Nat → Nat → Int32) (kk : KK)  : Met l yX2_leastOf wsX2_leastOf ({ frames := 0, cells := 0, slots := 0, locals := 0 }) (gkPc g kk ad [.int (zI (2))] (cw g ad P M)) (va_Qr (fun (u : Unit) => True) (fun (u : Unit) (a9 : Nat) (tS : State) => a9 = (kk.1 2) ∧ cw g ad P M tS.heap) (hbA ad)) 0 0 (hbA ad) := by
  refine Met.ofW (cc := cX2_leastOf) (maxL := 1) (ret := (some (.array .int))) (by decide) rfl ?_
  intro p e s m args below meth c s₁ B hml hv
  obtain ⟨rfl, hW, hK, hC⟩ := hv
  have hx := B.exec
  have hb := B.bytes
  have hr := B.returns
  have hts := atoms_spec (ws := wsX2_leastOf) B.pre
  have hown : s.vm.findClass RX2 = some m.cls := findClass_of_methodNamed B.named
  have hlocks := B.notSynchronized
  have k52 := hts (.fieldLink RX2 52 "HoursBank$Rules" "NOTICE_LEAST" "[I") (by decide +kernel)
  have hl := lv_entry ([.int (zI (2))]) (n := 1) (Nat.le_of_ble_eq_true rfl)
  rw [lg_entry_eq]
  generalize (lg_sl ([.int (zI (2))]) ++ List.replicate (1 - (lg_sl ([.int (zI (2))])).length) Slot.unset).toArray = ls at hl ⊢
  have hl : lv_has ls 1 [(0, .int (zI (2)))] := hl
  have hS : va_S (hbA ad) s.heap s.heap [] := va_S.rf
  obtain ⟨H, hH9⟩ : ∃ H, H = s.heap := ⟨_, rfl⟩
  obtain ⟨locs, hL9⟩ : ∃ x9l : List Loc, x9l = [] := ⟨_, rfl⟩
  have hW : cw g ad P M H := hH9 ▸ hW
  have hS : va_S (hbA ad) s.heap H locs := by rw [hH9, hL9]; exact hS
  refine z_start hH9 hL9 ?_
  clear hH9 hL9
  have hex : ∀ j : Nat, M j = M j := fun _ => rfl
  refine lv_iload_n hx hb dX2_leastOf_0 rfl (lv_at hl 0 rfl) ?_
  refine lv_tableIn (off := 35) (tgt := 36) hx hb dX2_leastOf_1 (by decide) (by decide) (by decide) (by decide) ?_
  refine va_gets (C := RX2) (n := "NOTICE_LEAST") (d := "[I") (v := .ref (kk.1 2)) hx hb (hC.2.1 2 (by decide)).1 hS hown k52 (fun _ h9 => h9) dX2_leastOf_36 ?_
  have hW : cw g ad P M H := hW
  exact W.aret hx hb hr (Or.inr ⟨_, rfl⟩) (Or.inr ⟨_, rfl⟩) (fun tX htX hWX => ⟨⟨(), _, rfl, trivial, rfl, g_at htX hW⟩, hS.F htX⟩) hS.2.2 dX2_leastOf_39

set_option maxHeartbeats 4000000 in
set_option maxRecDepth 100000 in
theorem c_X2_leastOf_3 (l : Launch) (g : GG) (ad : Nat → Nat) (hd9 : hD ad) (P : Nat → Nat) (M : Nat → Nat → Int32) (kk : KK)  : Met l yX2_leastOf wsX2_leastOf ({ frames := 0, cells := 0, slots := 0, locals := 0 }) (gkPc g kk ad [.int (zI (3))] (cw g ad P M)) (va_Qr (fun (u : Unit) => True) (fun (u : Unit) (a9 : Nat) (tS : State) => a9 = (kk.1 3) ∧ cw g ad P M tS.heap) (hbA ad)) 0 0 (hbA ad) := by
  refine Met.ofW (cc := cX2_leastOf) (maxL := 1) (ret := (some (.array .int))) (by decide) rfl ?_
  intro p e s m args below meth c s₁ B hml hv
  obtain ⟨rfl, hW, hK, hC⟩ := hv
  have hx := B.exec
  have hb := B.bytes
  have hr := B.returns
  have hts := atoms_spec (ws := wsX2_leastOf) B.pre
  have hown : s.vm.findClass RX2 = some m.cls := findClass_of_methodNamed B.named
  have hlocks := B.notSynchronized
  have k55 := hts (.fieldLink RX2 55 "HoursBank$Rules" "WORKER_LEAST" "[I") (by decide +kernel)
  have hl := lv_entry ([.int (zI (3))]) (n := 1) (Nat.le_of_ble_eq_true rfl)
  rw [lg_entry_eq]
  generalize (lg_sl ([.int (zI (3))]) ++ List.replicate (1 - (lg_sl ([.int (zI (3))])).length) Slot.unset).toArray = ls at hl ⊢
  have hl : lv_has ls 1 [(0, .int (zI (3)))] := hl
  have hS : va_S (hbA ad) s.heap s.heap [] := va_S.rf
  obtain ⟨H, hH9⟩ : ∃ H, H = s.heap := ⟨_, rfl⟩
  obtain ⟨locs, hL9⟩ : ∃ x9l : List Loc, x9l = [] := ⟨_, rfl⟩
  have hW : cw g ad P M H := hH9 ▸ hW
  have hS : va_S (hbA ad) s.heap H locs := by rw [hH9, hL9]; exact hS
  refine z_start hH9 hL9 ?_
  clear hH9 hL9
  have hex : ∀ j : Nat, M j = M j := fun _ => rfl
  refine lv_iload_n hx hb dX2_leastOf_0 rfl (lv_at hl 0 rfl) ?_
  refine lv_tableOut (tgt := 40) hx hb dX2_leastOf_1 (by decide) (by decide) ?_
  refine va_gets (C := RX2) (n := "WORKER_LEAST") (d := "[I") (v := .ref (kk.1 3)) hx hb (hC.2.1 3 (by decide)).1 hS hown k55 (fun _ h9 => h9) dX2_leastOf_40 ?_
  have hW : cw g ad P M H := hW
  exact W.aret hx hb hr (Or.inr ⟨_, rfl⟩) (Or.inr ⟨_, rfl⟩) (fun tX htX hWX => ⟨⟨(), _, rfl, trivial, rfl, g_at htX hW⟩, hS.F htX⟩) hS.2.2 dX2_leastOf_43

set_option maxHeartbeats 4000000 in
set_option maxRecDepth 100000 in
theorem c_X2_mostOf_0 (l : Launch) (g : GG) (ad : Nat → Nat) (hd9 : hD ad) (P : Nat → Nat) (M : Nat → Nat → Int32) (kk : KK)  : Met l yX2_mostOf wsX2_mostOf ({ frames := 0, cells := 0, slots := 0, locals := 0 }) (gkPc g kk ad [.int (zI (0))] (cw g ad P M)) (va_Qr (fun (u : Unit) => True) (fun (u : Unit) (a9 : Nat) (tS : State) => a9 = (kk.1 4) ∧ cw g ad P M tS.heap) (hbA ad)) 0 0 (hbA ad) := by
  refine Met.ofW (cc := cX2_mostOf) (maxL := 1) (ret := (some (.array .int))) (by decide) rfl ?_
  intro p e s m args below meth c s₁ B hml hv
  obtain ⟨rfl, hW, hK, hC⟩ := hv
  have hx := B.exec
  have hb := B.bytes
  have hr := B.returns
  have hts := atoms_spec (ws := wsX2_mostOf) B.pre
  have hown : s.vm.findClass RX2 = some m.cls := findClass_of_methodNamed B.named
  have hlocks := B.notSynchronized
  have k58 := hts (.fieldLink RX2 58 "HoursBank$Rules" "BANK_MOST" "[I") (by decide +kernel)
  have hl := lv_entry ([.int (zI (0))]) (n := 1) (Nat.le_of_ble_eq_true rfl)
  rw [lg_entry_eq]
  generalize (lg_sl ([.int (zI (0))]) ++ List.replicate (1 - (lg_sl ([.int (zI (0))])).length) Slot.unset).toArray = ls at hl ⊢
  have hl : lv_has ls 1 [(0, .int (zI (0)))] := hl
  have hS : va_S (hbA ad) s.heap s.heap [] := va_S.rf
  obtain ⟨H, hH9⟩ : ∃ H, H = s.heap := ⟨_, rfl⟩
  obtain ⟨locs, hL9⟩ : ∃ x9l : List Loc, x9l = [] := ⟨_, rfl⟩
  have hW : cw g ad P M H := hH9 ▸ hW
  have hS : va_S (hbA ad) s.heap H locs := by rw [hH9, hL9]; exact hS
  refine z_start hH9 hL9 ?_
  clear hH9 hL9
  have hex : ∀ j : Nat, M j = M j := fun _ => rfl
  refine lv_iload_n hx hb dX2_mostOf_0 rfl (lv_at hl 0 rfl) ?_
  refine lv_tableIn (off := 27) (tgt := 28) hx hb dX2_mostOf_1 (by decide) (by decide) (by decide) (by decide) ?_
  refine va_gets (C := RX2) (n := "BANK_MOST") (d := "[I") (v := .ref (kk.1 4)) hx hb (hC.2.1 4 (by decide)).1 hS hown k58 (fun _ h9 => h9) dX2_mostOf_28 ?_
  have hW : cw g ad P M H := hW
  exact W.aret hx hb hr (Or.inr ⟨_, rfl⟩) (Or.inr ⟨_, rfl⟩) (fun tX htX hWX => ⟨⟨(), _, rfl, trivial, rfl, g_at htX hW⟩, hS.F htX⟩) hS.2.2 dX2_mostOf_31

set_option maxHeartbeats 4000000 in
set_option maxRecDepth 100000 in
theorem c_X2_mostOf_1 (l : Launch) (g : GG) (ad : Nat → Nat) (hd9 : hD ad) (P : Nat → Nat) (M : Nat → Nat → Int32) (kk : KK)  : Met l yX2_mostOf wsX2_mostOf ({ frames := 0, cells := 0, slots := 0, locals := 0 }) (gkPc g kk ad [.int (zI (1))] (cw g ad P M)) (va_Qr (fun (u : Unit) => True) (fun (u : Unit) (a9 : Nat) (tS : State) => a9 = (kk.1 5) ∧ cw g ad P M tS.heap) (hbA ad)) 0 0 (hbA ad) := by
  refine Met.ofW (cc := cX2_mostOf) (maxL := 1) (ret := (some (.array .int))) (by decide) rfl ?_
  intro p e s m args below meth c s₁ B hml hv
  obtain ⟨rfl, hW, hK, hC⟩ := hv
  have hx := B.exec
  have hb := B.bytes
  have hr := B.returns
  have hts := atoms_spec (ws := wsX2_mostOf) B.pre
  have hown : s.vm.findClass RX2 = some m.cls := findClass_of_methodNamed B.named
  have hlocks := B.notSynchronized
  have k61 := hts (.fieldLink RX2 61 "HoursBank$Rules" "SEASON_MOST" "[I") (by decide +kernel)
  have hl := lv_entry ([.int (zI (1))]) (n := 1) (Nat.le_of_ble_eq_true rfl)
  rw [lg_entry_eq]
  generalize (lg_sl ([.int (zI (1))]) ++ List.replicate (1 - (lg_sl ([.int (zI (1))])).length) Slot.unset).toArray = ls at hl ⊢
  have hl : lv_has ls 1 [(0, .int (zI (1)))] := hl
  have hS : va_S (hbA ad) s.heap s.heap [] := va_S.rf
  obtain ⟨H, hH9⟩ : ∃ H, H = s.heap := ⟨_, rfl⟩
  obtain ⟨locs, hL9⟩ : ∃ x9l : List Loc, x9l = [] := ⟨_, rfl⟩
  have hW : cw g ad P M H := hH9 ▸ hW
  have hS : va_S (hbA ad) s.heap H locs := by rw [hH9, hL9]; exact hS
  refine z_start hH9 hL9 ?_
  clear hH9 hL9
  have hex : ∀ j : Nat, M j = M j := fun _ => rfl
  refine lv_iload_n hx hb dX2_mostOf_0 rfl (lv_at hl 0 rfl) ?_
  refine lv_tableIn (off := 31) (tgt := 32) hx hb dX2_mostOf_1 (by decide) (by decide) (by decide) (by decide) ?_
  refine va_gets (C := RX2) (n := "SEASON_MOST") (d := "[I") (v := .ref (kk.1 5)) hx hb (hC.2.1 5 (by decide)).1 hS hown k61 (fun _ h9 => h9) dX2_mostOf_32 ?_
  have hW : cw g ad P M H := hW
  exact W.aret hx hb hr (Or.inr ⟨_, rfl⟩) (Or.inr ⟨_, rfl⟩) (fun tX htX hWX => ⟨⟨(), _, rfl, trivial, rfl, g_at htX hW⟩, hS.F htX⟩) hS.2.2 dX2_mostOf_35

set_option maxHeartbeats 4000000 in
set_option maxRecDepth 100000 in
theorem c_X2_mostOf_2 (l : Launch) (g : GG) (ad : Nat → Nat) (hd9 : hD ad) (P : Nat → Nat) (M : Nat → Nat → Int32) (kk : KK)  : Met l yX2_mostOf wsX2_mostOf ({ frames := 0, cells := 0, slots := 0, locals := 0 }) (gkPc g kk ad [.int (zI (2))] (cw g ad P M)) (va_Qr (fun (u : Unit) => True) (fun (u : Unit) (a9 : Nat) (tS : State) => a9 = (kk.1 6) ∧ cw g ad P M tS.heap) (hbA ad)) 0 0 (hbA ad) := by
  refine Met.ofW (cc := cX2_mostOf) (maxL := 1) (ret := (some (.array .int))) (by decide) rfl ?_
  intro p e s m args below meth c s₁ B hml hv
  obtain ⟨rfl, hW, hK, hC⟩ := hv
  have hx := B.exec
  have hb := B.bytes
  have hr := B.returns
  have hts := atoms_spec (ws := wsX2_mostOf) B.pre
  have hown : s.vm.findClass RX2 = some m.cls := findClass_of_methodNamed B.named
  have hlocks := B.notSynchronized
  have k64 := hts (.fieldLink RX2 64 "HoursBank$Rules" "NOTICE_MOST" "[I") (by decide +kernel)
  have hl := lv_entry ([.int (zI (2))]) (n := 1) (Nat.le_of_ble_eq_true rfl)
  rw [lg_entry_eq]
  generalize (lg_sl ([.int (zI (2))]) ++ List.replicate (1 - (lg_sl ([.int (zI (2))])).length) Slot.unset).toArray = ls at hl ⊢
  have hl : lv_has ls 1 [(0, .int (zI (2)))] := hl
  have hS : va_S (hbA ad) s.heap s.heap [] := va_S.rf
  obtain ⟨H, hH9⟩ : ∃ H, H = s.heap := ⟨_, rfl⟩
  obtain ⟨locs, hL9⟩ : ∃ x9l : List Loc, x9l = [] := ⟨_, rfl⟩
  have hW : cw g ad P M H := hH9 ▸ hW
  have hS : va_S (hbA ad) s.heap H locs := by rw [hH9, hL9]; exact hS
  refine z_start hH9 hL9 ?_
  clear hH9 hL9
  have hex : ∀ j : Nat, M j = M j := fun _ => rfl
  refine lv_iload_n hx hb dX2_mostOf_0 rfl (lv_at hl 0 rfl) ?_
  refine lv_tableIn (off := 35) (tgt := 36) hx hb dX2_mostOf_1 (by decide) (by decide) (by decide) (by decide) ?_
  refine va_gets (C := RX2) (n := "NOTICE_MOST") (d := "[I") (v := .ref (kk.1 6)) hx hb (hC.2.1 6 (by decide)).1 hS hown k64 (fun _ h9 => h9) dX2_mostOf_36 ?_
  have hW : cw g ad P M H := hW
  exact W.aret hx hb hr (Or.inr ⟨_, rfl⟩) (Or.inr ⟨_, rfl⟩) (fun tX htX hWX => ⟨⟨(), _, rfl, trivial, rfl, g_at htX hW⟩, hS.F htX⟩) hS.2.2 dX2_mostOf_39

set_option maxHeartbeats 4000000 in
set_option maxRecDepth 100000 in
theorem c_X2_mostOf_3 (l : Launch) (g : GG) (ad : Nat → Nat) (hd9 : hD ad) (P : Nat → Nat) (M : Nat → Nat → Int32) (kk : KK)  : Met l yX2_mostOf wsX2_mostOf ({ frames := 0, cells := 0, slots := 0, locals := 0 }) (gkPc g kk ad [.int (zI (3))] (cw g ad P M)) (va_Qr (fun (u : Unit) => True) (fun (u : Unit) (a9 : Nat) (tS : State) => a9 = (kk.1 7) ∧ cw g ad P M tS.heap) (hbA ad)) 0 0 (hbA ad) := by
  refine Met.ofW (cc := cX2_mostOf) (maxL := 1) (ret := (some (.array .int))) (by decide) rfl ?_
  intro p e s m args below meth c s₁ B hml hv
  obtain ⟨rfl, hW, hK, hC⟩ := hv
  have hx := B.exec
  have hb := B.bytes
  have hr := B.returns
  have hts := atoms_spec (ws := wsX2_mostOf) B.pre
  have hown : s.vm.findClass RX2 = some m.cls := findClass_of_methodNamed B.named
  have hlocks := B.notSynchronized
  have k67 := hts (.fieldLink RX2 67 "HoursBank$Rules" "WORKER_MOST" "[I") (by decide +kernel)
  have hl := lv_entry ([.int (zI (3))]) (n := 1) (Nat.le_of_ble_eq_true rfl)
  rw [lg_entry_eq]
  generalize (lg_sl ([.int (zI (3))]) ++ List.replicate (1 - (lg_sl ([.int (zI (3))])).length) Slot.unset).toArray = ls at hl ⊢
  have hl : lv_has ls 1 [(0, .int (zI (3)))] := hl
  have hS : va_S (hbA ad) s.heap s.heap [] := va_S.rf
  obtain ⟨H, hH9⟩ : ∃ H, H = s.heap := ⟨_, rfl⟩
  obtain ⟨locs, hL9⟩ : ∃ x9l : List Loc, x9l = [] := ⟨_, rfl⟩
  have hW : cw g ad P M H := hH9 ▸ hW
  have hS : va_S (hbA ad) s.heap H locs := by rw [hH9, hL9]; exact hS
  refine z_start hH9 hL9 ?_
  clear hH9 hL9
  have hex : ∀ j : Nat, M j = M j := fun _ => rfl
  refine lv_iload_n hx hb dX2_mostOf_0 rfl (lv_at hl 0 rfl) ?_
  refine lv_tableOut (tgt := 40) hx hb dX2_mostOf_1 (by decide) (by decide) ?_
  refine va_gets (C := RX2) (n := "WORKER_MOST") (d := "[I") (v := .ref (kk.1 7)) hx hb (hC.2.1 7 (by decide)).1 hS hown k67 (fun _ h9 => h9) dX2_mostOf_40 ?_
  have hW : cw g ad P M H := hW
  exact W.aret hx hb hr (Or.inr ⟨_, rfl⟩) (Or.inr ⟨_, rfl⟩) (fun tX htX hWX => ⟨⟨(), _, rfl, trivial, rfl, g_at htX hW⟩, hS.F htX⟩) hS.2.2 dX2_mostOf_43

set_option maxHeartbeats 4000000 in
set_option maxRecDepth 100000 in
theorem c_X2_isFull_0 (l : Launch) (g : GG) (ad : Nat → Nat) (hd9 : hD ad) (P : Nat → Nat) (M : Nat → Nat → Int32) (b : Nat) (hb9 : b = 8 ∨ b = 27) (ct : Nat) (hc : ct ≤ 5) (hc9 : M (b + 18) 0 = zI ct) : Met l yX2_isFull wsX2_isFull ({ frames := 1, cells := 0, slots := 0, locals := 21 }) (gPc g [.ref ((ad b)), .int (zI (0))] (cw g ad P M)) (va_Qi (fun (r : Int32) (u : Unit) => r = zI (bz (1 ≤ ct))) (fun (u : Unit) (tS : State) => cw g ad P M tS.heap) (hbA ad)) 0 0 (hbA ad) := by
  refine Met.ofW (cc := cX2_isFull) (maxL := 2) (ret := (some .boolean)) (by decide) rfl ?_
  intro p e s m args below meth c s₁ B hml hv
  obtain ⟨rfl, hW, hK⟩ := hv
  have hx := B.exec
  have hb := B.bytes
  have hr := B.returns
  have hts := atoms_spec (ws := wsX2_isFull) B.pre
  have hown : s.vm.findClass RX2 = some m.cls := findClass_of_methodNamed B.named
  have hlocks := B.notSynchronized
  have hinX2 : ∀ w ∈ wsX20, w ∈ wsX2_isFull := by decide +kernel
  have k25 := hts (.fieldLink RX2 25 "HoursBank$Rules" "counts" "[I") (by decide +kernel)
  have hl := lv_entry ([.ref ((ad b)), .int (zI (0))]) (n := 2) (Nat.le_of_ble_eq_true rfl)
  rw [lg_entry_eq]
  generalize (lg_sl ([.ref ((ad b)), .int (zI (0))]) ++ List.replicate (2 - (lg_sl ([.ref ((ad b)), .int (zI (0))])).length) Slot.unset).toArray = ls at hl ⊢
  have hl : lv_has ls 2 [(0, .ref ((ad b))), (1, .int (zI (0)))] := hl
  have hS : va_S (hbA ad) s.heap s.heap [] := va_S.rf
  obtain ⟨H, hH9⟩ : ∃ H, H = s.heap := ⟨_, rfl⟩
  obtain ⟨locs, hL9⟩ : ∃ x9l : List Loc, x9l = [] := ⟨_, rfl⟩
  have hW : cw g ad P M H := hH9 ▸ hW
  have hS : va_S (hbA ad) s.heap H locs := by rw [hH9, hL9]; exact hS
  refine z_start hH9 hL9 ?_
  clear hH9 hL9
  have hex : ∀ j : Nat, M j = M j := fun _ => rfl
  refine lv_aload_n hx hb dX2_isFull_0 rfl (lv_at hl 0 rfl) ?_
  have r_b : M (b) = M (b) := hex (b) 
  refine va_get (D := g.1) (ci := 2) (v := .ref ((ad (b + 18)))) (C := RX2) (T := TX2) (N := 5) hx hb hts hinX2 hown hK (hb1 hW (show b < 126 by omega) (lcE r_b (sh_R0 hb9))) 0 rfl rfl 4 (by decide) k25 (fun _ h9 => h9) rfl dX2_isFull_1 ?_
  refine lv_iload_n hx hb dX2_isFull_4 rfl (lv_at hl 1 rfl) ?_
  have r_b_18 : M (b + 18) = M (b + 18) := hex (b + 18) 
  refine z_iald hx hb hK (hb1 hW (show b + 18 < 126 by omega) (lcE r_b_18 (sh_R18 hb9))) 0 0 rfl rfl (by decide) (0) (by omega) (by omega) dX2_isFull_5 ?_
  refine z_top (y := zI (ct)) (hc9) ?_
  refine lv_aload_n hx hb dX2_isFull_6 rfl (lv_at hl 0 rfl) ?_
  refine lv_iload_n hx hb dX2_isFull_7 rfl (lv_at hl 1 rfl) ?_
  refine va_callr (va_runV (As := [.int (zI (0))]) (rest := [.int (zI (ct))]) ⟨hx, hb, hml, hown, hts⟩ (c_X2_rowsOf_0 l g (ad) (hd9) (P) (M) (b) (hb9)) (cwV 1 hts gX2_isFull_X2_rowsOf rfl rfl rfl (by decide +kernel) ⟨Nat.le_of_ble_eq_true rfl, Nat.le_of_ble_eq_true rfl⟩) (g_preV hW hK (va_recv hK (hb1 hW (show b < 126 by omega) (lcE r_b (sh_R0 hb9))) (q0 := 0) (ci := 2) rfl rfl)) rfl rfl hl.1 rfl (lv_room (Nat.le_of_ble_eq_true rfl)) dX2_isFull_8 ⟨Nat.le_of_ble_eq_true rfl, Nat.le_of_ble_eq_true rfl⟩) hS (fun q _ h => h) (fun q h => h) (fun u0 a9 t9 H1 locs ht9 hvm9 hw9 hB9 hz9 hk9 hS => ?_)
  rw [ht9] at hB9
  clear hz9 hk9 hvm9 ht9
  generalize H1 = H at hB9 hS ⊢
  obtain ⟨rfl, hW⟩ := hB9
  have hW := hW
  have hW : cw g ad P M H := hW
  have r_b_1 : M (b + 1) = M (b + 1) := hex (b + 1) 
  refine va_alen hx hb hK (hb1 hW (show b + 1 < 126 by omega) (lcE r_b_1 (sh_Rr1 hb9))) 0 6 rfl rfl (v := zI 1) (show Int32.ofNat 1 = zI 1 by decide) dX2_isFull_11 ?_
  refine z_icmp_lt (tgt := 19) hx hb dX2_isFull_12 (by decide) (by omega) (by omega) (fun h12 => ?_) (fun h12 => ?_)
  · refine lv_iconst (v := zI (0)) hx hb dX2_isFull_19 (by decide) ?_
    have hW : cw g ad P M H := hW
    exact W.zret hx hb hr (by decide) (fun tX htX hWX => ⟨⟨_, (), rfl, bz_0 (by omega), g_at htX hW⟩, hS.F htX⟩) hS.2.2 dX2_isFull_20
  · refine lv_iconst (v := zI (1)) hx hb dX2_isFull_15 (by decide) ?_
    refine lv_goto (tgt := 20) hx hb dX2_isFull_16 (by decide) ?_
    have hW : cw g ad P M H := hW
    exact W.zret hx hb hr (by decide) (fun tX htX hWX => ⟨⟨_, (), rfl, bz_1 (by omega), g_at htX hW⟩, hS.F htX⟩) hS.2.2 dX2_isFull_20

set_option maxHeartbeats 4000000 in
set_option maxRecDepth 100000 in
theorem c_X2_isFull_1 (l : Launch) (g : GG) (ad : Nat → Nat) (hd9 : hD ad) (P : Nat → Nat) (M : Nat → Nat → Int32) (b : Nat) (hb9 : b = 8 ∨ b = 27) (ct : Nat) (hc : ct ≤ 5) (hc9 : M (b + 18) 1 = zI ct) : Met l yX2_isFull wsX2_isFull ({ frames := 1, cells := 0, slots := 0, locals := 21 }) (gPc g [.ref ((ad b)), .int (zI (1))] (cw g ad P M)) (va_Qi (fun (r : Int32) (u : Unit) => r = zI (bz (5 ≤ ct))) (fun (u : Unit) (tS : State) => cw g ad P M tS.heap) (hbA ad)) 0 0 (hbA ad) := by
  refine Met.ofW (cc := cX2_isFull) (maxL := 2) (ret := (some .boolean)) (by decide) rfl ?_
  intro p e s m args below meth c s₁ B hml hv
  obtain ⟨rfl, hW, hK⟩ := hv
  have hx := B.exec
  have hb := B.bytes
  have hr := B.returns
  have hts := atoms_spec (ws := wsX2_isFull) B.pre
  have hown : s.vm.findClass RX2 = some m.cls := findClass_of_methodNamed B.named
  have hlocks := B.notSynchronized
  have hinX2 : ∀ w ∈ wsX20, w ∈ wsX2_isFull := by decide +kernel
  have k25 := hts (.fieldLink RX2 25 "HoursBank$Rules" "counts" "[I") (by decide +kernel)
  have hl := lv_entry ([.ref ((ad b)), .int (zI (1))]) (n := 2) (Nat.le_of_ble_eq_true rfl)
  rw [lg_entry_eq]
  generalize (lg_sl ([.ref ((ad b)), .int (zI (1))]) ++ List.replicate (2 - (lg_sl ([.ref ((ad b)), .int (zI (1))])).length) Slot.unset).toArray = ls at hl ⊢
  have hl : lv_has ls 2 [(0, .ref ((ad b))), (1, .int (zI (1)))] := hl
  have hS : va_S (hbA ad) s.heap s.heap [] := va_S.rf
  obtain ⟨H, hH9⟩ : ∃ H, H = s.heap := ⟨_, rfl⟩
  obtain ⟨locs, hL9⟩ : ∃ x9l : List Loc, x9l = [] := ⟨_, rfl⟩
  have hW : cw g ad P M H := hH9 ▸ hW
  have hS : va_S (hbA ad) s.heap H locs := by rw [hH9, hL9]; exact hS
  refine z_start hH9 hL9 ?_
  clear hH9 hL9
  have hex : ∀ j : Nat, M j = M j := fun _ => rfl
  refine lv_aload_n hx hb dX2_isFull_0 rfl (lv_at hl 0 rfl) ?_
  have r_b : M (b) = M (b) := hex (b) 
  refine va_get (D := g.1) (ci := 2) (v := .ref ((ad (b + 18)))) (C := RX2) (T := TX2) (N := 5) hx hb hts hinX2 hown hK (hb1 hW (show b < 126 by omega) (lcE r_b (sh_R0 hb9))) 0 rfl rfl 4 (by decide) k25 (fun _ h9 => h9) rfl dX2_isFull_1 ?_
  refine lv_iload_n hx hb dX2_isFull_4 rfl (lv_at hl 1 rfl) ?_
  have r_b_18 : M (b + 18) = M (b + 18) := hex (b + 18) 
  refine z_iald hx hb hK (hb1 hW (show b + 18 < 126 by omega) (lcE r_b_18 (sh_R18 hb9))) 0 0 rfl rfl (by decide) (1) (by omega) (by omega) dX2_isFull_5 ?_
  refine z_top (y := zI (ct)) (hc9) ?_
  refine lv_aload_n hx hb dX2_isFull_6 rfl (lv_at hl 0 rfl) ?_
  refine lv_iload_n hx hb dX2_isFull_7 rfl (lv_at hl 1 rfl) ?_
  refine va_callr (va_runV (As := [.int (zI (1))]) (rest := [.int (zI (ct))]) ⟨hx, hb, hml, hown, hts⟩ (c_X2_rowsOf_1 l g (ad) (hd9) (P) (M) (b) (hb9)) (cwV 1 hts gX2_isFull_X2_rowsOf rfl rfl rfl (by decide +kernel) ⟨Nat.le_of_ble_eq_true rfl, Nat.le_of_ble_eq_true rfl⟩) (g_preV hW hK (va_recv hK (hb1 hW (show b < 126 by omega) (lcE r_b (sh_R0 hb9))) (q0 := 0) (ci := 2) rfl rfl)) rfl rfl hl.1 rfl (lv_room (Nat.le_of_ble_eq_true rfl)) dX2_isFull_8 ⟨Nat.le_of_ble_eq_true rfl, Nat.le_of_ble_eq_true rfl⟩) hS (fun q _ h => h) (fun q h => h) (fun u0 a9 t9 H1 locs ht9 hvm9 hw9 hB9 hz9 hk9 hS => ?_)
  rw [ht9] at hB9
  clear hz9 hk9 hvm9 ht9
  generalize H1 = H at hB9 hS ⊢
  obtain ⟨rfl, hW⟩ := hB9
  have hW := hW
  have hW : cw g ad P M H := hW
  have r_b_3 : M (b + 3) = M (b + 3) := hex (b + 3) 
  refine va_alen hx hb hK (hb1 hW (show b + 3 < 126 by omega) (lcE r_b_3 (sh_Rr3 hb9))) 0 6 rfl rfl (v := zI 5) (show Int32.ofNat 5 = zI 5 by decide) dX2_isFull_11 ?_
  refine z_icmp_lt (tgt := 19) hx hb dX2_isFull_12 (by decide) (by omega) (by omega) (fun h12 => ?_) (fun h12 => ?_)
  · refine lv_iconst (v := zI (0)) hx hb dX2_isFull_19 (by decide) ?_
    have hW : cw g ad P M H := hW
    exact W.zret hx hb hr (by decide) (fun tX htX hWX => ⟨⟨_, (), rfl, bz_0 (by omega), g_at htX hW⟩, hS.F htX⟩) hS.2.2 dX2_isFull_20
  · refine lv_iconst (v := zI (1)) hx hb dX2_isFull_15 (by decide) ?_
    refine lv_goto (tgt := 20) hx hb dX2_isFull_16 (by decide) ?_
    have hW : cw g ad P M H := hW
    exact W.zret hx hb hr (by decide) (fun tX htX hWX => ⟨⟨_, (), rfl, bz_1 (by omega), g_at htX hW⟩, hS.F htX⟩) hS.2.2 dX2_isFull_20

set_option maxHeartbeats 4000000 in
set_option maxRecDepth 100000 in
theorem c_X2_isFull_2 (l : Launch) (g : GG) (ad : Nat → Nat) (hd9 : hD ad) (P : Nat → Nat) (M : Nat → Nat → Int32) (b : Nat) (hb9 : b = 8 ∨ b = 27) (ct : Nat) (hc : ct ≤ 5) (hc9 : M (b + 18) 2 = zI ct) : Met l yX2_isFull wsX2_isFull ({ frames := 1, cells := 0, slots := 0, locals := 21 }) (gPc g [.ref ((ad b)), .int (zI (2))] (cw g ad P M)) (va_Qi (fun (r : Int32) (u : Unit) => r = zI (bz (3 ≤ ct))) (fun (u : Unit) (tS : State) => cw g ad P M tS.heap) (hbA ad)) 0 0 (hbA ad) := by
  refine Met.ofW (cc := cX2_isFull) (maxL := 2) (ret := (some .boolean)) (by decide) rfl ?_
  intro p e s m args below meth c s₁ B hml hv
  obtain ⟨rfl, hW, hK⟩ := hv
  have hx := B.exec
  have hb := B.bytes
  have hr := B.returns
  have hts := atoms_spec (ws := wsX2_isFull) B.pre
  have hown : s.vm.findClass RX2 = some m.cls := findClass_of_methodNamed B.named
  have hlocks := B.notSynchronized
  have hinX2 : ∀ w ∈ wsX20, w ∈ wsX2_isFull := by decide +kernel
  have k25 := hts (.fieldLink RX2 25 "HoursBank$Rules" "counts" "[I") (by decide +kernel)
  have hl := lv_entry ([.ref ((ad b)), .int (zI (2))]) (n := 2) (Nat.le_of_ble_eq_true rfl)
  rw [lg_entry_eq]
  generalize (lg_sl ([.ref ((ad b)), .int (zI (2))]) ++ List.replicate (2 - (lg_sl ([.ref ((ad b)), .int (zI (2))])).length) Slot.unset).toArray = ls at hl ⊢
  have hl : lv_has ls 2 [(0, .ref ((ad b))), (1, .int (zI (2)))] := hl
  have hS : va_S (hbA ad) s.heap s.heap [] := va_S.rf
  obtain ⟨H, hH9⟩ : ∃ H, H = s.heap := ⟨_, rfl⟩
  obtain ⟨locs, hL9⟩ : ∃ x9l : List Loc, x9l = [] := ⟨_, rfl⟩
  have hW : cw g ad P M H := hH9 ▸ hW
  have hS : va_S (hbA ad) s.heap H locs := by rw [hH9, hL9]; exact hS
  refine z_start hH9 hL9 ?_
  clear hH9 hL9
  have hex : ∀ j : Nat, M j = M j := fun _ => rfl
  refine lv_aload_n hx hb dX2_isFull_0 rfl (lv_at hl 0 rfl) ?_
  have r_b : M (b) = M (b) := hex (b) 
  refine va_get (D := g.1) (ci := 2) (v := .ref ((ad (b + 18)))) (C := RX2) (T := TX2) (N := 5) hx hb hts hinX2 hown hK (hb1 hW (show b < 126 by omega) (lcE r_b (sh_R0 hb9))) 0 rfl rfl 4 (by decide) k25 (fun _ h9 => h9) rfl dX2_isFull_1 ?_
  refine lv_iload_n hx hb dX2_isFull_4 rfl (lv_at hl 1 rfl) ?_
  have r_b_18 : M (b + 18) = M (b + 18) := hex (b + 18) 
  refine z_iald hx hb hK (hb1 hW (show b + 18 < 126 by omega) (lcE r_b_18 (sh_R18 hb9))) 0 0 rfl rfl (by decide) (2) (by omega) (by omega) dX2_isFull_5 ?_
  refine z_top (y := zI (ct)) (hc9) ?_
  refine lv_aload_n hx hb dX2_isFull_6 rfl (lv_at hl 0 rfl) ?_
  refine lv_iload_n hx hb dX2_isFull_7 rfl (lv_at hl 1 rfl) ?_
  refine va_callr (va_runV (As := [.int (zI (2))]) (rest := [.int (zI (ct))]) ⟨hx, hb, hml, hown, hts⟩ (c_X2_rowsOf_2 l g (ad) (hd9) (P) (M) (b) (hb9)) (cwV 1 hts gX2_isFull_X2_rowsOf rfl rfl rfl (by decide +kernel) ⟨Nat.le_of_ble_eq_true rfl, Nat.le_of_ble_eq_true rfl⟩) (g_preV hW hK (va_recv hK (hb1 hW (show b < 126 by omega) (lcE r_b (sh_R0 hb9))) (q0 := 0) (ci := 2) rfl rfl)) rfl rfl hl.1 rfl (lv_room (Nat.le_of_ble_eq_true rfl)) dX2_isFull_8 ⟨Nat.le_of_ble_eq_true rfl, Nat.le_of_ble_eq_true rfl⟩) hS (fun q _ h => h) (fun q h => h) (fun u0 a9 t9 H1 locs ht9 hvm9 hw9 hB9 hz9 hk9 hS => ?_)
  rw [ht9] at hB9
  clear hz9 hk9 hvm9 ht9
  generalize H1 = H at hB9 hS ⊢
  obtain ⟨rfl, hW⟩ := hB9
  have hW := hW
  have hW : cw g ad P M H := hW
  have r_b_9 : M (b + 9) = M (b + 9) := hex (b + 9) 
  refine va_alen hx hb hK (hb1 hW (show b + 9 < 126 by omega) (lcE r_b_9 (sh_Rr9 hb9))) 0 6 rfl rfl (v := zI 3) (show Int32.ofNat 3 = zI 3 by decide) dX2_isFull_11 ?_
  refine z_icmp_lt (tgt := 19) hx hb dX2_isFull_12 (by decide) (by omega) (by omega) (fun h12 => ?_) (fun h12 => ?_)
  · refine lv_iconst (v := zI (0)) hx hb dX2_isFull_19 (by decide) ?_
    have hW : cw g ad P M H := hW
    exact W.zret hx hb hr (by decide) (fun tX htX hWX => ⟨⟨_, (), rfl, bz_0 (by omega), g_at htX hW⟩, hS.F htX⟩) hS.2.2 dX2_isFull_20
  · refine lv_iconst (v := zI (1)) hx hb dX2_isFull_15 (by decide) ?_
    refine lv_goto (tgt := 20) hx hb dX2_isFull_16 (by decide) ?_
    have hW : cw g ad P M H := hW
    exact W.zret hx hb hr (by decide) (fun tX htX hWX => ⟨⟨_, (), rfl, bz_1 (by omega), g_at htX hW⟩, hS.F htX⟩) hS.2.2 dX2_isFull_20

set_option maxHeartbeats 4000000 in
set_option maxRecDepth 100000 in
theorem c_X2_isFull_3 (l : Launch) (g : GG) (ad : Nat → Nat) (hd9 : hD ad) (P : Nat → Nat) (M : Nat → Nat → Int32) (b : Nat) (hb9 : b = 8 ∨ b = 27) (ct : Nat) (hc : ct ≤ 5) (hc9 : M (b + 18) 3 = zI ct) : Met l yX2_isFull wsX2_isFull ({ frames := 1, cells := 0, slots := 0, locals := 21 }) (gPc g [.ref ((ad b)), .int (zI (3))] (cw g ad P M)) (va_Qi (fun (r : Int32) (u : Unit) => r = zI (bz (4 ≤ ct))) (fun (u : Unit) (tS : State) => cw g ad P M tS.heap) (hbA ad)) 0 0 (hbA ad) := by
  refine Met.ofW (cc := cX2_isFull) (maxL := 2) (ret := (some .boolean)) (by decide) rfl ?_
  intro p e s m args below meth c s₁ B hml hv
  obtain ⟨rfl, hW, hK⟩ := hv
  have hx := B.exec
  have hb := B.bytes
  have hr := B.returns
  have hts := atoms_spec (ws := wsX2_isFull) B.pre
  have hown : s.vm.findClass RX2 = some m.cls := findClass_of_methodNamed B.named
  have hlocks := B.notSynchronized
  have hinX2 : ∀ w ∈ wsX20, w ∈ wsX2_isFull := by decide +kernel
  have k25 := hts (.fieldLink RX2 25 "HoursBank$Rules" "counts" "[I") (by decide +kernel)
  have hl := lv_entry ([.ref ((ad b)), .int (zI (3))]) (n := 2) (Nat.le_of_ble_eq_true rfl)
  rw [lg_entry_eq]
  generalize (lg_sl ([.ref ((ad b)), .int (zI (3))]) ++ List.replicate (2 - (lg_sl ([.ref ((ad b)), .int (zI (3))])).length) Slot.unset).toArray = ls at hl ⊢
  have hl : lv_has ls 2 [(0, .ref ((ad b))), (1, .int (zI (3)))] := hl
  have hS : va_S (hbA ad) s.heap s.heap [] := va_S.rf
  obtain ⟨H, hH9⟩ : ∃ H, H = s.heap := ⟨_, rfl⟩
  obtain ⟨locs, hL9⟩ : ∃ x9l : List Loc, x9l = [] := ⟨_, rfl⟩
  have hW : cw g ad P M H := hH9 ▸ hW
  have hS : va_S (hbA ad) s.heap H locs := by rw [hH9, hL9]; exact hS
  refine z_start hH9 hL9 ?_
  clear hH9 hL9
  have hex : ∀ j : Nat, M j = M j := fun _ => rfl
  refine lv_aload_n hx hb dX2_isFull_0 rfl (lv_at hl 0 rfl) ?_
  have r_b : M (b) = M (b) := hex (b) 
  refine va_get (D := g.1) (ci := 2) (v := .ref ((ad (b + 18)))) (C := RX2) (T := TX2) (N := 5) hx hb hts hinX2 hown hK (hb1 hW (show b < 126 by omega) (lcE r_b (sh_R0 hb9))) 0 rfl rfl 4 (by decide) k25 (fun _ h9 => h9) rfl dX2_isFull_1 ?_
  refine lv_iload_n hx hb dX2_isFull_4 rfl (lv_at hl 1 rfl) ?_
  have r_b_18 : M (b + 18) = M (b + 18) := hex (b + 18) 
  refine z_iald hx hb hK (hb1 hW (show b + 18 < 126 by omega) (lcE r_b_18 (sh_R18 hb9))) 0 0 rfl rfl (by decide) (3) (by omega) (by omega) dX2_isFull_5 ?_
  refine z_top (y := zI (ct)) (hc9) ?_
  refine lv_aload_n hx hb dX2_isFull_6 rfl (lv_at hl 0 rfl) ?_
  refine lv_iload_n hx hb dX2_isFull_7 rfl (lv_at hl 1 rfl) ?_
  refine va_callr (va_runV (As := [.int (zI (3))]) (rest := [.int (zI (ct))]) ⟨hx, hb, hml, hown, hts⟩ (c_X2_rowsOf_3 l g (ad) (hd9) (P) (M) (b) (hb9)) (cwV 1 hts gX2_isFull_X2_rowsOf rfl rfl rfl (by decide +kernel) ⟨Nat.le_of_ble_eq_true rfl, Nat.le_of_ble_eq_true rfl⟩) (g_preV hW hK (va_recv hK (hb1 hW (show b < 126 by omega) (lcE r_b (sh_R0 hb9))) (q0 := 0) (ci := 2) rfl rfl)) rfl rfl hl.1 rfl (lv_room (Nat.le_of_ble_eq_true rfl)) dX2_isFull_8 ⟨Nat.le_of_ble_eq_true rfl, Nat.le_of_ble_eq_true rfl⟩) hS (fun q _ h => h) (fun q h => h) (fun u0 a9 t9 H1 locs ht9 hvm9 hw9 hB9 hz9 hk9 hS => ?_)
  rw [ht9] at hB9
  clear hz9 hk9 hvm9 ht9
  generalize H1 = H at hB9 hS ⊢
  obtain ⟨rfl, hW⟩ := hB9
  have hW := hW
  have hW : cw g ad P M H := hW
  have r_b_13 : M (b + 13) = M (b + 13) := hex (b + 13) 
  refine va_alen hx hb hK (hb1 hW (show b + 13 < 126 by omega) (lcE r_b_13 (sh_Rr13 hb9))) 0 6 rfl rfl (v := zI 4) (show Int32.ofNat 4 = zI 4 by decide) dX2_isFull_11 ?_
  refine z_icmp_lt (tgt := 19) hx hb dX2_isFull_12 (by decide) (by omega) (by omega) (fun h12 => ?_) (fun h12 => ?_)
  · refine lv_iconst (v := zI (0)) hx hb dX2_isFull_19 (by decide) ?_
    have hW : cw g ad P M H := hW
    exact W.zret hx hb hr (by decide) (fun tX htX hWX => ⟨⟨_, (), rfl, bz_0 (by omega), g_at htX hW⟩, hS.F htX⟩) hS.2.2 dX2_isFull_20
  · refine lv_iconst (v := zI (1)) hx hb dX2_isFull_15 (by decide) ?_
    refine lv_goto (tgt := 20) hx hb dX2_isFull_16 (by decide) ?_
    have hW : cw g ad P M H := hW
    exact W.zret hx hb hr (by decide) (fun tX htX hWX => ⟨⟨_, (), rfl, bz_1 (by omega), g_at htX hW⟩, hS.F htX⟩) hS.2.2 dX2_isFull_20

set_option maxHeartbeats 4000000 in
set_option maxRecDepth 100000 in
theorem c_X2_openRow_0 (l : Launch) (g : GG) (ad : Nat → Nat) (hd9 : hD ad) (P : Nat → Nat) (M : Nat → Nat → Int32) (b : Nat) (hb9 : b = 8 ∨ b = 27) (ct : Nat) (hc : ct < 1) (hc9 : M (b + 18) 0 = zI ct) : Met l yX2_openRow wsX2_openRow ({ frames := 1, cells := 0, slots := 0, locals := 21 }) (gPc g [.ref ((ad b)), .int (zI (0))] (cw g ad P M)) (va_Qr (fun (u : Unit) => True) (fun (u : Unit) (a9 : Nat) (tS : State) => a9 = (ad (b + 1 + (1 + ct))) ∧ cw g ad P (va_up M (b + 18) (upd (M (b + 18)) 0 (zI (ct + 1)))) tS.heap) (hbA ad)) 0 0 (hbA ad) := by
  refine Met.ofW (cc := cX2_openRow) (maxL := 3) (ret := (some (.array .int))) (by decide) rfl ?_
  intro p e s m args below meth c s₁ B hml hv
  obtain ⟨rfl, hW, hK⟩ := hv
  have hx := B.exec
  have hb := B.bytes
  have hr := B.returns
  have hts := atoms_spec (ws := wsX2_openRow) B.pre
  have hown : s.vm.findClass RX2 = some m.cls := findClass_of_methodNamed B.named
  have hlocks := B.notSynchronized
  have hinX2 : ∀ w ∈ wsX20, w ∈ wsX2_openRow := by decide +kernel
  have k25 := hts (.fieldLink RX2 25 "HoursBank$Rules" "counts" "[I") (by decide +kernel)
  have hl := lv_entry ([.ref ((ad b)), .int (zI (0))]) (n := 3) (Nat.le_of_ble_eq_true rfl)
  rw [lg_entry_eq]
  generalize (lg_sl ([.ref ((ad b)), .int (zI (0))]) ++ List.replicate (3 - (lg_sl ([.ref ((ad b)), .int (zI (0))])).length) Slot.unset).toArray = ls at hl ⊢
  have hl : lv_has ls 3 [(0, .ref ((ad b))), (1, .int (zI (0)))] := hl
  have hS : va_S (hbA ad) s.heap s.heap [] := va_S.rf
  obtain ⟨H, hH9⟩ : ∃ H, H = s.heap := ⟨_, rfl⟩
  obtain ⟨locs, hL9⟩ : ∃ x9l : List Loc, x9l = [] := ⟨_, rfl⟩
  have hW : cw g ad P M H := hH9 ▸ hW
  have hS : va_S (hbA ad) s.heap H locs := by rw [hH9, hL9]; exact hS
  refine z_start hH9 hL9 ?_
  clear hH9 hL9
  have hex : ∀ j : Nat, M j = M j := fun _ => rfl
  refine lv_aload_n hx hb dX2_openRow_0 rfl (lv_at hl 0 rfl) ?_
  refine lv_iload_n hx hb dX2_openRow_1 rfl (lv_at hl 1 rfl) ?_
  have r_b : M (b) = M (b) := hex (b) 
  refine va_callr (va_runV (As := [.int (zI (0))]) (rest := []) ⟨hx, hb, hml, hown, hts⟩ (c_X2_rowsOf_0 l g (ad) (hd9) (P) (M) (b) (hb9)) (cwV 1 hts gX2_openRow_X2_rowsOf rfl rfl rfl (by decide +kernel) ⟨Nat.le_of_ble_eq_true rfl, Nat.le_of_ble_eq_true rfl⟩) (g_preV hW hK (va_recv hK (hb1 hW (show b < 126 by omega) (lcE r_b (sh_R0 hb9))) (q0 := 0) (ci := 2) rfl rfl)) rfl rfl hl.1 rfl (lv_room (Nat.le_of_ble_eq_true rfl)) dX2_openRow_2 ⟨Nat.le_of_ble_eq_true rfl, Nat.le_of_ble_eq_true rfl⟩) hS (fun q _ h => h) (fun q h => h) (fun u0 a9 t9 H1 locs ht9 hvm9 hw9 hB9 hz9 hk9 hS => ?_)
  rw [ht9] at hB9
  clear hz9 hk9 hvm9 ht9
  generalize H1 = H at hB9 hS ⊢
  obtain ⟨rfl, hW⟩ := hB9
  have hW := hW
  have hW : cw g ad P M H := hW
  refine lv_aload_n hx hb dX2_openRow_5 rfl (lv_at hl 0 rfl) ?_
  refine va_get (D := g.1) (ci := 2) (v := .ref ((ad (b + 18)))) (C := RX2) (T := TX2) (N := 5) hx hb hts hinX2 hown hK (hb1 hW (show b < 126 by omega) (lcE r_b (sh_R0 hb9))) 0 rfl rfl 4 (by decide) k25 (fun _ h9 => h9) rfl dX2_openRow_6 ?_
  refine lv_iload_n hx hb dX2_openRow_9 rfl (lv_at hl 1 rfl) ?_
  have r_b_18 : M (b + 18) = M (b + 18) := hex (b + 18) 
  refine z_iald hx hb hK (hb1 hW (show b + 18 < 126 by omega) (lcE r_b_18 (sh_R18 hb9))) 0 0 rfl rfl (by decide) (0) (by omega) (by omega) dX2_openRow_10 ?_
  refine z_top (y := zI (ct)) (hc9) ?_
  have r_b_1 : M (b + 1) = M (b + 1) := hex (b + 1) 
  refine z_aald hx hb hK (hb1 hW (show b + 1 < 126 by omega) (lcE r_b_1 (sh_Rr1 hb9))) 0 6 rfl rfl rfl (by decide) (ct) (by omega) (by omega) rfl dX2_openRow_11 ?_
  refine lv_astore_n (lv' := [(2, .ref ((ad (b + 1 + (1 + ct))))), (0, .ref ((ad b))), (1, .int (zI (0)))]) hx hb dX2_openRow_12 rfl hl (by decide) rfl (fun ls hl => ?_)
  refine lv_aload_n hx hb dX2_openRow_13 rfl (lv_at hl 1 rfl) ?_
  refine va_get (D := g.1) (ci := 2) (v := .ref ((ad (b + 18)))) (C := RX2) (T := TX2) (N := 5) hx hb hts hinX2 hown hK (hb1 hW (show b < 126 by omega) (lcE r_b (sh_R0 hb9))) 0 rfl rfl 4 (by decide) k25 (fun _ h9 => h9) rfl dX2_openRow_14 ?_
  refine lv_iload_n hx hb dX2_openRow_17 rfl (lv_at hl 2 rfl) ?_
  refine lv_dup2_11 hx hb dX2_openRow_18 rfl rfl ?_
  refine z_iald hx hb hK (hb1 hW (show b + 18 < 126 by omega) (lcE r_b_18 (sh_R18 hb9))) 0 0 rfl rfl (by decide) (0) (by omega) (by omega) dX2_openRow_19 ?_
  refine z_top (y := zI (ct)) (hc9) ?_
  refine lv_iconst (v := zI (1)) hx hb dX2_openRow_20 (by decide) ?_
  refine z_iadd hx hb dX2_openRow_21 ?_
  refine y_iast hx hb hK hW hd9 hS (b + 18) (show b + 18 < 126 by omega) (lcE r_b_18 (sh_R18 hb9)) (by decide) (0) (by omega) (by omega) dX2_openRow_22 (fun H locs hW hS => ?_)
  have hW := cw_up (P := P) (M := M) (f := upd (M (b + 18)) 0 (zI (ct + 1))) ((sh_R18 hb9)) hW
  obtain ⟨M2, hM2⟩ : ∃ x9c : Nat → Nat → Int32, x9c = va_up M (b + 18) (upd (M (b + 18)) 0 (zI (ct + 1))) := ⟨_, rfl⟩
  have hW : cw g ad P M2 H := by rw [hM2]; exact hW
  have hex : ∀ j : Nat, ¬ j = b + 18 → M2 j = M j := fun j q0 => ((congrFun hM2 j).trans (up_ne _ _ q0)).trans (hex j )
  have r_b : M2 (b) = M (b) := ((congrFun hM2 (b)).trans (up_ne _ _ (by omega))).trans r_b
  have r_b_1 : M2 (b + 1) = M (b + 1) := ((congrFun hM2 (b + 1)).trans (up_ne _ _ (by omega))).trans r_b_1
  have r_b_18 : M2 (b + 18) = upd (M (b + 18)) 0 (zI (ct + 1)) := ((congrFun hM2 _).trans (up_at _ _ _))
  refine lv_aload_n hx hb dX2_openRow_23 rfl (lv_at hl 0 rfl) ?_
  have hW : cw g ad P (va_up M (b + 18) (upd (M (b + 18)) 0 (zI (ct + 1)))) H := by
    have e9 : M2 = va_up M (b + 18) (upd (M (b + 18)) 0 (zI (ct + 1))) := by
      funext i9
      by_cases q0 : i9 = b + 18
      · rw [q0]; exact (r_b_18).trans (up_at _ _ _).symm
      exact (hex i9 q0).trans (up_ne _ _ q0).symm
    rw [← e9]; exact hW
  exact W.aret hx hb hr (Or.inr ⟨_, rfl⟩) (Or.inr ⟨_, rfl⟩) (fun tX htX hWX => ⟨⟨(), _, rfl, trivial, rfl, g_at htX hW⟩, hS.F htX⟩) hS.2.2 dX2_openRow_24

set_option maxHeartbeats 4000000 in
set_option maxRecDepth 100000 in
theorem c_X2_openRow_1 (l : Launch) (g : GG) (ad : Nat → Nat) (hd9 : hD ad) (P : Nat → Nat) (M : Nat → Nat → Int32) (b : Nat) (hb9 : b = 8 ∨ b = 27) (ct : Nat) (hc : ct < 5) (hc9 : M (b + 18) 1 = zI ct) : Met l yX2_openRow wsX2_openRow ({ frames := 1, cells := 0, slots := 0, locals := 21 }) (gPc g [.ref ((ad b)), .int (zI (1))] (cw g ad P M)) (va_Qr (fun (u : Unit) => True) (fun (u : Unit) (a9 : Nat) (tS : State) => a9 = (ad (b + 1 + (3 + ct))) ∧ cw g ad P (va_up M (b + 18) (upd (M (b + 18)) 1 (zI (ct + 1)))) tS.heap) (hbA ad)) 0 0 (hbA ad) := by
  refine Met.ofW (cc := cX2_openRow) (maxL := 3) (ret := (some (.array .int))) (by decide) rfl ?_
  intro p e s m args below meth c s₁ B hml hv
  obtain ⟨rfl, hW, hK⟩ := hv
  have hx := B.exec
  have hb := B.bytes
  have hr := B.returns
  have hts := atoms_spec (ws := wsX2_openRow) B.pre
  have hown : s.vm.findClass RX2 = some m.cls := findClass_of_methodNamed B.named
  have hlocks := B.notSynchronized
  have hinX2 : ∀ w ∈ wsX20, w ∈ wsX2_openRow := by decide +kernel
  have k25 := hts (.fieldLink RX2 25 "HoursBank$Rules" "counts" "[I") (by decide +kernel)
  have hl := lv_entry ([.ref ((ad b)), .int (zI (1))]) (n := 3) (Nat.le_of_ble_eq_true rfl)
  rw [lg_entry_eq]
  generalize (lg_sl ([.ref ((ad b)), .int (zI (1))]) ++ List.replicate (3 - (lg_sl ([.ref ((ad b)), .int (zI (1))])).length) Slot.unset).toArray = ls at hl ⊢
  have hl : lv_has ls 3 [(0, .ref ((ad b))), (1, .int (zI (1)))] := hl
  have hS : va_S (hbA ad) s.heap s.heap [] := va_S.rf
  obtain ⟨H, hH9⟩ : ∃ H, H = s.heap := ⟨_, rfl⟩
  obtain ⟨locs, hL9⟩ : ∃ x9l : List Loc, x9l = [] := ⟨_, rfl⟩
  have hW : cw g ad P M H := hH9 ▸ hW
  have hS : va_S (hbA ad) s.heap H locs := by rw [hH9, hL9]; exact hS
  refine z_start hH9 hL9 ?_
  clear hH9 hL9
  have hex : ∀ j : Nat, M j = M j := fun _ => rfl
  refine lv_aload_n hx hb dX2_openRow_0 rfl (lv_at hl 0 rfl) ?_
  refine lv_iload_n hx hb dX2_openRow_1 rfl (lv_at hl 1 rfl) ?_
  have r_b : M (b) = M (b) := hex (b) 
  refine va_callr (va_runV (As := [.int (zI (1))]) (rest := []) ⟨hx, hb, hml, hown, hts⟩ (c_X2_rowsOf_1 l g (ad) (hd9) (P) (M) (b) (hb9)) (cwV 1 hts gX2_openRow_X2_rowsOf rfl rfl rfl (by decide +kernel) ⟨Nat.le_of_ble_eq_true rfl, Nat.le_of_ble_eq_true rfl⟩) (g_preV hW hK (va_recv hK (hb1 hW (show b < 126 by omega) (lcE r_b (sh_R0 hb9))) (q0 := 0) (ci := 2) rfl rfl)) rfl rfl hl.1 rfl (lv_room (Nat.le_of_ble_eq_true rfl)) dX2_openRow_2 ⟨Nat.le_of_ble_eq_true rfl, Nat.le_of_ble_eq_true rfl⟩) hS (fun q _ h => h) (fun q h => h) (fun u0 a9 t9 H1 locs ht9 hvm9 hw9 hB9 hz9 hk9 hS => ?_)
  rw [ht9] at hB9
  clear hz9 hk9 hvm9 ht9
  generalize H1 = H at hB9 hS ⊢
  obtain ⟨rfl, hW⟩ := hB9
  have hW := hW
  have hW : cw g ad P M H := hW
  refine lv_aload_n hx hb dX2_openRow_5 rfl (lv_at hl 0 rfl) ?_
  refine va_get (D := g.1) (ci := 2) (v := .ref ((ad (b + 18)))) (C := RX2) (T := TX2) (N := 5) hx hb hts hinX2 hown hK (hb1 hW (show b < 126 by omega) (lcE r_b (sh_R0 hb9))) 0 rfl rfl 4 (by decide) k25 (fun _ h9 => h9) rfl dX2_openRow_6 ?_
  refine lv_iload_n hx hb dX2_openRow_9 rfl (lv_at hl 1 rfl) ?_
  have r_b_18 : M (b + 18) = M (b + 18) := hex (b + 18) 
  refine z_iald hx hb hK (hb1 hW (show b + 18 < 126 by omega) (lcE r_b_18 (sh_R18 hb9))) 0 0 rfl rfl (by decide) (1) (by omega) (by omega) dX2_openRow_10 ?_
  refine z_top (y := zI (ct)) (hc9) ?_
  have r_b_3 : M (b + 3) = M (b + 3) := hex (b + 3) 
  refine z_aald hx hb hK (hb1 hW (show b + 3 < 126 by omega) (lcE r_b_3 (sh_Rr3 hb9))) 0 6 rfl rfl rfl (by decide) (ct) (by omega) (by omega) rfl dX2_openRow_11 ?_
  refine lv_astore_n (lv' := [(2, .ref ((ad (b + 1 + (3 + ct))))), (0, .ref ((ad b))), (1, .int (zI (1)))]) hx hb dX2_openRow_12 rfl hl (by decide) rfl (fun ls hl => ?_)
  refine lv_aload_n hx hb dX2_openRow_13 rfl (lv_at hl 1 rfl) ?_
  refine va_get (D := g.1) (ci := 2) (v := .ref ((ad (b + 18)))) (C := RX2) (T := TX2) (N := 5) hx hb hts hinX2 hown hK (hb1 hW (show b < 126 by omega) (lcE r_b (sh_R0 hb9))) 0 rfl rfl 4 (by decide) k25 (fun _ h9 => h9) rfl dX2_openRow_14 ?_
  refine lv_iload_n hx hb dX2_openRow_17 rfl (lv_at hl 2 rfl) ?_
  refine lv_dup2_11 hx hb dX2_openRow_18 rfl rfl ?_
  refine z_iald hx hb hK (hb1 hW (show b + 18 < 126 by omega) (lcE r_b_18 (sh_R18 hb9))) 0 0 rfl rfl (by decide) (1) (by omega) (by omega) dX2_openRow_19 ?_
  refine z_top (y := zI (ct)) (hc9) ?_
  refine lv_iconst (v := zI (1)) hx hb dX2_openRow_20 (by decide) ?_
  refine z_iadd hx hb dX2_openRow_21 ?_
  refine y_iast hx hb hK hW hd9 hS (b + 18) (show b + 18 < 126 by omega) (lcE r_b_18 (sh_R18 hb9)) (by decide) (1) (by omega) (by omega) dX2_openRow_22 (fun H locs hW hS => ?_)
  have hW := cw_up (P := P) (M := M) (f := upd (M (b + 18)) 1 (zI (ct + 1))) ((sh_R18 hb9)) hW
  obtain ⟨M2, hM2⟩ : ∃ x9c : Nat → Nat → Int32, x9c = va_up M (b + 18) (upd (M (b + 18)) 1 (zI (ct + 1))) := ⟨_, rfl⟩
  have hW : cw g ad P M2 H := by rw [hM2]; exact hW
  have hex : ∀ j : Nat, ¬ j = b + 18 → M2 j = M j := fun j q0 => ((congrFun hM2 j).trans (up_ne _ _ q0)).trans (hex j )
  have r_b : M2 (b) = M (b) := ((congrFun hM2 (b)).trans (up_ne _ _ (by omega))).trans r_b
  have r_b_3 : M2 (b + 3) = M (b + 3) := ((congrFun hM2 (b + 3)).trans (up_ne _ _ (by omega))).trans r_b_3
  have r_b_18 : M2 (b + 18) = upd (M (b + 18)) 1 (zI (ct + 1)) := ((congrFun hM2 _).trans (up_at _ _ _))
  refine lv_aload_n hx hb dX2_openRow_23 rfl (lv_at hl 0 rfl) ?_
  have hW : cw g ad P (va_up M (b + 18) (upd (M (b + 18)) 1 (zI (ct + 1)))) H := by
    have e9 : M2 = va_up M (b + 18) (upd (M (b + 18)) 1 (zI (ct + 1))) := by
      funext i9
      by_cases q0 : i9 = b + 18
      · rw [q0]; exact (r_b_18).trans (up_at _ _ _).symm
      exact (hex i9 q0).trans (up_ne _ _ q0).symm
    rw [← e9]; exact hW
  exact W.aret hx hb hr (Or.inr ⟨_, rfl⟩) (Or.inr ⟨_, rfl⟩) (fun tX htX hWX => ⟨⟨(), _, rfl, trivial, rfl, g_at htX hW⟩, hS.F htX⟩) hS.2.2 dX2_openRow_24

set_option maxHeartbeats 4000000 in
set_option maxRecDepth 100000 in
theorem c_X2_openRow_2 (l : Launch) (g : GG) (ad : Nat → Nat) (hd9 : hD ad) (P : Nat → Nat) (M : Nat → Nat → Int32) (b : Nat) (hb9 : b = 8 ∨ b = 27) (ct : Nat) (hc : ct < 3) (hc9 : M (b + 18) 2 = zI ct) : Met l yX2_openRow wsX2_openRow ({ frames := 1, cells := 0, slots := 0, locals := 21 }) (gPc g [.ref ((ad b)), .int (zI (2))] (cw g ad P M)) (va_Qr (fun (u : Unit) => True) (fun (u : Unit) (a9 : Nat) (tS : State) => a9 = (ad (b + 1 + (9 + ct))) ∧ cw g ad P (va_up M (b + 18) (upd (M (b + 18)) 2 (zI (ct + 1)))) tS.heap) (hbA ad)) 0 0 (hbA ad) := by
  refine Met.ofW (cc := cX2_openRow) (maxL := 3) (ret := (some (.array .int))) (by decide) rfl ?_
  intro p e s m args below meth c s₁ B hml hv
  obtain ⟨rfl, hW, hK⟩ := hv
  have hx := B.exec
  have hb := B.bytes
  have hr := B.returns
  have hts := atoms_spec (ws := wsX2_openRow) B.pre
  have hown : s.vm.findClass RX2 = some m.cls := findClass_of_methodNamed B.named
  have hlocks := B.notSynchronized
  have hinX2 : ∀ w ∈ wsX20, w ∈ wsX2_openRow := by decide +kernel
  have k25 := hts (.fieldLink RX2 25 "HoursBank$Rules" "counts" "[I") (by decide +kernel)
  have hl := lv_entry ([.ref ((ad b)), .int (zI (2))]) (n := 3) (Nat.le_of_ble_eq_true rfl)
  rw [lg_entry_eq]
  generalize (lg_sl ([.ref ((ad b)), .int (zI (2))]) ++ List.replicate (3 - (lg_sl ([.ref ((ad b)), .int (zI (2))])).length) Slot.unset).toArray = ls at hl ⊢
  have hl : lv_has ls 3 [(0, .ref ((ad b))), (1, .int (zI (2)))] := hl
  have hS : va_S (hbA ad) s.heap s.heap [] := va_S.rf
  obtain ⟨H, hH9⟩ : ∃ H, H = s.heap := ⟨_, rfl⟩
  obtain ⟨locs, hL9⟩ : ∃ x9l : List Loc, x9l = [] := ⟨_, rfl⟩
  have hW : cw g ad P M H := hH9 ▸ hW
  have hS : va_S (hbA ad) s.heap H locs := by rw [hH9, hL9]; exact hS
  refine z_start hH9 hL9 ?_
  clear hH9 hL9
  have hex : ∀ j : Nat, M j = M j := fun _ => rfl
  refine lv_aload_n hx hb dX2_openRow_0 rfl (lv_at hl 0 rfl) ?_
  refine lv_iload_n hx hb dX2_openRow_1 rfl (lv_at hl 1 rfl) ?_
  have r_b : M (b) = M (b) := hex (b) 
  refine va_callr (va_runV (As := [.int (zI (2))]) (rest := []) ⟨hx, hb, hml, hown, hts⟩ (c_X2_rowsOf_2 l g (ad) (hd9) (P) (M) (b) (hb9)) (cwV 1 hts gX2_openRow_X2_rowsOf rfl rfl rfl (by decide +kernel) ⟨Nat.le_of_ble_eq_true rfl, Nat.le_of_ble_eq_true rfl⟩) (g_preV hW hK (va_recv hK (hb1 hW (show b < 126 by omega) (lcE r_b (sh_R0 hb9))) (q0 := 0) (ci := 2) rfl rfl)) rfl rfl hl.1 rfl (lv_room (Nat.le_of_ble_eq_true rfl)) dX2_openRow_2 ⟨Nat.le_of_ble_eq_true rfl, Nat.le_of_ble_eq_true rfl⟩) hS (fun q _ h => h) (fun q h => h) (fun u0 a9 t9 H1 locs ht9 hvm9 hw9 hB9 hz9 hk9 hS => ?_)
  rw [ht9] at hB9
  clear hz9 hk9 hvm9 ht9
  generalize H1 = H at hB9 hS ⊢
  obtain ⟨rfl, hW⟩ := hB9
  have hW := hW
  have hW : cw g ad P M H := hW
  refine lv_aload_n hx hb dX2_openRow_5 rfl (lv_at hl 0 rfl) ?_
  refine va_get (D := g.1) (ci := 2) (v := .ref ((ad (b + 18)))) (C := RX2) (T := TX2) (N := 5) hx hb hts hinX2 hown hK (hb1 hW (show b < 126 by omega) (lcE r_b (sh_R0 hb9))) 0 rfl rfl 4 (by decide) k25 (fun _ h9 => h9) rfl dX2_openRow_6 ?_
  refine lv_iload_n hx hb dX2_openRow_9 rfl (lv_at hl 1 rfl) ?_
  have r_b_18 : M (b + 18) = M (b + 18) := hex (b + 18) 
  refine z_iald hx hb hK (hb1 hW (show b + 18 < 126 by omega) (lcE r_b_18 (sh_R18 hb9))) 0 0 rfl rfl (by decide) (2) (by omega) (by omega) dX2_openRow_10 ?_
  refine z_top (y := zI (ct)) (hc9) ?_
  have r_b_9 : M (b + 9) = M (b + 9) := hex (b + 9) 
  refine z_aald hx hb hK (hb1 hW (show b + 9 < 126 by omega) (lcE r_b_9 (sh_Rr9 hb9))) 0 6 rfl rfl rfl (by decide) (ct) (by omega) (by omega) rfl dX2_openRow_11 ?_
  refine lv_astore_n (lv' := [(2, .ref ((ad (b + 1 + (9 + ct))))), (0, .ref ((ad b))), (1, .int (zI (2)))]) hx hb dX2_openRow_12 rfl hl (by decide) rfl (fun ls hl => ?_)
  refine lv_aload_n hx hb dX2_openRow_13 rfl (lv_at hl 1 rfl) ?_
  refine va_get (D := g.1) (ci := 2) (v := .ref ((ad (b + 18)))) (C := RX2) (T := TX2) (N := 5) hx hb hts hinX2 hown hK (hb1 hW (show b < 126 by omega) (lcE r_b (sh_R0 hb9))) 0 rfl rfl 4 (by decide) k25 (fun _ h9 => h9) rfl dX2_openRow_14 ?_
  refine lv_iload_n hx hb dX2_openRow_17 rfl (lv_at hl 2 rfl) ?_
  refine lv_dup2_11 hx hb dX2_openRow_18 rfl rfl ?_
  refine z_iald hx hb hK (hb1 hW (show b + 18 < 126 by omega) (lcE r_b_18 (sh_R18 hb9))) 0 0 rfl rfl (by decide) (2) (by omega) (by omega) dX2_openRow_19 ?_
  refine z_top (y := zI (ct)) (hc9) ?_
  refine lv_iconst (v := zI (1)) hx hb dX2_openRow_20 (by decide) ?_
  refine z_iadd hx hb dX2_openRow_21 ?_
  refine y_iast hx hb hK hW hd9 hS (b + 18) (show b + 18 < 126 by omega) (lcE r_b_18 (sh_R18 hb9)) (by decide) (2) (by omega) (by omega) dX2_openRow_22 (fun H locs hW hS => ?_)
  have hW := cw_up (P := P) (M := M) (f := upd (M (b + 18)) 2 (zI (ct + 1))) ((sh_R18 hb9)) hW
  obtain ⟨M2, hM2⟩ : ∃ x9c : Nat → Nat → Int32, x9c = va_up M (b + 18) (upd (M (b + 18)) 2 (zI (ct + 1))) := ⟨_, rfl⟩
  have hW : cw g ad P M2 H := by rw [hM2]; exact hW
  have hex : ∀ j : Nat, ¬ j = b + 18 → M2 j = M j := fun j q0 => ((congrFun hM2 j).trans (up_ne _ _ q0)).trans (hex j )
  have r_b : M2 (b) = M (b) := ((congrFun hM2 (b)).trans (up_ne _ _ (by omega))).trans r_b
  have r_b_9 : M2 (b + 9) = M (b + 9) := ((congrFun hM2 (b + 9)).trans (up_ne _ _ (by omega))).trans r_b_9
  have r_b_18 : M2 (b + 18) = upd (M (b + 18)) 2 (zI (ct + 1)) := ((congrFun hM2 _).trans (up_at _ _ _))
  refine lv_aload_n hx hb dX2_openRow_23 rfl (lv_at hl 0 rfl) ?_
  have hW : cw g ad P (va_up M (b + 18) (upd (M (b + 18)) 2 (zI (ct + 1)))) H := by
    have e9 : M2 = va_up M (b + 18) (upd (M (b + 18)) 2 (zI (ct + 1))) := by
      funext i9
      by_cases q0 : i9 = b + 18
      · rw [q0]; exact (r_b_18).trans (up_at _ _ _).symm
      exact (hex i9 q0).trans (up_ne _ _ q0).symm
    rw [← e9]; exact hW
  exact W.aret hx hb hr (Or.inr ⟨_, rfl⟩) (Or.inr ⟨_, rfl⟩) (fun tX htX hWX => ⟨⟨(), _, rfl, trivial, rfl, g_at htX hW⟩, hS.F htX⟩) hS.2.2 dX2_openRow_24

set_option maxHeartbeats 4000000 in
set_option maxRecDepth 100000 in
theorem c_X2_openRow_3 (l : Launch) (g : GG) (ad : Nat → Nat) (hd9 : hD ad) (P : Nat → Nat) (M : Nat → Nat → Int32) (b : Nat) (hb9 : b = 8 ∨ b = 27) (ct : Nat) (hc : ct < 4) (hc9 : M (b + 18) 3 = zI ct) : Met l yX2_openRow wsX2_openRow ({ frames := 1, cells := 0, slots := 0, locals := 21 }) (gPc g [.ref ((ad b)), .int (zI (3))] (cw g ad P M)) (va_Qr (fun (u : Unit) => True) (fun (u : Unit) (a9 : Nat) (tS : State) => a9 = (ad (b + 1 + (13 + ct))) ∧ cw g ad P (va_up M (b + 18) (upd (M (b + 18)) 3 (zI (ct + 1)))) tS.heap) (hbA ad)) 0 0 (hbA ad) := by
  refine Met.ofW (cc := cX2_openRow) (maxL := 3) (ret := (some (.array .int))) (by decide) rfl ?_
  intro p e s m args below meth c s₁ B hml hv
  obtain ⟨rfl, hW, hK⟩ := hv
  have hx := B.exec
  have hb := B.bytes
  have hr := B.returns
  have hts := atoms_spec (ws := wsX2_openRow) B.pre
  have hown : s.vm.findClass RX2 = some m.cls := findClass_of_methodNamed B.named
  have hlocks := B.notSynchronized
  have hinX2 : ∀ w ∈ wsX20, w ∈ wsX2_openRow := by decide +kernel
  have k25 := hts (.fieldLink RX2 25 "HoursBank$Rules" "counts" "[I") (by decide +kernel)
  have hl := lv_entry ([.ref ((ad b)), .int (zI (3))]) (n := 3) (Nat.le_of_ble_eq_true rfl)
  rw [lg_entry_eq]
  generalize (lg_sl ([.ref ((ad b)), .int (zI (3))]) ++ List.replicate (3 - (lg_sl ([.ref ((ad b)), .int (zI (3))])).length) Slot.unset).toArray = ls at hl ⊢
  have hl : lv_has ls 3 [(0, .ref ((ad b))), (1, .int (zI (3)))] := hl
  have hS : va_S (hbA ad) s.heap s.heap [] := va_S.rf
  obtain ⟨H, hH9⟩ : ∃ H, H = s.heap := ⟨_, rfl⟩
  obtain ⟨locs, hL9⟩ : ∃ x9l : List Loc, x9l = [] := ⟨_, rfl⟩
  have hW : cw g ad P M H := hH9 ▸ hW
  have hS : va_S (hbA ad) s.heap H locs := by rw [hH9, hL9]; exact hS
  refine z_start hH9 hL9 ?_
  clear hH9 hL9
  have hex : ∀ j : Nat, M j = M j := fun _ => rfl
  refine lv_aload_n hx hb dX2_openRow_0 rfl (lv_at hl 0 rfl) ?_
  refine lv_iload_n hx hb dX2_openRow_1 rfl (lv_at hl 1 rfl) ?_
  have r_b : M (b) = M (b) := hex (b) 
  refine va_callr (va_runV (As := [.int (zI (3))]) (rest := []) ⟨hx, hb, hml, hown, hts⟩ (c_X2_rowsOf_3 l g (ad) (hd9) (P) (M) (b) (hb9)) (cwV 1 hts gX2_openRow_X2_rowsOf rfl rfl rfl (by decide +kernel) ⟨Nat.le_of_ble_eq_true rfl, Nat.le_of_ble_eq_true rfl⟩) (g_preV hW hK (va_recv hK (hb1 hW (show b < 126 by omega) (lcE r_b (sh_R0 hb9))) (q0 := 0) (ci := 2) rfl rfl)) rfl rfl hl.1 rfl (lv_room (Nat.le_of_ble_eq_true rfl)) dX2_openRow_2 ⟨Nat.le_of_ble_eq_true rfl, Nat.le_of_ble_eq_true rfl⟩) hS (fun q _ h => h) (fun q h => h) (fun u0 a9 t9 H1 locs ht9 hvm9 hw9 hB9 hz9 hk9 hS => ?_)
  rw [ht9] at hB9
  clear hz9 hk9 hvm9 ht9
  generalize H1 = H at hB9 hS ⊢
  obtain ⟨rfl, hW⟩ := hB9
  have hW := hW
  have hW : cw g ad P M H := hW
  refine lv_aload_n hx hb dX2_openRow_5 rfl (lv_at hl 0 rfl) ?_
  refine va_get (D := g.1) (ci := 2) (v := .ref ((ad (b + 18)))) (C := RX2) (T := TX2) (N := 5) hx hb hts hinX2 hown hK (hb1 hW (show b < 126 by omega) (lcE r_b (sh_R0 hb9))) 0 rfl rfl 4 (by decide) k25 (fun _ h9 => h9) rfl dX2_openRow_6 ?_
  refine lv_iload_n hx hb dX2_openRow_9 rfl (lv_at hl 1 rfl) ?_
  have r_b_18 : M (b + 18) = M (b + 18) := hex (b + 18) 
  refine z_iald hx hb hK (hb1 hW (show b + 18 < 126 by omega) (lcE r_b_18 (sh_R18 hb9))) 0 0 rfl rfl (by decide) (3) (by omega) (by omega) dX2_openRow_10 ?_
  refine z_top (y := zI (ct)) (hc9) ?_
  have r_b_13 : M (b + 13) = M (b + 13) := hex (b + 13) 
  refine z_aald hx hb hK (hb1 hW (show b + 13 < 126 by omega) (lcE r_b_13 (sh_Rr13 hb9))) 0 6 rfl rfl rfl (by decide) (ct) (by omega) (by omega) rfl dX2_openRow_11 ?_
  refine lv_astore_n (lv' := [(2, .ref ((ad (b + 1 + (13 + ct))))), (0, .ref ((ad b))), (1, .int (zI (3)))]) hx hb dX2_openRow_12 rfl hl (by decide) rfl (fun ls hl => ?_)
  refine lv_aload_n hx hb dX2_openRow_13 rfl (lv_at hl 1 rfl) ?_
  refine va_get (D := g.1) (ci := 2) (v := .ref ((ad (b + 18)))) (C := RX2) (T := TX2) (N := 5) hx hb hts hinX2 hown hK (hb1 hW (show b < 126 by omega) (lcE r_b (sh_R0 hb9))) 0 rfl rfl 4 (by decide) k25 (fun _ h9 => h9) rfl dX2_openRow_14 ?_
  refine lv_iload_n hx hb dX2_openRow_17 rfl (lv_at hl 2 rfl) ?_
  refine lv_dup2_11 hx hb dX2_openRow_18 rfl rfl ?_
  refine z_iald hx hb hK (hb1 hW (show b + 18 < 126 by omega) (lcE r_b_18 (sh_R18 hb9))) 0 0 rfl rfl (by decide) (3) (by omega) (by omega) dX2_openRow_19 ?_
  refine z_top (y := zI (ct)) (hc9) ?_
  refine lv_iconst (v := zI (1)) hx hb dX2_openRow_20 (by decide) ?_
  refine z_iadd hx hb dX2_openRow_21 ?_
  refine y_iast hx hb hK hW hd9 hS (b + 18) (show b + 18 < 126 by omega) (lcE r_b_18 (sh_R18 hb9)) (by decide) (3) (by omega) (by omega) dX2_openRow_22 (fun H locs hW hS => ?_)
  have hW := cw_up (P := P) (M := M) (f := upd (M (b + 18)) 3 (zI (ct + 1))) ((sh_R18 hb9)) hW
  obtain ⟨M2, hM2⟩ : ∃ x9c : Nat → Nat → Int32, x9c = va_up M (b + 18) (upd (M (b + 18)) 3 (zI (ct + 1))) := ⟨_, rfl⟩
  have hW : cw g ad P M2 H := by rw [hM2]; exact hW
  have hex : ∀ j : Nat, ¬ j = b + 18 → M2 j = M j := fun j q0 => ((congrFun hM2 j).trans (up_ne _ _ q0)).trans (hex j )
  have r_b : M2 (b) = M (b) := ((congrFun hM2 (b)).trans (up_ne _ _ (by omega))).trans r_b
  have r_b_13 : M2 (b + 13) = M (b + 13) := ((congrFun hM2 (b + 13)).trans (up_ne _ _ (by omega))).trans r_b_13
  have r_b_18 : M2 (b + 18) = upd (M (b + 18)) 3 (zI (ct + 1)) := ((congrFun hM2 _).trans (up_at _ _ _))
  refine lv_aload_n hx hb dX2_openRow_23 rfl (lv_at hl 0 rfl) ?_
  have hW : cw g ad P (va_up M (b + 18) (upd (M (b + 18)) 3 (zI (ct + 1)))) H := by
    have e9 : M2 = va_up M (b + 18) (upd (M (b + 18)) 3 (zI (ct + 1))) := by
      funext i9
      by_cases q0 : i9 = b + 18
      · rw [q0]; exact (r_b_18).trans (up_at _ _ _).symm
      exact (hex i9 q0).trans (up_ne _ _ q0).symm
    rw [← e9]; exact hW
  exact W.aret hx hb hr (Or.inr ⟨_, rfl⟩) (Or.inr ⟨_, rfl⟩) (fun tX htX hWX => ⟨⟨(), _, rfl, trivial, rfl, g_at htX hW⟩, hS.F htX⟩) hS.2.2 dX2_openRow_24

set_option maxHeartbeats 4000000 in
set_option maxRecDepth 100000 in
theorem c_X2_isAsTold_0 (l : Launch) (g : GG) (ad : Nat → Nat) (hd9 : hD ad) (P : Nat → Nat) (M : Nat → Nat → Int32) (kk : KK) (b : Nat) (hb9 : b = 8 ∨ b = 27) (ct : Nat) (hc : ct < 1) (j : Nat) (hj : j < 4) (v x : Nat) (hv : v ≤ 9999) (hx9 : x ≤ 9999) : Met l yX2_isAsTold wsX2_isAsTold ({ frames := 1, cells := 0, slots := 0, locals := 20 }) (gkPc g kk ad [.int (zI (0)), .ref ((ad (b + 1 + (1 + ct)))), .int (zI (j)), .int (zI (v))] (cw g ad P M)) (va_Qi (fun (r : Int32) (u : Unit) => r = zI (bz (loC 0 j x ≤ v ∧ v ≤ sL 4 j))) (fun (u : Unit) (tS : State) => cw g ad P M tS.heap) (hbA ad)) 0 0 (hbA ad) := by
  refine Met.ofW (cc := cX2_isAsTold) (maxL := 5) (ret := (some .boolean)) (by decide) rfl ?_
  intro p e s m args below meth c s₁ B hml hv
  obtain ⟨rfl, hW, hK, hC⟩ := hv
  have hx := B.exec
  have hb := B.bytes
  have hr := B.returns
  have hts := atoms_spec (ws := wsX2_isAsTold) B.pre
  have hown : s.vm.findClass RX2 = some m.cls := findClass_of_methodNamed B.named
  have hlocks := B.notSynchronized
  have hl := lv_entry ([.int (zI (0)), .ref ((ad (b + 1 + (1 + ct)))), .int (zI (j)), .int (zI (v))]) (n := 5) (Nat.le_of_ble_eq_true rfl)
  rw [lg_entry_eq]
  generalize (lg_sl ([.int (zI (0)), .ref ((ad (b + 1 + (1 + ct)))), .int (zI (j)), .int (zI (v))]) ++ List.replicate (5 - (lg_sl ([.int (zI (0)), .ref ((ad (b + 1 + (1 + ct)))), .int (zI (j)), .int (zI (v))])).length) Slot.unset).toArray = ls at hl ⊢
  have hl : lv_has ls 5 [(0, .int (zI (0))), (1, .ref ((ad (b + 1 + (1 + ct))))), (2, .int (zI (j))), (3, .int (zI (v)))] := hl
  have hS : va_S (hbA ad) s.heap s.heap [] := va_S.rf
  obtain ⟨H, hH9⟩ : ∃ H, H = s.heap := ⟨_, rfl⟩
  obtain ⟨locs, hL9⟩ : ∃ x9l : List Loc, x9l = [] := ⟨_, rfl⟩
  have hW : cw g ad P M H := hH9 ▸ hW
  have hS : va_S (hbA ad) s.heap H locs := by rw [hH9, hL9]; exact hS
  refine z_start hH9 hL9 ?_
  clear hH9 hL9
  have hex : ∀ j : Nat, M j = M j := fun _ => rfl
  have hs1 := (sL_ok 0 (by decide) j hj).2
  have hs2 := (sL_ok 4 (by decide) j hj).2
  refine lv_iload_n hx hb dX2_isAsTold_0 rfl (lv_at hl 0 rfl) ?_
  refine va_callr (va_runS (As := [.int (zI (0))]) (rest := []) ⟨hx, hb, hml, hown, hts⟩ (c_X2_leastOf_0 l g (ad) (hd9) (P) (M) (kk)) (va_cwS 1 hts gX2_isAsTold_X2_leastOf rfl rfl rfl (by decide +kernel) ⟨Nat.le_of_ble_eq_true rfl, Nat.le_of_ble_eq_true rfl⟩) (gk_preS hW hK hC hS) rfl rfl hl.1 rfl (lv_room (Nat.le_of_ble_eq_true rfl)) dX2_isAsTold_1 ⟨Nat.le_of_ble_eq_true rfl, Nat.le_of_ble_eq_true rfl⟩) hS (fun q _ h => h) (fun q h => h) (fun u0 a9 t9 H1 locs ht9 hvm9 hw9 hB9 hz9 hk9 hS => ?_)
  rw [ht9] at hB9
  clear hz9 hk9 hvm9 ht9
  generalize H1 = H at hB9 hS ⊢
  obtain ⟨rfl, hW⟩ := hB9
  have hW := hW
  have hW : cw g ad P M H := hW
  refine lv_iload_n hx hb dX2_isAsTold_4 rfl (lv_at hl 2 rfl) ?_
  refine va_ti hx hb (hC.2.1 0 (by decide)).2 hS (zI_in (n := j) (hj) (by decide)) (v := .int (zI (sL 0 j))) (by rw [zI_clamp (by omega)]; exact congrArg Value.int (sL_ok 0 (by decide) j (hj)).1) dX2_isAsTold_5 ?_
  refine lv_istore (lv' := [(4, .int (zI (((sL 0 j : Nat) : Int)))), (0, .int (zI (0))), (1, .ref ((ad (b + 1 + (1 + ct))))), (2, .int (zI (j))), (3, .int (zI (v)))]) hx hb dX2_isAsTold_6 hl (by decide) rfl (fun ls hl => ?_)
  refine lv_iload_n hx hb dX2_isAsTold_8 rfl (lv_at hl 1 rfl) ?_
  refine lv_iconst (v := zI (1)) hx hb dX2_isAsTold_9 (by decide) ?_
  refine z_icmp_ne (tgt := 23) hx hb dX2_isAsTold_10 (by decide) (by omega) (by omega) (fun h10 => ?_) (fun h10 => ?_)
  · refine lv_iload_n hx hb dX2_isAsTold_23 rfl (lv_at hl 4 rfl) ?_
    refine lv_iload hx hb dX2_isAsTold_24 (lv_at hl 0 rfl) ?_
    refine z_icmp_lt (tgt := 43) hx hb dX2_isAsTold_26 (by decide) (by omega) (by omega) (fun h26 => ?_) (fun h26 => ?_)
    · refine lv_iconst (v := zI (0)) hx hb dX2_isAsTold_43 (by decide) ?_
      have hW : cw g ad P M H := hW
      exact W.zret hx hb hr (by decide) (fun tX htX hWX => ⟨⟨_, (), rfl, bz_0 (by unfold loC; first | (rw [if_pos (by omega)]; omega) | (rw [if_neg (by omega)]; omega)), g_at htX hW⟩, hS.F htX⟩) hS.2.2 dX2_isAsTold_44
    · refine lv_iload_n hx hb dX2_isAsTold_29 rfl (lv_at hl 4 rfl) ?_
      refine lv_iload_n hx hb dX2_isAsTold_30 rfl (lv_at hl 1 rfl) ?_
      refine va_callr (va_runS (As := [.int (zI (0))]) (rest := [.int (zI (v))]) ⟨hx, hb, hml, hown, hts⟩ (c_X2_mostOf_0 l g (ad) (hd9) (P) (M) (kk)) (va_cwS 1 hts gX2_isAsTold_X2_mostOf rfl rfl rfl (by decide +kernel) ⟨Nat.le_of_ble_eq_true rfl, Nat.le_of_ble_eq_true rfl⟩) (gk_preS hW hK hC hS) rfl rfl hl.1 rfl (lv_room (Nat.le_of_ble_eq_true rfl)) dX2_isAsTold_31 ⟨Nat.le_of_ble_eq_true rfl, Nat.le_of_ble_eq_true rfl⟩) hS (fun q _ h => h) (fun q h => h) (fun u1 a9 t9 H1 locs ht9 hvm9 hw9 hB9 hz9 hk9 hS => ?_)
      rw [ht9] at hB9
      clear hz9 hk9 hvm9 ht9
      generalize H1 = H at hB9 hS ⊢
      obtain ⟨rfl, hW⟩ := hB9
      have hW := hW
      have hW : cw g ad P M H := hW
      refine lv_iload_n hx hb dX2_isAsTold_34 rfl (lv_at hl 3 rfl) ?_
      refine va_ti hx hb (hC.2.1 4 (by decide)).2 hS (zI_in (n := j) (hj) (by decide)) (v := .int (zI (sL 4 j))) (by rw [zI_clamp (by omega)]; exact congrArg Value.int (sL_ok 4 (by decide) j (hj)).1) dX2_isAsTold_35 ?_
      refine z_icmp_gt (tgt := 43) hx hb dX2_isAsTold_36 (by decide) (by omega) (by omega) (fun h36 => ?_) (fun h36 => ?_)
      · refine lv_iconst (v := zI (0)) hx hb dX2_isAsTold_43 (by decide) ?_
        have hW : cw g ad P M H := hW
        exact W.zret hx hb hr (by decide) (fun tX htX hWX => ⟨⟨_, (), rfl, bz_0 (by unfold loC; first | (rw [if_pos (by omega)]; omega) | (rw [if_neg (by omega)]; omega)), g_at htX hW⟩, hS.F htX⟩) hS.2.2 dX2_isAsTold_44
      · refine lv_iconst (v := zI (1)) hx hb dX2_isAsTold_39 (by decide) ?_
        refine lv_goto (tgt := 44) hx hb dX2_isAsTold_40 (by decide) ?_
        have hW : cw g ad P M H := hW
        exact W.zret hx hb hr (by decide) (fun tX htX hWX => ⟨⟨_, (), rfl, bz_1 (by unfold loC; first | (rw [if_pos (by omega)]; omega) | (rw [if_neg (by omega)]; omega)), g_at htX hW⟩, hS.F htX⟩) hS.2.2 dX2_isAsTold_44
  · exfalso; omega

set_option maxHeartbeats 4000000 in
set_option maxRecDepth 100000 in
theorem c_X2_isAsTold_1 (l : Launch) (g : GG) (ad : Nat → Nat) (hd9 : hD ad) (P : Nat → Nat) (M : Nat → Nat → Int32) (kk : KK) (b : Nat) (hb9 : b = 8 ∨ b = 27) (ct : Nat) (hc : ct < 5) (j : Nat) (hj : j < 9) (v x : Nat) (hv : v ≤ 9999) (hx9 : x ≤ 9999) (hx0 : j = 1 → M (b + 1 + (3 + ct)) 0 = zI x) : Met l yX2_isAsTold wsX2_isAsTold ({ frames := 1, cells := 0, slots := 0, locals := 20 }) (gkPc g kk ad [.int (zI (1)), .ref ((ad (b + 1 + (3 + ct)))), .int (zI (j)), .int (zI (v))] (cw g ad P M)) (va_Qi (fun (r : Int32) (u : Unit) => r = zI (bz (loC 1 j x ≤ v ∧ v ≤ sL 5 j))) (fun (u : Unit) (tS : State) => cw g ad P M tS.heap) (hbA ad)) 0 0 (hbA ad) := by
  refine Met.ofW (cc := cX2_isAsTold) (maxL := 5) (ret := (some .boolean)) (by decide) rfl ?_
  intro p e s m args below meth c s₁ B hml hv
  obtain ⟨rfl, hW, hK, hC⟩ := hv
  have hx := B.exec
  have hb := B.bytes
  have hr := B.returns
  have hts := atoms_spec (ws := wsX2_isAsTold) B.pre
  have hown : s.vm.findClass RX2 = some m.cls := findClass_of_methodNamed B.named
  have hlocks := B.notSynchronized
  have hl := lv_entry ([.int (zI (1)), .ref ((ad (b + 1 + (3 + ct)))), .int (zI (j)), .int (zI (v))]) (n := 5) (Nat.le_of_ble_eq_true rfl)
  rw [lg_entry_eq]
  generalize (lg_sl ([.int (zI (1)), .ref ((ad (b + 1 + (3 + ct)))), .int (zI (j)), .int (zI (v))]) ++ List.replicate (5 - (lg_sl ([.int (zI (1)), .ref ((ad (b + 1 + (3 + ct)))), .int (zI (j)), .int (zI (v))])).length) Slot.unset).toArray = ls at hl ⊢
  have hl : lv_has ls 5 [(0, .int (zI (1))), (1, .ref ((ad (b + 1 + (3 + ct))))), (2, .int (zI (j))), (3, .int (zI (v)))] := hl
  have hS : va_S (hbA ad) s.heap s.heap [] := va_S.rf
  obtain ⟨H, hH9⟩ : ∃ H, H = s.heap := ⟨_, rfl⟩
  obtain ⟨locs, hL9⟩ : ∃ x9l : List Loc, x9l = [] := ⟨_, rfl⟩
  have hW : cw g ad P M H := hH9 ▸ hW
  have hS : va_S (hbA ad) s.heap H locs := by rw [hH9, hL9]; exact hS
  refine z_start hH9 hL9 ?_
  clear hH9 hL9
  have hex : ∀ j : Nat, M j = M j := fun _ => rfl
  have hs1 := (sL_ok 1 (by decide) j hj).2
  have hs2 := (sL_ok 5 (by decide) j hj).2
  refine lv_iload_n hx hb dX2_isAsTold_0 rfl (lv_at hl 0 rfl) ?_
  refine va_callr (va_runS (As := [.int (zI (1))]) (rest := []) ⟨hx, hb, hml, hown, hts⟩ (c_X2_leastOf_1 l g (ad) (hd9) (P) (M) (kk)) (va_cwS 1 hts gX2_isAsTold_X2_leastOf rfl rfl rfl (by decide +kernel) ⟨Nat.le_of_ble_eq_true rfl, Nat.le_of_ble_eq_true rfl⟩) (gk_preS hW hK hC hS) rfl rfl hl.1 rfl (lv_room (Nat.le_of_ble_eq_true rfl)) dX2_isAsTold_1 ⟨Nat.le_of_ble_eq_true rfl, Nat.le_of_ble_eq_true rfl⟩) hS (fun q _ h => h) (fun q h => h) (fun u0 a9 t9 H1 locs ht9 hvm9 hw9 hB9 hz9 hk9 hS => ?_)
  rw [ht9] at hB9
  clear hz9 hk9 hvm9 ht9
  generalize H1 = H at hB9 hS ⊢
  obtain ⟨rfl, hW⟩ := hB9
  have hW := hW
  have hW : cw g ad P M H := hW
  refine lv_iload_n hx hb dX2_isAsTold_4 rfl (lv_at hl 2 rfl) ?_
  refine va_ti hx hb (hC.2.1 1 (by decide)).2 hS (zI_in (n := j) (hj) (by decide)) (v := .int (zI (sL 1 j))) (by rw [zI_clamp (by omega)]; exact congrArg Value.int (sL_ok 1 (by decide) j (hj)).1) dX2_isAsTold_5 ?_
  refine lv_istore (lv' := [(4, .int (zI (((sL 1 j : Nat) : Int)))), (0, .int (zI (1))), (1, .ref ((ad (b + 1 + (3 + ct))))), (2, .int (zI (j))), (3, .int (zI (v)))]) hx hb dX2_isAsTold_6 hl (by decide) rfl (fun ls hl => ?_)
  refine lv_iload_n hx hb dX2_isAsTold_8 rfl (lv_at hl 1 rfl) ?_
  refine lv_iconst (v := zI (1)) hx hb dX2_isAsTold_9 (by decide) ?_
  refine z_icmp_ne (tgt := 23) hx hb dX2_isAsTold_10 (by decide) (by omega) (by omega) (fun h10 => ?_) (fun h10 => ?_)
  · exfalso; omega
  · refine lv_iload_n hx hb dX2_isAsTold_13 rfl (lv_at hl 3 rfl) ?_
    refine lv_iconst (v := zI (1)) hx hb dX2_isAsTold_14 (by decide) ?_
    refine z_icmp_ne (tgt := 23) hx hb dX2_isAsTold_15 (by decide) (by omega) (by omega) (fun h15 => ?_) (fun h15 => ?_)
    · refine lv_iload_n hx hb dX2_isAsTold_23 rfl (lv_at hl 4 rfl) ?_
      refine lv_iload hx hb dX2_isAsTold_24 (lv_at hl 0 rfl) ?_
      refine z_icmp_lt (tgt := 43) hx hb dX2_isAsTold_26 (by decide) (by omega) (by omega) (fun h26 => ?_) (fun h26 => ?_)
      · refine lv_iconst (v := zI (0)) hx hb dX2_isAsTold_43 (by decide) ?_
        have hW : cw g ad P M H := hW
        exact W.zret hx hb hr (by decide) (fun tX htX hWX => ⟨⟨_, (), rfl, bz_0 (by unfold loC; first | (rw [if_pos (by omega)]; omega) | (rw [if_neg (by omega)]; omega)), g_at htX hW⟩, hS.F htX⟩) hS.2.2 dX2_isAsTold_44
      · refine lv_iload_n hx hb dX2_isAsTold_29 rfl (lv_at hl 4 rfl) ?_
        refine lv_iload_n hx hb dX2_isAsTold_30 rfl (lv_at hl 1 rfl) ?_
        refine va_callr (va_runS (As := [.int (zI (1))]) (rest := [.int (zI (v))]) ⟨hx, hb, hml, hown, hts⟩ (c_X2_mostOf_1 l g (ad) (hd9) (P) (M) (kk)) (va_cwS 1 hts gX2_isAsTold_X2_mostOf rfl rfl rfl (by decide +kernel) ⟨Nat.le_of_ble_eq_true rfl, Nat.le_of_ble_eq_true rfl⟩) (gk_preS hW hK hC hS) rfl rfl hl.1 rfl (lv_room (Nat.le_of_ble_eq_true rfl)) dX2_isAsTold_31 ⟨Nat.le_of_ble_eq_true rfl, Nat.le_of_ble_eq_true rfl⟩) hS (fun q _ h => h) (fun q h => h) (fun u1 a9 t9 H1 locs ht9 hvm9 hw9 hB9 hz9 hk9 hS => ?_)
        rw [ht9] at hB9
        clear hz9 hk9 hvm9 ht9
        generalize H1 = H at hB9 hS ⊢
        obtain ⟨rfl, hW⟩ := hB9
        have hW := hW
        have hW : cw g ad P M H := hW
        refine lv_iload_n hx hb dX2_isAsTold_34 rfl (lv_at hl 3 rfl) ?_
        refine va_ti hx hb (hC.2.1 5 (by decide)).2 hS (zI_in (n := j) (hj) (by decide)) (v := .int (zI (sL 5 j))) (by rw [zI_clamp (by omega)]; exact congrArg Value.int (sL_ok 5 (by decide) j (hj)).1) dX2_isAsTold_35 ?_
        refine z_icmp_gt (tgt := 43) hx hb dX2_isAsTold_36 (by decide) (by omega) (by omega) (fun h36 => ?_) (fun h36 => ?_)
        · refine lv_iconst (v := zI (0)) hx hb dX2_isAsTold_43 (by decide) ?_
          have hW : cw g ad P M H := hW
          exact W.zret hx hb hr (by decide) (fun tX htX hWX => ⟨⟨_, (), rfl, bz_0 (by unfold loC; first | (rw [if_pos (by omega)]; omega) | (rw [if_neg (by omega)]; omega)), g_at htX hW⟩, hS.F htX⟩) hS.2.2 dX2_isAsTold_44
        · refine lv_iconst (v := zI (1)) hx hb dX2_isAsTold_39 (by decide) ?_
          refine lv_goto (tgt := 44) hx hb dX2_isAsTold_40 (by decide) ?_
          have hW : cw g ad P M H := hW
          exact W.zret hx hb hr (by decide) (fun tX htX hWX => ⟨⟨_, (), rfl, bz_1 (by unfold loC; first | (rw [if_pos (by omega)]; omega) | (rw [if_neg (by omega)]; omega)), g_at htX hW⟩, hS.F htX⟩) hS.2.2 dX2_isAsTold_44
    · refine lv_aload_n hx hb dX2_isAsTold_18 rfl (lv_at hl 2 rfl) ?_
      refine lv_iconst (v := zI (0)) hx hb dX2_isAsTold_19 (by decide) ?_
      have r_b_1_3_ct : M (b + 1 + (3 + ct)) = M (b + 1 + (3 + ct)) := hex (b + 1 + (3 + ct)) 
      refine z_iald hx hb hK (hb1 hW (show b + 1 + (3 + ct) < 126 by omega) (lcE r_b_1_3_ct (sh_Rw3 (i := ct) hb9 (by omega)))) 0 0 rfl rfl (by decide) (0) (by omega) (by omega) dX2_isAsTold_20 ?_
      refine z_top (y := zI (x)) (hx0 (by omega)) ?_
      refine lv_istore (lv' := [(4, .int (zI (x))), (0, .int (zI (1))), (1, .ref ((ad (b + 1 + (3 + ct))))), (2, .int (zI (j))), (3, .int (zI (v)))]) hx hb dX2_isAsTold_21 hl (by decide) rfl (fun ls hl => ?_)
      refine lv_iload_n hx hb dX2_isAsTold_23 rfl (lv_at hl 4 rfl) ?_
      refine lv_iload hx hb dX2_isAsTold_24 (lv_at hl 0 rfl) ?_
      refine z_icmp_lt (tgt := 43) hx hb dX2_isAsTold_26 (by decide) (by omega) (by omega) (fun h26 => ?_) (fun h26 => ?_)
      · refine lv_iconst (v := zI (0)) hx hb dX2_isAsTold_43 (by decide) ?_
        have hW : cw g ad P M H := hW
        exact W.zret hx hb hr (by decide) (fun tX htX hWX => ⟨⟨_, (), rfl, bz_0 (by unfold loC; first | (rw [if_pos (by omega)]; omega) | (rw [if_neg (by omega)]; omega)), g_at htX hW⟩, hS.F htX⟩) hS.2.2 dX2_isAsTold_44
      · refine lv_iload_n hx hb dX2_isAsTold_29 rfl (lv_at hl 4 rfl) ?_
        refine lv_iload_n hx hb dX2_isAsTold_30 rfl (lv_at hl 1 rfl) ?_
        refine va_callr (va_runS (As := [.int (zI (1))]) (rest := [.int (zI (v))]) ⟨hx, hb, hml, hown, hts⟩ (c_X2_mostOf_1 l g (ad) (hd9) (P) (M) (kk)) (va_cwS 1 hts gX2_isAsTold_X2_mostOf rfl rfl rfl (by decide +kernel) ⟨Nat.le_of_ble_eq_true rfl, Nat.le_of_ble_eq_true rfl⟩) (gk_preS hW hK hC hS) rfl rfl hl.1 rfl (lv_room (Nat.le_of_ble_eq_true rfl)) dX2_isAsTold_31 ⟨Nat.le_of_ble_eq_true rfl, Nat.le_of_ble_eq_true rfl⟩) hS (fun q _ h => h) (fun q h => h) (fun u2 a9 t9 H1 locs ht9 hvm9 hw9 hB9 hz9 hk9 hS => ?_)
        rw [ht9] at hB9
        clear hz9 hk9 hvm9 ht9
        generalize H1 = H at hB9 hS ⊢
        obtain ⟨rfl, hW⟩ := hB9
        have hW := hW
        have hW : cw g ad P M H := hW
        refine lv_iload_n hx hb dX2_isAsTold_34 rfl (lv_at hl 3 rfl) ?_
        refine va_ti hx hb (hC.2.1 5 (by decide)).2 hS (zI_in (n := j) (hj) (by decide)) (v := .int (zI (sL 5 j))) (by rw [zI_clamp (by omega)]; exact congrArg Value.int (sL_ok 5 (by decide) j (hj)).1) dX2_isAsTold_35 ?_
        refine z_icmp_gt (tgt := 43) hx hb dX2_isAsTold_36 (by decide) (by omega) (by omega) (fun h36 => ?_) (fun h36 => ?_)
        · refine lv_iconst (v := zI (0)) hx hb dX2_isAsTold_43 (by decide) ?_
          have hW : cw g ad P M H := hW
          exact W.zret hx hb hr (by decide) (fun tX htX hWX => ⟨⟨_, (), rfl, bz_0 (by unfold loC; first | (rw [if_pos (by omega)]; omega) | (rw [if_neg (by omega)]; omega)), g_at htX hW⟩, hS.F htX⟩) hS.2.2 dX2_isAsTold_44
        · refine lv_iconst (v := zI (1)) hx hb dX2_isAsTold_39 (by decide) ?_
          refine lv_goto (tgt := 44) hx hb dX2_isAsTold_40 (by decide) ?_
          have hW : cw g ad P M H := hW
          exact W.zret hx hb hr (by decide) (fun tX htX hWX => ⟨⟨_, (), rfl, bz_1 (by unfold loC; first | (rw [if_pos (by omega)]; omega) | (rw [if_neg (by omega)]; omega)), g_at htX hW⟩, hS.F htX⟩) hS.2.2 dX2_isAsTold_44

set_option maxHeartbeats 4000000 in
set_option maxRecDepth 100000 in
theorem c_X2_isAsTold_2 (l : Launch) (g : GG) (ad : Nat → Nat) (hd9 : hD ad) (P : Nat → Nat) (M : Nat → Nat → Int32) (kk : KK) (b : Nat) (hb9 : b = 8 ∨ b = 27) (ct : Nat) (hc : ct < 3) (j : Nat) (hj : j < 2) (v x : Nat) (hv : v ≤ 9999) (hx9 : x ≤ 9999) : Met l yX2_isAsTold wsX2_isAsTold ({ frames := 1, cells := 0, slots := 0, locals := 20 }) (gkPc g kk ad [.int (zI (2)), .ref ((ad (b + 1 + (9 + ct)))), .int (zI (j)), .int (zI (v))] (cw g ad P M)) (va_Qi (fun (r : Int32) (u : Unit) => r = zI (bz (loC 2 j x ≤ v ∧ v ≤ sL 6 j))) (fun (u : Unit) (tS : State) => cw g ad P M tS.heap) (hbA ad)) 0 0 (hbA ad) := by
  refine Met.ofW (cc := cX2_isAsTold) (maxL := 5) (ret := (some .boolean)) (by decide) rfl ?_
  intro p e s m args below meth c s₁ B hml hv
  obtain ⟨rfl, hW, hK, hC⟩ := hv
  have hx := B.exec
  have hb := B.bytes
  have hr := B.returns
  have hts := atoms_spec (ws := wsX2_isAsTold) B.pre
  have hown : s.vm.findClass RX2 = some m.cls := findClass_of_methodNamed B.named
  have hlocks := B.notSynchronized
  have hl := lv_entry ([.int (zI (2)), .ref ((ad (b + 1 + (9 + ct)))), .int (zI (j)), .int (zI (v))]) (n := 5) (Nat.le_of_ble_eq_true rfl)
  rw [lg_entry_eq]
  generalize (lg_sl ([.int (zI (2)), .ref ((ad (b + 1 + (9 + ct)))), .int (zI (j)), .int (zI (v))]) ++ List.replicate (5 - (lg_sl ([.int (zI (2)), .ref ((ad (b + 1 + (9 + ct)))), .int (zI (j)), .int (zI (v))])).length) Slot.unset).toArray = ls at hl ⊢
  have hl : lv_has ls 5 [(0, .int (zI (2))), (1, .ref ((ad (b + 1 + (9 + ct))))), (2, .int (zI (j))), (3, .int (zI (v)))] := hl
  have hS : va_S (hbA ad) s.heap s.heap [] := va_S.rf
  obtain ⟨H, hH9⟩ : ∃ H, H = s.heap := ⟨_, rfl⟩
  obtain ⟨locs, hL9⟩ : ∃ x9l : List Loc, x9l = [] := ⟨_, rfl⟩
  have hW : cw g ad P M H := hH9 ▸ hW
  have hS : va_S (hbA ad) s.heap H locs := by rw [hH9, hL9]; exact hS
  refine z_start hH9 hL9 ?_
  clear hH9 hL9
  have hex : ∀ j : Nat, M j = M j := fun _ => rfl
  have hs1 := (sL_ok 2 (by decide) j hj).2
  have hs2 := (sL_ok 6 (by decide) j hj).2
  refine lv_iload_n hx hb dX2_isAsTold_0 rfl (lv_at hl 0 rfl) ?_
  refine va_callr (va_runS (As := [.int (zI (2))]) (rest := []) ⟨hx, hb, hml, hown, hts⟩ (c_X2_leastOf_2 l g (ad) (hd9) (P) (M) (kk)) (va_cwS 1 hts gX2_isAsTold_X2_leastOf rfl rfl rfl (by decide +kernel) ⟨Nat.le_of_ble_eq_true rfl, Nat.le_of_ble_eq_true rfl⟩) (gk_preS hW hK hC hS) rfl rfl hl.1 rfl (lv_room (Nat.le_of_ble_eq_true rfl)) dX2_isAsTold_1 ⟨Nat.le_of_ble_eq_true rfl, Nat.le_of_ble_eq_true rfl⟩) hS (fun q _ h => h) (fun q h => h) (fun u0 a9 t9 H1 locs ht9 hvm9 hw9 hB9 hz9 hk9 hS => ?_)
  rw [ht9] at hB9
  clear hz9 hk9 hvm9 ht9
  generalize H1 = H at hB9 hS ⊢
  obtain ⟨rfl, hW⟩ := hB9
  have hW := hW
  have hW : cw g ad P M H := hW
  refine lv_iload_n hx hb dX2_isAsTold_4 rfl (lv_at hl 2 rfl) ?_
  refine va_ti hx hb (hC.2.1 2 (by decide)).2 hS (zI_in (n := j) (hj) (by decide)) (v := .int (zI (sL 2 j))) (by rw [zI_clamp (by omega)]; exact congrArg Value.int (sL_ok 2 (by decide) j (hj)).1) dX2_isAsTold_5 ?_
  refine lv_istore (lv' := [(4, .int (zI (((sL 2 j : Nat) : Int)))), (0, .int (zI (2))), (1, .ref ((ad (b + 1 + (9 + ct))))), (2, .int (zI (j))), (3, .int (zI (v)))]) hx hb dX2_isAsTold_6 hl (by decide) rfl (fun ls hl => ?_)
  refine lv_iload_n hx hb dX2_isAsTold_8 rfl (lv_at hl 1 rfl) ?_
  refine lv_iconst (v := zI (1)) hx hb dX2_isAsTold_9 (by decide) ?_
  refine z_icmp_ne (tgt := 23) hx hb dX2_isAsTold_10 (by decide) (by omega) (by omega) (fun h10 => ?_) (fun h10 => ?_)
  · refine lv_iload_n hx hb dX2_isAsTold_23 rfl (lv_at hl 4 rfl) ?_
    refine lv_iload hx hb dX2_isAsTold_24 (lv_at hl 0 rfl) ?_
    refine z_icmp_lt (tgt := 43) hx hb dX2_isAsTold_26 (by decide) (by omega) (by omega) (fun h26 => ?_) (fun h26 => ?_)
    · refine lv_iconst (v := zI (0)) hx hb dX2_isAsTold_43 (by decide) ?_
      have hW : cw g ad P M H := hW
      exact W.zret hx hb hr (by decide) (fun tX htX hWX => ⟨⟨_, (), rfl, bz_0 (by unfold loC; first | (rw [if_pos (by omega)]; omega) | (rw [if_neg (by omega)]; omega)), g_at htX hW⟩, hS.F htX⟩) hS.2.2 dX2_isAsTold_44
    · refine lv_iload_n hx hb dX2_isAsTold_29 rfl (lv_at hl 4 rfl) ?_
      refine lv_iload_n hx hb dX2_isAsTold_30 rfl (lv_at hl 1 rfl) ?_
      refine va_callr (va_runS (As := [.int (zI (2))]) (rest := [.int (zI (v))]) ⟨hx, hb, hml, hown, hts⟩ (c_X2_mostOf_2 l g (ad) (hd9) (P) (M) (kk)) (va_cwS 1 hts gX2_isAsTold_X2_mostOf rfl rfl rfl (by decide +kernel) ⟨Nat.le_of_ble_eq_true rfl, Nat.le_of_ble_eq_true rfl⟩) (gk_preS hW hK hC hS) rfl rfl hl.1 rfl (lv_room (Nat.le_of_ble_eq_true rfl)) dX2_isAsTold_31 ⟨Nat.le_of_ble_eq_true rfl, Nat.le_of_ble_eq_true rfl⟩) hS (fun q _ h => h) (fun q h => h) (fun u1 a9 t9 H1 locs ht9 hvm9 hw9 hB9 hz9 hk9 hS => ?_)
      rw [ht9] at hB9
      clear hz9 hk9 hvm9 ht9
      generalize H1 = H at hB9 hS ⊢
      obtain ⟨rfl, hW⟩ := hB9
      have hW := hW
      have hW : cw g ad P M H := hW
      refine lv_iload_n hx hb dX2_isAsTold_34 rfl (lv_at hl 3 rfl) ?_
      refine va_ti hx hb (hC.2.1 6 (by decide)).2 hS (zI_in (n := j) (hj) (by decide)) (v := .int (zI (sL 6 j))) (by rw [zI_clamp (by omega)]; exact congrArg Value.int (sL_ok 6 (by decide) j (hj)).1) dX2_isAsTold_35 ?_
      refine z_icmp_gt (tgt := 43) hx hb dX2_isAsTold_36 (by decide) (by omega) (by omega) (fun h36 => ?_) (fun h36 => ?_)
      · refine lv_iconst (v := zI (0)) hx hb dX2_isAsTold_43 (by decide) ?_
        have hW : cw g ad P M H := hW
        exact W.zret hx hb hr (by decide) (fun tX htX hWX => ⟨⟨_, (), rfl, bz_0 (by unfold loC; first | (rw [if_pos (by omega)]; omega) | (rw [if_neg (by omega)]; omega)), g_at htX hW⟩, hS.F htX⟩) hS.2.2 dX2_isAsTold_44
      · refine lv_iconst (v := zI (1)) hx hb dX2_isAsTold_39 (by decide) ?_
        refine lv_goto (tgt := 44) hx hb dX2_isAsTold_40 (by decide) ?_
        have hW : cw g ad P M H := hW
        exact W.zret hx hb hr (by decide) (fun tX htX hWX => ⟨⟨_, (), rfl, bz_1 (by unfold loC; first | (rw [if_pos (by omega)]; omega) | (rw [if_neg (by omega)]; omega)), g_at htX hW⟩, hS.F htX⟩) hS.2.2 dX2_isAsTold_44
  · exfalso; omega

set_option maxHeartbeats 4000000 in
set_option maxRecDepth 100000 in
theorem c_X2_isAsTold_3 (l : Launch) (g : GG) (ad : Nat → Nat) (hd9 : hD ad) (P : Nat → Nat) (M : Nat → Nat → Int32) (kk : KK) (b : Nat) (hb9 : b = 8 ∨ b = 27) (ct : Nat) (hc : ct < 4) (j : Nat) (hj : j < 2) (v x : Nat) (hv : v ≤ 9999) (hx9 : x ≤ 9999) : Met l yX2_isAsTold wsX2_isAsTold ({ frames := 1, cells := 0, slots := 0, locals := 20 }) (gkPc g kk ad [.int (zI (3)), .ref ((ad (b + 1 + (13 + ct)))), .int (zI (j)), .int (zI (v))] (cw g ad P M)) (va_Qi (fun (r : Int32) (u : Unit) => r = zI (bz (loC 3 j x ≤ v ∧ v ≤ sL 7 j))) (fun (u : Unit) (tS : State) => cw g ad P M tS.heap) (hbA ad)) 0 0 (hbA ad) := by
  refine Met.ofW (cc := cX2_isAsTold) (maxL := 5) (ret := (some .boolean)) (by decide) rfl ?_
  intro p e s m args below meth c s₁ B hml hv
  obtain ⟨rfl, hW, hK, hC⟩ := hv
  have hx := B.exec
  have hb := B.bytes
  have hr := B.returns
  have hts := atoms_spec (ws := wsX2_isAsTold) B.pre
  have hown : s.vm.findClass RX2 = some m.cls := findClass_of_methodNamed B.named
  have hlocks := B.notSynchronized
  have hl := lv_entry ([.int (zI (3)), .ref ((ad (b + 1 + (13 + ct)))), .int (zI (j)), .int (zI (v))]) (n := 5) (Nat.le_of_ble_eq_true rfl)
  rw [lg_entry_eq]
  generalize (lg_sl ([.int (zI (3)), .ref ((ad (b + 1 + (13 + ct)))), .int (zI (j)), .int (zI (v))]) ++ List.replicate (5 - (lg_sl ([.int (zI (3)), .ref ((ad (b + 1 + (13 + ct)))), .int (zI (j)), .int (zI (v))])).length) Slot.unset).toArray = ls at hl ⊢
  have hl : lv_has ls 5 [(0, .int (zI (3))), (1, .ref ((ad (b + 1 + (13 + ct))))), (2, .int (zI (j))), (3, .int (zI (v)))] := hl
  have hS : va_S (hbA ad) s.heap s.heap [] := va_S.rf
  obtain ⟨H, hH9⟩ : ∃ H, H = s.heap := ⟨_, rfl⟩
  obtain ⟨locs, hL9⟩ : ∃ x9l : List Loc, x9l = [] := ⟨_, rfl⟩
  have hW : cw g ad P M H := hH9 ▸ hW
  have hS : va_S (hbA ad) s.heap H locs := by rw [hH9, hL9]; exact hS
  refine z_start hH9 hL9 ?_
  clear hH9 hL9
  have hex : ∀ j : Nat, M j = M j := fun _ => rfl
  have hs1 := (sL_ok 3 (by decide) j hj).2
  have hs2 := (sL_ok 7 (by decide) j hj).2
  refine lv_iload_n hx hb dX2_isAsTold_0 rfl (lv_at hl 0 rfl) ?_
  refine va_callr (va_runS (As := [.int (zI (3))]) (rest := []) ⟨hx, hb, hml, hown, hts⟩ (c_X2_leastOf_3 l g (ad) (hd9) (P) (M) (kk)) (va_cwS 1 hts gX2_isAsTold_X2_leastOf rfl rfl rfl (by decide +kernel) ⟨Nat.le_of_ble_eq_true rfl, Nat.le_of_ble_eq_true rfl⟩) (gk_preS hW hK hC hS) rfl rfl hl.1 rfl (lv_room (Nat.le_of_ble_eq_true rfl)) dX2_isAsTold_1 ⟨Nat.le_of_ble_eq_true rfl, Nat.le_of_ble_eq_true rfl⟩) hS (fun q _ h => h) (fun q h => h) (fun u0 a9 t9 H1 locs ht9 hvm9 hw9 hB9 hz9 hk9 hS => ?_)
  rw [ht9] at hB9
  clear hz9 hk9 hvm9 ht9
  generalize H1 = H at hB9 hS ⊢
  obtain ⟨rfl, hW⟩ := hB9
  have hW := hW
  have hW : cw g ad P M H := hW
  refine lv_iload_n hx hb dX2_isAsTold_4 rfl (lv_at hl 2 rfl) ?_
  refine va_ti hx hb (hC.2.1 3 (by decide)).2 hS (zI_in (n := j) (hj) (by decide)) (v := .int (zI (sL 3 j))) (by rw [zI_clamp (by omega)]; exact congrArg Value.int (sL_ok 3 (by decide) j (hj)).1) dX2_isAsTold_5 ?_
  refine lv_istore (lv' := [(4, .int (zI (((sL 3 j : Nat) : Int)))), (0, .int (zI (3))), (1, .ref ((ad (b + 1 + (13 + ct))))), (2, .int (zI (j))), (3, .int (zI (v)))]) hx hb dX2_isAsTold_6 hl (by decide) rfl (fun ls hl => ?_)
  refine lv_iload_n hx hb dX2_isAsTold_8 rfl (lv_at hl 1 rfl) ?_
  refine lv_iconst (v := zI (1)) hx hb dX2_isAsTold_9 (by decide) ?_
  refine z_icmp_ne (tgt := 23) hx hb dX2_isAsTold_10 (by decide) (by omega) (by omega) (fun h10 => ?_) (fun h10 => ?_)
  · refine lv_iload_n hx hb dX2_isAsTold_23 rfl (lv_at hl 4 rfl) ?_
    refine lv_iload hx hb dX2_isAsTold_24 (lv_at hl 0 rfl) ?_
    refine z_icmp_lt (tgt := 43) hx hb dX2_isAsTold_26 (by decide) (by omega) (by omega) (fun h26 => ?_) (fun h26 => ?_)
    · refine lv_iconst (v := zI (0)) hx hb dX2_isAsTold_43 (by decide) ?_
      have hW : cw g ad P M H := hW
      exact W.zret hx hb hr (by decide) (fun tX htX hWX => ⟨⟨_, (), rfl, bz_0 (by unfold loC; first | (rw [if_pos (by omega)]; omega) | (rw [if_neg (by omega)]; omega)), g_at htX hW⟩, hS.F htX⟩) hS.2.2 dX2_isAsTold_44
    · refine lv_iload_n hx hb dX2_isAsTold_29 rfl (lv_at hl 4 rfl) ?_
      refine lv_iload_n hx hb dX2_isAsTold_30 rfl (lv_at hl 1 rfl) ?_
      refine va_callr (va_runS (As := [.int (zI (3))]) (rest := [.int (zI (v))]) ⟨hx, hb, hml, hown, hts⟩ (c_X2_mostOf_3 l g (ad) (hd9) (P) (M) (kk)) (va_cwS 1 hts gX2_isAsTold_X2_mostOf rfl rfl rfl (by decide +kernel) ⟨Nat.le_of_ble_eq_true rfl, Nat.le_of_ble_eq_true rfl⟩) (gk_preS hW hK hC hS) rfl rfl hl.1 rfl (lv_room (Nat.le_of_ble_eq_true rfl)) dX2_isAsTold_31 ⟨Nat.le_of_ble_eq_true rfl, Nat.le_of_ble_eq_true rfl⟩) hS (fun q _ h => h) (fun q h => h) (fun u1 a9 t9 H1 locs ht9 hvm9 hw9 hB9 hz9 hk9 hS => ?_)
      rw [ht9] at hB9
      clear hz9 hk9 hvm9 ht9
      generalize H1 = H at hB9 hS ⊢
      obtain ⟨rfl, hW⟩ := hB9
      have hW := hW
      have hW : cw g ad P M H := hW
      refine lv_iload_n hx hb dX2_isAsTold_34 rfl (lv_at hl 3 rfl) ?_
      refine va_ti hx hb (hC.2.1 7 (by decide)).2 hS (zI_in (n := j) (hj) (by decide)) (v := .int (zI (sL 7 j))) (by rw [zI_clamp (by omega)]; exact congrArg Value.int (sL_ok 7 (by decide) j (hj)).1) dX2_isAsTold_35 ?_
      refine z_icmp_gt (tgt := 43) hx hb dX2_isAsTold_36 (by decide) (by omega) (by omega) (fun h36 => ?_) (fun h36 => ?_)
      · refine lv_iconst (v := zI (0)) hx hb dX2_isAsTold_43 (by decide) ?_
        have hW : cw g ad P M H := hW
        exact W.zret hx hb hr (by decide) (fun tX htX hWX => ⟨⟨_, (), rfl, bz_0 (by unfold loC; first | (rw [if_pos (by omega)]; omega) | (rw [if_neg (by omega)]; omega)), g_at htX hW⟩, hS.F htX⟩) hS.2.2 dX2_isAsTold_44
      · refine lv_iconst (v := zI (1)) hx hb dX2_isAsTold_39 (by decide) ?_
        refine lv_goto (tgt := 44) hx hb dX2_isAsTold_40 (by decide) ?_
        have hW : cw g ad P M H := hW
        exact W.zret hx hb hr (by decide) (fun tX htX hWX => ⟨⟨_, (), rfl, bz_1 (by unfold loC; first | (rw [if_pos (by omega)]; omega) | (rw [if_neg (by omega)]; omega)), g_at htX hW⟩, hS.F htX⟩) hS.2.2 dX2_isAsTold_44
  · exfalso; omega

set_option maxHeartbeats 4000000 in
set_option maxRecDepth 100000 in
theorem c_X7_isWord (l : Launch) (g : GG) (ad : Nat → Nat) (hd9 : hD ad) (P : Nat → Nat) (M : Nat → Nat → Int32) (kk : KK) (β : Nat → Nat) (hβ : ∀ i, i < 740 → M 2 i = zI (sbI (β i)) ∧ β i < 256) (nx ki pl : Nat) (hnx : nx ≤ 740) (hpl : pl ≤ nx) (hki : ki ≤ 4) (h40 : M 4 0 = zI nx) (h41 : M 4 1 = zI ki) (h42 : M 4 2 = zI pl) (i : Nat) (hi : i < 4) : Met l yX7_isWord wsX7_isWord ({ frames := 4, cells := 0, slots := 0, locals := 85 }) (gkPc g kk ad [.ref ((ad 4)), .ref ((kk.2.1 i))] (cw g ad P M)) (va_Qi (fun (r : Int32) (u : Unit) => r = zI (bz (isW β ki nx pl i))) (fun (u : Unit) (tS : State) => cw g ad P M tS.heap) (hbA ad)) 0 0 (hbA ad) := by
  refine Met.ofW (cc := cX7_isWord) (maxL := 3) (ret := (some .boolean)) (by decide) rfl ?_
  intro p e s m args below meth c s₁ B hml hv
  obtain ⟨rfl, hW, hK, hC⟩ := hv
  have hx := B.exec
  have hb := B.bytes
  have hr := B.returns
  have hts := atoms_spec (ws := wsX7_isWord) B.pre
  have hown : s.vm.findClass RX7 = some m.cls := findClass_of_methodNamed B.named
  have hlocks := B.notSynchronized
  have hinX5 : ∀ w ∈ wsX50, w ∈ wsX7_isWord := by decide +kernel
  have hinX7 : ∀ w ∈ wsX70, w ∈ wsX7_isWord := by decide +kernel
  have k39 := hts (.fieldLink RX7 39 "HoursBank$Tokens" "kind" "I") (by decide +kernel)
  have k13 := hts (.fieldLink RX7 13 "HoursBank$Tokens" "next" "I") (by decide +kernel)
  have k36 := hts (.fieldLink RX7 36 "HoursBank$Tokens" "place" "I") (by decide +kernel)
  have k7 := hts (.fieldLink RX7 7 "HoursBank$Tokens" "tape" "LHoursBank$Tape;") (by decide +kernel)
  have k28 := hts (.fieldLink RX7 28 "HoursBank$Tape" "bytes" "[B") (by decide +kernel)
  have hl := lv_entry ([.ref ((ad 4)), .ref ((kk.2.1 i))]) (n := 3) (Nat.le_of_ble_eq_true rfl)
  rw [lg_entry_eq]
  generalize (lg_sl ([.ref ((ad 4)), .ref ((kk.2.1 i))]) ++ List.replicate (3 - (lg_sl ([.ref ((ad 4)), .ref ((kk.2.1 i))])).length) Slot.unset).toArray = ls at hl ⊢
  have hl : lv_has ls 3 [(0, .ref ((ad 4))), (1, .ref ((kk.2.1 i)))] := hl
  have hS : va_S (hbA ad) s.heap s.heap [] := va_S.rf
  obtain ⟨H, hH9⟩ : ∃ H, H = s.heap := ⟨_, rfl⟩
  obtain ⟨locs, hL9⟩ : ∃ x9l : List Loc, x9l = [] := ⟨_, rfl⟩
  have hW : cw g ad P M H := hH9 ▸ hW
  have hS : va_S (hbA ad) s.heap H locs := by rw [hH9, hL9]; exact hS
  refine z_start hH9 hL9 ?_
  clear hH9 hL9
  have hex : ∀ j : Nat, M j = M j := fun _ => rfl
  have hw6 := (woL_le i hi).1
  refine lv_aload_n hx hb dX7_isWord_0 rfl (lv_at hl 0 rfl) ?_
  have r_4 : M (4) = M 4 := hex (4) 
  refine va_get (D := g.1) (ci := 7) (v := .int ((M 4) 1)) (C := RX7) (T := TX7) (N := 5) hx hb hts hinX7 hown hK (hb1 hW (show 4 < 126 by omega) (lcE r_4 sh_4)) 0 rfl rfl 2 (by decide) k39 (fun _ h9 => h9) rfl dX7_isWord_1 ?_
  refine z_top (y := zI (ki)) (h41) ?_
  refine lv_iconst (v := zI (1)) hx hb dX7_isWord_4 (by decide) ?_
  refine z_icmp_ne (tgt := 24) hx hb dX7_isWord_5 (by decide) (by omega) (by omega) (fun h5 => ?_) (fun h5 => ?_)
  · refine lv_iconst (v := zI (0)) hx hb dX7_isWord_24 (by decide) ?_
    have hW : cw g ad P M H := hW
    exact W.zret hx hb hr (by decide) (fun tX htX hWX => ⟨⟨_, (), rfl, bz_0 (by unfold isW; omega), g_at htX hW⟩, hS.F htX⟩) hS.2.2 dX7_isWord_25
  · refine lv_aload_n hx hb dX7_isWord_8 rfl (lv_at hl 0 rfl) ?_
    refine va_get (D := g.1) (ci := 7) (v := .int ((M 4) 0)) (C := RX7) (T := TX7) (N := 5) hx hb hts hinX7 hown hK (hb1 hW (show 4 < 126 by omega) (lcE r_4 sh_4)) 0 rfl rfl 1 (by decide) k13 (fun _ h9 => h9) rfl dX7_isWord_9 ?_
    refine z_top (y := zI (nx)) (h40) ?_
    refine lv_aload_n hx hb dX7_isWord_12 rfl (lv_at hl 0 rfl) ?_
    refine va_get (D := g.1) (ci := 7) (v := .int ((M 4) 2)) (C := RX7) (T := TX7) (N := 5) hx hb hts hinX7 hown hK (hb1 hW (show 4 < 126 by omega) (lcE r_4 sh_4)) 0 rfl rfl 3 (by decide) k36 (fun _ h9 => h9) rfl dX7_isWord_13 ?_
    refine z_top (y := zI (pl)) (h42) ?_
    refine z_isub hx hb dX7_isWord_16 ?_
    refine lv_aload_n hx hb dX7_isWord_17 rfl (lv_at hl 1 rfl) ?_
    refine va_calli (va_runV (As := []) (rest := [.int (zI (nx - pl))]) ⟨hx, hb, hml, hown, hts⟩ (c_J0_length_8abf5 l g (ad) (hd9) (P) (M) (kk) (i) (hi)) (cwV 0 hts gX7_isWord_J0_length_8abf5 rfl rfl rfl (by decide +kernel) ⟨Nat.le_of_ble_eq_true rfl, Nat.le_of_ble_eq_true rfl⟩) (gk_preV hW hK hC hS (vk_recv hC.2.2.2.1 hi hS)) rfl rfl hl.1 rfl (lv_room (Nat.le_of_ble_eq_true rfl)) dX7_isWord_18 ⟨Nat.le_of_ble_eq_true rfl, Nat.le_of_ble_eq_true rfl⟩) hS (fun q _ h => h) (fun q h => h) (fun r u0 t9 H1 locs ht9 hvm9 hw9 hB9 hz9 hk9 hS => ?_)
    rw [ht9] at hB9
    clear hz9 hk9 hvm9 ht9
    generalize H1 = H at hB9 hS ⊢
    have hW := hB9
    clear hB9
    have hW : cw g ad P M H := hW
    obtain rfl : r = zI (((woL.getD i 0 : Nat) : Int)) := hw9
    refine z_icmp_eq (tgt := 26) hx hb dX7_isWord_21 (by decide) (by omega) (by omega) (fun h21 => ?_) (fun h21 => ?_)
    · refine lv_iconst (v := zI (0)) hx hb dX7_isWord_26 (by decide) ?_
      refine lv_istore_n (lv' := [(2, .int (zI (0))), (0, .ref ((ad 4))), (1, .ref ((kk.2.1 i)))]) hx hb dX7_isWord_27 rfl hl (by decide) rfl (fun ls hl => ?_)
      have r_1 : M (1) = M 1 := hex (1) 
      have r_2 : M (2) = M 2 := hex (2) 
      have loop28 : ∀ (K9 : Nat) (k : Nat) (hK9 : woL.getD i 0 - k < K9) (hk : k ≤ woL.getD i 0) (hB : wB β pl i k = 1) (H : Heap) (locs : List Loc) (M2 : Nat → Nat → Int32) (r_4 : M2 (4) = M 4) (r_1 : M2 (1) = M 1) (r_2 : M2 (2) = M 2) (hex : ∀ j : Nat, M2 j = M j) (hW : cw g ad P M2 H) (hS : va_S (hbA ad) s.heap H locs) (ls : Array Slot) (hl : lv_has ls 3 [(2, .int (zI (((k : Nat) : Int)))), (0, .ref ((ad 4))), (1, .ref ((kk.2.1 i)))]), W p l e (headSpec wsX7_isWord ({ frames := 4, cells := 0, slots := 0, locals := 85 })).room s m ([.ref ((ad 4)), .ref ((kk.2.1 i))] : List Value).toArray below meth c H locs 0 0 (MQ below (va_Qi (fun (r : Int32) (u : Unit) => r = zI (bz (isW β ki nx pl i))) (fun (u : Unit) (tS : State) => cw g ad P M tS.heap) (hbA ad)) ([.ref ((ad 4)), .ref ((kk.2.1 i))] : List Value).toArray s 0 0 (hbA ad)) (F0 m 28 ls []) := by
        intro K9
        induction K9 with
        | zero => intro k hK9; exact absurd hK9 (Nat.not_lt_zero _)
        | succ K9 ih =>
          intro k hK9 hk hB H locs M2 r_4 r_1 r_2 hex hW hS ls hl
          refine lv_iload_n hx hb dX7_isWord_28 rfl (lv_at hl 0 rfl) ?_
          refine lv_aload_n hx hb dX7_isWord_29 rfl (lv_at hl 2 rfl) ?_
          refine va_calli (va_runV (As := []) (rest := [.int (zI (((k : Nat) : Int)))]) ⟨hx, hb, hml, hown, hts⟩ (c_J0_length_8abf5 l g (ad) (hd9) (P) (M2) (kk) (i) (hi)) (cwV 0 hts gX7_isWord_J0_length_8abf5 rfl rfl rfl (by decide +kernel) ⟨Nat.le_of_ble_eq_true rfl, Nat.le_of_ble_eq_true rfl⟩) (gk_preV hW hK hC hS (vk_recv hC.2.2.2.1 hi hS)) rfl rfl hl.1 rfl (lv_room (Nat.le_of_ble_eq_true rfl)) dX7_isWord_30 ⟨Nat.le_of_ble_eq_true rfl, Nat.le_of_ble_eq_true rfl⟩) hS (fun q _ h => h) (fun q h => h) (fun r u2 t9 H1 locs ht9 hvm9 hw9 hB9 hz9 hk9 hS => ?_)
          rw [ht9] at hB9
          clear hz9 hk9 hvm9 ht9
          generalize H1 = H at hB9 hS ⊢
          have hW := hB9
          clear hB9
          have hW : cw g ad P M2 H := hW
          obtain rfl : r = zI (((woL.getD i 0 : Nat) : Int)) := hw9
          refine z_icmp_ge (tgt := 66) hx hb dX7_isWord_33 (by decide) (by omega) (by omega) (fun h33 => ?_) (fun h33 => ?_)
          · refine lv_iconst (v := zI (1)) hx hb dX7_isWord_66 (by decide) ?_
            have hW : cw g ad P M H := (funext hex : M2 = M) ▸ hW
            exact W.zret hx hb hr (by decide) (fun tX htX hWX => ⟨⟨_, (), rfl, bz_1 (⟨by omega, by omega, by rw [show woL.getD i 0 = k by omega]; exact hB⟩), g_at htX hW⟩, hS.F htX⟩) hS.2.2 dX7_isWord_67
          · refine lv_aload_n hx hb dX7_isWord_36 rfl (lv_at hl 1 rfl) ?_
            refine va_get (D := g.1) (ci := 7) (v := .ref ((ad 1))) (C := RX7) (T := TX7) (N := 5) hx hb hts hinX7 hown hK (hb1 hW (show 4 < 126 by omega) (lcE r_4 sh_4)) 0 rfl rfl 0 (by decide) k7 (fun _ h9 => h9) rfl dX7_isWord_37 ?_
            refine va_get (D := g.1) (ci := 5) (v := .ref ((ad 2))) (C := RX5) (T := TX5) (N := 2) hx hb hts hinX5 hown hK (hb1 hW (show 1 < 126 by omega) (lcE r_1 sh_1)) 0 rfl rfl 0 (by decide) k28 (fun _ h9 => h9) rfl dX7_isWord_40 ?_
            refine lv_aload_n hx hb dX7_isWord_43 rfl (lv_at hl 1 rfl) ?_
            refine va_get (D := g.1) (ci := 7) (v := .int ((M 4) 2)) (C := RX7) (T := TX7) (N := 5) hx hb hts hinX7 hown hK (hb1 hW (show 4 < 126 by omega) (lcE r_4 sh_4)) 0 rfl rfl 3 (by decide) k36 (fun _ h9 => h9) rfl dX7_isWord_44 ?_
            refine z_top (y := zI (pl)) (h42) ?_
            refine lv_iload_n hx hb dX7_isWord_47 rfl (lv_at hl 0 rfl) ?_
            refine z_iadd hx hb dX7_isWord_48 ?_
            refine z_bald hx hb hK (hb1 hW (show 2 < 126 by omega) (lcE r_2 sh_2)) 0 1 rfl rfl (by decide) (pl + k) (by omega) (by omega) dX7_isWord_49 ?_
            refine z_top (y := zI (sbI (β (pl + k)))) ((hβ (pl + k) (by omega)).1) ?_
            refine lv_aload_n hx hb dX7_isWord_50 rfl (lv_at hl 2 rfl) ?_
            refine lv_iload_n hx hb dX7_isWord_51 rfl (lv_at hl 0 rfl) ?_
            refine va_calli (va_runV (As := [.int (zI (((k : Nat) : Int)))]) (rest := [.int (zI (sbI (β (pl + k))))]) ⟨hx, hb, hml, hown, hts⟩ (c_J0_charAt_5068e l g (ad) (hd9) (P) (M2) (kk) (i) (hi) (k) (by omega)) (cwV 1 hts gX7_isWord_J0_charAt_5068e rfl rfl rfl (by decide +kernel) ⟨Nat.le_of_ble_eq_true rfl, Nat.le_of_ble_eq_true rfl⟩) (gk_preV hW hK hC hS (vk_recv hC.2.2.2.1 hi hS)) rfl rfl hl.1 rfl (lv_room (Nat.le_of_ble_eq_true rfl)) dX7_isWord_52 ⟨Nat.le_of_ble_eq_true rfl, Nat.le_of_ble_eq_true rfl⟩) hS (fun q _ h => h) (fun q h => h) (fun r u3 t9 H1 locs ht9 hvm9 hw9 hB9 hz9 hk9 hS => ?_)
            rw [ht9] at hB9
            clear hz9 hk9 hvm9 ht9
            generalize H1 = H at hB9 hS ⊢
            have hW := hB9
            clear hB9
            have hW : cw g ad P M2 H := hW
            obtain rfl : r = zI (((wch i k : Nat) : Int)) := hw9
            have hsb := sb_cases (hβ (pl + k) (by omega)).2
            have hwc := (wch_ok i hi k (by omega)).2.2
            refine z_icmp_eq (tgt := 60) hx hb dX7_isWord_55 (by decide) (by omega) (by omega) (fun h55 => ?_) (fun h55 => ?_)
            · refine z_iinc (lv' := [(2, .int (zI (((k : Nat) : Int) + 1))), (0, .ref ((ad 4))), (1, .ref ((kk.2.1 i)))]) hx hb dX7_isWord_60 hl (k := 0) rfl (by decide) rfl (fun ls hl => ?_)
              refine lv_goto (tgt := 28) hx hb dX7_isWord_63 (by decide) ?_
              have hl := lv_sub (l' := [(2, .int (zI (((k : Nat) : Int) + 1))), (0, .ref ((ad 4))), (1, .ref ((kk.2.1 i)))]) hl [0, 1, 2] rfl
              have hl : lv_has ls 3 [(2, .int (zI ((((k + 1) : Nat) : Int)))), (0, .ref ((ad 4))), (1, .ref ((kk.2.1 i)))] := lv_cg (lvE (congrArg zI (by omega)) (lvR (lvR (rfl)))) hl
              exact ih (k + 1) (by omega) (by omega) (by rw [wB, if_pos ⟨hB, by omega⟩]) H locs M2 (r_4) (r_1) (r_2) hex hW hS ls hl
            · refine lv_iconst (v := zI (0)) hx hb dX7_isWord_58 (by decide) ?_
              have hW : cw g ad P M H := (funext hex : M2 = M) ▸ hW
              exact W.zret hx hb hr (by decide) (fun tX htX hWX => ⟨⟨_, (), rfl, bz_0 (fun q9 => wB_no (k := k) (by omega) _ (by omega) q9.2.2), g_at htX hW⟩, hS.F htX⟩) hS.2.2 dX7_isWord_59
      have hl := lv_sub (l' := [(2, .int (zI (0))), (0, .ref ((ad 4))), (1, .ref ((kk.2.1 i)))]) hl [0, 1, 2] rfl
      have hl : lv_has ls 3 [(2, .int (zI (((0 : Nat) : Int)))), (0, .ref ((ad 4))), (1, .ref ((kk.2.1 i)))] := lv_cg (lvE (congrArg zI (rfl)) (lvR (lvR (rfl)))) hl
      exact loop28 _ (0) (Nat.lt_succ_self _) (Nat.zero_le _) (rfl) H locs M (r_4) (r_1) (r_2) hex hW hS ls hl
    · refine lv_iconst (v := zI (0)) hx hb dX7_isWord_24 (by decide) ?_
      have hW : cw g ad P M H := hW
      exact W.zret hx hb hr (by decide) (fun tX htX hWX => ⟨⟨_, (), rfl, bz_0 (by unfold isW; omega), g_at htX hW⟩, hS.F htX⟩) hS.2.2 dX7_isWord_25

set_option maxHeartbeats 4000000 in
set_option maxRecDepth 100000 in
theorem c_X6_sortOfLine (l : Launch) (g : GG) (ad : Nat → Nat) (hd9 : hD ad) (P : Nat → Nat) (M : Nat → Nat → Int32) (kk : KK) (β : Nat → Nat) (hβ : ∀ i, i < 740 → M 2 i = zI (sbI (β i)) ∧ β i < 256) (nx ki pl : Nat) (hnx : nx ≤ 740) (hpl : pl ≤ nx) (hki : ki ≤ 4) (h40 : M 4 0 = zI nx) (h41 : M 4 1 = zI ki) (h42 : M 4 2 = zI pl) : Met l yX6_sortOfLine wsX6_sortOfLine ({ frames := 5, cells := 0, slots := 0, locals := 107 }) (gkPc g kk ad [.ref ((ad 3))] (cw g ad P M)) (va_Qi (fun (r : Int32) (u : Unit) => r = zI (soL β ki nx pl)) (fun (u : Unit) (tS : State) => cw g ad P M tS.heap) (hbA ad)) 0 0 (hbA ad) := by
  refine Met.ofW (cc := cX6_sortOfLine) (maxL := 2) (ret := (some .int)) (by decide) rfl ?_
  intro p e s m args below meth c s₁ B hml hv
  obtain ⟨rfl, hW, hK, hC⟩ := hv
  have hx := B.exec
  have hb := B.bytes
  have hr := B.returns
  have hts := atoms_spec (ws := wsX6_sortOfLine) B.pre
  have hown : s.vm.findClass RX6 = some m.cls := findClass_of_methodNamed B.named
  have hlocks := B.notSynchronized
  have hinX6 : ∀ w ∈ wsX60, w ∈ wsX6_sortOfLine := by decide +kernel
  have k20 := hts (.fieldLink RX6 20 "HoursBank$TextReader" "tokens" "LHoursBank$Tokens;") (by decide +kernel)
  have hl := lv_entry ([.ref ((ad 3))]) (n := 2) (Nat.le_of_ble_eq_true rfl)
  rw [lg_entry_eq]
  generalize (lg_sl ([.ref ((ad 3))]) ++ List.replicate (2 - (lg_sl ([.ref ((ad 3))])).length) Slot.unset).toArray = ls at hl ⊢
  have hl : lv_has ls 2 [(0, .ref ((ad 3)))] := hl
  have hS : va_S (hbA ad) s.heap s.heap [] := va_S.rf
  obtain ⟨H, hH9⟩ : ∃ H, H = s.heap := ⟨_, rfl⟩
  obtain ⟨locs, hL9⟩ : ∃ x9l : List Loc, x9l = [] := ⟨_, rfl⟩
  have hW : cw g ad P M H := hH9 ▸ hW
  have hS : va_S (hbA ad) s.heap H locs := by rw [hH9, hL9]; exact hS
  refine z_start hH9 hL9 ?_
  clear hH9 hL9
  have hex : ∀ j : Nat, M j = M j := fun _ => rfl
  refine lv_iconst (v := zI (0)) hx hb dX6_sortOfLine_0 (by decide) ?_
  refine lv_istore_n (lv' := [(1, .int (zI (0))), (0, .ref ((ad 3)))]) hx hb dX6_sortOfLine_1 rfl hl (by decide) rfl (fun ls hl => ?_)
  refine lv_iload_n hx hb dX6_sortOfLine_2 rfl (lv_at hl 0 rfl) ?_
  refine lv_iconst (v := zI (4)) hx hb dX6_sortOfLine_3 (by decide) ?_
  refine z_icmp_ge (tgt := 29) hx hb dX6_sortOfLine_4 (by decide) (by omega) (by omega) (fun h4 => ?_) (fun h4 => ?_)
  · exfalso; omega
  · refine lv_aload_n hx hb dX6_sortOfLine_7 rfl (lv_at hl 1 rfl) ?_
    have r_3 : M (3) = M 3 := hex (3) 
    refine va_get (D := g.1) (ci := 6) (v := .ref ((ad 4))) (C := RX6) (T := TX6) (N := 4) hx hb hts hinX6 hown hK (hb1 hW (show 3 < 126 by omega) (lcE r_3 sh_3)) 0 rfl rfl 1 (by decide) k20 (fun _ h9 => h9) rfl dX6_sortOfLine_8 ?_
    refine lv_iload_n hx hb dX6_sortOfLine_11 rfl (lv_at hl 0 rfl) ?_
    refine va_callr (va_runS (As := [.int (zI (0))]) (rest := [.ref ((ad 4))]) ⟨hx, hb, hml, hown, hts⟩ (c_X2_wordOf_0 l g (ad) (hd9) (P) (M) (kk)) (va_cwS 1 hts gX6_sortOfLine_X2_wordOf rfl rfl rfl (by decide +kernel) ⟨Nat.le_of_ble_eq_true rfl, Nat.le_of_ble_eq_true rfl⟩) (gk_preS hW hK hC hS) rfl rfl hl.1 rfl (lv_room (Nat.le_of_ble_eq_true rfl)) dX6_sortOfLine_12 ⟨Nat.le_of_ble_eq_true rfl, Nat.le_of_ble_eq_true rfl⟩) hS (fun q _ h => h) (fun q h => h) (fun u0 a9 t9 H1 locs ht9 hvm9 hw9 hB9 hz9 hk9 hS => ?_)
    rw [ht9] at hB9
    clear hz9 hk9 hvm9 ht9
    generalize H1 = H at hB9 hS ⊢
    obtain ⟨rfl, hW⟩ := hB9
    have hW := hW
    have hW : cw g ad P M H := hW
    have r_4 : M (4) = M 4 := hex (4) 
    refine va_calli (va_runV (As := [.ref ((kk.2.1 0))]) (rest := []) ⟨hx, hb, hml, hown, hts⟩ (c_X7_isWord l g (ad) (hd9) (P) (M) (kk) (β) (hβ) (nx) (ki) (pl) (hnx) (hpl) (hki) (h40) (h41) (h42) (0) (by omega)) (cwV 1 hts gX6_sortOfLine_X7_isWord rfl rfl rfl (by decide +kernel) ⟨Nat.le_of_ble_eq_true rfl, Nat.le_of_ble_eq_true rfl⟩) (gk_preV hW hK hC hS (va_recv hK (hb1 hW (show 4 < 126 by omega) (lcE r_4 sh_4)) (q0 := 0) (ci := 7) rfl rfl)) rfl rfl hl.1 rfl (lv_room (Nat.le_of_ble_eq_true rfl)) dX6_sortOfLine_15 ⟨Nat.le_of_ble_eq_true rfl, Nat.le_of_ble_eq_true rfl⟩) hS (fun q _ h => h) (fun q h => h) (fun r u1 t9 H1 locs ht9 hvm9 hw9 hB9 hz9 hk9 hS => ?_)
    rw [ht9] at hB9
    clear hz9 hk9 hvm9 ht9
    generalize H1 = H at hB9 hS ⊢
    have hW := hB9
    clear hB9
    have hW : cw g ad P M H := hW
    obtain rfl : r = zI (bz (isW β ki nx pl 0)) := hw9
    refine z_bz_eq (tgt := 23) hx hb dX6_sortOfLine_18 (by decide) (fun h18 => ?_) (fun h18 => ?_)
    · have g0 := h18
      refine z_iinc (lv' := [(1, .int (zI (0 + 1))), (0, .ref ((ad 3)))]) hx hb dX6_sortOfLine_23 hl (k := 0) rfl (by decide) rfl (fun ls hl => ?_)
      refine lv_goto (tgt := 2) hx hb dX6_sortOfLine_26 (by decide) ?_
      refine lv_iload_n hx hb dX6_sortOfLine_2 rfl (lv_at hl 0 rfl) ?_
      refine lv_iconst (v := zI (4)) hx hb dX6_sortOfLine_3 (by decide) ?_
      refine z_icmp_ge (tgt := 29) hx hb dX6_sortOfLine_4 (by decide) (by omega) (by omega) (fun h4 => ?_) (fun h4 => ?_)
      · exfalso; omega
      · refine lv_aload_n hx hb dX6_sortOfLine_7 rfl (lv_at hl 1 rfl) ?_
        refine va_get (D := g.1) (ci := 6) (v := .ref ((ad 4))) (C := RX6) (T := TX6) (N := 4) hx hb hts hinX6 hown hK (hb1 hW (show 3 < 126 by omega) (lcE r_3 sh_3)) 0 rfl rfl 1 (by decide) k20 (fun _ h9 => h9) rfl dX6_sortOfLine_8 ?_
        refine lv_iload_n hx hb dX6_sortOfLine_11 rfl (lv_at hl 0 rfl) ?_
        refine va_callr (va_runS (As := [.int (zI (0 + 1))]) (rest := [.ref ((ad 4))]) ⟨hx, hb, hml, hown, hts⟩ (c_X2_wordOf_1 l g (ad) (hd9) (P) (M) (kk)) (va_cwS 1 hts gX6_sortOfLine_X2_wordOf rfl rfl rfl (by decide +kernel) ⟨Nat.le_of_ble_eq_true rfl, Nat.le_of_ble_eq_true rfl⟩) (gk_preS hW hK hC hS) rfl rfl hl.1 rfl (lv_room (Nat.le_of_ble_eq_true rfl)) dX6_sortOfLine_12 ⟨Nat.le_of_ble_eq_true rfl, Nat.le_of_ble_eq_true rfl⟩) hS (fun q _ h => h) (fun q h => h) (fun u2 a9 t9 H1 locs ht9 hvm9 hw9 hB9 hz9 hk9 hS => ?_)
        rw [ht9] at hB9
        clear hz9 hk9 hvm9 ht9
        generalize H1 = H at hB9 hS ⊢
        obtain ⟨rfl, hW⟩ := hB9
        have hW := hW
        have hW : cw g ad P M H := hW
        refine va_calli (va_runV (As := [.ref ((kk.2.1 1))]) (rest := []) ⟨hx, hb, hml, hown, hts⟩ (c_X7_isWord l g (ad) (hd9) (P) (M) (kk) (β) (hβ) (nx) (ki) (pl) (hnx) (hpl) (hki) (h40) (h41) (h42) (1) (by omega)) (cwV 1 hts gX6_sortOfLine_X7_isWord rfl rfl rfl (by decide +kernel) ⟨Nat.le_of_ble_eq_true rfl, Nat.le_of_ble_eq_true rfl⟩) (gk_preV hW hK hC hS (va_recv hK (hb1 hW (show 4 < 126 by omega) (lcE r_4 sh_4)) (q0 := 0) (ci := 7) rfl rfl)) rfl rfl hl.1 rfl (lv_room (Nat.le_of_ble_eq_true rfl)) dX6_sortOfLine_15 ⟨Nat.le_of_ble_eq_true rfl, Nat.le_of_ble_eq_true rfl⟩) hS (fun q _ h => h) (fun q h => h) (fun r u3 t9 H1 locs ht9 hvm9 hw9 hB9 hz9 hk9 hS => ?_)
        rw [ht9] at hB9
        clear hz9 hk9 hvm9 ht9
        generalize H1 = H at hB9 hS ⊢
        have hW := hB9
        clear hB9
        have hW : cw g ad P M H := hW
        obtain rfl : r = zI (bz (isW β ki nx pl 1)) := hw9
        refine z_bz_eq (tgt := 23) hx hb dX6_sortOfLine_18 (by decide) (fun h18 => ?_) (fun h18 => ?_)
        · have g1 := h18
          refine z_iinc (lv' := [(1, .int (zI ((0 + 1) + 1))), (0, .ref ((ad 3)))]) hx hb dX6_sortOfLine_23 hl (k := 0) rfl (by decide) rfl (fun ls hl => ?_)
          refine lv_goto (tgt := 2) hx hb dX6_sortOfLine_26 (by decide) ?_
          refine lv_iload_n hx hb dX6_sortOfLine_2 rfl (lv_at hl 0 rfl) ?_
          refine lv_iconst (v := zI (4)) hx hb dX6_sortOfLine_3 (by decide) ?_
          refine z_icmp_ge (tgt := 29) hx hb dX6_sortOfLine_4 (by decide) (by omega) (by omega) (fun h4 => ?_) (fun h4 => ?_)
          · exfalso; omega
          · refine lv_aload_n hx hb dX6_sortOfLine_7 rfl (lv_at hl 1 rfl) ?_
            refine va_get (D := g.1) (ci := 6) (v := .ref ((ad 4))) (C := RX6) (T := TX6) (N := 4) hx hb hts hinX6 hown hK (hb1 hW (show 3 < 126 by omega) (lcE r_3 sh_3)) 0 rfl rfl 1 (by decide) k20 (fun _ h9 => h9) rfl dX6_sortOfLine_8 ?_
            refine lv_iload_n hx hb dX6_sortOfLine_11 rfl (lv_at hl 0 rfl) ?_
            refine va_callr (va_runS (As := [.int (zI ((0 + 1) + 1))]) (rest := [.ref ((ad 4))]) ⟨hx, hb, hml, hown, hts⟩ (c_X2_wordOf_2 l g (ad) (hd9) (P) (M) (kk)) (va_cwS 1 hts gX6_sortOfLine_X2_wordOf rfl rfl rfl (by decide +kernel) ⟨Nat.le_of_ble_eq_true rfl, Nat.le_of_ble_eq_true rfl⟩) (gk_preS hW hK hC hS) rfl rfl hl.1 rfl (lv_room (Nat.le_of_ble_eq_true rfl)) dX6_sortOfLine_12 ⟨Nat.le_of_ble_eq_true rfl, Nat.le_of_ble_eq_true rfl⟩) hS (fun q _ h => h) (fun q h => h) (fun u4 a9 t9 H1 locs ht9 hvm9 hw9 hB9 hz9 hk9 hS => ?_)
            rw [ht9] at hB9
            clear hz9 hk9 hvm9 ht9
            generalize H1 = H at hB9 hS ⊢
            obtain ⟨rfl, hW⟩ := hB9
            have hW := hW
            have hW : cw g ad P M H := hW
            refine va_calli (va_runV (As := [.ref ((kk.2.1 2))]) (rest := []) ⟨hx, hb, hml, hown, hts⟩ (c_X7_isWord l g (ad) (hd9) (P) (M) (kk) (β) (hβ) (nx) (ki) (pl) (hnx) (hpl) (hki) (h40) (h41) (h42) (2) (by omega)) (cwV 1 hts gX6_sortOfLine_X7_isWord rfl rfl rfl (by decide +kernel) ⟨Nat.le_of_ble_eq_true rfl, Nat.le_of_ble_eq_true rfl⟩) (gk_preV hW hK hC hS (va_recv hK (hb1 hW (show 4 < 126 by omega) (lcE r_4 sh_4)) (q0 := 0) (ci := 7) rfl rfl)) rfl rfl hl.1 rfl (lv_room (Nat.le_of_ble_eq_true rfl)) dX6_sortOfLine_15 ⟨Nat.le_of_ble_eq_true rfl, Nat.le_of_ble_eq_true rfl⟩) hS (fun q _ h => h) (fun q h => h) (fun r u5 t9 H1 locs ht9 hvm9 hw9 hB9 hz9 hk9 hS => ?_)
            rw [ht9] at hB9
            clear hz9 hk9 hvm9 ht9
            generalize H1 = H at hB9 hS ⊢
            have hW := hB9
            clear hB9
            have hW : cw g ad P M H := hW
            obtain rfl : r = zI (bz (isW β ki nx pl 2)) := hw9
            refine z_bz_eq (tgt := 23) hx hb dX6_sortOfLine_18 (by decide) (fun h18 => ?_) (fun h18 => ?_)
            · have g2 := h18
              refine z_iinc (lv' := [(1, .int (zI (((0 + 1) + 1) + 1))), (0, .ref ((ad 3)))]) hx hb dX6_sortOfLine_23 hl (k := 0) rfl (by decide) rfl (fun ls hl => ?_)
              refine lv_goto (tgt := 2) hx hb dX6_sortOfLine_26 (by decide) ?_
              refine lv_iload_n hx hb dX6_sortOfLine_2 rfl (lv_at hl 0 rfl) ?_
              refine lv_iconst (v := zI (4)) hx hb dX6_sortOfLine_3 (by decide) ?_
              refine z_icmp_ge (tgt := 29) hx hb dX6_sortOfLine_4 (by decide) (by omega) (by omega) (fun h4 => ?_) (fun h4 => ?_)
              · exfalso; omega
              · refine lv_aload_n hx hb dX6_sortOfLine_7 rfl (lv_at hl 1 rfl) ?_
                refine va_get (D := g.1) (ci := 6) (v := .ref ((ad 4))) (C := RX6) (T := TX6) (N := 4) hx hb hts hinX6 hown hK (hb1 hW (show 3 < 126 by omega) (lcE r_3 sh_3)) 0 rfl rfl 1 (by decide) k20 (fun _ h9 => h9) rfl dX6_sortOfLine_8 ?_
                refine lv_iload_n hx hb dX6_sortOfLine_11 rfl (lv_at hl 0 rfl) ?_
                refine va_callr (va_runS (As := [.int (zI (((0 + 1) + 1) + 1))]) (rest := [.ref ((ad 4))]) ⟨hx, hb, hml, hown, hts⟩ (c_X2_wordOf_3 l g (ad) (hd9) (P) (M) (kk)) (va_cwS 1 hts gX6_sortOfLine_X2_wordOf rfl rfl rfl (by decide +kernel) ⟨Nat.le_of_ble_eq_true rfl, Nat.le_of_ble_eq_true rfl⟩) (gk_preS hW hK hC hS) rfl rfl hl.1 rfl (lv_room (Nat.le_of_ble_eq_true rfl)) dX6_sortOfLine_12 ⟨Nat.le_of_ble_eq_true rfl, Nat.le_of_ble_eq_true rfl⟩) hS (fun q _ h => h) (fun q h => h) (fun u6 a9 t9 H1 locs ht9 hvm9 hw9 hB9 hz9 hk9 hS => ?_)
                rw [ht9] at hB9
                clear hz9 hk9 hvm9 ht9
                generalize H1 = H at hB9 hS ⊢
                obtain ⟨rfl, hW⟩ := hB9
                have hW := hW
                have hW : cw g ad P M H := hW
                refine va_calli (va_runV (As := [.ref ((kk.2.1 3))]) (rest := []) ⟨hx, hb, hml, hown, hts⟩ (c_X7_isWord l g (ad) (hd9) (P) (M) (kk) (β) (hβ) (nx) (ki) (pl) (hnx) (hpl) (hki) (h40) (h41) (h42) (3) (by omega)) (cwV 1 hts gX6_sortOfLine_X7_isWord rfl rfl rfl (by decide +kernel) ⟨Nat.le_of_ble_eq_true rfl, Nat.le_of_ble_eq_true rfl⟩) (gk_preV hW hK hC hS (va_recv hK (hb1 hW (show 4 < 126 by omega) (lcE r_4 sh_4)) (q0 := 0) (ci := 7) rfl rfl)) rfl rfl hl.1 rfl (lv_room (Nat.le_of_ble_eq_true rfl)) dX6_sortOfLine_15 ⟨Nat.le_of_ble_eq_true rfl, Nat.le_of_ble_eq_true rfl⟩) hS (fun q _ h => h) (fun q h => h) (fun r u7 t9 H1 locs ht9 hvm9 hw9 hB9 hz9 hk9 hS => ?_)
                rw [ht9] at hB9
                clear hz9 hk9 hvm9 ht9
                generalize H1 = H at hB9 hS ⊢
                have hW := hB9
                clear hB9
                have hW : cw g ad P M H := hW
                obtain rfl : r = zI (bz (isW β ki nx pl 3)) := hw9
                refine z_bz_eq (tgt := 23) hx hb dX6_sortOfLine_18 (by decide) (fun h18 => ?_) (fun h18 => ?_)
                · have g3 := h18
                  refine z_iinc (lv' := [(1, .int (zI ((((0 + 1) + 1) + 1) + 1))), (0, .ref ((ad 3)))]) hx hb dX6_sortOfLine_23 hl (k := 0) rfl (by decide) rfl (fun ls hl => ?_)
                  refine lv_goto (tgt := 2) hx hb dX6_sortOfLine_26 (by decide) ?_
                  refine lv_iload_n hx hb dX6_sortOfLine_2 rfl (lv_at hl 0 rfl) ?_
                  refine lv_iconst (v := zI (4)) hx hb dX6_sortOfLine_3 (by decide) ?_
                  refine z_icmp_ge (tgt := 29) hx hb dX6_sortOfLine_4 (by decide) (by omega) (by omega) (fun h4 => ?_) (fun h4 => ?_)
                  · refine lv_iconst (v := zI (-1)) hx hb dX6_sortOfLine_29 (by decide) ?_
                    have hW : cw g ad P M H := hW
                    exact W.iret hx hb hr (fun tX htX hWX => ⟨⟨_, (), rfl, congrArg zI (soL_no g0 g1 g2 g3), g_at htX hW⟩, hS.F htX⟩) hS.2.2 dX6_sortOfLine_30
                  · exfalso; omega
                · refine lv_iload_n hx hb dX6_sortOfLine_21 rfl (lv_at hl 0 rfl) ?_
                  have hW : cw g ad P M H := hW
                  exact W.iret hx hb hr (fun tX htX hWX => ⟨⟨_, (), rfl, congrArg zI (soL_at3 g0 g1 g2 h18), g_at htX hW⟩, hS.F htX⟩) hS.2.2 dX6_sortOfLine_22
            · refine lv_iload_n hx hb dX6_sortOfLine_21 rfl (lv_at hl 0 rfl) ?_
              have hW : cw g ad P M H := hW
              exact W.iret hx hb hr (fun tX htX hWX => ⟨⟨_, (), rfl, congrArg zI (soL_at2 g0 g1 h18), g_at htX hW⟩, hS.F htX⟩) hS.2.2 dX6_sortOfLine_22
        · refine lv_iload_n hx hb dX6_sortOfLine_21 rfl (lv_at hl 0 rfl) ?_
          have hW : cw g ad P M H := hW
          exact W.iret hx hb hr (fun tX htX hWX => ⟨⟨_, (), rfl, congrArg zI (soL_at1 g0 h18), g_at htX hW⟩, hS.F htX⟩) hS.2.2 dX6_sortOfLine_22
    · refine lv_iload_n hx hb dX6_sortOfLine_21 rfl (lv_at hl 0 rfl) ?_
      have hW : cw g ad P M H := hW
      exact W.iret hx hb hr (fun tX htX hWX => ⟨⟨_, (), rfl, congrArg zI (soL_at0  h18), g_at htX hW⟩, hS.F htX⟩) hS.2.2 dX6_sortOfLine_22
