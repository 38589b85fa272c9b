set_option maxHeartbeats 4000000 in
set_option maxRecDepth 100000 in
theorem c_J7_fill_53178_a (l : Launch) (g : GG) (ad : Nat → Nat) (hd9 : hD ad) (P : Nat → Nat) (M : Nat → Nat → Int32) (b : Nat) (hb9 : b = 8 ∨ b = 27) : Met l yJ7_fill_53178 wsJ7_fill_53178 ({ frames := 0, cells := 0, slots := 0, locals := 0 }) (gPc g [.ref ((ad (b + 18))), .int (zI (0))] (cw g ad P M)) (va_Qv (fun (u : Unit) => True) (fun (u : Unit) (tS : State) => cw g ad P (va_up M (b + 18) (fillR (zI (0)) (M (b + 18)) 4)) tS.heap) (hbA ad)) 0 0 (hbA ad) := by
  refine Met.ofW (cc := cJ7_fill_53178) (maxL := 4) (ret := none) (by decide) rfl ?_
  intro p e s m args below meth c s₁ B hml hv
  obtain ⟨rfl, hW, hK⟩ := hv
  have hx := B.exec
  have hb := B.bytes
  have hr := B.returns
  have hts := atoms_spec (ws := wsJ7_fill_53178) B.pre
  have hown : s.vm.findClass RJ7 = some m.cls := findClass_of_methodNamed B.named
  have hlocks := B.notSynchronized
  have hl := lv_entry ([.ref ((ad (b + 18))), .int (zI (0))]) (n := 4) (Nat.le_of_ble_eq_true rfl)
  rw [lg_entry_eq]
  generalize (lg_sl ([.ref ((ad (b + 18))), .int (zI (0))]) ++ List.replicate (4 - (lg_sl ([.ref ((ad (b + 18))), .int (zI (0))])).length) Slot.unset).toArray = ls at hl ⊢
  have hl : lv_has ls 4 [(0, .ref ((ad (b + 18)))), (1, .int (zI (0)))] := hl
  have hS : va_S (hbA ad) s.heap s.heap [] := va_S.rf
  obtain ⟨H, hH9⟩ : ∃ H, H = s.heap := ⟨_, rfl⟩
  obtain ⟨locs, hL9⟩ : ∃ x9l : List Loc, x9l = [] := ⟨_, rfl⟩
  have hW : cw g ad P M H := hH9 ▸ hW
  have hS : va_S (hbA ad) s.heap H locs := by rw [hH9, hL9]; exact hS
  refine z_start hH9 hL9 ?_
  clear hH9 hL9
  have hex : ∀ j : Nat, M j = M j := fun _ => rfl
  refine lv_iconst (v := zI (0)) hx hb dJ7_fill_53178_0 (by decide) ?_
  refine lv_istore_n (lv' := [(2, .int (zI (0))), (0, .ref ((ad (b + 18)))), (1, .int (zI (0)))]) hx hb dJ7_fill_53178_1 rfl hl (by decide) rfl (fun ls hl => ?_)
  refine lv_aload_n hx hb dJ7_fill_53178_2 rfl (lv_at hl 1 rfl) ?_
  have r_b_18 : M (b + 18) = M (b + 18) := hex (b + 18) 
  refine va_alen hx hb hK (hb1 hW (show b + 18 < 126 by omega) (lcE r_b_18 (sh_R18 hb9))) 0 0 rfl rfl (v := zI 4) (show Int32.ofNat 4 = zI 4 by decide) dJ7_fill_53178_3 ?_
  refine lv_istore_n (lv' := [(3, .int (zI (4))), (2, .int (zI (0))), (0, .ref ((ad (b + 18)))), (1, .int (zI (0)))]) hx hb dJ7_fill_53178_4 rfl hl (by decide) rfl (fun ls hl => ?_)
  have loop5 : ∀ (K9 : Nat) (i : Nat) (hK9 : 4 - i < K9) (hi : i ≤ 4) (H : Heap) (locs : List Loc) (M1 : Nat → Nat → Int32) (r_b_18 : M1 (b + 18) = fillR (zI (0)) (M (b + 18)) i) (hex : ∀ j : Nat, ¬ j = b + 18 → M1 j = M j) (hW : cw g ad P M1 H) (hS : va_S (hbA ad) s.heap H locs) (ls : Array Slot) (hl : lv_has ls 4 [(3, .int (zI (4))), (2, .int (zI (((i : Nat) : Int)))), (0, .ref ((ad (b + 18)))), (1, .int (zI (0)))]), W p l e (headSpec wsJ7_fill_53178 ({ frames := 0, cells := 0, slots := 0, locals := 0 })).room s m ([.ref ((ad (b + 18))), .int (zI (0))] : List Value).toArray below meth c H locs 0 0 (MQ below (va_Qv (fun (u : Unit) => True) (fun (u : Unit) (tS : State) => cw g ad P (va_up M (b + 18) (fillR (zI (0)) (M (b + 18)) 4)) tS.heap) (hbA ad)) ([.ref ((ad (b + 18))), .int (zI (0))] : List Value).toArray s 0 0 (hbA ad)) (F0 m 5 ls []) := by
    intro K9
    induction K9 with
    | zero => intro i hK9; exact absurd hK9 (Nat.not_lt_zero _)
    | succ K9 ih =>
      intro i hK9 hi H locs M1 r_b_18 hex hW hS ls hl
      refine lv_iload_n hx hb dJ7_fill_53178_5 rfl (lv_at hl 1 rfl) ?_
      refine lv_iload_n hx hb dJ7_fill_53178_6 rfl (lv_at hl 0 rfl) ?_
      refine z_icmp_ge (tgt := 20) hx hb dJ7_fill_53178_7 (by decide) (by omega) (by omega) (fun h7 => ?_) (fun h7 => ?_)
      · have hW : cw g ad P (va_up M (b + 18) (fillR (zI (0)) (M (b + 18)) 4)) H := by
          have e9 : M1 = va_up M (b + 18) (fillR (zI (0)) (M (b + 18)) 4) := by
            funext i9
            by_cases q0 : i9 = b + 18
            · rw [q0]; exact (r_b_18.trans (by rw [show i = 4 by omega])).trans (up_at _ _ _).symm
            exact (hex i9 q0).trans (up_ne _ _ q0).symm
          rw [← e9]; exact hW
        exact W.vret hx hb hr (fun tX htX hWX => ⟨⟨(), rfl, trivial, g_at htX hW⟩, hS.F htX⟩) hS.2.2 dJ7_fill_53178_20
      · refine lv_aload_n hx hb dJ7_fill_53178_10 rfl (lv_at hl 2 rfl) ?_
        refine lv_iload_n hx hb dJ7_fill_53178_11 rfl (lv_at hl 1 rfl) ?_
        refine lv_iload_n hx hb dJ7_fill_53178_12 rfl (lv_at hl 3 rfl) ?_
        refine y_iast hx hb hK hW hd9 hS (b + 18) (show b + 18 < 126 by omega) (lcE r_b_18 (sh_R18 hb9)) (by decide) (i) (by omega) (by omega) dJ7_fill_53178_13 (fun H locs hW hS => ?_)
        have hW := cw_up (P := P) (M := M1) (f := upd (fillR (zI (0)) (M (b + 18)) i) i (zI (0))) ((sh_R18 hb9)) hW
        obtain ⟨M2, hM2⟩ : ∃ x9c : Nat → Nat → Int32, x9c = va_up M1 (b + 18) (upd (fillR (zI (0)) (M (b + 18)) i) i (zI (0))) := ⟨_, rfl⟩
        have hW : cw g ad P M2 H := by rw [hM2]; exact hW
        have hex : ∀ j : Nat, ¬ j = b + 18 → M2 j = M j := fun j q0 => ((congrFun hM2 j).trans (up_ne _ _ q0)).trans (hex j q0)
        have r_b_18 : M2 (b + 18) = upd (fillR (zI (0)) (M (b + 18)) i) i (zI (0)) := ((congrFun hM2 _).trans (up_at _ _ _))
        refine z_iinc (lv' := [(2, .int (zI (((i : Nat) : Int) + 1))), (3, .int (zI (4))), (0, .ref ((ad (b + 18)))), (1, .int (zI (0)))]) hx hb dJ7_fill_53178_14 hl (k := 1) rfl (by decide) rfl (fun ls hl => ?_)
        refine lv_goto (tgt := 5) hx hb dJ7_fill_53178_17 (by decide) ?_
        have hl := lv_sub (l' := [(3, .int (zI (4))), (2, .int (zI (((i : Nat) : Int) + 1))), (0, .ref ((ad (b + 18)))), (1, .int (zI (0)))]) hl [1, 0, 2, 3] rfl
        have hl : lv_has ls 4 [(3, .int (zI (4))), (2, .int (zI ((((i + 1) : Nat) : Int)))), (0, .ref ((ad (b + 18)))), (1, .int (zI (0)))] := lv_cg (lvR (lvE (congrArg zI (by omega)) (lvR (lvR (rfl))))) hl
        exact ih (i + 1) (by omega) (by omega) H locs M2 (r_b_18.trans (fillR_s _ _ _)) (fun j q0 => hex j q0) hW hS ls hl
  have hl := lv_sub (l' := [(3, .int (zI (4))), (2, .int (zI (0))), (0, .ref ((ad (b + 18)))), (1, .int (zI (0)))]) hl [0, 1, 2, 3] rfl
  have hl : lv_has ls 4 [(3, .int (zI (4))), (2, .int (zI (((0 : Nat) : Int)))), (0, .ref ((ad (b + 18)))), (1, .int (zI (0)))] := lv_cg (lvR (lvE (congrArg zI (rfl)) (lvR (lvR (rfl))))) hl
  exact loop5 _ (0) (Nat.lt_succ_self _) (Nat.zero_le _) H locs M (r_b_18.trans (fillR_0 _ _).symm) (fun j q0 => hex j ) hW hS ls hl

set_option maxHeartbeats 4000000 in
set_option maxRecDepth 100000 in
theorem c_J7_fill_53178_b (l : Launch) (g : GG) (ad : Nat → Nat) (hd9 : hD ad) (P : Nat → Nat) (M : Nat → Nat → Int32) (b : Nat) (hb9 : b = 8 ∨ b = 27) : Met l yJ7_fill_53178 wsJ7_fill_53178 ({ frames := 0, cells := 0, slots := 0, locals := 0 }) (gPc g [.ref ((ad (b + 1 + (1 + 0)))), .int (zI (0))] (cw g ad P M)) (va_Qv (fun (u : Unit) => True) (fun (u : Unit) (tS : State) => cw g ad P (va_up M (b + 1 + (1 + 0)) (fillR (zI (0)) (M (b + 1 + (1 + 0))) 4)) tS.heap) (hbA ad)) 0 0 (hbA ad) := by
  refine Met.ofW (cc := cJ7_fill_53178) (maxL := 4) (ret := none) (by decide) rfl ?_
  intro p e s m args below meth c s₁ B hml hv
  obtain ⟨rfl, hW, hK⟩ := hv
  have hx := B.exec
  have hb := B.bytes
  have hr := B.returns
  have hts := atoms_spec (ws := wsJ7_fill_53178) B.pre
  have hown : s.vm.findClass RJ7 = some m.cls := findClass_of_methodNamed B.named
  have hlocks := B.notSynchronized
  have hl := lv_entry ([.ref ((ad (b + 1 + (1 + 0)))), .int (zI (0))]) (n := 4) (Nat.le_of_ble_eq_true rfl)
  rw [lg_entry_eq]
  generalize (lg_sl ([.ref ((ad (b + 1 + (1 + 0)))), .int (zI (0))]) ++ List.replicate (4 - (lg_sl ([.ref ((ad (b + 1 + (1 + 0)))), .int (zI (0))])).length) Slot.unset).toArray = ls at hl ⊢
  have hl : lv_has ls 4 [(0, .ref ((ad (b + 1 + (1 + 0))))), (1, .int (zI (0)))] := hl
  have hS : va_S (hbA ad) s.heap s.heap [] := va_S.rf
  obtain ⟨H, hH9⟩ : ∃ H, H = s.heap := ⟨_, rfl⟩
  obtain ⟨locs, hL9⟩ : ∃ x9l : List Loc, x9l = [] := ⟨_, rfl⟩
  have hW : cw g ad P M H := hH9 ▸ hW
  have hS : va_S (hbA ad) s.heap H locs := by rw [hH9, hL9]; exact hS
  refine z_start hH9 hL9 ?_
  clear hH9 hL9
  have hex : ∀ j : Nat, M j = M j := fun _ => rfl
  refine lv_iconst (v := zI (0)) hx hb dJ7_fill_53178_0 (by decide) ?_
  refine lv_istore_n (lv' := [(2, .int (zI (0))), (0, .ref ((ad (b + 1 + (1 + 0))))), (1, .int (zI (0)))]) hx hb dJ7_fill_53178_1 rfl hl (by decide) rfl (fun ls hl => ?_)
  refine lv_aload_n hx hb dJ7_fill_53178_2 rfl (lv_at hl 1 rfl) ?_
  have r_b_1_1_0 : M (b + 1 + (1 + 0)) = M (b + 1 + (1 + 0)) := hex (b + 1 + (1 + 0)) 
  refine va_alen hx hb hK (hb1 hW (show b + 1 + (1 + 0) < 126 by omega) (lcE r_b_1_1_0 (sh_Rw1 (i := 0) hb9 (by omega)))) 0 0 rfl rfl (v := zI 4) (show Int32.ofNat 4 = zI 4 by decide) dJ7_fill_53178_3 ?_
  refine lv_istore_n (lv' := [(3, .int (zI (4))), (2, .int (zI (0))), (0, .ref ((ad (b + 1 + (1 + 0))))), (1, .int (zI (0)))]) hx hb dJ7_fill_53178_4 rfl hl (by decide) rfl (fun ls hl => ?_)
  have loop5 : ∀ (K9 : Nat) (i : Nat) (hK9 : 4 - i < K9) (hi : i ≤ 4) (H : Heap) (locs : List Loc) (M1 : Nat → Nat → Int32) (r_b_1_1_0 : M1 (b + 1 + (1 + 0)) = fillR (zI (0)) (M (b + 1 + (1 + 0))) i) (hex : ∀ j : Nat, ¬ j = b + 1 + (1 + 0) → M1 j = M j) (hW : cw g ad P M1 H) (hS : va_S (hbA ad) s.heap H locs) (ls : Array Slot) (hl : lv_has ls 4 [(3, .int (zI (4))), (2, .int (zI (((i : Nat) : Int)))), (0, .ref ((ad (b + 1 + (1 + 0))))), (1, .int (zI (0)))]), W p l e (headSpec wsJ7_fill_53178 ({ frames := 0, cells := 0, slots := 0, locals := 0 })).room s m ([.ref ((ad (b + 1 + (1 + 0)))), .int (zI (0))] : List Value).toArray below meth c H locs 0 0 (MQ below (va_Qv (fun (u : Unit) => True) (fun (u : Unit) (tS : State) => cw g ad P (va_up M (b + 1 + (1 + 0)) (fillR (zI (0)) (M (b + 1 + (1 + 0))) 4)) tS.heap) (hbA ad)) ([.ref ((ad (b + 1 + (1 + 0)))), .int (zI (0))] : List Value).toArray s 0 0 (hbA ad)) (F0 m 5 ls []) := by
    intro K9
    induction K9 with
    | zero => intro i hK9; exact absurd hK9 (Nat.not_lt_zero _)
    | succ K9 ih =>
      intro i hK9 hi H locs M1 r_b_1_1_0 hex hW hS ls hl
      refine lv_iload_n hx hb dJ7_fill_53178_5 rfl (lv_at hl 1 rfl) ?_
      refine lv_iload_n hx hb dJ7_fill_53178_6 rfl (lv_at hl 0 rfl) ?_
      refine z_icmp_ge (tgt := 20) hx hb dJ7_fill_53178_7 (by decide) (by omega) (by omega) (fun h7 => ?_) (fun h7 => ?_)
      · have hW : cw g ad P (va_up M (b + 1 + (1 + 0)) (fillR (zI (0)) (M (b + 1 + (1 + 0))) 4)) H := by
          have e9 : M1 = va_up M (b + 1 + (1 + 0)) (fillR (zI (0)) (M (b + 1 + (1 + 0))) 4) := by
            funext i9
            by_cases q0 : i9 = b + 1 + (1 + 0)
            · rw [q0]; exact (r_b_1_1_0.trans (by rw [show i = 4 by omega])).trans (up_at _ _ _).symm
            exact (hex i9 q0).trans (up_ne _ _ q0).symm
          rw [← e9]; exact hW
        exact W.vret hx hb hr (fun tX htX hWX => ⟨⟨(), rfl, trivial, g_at htX hW⟩, hS.F htX⟩) hS.2.2 dJ7_fill_53178_20
      · refine lv_aload_n hx hb dJ7_fill_53178_10 rfl (lv_at hl 2 rfl) ?_
        refine lv_iload_n hx hb dJ7_fill_53178_11 rfl (lv_at hl 1 rfl) ?_
        refine lv_iload_n hx hb dJ7_fill_53178_12 rfl (lv_at hl 3 rfl) ?_
        refine y_iast hx hb hK hW hd9 hS (b + 1 + (1 + 0)) (show b + 1 + (1 + 0) < 126 by omega) (lcE r_b_1_1_0 (sh_Rw1 (i := 0) hb9 (by omega))) (by decide) (i) (by omega) (by omega) dJ7_fill_53178_13 (fun H locs hW hS => ?_)
        have hW := cw_up (P := P) (M := M1) (f := upd (fillR (zI (0)) (M (b + 1 + (1 + 0))) i) i (zI (0))) ((sh_Rw1 (i := 0) hb9 (by omega))) hW
        obtain ⟨M2, hM2⟩ : ∃ x9c : Nat → Nat → Int32, x9c = va_up M1 (b + 1 + (1 + 0)) (upd (fillR (zI (0)) (M (b + 1 + (1 + 0))) i) i (zI (0))) := ⟨_, rfl⟩
        have hW : cw g ad P M2 H := by rw [hM2]; exact hW
        have hex : ∀ j : Nat, ¬ j = b + 1 + (1 + 0) → M2 j = M j := fun j q0 => ((congrFun hM2 j).trans (up_ne _ _ q0)).trans (hex j q0)
        have r_b_1_1_0 : M2 (b + 1 + (1 + 0)) = upd (fillR (zI (0)) (M (b + 1 + (1 + 0))) i) i (zI (0)) := ((congrFun hM2 _).trans (up_at _ _ _))
        refine z_iinc (lv' := [(2, .int (zI (((i : Nat) : Int) + 1))), (3, .int (zI (4))), (0, .ref ((ad (b + 1 + (1 + 0))))), (1, .int (zI (0)))]) hx hb dJ7_fill_53178_14 hl (k := 1) rfl (by decide) rfl (fun ls hl => ?_)
        refine lv_goto (tgt := 5) hx hb dJ7_fill_53178_17 (by decide) ?_
        have hl := lv_sub (l' := [(3, .int (zI (4))), (2, .int (zI (((i : Nat) : Int) + 1))), (0, .ref ((ad (b + 1 + (1 + 0))))), (1, .int (zI (0)))]) hl [1, 0, 2, 3] rfl
        have hl : lv_has ls 4 [(3, .int (zI (4))), (2, .int (zI ((((i + 1) : Nat) : Int)))), (0, .ref ((ad (b + 1 + (1 + 0))))), (1, .int (zI (0)))] := lv_cg (lvR (lvE (congrArg zI (by omega)) (lvR (lvR (rfl))))) hl
        exact ih (i + 1) (by omega) (by omega) H locs M2 (r_b_1_1_0.trans (fillR_s _ _ _)) (fun j q0 => hex j q0) hW hS ls hl
  have hl := lv_sub (l' := [(3, .int (zI (4))), (2, .int (zI (0))), (0, .ref ((ad (b + 1 + (1 + 0))))), (1, .int (zI (0)))]) hl [0, 1, 2, 3] rfl
  have hl : lv_has ls 4 [(3, .int (zI (4))), (2, .int (zI (((0 : Nat) : Int)))), (0, .ref ((ad (b + 1 + (1 + 0))))), (1, .int (zI (0)))] := lv_cg (lvR (lvE (congrArg zI (rfl)) (lvR (lvR (rfl))))) hl
  exact loop5 _ (0) (Nat.lt_succ_self _) (Nat.zero_le _) H locs M (r_b_1_1_0.trans (fillR_0 _ _).symm) (fun j q0 => hex j ) hW hS ls hl

set_option maxHeartbeats 4000000 in
set_option maxRecDepth 100000 in
theorem c_X2_clear (l : Launch) (g : GG) (ad : Nat → Nat) (hd9 : hD ad) (P : Nat → Nat) (M : Nat → Nat → Int32) (b : Nat) (hb9 : b = 8 ∨ b = 27) : Met l yX2_clear wsX2_clear ({ frames := 1, cells := 0, slots := 0, locals := 23 }) (gPc g [.ref ((ad b))] (cw g ad P M)) (va_Qv (fun (u : Unit) => True) (fun (u : Unit) (tS : State) => cw g ad P (va_up (va_up M (b + 18) (fillR (zI (0)) (M (b + 18)) 4)) (b + 1 + (1 + 0)) (upd (fillR (zI (0)) (M (b + 1 + (1 + 0))) 4) 2 (zI (1)))) tS.heap) (hbA ad)) 0 0 (hbA ad) := by
  refine Met.ofW (cc := cX2_clear) (maxL := 1) (ret := none) (by decide) rfl ?_
  intro p e s m args below meth c s₁ B hml hv
  obtain ⟨rfl, hW, hK⟩ := hv
  have hx := B.exec
  have hb := B.bytes
  have hr := B.returns
  have hts := atoms_spec (ws := wsX2_clear) B.pre
  have hown : s.vm.findClass RX2 = some m.cls := findClass_of_methodNamed B.named
  have hlocks := B.notSynchronized
  have hinX2 : ∀ w ∈ wsX20, w ∈ wsX2_clear := by decide +kernel
  have k25 := hts (.fieldLink RX2 25 "HoursBank$Rules" "counts" "[I") (by decide +kernel)
  have k11 := hts (.fieldLink RX2 11 "HoursBank$Rules" "banks" "[[I") (by decide +kernel)
  have hl := lv_entry ([.ref ((ad b))]) (n := 1) (Nat.le_of_ble_eq_true rfl)
  rw [lg_entry_eq]
  generalize (lg_sl ([.ref ((ad b))]) ++ List.replicate (1 - (lg_sl ([.ref ((ad b))])).length) Slot.unset).toArray = ls at hl ⊢
  have hl : lv_has ls 1 [(0, .ref ((ad b)))] := hl
  have hS : va_S (hbA ad) s.heap s.heap [] := va_S.rf
  obtain ⟨H, hH9⟩ : ∃ H, H = s.heap := ⟨_, rfl⟩
  obtain ⟨locs, hL9⟩ : ∃ x9l : List Loc, x9l = [] := ⟨_, rfl⟩
  have hW : cw g ad P M H := hH9 ▸ hW
  have hS : va_S (hbA ad) s.heap H locs := by rw [hH9, hL9]; exact hS
  refine z_start hH9 hL9 ?_
  clear hH9 hL9
  have hex : ∀ j : Nat, M j = M j := fun _ => rfl
  refine lv_aload_n hx hb dX2_clear_0 rfl (lv_at hl 0 rfl) ?_
  have r_b : M (b) = M (b) := hex (b) 
  refine va_get (D := g.1) (ci := 2) (v := .ref ((ad (b + 18)))) (C := RX2) (T := TX2) (N := 5) hx hb hts hinX2 hown hK (hb1 hW (show b < 126 by omega) (lcE r_b (sh_R0 hb9))) 0 rfl rfl 4 (by decide) k25 (fun _ h9 => h9) rfl dX2_clear_1 ?_
  refine lv_iconst (v := zI (0)) hx hb dX2_clear_4 (by decide) ?_
  refine va_callv (va_runS (As := [.ref ((ad (b + 18))), .int (zI (0))]) (rest := []) ⟨hx, hb, hml, hown, hts⟩ (c_J7_fill_53178_a l g (ad) (hd9) (P) (M) (b) (hb9)) (va_cwS 2 hts gX2_clear_J7_fill_53178 rfl rfl rfl (by decide +kernel) ⟨Nat.le_of_ble_eq_true rfl, Nat.le_of_ble_eq_true rfl⟩) (g_preS hW hK) rfl rfl hl.1 rfl (lv_room (Nat.le_of_ble_eq_true rfl)) dX2_clear_5 ⟨Nat.le_of_ble_eq_true rfl, Nat.le_of_ble_eq_true rfl⟩) hS (fun q _ h => h) (fun q h => h) (fun u0 t9 H1 locs ht9 hvm9 hw9 hB9 hz9 hk9 hS => ?_)
  rw [ht9] at hB9
  clear hz9 hk9 hvm9 ht9
  generalize H1 = H at hB9 hS ⊢
  have hW := hB9
  clear hB9
  have hW : cw g ad P (va_up M (b + 18) (fillR (zI (0)) (M (b + 18)) 4)) H := hW
  obtain ⟨M2, hM2⟩ : ∃ x9c : Nat → Nat → Int32, x9c = va_up M (b + 18) (fillR (zI (0)) (M (b + 18)) 4) := ⟨_, rfl⟩
  have hW : cw g ad P M2 H := by rw [hM2]; exact hW
  have hex : ∀ j : Nat, ¬ j = b + 18 → M2 j = M j := fun j q0 => ((congrFun hM2 j).trans (up_ne _ _ q0)).trans (hex j )
  have r_b : M2 (b) = M (b) := ((congrFun hM2 (b)).trans (up_ne _ _ (by omega))).trans r_b
  have r_b_18 : M2 (b + 18) = fillR (zI (0)) (M (b + 18)) 4 := ((congrFun hM2 _).trans (up_at _ _ _))
  refine lv_aload_n hx hb dX2_clear_8 rfl (lv_at hl 0 rfl) ?_
  refine va_get (D := g.1) (ci := 2) (v := .ref ((ad (b + 1)))) (C := RX2) (T := TX2) (N := 5) hx hb hts hinX2 hown hK (hb1 hW (show b < 126 by omega) (lcE r_b (sh_R0 hb9))) 0 rfl rfl 0 (by decide) k11 (fun _ h9 => h9) rfl dX2_clear_9 ?_
  refine lv_iconst (v := zI (0)) hx hb dX2_clear_12 (by decide) ?_
  have r_b_1 : M2 (b + 1) = M (b + 1) := hex (b + 1) (by omega)
  refine z_aald hx hb hK (hb1 hW (show b + 1 < 126 by omega) (lcE r_b_1 (sh_Rr1 hb9))) 0 6 rfl rfl rfl (by decide) (0) (by omega) (by omega) rfl dX2_clear_13 ?_
  refine lv_iconst (v := zI (0)) hx hb dX2_clear_14 (by decide) ?_
  have hkk9 : True := trivial
  refine va_callv (va_runS (As := [.ref ((ad (b + 1 + (1 + 0)))), .int (zI (0))]) (rest := []) ⟨hx, hb, hml, hown, hts⟩ (c_J7_fill_53178_b l g (ad) (hd9) (P) (M2) (b) (hb9)) (va_cwS 2 hts gX2_clear_J7_fill_53178 rfl rfl rfl (by decide +kernel) ⟨Nat.le_of_ble_eq_true rfl, Nat.le_of_ble_eq_true rfl⟩) (g_preS hW hK) rfl rfl hl.1 rfl (lv_room (Nat.le_of_ble_eq_true rfl)) dX2_clear_15 ⟨Nat.le_of_ble_eq_true rfl, Nat.le_of_ble_eq_true rfl⟩) hS (fun q _ h => h) (fun q h => h) (fun u2 t9 H1 locs ht9 hvm9 hw9 hB9 hz9 hk9 hS => ?_)
  rw [ht9] at hB9
  clear hz9 hk9 hvm9 ht9
  generalize H1 = H at hB9 hS ⊢
  have hW := hB9
  clear hB9
  have hW : cw g ad P (va_up M2 (b + 1 + (1 + 0)) (fillR (zI (0)) (M2 (b + 1 + (1 + 0))) 4)) H := hW
  obtain ⟨M4, hM4⟩ : ∃ x9c : Nat → Nat → Int32, x9c = va_up M2 (b + 1 + (1 + 0)) (fillR (zI (0)) (M2 (b + 1 + (1 + 0))) 4) := ⟨_, rfl⟩
  have hW : cw g ad P M4 H := by rw [hM4]; exact hW
  have hex : ∀ j : Nat, ¬ j = b + 18 → ¬ j = b + 1 + (1 + 0) → M4 j = M j := fun j q0 q1 => ((congrFun hM4 j).trans (up_ne _ _ q1)).trans (hex j q0)
  have r_b : M4 (b) = M (b) := ((congrFun hM4 (b)).trans (up_ne _ _ (by omega))).trans r_b
  have r_b_18 : M4 (b + 18) = fillR (zI (0)) (M (b + 18)) 4 := ((congrFun hM4 (b + 18)).trans (up_ne _ _ (by omega))).trans r_b_18
  have r_b_1 : M4 (b + 1) = M (b + 1) := ((congrFun hM4 (b + 1)).trans (up_ne _ _ (by omega))).trans r_b_1
  have r_b_1_1_0 : M4 (b + 1 + (1 + 0)) = fillR (zI (0)) (M2 (b + 1 + (1 + 0))) 4 := ((congrFun hM4 _).trans (up_at _ _ _))
  refine lv_aload_n hx hb dX2_clear_18 rfl (lv_at hl 0 rfl) ?_
  refine va_get (D := g.1) (ci := 2) (v := .ref ((ad (b + 1)))) (C := RX2) (T := TX2) (N := 5) hx hb hts hinX2 hown hK (hb1 hW (show b < 126 by omega) (lcE r_b (sh_R0 hb9))) 0 rfl rfl 0 (by decide) k11 (fun _ h9 => h9) rfl dX2_clear_19 ?_
  refine lv_iconst (v := zI (0)) hx hb dX2_clear_22 (by decide) ?_
  refine z_aald hx hb hK (hb1 hW (show b + 1 < 126 by omega) (lcE r_b_1 (sh_Rr1 hb9))) 0 6 rfl rfl rfl (by decide) (0) (by omega) (by omega) rfl dX2_clear_23 ?_
  refine lv_iconst (v := zI (2)) hx hb dX2_clear_24 (by decide) ?_
  refine lv_iconst (v := zI (1)) hx hb dX2_clear_25 (by decide) ?_
  refine y_iast hx hb hK hW hd9 hS (b + 1 + (1 + 0)) (show b + 1 + (1 + 0) < 126 by omega) (lcE r_b_1_1_0 (sh_Rw1 (i := 0) hb9 (by omega))) (by decide) (2) (by omega) (by omega) dX2_clear_26 (fun H locs hW hS => ?_)
  have hW := cw_up (P := P) (M := M4) (f := upd (fillR (zI (0)) (M2 (b + 1 + (1 + 0))) 4) 2 (zI (1))) ((sh_Rw1 (i := 0) hb9 (by omega))) hW
  obtain ⟨M5, hM5⟩ : ∃ x9c : Nat → Nat → Int32, x9c = va_up M4 (b + 1 + (1 + 0)) (upd (fillR (zI (0)) (M2 (b + 1 + (1 + 0))) 4) 2 (zI (1))) := ⟨_, rfl⟩
  have hW : cw g ad P M5 H := by rw [hM5]; exact hW
  have hex : ∀ j : Nat, ¬ j = b + 18 → ¬ j = b + 1 + (1 + 0) → M5 j = M j := fun j q0 q1 => ((congrFun hM5 j).trans (up_ne _ _ q1)).trans (hex j q0 q1)
  have r_b : M5 (b) = M (b) := ((congrFun hM5 (b)).trans (up_ne _ _ (by omega))).trans r_b
  have r_b_18 : M5 (b + 18) = fillR (zI (0)) (M (b + 18)) 4 := ((congrFun hM5 (b + 18)).trans (up_ne _ _ (by omega))).trans r_b_18
  have r_b_1 : M5 (b + 1) = M (b + 1) := ((congrFun hM5 (b + 1)).trans (up_ne _ _ (by omega))).trans r_b_1
  have r_b_1_1_0 : M5 (b + 1 + (1 + 0)) = upd (fillR (zI (0)) (M2 (b + 1 + (1 + 0))) 4) 2 (zI (1)) := ((congrFun hM5 _).trans (up_at _ _ _))
  have hW : cw g ad P (va_up (va_up M (b + 18) (fillR (zI (0)) (M (b + 18)) 4)) (b + 1 + (1 + 0)) (upd (fillR (zI (0)) (M (b + 1 + (1 + 0))) 4) 2 (zI (1)))) H := by
    have e9 : M5 = va_up (va_up M (b + 18) (fillR (zI (0)) (M (b + 18)) 4)) (b + 1 + (1 + 0)) (upd (fillR (zI (0)) (M (b + 1 + (1 + 0))) 4) 2 (zI (1))) := by
      funext i9
      by_cases q0 : i9 = b + 18
      · rw [q0]; exact (r_b_18).trans ((up_ne _ _ (by omega)).trans (up_at _ _ _)).symm
      by_cases q1 : i9 = b + 1 + (1 + 0)
      · rw [q1]; exact (r_b_1_1_0.trans (by rw [show M2 (b + 1 + (1 + 0)) = M (b + 1 + (1 + 0)) from (congrFun hM2 _).trans (up_ne _ _ (by omega))])).trans (up_at _ _ _).symm
      exact (hex i9 q0 q1).trans ((up_ne _ _ q1).trans (up_ne _ _ q0)).symm
    rw [← e9]; exact hW
  exact W.vret hx hb hr (fun tX htX hWX => ⟨⟨(), rfl, trivial, g_at htX hW⟩, hS.F htX⟩) hS.2.2 dX2_clear_27

set_option maxHeartbeats 4000000 in
set_option maxRecDepth 100000 in
theorem c_X2_rateOf (l : Launch) (g : GG) (ad : Nat → Nat) (hd9 : hD ad) (P : Nat → Nat) (M : Nat → Nat → Int32) (b : Nat) (hb9 : b = 8 ∨ b = 27) (w : Nat) (hw : w < 4) : Met l yX2_rateOf wsX2_rateOf ({ frames := 0, cells := 0, slots := 0, locals := 0 }) (gPc g [.ref ((ad b)), .int (zI (w))] (cw g ad P M)) (va_Qi (fun (r : Int32) (u : Unit) => r = M (b + 1 + (13 + w)) 0) (fun (u : Unit) (tS : State) => cw g ad P M tS.heap) (hbA ad)) 0 0 (hbA ad) := by
  refine Met.ofW (cc := cX2_rateOf) (maxL := 2) (ret := (some .int)) (by decide) rfl ?_
  intro p e s m args below meth c s₁ B hml hv
  obtain ⟨rfl, hW, hK⟩ := hv
  have hx := B.exec
  have hb := B.bytes
  have hr := B.returns
  have hts := atoms_spec (ws := wsX2_rateOf) B.pre
  have hown : s.vm.findClass RX2 = some m.cls := findClass_of_methodNamed B.named
  have hlocks := B.notSynchronized
  have hinX2 : ∀ w ∈ wsX20, w ∈ wsX2_rateOf := by decide +kernel
  have k22 := hts (.fieldLink RX2 22 "HoursBank$Rules" "workers" "[[I") (by decide +kernel)
  have hl := lv_entry ([.ref ((ad b)), .int (zI (w))]) (n := 2) (Nat.le_of_ble_eq_true rfl)
  rw [lg_entry_eq]
  generalize (lg_sl ([.ref ((ad b)), .int (zI (w))]) ++ List.replicate (2 - (lg_sl ([.ref ((ad b)), .int (zI (w))])).length) Slot.unset).toArray = ls at hl ⊢
  have hl : lv_has ls 2 [(0, .ref ((ad b))), (1, .int (zI (w)))] := hl
  have hS : va_S (hbA ad) s.heap s.heap [] := va_S.rf
  obtain ⟨H, hH9⟩ : ∃ H, H = s.heap := ⟨_, rfl⟩
  obtain ⟨locs, hL9⟩ : ∃ x9l : List Loc, x9l = [] := ⟨_, rfl⟩
  have hW : cw g ad P M H := hH9 ▸ hW
  have hS : va_S (hbA ad) s.heap H locs := by rw [hH9, hL9]; exact hS
  refine z_start hH9 hL9 ?_
  clear hH9 hL9
  have hex : ∀ j : Nat, M j = M j := fun _ => rfl
  refine lv_aload_n hx hb dX2_rateOf_0 rfl (lv_at hl 0 rfl) ?_
  have r_b : M (b) = M (b) := hex (b) 
  refine va_get (D := g.1) (ci := 2) (v := .ref ((ad (b + 13)))) (C := RX2) (T := TX2) (N := 5) hx hb hts hinX2 hown hK (hb1 hW (show b < 126 by omega) (lcE r_b (sh_R0 hb9))) 0 rfl rfl 3 (by decide) k22 (fun _ h9 => h9) rfl dX2_rateOf_1 ?_
  refine lv_iload_n hx hb dX2_rateOf_4 rfl (lv_at hl 1 rfl) ?_
  have r_b_13 : M (b + 13) = M (b + 13) := hex (b + 13) 
  refine z_aald hx hb hK (hb1 hW (show b + 13 < 126 by omega) (lcE r_b_13 (sh_Rr13 hb9))) 0 6 rfl rfl rfl (by decide) (w) (by omega) (by omega) rfl dX2_rateOf_5 ?_
  refine lv_iconst (v := zI (0)) hx hb dX2_rateOf_6 (by decide) ?_
  have r_b_1_13_w : M (b + 1 + (13 + w)) = M (b + 1 + (13 + w)) := hex (b + 1 + (13 + w)) 
  refine z_iald hx hb hK (hb1 hW (show b + 1 + (13 + w) < 126 by omega) (lcE r_b_1_13_w (sh_Rw13 (i := w) hb9 (by omega)))) 0 0 rfl rfl (by decide) (0) (by omega) (by omega) dX2_rateOf_7 ?_
  have hW : cw g ad P M H := hW
  exact W.iret hx hb hr (fun tX htX hWX => ⟨⟨_, (), rfl, rfl, g_at htX hW⟩, hS.F htX⟩) hS.2.2 dX2_rateOf_8

set_option maxHeartbeats 4000000 in
set_option maxRecDepth 100000 in
theorem c_X2_leaveOf (l : Launch) (g : GG) (ad : Nat → Nat) (hd9 : hD ad) (P : Nat → Nat) (M : Nat → Nat → Int32) (b : Nat) (hb9 : b = 8 ∨ b = 27) (w : Nat) (hw : w < 4) : Met l yX2_leaveOf wsX2_leaveOf ({ frames := 0, cells := 0, slots := 0, locals := 0 }) (gPc g [.ref ((ad b)), .int (zI (w))] (cw g ad P M)) (va_Qi (fun (r : Int32) (u : Unit) => r = M (b + 1 + (13 + w)) 1) (fun (u : Unit) (tS : State) => cw g ad P M tS.heap) (hbA ad)) 0 0 (hbA ad) := by
  refine Met.ofW (cc := cX2_leaveOf) (maxL := 2) (ret := (some .int)) (by decide) rfl ?_
  intro p e s m args below meth c s₁ B hml hv
  obtain ⟨rfl, hW, hK⟩ := hv
  have hx := B.exec
  have hb := B.bytes
  have hr := B.returns
  have hts := atoms_spec (ws := wsX2_leaveOf) B.pre
  have hown : s.vm.findClass RX2 = some m.cls := findClass_of_methodNamed B.named
  have hlocks := B.notSynchronized
  have hinX2 : ∀ w ∈ wsX20, w ∈ wsX2_leaveOf := by decide +kernel
  have k22 := hts (.fieldLink RX2 22 "HoursBank$Rules" "workers" "[[I") (by decide +kernel)
  have hl := lv_entry ([.ref ((ad b)), .int (zI (w))]) (n := 2) (Nat.le_of_ble_eq_true rfl)
  rw [lg_entry_eq]
  generalize (lg_sl ([.ref ((ad b)), .int (zI (w))]) ++ List.replicate (2 - (lg_sl ([.ref ((ad b)), .int (zI (w))])).length) Slot.unset).toArray = ls at hl ⊢
  have hl : lv_has ls 2 [(0, .ref ((ad b))), (1, .int (zI (w)))] := hl
  have hS : va_S (hbA ad) s.heap s.heap [] := va_S.rf
  obtain ⟨H, hH9⟩ : ∃ H, H = s.heap := ⟨_, rfl⟩
  obtain ⟨locs, hL9⟩ : ∃ x9l : List Loc, x9l = [] := ⟨_, rfl⟩
  have hW : cw g ad P M H := hH9 ▸ hW
  have hS : va_S (hbA ad) s.heap H locs := by rw [hH9, hL9]; exact hS
  refine z_start hH9 hL9 ?_
  clear hH9 hL9
  have hex : ∀ j : Nat, M j = M j := fun _ => rfl
  refine lv_aload_n hx hb dX2_leaveOf_0 rfl (lv_at hl 0 rfl) ?_
  have r_b : M (b) = M (b) := hex (b) 
  refine va_get (D := g.1) (ci := 2) (v := .ref ((ad (b + 13)))) (C := RX2) (T := TX2) (N := 5) hx hb hts hinX2 hown hK (hb1 hW (show b < 126 by omega) (lcE r_b (sh_R0 hb9))) 0 rfl rfl 3 (by decide) k22 (fun _ h9 => h9) rfl dX2_leaveOf_1 ?_
  refine lv_iload_n hx hb dX2_leaveOf_4 rfl (lv_at hl 1 rfl) ?_
  have r_b_13 : M (b + 13) = M (b + 13) := hex (b + 13) 
  refine z_aald hx hb hK (hb1 hW (show b + 13 < 126 by omega) (lcE r_b_13 (sh_Rr13 hb9))) 0 6 rfl rfl rfl (by decide) (w) (by omega) (by omega) rfl dX2_leaveOf_5 ?_
  refine lv_iconst (v := zI (1)) hx hb dX2_leaveOf_6 (by decide) ?_
  have r_b_1_13_w : M (b + 1 + (13 + w)) = M (b + 1 + (13 + w)) := hex (b + 1 + (13 + w)) 
  refine z_iald hx hb hK (hb1 hW (show b + 1 + (13 + w) < 126 by omega) (lcE r_b_1_13_w (sh_Rw13 (i := w) hb9 (by omega)))) 0 0 rfl rfl (by decide) (1) (by omega) (by omega) dX2_leaveOf_7 ?_
  have hW : cw g ad P M H := hW
  exact W.iret hx hb hr (fun tX htX hWX => ⟨⟨_, (), rfl, rfl, g_at htX hW⟩, hS.F htX⟩) hS.2.2 dX2_leaveOf_8

set_option maxHeartbeats 4000000 in
set_option maxRecDepth 100000 in
theorem c_X3_begin (l : Launch) (g : GG) (ad : Nat → Nat) (hd9 : hD ad) (P : Nat → Nat) (M : Nat → Nat → Int32) (b : Nat) (hb9 : b = 8 ∨ b = 27) (w : Nat) (hw : w < 4) : Met l yX3_begin wsX3_begin ({ frames := 1, cells := 0, slots := 0, locals := 21 }) (gPc g [.ref ((ad (46 + 5 * w))), .ref ((ad b)), .int (zI (w))] (cw g ad P M)) (va_Qv (fun (u : Nat → Nat → Int32) => bgQ b w M u) (fun (u : Nat → Nat → Int32) (tS : State) => cw g ad (va_up P (46 + 5 * w) b) u tS.heap) (hbA ad)) 0 0 (hbA ad) := by
  refine Met.ofW (cc := cX3_begin) (maxL := 4) (ret := none) (by decide) rfl ?_
  intro p e s m args below meth c s₁ B hml hv
  obtain ⟨rfl, hW, hK⟩ := hv
  have hx := B.exec
  have hb := B.bytes
  have hr := B.returns
  have hts := atoms_spec (ws := wsX3_begin) B.pre
  have hown : s.vm.findClass RX3 = some m.cls := findClass_of_methodNamed B.named
  have hlocks := B.notSynchronized
  have hinX3 : ∀ w ∈ wsX30, w ∈ wsX3_begin := by decide +kernel
  have k33 := hts (.fieldLink RX3 33 "HoursBank$Sheet" "rules" "LHoursBank$Rules;") (by decide +kernel)
  have k43 := hts (.fieldLink RX3 43 "HoursBank$Sheet" "rate" "I") (by decide +kernel)
  have k50 := hts (.fieldLink RX3 50 "HoursBank$Sheet" "leaveInAll" "I") (by decide +kernel)
  have k25 := hts (.fieldLink RX3 25 "HoursBank$Sheet" "account" "LHoursBank$Account;") (by decide +kernel)
  have k9 := hts (.fieldLink RX3 9 "HoursBank$Sheet" "changed" "[I") (by decide +kernel)
  have k15 := hts (.fieldLink RX3 15 "HoursBank$Sheet" "told" "[I") (by decide +kernel)
  have k18 := hts (.fieldLink RX3 18 "HoursBank$Sheet" "flagged" "[Z") (by decide +kernel)
  have hl := lv_entry ([.ref ((ad (46 + 5 * w))), .ref ((ad b)), .int (zI (w))]) (n := 4) (Nat.le_of_ble_eq_true rfl)
  rw [lg_entry_eq]
  generalize (lg_sl ([.ref ((ad (46 + 5 * w))), .ref ((ad b)), .int (zI (w))]) ++ List.replicate (4 - (lg_sl ([.ref ((ad (46 + 5 * w))), .ref ((ad b)), .int (zI (w))])).length) Slot.unset).toArray = ls at hl ⊢
  have hl : lv_has ls 4 [(0, .ref ((ad (46 + 5 * w)))), (1, .ref ((ad b))), (2, .int (zI (w)))] := hl
  have hS : va_S (hbA ad) s.heap s.heap [] := va_S.rf
  obtain ⟨H, hH9⟩ : ∃ H, H = s.heap := ⟨_, rfl⟩
  obtain ⟨locs, hL9⟩ : ∃ x9l : List Loc, x9l = [] := ⟨_, rfl⟩
  have hW : cw g ad P M H := hH9 ▸ hW
  have hS : va_S (hbA ad) s.heap H locs := by rw [hH9, hL9]; exact hS
  refine z_start hH9 hL9 ?_
  clear hH9 hL9
  have hex : ∀ j : Nat, M j = M j := fun _ => rfl
  refine lv_aload_n hx hb dX3_begin_0 rfl (lv_at hl 0 rfl) ?_
  refine lv_aload_n hx hb dX3_begin_1 rfl (lv_at hl 1 rfl) ?_
  have r_46_5_w : M (46 + 5 * w) = M (46 + 5 * w) := hex (46 + 5 * w) 
  refine y_put (ci := 3) (v := .ref ((ad b))) (ty := .object "HoursBank$Rules") (C := RX3) (T := TX3) (N := 7) hx hb hts hinX3 tyX3 tyX3_ok nmX3 hown hK hW hd9 hS (46 + 5 * w) (show 46 + 5 * w < 126 by omega) (lcE r_46_5_w (sh_S0 (w := w) (by omega))) rfl 6 (by decide) k33 (fun _ h9 => h9) rfl (by decide +kernel) rfl rfl (Nat.le_of_ble_eq_true rfl) dX3_begin_2 (fun H locs hW hS => ?_)
  obtain ⟨P1, hP1⟩ : ∃ x9c : Nat → Nat, x9c = va_up P (46 + 5 * w) (b) := ⟨_, rfl⟩
  have hW : cw g ad P1 M H := by rw [hP1]; exact cw_ptr (P := P) (I := 46 + 5 * w) ((sh_S0 (w := w) (by omega)).trans (by rw [up_at]; rfl)) (fun _ => ⟨(up_ne _ _ (by omega)).symm, (up_ne _ _ (by omega)).symm⟩) (fun v9 hv9 q9 => (up_ne _ _ q9).symm) hW
  refine lv_aload_n hx hb dX3_begin_5 rfl (lv_at hl 0 rfl) ?_
  refine lv_aload_n hx hb dX3_begin_6 rfl (lv_at hl 1 rfl) ?_
  refine lv_iload_n hx hb dX3_begin_7 rfl (lv_at hl 2 rfl) ?_
  have r_b : M (b) = M (b) := hex (b) 
  refine va_calli (va_runV (As := [.int (zI (w))]) (rest := [.ref ((ad (46 + 5 * w)))]) ⟨hx, hb, hml, hown, hts⟩ (c_X2_rateOf l g (ad) (hd9) (P1) (M) (b) (hb9) (w) (hw)) (cwV 1 hts gX3_begin_X2_rateOf rfl rfl rfl (by decide +kernel) ⟨Nat.le_of_ble_eq_true rfl, Nat.le_of_ble_eq_true rfl⟩) (g_preV hW hK (va_recv hK (hb1 hW (show b < 126 by omega) (lcE r_b (sh_R0 hb9))) (q0 := 0) (ci := 2) rfl rfl)) rfl rfl hl.1 rfl (lv_room (Nat.le_of_ble_eq_true rfl)) dX3_begin_8 ⟨Nat.le_of_ble_eq_true rfl, Nat.le_of_ble_eq_true rfl⟩) hS (fun q _ h => h) (fun q h => h) (fun r u1 t9 H1 locs ht9 hvm9 hw9 hB9 hz9 hk9 hS => ?_)
  rw [ht9] at hB9
  clear hz9 hk9 hvm9 ht9
  generalize H1 = H at hB9 hS ⊢
  have hW := hB9
  clear hB9
  have hW : cw g ad P1 M H := hW
  obtain rfl : r = M (b + 1 + (13 + w)) 0 := hw9
  refine z_top (y := M (b + 1 + (13 + w)) 0) (congrFun (hex _ ) 0) ?_
  refine y_put (ci := 3) (v := .int (M (b + 1 + (13 + w)) 0)) (ty := .int) (C := RX3) (T := TX3) (N := 7) hx hb hts hinX3 tyX3 tyX3_ok nmX3 hown hK hW hd9 hS (46 + 5 * w) (show 46 + 5 * w < 126 by omega) (lcE r_46_5_w (sh_S0 (w := w) (by omega))) rfl 4 (by decide) k43 (fun _ h9 => h9) rfl (by decide +kernel) rfl rfl (Nat.le_of_ble_eq_true rfl) dX3_begin_11 (fun H locs hW hS => ?_)
  have hW := cw_up (P := P1) (M := M) (f := upd (M (46 + 5 * w)) 0 (M (b + 1 + (13 + w)) 0)) (((sh_S0 (w := w) (by omega))).trans rfl) hW
  obtain ⟨M3, hM3⟩ : ∃ x9c : Nat → Nat → Int32, x9c = va_up M (46 + 5 * w) (upd (M (46 + 5 * w)) 0 (M (b + 1 + (13 + w)) 0)) := ⟨_, rfl⟩
  have hW : cw g ad P1 M3 H := by rw [hM3]; exact hW
  have hex : ∀ j : Nat, ¬ j = 46 + 5 * w → M3 j = M j := fun j q0 => ((congrFun hM3 j).trans (up_ne _ _ q0)).trans (hex j )
  have r_b : M3 (b) = M (b) := ((congrFun hM3 (b)).trans (up_ne _ _ (by omega))).trans r_b
  have r_46_5_w : M3 (46 + 5 * w) = upd (M (46 + 5 * w)) 0 (M (b + 1 + (13 + w)) 0) := ((congrFun hM3 _).trans (up_at _ _ _))
  refine lv_aload_n hx hb dX3_begin_14 rfl (lv_at hl 0 rfl) ?_
  refine lv_aload_n hx hb dX3_begin_15 rfl (lv_at hl 1 rfl) ?_
  refine lv_iload_n hx hb dX3_begin_16 rfl (lv_at hl 2 rfl) ?_
  refine va_calli (va_runV (As := [.int (zI (w))]) (rest := [.ref ((ad (46 + 5 * w)))]) ⟨hx, hb, hml, hown, hts⟩ (c_X2_leaveOf l g (ad) (hd9) (P1) (M3) (b) (hb9) (w) (hw)) (cwV 1 hts gX3_begin_X2_leaveOf rfl rfl rfl (by decide +kernel) ⟨Nat.le_of_ble_eq_true rfl, Nat.le_of_ble_eq_true rfl⟩) (g_preV hW hK (va_recv hK (hb1 hW (show b < 126 by omega) (lcE r_b (sh_R0 hb9))) (q0 := 0) (ci := 2) rfl rfl)) rfl rfl hl.1 rfl (lv_room (Nat.le_of_ble_eq_true rfl)) dX3_begin_17 ⟨Nat.le_of_ble_eq_true rfl, Nat.le_of_ble_eq_true rfl⟩) hS (fun q _ h => h) (fun q h => h) (fun r u3 t9 H1 locs ht9 hvm9 hw9 hB9 hz9 hk9 hS => ?_)
  rw [ht9] at hB9
  clear hz9 hk9 hvm9 ht9
  generalize H1 = H at hB9 hS ⊢
  have hW := hB9
  clear hB9
  have hW : cw g ad P1 M3 H := hW
  obtain rfl : r = M3 (b + 1 + (13 + w)) 1 := hw9
  refine z_top (y := M (b + 1 + (13 + w)) 1) (congrFun (hex _ (by omega)) 1) ?_
  refine y_put (ci := 3) (v := .int (M (b + 1 + (13 + w)) 1)) (ty := .int) (C := RX3) (T := TX3) (N := 7) hx hb hts hinX3 tyX3 tyX3_ok nmX3 hown hK hW hd9 hS (46 + 5 * w) (show 46 + 5 * w < 126 by omega) (lcE r_46_5_w (sh_S0 (w := w) (by omega))) rfl 5 (by decide) k50 (fun _ h9 => h9) rfl (by decide +kernel) rfl rfl (Nat.le_of_ble_eq_true rfl) dX3_begin_20 (fun H locs hW hS => ?_)
  have hW := cw_up (P := P1) (M := M3) (f := upd (upd (M (46 + 5 * w)) 0 (M (b + 1 + (13 + w)) 0)) 1 (M (b + 1 + (13 + w)) 1)) (((sh_S0 (w := w) (by omega))).trans rfl) hW
  obtain ⟨M5, hM5⟩ : ∃ x9c : Nat → Nat → Int32, x9c = va_up M3 (46 + 5 * w) (upd (upd (M (46 + 5 * w)) 0 (M (b + 1 + (13 + w)) 0)) 1 (M (b + 1 + (13 + w)) 1)) := ⟨_, rfl⟩
  have hW : cw g ad P1 M5 H := by rw [hM5]; exact hW
  have hex : ∀ j : Nat, ¬ j = 46 + 5 * w → M5 j = M j := fun j q0 => ((congrFun hM5 j).trans (up_ne _ _ q0)).trans (hex j q0)
  have r_b : M5 (b) = M (b) := ((congrFun hM5 (b)).trans (up_ne _ _ (by omega))).trans r_b
  have r_46_5_w : M5 (46 + 5 * w) = upd (upd (M (46 + 5 * w)) 0 (M (b + 1 + (13 + w)) 0)) 1 (M (b + 1 + (13 + w)) 1) := ((congrFun hM5 _).trans (up_at _ _ _))
  refine lv_aload_n hx hb dX3_begin_23 rfl (lv_at hl 0 rfl) ?_
  refine va_get (D := g.1) (ci := 3) (v := .ref ((ad (46 + 5 * w + 4)))) (C := RX3) (T := TX3) (N := 7) hx hb hts hinX3 hown hK (hb1 hW (show 46 + 5 * w < 126 by omega) (lcE r_46_5_w (sh_S0 (w := w) (by omega)))) 0 rfl rfl 3 (by decide) k25 (fun _ h9 => h9) rfl dX3_begin_24 ?_
  have r_46_5_w_4 : M5 (46 + 5 * w + 4) = M (46 + 5 * w + 4) := hex (46 + 5 * w + 4) (by omega)
  refine va_callv (va_runV (As := []) (rest := []) ⟨hx, hb, hml, hown, hts⟩ (c_X0_clear l g (ad) (hd9) (lc g ad P1 M5) ((46 + 5 * w + 4)) (by omega) ((M (46 + 5 * w + 4))) (lcE r_46_5_w_4 (sh_S4 (w := w) (by omega)))) (cwV 0 hts gX3_begin_X0_clear rfl rfl rfl (by decide +kernel) ⟨Nat.le_of_ble_eq_true rfl, Nat.le_of_ble_eq_true rfl⟩) (g_preV hW hK (va_recv hK (hb1 hW (show 46 + 5 * w + 4 < 126 by omega) (lcE r_46_5_w_4 (sh_S4 (w := w) (by omega)))) (q0 := 0) (ci := 0) rfl rfl)) rfl rfl hl.1 rfl (lv_room (Nat.le_of_ble_eq_true rfl)) dX3_begin_27 ⟨Nat.le_of_ble_eq_true rfl, Nat.le_of_ble_eq_true rfl⟩) hS (fun q _ h => h) (fun q h => h) (fun c6 t9 H1 locs ht9 hvm9 hw9 hB9 hz9 hk9 hS => ?_)
  rw [ht9] at hB9
  have hW := hB9
  clear hB9 hz9 hk9 hvm9 ht9
  generalize H1 = H at hW hS ⊢
  have hW : hbP g ad c6 H := hW
  try dsimp only at hw9
  have hW : cw g ad P1 (va_up M5 (46 + 5 * w + 4) (begR)) H := cw_1 hW hw9.1 (((sh_S4 (w := w) (by omega))).trans rfl) hw9.2
  obtain ⟨M7, hM7⟩ : ∃ x9c : Nat → Nat → Int32, x9c = va_up M5 (46 + 5 * w + 4) (begR) := ⟨_, rfl⟩
  have hW : cw g ad P1 M7 H := by rw [hM7]; exact hW
  have hex : ∀ j : Nat, ¬ j = 46 + 5 * w → ¬ j = 46 + 5 * w + 4 → M7 j = M j := fun j q0 q1 => ((congrFun hM7 j).trans (up_ne _ _ q1)).trans (hex j q0)
  have r_b : M7 (b) = M (b) := ((congrFun hM7 (b)).trans (up_ne _ _ (by omega))).trans r_b
  have r_46_5_w : M7 (46 + 5 * w) = upd (upd (M (46 + 5 * w)) 0 (M (b + 1 + (13 + w)) 0)) 1 (M (b + 1 + (13 + w)) 1) := ((congrFun hM7 (46 + 5 * w)).trans (up_ne _ _ (by omega))).trans r_46_5_w
  have r_46_5_w_4 : M7 (46 + 5 * w + 4) = begR := ((congrFun hM7 _).trans (up_at _ _ _))
  refine lv_iconst (v := zI (0)) hx hb dX3_begin_30 (by decide) ?_
  refine lv_istore_n (lv' := [(3, .int (zI (0))), (0, .ref ((ad (46 + 5 * w)))), (1, .ref ((ad b))), (2, .int (zI (w)))]) hx hb dX3_begin_31 rfl hl (by decide) rfl (fun ls hl => ?_)
  have r_46_5_w_1 : M7 (46 + 5 * w + 1) = M (46 + 5 * w + 1) := hex (46 + 5 * w + 1) (by omega) (by omega)
  have r_46_5_w_2 : M7 (46 + 5 * w + 2) = M (46 + 5 * w + 2) := hex (46 + 5 * w + 2) (by omega) (by omega)
  have r_46_5_w_3 : M7 (46 + 5 * w + 3) = M (46 + 5 * w + 3) := hex (46 + 5 * w + 3) (by omega) (by omega)
  have loop32 : ∀ (K9 : Nat) (i : Nat) (hK9 : 364 - i < K9) (hi : i ≤ 364) (H : Heap) (locs : List Loc) (M8 : Nat → Nat → Int32) (r_b : M8 (b) = M (b)) (r_46_5_w : M8 (46 + 5 * w) = upd (upd (M (46 + 5 * w)) 0 (M (b + 1 + (13 + w)) 0)) 1 (M (b + 1 + (13 + w)) 1)) (r_46_5_w_4 : M8 (46 + 5 * w + 4) = begR) (r_46_5_w_1 : M8 (46 + 5 * w + 1) = fillR (zI (-1)) (M (46 + 5 * w + 1)) i) (r_46_5_w_2 : M8 (46 + 5 * w + 2) = fillR (zI (0)) (M (46 + 5 * w + 2)) i) (r_46_5_w_3 : M8 (46 + 5 * w + 3) = fillR (zI (0)) (M (46 + 5 * w + 3)) i) (hex : ∀ j : Nat, ¬ j = 46 + 5 * w → ¬ j = 46 + 5 * w + 4 → ¬ j = 46 + 5 * w + 1 → ¬ j = 46 + 5 * w + 2 → ¬ j = 46 + 5 * w + 3 → M8 j = M j) (hW : cw g ad P1 M8 H) (hS : va_S (hbA ad) s.heap H locs) (ls : Array Slot) (hl : lv_has ls 4 [(3, .int (zI (((i : Nat) : Int)))), (0, .ref ((ad (46 + 5 * w))))]), W p l e (headSpec wsX3_begin ({ frames := 1, cells := 0, slots := 0, locals := 21 })).room s m ([.ref ((ad (46 + 5 * w))), .ref ((ad b)), .int (zI (w))] : List Value).toArray below meth c H locs 0 0 (MQ below (va_Qv (fun (u : Nat → Nat → Int32) => bgQ b w M u) (fun (u : Nat → Nat → Int32) (tS : State) => cw g ad (va_up P (46 + 5 * w) b) u tS.heap) (hbA ad)) ([.ref ((ad (46 + 5 * w))), .ref ((ad b)), .int (zI (w))] : List Value).toArray s 0 0 (hbA ad)) (F0 m 32 ls []) := by
    intro K9
    induction K9 with
    | zero => intro i hK9; exact absurd hK9 (Nat.not_lt_zero _)
    | succ K9 ih =>
      intro i hK9 hi H locs M8 r_b r_46_5_w r_46_5_w_4 r_46_5_w_1 r_46_5_w_2 r_46_5_w_3 hex hW hS ls hl
      refine lv_iload_n hx hb dX3_begin_32 rfl (lv_at hl 0 rfl) ?_
      refine lv_sipush (v := zI (364)) hx hb dX3_begin_33 (by decide) ?_
      refine z_icmp_ge (tgt := 66) hx hb dX3_begin_36 (by decide) (by omega) (by omega) (fun h36 => ?_) (fun h36 => ?_)
      · subst hP1
        exact W.vret hx hb hr (fun tX htX hWX => ⟨⟨M8, rfl, ⟨fun j q9 => hex j (by omega) (by omega) (by omega) (by omega) (by omega), (by rw [r_46_5_w]; exact (upd_ne _ (by omega) _).trans (upd_at _ _ _)), (by rw [r_46_5_w]; exact upd_at _ _ _), (fun d hd => by rw [r_46_5_w_1]; exact fill_at (by omega)), (fun d hd => by rw [r_46_5_w_2]; exact fill_at (by omega)), (fun d hd => by rw [r_46_5_w_3]; exact fill_at (by omega)), (fun k hk => by rw [r_46_5_w_4])⟩, g_at htX hW⟩, hS.F htX⟩) hS.2.2 dX3_begin_66
      · refine lv_aload_n hx hb dX3_begin_39 rfl (lv_at hl 1 rfl) ?_
        refine va_get (D := g.1) (ci := 3) (v := .ref ((ad (46 + 5 * w + 1)))) (C := RX3) (T := TX3) (N := 7) hx hb hts hinX3 hown hK (hb1 hW (show 46 + 5 * w < 126 by omega) (lcE r_46_5_w (sh_S0 (w := w) (by omega)))) 0 rfl rfl 0 (by decide) k9 (fun _ h9 => h9) rfl dX3_begin_40 ?_
        refine lv_iload_n hx hb dX3_begin_43 rfl (lv_at hl 0 rfl) ?_
        refine lv_iconst (v := zI (-1)) hx hb dX3_begin_44 (by decide) ?_
        refine y_iast hx hb hK hW hd9 hS (46 + 5 * w + 1) (show 46 + 5 * w + 1 < 126 by omega) (lcE r_46_5_w_1 (sh_S1 (w := w) (by omega))) (by decide) (i) (by omega) (by omega) dX3_begin_45 (fun H locs hW hS => ?_)
        have hW := cw_up (P := P1) (M := M8) (f := upd (fillR (zI (-1)) (M (46 + 5 * w + 1)) i) i (zI ((-1)))) ((sh_S1 (w := w) (by omega))) hW
        obtain ⟨M9, hM9⟩ : ∃ x9c : Nat → Nat → Int32, x9c = va_up M8 (46 + 5 * w + 1) (upd (fillR (zI (-1)) (M (46 + 5 * w + 1)) i) i (zI ((-1)))) := ⟨_, rfl⟩
        have hW : cw g ad P1 M9 H := by rw [hM9]; exact hW
        have hex : ∀ j : Nat, ¬ j = 46 + 5 * w → ¬ j = 46 + 5 * w + 4 → ¬ j = 46 + 5 * w + 1 → ¬ j = 46 + 5 * w + 2 → ¬ j = 46 + 5 * w + 3 → M9 j = M j := fun j q0 q1 q2 q3 q4 => ((congrFun hM9 j).trans (up_ne _ _ q2)).trans (hex j q0 q1 q2 q3 q4)
        have r_b : M9 (b) = M (b) := ((congrFun hM9 (b)).trans (up_ne _ _ (by omega))).trans r_b
        have r_46_5_w : M9 (46 + 5 * w) = upd (upd (M (46 + 5 * w)) 0 (M (b + 1 + (13 + w)) 0)) 1 (M (b + 1 + (13 + w)) 1) := ((congrFun hM9 (46 + 5 * w)).trans (up_ne _ _ (by omega))).trans r_46_5_w
        have r_46_5_w_4 : M9 (46 + 5 * w + 4) = begR := ((congrFun hM9 (46 + 5 * w + 4)).trans (up_ne _ _ (by omega))).trans r_46_5_w_4
        have r_46_5_w_2 : M9 (46 + 5 * w + 2) = fillR (zI (0)) (M (46 + 5 * w + 2)) i := ((congrFun hM9 (46 + 5 * w + 2)).trans (up_ne _ _ (by omega))).trans r_46_5_w_2
        have r_46_5_w_3 : M9 (46 + 5 * w + 3) = fillR (zI (0)) (M (46 + 5 * w + 3)) i := ((congrFun hM9 (46 + 5 * w + 3)).trans (up_ne _ _ (by omega))).trans r_46_5_w_3
        have r_46_5_w_1 : M9 (46 + 5 * w + 1) = upd (fillR (zI (-1)) (M (46 + 5 * w + 1)) i) i (zI ((-1))) := ((congrFun hM9 _).trans (up_at _ _ _))
        refine lv_aload_n hx hb dX3_begin_46 rfl (lv_at hl 1 rfl) ?_
        refine va_get (D := g.1) (ci := 3) (v := .ref ((ad (46 + 5 * w + 2)))) (C := RX3) (T := TX3) (N := 7) hx hb hts hinX3 hown hK (hb1 hW (show 46 + 5 * w < 126 by omega) (lcE r_46_5_w (sh_S0 (w := w) (by omega)))) 0 rfl rfl 1 (by decide) k15 (fun _ h9 => h9) rfl dX3_begin_47 ?_
        refine lv_iload_n hx hb dX3_begin_50 rfl (lv_at hl 0 rfl) ?_
        refine lv_iconst (v := zI (0)) hx hb dX3_begin_51 (by decide) ?_
        refine y_iast hx hb hK hW hd9 hS (46 + 5 * w + 2) (show 46 + 5 * w + 2 < 126 by omega) (lcE r_46_5_w_2 (sh_S2 (w := w) (by omega))) (by decide) (i) (by omega) (by omega) dX3_begin_52 (fun H locs hW hS => ?_)
        have hW := cw_up (P := P1) (M := M9) (f := upd (fillR (zI (0)) (M (46 + 5 * w + 2)) i) i (zI (0))) ((sh_S2 (w := w) (by omega))) hW
        obtain ⟨M10, hM10⟩ : ∃ x9c : Nat → Nat → Int32, x9c = va_up M9 (46 + 5 * w + 2) (upd (fillR (zI (0)) (M (46 + 5 * w + 2)) i) i (zI (0))) := ⟨_, rfl⟩
        have hW : cw g ad P1 M10 H := by rw [hM10]; exact hW
        have hex : ∀ j : Nat, ¬ j = 46 + 5 * w → ¬ j = 46 + 5 * w + 4 → ¬ j = 46 + 5 * w + 1 → ¬ j = 46 + 5 * w + 2 → ¬ j = 46 + 5 * w + 3 → M10 j = M j := fun j q0 q1 q2 q3 q4 => ((congrFun hM10 j).trans (up_ne _ _ q3)).trans (hex j q0 q1 q2 q3 q4)
        have r_b : M10 (b) = M (b) := ((congrFun hM10 (b)).trans (up_ne _ _ (by omega))).trans r_b
        have r_46_5_w : M10 (46 + 5 * w) = upd (upd (M (46 + 5 * w)) 0 (M (b + 1 + (13 + w)) 0)) 1 (M (b + 1 + (13 + w)) 1) := ((congrFun hM10 (46 + 5 * w)).trans (up_ne _ _ (by omega))).trans r_46_5_w
        have r_46_5_w_4 : M10 (46 + 5 * w + 4) = begR := ((congrFun hM10 (46 + 5 * w + 4)).trans (up_ne _ _ (by omega))).trans r_46_5_w_4
        have r_46_5_w_3 : M10 (46 + 5 * w + 3) = fillR (zI (0)) (M (46 + 5 * w + 3)) i := ((congrFun hM10 (46 + 5 * w + 3)).trans (up_ne _ _ (by omega))).trans r_46_5_w_3
        have r_46_5_w_1 : M10 (46 + 5 * w + 1) = upd (fillR (zI (-1)) (M (46 + 5 * w + 1)) i) i (zI ((-1))) := ((congrFun hM10 (46 + 5 * w + 1)).trans (up_ne _ _ (by omega))).trans r_46_5_w_1
        have r_46_5_w_2 : M10 (46 + 5 * w + 2) = upd (fillR (zI (0)) (M (46 + 5 * w + 2)) i) i (zI (0)) := ((congrFun hM10 _).trans (up_at _ _ _))
        refine lv_aload_n hx hb dX3_begin_53 rfl (lv_at hl 1 rfl) ?_
        refine va_get (D := g.1) (ci := 3) (v := .ref ((ad (46 + 5 * w + 3)))) (C := RX3) (T := TX3) (N := 7) hx hb hts hinX3 hown hK (hb1 hW (show 46 + 5 * w < 126 by omega) (lcE r_46_5_w (sh_S0 (w := w) (by omega)))) 0 rfl rfl 2 (by decide) k18 (fun _ h9 => h9) rfl dX3_begin_54 ?_
        refine lv_iload_n hx hb dX3_begin_57 rfl (lv_at hl 0 rfl) ?_
        refine lv_iconst (v := zI (0)) hx hb dX3_begin_58 (by decide) ?_
        refine y_zast hx hb hK hW hd9 hS (46 + 5 * w + 3) (show 46 + 5 * w + 3 < 126 by omega) (lcE r_46_5_w_3 (sh_S3 (w := w) (by omega))) (by decide) (i) (by omega) (by omega) dX3_begin_59 (fun H locs hW hS => ?_)
        rw [show vp_nar .boolean (zI (0)) = zI (0) from (by decide)] at hW
        have hW := cw_up (P := P1) (M := M10) (f := upd (fillR (zI (0)) (M (46 + 5 * w + 3)) i) i (zI (0))) ((sh_S3 (w := w) (by omega))) hW
        obtain ⟨M11, hM11⟩ : ∃ x9c : Nat → Nat → Int32, x9c = va_up M10 (46 + 5 * w + 3) (upd (fillR (zI (0)) (M (46 + 5 * w + 3)) i) i (zI (0))) := ⟨_, rfl⟩
        have hW : cw g ad P1 M11 H := by rw [hM11]; exact hW
        have hex : ∀ j : Nat, ¬ j = 46 + 5 * w → ¬ j = 46 + 5 * w + 4 → ¬ j = 46 + 5 * w + 1 → ¬ j = 46 + 5 * w + 2 → ¬ j = 46 + 5 * w + 3 → M11 j = M j := fun j q0 q1 q2 q3 q4 => ((congrFun hM11 j).trans (up_ne _ _ q4)).trans (hex j q0 q1 q2 q3 q4)
        have r_b : M11 (b) = M (b) := ((congrFun hM11 (b)).trans (up_ne _ _ (by omega))).trans r_b
        have r_46_5_w : M11 (46 + 5 * w) = upd (upd (M (46 + 5 * w)) 0 (M (b + 1 + (13 + w)) 0)) 1 (M (b + 1 + (13 + w)) 1) := ((congrFun hM11 (46 + 5 * w)).trans (up_ne _ _ (by omega))).trans r_46_5_w
        have r_46_5_w_4 : M11 (46 + 5 * w + 4) = begR := ((congrFun hM11 (46 + 5 * w + 4)).trans (up_ne _ _ (by omega))).trans r_46_5_w_4
        have r_46_5_w_1 : M11 (46 + 5 * w + 1) = upd (fillR (zI (-1)) (M (46 + 5 * w + 1)) i) i (zI ((-1))) := ((congrFun hM11 (46 + 5 * w + 1)).trans (up_ne _ _ (by omega))).trans r_46_5_w_1
        have r_46_5_w_2 : M11 (46 + 5 * w + 2) = upd (fillR (zI (0)) (M (46 + 5 * w + 2)) i) i (zI (0)) := ((congrFun hM11 (46 + 5 * w + 2)).trans (up_ne _ _ (by omega))).trans r_46_5_w_2
        have r_46_5_w_3 : M11 (46 + 5 * w + 3) = upd (fillR (zI (0)) (M (46 + 5 * w + 3)) i) i (zI (0)) := ((congrFun hM11 _).trans (up_at _ _ _))
        refine z_iinc (lv' := [(3, .int (zI (((i : Nat) : Int) + 1))), (0, .ref ((ad (46 + 5 * w))))]) hx hb dX3_begin_60 hl (k := 0) rfl (by decide) rfl (fun ls hl => ?_)
        refine lv_goto (tgt := 32) hx hb dX3_begin_63 (by decide) ?_
        have hl := lv_sub (l' := [(3, .int (zI (((i : Nat) : Int) + 1))), (0, .ref ((ad (46 + 5 * w))))]) hl [0, 1] rfl
        have hl : lv_has ls 4 [(3, .int (zI ((((i + 1) : Nat) : Int)))), (0, .ref ((ad (46 + 5 * w))))] := lv_cg (lvE (congrArg zI (by omega)) (lvR (rfl))) hl
        exact ih (i + 1) (by omega) (by omega) H locs M11 (r_b) (r_46_5_w) (r_46_5_w_4) (r_46_5_w_1.trans (fillR_s _ _ _)) (r_46_5_w_2.trans (fillR_s _ _ _)) (r_46_5_w_3.trans (fillR_s _ _ _)) (fun j q0 q1 q2 q3 q4 => hex j q0 q1 q2 q3 q4) hW hS ls hl
  have hl := lv_sub (l' := [(3, .int (zI (0))), (0, .ref ((ad (46 + 5 * w))))]) hl [0, 1] rfl
  have hl : lv_has ls 4 [(3, .int (zI (((0 : Nat) : Int)))), (0, .ref ((ad (46 + 5 * w))))] := lv_cg (lvE (congrArg zI (rfl)) (lvR (rfl))) hl
  exact loop32 _ (0) (Nat.lt_succ_self _) (Nat.zero_le _) H locs M7 (r_b) (r_46_5_w) (r_46_5_w_4) (r_46_5_w_1.trans (fillR_0 _ _).symm) (r_46_5_w_2.trans (fillR_0 _ _).symm) (r_46_5_w_3.trans (fillR_0 _ _).symm) (fun j q0 q1 q2 q3 q4 => hex j q0 q1) hW hS ls hl
