set_option maxHeartbeats 4000000 in
set_option maxRecDepth 100000 in
theorem c_X8_adoptDraft (l : Launch) (g : GG) (ad : Nat → Nat) (hd9 : hD ad) (P : Nat → Nat) (M : Nat → Nat → Int32) (hP9 : pOK P) : Met l yX8_adoptDraft wsX8_adoptDraft ({ frames := 2, cells := 0, slots := 0, locals := 44 }) (gPc g [.ref ((ad 0))] (cw g ad P M)) (va_Qv (fun (u : (Nat → Nat) × (Nat → Nat → Int32)) => adQ P M u) (fun (u : (Nat → Nat) × (Nat → Nat → Int32)) (tS : State) => cw g ad u.1 u.2 tS.heap) (hbA ad)) 0 0 (hbA ad) := by
  refine Met.ofW (cc := cX8_adoptDraft) (maxL := 3) (ret := none) (by decide) rfl ?_
  intro p e s m args below meth c s₁ B hml hv
  obtain ⟨rfl, hW, hK⟩ := hv
  have hx := B.exec
  have hb := B.bytes
  have hr := B.returns
  have hts := atoms_spec (ws := wsX8_adoptDraft) B.pre
  have hown : s.vm.findClass RX8 = some m.cls := findClass_of_methodNamed B.named
  have hlocks := B.notSynchronized
  have hinX1 : ∀ w ∈ wsX10, w ∈ wsX8_adoptDraft := by decide +kernel
  have hinX8 : ∀ w ∈ wsX80, w ∈ wsX8_adoptDraft := by decide +kernel
  have k32 := hts (.fieldLink RX8 32 "HoursBank" "draft" "LHoursBank$Rules;") (by decide +kernel)
  have k28 := hts (.fieldLink RX8 28 "HoursBank" "rules" "LHoursBank$Rules;") (by decide +kernel)
  have k51 := hts (.fieldLink RX8 51 "HoursBank" "today" "I") (by decide +kernel)
  have k47 := hts (.fieldLink RX8 47 "HoursBank" "history" "LHoursBank$History;") (by decide +kernel)
  have k72 := hts (.fieldLink RX8 72 "HoursBank$History" "count" "I") (by decide +kernel)
  have k37 := hts (.fieldLink RX8 37 "HoursBank" "sheets" "[LHoursBank$Sheet;") (by decide +kernel)
  have hl := lv_entry ([.ref ((ad 0))]) (n := 3) (Nat.le_of_ble_eq_true rfl)
  rw [lg_entry_eq]
  generalize (lg_sl ([.ref ((ad 0))]) ++ List.replicate (3 - (lg_sl ([.ref ((ad 0))])).length) Slot.unset).toArray = ls at hl ⊢
  have hl : lv_has ls 3 [(0, .ref ((ad 0)))] := hl
  have hS : va_S (hbA ad) s.heap s.heap [] := va_S.rf
  obtain ⟨H, hH9⟩ : ∃ H, H = s.heap := ⟨_, rfl⟩
  obtain ⟨locs, hL9⟩ : ∃ x9l : List Loc, x9l = [] := ⟨_, rfl⟩
  have hW : cw g ad P M H := hH9 ▸ hW
  have hS : va_S (hbA ad) s.heap H locs := by rw [hH9, hL9]; exact hS
  refine z_start hH9 hL9 ?_
  clear hH9 hL9
  have hex : ∀ j : Nat, M j = M j := fun _ => rfl
  refine lv_aload_n hx hb dX8_adoptDraft_0 rfl (lv_at hl 0 rfl) ?_
  have r_0 : M (0) = M 0 := hex (0) 
  refine va_get (D := g.1) (ci := 8) (v := .ref ((ad (P 1)))) (C := RX8) (T := TX8) (N := 7) hx hb hts hinX8 hown hK (hb1 hW (show 0 < 126 by omega) (lcE r_0 sh_0)) 0 rfl rfl 5 (by decide) k32 (fun _ h9 => h9) rfl dX8_adoptDraft_1 ?_
  refine lv_astore_n (lv' := [(1, .ref ((ad (P 1)))), (0, .ref ((ad 0)))]) hx hb dX8_adoptDraft_4 rfl hl (by decide) rfl (fun ls hl => ?_)
  refine lv_aload_n hx hb dX8_adoptDraft_5 rfl (lv_at hl 1 rfl) ?_
  refine lv_aload_n hx hb dX8_adoptDraft_6 rfl (lv_at hl 1 rfl) ?_
  refine va_get (D := g.1) (ci := 8) (v := .ref ((ad (P 0)))) (C := RX8) (T := TX8) (N := 7) hx hb hts hinX8 hown hK (hb1 hW (show 0 < 126 by omega) (lcE r_0 sh_0)) 0 rfl rfl 4 (by decide) k28 (fun _ h9 => h9) rfl dX8_adoptDraft_7 ?_
  refine y_put (ci := 8) (v := .ref ((ad (P 0)))) (ty := .object "HoursBank$Rules") (C := RX8) (T := TX8) (N := 7) hx hb hts hinX8 tyX8 tyX8_ok nmX8 hown hK hW hd9 hS (0) (show 0 < 126 by omega) (lcE r_0 sh_0) rfl 5 (by decide) k32 (fun _ h9 => h9) rfl (by decide +kernel) rfl rfl (Nat.le_of_ble_eq_true rfl) dX8_adoptDraft_10 (fun H locs hW hS => ?_)
  obtain ⟨P1, hP1⟩ : ∃ x9c : Nat → Nat, x9c = va_up P (1) (P 0) := ⟨_, rfl⟩
  have hW : cw g ad P1 M H := by rw [hP1]; exact cw_ptr (P := P) (I := 0) (sh_0.trans (by rw [show va_up P (1) (P 0) 0 = P 0 from up_ne _ _ (by omega), show va_up P (1) (P 0) 1 = P 0 from up_at _ _ _]; rfl)) (fun q9 => absurd rfl q9) (fun v9 hv9 q9 => (up_ne _ _ (by omega)).symm) hW
  refine lv_aload_n hx hb dX8_adoptDraft_13 rfl (lv_at hl 1 rfl) ?_
  refine lv_aload_n hx hb dX8_adoptDraft_14 rfl (lv_at hl 0 rfl) ?_
  refine y_put (ci := 8) (v := .ref ((ad (P 1)))) (ty := .object "HoursBank$Rules") (C := RX8) (T := TX8) (N := 7) hx hb hts hinX8 tyX8 tyX8_ok nmX8 hown hK hW hd9 hS (0) (show 0 < 126 by omega) (lcE r_0 sh_0) rfl 4 (by decide) k28 (fun _ h9 => h9) rfl (by decide +kernel) rfl rfl (Nat.le_of_ble_eq_true rfl) dX8_adoptDraft_15 (fun H locs hW hS => ?_)
  obtain ⟨P2, hP2⟩ : ∃ x9c : Nat → Nat, x9c = va_up P1 (0) (P 1) := ⟨_, rfl⟩
  have hW : cw g ad P2 M H := by rw [hP2]; exact cw_ptr (P := P1) (I := 0) (sh_0.trans (by rw [show va_up P1 (0) (P 1) 0 = P 1 from up_at _ _ _, show va_up P1 (0) (P 1) 1 = P1 1 from up_ne _ _ (by omega)]; rfl)) (fun q9 => absurd rfl q9) (fun v9 hv9 q9 => (up_ne _ _ (by omega)).symm) hW
  have hp0 : P2 0 = P 1 := by rw [hP2]; exact up_at _ _ _
  refine lv_aload_n hx hb dX8_adoptDraft_18 rfl (lv_at hl 1 rfl) ?_
  refine lv_iconst (v := zI (0)) hx hb dX8_adoptDraft_19 (by decide) ?_
  refine y_put (ci := 8) (v := .int (zI (0))) (ty := .int) (C := RX8) (T := TX8) (N := 7) hx hb hts hinX8 tyX8 tyX8_ok nmX8 hown hK hW hd9 hS (0) (show 0 < 126 by omega) (lcE r_0 sh_0) rfl 6 (by decide) k51 (fun _ h9 => h9) rfl (by decide +kernel) rfl rfl (Nat.le_of_ble_eq_true rfl) dX8_adoptDraft_20 (fun H locs hW hS => ?_)
  have hW := cw_up (P := P2) (M := M) (f := upd (M 0) 0 (zI (0))) ((sh_0).trans rfl) hW
  obtain ⟨M3, hM3⟩ : ∃ x9c : Nat → Nat → Int32, x9c = va_up M (0) (upd (M 0) 0 (zI (0))) := ⟨_, rfl⟩
  have hW : cw g ad P2 M3 H := by rw [hM3]; exact hW
  have hex : ∀ j : Nat, ¬ j = 0 → M3 j = M j := fun j q0 => ((congrFun hM3 j).trans (up_ne _ _ q0)).trans (hex j )
  have r_0 : M3 (0) = upd (M 0) 0 (zI (0)) := ((congrFun hM3 _).trans (up_at _ _ _))
  refine lv_aload_n hx hb dX8_adoptDraft_23 rfl (lv_at hl 1 rfl) ?_
  refine va_get (D := g.1) (ci := 8) (v := .ref ((ad 6))) (C := RX8) (T := TX8) (N := 7) hx hb hts hinX8 hown hK (hb1 hW (show 0 < 126 by omega) (lcE r_0 sh_0)) 0 rfl rfl 3 (by decide) k47 (fun _ h9 => h9) rfl dX8_adoptDraft_24 ?_
  refine lv_iconst (v := zI (0)) hx hb dX8_adoptDraft_27 (by decide) ?_
  have r_6 : M3 (6) = M 6 := hex (6) (by omega)
  refine y_put (ci := 1) (v := .int (zI (0))) (ty := .int) (C := RX1) (T := TX1) (N := 3) hx hb hts hinX1 tyX1 tyX1_ok nmX1 hown hK hW hd9 hS (6) (show 6 < 126 by omega) (lcE r_6 sh_6) rfl 2 (by decide) k72 (fun _ h9 => h9) rfl (by decide +kernel) rfl rfl (Nat.le_of_ble_eq_true rfl) dX8_adoptDraft_28 (fun H locs hW hS => ?_)
  have hW := cw_up (P := P2) (M := M3) (f := upd (M 6) 1 (zI (0))) ((sh_6).trans rfl) hW
  obtain ⟨M4, hM4⟩ : ∃ x9c : Nat → Nat → Int32, x9c = va_up M3 (6) (upd (M 6) 1 (zI (0))) := ⟨_, rfl⟩
  have hW : cw g ad P2 M4 H := by rw [hM4]; exact hW
  have hex : ∀ j : Nat, ¬ j = 0 → ¬ j = 6 → M4 j = M j := fun j q0 q1 => ((congrFun hM4 j).trans (up_ne _ _ q1)).trans (hex j q0)
  have r_0 : M4 (0) = upd (M 0) 0 (zI (0)) := ((congrFun hM4 (0)).trans (up_ne _ _ (by omega))).trans r_0
  have r_6 : M4 (6) = upd (M 6) 1 (zI (0)) := ((congrFun hM4 _).trans (up_at _ _ _))
  refine lv_iconst (v := zI (0)) hx hb dX8_adoptDraft_31 (by decide) ?_
  refine lv_istore_n (lv' := [(2, .int (zI (0))), (1, .ref ((ad (P 1)))), (0, .ref ((ad 0)))]) hx hb dX8_adoptDraft_32 rfl hl (by decide) rfl (fun ls hl => ?_)
  have hA6 := r_6
  have hA0 := r_0
  have hAo := hex
  refine lv_iload_n hx hb dX8_adoptDraft_33 rfl (lv_at hl 0 rfl) ?_
  refine lv_iconst (v := zI (4)) hx hb dX8_adoptDraft_34 (by decide) ?_
  refine z_icmp_ge (tgt := 58) hx hb dX8_adoptDraft_35 (by decide) (by omega) (by omega) (fun h35 => ?_) (fun h35 => ?_)
  · exfalso; omega
  · refine lv_aload_n hx hb dX8_adoptDraft_38 rfl (lv_at hl 2 rfl) ?_
    refine va_get (D := g.1) (ci := 8) (v := .ref ((ad 5))) (C := RX8) (T := TX8) (N := 7) hx hb hts hinX8 hown hK (hb1 hW (show 0 < 126 by omega) (lcE r_0 sh_0)) 0 rfl rfl 2 (by decide) k37 (fun _ h9 => h9) rfl dX8_adoptDraft_39 ?_
    refine lv_iload_n hx hb dX8_adoptDraft_42 rfl (lv_at hl 0 rfl) ?_
    have r_5 : M4 (5) = M 5 := hex (5) (by omega) (by omega)
    refine z_aald hx hb hK (hb1 hW (show 5 < 126 by omega) (lcE r_5 sh_5)) 0 4 rfl rfl rfl (by decide) (0) (by omega) (by omega) rfl dX8_adoptDraft_43 ?_
    refine lv_aload_n hx hb dX8_adoptDraft_44 rfl (lv_at hl 2 rfl) ?_
    refine va_get (D := g.1) (ci := 8) (v := .ref ((ad (P2 0)))) (C := RX8) (T := TX8) (N := 7) hx hb hts hinX8 hown hK (hb1 hW (show 0 < 126 by omega) (lcE r_0 sh_0)) 0 rfl rfl 4 (by decide) k28 (fun _ h9 => h9) rfl dX8_adoptDraft_45 ?_
    rw [show (ad (P2 0)) = (ad (P 1)) from congrArg ad hp0]
    refine lv_iload_n hx hb dX8_adoptDraft_48 rfl (lv_at hl 0 rfl) ?_
    refine z_top (y := zI (((0 : Nat) : Int))) (congrArg zI (by omega)) ?_
    have r_46_5_0 : M4 (46 + 5 * 0) = M (46 + 5 * 0) := hex (46 + 5 * 0) (by omega) (by omega)
    refine va_callv (va_runV (As := [.ref ((ad (P 1))), .int (zI (((0 : Nat) : Int)))]) (rest := []) ⟨hx, hb, hml, hown, hts⟩ (c_X3_begin l g (ad) (hd9) (P2) (M4) ((P 1)) (hP9.d) (0) (by omega)) (cwV 2 hts gX8_adoptDraft_X3_begin rfl rfl rfl (by decide +kernel) ⟨Nat.le_of_ble_eq_true rfl, Nat.le_of_ble_eq_true rfl⟩) (g_preV hW hK (va_recv hK (hb1 hW (show 46 + 5 * 0 < 126 by omega) (lcE r_46_5_0 (sh_S0 (w := 0) (by omega)))) (q0 := 0) (ci := 3) rfl rfl)) rfl rfl hl.1 rfl (lv_room (Nat.le_of_ble_eq_true rfl)) dX8_adoptDraft_49 ⟨Nat.le_of_ble_eq_true rfl, Nat.le_of_ble_eq_true rfl⟩) hS (fun q _ h => h) (fun q h => h) (fun u4 t9 H1 locs ht9 hvm9 hw9 hB9 hz9 hk9 hS => ?_)
    rw [ht9] at hB9
    clear hz9 hk9 hvm9 ht9
    generalize H1 = H at hB9 hS ⊢
    have hW := hB9
    clear hB9
    have hW : cw g ad (va_up P2 (46 + 5 * 0) (P 1)) u4 H := hW
    have hpo9 := hw9
    have hq0 := hpo9
    have hex : ∀ j : Nat, u4 j = u4 j := fun _ => rfl
    have hp0 : (va_up P2 (46 + 5 * 0) (P 1)) 0 = P 1 := (up_ne _ _ (by omega)).trans hp0
    refine z_iinc (lv' := [(2, .int (zI (0 + 1))), (1, .ref ((ad (P 1)))), (0, .ref ((ad 0)))]) hx hb dX8_adoptDraft_52 hl (k := 0) rfl (by decide) rfl (fun ls hl => ?_)
    refine lv_goto (tgt := 33) hx hb dX8_adoptDraft_55 (by decide) ?_
    refine lv_iload_n hx hb dX8_adoptDraft_33 rfl (lv_at hl 0 rfl) ?_
    refine lv_iconst (v := zI (4)) hx hb dX8_adoptDraft_34 (by decide) ?_
    refine z_icmp_ge (tgt := 58) hx hb dX8_adoptDraft_35 (by decide) (by omega) (by omega) (fun h35 => ?_) (fun h35 => ?_)
    · exfalso; omega
    · refine lv_aload_n hx hb dX8_adoptDraft_38 rfl (lv_at hl 2 rfl) ?_
      have r_0 : u4 (0) = u4 0 := hex (0) 
      refine va_get (D := g.1) (ci := 8) (v := .ref ((ad 5))) (C := RX8) (T := TX8) (N := 7) hx hb hts hinX8 hown hK (hb1 hW (show 0 < 126 by omega) (lcE r_0 sh_0)) 0 rfl rfl 2 (by decide) k37 (fun _ h9 => h9) rfl dX8_adoptDraft_39 ?_
      refine lv_iload_n hx hb dX8_adoptDraft_42 rfl (lv_at hl 0 rfl) ?_
      have r_5 : u4 (5) = u4 5 := hex (5) 
      refine z_aald hx hb hK (hb1 hW (show 5 < 126 by omega) (lcE r_5 sh_5)) 0 4 rfl rfl rfl (by decide) (1) (by omega) (by omega) rfl dX8_adoptDraft_43 ?_
      refine lv_aload_n hx hb dX8_adoptDraft_44 rfl (lv_at hl 2 rfl) ?_
      refine va_get (D := g.1) (ci := 8) (v := .ref ((ad (va_up P2 (46 + 5 * 0) (P 1) 0)))) (C := RX8) (T := TX8) (N := 7) hx hb hts hinX8 hown hK (hb1 hW (show 0 < 126 by omega) (lcE r_0 sh_0)) 0 rfl rfl 4 (by decide) k28 (fun _ h9 => h9) rfl dX8_adoptDraft_45 ?_
      rw [show (ad (va_up P2 (46 + 5 * 0) (P 1) 0)) = (ad (P 1)) from congrArg ad hp0]
      refine lv_iload_n hx hb dX8_adoptDraft_48 rfl (lv_at hl 0 rfl) ?_
      refine z_top (y := zI (((1 : Nat) : Int))) (congrArg zI (by omega)) ?_
      have r_46_5_1 : u4 (46 + 5 * 1) = u4 (46 + 5 * 1) := hex (46 + 5 * 1) 
      refine va_callv (va_runV (As := [.ref ((ad (P 1))), .int (zI (((1 : Nat) : Int)))]) (rest := []) ⟨hx, hb, hml, hown, hts⟩ (c_X3_begin l g (ad) (hd9) (va_up P2 (46 + 5 * 0) (P 1)) (u4) ((P 1)) (hP9.d) (1) (by omega)) (cwV 2 hts gX8_adoptDraft_X3_begin rfl rfl rfl (by decide +kernel) ⟨Nat.le_of_ble_eq_true rfl, Nat.le_of_ble_eq_true rfl⟩) (g_preV hW hK (va_recv hK (hb1 hW (show 46 + 5 * 1 < 126 by omega) (lcE r_46_5_1 (sh_S0 (w := 1) (by omega)))) (q0 := 0) (ci := 3) rfl rfl)) rfl rfl hl.1 rfl (lv_room (Nat.le_of_ble_eq_true rfl)) dX8_adoptDraft_49 ⟨Nat.le_of_ble_eq_true rfl, Nat.le_of_ble_eq_true rfl⟩) hS (fun q _ h => h) (fun q h => h) (fun u6 t9 H1 locs ht9 hvm9 hw9 hB9 hz9 hk9 hS => ?_)
      rw [ht9] at hB9
      clear hz9 hk9 hvm9 ht9
      generalize H1 = H at hB9 hS ⊢
      have hW := hB9
      clear hB9
      have hW : cw g ad (va_up (va_up P2 (46 + 5 * 0) (P 1)) (46 + 5 * 1) (P 1)) u6 H := hW
      have hpo9 := hw9
      have hq1 := hpo9
      have hex : ∀ j : Nat, u6 j = u6 j := fun _ => rfl
      have hp0 : (va_up (va_up P2 (46 + 5 * 0) (P 1)) (46 + 5 * 1) (P 1)) 0 = P 1 := (up_ne _ _ (by omega)).trans hp0
      refine z_iinc (lv' := [(2, .int (zI ((0 + 1) + 1))), (1, .ref ((ad (P 1)))), (0, .ref ((ad 0)))]) hx hb dX8_adoptDraft_52 hl (k := 0) rfl (by decide) rfl (fun ls hl => ?_)
      refine lv_goto (tgt := 33) hx hb dX8_adoptDraft_55 (by decide) ?_
      refine lv_iload_n hx hb dX8_adoptDraft_33 rfl (lv_at hl 0 rfl) ?_
      refine lv_iconst (v := zI (4)) hx hb dX8_adoptDraft_34 (by decide) ?_
      refine z_icmp_ge (tgt := 58) hx hb dX8_adoptDraft_35 (by decide) (by omega) (by omega) (fun h35 => ?_) (fun h35 => ?_)
      · exfalso; omega
      · refine lv_aload_n hx hb dX8_adoptDraft_38 rfl (lv_at hl 2 rfl) ?_
        have r_0 : u6 (0) = u6 0 := hex (0) 
        refine va_get (D := g.1) (ci := 8) (v := .ref ((ad 5))) (C := RX8) (T := TX8) (N := 7) hx hb hts hinX8 hown hK (hb1 hW (show 0 < 126 by omega) (lcE r_0 sh_0)) 0 rfl rfl 2 (by decide) k37 (fun _ h9 => h9) rfl dX8_adoptDraft_39 ?_
        refine lv_iload_n hx hb dX8_adoptDraft_42 rfl (lv_at hl 0 rfl) ?_
        have r_5 : u6 (5) = u6 5 := hex (5) 
        refine z_aald hx hb hK (hb1 hW (show 5 < 126 by omega) (lcE r_5 sh_5)) 0 4 rfl rfl rfl (by decide) (2) (by omega) (by omega) rfl dX8_adoptDraft_43 ?_
        refine lv_aload_n hx hb dX8_adoptDraft_44 rfl (lv_at hl 2 rfl) ?_
        refine va_get (D := g.1) (ci := 8) (v := .ref ((ad (va_up (va_up P2 (46 + 5 * 0) (P 1)) (46 + 5 * 1) (P 1) 0)))) (C := RX8) (T := TX8) (N := 7) hx hb hts hinX8 hown hK (hb1 hW (show 0 < 126 by omega) (lcE r_0 sh_0)) 0 rfl rfl 4 (by decide) k28 (fun _ h9 => h9) rfl dX8_adoptDraft_45 ?_
        rw [show (ad (va_up (va_up P2 (46 + 5 * 0) (P 1)) (46 + 5 * 1) (P 1) 0)) = (ad (P 1)) from congrArg ad hp0]
        refine lv_iload_n hx hb dX8_adoptDraft_48 rfl (lv_at hl 0 rfl) ?_
        refine z_top (y := zI (((2 : Nat) : Int))) (congrArg zI (by omega)) ?_
        have r_46_5_2 : u6 (46 + 5 * 2) = u6 (46 + 5 * 2) := hex (46 + 5 * 2) 
        refine va_callv (va_runV (As := [.ref ((ad (P 1))), .int (zI (((2 : Nat) : Int)))]) (rest := []) ⟨hx, hb, hml, hown, hts⟩ (c_X3_begin l g (ad) (hd9) (va_up (va_up P2 (46 + 5 * 0) (P 1)) (46 + 5 * 1) (P 1)) (u6) ((P 1)) (hP9.d) (2) (by omega)) (cwV 2 hts gX8_adoptDraft_X3_begin rfl rfl rfl (by decide +kernel) ⟨Nat.le_of_ble_eq_true rfl, Nat.le_of_ble_eq_true rfl⟩) (g_preV hW hK (va_recv hK (hb1 hW (show 46 + 5 * 2 < 126 by omega) (lcE r_46_5_2 (sh_S0 (w := 2) (by omega)))) (q0 := 0) (ci := 3) rfl rfl)) rfl rfl hl.1 rfl (lv_room (Nat.le_of_ble_eq_true rfl)) dX8_adoptDraft_49 ⟨Nat.le_of_ble_eq_true rfl, Nat.le_of_ble_eq_true rfl⟩) hS (fun q _ h => h) (fun q h => h) (fun u8 t9 H1 locs ht9 hvm9 hw9 hB9 hz9 hk9 hS => ?_)
        rw [ht9] at hB9
        clear hz9 hk9 hvm9 ht9
        generalize H1 = H at hB9 hS ⊢
        have hW := hB9
        clear hB9
        have hW : cw g ad (va_up (va_up (va_up P2 (46 + 5 * 0) (P 1)) (46 + 5 * 1) (P 1)) (46 + 5 * 2) (P 1)) u8 H := hW
        have hpo9 := hw9
        have hq2 := hpo9
        have hex : ∀ j : Nat, u8 j = u8 j := fun _ => rfl
        have hp0 : (va_up (va_up (va_up P2 (46 + 5 * 0) (P 1)) (46 + 5 * 1) (P 1)) (46 + 5 * 2) (P 1)) 0 = P 1 := (up_ne _ _ (by omega)).trans hp0
        refine z_iinc (lv' := [(2, .int (zI (((0 + 1) + 1) + 1))), (1, .ref ((ad (P 1)))), (0, .ref ((ad 0)))]) hx hb dX8_adoptDraft_52 hl (k := 0) rfl (by decide) rfl (fun ls hl => ?_)
        refine lv_goto (tgt := 33) hx hb dX8_adoptDraft_55 (by decide) ?_
        refine lv_iload_n hx hb dX8_adoptDraft_33 rfl (lv_at hl 0 rfl) ?_
        refine lv_iconst (v := zI (4)) hx hb dX8_adoptDraft_34 (by decide) ?_
        refine z_icmp_ge (tgt := 58) hx hb dX8_adoptDraft_35 (by decide) (by omega) (by omega) (fun h35 => ?_) (fun h35 => ?_)
        · exfalso; omega
        · refine lv_aload_n hx hb dX8_adoptDraft_38 rfl (lv_at hl 2 rfl) ?_
          have r_0 : u8 (0) = u8 0 := hex (0) 
          refine va_get (D := g.1) (ci := 8) (v := .ref ((ad 5))) (C := RX8) (T := TX8) (N := 7) hx hb hts hinX8 hown hK (hb1 hW (show 0 < 126 by omega) (lcE r_0 sh_0)) 0 rfl rfl 2 (by decide) k37 (fun _ h9 => h9) rfl dX8_adoptDraft_39 ?_
          refine lv_iload_n hx hb dX8_adoptDraft_42 rfl (lv_at hl 0 rfl) ?_
          have r_5 : u8 (5) = u8 5 := hex (5) 
          refine z_aald hx hb hK (hb1 hW (show 5 < 126 by omega) (lcE r_5 sh_5)) 0 4 rfl rfl rfl (by decide) (3) (by omega) (by omega) rfl dX8_adoptDraft_43 ?_
          refine lv_aload_n hx hb dX8_adoptDraft_44 rfl (lv_at hl 2 rfl) ?_
          refine va_get (D := g.1) (ci := 8) (v := .ref ((ad (va_up (va_up (va_up P2 (46 + 5 * 0) (P 1)) (46 + 5 * 1) (P 1)) (46 + 5 * 2) (P 1) 0)))) (C := RX8) (T := TX8) (N := 7) hx hb hts hinX8 hown hK (hb1 hW (show 0 < 126 by omega) (lcE r_0 sh_0)) 0 rfl rfl 4 (by decide) k28 (fun _ h9 => h9) rfl dX8_adoptDraft_45 ?_
          rw [show (ad (va_up (va_up (va_up P2 (46 + 5 * 0) (P 1)) (46 + 5 * 1) (P 1)) (46 + 5 * 2) (P 1) 0)) = (ad (P 1)) from congrArg ad hp0]
          refine lv_iload_n hx hb dX8_adoptDraft_48 rfl (lv_at hl 0 rfl) ?_
          refine z_top (y := zI (((3 : Nat) : Int))) (congrArg zI (by omega)) ?_
          have r_46_5_3 : u8 (46 + 5 * 3) = u8 (46 + 5 * 3) := hex (46 + 5 * 3) 
          refine va_callv (va_runV (As := [.ref ((ad (P 1))), .int (zI (((3 : Nat) : Int)))]) (rest := []) ⟨hx, hb, hml, hown, hts⟩ (c_X3_begin l g (ad) (hd9) (va_up (va_up (va_up P2 (46 + 5 * 0) (P 1)) (46 + 5 * 1) (P 1)) (46 + 5 * 2) (P 1)) (u8) ((P 1)) (hP9.d) (3) (by omega)) (cwV 2 hts gX8_adoptDraft_X3_begin rfl rfl rfl (by decide +kernel) ⟨Nat.le_of_ble_eq_true rfl, Nat.le_of_ble_eq_true rfl⟩) (g_preV hW hK (va_recv hK (hb1 hW (show 46 + 5 * 3 < 126 by omega) (lcE r_46_5_3 (sh_S0 (w := 3) (by omega)))) (q0 := 0) (ci := 3) rfl rfl)) rfl rfl hl.1 rfl (lv_room (Nat.le_of_ble_eq_true rfl)) dX8_adoptDraft_49 ⟨Nat.le_of_ble_eq_true rfl, Nat.le_of_ble_eq_true rfl⟩) hS (fun q _ h => h) (fun q h => h) (fun u10 t9 H1 locs ht9 hvm9 hw9 hB9 hz9 hk9 hS => ?_)
          rw [ht9] at hB9
          clear hz9 hk9 hvm9 ht9
          generalize H1 = H at hB9 hS ⊢
          have hW := hB9
          clear hB9
          have hW : cw g ad (va_up (va_up (va_up (va_up P2 (46 + 5 * 0) (P 1)) (46 + 5 * 1) (P 1)) (46 + 5 * 2) (P 1)) (46 + 5 * 3) (P 1)) u10 H := hW
          have hpo9 := hw9
          have hq3 := hpo9
          have hex : ∀ j : Nat, u10 j = u10 j := fun _ => rfl
          have hp0 : (va_up (va_up (va_up (va_up P2 (46 + 5 * 0) (P 1)) (46 + 5 * 1) (P 1)) (46 + 5 * 2) (P 1)) (46 + 5 * 3) (P 1)) 0 = P 1 := (up_ne _ _ (by omega)).trans hp0
          refine z_iinc (lv' := [(2, .int (zI ((((0 + 1) + 1) + 1) + 1))), (1, .ref ((ad (P 1)))), (0, .ref ((ad 0)))]) hx hb dX8_adoptDraft_52 hl (k := 0) rfl (by decide) rfl (fun ls hl => ?_)
          refine lv_goto (tgt := 33) hx hb dX8_adoptDraft_55 (by decide) ?_
          refine lv_iload_n hx hb dX8_adoptDraft_33 rfl (lv_at hl 0 rfl) ?_
          refine lv_iconst (v := zI (4)) hx hb dX8_adoptDraft_34 (by decide) ?_
          refine z_icmp_ge (tgt := 58) hx hb dX8_adoptDraft_35 (by decide) (by omega) (by omega) (fun h35 => ?_) (fun h35 => ?_)
          · subst hP2
            subst hP1
            exact W.vret hx hb hr (fun tX htX hWX => ⟨⟨(_, u10), rfl, ad_of hP9.d (by rw [hA0]; rfl) hA6 (fun j q1 q2 => hAo j q1 q2) hq0 hq1 hq2 hq3, g_at htX hW⟩, hS.F htX⟩) hS.2.2 dX8_adoptDraft_58
          · exfalso; omega

set_option maxHeartbeats 4000000 in
set_option maxRecDepth 100000 in
theorem c_X6_readInto (l : Launch) (g : GG) (ad : Nat → Nat) (hd9 : hD ad) (P : Nat → Nat) (M : Nat → Nat → Int32) (kk : KK) (b : Nat) (hb9 : b = 8 ∨ b = 27) (β : Nat → Nat) (n : Nat) (hn : n ≤ 740) (hz : M 1 0 = zI n) (hβ : ∀ i, i < 740 → M 2 i = zI (sbI (β i)) ∧ β i < 256) (rd : Nat → Int32) : Met l yX6_readInto wsX6_readInto ({ frames := 7, cells := 0, slots := 0, locals := 151 }) (gkPc g kk ad [.ref ((ad 3)), .ref ((ad b))] (cw g ad P M)) (va_Qi (fun (r : Int32) (u : Nat → Nat → Int32) => riQ b n M u (parseL β n (n + 1) 0 0 (rd0 rd)) r) (fun (u : Nat → Nat → Int32) (tS : State) => cw g ad P u tS.heap) (hbA ad)) 0 0 (hbA ad) := by
  refine Met.ofW (cc := cX6_readInto) (maxL := 4) (ret := (some .int)) (by decide) rfl ?_
  intro p e s m args below meth c s₁ B hml hv
  obtain ⟨rfl, hW, hK, hC⟩ := hv
  have hx := B.exec
  have hb := B.bytes
  have hr := B.returns
  have hts := atoms_spec (ws := wsX6_readInto) B.pre
  have hown : s.vm.findClass RX6 = some m.cls := findClass_of_methodNamed B.named
  have hlocks := B.notSynchronized
  have hinX5 : ∀ w ∈ wsX50, w ∈ wsX6_readInto := by decide +kernel
  have hinX6 : ∀ w ∈ wsX60, w ∈ wsX6_readInto := by decide +kernel
  have hinX7 : ∀ w ∈ wsX70, w ∈ wsX6_readInto := by decide +kernel
  have k20 := hts (.fieldLink RX6 20 "HoursBank$TextReader" "tokens" "LHoursBank$Tokens;") (by decide +kernel)
  have k32 := hts (.fieldLink RX6 32 "HoursBank$TextReader" "faultKind" "I") (by decide +kernel)
  have k9 := hts (.fieldLink RX6 9 "HoursBank$TextReader" "tape" "LHoursBank$Tape;") (by decide +kernel)
  have k36 := hts (.fieldLink RX6 36 "HoursBank$Tape" "size" "I") (by decide +kernel)
  have k44 := hts (.fieldLink RX6 44 "HoursBank$Tokens" "kind" "I") (by decide +kernel)
  have k51 := hts (.fieldLink RX6 51 "HoursBank$TextReader" "faultPlace" "I") (by decide +kernel)
  have hl := lv_entry ([.ref ((ad 3)), .ref ((ad b))]) (n := 4) (Nat.le_of_ble_eq_true rfl)
  rw [lg_entry_eq]
  generalize (lg_sl ([.ref ((ad 3)), .ref ((ad b))]) ++ List.replicate (4 - (lg_sl ([.ref ((ad 3)), .ref ((ad b))])).length) Slot.unset).toArray = ls at hl ⊢
  have hl : lv_has ls 4 [(0, .ref ((ad 3))), (1, .ref ((ad b)))] := hl
  have hS : va_S (hbA ad) s.heap s.heap [] := va_S.rf
  obtain ⟨H, hH9⟩ : ∃ H, H = s.heap := ⟨_, rfl⟩
  obtain ⟨locs, hL9⟩ : ∃ x9l : List Loc, x9l = [] := ⟨_, rfl⟩
  have hW : cw g ad P M H := hH9 ▸ hW
  have hS : va_S (hbA ad) s.heap H locs := by rw [hH9, hL9]; exact hS
  refine z_start hH9 hL9 ?_
  clear hH9 hL9
  have hex : ∀ j : Nat, M j = M j := fun _ => rfl
  refine lv_aload_n hx hb dX6_readInto_0 rfl (lv_at hl 1 rfl) ?_
  have r_b : M (b) = M (b) := hex (b) 
  refine va_callv (va_runV (As := []) (rest := []) ⟨hx, hb, hml, hown, hts⟩ (c_X2_clear l g (ad) (hd9) (P) (M) (b) (hb9)) (cwV 0 hts gX6_readInto_X2_clear rfl rfl rfl (by decide +kernel) ⟨Nat.le_of_ble_eq_true rfl, Nat.le_of_ble_eq_true rfl⟩) (g_preV hW hK (va_recv hK (hb1 hW (show b < 126 by omega) (lcE r_b (sh_R0 hb9))) (q0 := 0) (ci := 2) rfl rfl)) rfl rfl hl.1 rfl (lv_room (Nat.le_of_ble_eq_true rfl)) dX6_readInto_1 ⟨Nat.le_of_ble_eq_true rfl, Nat.le_of_ble_eq_true rfl⟩) hS (fun q _ h => h) (fun q h => h) (fun u0 t9 H1 locs ht9 hvm9 hw9 hB9 hz9 hk9 hS => ?_)
  rw [ht9] at hB9
  clear hz9 hk9 hvm9 ht9
  generalize H1 = H at hB9 hS ⊢
  have hW := hB9
  clear hB9
  have hW : cw g ad P (va_up (va_up M (b + 18) (fillR (zI (0)) (M (b + 18)) 4)) (b + 1 + (1 + 0)) (upd (fillR (zI (0)) (M (b + 1 + (1 + 0))) 4) 2 (zI (1)))) H := hW
  obtain ⟨M2, hM2⟩ : ∃ x9c : Nat → Nat → Int32, x9c = va_up (va_up M (b + 18) (fillR (zI (0)) (M (b + 18)) 4)) (b + 1 + (1 + 0)) (upd (fillR (zI (0)) (M (b + 1 + (1 + 0))) 4) 2 (zI (1))) := ⟨_, rfl⟩
  have hW : cw g ad P M2 H := by rw [hM2]; exact hW
  have hex : ∀ j : Nat, ¬ j = b + 18 → ¬ j = b + 1 + (1 + 0) → M2 j = M j := fun j q0 q1 => ((congrFun hM2 j).trans ((up_ne _ _ q1).trans (up_ne _ _ q0))).trans (hex j )
  have r_b : M2 (b) = M (b) := ((congrFun hM2 (b)).trans ((up_ne _ _ (by omega)).trans (up_ne _ _ (by omega)))).trans r_b
  have r_b_18 : M2 (b + 18) = fillR (zI (0)) (M (b + 18)) 4 := ((congrFun hM2 _).trans ((up_ne _ _ (by omega)).trans (up_at _ _ _)))
  have r_b_1_1_0 : M2 (b + 1 + (1 + 0)) = upd (fillR (zI (0)) (M (b + 1 + (1 + 0))) 4) 2 (zI (1)) := ((congrFun hM2 _).trans (up_at _ _ _))
  refine lv_aload_n hx hb dX6_readInto_4 rfl (lv_at hl 0 rfl) ?_
  have r_3 : M2 (3) = M 3 := hex (3) (by omega) (by omega)
  refine va_get (D := g.1) (ci := 6) (v := .ref ((ad 4))) (C := RX6) (T := TX6) (N := 4) hx hb hts hinX6 hown hK (hb1 hW (show 3 < 126 by omega) (lcE r_3 sh_3)) 0 rfl rfl 1 (by decide) k20 (fun _ h9 => h9) rfl dX6_readInto_5 ?_
  have r_4 : M2 (4) = M 4 := hex (4) (by omega) (by omega)
  refine va_callv (va_runV (As := []) (rest := []) ⟨hx, hb, hml, hown, hts⟩ (c_X7_restart l g (ad) (hd9) (P) (M2)) (cwV 0 hts gX6_readInto_X7_restart rfl rfl rfl (by decide +kernel) ⟨Nat.le_of_ble_eq_true rfl, Nat.le_of_ble_eq_true rfl⟩) (g_preV hW hK (va_recv hK (hb1 hW (show 4 < 126 by omega) (lcE r_4 sh_4)) (q0 := 0) (ci := 7) rfl rfl)) rfl rfl hl.1 rfl (lv_room (Nat.le_of_ble_eq_true rfl)) dX6_readInto_8 ⟨Nat.le_of_ble_eq_true rfl, Nat.le_of_ble_eq_true rfl⟩) hS (fun q _ h => h) (fun q h => h) (fun u2 t9 H1 locs ht9 hvm9 hw9 hB9 hz9 hk9 hS => ?_)
  rw [ht9] at hB9
  clear hz9 hk9 hvm9 ht9
  generalize H1 = H at hB9 hS ⊢
  have hW := hB9
  clear hB9
  have hW : cw g ad P (va_up M2 (4) (upd (M2 4) 0 (zI (0)))) H := hW
  obtain ⟨M4, hM4⟩ : ∃ x9c : Nat → Nat → Int32, x9c = va_up M2 (4) (upd (M2 4) 0 (zI (0))) := ⟨_, rfl⟩
  have hW : cw g ad P M4 H := by rw [hM4]; exact hW
  have hex : ∀ j : Nat, ¬ j = b + 18 → ¬ j = b + 1 + (1 + 0) → ¬ j = 4 → M4 j = M j := fun j q0 q1 q2 => ((congrFun hM4 j).trans (up_ne _ _ q2)).trans (hex j q0 q1)
  have r_b : M4 (b) = M (b) := ((congrFun hM4 (b)).trans (up_ne _ _ (by omega))).trans r_b
  have r_b_18 : M4 (b + 18) = fillR (zI (0)) (M (b + 18)) 4 := ((congrFun hM4 (b + 18)).trans (up_ne _ _ (by omega))).trans r_b_18
  have r_b_1_1_0 : M4 (b + 1 + (1 + 0)) = upd (fillR (zI (0)) (M (b + 1 + (1 + 0))) 4) 2 (zI (1)) := ((congrFun hM4 (b + 1 + (1 + 0))).trans (up_ne _ _ (by omega))).trans r_b_1_1_0
  have r_3 : M4 (3) = M 3 := ((congrFun hM4 (3)).trans (up_ne _ _ (by omega))).trans r_3
  have r_4 : M4 (4) = upd (M2 4) 0 (zI (0)) := ((congrFun hM4 _).trans (up_at _ _ _))
  refine lv_aload_n hx hb dX6_readInto_11 rfl (lv_at hl 0 rfl) ?_
  refine lv_iconst (v := zI (0)) hx hb dX6_readInto_12 (by decide) ?_
  refine y_put (ci := 6) (v := .int (zI (0))) (ty := .int) (C := RX6) (T := TX6) (N := 4) hx hb hts hinX6 tyX6 tyX6_ok nmX6 hown hK hW hd9 hS (3) (show 3 < 126 by omega) (lcE r_3 sh_3) rfl 2 (by decide) k32 (fun _ h9 => h9) rfl (by decide +kernel) rfl rfl (Nat.le_of_ble_eq_true rfl) dX6_readInto_13 (fun H locs hW hS => ?_)
  have hW := cw_up (P := P) (M := M4) (f := upd (M 3) 0 (zI (0))) ((sh_3).trans rfl) hW
  obtain ⟨M5, hM5⟩ : ∃ x9c : Nat → Nat → Int32, x9c = va_up M4 (3) (upd (M 3) 0 (zI (0))) := ⟨_, rfl⟩
  have hW : cw g ad P M5 H := by rw [hM5]; exact hW
  have hex : ∀ j : Nat, ¬ j = b + 18 → ¬ j = b + 1 + (1 + 0) → ¬ j = 4 → ¬ j = 3 → M5 j = M j := fun j q0 q1 q2 q3 => ((congrFun hM5 j).trans (up_ne _ _ q3)).trans (hex j q0 q1 q2)
  have r_b : M5 (b) = M (b) := ((congrFun hM5 (b)).trans (up_ne _ _ (by omega))).trans r_b
  have r_b_18 : M5 (b + 18) = fillR (zI (0)) (M (b + 18)) 4 := ((congrFun hM5 (b + 18)).trans (up_ne _ _ (by omega))).trans r_b_18
  have r_b_1_1_0 : M5 (b + 1 + (1 + 0)) = upd (fillR (zI (0)) (M (b + 1 + (1 + 0))) 4) 2 (zI (1)) := ((congrFun hM5 (b + 1 + (1 + 0))).trans (up_ne _ _ (by omega))).trans r_b_1_1_0
  have r_4 : M5 (4) = upd (M2 4) 0 (zI (0)) := ((congrFun hM5 (4)).trans (up_ne _ _ (by omega))).trans r_4
  have r_3 : M5 (3) = upd (M 3) 0 (zI (0)) := ((congrFun hM5 _).trans (up_at _ _ _))
  refine lv_iconst (v := zI (0)) hx hb dX6_readInto_16 (by decide) ?_
  refine lv_istore_n (lv' := [(2, .int (zI (0))), (0, .ref ((ad 3))), (1, .ref ((ad b)))]) hx hb dX6_readInto_17 rfl hl (by decide) rfl (fun ls hl => ?_)
  refine lv_iconst (v := zI (0)) hx hb dX6_readInto_18 (by decide) ?_
  refine lv_istore_n (lv' := [(3, .int (zI (0))), (2, .int (zI (0))), (0, .ref ((ad 3))), (1, .ref ((ad b)))]) hx hb dX6_readInto_19 rfl hl (by decide) rfl (fun ls hl => ?_)
  have loop20 : ∀ (K9 : Nat) (A : Nat → Nat → Int32) (ln : Nat) (p3 : Nat) (f : Nat) (r3 : Nat → Int32) (hK9 : n + 1 - p3 < K9) (hf : n + 1 ≤ f + p3) (hp3 : p3 ≤ n) (hln : ln ≤ p3) (hdum : 0 ≤ p3) (hE : rlI β n b M A ln p3 f r3 (parseL β n (n + 1) 0 0 (rd0 rd))) (H : Heap) (locs : List Loc) (hW : cw g ad P A H) (hS : va_S (hbA ad) s.heap H locs) (ls : Array Slot) (hl : lv_has ls 4 [(3, .int (zI (((ln : Nat) : Int)))), (2, .int (zI (((ln : Nat) : Int)))), (0, .ref ((ad 3))), (1, .ref ((ad b)))]), W p l e (headSpec wsX6_readInto ({ frames := 7, cells := 0, slots := 0, locals := 151 })).room s m ([.ref ((ad 3)), .ref ((ad b))] : List Value).toArray below meth c H locs 0 0 (MQ below (va_Qi (fun (r : Int32) (u : Nat → Nat → Int32) => riQ b n M u (parseL β n (n + 1) 0 0 (rd0 rd)) r) (fun (u : Nat → Nat → Int32) (tS : State) => cw g ad P u tS.heap) (hbA ad)) ([.ref ((ad 3)), .ref ((ad b))] : List Value).toArray s 0 0 (hbA ad)) (F0 m 20 ls []) := by
    intro K9
    induction K9 with
    | zero => intro A ln p3 f r3 hK9; exact absurd hK9 (Nat.not_lt_zero _)
    | succ K9 ih =>
      intro A ln p3 f r3 hK9 hf hp3 hln hdum hE H locs hW hS ls hl
      have hex : ∀ j : Nat, A j = A j := fun _ => rfl
      obtain ⟨f, rfl⟩ := f_pred hf hp3
      have hA1 : A 1 0 = zI n := (congrFun (hE.1 1 (by omega) (by omega) (by omega)) 0).trans hz
      have hA2 : ∀ i, i < 740 → A 2 i = zI (sbI (β i)) ∧ β i < 256 := fun i hi => ⟨(congrFun (hE.1 2 (by omega) (by omega) (by omega)) i).trans (hβ i hi).1, (hβ i hi).2⟩
      refine lv_iload_n hx hb dX6_readInto_20 rfl (lv_at hl 0 rfl) ?_
      refine lv_aload_n hx hb dX6_readInto_21 rfl (lv_at hl 2 rfl) ?_
      have r_3 : A (3) = A 3 := hex (3) 
      refine va_get (D := g.1) (ci := 6) (v := .ref ((ad 1))) (C := RX6) (T := TX6) (N := 4) hx hb hts hinX6 hown hK (hb1 hW (show 3 < 126 by omega) (lcE r_3 sh_3)) 0 rfl rfl 0 (by decide) k9 (fun _ h9 => h9) rfl dX6_readInto_22 ?_
      have r_1 : A (1) = A 1 := hex (1) 
      refine va_get (D := g.1) (ci := 5) (v := .int ((A 1) 0)) (C := RX5) (T := TX5) (N := 2) hx hb hts hinX5 hown hK (hb1 hW (show 1 < 126 by omega) (lcE r_1 sh_1)) 0 rfl rfl 1 (by decide) k36 (fun _ h9 => h9) rfl dX6_readInto_25 ?_
      refine z_top (y := zI (n)) (hA1) ?_
      refine z_icmp_gt (tgt := 88) hx hb dX6_readInto_28 (by decide) (by omega) (by omega) (fun h28 => ?_) (fun h28 => ?_)
      · exfalso; omega
      · refine lv_aload_n hx hb dX6_readInto_31 rfl (lv_at hl 2 rfl) ?_
        refine va_get (D := g.1) (ci := 6) (v := .ref ((ad 4))) (C := RX6) (T := TX6) (N := 4) hx hb hts hinX6 hown hK (hb1 hW (show 3 < 126 by omega) (lcE r_3 sh_3)) 0 rfl rfl 1 (by decide) k20 (fun _ h9 => h9) rfl dX6_readInto_32 ?_
        have r_4 : A (4) = A 4 := hex (4) 
        refine va_callv (va_runV (As := []) (rest := []) ⟨hx, hb, hml, hown, hts⟩ (c_X7_advance l g (ad) (hd9) (P) (A) (β) (n) (hn) (hA1) (hA2) (p3) (hp3) (hE.2.2.1)) (cwV 0 hts gX6_readInto_X7_advance rfl rfl rfl (by decide +kernel) ⟨Nat.le_of_ble_eq_true rfl, Nat.le_of_ble_eq_true rfl⟩) (g_preV hW hK (va_recv hK (hb1 hW (show 4 < 126 by omega) (lcE r_4 sh_4)) (q0 := 0) (ci := 7) rfl rfl)) rfl rfl hl.1 rfl (lv_room (Nat.le_of_ble_eq_true rfl)) dX6_readInto_35 ⟨Nat.le_of_ble_eq_true rfl, Nat.le_of_ble_eq_true rfl⟩) hS (fun q _ h => h) (fun q h => h) (fun u5 t9 H1 locs ht9 hvm9 hw9 hB9 hz9 hk9 hS => ?_)
        rw [ht9] at hB9
        clear hz9 hk9 hvm9 ht9
        generalize H1 = H at hB9 hS ⊢
        have hW := hB9
        clear hB9
        have hW : cw g ad P (va_up A (4) (tokR (A 4) β n p3)) H := hW
        obtain ⟨M7, hM7⟩ : ∃ x9c : Nat → Nat → Int32, x9c = va_up A (4) (tokR (A 4) β n p3) := ⟨_, rfl⟩
        have hW : cw g ad P M7 H := by rw [hM7]; exact hW
        have hex : ∀ j : Nat, ¬ j = 4 → M7 j = A j := fun j q0 => ((congrFun hM7 j).trans (up_ne _ _ q0)).trans (hex j )
        have r_3 : M7 (3) = A 3 := ((congrFun hM7 (3)).trans (up_ne _ _ (by omega))).trans r_3
        have r_1 : M7 (1) = A 1 := ((congrFun hM7 (1)).trans (up_ne _ _ (by omega))).trans r_1
        have r_4 : M7 (4) = tokR (A 4) β n p3 := ((congrFun hM7 _).trans (up_at _ _ _))
        have hkl := ki_le β n p3
        refine lv_aload_n hx hb dX6_readInto_38 rfl (lv_at hl 2 rfl) ?_
        refine va_get (D := g.1) (ci := 6) (v := .ref ((ad 4))) (C := RX6) (T := TX6) (N := 4) hx hb hts hinX6 hown hK (hb1 hW (show 3 < 126 by omega) (lcE r_3 sh_3)) 0 rfl rfl 1 (by decide) k20 (fun _ h9 => h9) rfl dX6_readInto_39 ?_
        refine va_get (D := g.1) (ci := 7) (v := .int ((tokR (A 4) β n p3) 1)) (C := RX7) (T := TX7) (N := 5) hx hb hts hinX7 hown hK (hb1 hW (show 4 < 126 by omega) (lcE r_4 sh_4)) 0 rfl rfl 2 (by decide) k44 (fun _ h9 => h9) rfl dX6_readInto_42 ?_
        refine z_top (y := zI (((cKi β n p3 : Nat) : Int))) (rfl) ?_
        refine z_if_ne (tgt := 51) hx hb dX6_readInto_45 (by decide) (by omega) (fun h45 => ?_) (fun h45 => ?_)
        · have h45 : ¬ cKi β n p3 = 0 := by omega
          have hg0 : ¬ gSo β n p3 = 0 := fun z9 => h45 ((tok_e (β := β) hp3).mpr (Or.inr z9))
          refine lv_aload_n hx hb dX6_readInto_51 rfl (lv_at hl 2 rfl) ?_
          refine lv_aload_n hx hb dX6_readInto_52 rfl (lv_at hl 3 rfl) ?_
          refine lv_iload_n hx hb dX6_readInto_53 rfl (lv_at hl 1 rfl) ?_
          refine z_if_ne (tgt := 61) hx hb dX6_readInto_54 (by decide) (by omega) (fun h54 => ?_) (fun h54 => ?_)
          · refine lv_iconst (v := zI (0)) hx hb dX6_readInto_61 (by decide) ?_
            have hAA : ∀ j, j ≠ 4 → M7 j = A j := fun j q9 => hex j q9
            refine va_callv (va_runV (As := [.ref ((ad b)), .int (zI (0))]) (rest := []) ⟨hx, hb, hml, hown, hts⟩ (c_X6_readLine l g (ad) (hd9) (P) (M7) (kk) (b) (hb9) (β) (n) (hn) ((congrFun (hex 1 (by omega)) 0).trans hA1) (fun i hi => ⟨(congrFun (hex 2 (by omega)) i).trans (hA2 i hi).1, (hA2 i hi).2⟩) (p3) (hp3) (h45) ((congrFun r_4 0).trans (tokR_0 _ _ _ _)) ((congrFun r_4 1).trans (tokR_1 _ _ _ _)) ((congrFun r_4 2).trans (tokR_2 _ _ _ _)) ((congrFun (hex 3 (by omega)) 0).trans hE.2.1) (r3) (hE.2.2.2.2.1) (dR_cg hE.2.2.2.1 hE.2.2.2.2.1.1 (fun j q1 q2 => hex j (by omega))) (0) (by omega) ((congrFun (hex _ (by omega)) 0).trans (rl_18 hE (by omega)))) (cwV 2 hts gX6_readInto_X6_readLine rfl rfl rfl (by decide +kernel) ⟨Nat.le_of_ble_eq_true rfl, Nat.le_of_ble_eq_true rfl⟩) (gk_preV hW hK hC hS (va_recv hK (hb1 hW (show 3 < 126 by omega) (lcE r_3 sh_3)) (q0 := 0) (ci := 6) rfl rfl)) rfl rfl hl.1 rfl (lv_room (Nat.le_of_ble_eq_true rfl)) dX6_readInto_62 ⟨Nat.le_of_ble_eq_true rfl, Nat.le_of_ble_eq_true rfl⟩) hS (fun q _ h => h) (fun q h => h) (fun u7 t9 H1 locs ht9 hvm9 hw9 hB9 hz9 hk9 hS => ?_)
            rw [ht9] at hB9
            clear hz9 hk9 hvm9 ht9
            generalize H1 = H at hB9 hS ⊢
            have hW := hB9
            clear hB9
            have hW : cw g ad P u7 H := hW
            have hpo9 := hw9
            have hln9 := hpo9
            have hex : ∀ j : Nat, u7 j = u7 j := fun _ => rfl
            obtain ⟨er, hx9⟩ | ⟨qr, hx9⟩ := pr_cases (bnd (lineP β n (((0 : Int)) = 1) p3 r3) (endP β n))
            · refine lv_aload_n hx hb dX6_readInto_65 rfl (lv_at hl 2 rfl) ?_
              obtain ⟨f0, f1, f2, f3, f4⟩ := hln9.2.1.1 er hx9
              have r_3 : u7 (3) = u7 3 := hex (3) 
              refine va_get (D := g.1) (ci := 6) (v := .int ((u7 3) 0)) (C := RX6) (T := TX6) (N := 4) hx hb hts hinX6 hown hK (hb1 hW (show 3 < 126 by omega) (lcE r_3 sh_3)) 0 rfl rfl 2 (by decide) k32 (fun _ h9 => h9) rfl dX6_readInto_66 ?_
              refine z_top (y := zI (((er.1 : Nat) : Int))) (f0) ?_
              refine z_if_eq (tgt := 79) hx hb dX6_readInto_69 (by decide) (by omega) (fun h69 => ?_) (fun h69 => ?_)
              · exfalso; omega
              · refine lv_iconst (v := zI (-1)) hx hb dX6_readInto_72 (by decide) ?_
                refine lv_aload_n hx hb dX6_readInto_73 rfl (lv_at hl 2 rfl) ?_
                refine va_get (D := g.1) (ci := 6) (v := .int ((u7 3) 1)) (C := RX6) (T := TX6) (N := 4) hx hb hts hinX6 hown hK (hb1 hW (show 3 < 126 by omega) (lcE r_3 sh_3)) 0 rfl rfl 3 (by decide) k51 (fun _ h9 => h9) rfl dX6_readInto_74 ?_
                refine z_top (y := zI (((er.2 : Nat) : Int))) (f1) ?_
                refine z_isub hx hb dX6_readInto_77 ?_
                exact W.iret hx hb hr (fun tX htX hWX => ⟨⟨_, u7, rfl, ri_l (F := ((0 : Int)) = 1) hE hg0 (by omega) hAA hln9 hx9, g_at htX hW⟩, hS.F htX⟩) hS.2.2 dX6_readInto_78
            · refine lv_aload_n hx hb dX6_readInto_65 rfl (lv_at hl 2 rfl) ?_
              obtain ⟨f0, f1, f2⟩ := hln9.2.1.2 qr hx9
              obtain ⟨hg9, -, -⟩ := ln_go hp3 hE.2.2.2.2.1 hx9
              have r_3 : u7 (3) = u7 3 := hex (3) 
              refine va_get (D := g.1) (ci := 6) (v := .int ((u7 3) 0)) (C := RX6) (T := TX6) (N := 4) hx hb hts hinX6 hown hK (hb1 hW (show 3 < 126 by omega) (lcE r_3 sh_3)) 0 rfl rfl 2 (by decide) k32 (fun _ h9 => h9) rfl dX6_readInto_66 ?_
              refine z_top (y := zI (0)) (f0) ?_
              refine z_if_eq (tgt := 79) hx hb dX6_readInto_69 (by decide) (by omega) (fun h69 => ?_) (fun h69 => ?_)
              · refine z_iinc (lv' := [(2, .int (zI (((ln : Nat) : Int) + 1))), (3, .int (zI (((ln : Nat) : Int)))), (0, .ref ((ad 3))), (1, .ref ((ad b)))]) hx hb dX6_readInto_79 hl (k := 1) rfl (by decide) rfl (fun ls hl => ?_)
                refine z_iinc (lv' := [(3, .int (zI (((ln : Nat) : Int) + 1))), (2, .int (zI (((ln : Nat) : Int) + 1))), (0, .ref ((ad 3))), (1, .ref ((ad b)))]) hx hb dX6_readInto_82 hl (k := 1) rfl (by decide) rfl (fun ls hl => ?_)
                refine lv_goto (tgt := 20) hx hb dX6_readInto_85 (by decide) ?_
                have hl := lv_sub (l' := [(3, .int (zI (((ln : Nat) : Int) + 1))), (2, .int (zI (((ln : Nat) : Int) + 1))), (0, .ref ((ad 3))), (1, .ref ((ad b)))]) hl [0, 1, 2, 3] rfl
                have hl : lv_has ls 4 [(3, .int (zI ((((ln + 1) : Nat) : Int)))), (2, .int (zI ((((ln + 1) : Nat) : Int)))), (0, .ref ((ad 3))), (1, .ref ((ad b)))] := lv_cg (lvE (congrArg zI (by omega)) (lvE (congrArg zI (by omega)) (lvR (lvR (rfl))))) hl
                exact ih u7 (ln + 1) (qr.1) (f) (qr.2) (by omega) (by omega) (by omega) (by omega) (by omega) (rl_s (F := ((0 : Int)) = 1) hE hp3 hg0 (by omega) hAA hln9 hx9) H locs hW hS ls hl
              · exfalso; omega
          · refine lv_iconst (v := zI (1)) hx hb dX6_readInto_57 (by decide) ?_
            refine lv_goto (tgt := 62) hx hb dX6_readInto_58 (by decide) ?_
            have hAA : ∀ j, j ≠ 4 → M7 j = A j := fun j q9 => hex j q9
            refine va_callv (va_runV (As := [.ref ((ad b)), .int (zI (1))]) (rest := []) ⟨hx, hb, hml, hown, hts⟩ (c_X6_readLine l g (ad) (hd9) (P) (M7) (kk) (b) (hb9) (β) (n) (hn) ((congrFun (hex 1 (by omega)) 0).trans hA1) (fun i hi => ⟨(congrFun (hex 2 (by omega)) i).trans (hA2 i hi).1, (hA2 i hi).2⟩) (p3) (hp3) (h45) ((congrFun r_4 0).trans (tokR_0 _ _ _ _)) ((congrFun r_4 1).trans (tokR_1 _ _ _ _)) ((congrFun r_4 2).trans (tokR_2 _ _ _ _)) ((congrFun (hex 3 (by omega)) 0).trans hE.2.1) (r3) (hE.2.2.2.2.1) (dR_cg hE.2.2.2.1 hE.2.2.2.2.1.1 (fun j q1 q2 => hex j (by omega))) (1) (by omega) ((congrFun (hex _ (by omega)) 0).trans (rl_18 hE (by omega)))) (cwV 2 hts gX6_readInto_X6_readLine rfl rfl rfl (by decide +kernel) ⟨Nat.le_of_ble_eq_true rfl, Nat.le_of_ble_eq_true rfl⟩) (gk_preV hW hK hC hS (va_recv hK (hb1 hW (show 3 < 126 by omega) (lcE r_3 sh_3)) (q0 := 0) (ci := 6) rfl rfl)) rfl rfl hl.1 rfl (lv_room (Nat.le_of_ble_eq_true rfl)) dX6_readInto_62 ⟨Nat.le_of_ble_eq_true rfl, Nat.le_of_ble_eq_true rfl⟩) hS (fun q _ h => h) (fun q h => h) (fun u9 t9 H1 locs ht9 hvm9 hw9 hB9 hz9 hk9 hS => ?_)
            rw [ht9] at hB9
            clear hz9 hk9 hvm9 ht9
            generalize H1 = H at hB9 hS ⊢
            have hW := hB9
            clear hB9
            have hW : cw g ad P u9 H := hW
            have hpo9 := hw9
            have hln9 := hpo9
            have hex : ∀ j : Nat, u9 j = u9 j := fun _ => rfl
            obtain ⟨er, hx9⟩ | ⟨qr, hx9⟩ := pr_cases (bnd (lineP β n (((1 : Int)) = 1) p3 r3) (endP β n))
            · refine lv_aload_n hx hb dX6_readInto_65 rfl (lv_at hl 2 rfl) ?_
              obtain ⟨f0, f1, f2, f3, f4⟩ := hln9.2.1.1 er hx9
              have r_3 : u9 (3) = u9 3 := hex (3) 
              refine va_get (D := g.1) (ci := 6) (v := .int ((u9 3) 0)) (C := RX6) (T := TX6) (N := 4) hx hb hts hinX6 hown hK (hb1 hW (show 3 < 126 by omega) (lcE r_3 sh_3)) 0 rfl rfl 2 (by decide) k32 (fun _ h9 => h9) rfl dX6_readInto_66 ?_
              refine z_top (y := zI (((er.1 : Nat) : Int))) (f0) ?_
              refine z_if_eq (tgt := 79) hx hb dX6_readInto_69 (by decide) (by omega) (fun h69 => ?_) (fun h69 => ?_)
              · exfalso; omega
              · refine lv_iconst (v := zI (-1)) hx hb dX6_readInto_72 (by decide) ?_
                refine lv_aload_n hx hb dX6_readInto_73 rfl (lv_at hl 2 rfl) ?_
                refine va_get (D := g.1) (ci := 6) (v := .int ((u9 3) 1)) (C := RX6) (T := TX6) (N := 4) hx hb hts hinX6 hown hK (hb1 hW (show 3 < 126 by omega) (lcE r_3 sh_3)) 0 rfl rfl 3 (by decide) k51 (fun _ h9 => h9) rfl dX6_readInto_74 ?_
                refine z_top (y := zI (((er.2 : Nat) : Int))) (f1) ?_
                refine z_isub hx hb dX6_readInto_77 ?_
                exact W.iret hx hb hr (fun tX htX hWX => ⟨⟨_, u9, rfl, ri_l (F := ((1 : Int)) = 1) hE hg0 (by omega) hAA hln9 hx9, g_at htX hW⟩, hS.F htX⟩) hS.2.2 dX6_readInto_78
            · refine lv_aload_n hx hb dX6_readInto_65 rfl (lv_at hl 2 rfl) ?_
              obtain ⟨f0, f1, f2⟩ := hln9.2.1.2 qr hx9
              obtain ⟨hg9, -, -⟩ := ln_go hp3 hE.2.2.2.2.1 hx9
              have r_3 : u9 (3) = u9 3 := hex (3) 
              refine va_get (D := g.1) (ci := 6) (v := .int ((u9 3) 0)) (C := RX6) (T := TX6) (N := 4) hx hb hts hinX6 hown hK (hb1 hW (show 3 < 126 by omega) (lcE r_3 sh_3)) 0 rfl rfl 2 (by decide) k32 (fun _ h9 => h9) rfl dX6_readInto_66 ?_
              refine z_top (y := zI (0)) (f0) ?_
              refine z_if_eq (tgt := 79) hx hb dX6_readInto_69 (by decide) (by omega) (fun h69 => ?_) (fun h69 => ?_)
              · refine z_iinc (lv' := [(2, .int (zI (((ln : Nat) : Int) + 1))), (3, .int (zI (((ln : Nat) : Int)))), (0, .ref ((ad 3))), (1, .ref ((ad b)))]) hx hb dX6_readInto_79 hl (k := 1) rfl (by decide) rfl (fun ls hl => ?_)
                refine z_iinc (lv' := [(3, .int (zI (((ln : Nat) : Int) + 1))), (2, .int (zI (((ln : Nat) : Int) + 1))), (0, .ref ((ad 3))), (1, .ref ((ad b)))]) hx hb dX6_readInto_82 hl (k := 1) rfl (by decide) rfl (fun ls hl => ?_)
                refine lv_goto (tgt := 20) hx hb dX6_readInto_85 (by decide) ?_
                have hl := lv_sub (l' := [(3, .int (zI (((ln : Nat) : Int) + 1))), (2, .int (zI (((ln : Nat) : Int) + 1))), (0, .ref ((ad 3))), (1, .ref ((ad b)))]) hl [0, 1, 2, 3] rfl
                have hl : lv_has ls 4 [(3, .int (zI ((((ln + 1) : Nat) : Int)))), (2, .int (zI ((((ln + 1) : Nat) : Int)))), (0, .ref ((ad 3))), (1, .ref ((ad b)))] := lv_cg (lvE (congrArg zI (by omega)) (lvE (congrArg zI (by omega)) (lvR (lvR (rfl))))) hl
                exact ih u9 (ln + 1) (qr.1) (f) (qr.2) (by omega) (by omega) (by omega) (by omega) (by omega) (rl_s (F := ((1 : Int)) = 1) hE hp3 hg0 (by omega) hAA hln9 hx9) H locs hW hS ls hl
              · exfalso; omega
        · have he9 := (tok_e (β := β) hp3).mp (by omega)
          have rk4 := r_4
          refine lv_goto (tgt := 88) hx hb dX6_readInto_48 (by decide) ?_
          refine lv_aload_n hx hb dX6_readInto_88 rfl (lv_at hl 2 rfl) ?_
          refine va_get (D := g.1) (ci := 6) (v := .ref ((ad 4))) (C := RX6) (T := TX6) (N := 4) hx hb hts hinX6 hown hK (hb1 hW (show 3 < 126 by omega) (lcE r_3 sh_3)) 0 rfl rfl 1 (by decide) k20 (fun _ h9 => h9) rfl dX6_readInto_89 ?_
          refine va_calli (va_runV (As := []) (rest := []) ⟨hx, hb, hml, hown, hts⟩ (c_X7_isTextTooLong l g (ad) (hd9) (P) (M7) (n) (hn) ((congrFun (hex 1 (by omega)) 0).trans hA1)) (cwV 0 hts gX6_readInto_X7_isTextTooLong rfl rfl rfl (by decide +kernel) ⟨Nat.le_of_ble_eq_true rfl, Nat.le_of_ble_eq_true rfl⟩) (g_preV hW hK (va_recv hK (hb1 hW (show 4 < 126 by omega) (lcE r_4 sh_4)) (q0 := 0) (ci := 7) rfl rfl)) rfl rfl hl.1 rfl (lv_room (Nat.le_of_ble_eq_true rfl)) dX6_readInto_92 ⟨Nat.le_of_ble_eq_true rfl, Nat.le_of_ble_eq_true rfl⟩) hS (fun q _ h => h) (fun q h => h) (fun r u11 t9 H1 locs ht9 hvm9 hw9 hB9 hz9 hk9 hS => ?_)
          rw [ht9] at hB9
          clear hz9 hk9 hvm9 ht9
          generalize H1 = H at hB9 hS ⊢
          have hW := hB9
          clear hB9
          have hW : cw g ad P M7 H := hW
          obtain rfl : r = zI (bz (700 < n)) := hw9
          refine z_bz_eq (tgt := 110) hx hb dX6_readInto_95 (by decide) (fun h95 => ?_) (fun h95 => ?_)
          · have hg9 : gSo β n p3 = 0 := he9.resolve_left (fun z9 => h95 z9.1)
            refine lv_iload_n hx hb dX6_readInto_110 rfl (lv_at hl 1 rfl) ?_
            exact W.iret hx hb hr (fun tX htX hWX => ⟨⟨_, M7, rfl, ri_r hE hb9 hg9 (by omega) (fun j q1 => hex j (by omega)), g_at htX hW⟩, hS.F htX⟩) hS.2.2 dX6_readInto_111
          · have ho9 : overT β n p3 := by
              rcases he9 with z9 | z9
              · exact z9
              · exact Classical.byContradiction (fun y9 => by
                  have hy := gso_0 hp3 z9 y9
                  exact y9 ⟨h95, by omega⟩)
            refine lv_aload_n hx hb dX6_readInto_98 rfl (lv_at hl 2 rfl) ?_
            refine lv_iconst (v := zI (1)) hx hb dX6_readInto_99 (by decide) ?_
            refine va_callv (va_runV (As := [.int (zI (1))]) (rest := []) ⟨hx, hb, hml, hown, hts⟩ (c_X6_fail l g (ad) (hd9) (P) (M7) (1)) (cwV 1 hts gX6_readInto_X6_fail rfl rfl rfl (by decide +kernel) ⟨Nat.le_of_ble_eq_true rfl, Nat.le_of_ble_eq_true rfl⟩) (g_preV hW hK (va_recv hK (hb1 hW (show 3 < 126 by omega) (lcE r_3 sh_3)) (q0 := 0) (ci := 6) rfl rfl)) rfl rfl hl.1 rfl (lv_room (Nat.le_of_ble_eq_true rfl)) dX6_readInto_100 ⟨Nat.le_of_ble_eq_true rfl, Nat.le_of_ble_eq_true rfl⟩) hS (fun q _ h => h) (fun q h => h) (fun u12 t9 H1 locs ht9 hvm9 hw9 hB9 hz9 hk9 hS => ?_)
            rw [ht9] at hB9
            clear hz9 hk9 hvm9 ht9
            generalize H1 = H at hB9 hS ⊢
            have hW := hB9
            clear hB9
            have hW : cw g ad P (va_up M7 (3) (upd (upd (M7 3) 0 (zI (1))) 1 (M7 4 2))) H := hW
            obtain ⟨M14, hM14⟩ : ∃ x9c : Nat → Nat → Int32, x9c = va_up M7 (3) (upd (upd (M7 3) 0 (zI (1))) 1 (M7 4 2)) := ⟨_, rfl⟩
            have hW : cw g ad P M14 H := by rw [hM14]; exact hW
            have hex : ∀ j : Nat, ¬ j = 4 → ¬ j = 3 → M14 j = A j := fun j q0 q1 => ((congrFun hM14 j).trans (up_ne _ _ q1)).trans (hex j q0)
            have r_1 : M14 (1) = A 1 := ((congrFun hM14 (1)).trans (up_ne _ _ (by omega))).trans r_1
            have r_4 : M14 (4) = tokR (A 4) β n p3 := ((congrFun hM14 (4)).trans (up_ne _ _ (by omega))).trans r_4
            have r_3 : M14 (3) = upd (upd (M7 3) 0 (zI (1))) 1 (M7 4 2) := ((congrFun hM14 _).trans (up_at _ _ _))
            refine lv_iconst (v := zI (-1)) hx hb dX6_readInto_103 (by decide) ?_
            refine lv_aload_n hx hb dX6_readInto_104 rfl (lv_at hl 2 rfl) ?_
            refine va_get (D := g.1) (ci := 6) (v := .int ((upd (upd (M7 3) 0 (zI (1))) 1 (M7 4 2)) 1)) (C := RX6) (T := TX6) (N := 4) hx hb hts hinX6 hown hK (hb1 hW (show 3 < 126 by omega) (lcE r_3 sh_3)) 0 rfl rfl 3 (by decide) k51 (fun _ h9 => h9) rfl dX6_readInto_105 ?_
            refine z_top (y := zI (((gFr β n p3 : Nat) : Int))) ((upd_at _ _ _).trans ((congrFun rk4 2).trans (tok_fr hp3))) ?_
            refine z_isub hx hb dX6_readInto_108 ?_
            exact W.iret hx hb hr (fun tX htX hWX => ⟨⟨_, M14, rfl, ri_over hE hp3 hn ho9 (fun j q1 q2 => hex j (by omega) (by omega)) (by rw [r_3]; rfl), g_at htX hW⟩, hS.F htX⟩) hS.2.2 dX6_readInto_109
  have hl := lv_sub (l' := [(3, .int (zI (0))), (2, .int (zI (0))), (0, .ref ((ad 3))), (1, .ref ((ad b)))]) hl [0, 1, 2, 3] rfl
  have hl : lv_has ls 4 [(3, .int (zI (((0 : Nat) : Int)))), (2, .int (zI (((0 : Nat) : Int)))), (0, .ref ((ad 3))), (1, .ref ((ad b)))] := lv_cg (lvE (congrArg zI (rfl)) (lvE (congrArg zI (rfl)) (lvR (lvR (rfl))))) hl
  exact loop20 _ M5 (0) (0) (n + 1) (rd0 rd) (Nat.lt_succ_self _) (by omega) (by omega) (by omega) (by omega) (rl_0 rd (fun j q1 q2 q3 => hex j (by omega) (by omega) (by omega) (by omega)) (by rw [r_3]; exact upd_at _ _ _) (by rw [r_4]; exact upd_at _ _ _) (fun j q1 q2 => by rw [r_b_1_1_0, upd_ne _ q2]; exact fill_at (by omega)) (by rw [r_b_1_1_0]; exact upd_at _ _ _) (fun j q1 => by rw [r_b_18]; exact fill_at (by omega))) H locs hW hS ls hl
