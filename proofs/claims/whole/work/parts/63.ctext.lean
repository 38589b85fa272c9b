set_option maxHeartbeats 4000000 in
set_option maxRecDepth 100000 in
theorem c_X8_text (l : Launch) (g : GG) (ad : Nat → Nat) (hd9 : hD ad) (P : Nat → Nat) (M : Nat → Nat → Int32) (kk : KK) (N sn : Nat → Int32) (k : Nat) (hI : INV P M N sn k) (β : Nat → Nat) (n : Nat) (hn : n ≤ 740) (hz : M 1 0 = zI n) (hβ : ∀ i, i < 740 → M 2 i = zI (sbI (β i)) ∧ β i < 256) (rd : Nat → Int32) : Met l yX8_text wsX8_text ({ frames := 8, cells := 0, slots := 0, locals := 174 }) (gkPc g kk ad [.ref ((ad 0))] (cw g ad P M)) (va_Qi (fun (r : Int32) (u : (Nat → Nat) × (Nat → Nat → Int32)) => txQ P M N sn k (parseL β n (n + 1) 0 0 (rd0 rd)) r u) (fun (u : (Nat → Nat) × (Nat → Nat → Int32)) (tS : State) => cw g ad u.1 u.2 tS.heap) (hbA ad)) 0 0 (hbA ad) := by
  refine Met.ofW (cc := cX8_text) (maxL := 2) (ret := (some .int)) (by decide) rfl ?_
  intro p e s m args below meth c s₁ B hml hv
  obtain ⟨rfl, hW, hK, hC⟩ := hv
  have hx := B.exec
  have hb := B.bytes
  have hr := B.returns
  have hts := atoms_spec (ws := wsX8_text) B.pre
  have hown : s.vm.findClass RX8 = some m.cls := findClass_of_methodNamed B.named
  have hlocks := B.notSynchronized
  have hinX5 : ∀ w ∈ wsX50, w ∈ wsX8_text := by decide +kernel
  have hinX8 : ∀ w ∈ wsX80, w ∈ wsX8_text := by decide +kernel
  have k21 := hts (.fieldLink RX8 21 "HoursBank" "reader" "LHoursBank$TextReader;") (by decide +kernel)
  have k32 := hts (.fieldLink RX8 32 "HoursBank" "draft" "LHoursBank$Rules;") (by decide +kernel)
  have k12 := hts (.fieldLink RX8 12 "HoursBank" "tape" "LHoursBank$Tape;") (by decide +kernel)
  have k55 := hts (.fieldLink RX8 55 "HoursBank$Tape" "size" "I") (by decide +kernel)
  have hl := lv_entry ([.ref ((ad 0))]) (n := 2) (Nat.le_of_ble_eq_true rfl)
  rw [lg_entry_eq]
  generalize (lg_sl ([.ref ((ad 0))]) ++ List.replicate (2 - (lg_sl ([.ref ((ad 0))])).length) Slot.unset).toArray = ls at hl ⊢
  have hl : lv_has ls 2 [(0, .ref ((ad 0)))] := hl
  have hS : va_S (hbA ad) s.heap s.heap [] := va_S.rf
  obtain ⟨H, hH9⟩ : ∃ H, H = s.heap := ⟨_, rfl⟩
  obtain ⟨locs, hL9⟩ : ∃ x9l : List Loc, x9l = [] := ⟨_, rfl⟩
  have hW : cw g ad P M H := hH9 ▸ hW
  have hS : va_S (hbA ad) s.heap H locs := by rw [hH9, hL9]; exact hS
  refine z_start hH9 hL9 ?_
  clear hH9 hL9
  have hex : ∀ j : Nat, M j = M j := fun _ => rfl
  obtain ⟨hP9, hc9, hk10, hk6, nx, hnx, hn6, hch9⟩ := id hI
  obtain ⟨hN, hZt, hst9, hRu, hSh, ht9, hfl9⟩ := id hc9
  have hq57 := hN.nw.le
  have hqtd := hN.td.le
  refine lv_aload_n hx hb dX8_text_0 rfl (lv_at hl 0 rfl) ?_
  have r_0 : M (0) = M 0 := hex (0) 
  refine va_get (D := g.1) (ci := 8) (v := .ref ((ad 3))) (C := RX8) (T := TX8) (N := 7) hx hb hts hinX8 hown hK (hb1 hW (show 0 < 126 by omega) (lcE r_0 sh_0)) 0 rfl rfl 1 (by decide) k21 (fun _ h9 => h9) rfl dX8_text_1 ?_
  refine lv_aload_n hx hb dX8_text_4 rfl (lv_at hl 0 rfl) ?_
  refine va_get (D := g.1) (ci := 8) (v := .ref ((ad (P 1)))) (C := RX8) (T := TX8) (N := 7) hx hb hts hinX8 hown hK (hb1 hW (show 0 < 126 by omega) (lcE r_0 sh_0)) 0 rfl rfl 5 (by decide) k32 (fun _ h9 => h9) rfl dX8_text_5 ?_
  have r_3 : M (3) = M 3 := hex (3) 
  refine va_calli (va_runV (As := [.ref ((ad (P 1)))]) (rest := []) ⟨hx, hb, hml, hown, hts⟩ (c_X6_readInto l g (ad) (hd9) (P) (M) (kk) ((P 1)) (hP9.d) (β) (n) (hn) (hz) (hβ) (rd)) (cwV 1 hts gX8_text_X6_readInto rfl rfl rfl (by decide +kernel) ⟨Nat.le_of_ble_eq_true rfl, Nat.le_of_ble_eq_true rfl⟩) (gk_preV hW hK hC hS (va_recv hK (hb1 hW (show 3 < 126 by omega) (lcE r_3 sh_3)) (q0 := 0) (ci := 6) rfl rfl)) rfl rfl hl.1 rfl (lv_room (Nat.le_of_ble_eq_true rfl)) dX8_text_8 ⟨Nat.le_of_ble_eq_true rfl, Nat.le_of_ble_eq_true rfl⟩) hS (fun q _ h => h) (fun q h => h) (fun r u0 t9 H1 locs ht9 hvm9 hw9 hB9 hz9 hk9 hS => ?_)
  rw [ht9] at hB9
  clear hz9 hk9 hvm9 ht9
  generalize H1 = H at hB9 hS ⊢
  have hW := hB9
  clear hB9
  have hW : cw g ad P u0 H := hW
  have hpo9 := hw9
  have hri := hpo9
  have hex : ∀ j : Nat, u0 j = u0 j := fun _ => rfl
  obtain ⟨er, hx9⟩ | ⟨qr, hx9⟩ := pr_cases (parseL β n (n + 1) 0 0 (rd0 rd))
  · have hb4 := (hri.2.1 er hx9).2.2
    refine z_top (y := zI (-1 - ((er.2 : Nat) : Int))) ((hri.2.1 er hx9).1) ?_
    refine lv_istore_n (lv' := [(1, .int (zI (-1 - ((er.2 : Nat) : Int)))), (0, .ref ((ad 0)))]) hx hb dX8_text_11 rfl hl (by decide) rfl (fun ls hl => ?_)
    refine lv_aload_n hx hb dX8_text_12 rfl (lv_at hl 1 rfl) ?_
    have r_0 : u0 (0) = u0 0 := hex (0) 
    refine va_get (D := g.1) (ci := 8) (v := .ref ((ad 1))) (C := RX8) (T := TX8) (N := 7) hx hb hts hinX8 hown hK (hb1 hW (show 0 < 126 by omega) (lcE r_0 sh_0)) 0 rfl rfl 0 (by decide) k12 (fun _ h9 => h9) rfl dX8_text_13 ?_
    refine lv_iconst (v := zI (0)) hx hb dX8_text_16 (by decide) ?_
    have r_1 : u0 (1) = u0 1 := hex (1) 
    refine y_put (ci := 5) (v := .int (zI (0))) (ty := .int) (C := RX5) (T := TX5) (N := 2) hx hb hts hinX5 tyX5 tyX5_ok nmX5 hown hK hW hd9 hS (1) (show 1 < 126 by omega) (lcE r_1 sh_1) rfl 1 (by decide) k55 (fun _ h9 => h9) rfl (by decide +kernel) rfl rfl (Nat.le_of_ble_eq_true rfl) dX8_text_17 (fun H locs hW hS => ?_)
    have hW := cw_up (P := P) (M := u0) (f := upd (u0 1) 0 (zI (0))) ((sh_1).trans rfl) hW
    obtain ⟨M3, hM3⟩ : ∃ x9c : Nat → Nat → Int32, x9c = va_up u0 (1) (upd (u0 1) 0 (zI (0))) := ⟨_, rfl⟩
    have hW : cw g ad P M3 H := by rw [hM3]; exact hW
    have hex : ∀ j : Nat, ¬ j = 1 → M3 j = u0 j := fun j q0 => ((congrFun hM3 j).trans (up_ne _ _ q0)).trans (hex j )
    have r_0 : M3 (0) = u0 0 := ((congrFun hM3 (0)).trans (up_ne _ _ (by omega))).trans r_0
    have r_1 : M3 (1) = upd (u0 1) 0 (zI (0)) := ((congrFun hM3 _).trans (up_at _ _ _))
    refine lv_iload_n hx hb dX8_text_20 rfl (lv_at hl 0 rfl) ?_
    refine z_if_lt (tgt := 28) hx hb dX8_text_21 (by decide) (by omega) (fun h21 => ?_) (fun h21 => ?_)
    · refine lv_iload_n hx hb dX8_text_28 rfl (lv_at hl 0 rfl) ?_
      exact W.iret hx hb hr (fun tX htX hWX => ⟨⟨_, (P, M3), rfl, tx_l hI hri hx9 (by rw [r_1]; exact upd_at _ _ _) (fun j q9 => hex j q9), g_at htX hW⟩, hS.F htX⟩) hS.2.2 dX8_text_29
    · exfalso; omega
  · have hb4 := (hri.2.2 qr hx9).2.2.2.2
    refine z_top (y := zI (((qr.1 : Nat) : Int))) ((hri.2.2 qr hx9).1) ?_
    refine lv_istore_n (lv' := [(1, .int (zI (((qr.1 : Nat) : Int)))), (0, .ref ((ad 0)))]) hx hb dX8_text_11 rfl hl (by decide) rfl (fun ls hl => ?_)
    refine lv_aload_n hx hb dX8_text_12 rfl (lv_at hl 1 rfl) ?_
    have r_0 : u0 (0) = u0 0 := hex (0) 
    refine va_get (D := g.1) (ci := 8) (v := .ref ((ad 1))) (C := RX8) (T := TX8) (N := 7) hx hb hts hinX8 hown hK (hb1 hW (show 0 < 126 by omega) (lcE r_0 sh_0)) 0 rfl rfl 0 (by decide) k12 (fun _ h9 => h9) rfl dX8_text_13 ?_
    refine lv_iconst (v := zI (0)) hx hb dX8_text_16 (by decide) ?_
    have r_1 : u0 (1) = u0 1 := hex (1) 
    refine y_put (ci := 5) (v := .int (zI (0))) (ty := .int) (C := RX5) (T := TX5) (N := 2) hx hb hts hinX5 tyX5 tyX5_ok nmX5 hown hK hW hd9 hS (1) (show 1 < 126 by omega) (lcE r_1 sh_1) rfl 1 (by decide) k55 (fun _ h9 => h9) rfl (by decide +kernel) rfl rfl (Nat.le_of_ble_eq_true rfl) dX8_text_17 (fun H locs hW hS => ?_)
    have hW := cw_up (P := P) (M := u0) (f := upd (u0 1) 0 (zI (0))) ((sh_1).trans rfl) hW
    obtain ⟨M4, hM4⟩ : ∃ x9c : Nat → Nat → Int32, x9c = va_up u0 (1) (upd (u0 1) 0 (zI (0))) := ⟨_, rfl⟩
    have hW : cw g ad P M4 H := by rw [hM4]; exact hW
    have hex : ∀ j : Nat, ¬ j = 1 → M4 j = u0 j := fun j q0 => ((congrFun hM4 j).trans (up_ne _ _ q0)).trans (hex j )
    have r_0 : M4 (0) = u0 0 := ((congrFun hM4 (0)).trans (up_ne _ _ (by omega))).trans r_0
    have r_1 : M4 (1) = upd (u0 1) 0 (zI (0)) := ((congrFun hM4 _).trans (up_at _ _ _))
    refine lv_iload_n hx hb dX8_text_20 rfl (lv_at hl 0 rfl) ?_
    refine z_if_lt (tgt := 28) hx hb dX8_text_21 (by decide) (by omega) (fun h21 => ?_) (fun h21 => ?_)
    · exfalso; omega
    · refine lv_aload_n hx hb dX8_text_24 rfl (lv_at hl 1 rfl) ?_
      have hT1 := r_1
      have hTo := hex
      refine va_callv (va_runV (As := []) (rest := []) ⟨hx, hb, hml, hown, hts⟩ (c_X8_adoptDraft l g (ad) (hd9) (P) (M4) (hP9)) (cwV 0 hts gX8_text_X8_adoptDraft rfl rfl rfl (by decide +kernel) ⟨Nat.le_of_ble_eq_true rfl, Nat.le_of_ble_eq_true rfl⟩) (g_preV hW hK (va_recv hK (hb1 hW (show 0 < 126 by omega) (lcE r_0 sh_0)) (q0 := 0) (ci := 8) rfl rfl)) rfl rfl hl.1 rfl (lv_room (Nat.le_of_ble_eq_true rfl)) dX8_text_25 ⟨Nat.le_of_ble_eq_true rfl, Nat.le_of_ble_eq_true rfl⟩) hS (fun q _ h => h) (fun q h => h) (fun u4 t9 H1 locs ht9 hvm9 hw9 hB9 hz9 hk9 hS => ?_)
      rw [ht9] at hB9
      clear hz9 hk9 hvm9 ht9
      generalize H1 = H at hB9 hS ⊢
      have hW := hB9
      clear hB9
      have hW : cw g ad u4.1 u4.2 H := hW
      have hpo9 := hw9
      have had9 := hpo9
      have hex : ∀ j : Nat, u4.2 j = u4.2 j := fun _ => rfl
      refine lv_iload_n hx hb dX8_text_28 rfl (lv_at hl 0 rfl) ?_
      exact W.iret hx hb hr (fun tX htX hWX => ⟨⟨_, u4, rfl, tx_r hI hri hx9 (by rw [hT1]; exact upd_at _ _ _) (fun j q9 => hTo j q9) had9, g_at htX hW⟩, hS.F htX⟩) hS.2.2 dX8_text_29

set_option maxHeartbeats 4000000 in
set_option maxRecDepth 100000 in
theorem c_X8_fault (l : Launch) (g : GG) (ad : Nat → Nat) (hd9 : hD ad) (P : Nat → Nat) (M : Nat → Nat → Int32)  : Met l yX8_fault wsX8_fault ({ frames := 0, cells := 0, slots := 0, locals := 0 }) (gPc g [.ref ((ad 0))] (cw g ad P M)) (va_Qi (fun (r : Int32) (u : Unit) => r = M 3 0) (fun (u : Unit) (tS : State) => cw g ad P M tS.heap) (hbA ad)) 0 0 (hbA ad) := by
  refine Met.ofW (cc := cX8_fault) (maxL := 1) (ret := (some .int)) (by decide) rfl ?_
  intro p e s m args below meth c s₁ B hml hv
  obtain ⟨rfl, hW, hK⟩ := hv
  have hx := B.exec
  have hb := B.bytes
  have hr := B.returns
  have hts := atoms_spec (ws := wsX8_fault) B.pre
  have hown : s.vm.findClass RX8 = some m.cls := findClass_of_methodNamed B.named
  have hlocks := B.notSynchronized
  have hinX6 : ∀ w ∈ wsX60, w ∈ wsX8_fault := by decide +kernel
  have hinX8 : ∀ w ∈ wsX80, w ∈ wsX8_fault := by decide +kernel
  have k21 := hts (.fieldLink RX8 21 "HoursBank" "reader" "LHoursBank$TextReader;") (by decide +kernel)
  have k69 := hts (.fieldLink RX8 69 "HoursBank$TextReader" "faultKind" "I") (by decide +kernel)
  have hl := lv_entry ([.ref ((ad 0))]) (n := 1) (Nat.le_of_ble_eq_true rfl)
  rw [lg_entry_eq]
  generalize (lg_sl ([.ref ((ad 0))]) ++ List.replicate (1 - (lg_sl ([.ref ((ad 0))])).length) Slot.unset).toArray = ls at hl ⊢
  have hl : lv_has ls 1 [(0, .ref ((ad 0)))] := hl
  have hS : va_S (hbA ad) s.heap s.heap [] := va_S.rf
  obtain ⟨H, hH9⟩ : ∃ H, H = s.heap := ⟨_, rfl⟩
  obtain ⟨locs, hL9⟩ : ∃ x9l : List Loc, x9l = [] := ⟨_, rfl⟩
  have hW : cw g ad P M H := hH9 ▸ hW
  have hS : va_S (hbA ad) s.heap H locs := by rw [hH9, hL9]; exact hS
  refine z_start hH9 hL9 ?_
  clear hH9 hL9
  have hex : ∀ j : Nat, M j = M j := fun _ => rfl
  refine lv_aload_n hx hb dX8_fault_0 rfl (lv_at hl 0 rfl) ?_
  have r_0 : M (0) = M 0 := hex (0) 
  refine va_get (D := g.1) (ci := 8) (v := .ref ((ad 3))) (C := RX8) (T := TX8) (N := 7) hx hb hts hinX8 hown hK (hb1 hW (show 0 < 126 by omega) (lcE r_0 sh_0)) 0 rfl rfl 1 (by decide) k21 (fun _ h9 => h9) rfl dX8_fault_1 ?_
  have r_3 : M (3) = M 3 := hex (3) 
  refine va_get (D := g.1) (ci := 6) (v := .int ((M 3) 0)) (C := RX6) (T := TX6) (N := 4) hx hb hts hinX6 hown hK (hb1 hW (show 3 < 126 by omega) (lcE r_3 sh_3)) 0 rfl rfl 2 (by decide) k69 (fun _ h9 => h9) rfl dX8_fault_4 ?_
  have hW : cw g ad P M H := hW
  exact W.iret hx hb hr (fun tX htX hWX => ⟨⟨_, (), rfl, rfl, g_at htX hW⟩, hS.F htX⟩) hS.2.2 dX8_fault_7
