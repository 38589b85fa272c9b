set_option maxHeartbeats 4000000 in
set_option maxRecDepth 100000 in
theorem c_X7_isBlank (l : Launch) (v : Int) (hv : R32 v) : Met l yX7_isBlank wsX7_isBlank ({ frames := 0, cells := 0, slots := 0, locals := 0 }) (va_Pc [.int (zI (v))] (fun _ => True)) (vp_Si (fun r : Int32 => r = zI (bz (v = 32 ∨ v = 10)))) 0 0 (fun _ => False) := by
  refine Met.ofW (cc := cX7_isBlank) (maxL := 1) (ret := (some .boolean)) (by decide) rfl ?_
  intro p e s m args below meth c s₁ B hml hv
  obtain ⟨rfl, -⟩ := hv
  have hx := B.exec
  have hb := B.bytes
  have hr := B.returns
  have hts := atoms_spec (ws := wsX7_isBlank) B.pre
  have hown : s.vm.findClass RX7 = some m.cls := findClass_of_methodNamed B.named
  have hlocks := B.notSynchronized
  have hl := lv_entry ([.int (zI (v))]) (n := 1) (Nat.le_of_ble_eq_true rfl)
  rw [lg_entry_eq]
  generalize (lg_sl ([.int (zI (v))]) ++ List.replicate (1 - (lg_sl ([.int (zI (v))])).length) Slot.unset).toArray = ls at hl ⊢
  have hl : lv_has ls 1 [(0, .int (zI (v)))] := hl
  refine lv_iload_n hx hb dX7_isBlank_0 rfl (lv_at hl 0 rfl) ?_
  refine lv_bipush (v := zI (32)) hx hb dX7_isBlank_1 (by decide) ?_
  refine z_icmp_eq (tgt := 12) hx hb dX7_isBlank_3 (by decide) (by omega) (by omega) (fun h3 => ?_) (fun h3 => ?_)
  · refine lv_iconst (v := zI (1)) hx hb dX7_isBlank_12 (by decide) ?_
    refine lv_goto (tgt := 17) hx hb dX7_isBlank_13 (by decide) ?_
    exact W.zret hx hb hr (by decide) (fun tX htX hWX => ⟨_, rfl, bz_1 (by omega), htX⟩) (fun _ h9 => by cases h9) dX7_isBlank_17
  · refine lv_iload_n hx hb dX7_isBlank_6 rfl (lv_at hl 0 rfl) ?_
    refine lv_bipush (v := zI (10)) hx hb dX7_isBlank_7 (by decide) ?_
    refine z_icmp_ne (tgt := 16) hx hb dX7_isBlank_9 (by decide) (by omega) (by omega) (fun h9 => ?_) (fun h9 => ?_)
    · refine lv_iconst (v := zI (0)) hx hb dX7_isBlank_16 (by decide) ?_
      exact W.zret hx hb hr (by decide) (fun tX htX hWX => ⟨_, rfl, bz_0 (by omega), htX⟩) (fun _ h9 => by cases h9) dX7_isBlank_17
    · refine lv_iconst (v := zI (1)) hx hb dX7_isBlank_12 (by decide) ?_
      refine lv_goto (tgt := 17) hx hb dX7_isBlank_13 (by decide) ?_
      exact W.zret hx hb hr (by decide) (fun tX htX hWX => ⟨_, rfl, bz_1 (by omega), htX⟩) (fun _ h9 => by cases h9) dX7_isBlank_17

set_option maxHeartbeats 4000000 in
set_option maxRecDepth 100000 in
theorem c_X7_isLetter (l : Launch) (v : Int) (hv : R32 v) : Met l yX7_isLetter wsX7_isLetter ({ frames := 0, cells := 0, slots := 0, locals := 0 }) (va_Pc [.int (zI (v))] (fun _ => True)) (vp_Si (fun r : Int32 => r = zI (bz (97 ≤ v ∧ v ≤ 122)))) 0 0 (fun _ => False) := by
  refine Met.ofW (cc := cX7_isLetter) (maxL := 1) (ret := (some .boolean)) (by decide) rfl ?_
  intro p e s m args below meth c s₁ B hml hv
  obtain ⟨rfl, -⟩ := hv
  have hx := B.exec
  have hb := B.bytes
  have hr := B.returns
  have hts := atoms_spec (ws := wsX7_isLetter) B.pre
  have hown : s.vm.findClass RX7 = some m.cls := findClass_of_methodNamed B.named
  have hlocks := B.notSynchronized
  have hl := lv_entry ([.int (zI (v))]) (n := 1) (Nat.le_of_ble_eq_true rfl)
  rw [lg_entry_eq]
  generalize (lg_sl ([.int (zI (v))]) ++ List.replicate (1 - (lg_sl ([.int (zI (v))])).length) Slot.unset).toArray = ls at hl ⊢
  have hl : lv_has ls 1 [(0, .int (zI (v)))] := hl
  refine lv_iload_n hx hb dX7_isLetter_0 rfl (lv_at hl 0 rfl) ?_
  refine lv_bipush (v := zI (97)) hx hb dX7_isLetter_1 (by decide) ?_
  refine z_icmp_lt (tgt := 16) hx hb dX7_isLetter_3 (by decide) (by omega) (by omega) (fun h3 => ?_) (fun h3 => ?_)
  · refine lv_iconst (v := zI (0)) hx hb dX7_isLetter_16 (by decide) ?_
    exact W.zret hx hb hr (by decide) (fun tX htX hWX => ⟨_, rfl, bz_0 (by omega), htX⟩) (fun _ h9 => by cases h9) dX7_isLetter_17
  · refine lv_iload_n hx hb dX7_isLetter_6 rfl (lv_at hl 0 rfl) ?_
    refine lv_bipush (v := zI (122)) hx hb dX7_isLetter_7 (by decide) ?_
    refine z_icmp_gt (tgt := 16) hx hb dX7_isLetter_9 (by decide) (by omega) (by omega) (fun h9 => ?_) (fun h9 => ?_)
    · refine lv_iconst (v := zI (0)) hx hb dX7_isLetter_16 (by decide) ?_
      exact W.zret hx hb hr (by decide) (fun tX htX hWX => ⟨_, rfl, bz_0 (by omega), htX⟩) (fun _ h9 => by cases h9) dX7_isLetter_17
    · refine lv_iconst (v := zI (1)) hx hb dX7_isLetter_12 (by decide) ?_
      refine lv_goto (tgt := 17) hx hb dX7_isLetter_13 (by decide) ?_
      exact W.zret hx hb hr (by decide) (fun tX htX hWX => ⟨_, rfl, bz_1 (by omega), htX⟩) (fun _ h9 => by cases h9) dX7_isLetter_17

set_option maxHeartbeats 4000000 in
set_option maxRecDepth 100000 in
theorem c_X7_isDigit (l : Launch) (v : Int) (hv : R32 v) : Met l yX7_isDigit wsX7_isDigit ({ frames := 0, cells := 0, slots := 0, locals := 0 }) (va_Pc [.int (zI (v))] (fun _ => True)) (vp_Si (fun r : Int32 => r = zI (bz (48 ≤ v ∧ v ≤ 57)))) 0 0 (fun _ => False) := by
  refine Met.ofW (cc := cX7_isDigit) (maxL := 1) (ret := (some .boolean)) (by decide) rfl ?_
  intro p e s m args below meth c s₁ B hml hv
  obtain ⟨rfl, -⟩ := hv
  have hx := B.exec
  have hb := B.bytes
  have hr := B.returns
  have hts := atoms_spec (ws := wsX7_isDigit) B.pre
  have hown : s.vm.findClass RX7 = some m.cls := findClass_of_methodNamed B.named
  have hlocks := B.notSynchronized
  have hl := lv_entry ([.int (zI (v))]) (n := 1) (Nat.le_of_ble_eq_true rfl)
  rw [lg_entry_eq]
  generalize (lg_sl ([.int (zI (v))]) ++ List.replicate (1 - (lg_sl ([.int (zI (v))])).length) Slot.unset).toArray = ls at hl ⊢
  have hl : lv_has ls 1 [(0, .int (zI (v)))] := hl
  refine lv_iload_n hx hb dX7_isDigit_0 rfl (lv_at hl 0 rfl) ?_
  refine lv_bipush (v := zI (48)) hx hb dX7_isDigit_1 (by decide) ?_
  refine z_icmp_lt (tgt := 16) hx hb dX7_isDigit_3 (by decide) (by omega) (by omega) (fun h3 => ?_) (fun h3 => ?_)
  · refine lv_iconst (v := zI (0)) hx hb dX7_isDigit_16 (by decide) ?_
    exact W.zret hx hb hr (by decide) (fun tX htX hWX => ⟨_, rfl, bz_0 (by omega), htX⟩) (fun _ h9 => by cases h9) dX7_isDigit_17
  · refine lv_iload_n hx hb dX7_isDigit_6 rfl (lv_at hl 0 rfl) ?_
    refine lv_bipush (v := zI (57)) hx hb dX7_isDigit_7 (by decide) ?_
    refine z_icmp_gt (tgt := 16) hx hb dX7_isDigit_9 (by decide) (by omega) (by omega) (fun h9 => ?_) (fun h9 => ?_)
    · refine lv_iconst (v := zI (0)) hx hb dX7_isDigit_16 (by decide) ?_
      exact W.zret hx hb hr (by decide) (fun tX htX hWX => ⟨_, rfl, bz_0 (by omega), htX⟩) (fun _ h9 => by cases h9) dX7_isDigit_17
    · refine lv_iconst (v := zI (1)) hx hb dX7_isDigit_12 (by decide) ?_
      refine lv_goto (tgt := 17) hx hb dX7_isDigit_13 (by decide) ?_
      exact W.zret hx hb hr (by decide) (fun tX htX hWX => ⟨_, rfl, bz_1 (by omega), htX⟩) (fun _ h9 => by cases h9) dX7_isDigit_17

set_option maxHeartbeats 4000000 in
set_option maxRecDepth 100000 in
theorem c_X7_restart (l : Launch) (g : GG) (ad : Nat → Nat) (hd9 : hD ad) (P : Nat → Nat) (M : Nat → Nat → Int32)  : Met l yX7_restart wsX7_restart ({ frames := 0, cells := 0, slots := 0, locals := 0 }) (gPc g [.ref ((ad 4))] (cw g ad P M)) (va_Qv (fun (u : Unit) => True) (fun (u : Unit) (tS : State) => cw g ad P (va_up M (4) (upd (M 4) 0 (zI (0)))) tS.heap) (hbA ad)) 0 0 (hbA ad) := by
  refine Met.ofW (cc := cX7_restart) (maxL := 1) (ret := none) (by decide) rfl ?_
  intro p e s m args below meth c s₁ B hml hv
  obtain ⟨rfl, hW, hK⟩ := hv
  have hx := B.exec
  have hb := B.bytes
  have hr := B.returns
  have hts := atoms_spec (ws := wsX7_restart) B.pre
  have hown : s.vm.findClass RX7 = some m.cls := findClass_of_methodNamed B.named
  have hlocks := B.notSynchronized
  have hinX7 : ∀ w ∈ wsX70, w ∈ wsX7_restart := by decide +kernel
  have k13 := hts (.fieldLink RX7 13 "HoursBank$Tokens" "next" "I") (by decide +kernel)
  have hl := lv_entry ([.ref ((ad 4))]) (n := 1) (Nat.le_of_ble_eq_true rfl)
  rw [lg_entry_eq]
  generalize (lg_sl ([.ref ((ad 4))]) ++ List.replicate (1 - (lg_sl ([.ref ((ad 4))])).length) Slot.unset).toArray = ls at hl ⊢
  have hl : lv_has ls 1 [(0, .ref ((ad 4)))] := hl
  have hS : va_S (hbA ad) s.heap s.heap [] := va_S.rf
  obtain ⟨H, hH9⟩ : ∃ H, H = s.heap := ⟨_, rfl⟩
  obtain ⟨locs, hL9⟩ : ∃ x9l : List Loc, x9l = [] := ⟨_, rfl⟩
  have hW : cw g ad P M H := hH9 ▸ hW
  have hS : va_S (hbA ad) s.heap H locs := by rw [hH9, hL9]; exact hS
  refine z_start hH9 hL9 ?_
  clear hH9 hL9
  have hex : ∀ j : Nat, M j = M j := fun _ => rfl
  refine lv_aload_n hx hb dX7_restart_0 rfl (lv_at hl 0 rfl) ?_
  refine lv_iconst (v := zI (0)) hx hb dX7_restart_1 (by decide) ?_
  have r_4 : M (4) = M 4 := hex (4) 
  refine y_put (ci := 7) (v := .int (zI (0))) (ty := .int) (C := RX7) (T := TX7) (N := 5) hx hb hts hinX7 tyX7 tyX7_ok nmX7 hown hK hW hd9 hS (4) (show 4 < 126 by omega) (lcE r_4 sh_4) rfl 1 (by decide) k13 (fun _ h9 => h9) rfl (by decide +kernel) rfl rfl (Nat.le_of_ble_eq_true rfl) dX7_restart_2 (fun H locs hW hS => ?_)
  have hW := cw_up (P := P) (M := M) (f := upd (M 4) 0 (zI (0))) ((sh_4).trans rfl) hW
  obtain ⟨M1, hM1⟩ : ∃ x9c : Nat → Nat → Int32, x9c = va_up M (4) (upd (M 4) 0 (zI (0))) := ⟨_, rfl⟩
  have hW : cw g ad P M1 H := by rw [hM1]; exact hW
  have hex : ∀ j : Nat, ¬ j = 4 → M1 j = M j := fun j q0 => ((congrFun hM1 j).trans (up_ne _ _ q0)).trans (hex j )
  have r_4 : M1 (4) = upd (M 4) 0 (zI (0)) := ((congrFun hM1 _).trans (up_at _ _ _))
  have hW : cw g ad P (va_up M (4) (upd (M 4) 0 (zI (0)))) H := by
    have e9 : M1 = va_up M (4) (upd (M 4) 0 (zI (0))) := by
      funext i9
      by_cases q0 : i9 = 4
      · rw [q0]; exact (r_4).trans (up_at _ _ _).symm
      exact (hex i9 q0).trans (up_ne _ _ q0).symm
    rw [← e9]; exact hW
  exact W.vret hx hb hr (fun tX htX hWX => ⟨⟨(), rfl, trivial, g_at htX hW⟩, hS.F htX⟩) hS.2.2 dX7_restart_5

set_option maxHeartbeats 4000000 in
set_option maxRecDepth 100000 in
theorem c_X7_isTextTooLong (l : Launch) (g : GG) (ad : Nat → Nat) (hd9 : hD ad) (P : Nat → Nat) (M : Nat → Nat → Int32) (n : Nat) (hn : n ≤ 740) (hz : M 1 0 = zI n) : Met l yX7_isTextTooLong wsX7_isTextTooLong ({ frames := 0, cells := 0, slots := 0, locals := 0 }) (gPc g [.ref ((ad 4))] (cw g ad P M)) (va_Qi (fun (r : Int32) (u : Unit) => r = zI (bz (700 < n))) (fun (u : Unit) (tS : State) => cw g ad P M tS.heap) (hbA ad)) 0 0 (hbA ad) := by
  refine Met.ofW (cc := cX7_isTextTooLong) (maxL := 1) (ret := (some .boolean)) (by decide) rfl ?_
  intro p e s m args below meth c s₁ B hml hv
  obtain ⟨rfl, hW, hK⟩ := hv
  have hx := B.exec
  have hb := B.bytes
  have hr := B.returns
  have hts := atoms_spec (ws := wsX7_isTextTooLong) B.pre
  have hown : s.vm.findClass RX7 = some m.cls := findClass_of_methodNamed B.named
  have hlocks := B.notSynchronized
  have hinX5 : ∀ w ∈ wsX50, w ∈ wsX7_isTextTooLong := by decide +kernel
  have hinX7 : ∀ w ∈ wsX70, w ∈ wsX7_isTextTooLong := by decide +kernel
  have k7 := hts (.fieldLink RX7 7 "HoursBank$Tokens" "tape" "LHoursBank$Tape;") (by decide +kernel)
  have k17 := hts (.fieldLink RX7 17 "HoursBank$Tape" "size" "I") (by decide +kernel)
  have hl := lv_entry ([.ref ((ad 4))]) (n := 1) (Nat.le_of_ble_eq_true rfl)
  rw [lg_entry_eq]
  generalize (lg_sl ([.ref ((ad 4))]) ++ List.replicate (1 - (lg_sl ([.ref ((ad 4))])).length) Slot.unset).toArray = ls at hl ⊢
  have hl : lv_has ls 1 [(0, .ref ((ad 4)))] := hl
  have hS : va_S (hbA ad) s.heap s.heap [] := va_S.rf
  obtain ⟨H, hH9⟩ : ∃ H, H = s.heap := ⟨_, rfl⟩
  obtain ⟨locs, hL9⟩ : ∃ x9l : List Loc, x9l = [] := ⟨_, rfl⟩
  have hW : cw g ad P M H := hH9 ▸ hW
  have hS : va_S (hbA ad) s.heap H locs := by rw [hH9, hL9]; exact hS
  refine z_start hH9 hL9 ?_
  clear hH9 hL9
  have hex : ∀ j : Nat, M j = M j := fun _ => rfl
  refine lv_aload_n hx hb dX7_isTextTooLong_0 rfl (lv_at hl 0 rfl) ?_
  have r_4 : M (4) = M 4 := hex (4) 
  refine va_get (D := g.1) (ci := 7) (v := .ref ((ad 1))) (C := RX7) (T := TX7) (N := 5) hx hb hts hinX7 hown hK (hb1 hW (show 4 < 126 by omega) (lcE r_4 sh_4)) 0 rfl rfl 0 (by decide) k7 (fun _ h9 => h9) rfl dX7_isTextTooLong_1 ?_
  have r_1 : M (1) = M 1 := hex (1) 
  refine va_get (D := g.1) (ci := 5) (v := .int ((M 1) 0)) (C := RX5) (T := TX5) (N := 2) hx hb hts hinX5 hown hK (hb1 hW (show 1 < 126 by omega) (lcE r_1 sh_1)) 0 rfl rfl 1 (by decide) k17 (fun _ h9 => h9) rfl dX7_isTextTooLong_4 ?_
  refine z_top (y := zI (n)) (hz) ?_
  refine lv_sipush (v := zI (700)) hx hb dX7_isTextTooLong_7 (by decide) ?_
  refine z_icmp_le (tgt := 17) hx hb dX7_isTextTooLong_10 (by decide) (by omega) (by omega) (fun h10 => ?_) (fun h10 => ?_)
  · refine lv_iconst (v := zI (0)) hx hb dX7_isTextTooLong_17 (by decide) ?_
    have hW : cw g ad P M H := hW
    exact W.zret hx hb hr (by decide) (fun tX htX hWX => ⟨⟨_, (), rfl, bz_0 (by omega), g_at htX hW⟩, hS.F htX⟩) hS.2.2 dX7_isTextTooLong_18
  · refine lv_iconst (v := zI (1)) hx hb dX7_isTextTooLong_13 (by decide) ?_
    refine lv_goto (tgt := 18) hx hb dX7_isTextTooLong_14 (by decide) ?_
    have hW : cw g ad P M H := hW
    exact W.zret hx hb hr (by decide) (fun tX htX hWX => ⟨⟨_, (), rfl, bz_1 (by omega), g_at htX hW⟩, hS.F htX⟩) hS.2.2 dX7_isTextTooLong_18

set_option maxHeartbeats 4000000 in
set_option maxRecDepth 100000 in
theorem c_X6_fail (l : Launch) (g : GG) (ad : Nat → Nat) (hd9 : hD ad) (P : Nat → Nat) (M : Nat → Nat → Int32) (k : Nat) : Met l yX6_fail wsX6_fail ({ frames := 0, cells := 0, slots := 0, locals := 0 }) (gPc g [.ref ((ad 3)), .int (zI (k))] (cw g ad P M)) (va_Qv (fun (u : Unit) => True) (fun (u : Unit) (tS : State) => cw g ad P (va_up M (3) (upd (upd (M 3) 0 (zI (k))) 1 (M 4 2))) tS.heap) (hbA ad)) 0 0 (hbA ad) := by
  refine Met.ofW (cc := cX6_fail) (maxL := 2) (ret := none) (by decide) rfl ?_
  intro p e s m args below meth c s₁ B hml hv
  obtain ⟨rfl, hW, hK⟩ := hv
  have hx := B.exec
  have hb := B.bytes
  have hr := B.returns
  have hts := atoms_spec (ws := wsX6_fail) B.pre
  have hown : s.vm.findClass RX6 = some m.cls := findClass_of_methodNamed B.named
  have hlocks := B.notSynchronized
  have hinX6 : ∀ w ∈ wsX60, w ∈ wsX6_fail := by decide +kernel
  have hinX7 : ∀ w ∈ wsX70, w ∈ wsX6_fail := by decide +kernel
  have k32 := hts (.fieldLink RX6 32 "HoursBank$TextReader" "faultKind" "I") (by decide +kernel)
  have k20 := hts (.fieldLink RX6 20 "HoursBank$TextReader" "tokens" "LHoursBank$Tokens;") (by decide +kernel)
  have k96 := hts (.fieldLink RX6 96 "HoursBank$Tokens" "place" "I") (by decide +kernel)
  have k51 := hts (.fieldLink RX6 51 "HoursBank$TextReader" "faultPlace" "I") (by decide +kernel)
  have hl := lv_entry ([.ref ((ad 3)), .int (zI (k))]) (n := 2) (Nat.le_of_ble_eq_true rfl)
  rw [lg_entry_eq]
  generalize (lg_sl ([.ref ((ad 3)), .int (zI (k))]) ++ List.replicate (2 - (lg_sl ([.ref ((ad 3)), .int (zI (k))])).length) Slot.unset).toArray = ls at hl ⊢
  have hl : lv_has ls 2 [(0, .ref ((ad 3))), (1, .int (zI (k)))] := hl
  have hS : va_S (hbA ad) s.heap s.heap [] := va_S.rf
  obtain ⟨H, hH9⟩ : ∃ H, H = s.heap := ⟨_, rfl⟩
  obtain ⟨locs, hL9⟩ : ∃ x9l : List Loc, x9l = [] := ⟨_, rfl⟩
  have hW : cw g ad P M H := hH9 ▸ hW
  have hS : va_S (hbA ad) s.heap H locs := by rw [hH9, hL9]; exact hS
  refine z_start hH9 hL9 ?_
  clear hH9 hL9
  have hex : ∀ j : Nat, M j = M j := fun _ => rfl
  refine lv_aload_n hx hb dX6_fail_0 rfl (lv_at hl 0 rfl) ?_
  refine lv_iload_n hx hb dX6_fail_1 rfl (lv_at hl 1 rfl) ?_
  have r_3 : M (3) = M 3 := hex (3) 
  refine y_put (ci := 6) (v := .int (zI (k))) (ty := .int) (C := RX6) (T := TX6) (N := 4) hx hb hts hinX6 tyX6 tyX6_ok nmX6 hown hK hW hd9 hS (3) (show 3 < 126 by omega) (lcE r_3 sh_3) rfl 2 (by decide) k32 (fun _ h9 => h9) rfl (by decide +kernel) rfl rfl (Nat.le_of_ble_eq_true rfl) dX6_fail_2 (fun H locs hW hS => ?_)
  have hW := cw_up (P := P) (M := M) (f := upd (M 3) 0 (zI (k))) ((sh_3).trans rfl) hW
  obtain ⟨M1, hM1⟩ : ∃ x9c : Nat → Nat → Int32, x9c = va_up M (3) (upd (M 3) 0 (zI (k))) := ⟨_, rfl⟩
  have hW : cw g ad P M1 H := by rw [hM1]; exact hW
  have hex : ∀ j : Nat, ¬ j = 3 → M1 j = M j := fun j q0 => ((congrFun hM1 j).trans (up_ne _ _ q0)).trans (hex j )
  have r_3 : M1 (3) = upd (M 3) 0 (zI (k)) := ((congrFun hM1 _).trans (up_at _ _ _))
  refine lv_aload_n hx hb dX6_fail_5 rfl (lv_at hl 0 rfl) ?_
  refine lv_aload_n hx hb dX6_fail_6 rfl (lv_at hl 0 rfl) ?_
  refine va_get (D := g.1) (ci := 6) (v := .ref ((ad 4))) (C := RX6) (T := TX6) (N := 4) hx hb hts hinX6 hown hK (hb1 hW (show 3 < 126 by omega) (lcE r_3 sh_3)) 0 rfl rfl 1 (by decide) k20 (fun _ h9 => h9) rfl dX6_fail_7 ?_
  have r_4 : M1 (4) = M 4 := hex (4) (by omega)
  refine va_get (D := g.1) (ci := 7) (v := .int ((M 4) 2)) (C := RX7) (T := TX7) (N := 5) hx hb hts hinX7 hown hK (hb1 hW (show 4 < 126 by omega) (lcE r_4 sh_4)) 0 rfl rfl 3 (by decide) k96 (fun _ h9 => h9) rfl dX6_fail_10 ?_
  refine y_put (ci := 6) (v := .int ((M 4) 2)) (ty := .int) (C := RX6) (T := TX6) (N := 4) hx hb hts hinX6 tyX6 tyX6_ok nmX6 hown hK hW hd9 hS (3) (show 3 < 126 by omega) (lcE r_3 sh_3) rfl 3 (by decide) k51 (fun _ h9 => h9) rfl (by decide +kernel) rfl rfl (Nat.le_of_ble_eq_true rfl) dX6_fail_13 (fun H locs hW hS => ?_)
  have hW := cw_up (P := P) (M := M1) (f := upd (upd (M 3) 0 (zI (k))) 1 ((M 4) 2)) ((sh_3).trans rfl) hW
  obtain ⟨M2, hM2⟩ : ∃ x9c : Nat → Nat → Int32, x9c = va_up M1 (3) (upd (upd (M 3) 0 (zI (k))) 1 ((M 4) 2)) := ⟨_, rfl⟩
  have hW : cw g ad P M2 H := by rw [hM2]; exact hW
  have hex : ∀ j : Nat, ¬ j = 3 → M2 j = M j := fun j q0 => ((congrFun hM2 j).trans (up_ne _ _ q0)).trans (hex j q0)
  have r_4 : M2 (4) = M 4 := ((congrFun hM2 (4)).trans (up_ne _ _ (by omega))).trans r_4
  have r_3 : M2 (3) = upd (upd (M 3) 0 (zI (k))) 1 ((M 4) 2) := ((congrFun hM2 _).trans (up_at _ _ _))
  have hW : cw g ad P (va_up M (3) (upd (upd (M 3) 0 (zI (k))) 1 (M 4 2))) H := by
    have e9 : M2 = va_up M (3) (upd (upd (M 3) 0 (zI (k))) 1 (M 4 2)) := by
      funext i9
      by_cases q0 : i9 = 3
      · rw [q0]; exact (r_3).trans (up_at _ _ _).symm
      exact (hex i9 q0).trans (up_ne _ _ q0).symm
    rw [← e9]; exact hW
  exact W.vret hx hb hr (fun tX htX hWX => ⟨⟨(), rfl, trivial, g_at htX hW⟩, hS.F htX⟩) hS.2.2 dX6_fail_16

set_option maxHeartbeats 4000000 in
set_option maxRecDepth 100000 in
theorem c_X7_readRun (l : Launch) (g : GG) (ad : Nat → Nat) (hd9 : hD ad) (P : Nat → Nat) (M : Nat → Nat → Int32) (β : Nat → Nat) (n : Nat) (hn : n ≤ 740) (hz : M 1 0 = zI n) (hβ : ∀ i, i < 740 → M 2 i = zI (sbI (β i)) ∧ β i < 256) (q : Nat) (hq : q < n) (hq4 : M 4 0 = zI q) : Met l yX7_readRun wsX7_readRun ({ frames := 1, cells := 0, slots := 0, locals := 20 }) (gPc g [.ref ((ad 4))] (cw g ad P M)) (va_Qv (fun (u : Unit) => True) (fun (u : Unit) (tS : State) => cw g ad P (va_up M (4) (runR (M 4) β n q)) tS.heap) (hbA ad)) 0 0 (hbA ad) := by
  refine Met.ofW (cc := cX7_readRun) (maxL := 4) (ret := none) (by decide) rfl ?_
  intro p e s m args below meth c s₁ B hml hv
  obtain ⟨rfl, hW, hK⟩ := hv
  have hx := B.exec
  have hb := B.bytes
  have hr := B.returns
  have hts := atoms_spec (ws := wsX7_readRun) B.pre
  have hown : s.vm.findClass RX7 = some m.cls := findClass_of_methodNamed B.named
  have hlocks := B.notSynchronized
  have hinX5 : ∀ w ∈ wsX50, w ∈ wsX7_readRun := by decide +kernel
  have hinX7 : ∀ w ∈ wsX70, w ∈ wsX7_readRun := by decide +kernel
  have k51 := hts (.fieldLink RX7 51 "HoursBank$Tokens" "number" "I") (by decide +kernel)
  have k13 := hts (.fieldLink RX7 13 "HoursBank$Tokens" "next" "I") (by decide +kernel)
  have k7 := hts (.fieldLink RX7 7 "HoursBank$Tokens" "tape" "LHoursBank$Tape;") (by decide +kernel)
  have k17 := hts (.fieldLink RX7 17 "HoursBank$Tape" "size" "I") (by decide +kernel)
  have k39 := hts (.fieldLink RX7 39 "HoursBank$Tokens" "kind" "I") (by decide +kernel)
  have k28 := hts (.fieldLink RX7 28 "HoursBank$Tape" "bytes" "[B") (by decide +kernel)
  have hl := lv_entry ([.ref ((ad 4))]) (n := 4) (Nat.le_of_ble_eq_true rfl)
  rw [lg_entry_eq]
  generalize (lg_sl ([.ref ((ad 4))]) ++ List.replicate (4 - (lg_sl ([.ref ((ad 4))])).length) Slot.unset).toArray = ls at hl ⊢
  have hl : lv_has ls 4 [(0, .ref ((ad 4)))] := hl
  have hS : va_S (hbA ad) s.heap s.heap [] := va_S.rf
  obtain ⟨H, hH9⟩ : ∃ H, H = s.heap := ⟨_, rfl⟩
  obtain ⟨locs, hL9⟩ : ∃ x9l : List Loc, x9l = [] := ⟨_, rfl⟩
  have hW : cw g ad P M H := hH9 ▸ hW
  have hS : va_S (hbA ad) s.heap H locs := by rw [hH9, hL9]; exact hS
  refine z_start hH9 hL9 ?_
  clear hH9 hL9
  have hex : ∀ j : Nat, M j = M j := fun _ => rfl
  refine lv_iconst (v := zI (0)) hx hb dX7_readRun_0 (by decide) ?_
  refine lv_istore_n (lv' := [(1, .int (zI (0))), (0, .ref ((ad 4)))]) hx hb dX7_readRun_1 rfl hl (by decide) rfl (fun ls hl => ?_)
  refine lv_iconst (v := zI (0)) hx hb dX7_readRun_2 (by decide) ?_
  refine lv_istore_n (lv' := [(2, .int (zI (0))), (1, .int (zI (0))), (0, .ref ((ad 4)))]) hx hb dX7_readRun_3 rfl hl (by decide) rfl (fun ls hl => ?_)
  refine lv_aload_n hx hb dX7_readRun_4 rfl (lv_at hl 2 rfl) ?_
  refine lv_iconst (v := zI (0)) hx hb dX7_readRun_5 (by decide) ?_
  have r_4 : M (4) = M 4 := hex (4) 
  refine y_put (ci := 7) (v := .int (zI (0))) (ty := .int) (C := RX7) (T := TX7) (N := 5) hx hb hts hinX7 tyX7 tyX7_ok nmX7 hown hK hW hd9 hS (4) (show 4 < 126 by omega) (lcE r_4 sh_4) rfl 4 (by decide) k51 (fun _ h9 => h9) rfl (by decide +kernel) rfl rfl (Nat.le_of_ble_eq_true rfl) dX7_readRun_6 (fun H locs hW hS => ?_)
  have hW := cw_up (P := P) (M := M) (f := upd (M 4) 3 (zI (0))) ((sh_4).trans rfl) hW
  obtain ⟨M1, hM1⟩ : ∃ x9c : Nat → Nat → Int32, x9c = va_up M (4) (upd (M 4) 3 (zI (0))) := ⟨_, rfl⟩
  have hW : cw g ad P M1 H := by rw [hM1]; exact hW
  have hex : ∀ j : Nat, ¬ j = 4 → M1 j = M j := fun j q0 => ((congrFun hM1 j).trans (up_ne _ _ q0)).trans (hex j )
  have r_4 : M1 (4) = upd (M 4) 3 (zI (0)) := ((congrFun hM1 _).trans (up_at _ _ _))
  have r_1 : M1 (1) = M 1 := hex (1) (by omega)
  have r_2 : M1 (2) = M 2 := hex (2) (by omega)
  have loop9 : ∀ (K9 : Nat) (ee : Nat) (hK9 : n - ee < K9) (he : q ≤ ee ∧ ee ≤ n) (hr9 : rendT β n q = rendT β n ee) (H : Heap) (locs : List Loc) (M2 : Nat → Nat → Int32) (r_4 : M2 (4) = upd (upd (M 4) 3 (nuC β q (ee - q))) 0 (zI (ee))) (r_1 : M2 (1) = M 1) (r_2 : M2 (2) = M 2) (hex : ∀ j : Nat, ¬ j = 4 → M2 j = M j) (hW : cw g ad P M2 H) (hS : va_S (hbA ad) s.heap H locs) (ls : Array Slot) (hl : lv_has ls 4 [(2, .int (zI (dgC β q (ee - q)))), (1, .int (zI (ltC β q (ee - q)))), (0, .ref ((ad 4)))]), W p l e (headSpec wsX7_readRun ({ frames := 1, cells := 0, slots := 0, locals := 20 })).room s m ([.ref ((ad 4))] : List Value).toArray below meth c H locs 0 0 (MQ below (va_Qv (fun (u : Unit) => True) (fun (u : Unit) (tS : State) => cw g ad P (va_up M (4) (runR (M 4) β n q)) tS.heap) (hbA ad)) ([.ref ((ad 4))] : List Value).toArray s 0 0 (hbA ad)) (F0 m 9 ls []) := by
    intro K9
    induction K9 with
    | zero => intro ee hK9; exact absurd hK9 (Nat.not_lt_zero _)
    | succ K9 ih =>
      intro ee hK9 he hr9 H locs M2 r_4 r_1 r_2 hex hW hS ls hl
      have hdl := dg_lt β q (ee - q)
      refine lv_aload_n hx hb dX7_readRun_9 rfl (lv_at hl 2 rfl) ?_
      refine va_get (D := g.1) (ci := 7) (v := .int ((upd (upd (M 4) 3 (nuC β q (ee - q))) 0 (zI (ee))) 0)) (C := RX7) (T := TX7) (N := 5) hx hb hts hinX7 hown hK (hb1 hW (show 4 < 126 by omega) (lcE r_4 sh_4)) 0 rfl rfl 1 (by decide) k13 (fun _ h9 => h9) rfl dX7_readRun_10 ?_
      refine z_top (y := zI (ee)) (upd_at _ _ _) ?_
      refine lv_aload_n hx hb dX7_readRun_13 rfl (lv_at hl 2 rfl) ?_
      refine va_get (D := g.1) (ci := 7) (v := .ref ((ad 1))) (C := RX7) (T := TX7) (N := 5) hx hb hts hinX7 hown hK (hb1 hW (show 4 < 126 by omega) (lcE r_4 sh_4)) 0 rfl rfl 0 (by decide) k7 (fun _ h9 => h9) rfl dX7_readRun_14 ?_
      refine va_get (D := g.1) (ci := 5) (v := .int ((M 1) 0)) (C := RX5) (T := TX5) (N := 2) hx hb hts hinX5 hown hK (hb1 hW (show 1 < 126 by omega) (lcE r_1 sh_1)) 0 rfl rfl 1 (by decide) k17 (fun _ h9 => h9) rfl dX7_readRun_17 ?_
      refine z_top (y := zI (n)) (hz) ?_
      refine z_icmp_ge (tgt := 88) hx hb dX7_readRun_20 (by decide) (by omega) (by omega) (fun h20 => ?_) (fun h20 => ?_)
      · have hE9 : rendT β n q = ee := hr9.trans (rend_x (fun z => by omega))
        refine lv_iload_n hx hb dX7_readRun_88 rfl (lv_at hl 0 rfl) ?_
        refine z_if_ne (tgt := 100) hx hb dX7_readRun_89 (by decide) (by omega) (fun h89 => ?_) (fun h89 => ?_)
        · refine lv_aload_n hx hb dX7_readRun_100 rfl (lv_at hl 2 rfl) ?_
          refine lv_iload_n hx hb dX7_readRun_101 rfl (lv_at hl 1 rfl) ?_
          refine z_if_ne (tgt := 114) hx hb dX7_readRun_102 (by decide) (by omega) (fun h102 => ?_) (fun h102 => ?_)
          · refine lv_iconst (v := zI (4)) hx hb dX7_readRun_114 (by decide) ?_
            refine y_put (ci := 7) (v := .int (zI (4))) (ty := .int) (C := RX7) (T := TX7) (N := 5) hx hb hts hinX7 tyX7 tyX7_ok nmX7 hown hK hW hd9 hS (4) (show 4 < 126 by omega) (lcE r_4 sh_4) rfl 2 (by decide) k39 (fun _ h9 => h9) rfl (by decide +kernel) rfl rfl (Nat.le_of_ble_eq_true rfl) dX7_readRun_115 (fun H locs hW hS => ?_)
            have hW := cw_up (P := P) (M := M2) (f := upd (upd (upd (M 4) 3 (nuC β q (ee - q))) 0 (zI (ee))) 1 (zI (4))) ((sh_4).trans rfl) hW
            obtain ⟨M3, hM3⟩ : ∃ x9c : Nat → Nat → Int32, x9c = va_up M2 (4) (upd (upd (upd (M 4) 3 (nuC β q (ee - q))) 0 (zI (ee))) 1 (zI (4))) := ⟨_, rfl⟩
            have hW : cw g ad P M3 H := by rw [hM3]; exact hW
            have hex : ∀ j : Nat, ¬ j = 4 → M3 j = M j := fun j q0 => ((congrFun hM3 j).trans (up_ne _ _ q0)).trans (hex j q0)
            have r_1 : M3 (1) = M 1 := ((congrFun hM3 (1)).trans (up_ne _ _ (by omega))).trans r_1
            have r_2 : M3 (2) = M 2 := ((congrFun hM3 (2)).trans (up_ne _ _ (by omega))).trans r_2
            have r_4 : M3 (4) = upd (upd (upd (M 4) 3 (nuC β q (ee - q))) 0 (zI (ee))) 1 (zI (4)) := ((congrFun hM3 _).trans (up_at _ _ _))
            have hW : cw g ad P (va_up M (4) (runR (M 4) β n q)) H := by
              have e9 : M3 = va_up M (4) (runR (M 4) β n q) := by
                funext i9
                by_cases q0 : i9 = 4
                · rw [q0]; exact (r_4.trans (by unfold runR; rw [hE9]; exact row4 rfl (congrArg zI (by unfold kRun; (repeat' split) <;> omega)) rfl rfl (fun k9 hk9 => by unfold upd; (repeat rw [if_neg (by omega)])))).trans (up_at _ _ _).symm
                exact (hex i9 q0).trans (up_ne _ _ q0).symm
              rw [← e9]; exact hW
            exact W.vret hx hb hr (fun tX htX hWX => ⟨⟨(), rfl, trivial, g_at htX hW⟩, hS.F htX⟩) hS.2.2 dX7_readRun_118
          · refine lv_iload_n hx hb dX7_readRun_105 rfl (lv_at hl 0 rfl) ?_
            refine lv_iconst (v := zI (4)) hx hb dX7_readRun_106 (by decide) ?_
            refine z_icmp_gt (tgt := 114) hx hb dX7_readRun_107 (by decide) (by omega) (by omega) (fun h107 => ?_) (fun h107 => ?_)
            · refine lv_iconst (v := zI (4)) hx hb dX7_readRun_114 (by decide) ?_
              refine y_put (ci := 7) (v := .int (zI (4))) (ty := .int) (C := RX7) (T := TX7) (N := 5) hx hb hts hinX7 tyX7 tyX7_ok nmX7 hown hK hW hd9 hS (4) (show 4 < 126 by omega) (lcE r_4 sh_4) rfl 2 (by decide) k39 (fun _ h9 => h9) rfl (by decide +kernel) rfl rfl (Nat.le_of_ble_eq_true rfl) dX7_readRun_115 (fun H locs hW hS => ?_)
              have hW := cw_up (P := P) (M := M2) (f := upd (upd (upd (M 4) 3 (nuC β q (ee - q))) 0 (zI (ee))) 1 (zI (4))) ((sh_4).trans rfl) hW
              obtain ⟨M4, hM4⟩ : ∃ x9c : Nat → Nat → Int32, x9c = va_up M2 (4) (upd (upd (upd (M 4) 3 (nuC β q (ee - q))) 0 (zI (ee))) 1 (zI (4))) := ⟨_, rfl⟩
              have hW : cw g ad P M4 H := by rw [hM4]; exact hW
              have hex : ∀ j : Nat, ¬ j = 4 → M4 j = M j := fun j q0 => ((congrFun hM4 j).trans (up_ne _ _ q0)).trans (hex j q0)
              have r_1 : M4 (1) = M 1 := ((congrFun hM4 (1)).trans (up_ne _ _ (by omega))).trans r_1
              have r_2 : M4 (2) = M 2 := ((congrFun hM4 (2)).trans (up_ne _ _ (by omega))).trans r_2
              have r_4 : M4 (4) = upd (upd (upd (M 4) 3 (nuC β q (ee - q))) 0 (zI (ee))) 1 (zI (4)) := ((congrFun hM4 _).trans (up_at _ _ _))
              have hW : cw g ad P (va_up M (4) (runR (M 4) β n q)) H := by
                have e9 : M4 = va_up M (4) (runR (M 4) β n q) := by
                  funext i9
                  by_cases q0 : i9 = 4
                  · rw [q0]; exact (r_4.trans (by unfold runR; rw [hE9]; exact row4 rfl (congrArg zI (by unfold kRun; (repeat' split) <;> omega)) rfl rfl (fun k9 hk9 => by unfold upd; (repeat rw [if_neg (by omega)])))).trans (up_at _ _ _).symm
                  exact (hex i9 q0).trans (up_ne _ _ q0).symm
                rw [← e9]; exact hW
              exact W.vret hx hb hr (fun tX htX hWX => ⟨⟨(), rfl, trivial, g_at htX hW⟩, hS.F htX⟩) hS.2.2 dX7_readRun_118
            · refine lv_iconst (v := zI (2)) hx hb dX7_readRun_110 (by decide) ?_
              refine lv_goto (tgt := 115) hx hb dX7_readRun_111 (by decide) ?_
              refine y_put (ci := 7) (v := .int (zI (2))) (ty := .int) (C := RX7) (T := TX7) (N := 5) hx hb hts hinX7 tyX7 tyX7_ok nmX7 hown hK hW hd9 hS (4) (show 4 < 126 by omega) (lcE r_4 sh_4) rfl 2 (by decide) k39 (fun _ h9 => h9) rfl (by decide +kernel) rfl rfl (Nat.le_of_ble_eq_true rfl) dX7_readRun_115 (fun H locs hW hS => ?_)
              have hW := cw_up (P := P) (M := M2) (f := upd (upd (upd (M 4) 3 (nuC β q (ee - q))) 0 (zI (ee))) 1 (zI (2))) ((sh_4).trans rfl) hW
              obtain ⟨M5, hM5⟩ : ∃ x9c : Nat → Nat → Int32, x9c = va_up M2 (4) (upd (upd (upd (M 4) 3 (nuC β q (ee - q))) 0 (zI (ee))) 1 (zI (2))) := ⟨_, rfl⟩
              have hW : cw g ad P M5 H := by rw [hM5]; exact hW
              have hex : ∀ j : Nat, ¬ j = 4 → M5 j = M j := fun j q0 => ((congrFun hM5 j).trans (up_ne _ _ q0)).trans (hex j q0)
              have r_1 : M5 (1) = M 1 := ((congrFun hM5 (1)).trans (up_ne _ _ (by omega))).trans r_1
              have r_2 : M5 (2) = M 2 := ((congrFun hM5 (2)).trans (up_ne _ _ (by omega))).trans r_2
              have r_4 : M5 (4) = upd (upd (upd (M 4) 3 (nuC β q (ee - q))) 0 (zI (ee))) 1 (zI (2)) := ((congrFun hM5 _).trans (up_at _ _ _))
              have hW : cw g ad P (va_up M (4) (runR (M 4) β n q)) H := by
                have e9 : M5 = va_up M (4) (runR (M 4) β n q) := by
                  funext i9
                  by_cases q0 : i9 = 4
                  · rw [q0]; exact (r_4.trans (by unfold runR; rw [hE9]; exact row4 rfl (congrArg zI (by unfold kRun; (repeat' split) <;> omega)) rfl rfl (fun k9 hk9 => by unfold upd; (repeat rw [if_neg (by omega)])))).trans (up_at _ _ _).symm
                  exact (hex i9 q0).trans (up_ne _ _ q0).symm
                rw [← e9]; exact hW
              exact W.vret hx hb hr (fun tX htX hWX => ⟨⟨(), rfl, trivial, g_at htX hW⟩, hS.F htX⟩) hS.2.2 dX7_readRun_118
        · refine lv_aload_n hx hb dX7_readRun_92 rfl (lv_at hl 2 rfl) ?_
          refine lv_iconst (v := zI (1)) hx hb dX7_readRun_93 (by decide) ?_
          refine y_put (ci := 7) (v := .int (zI (1))) (ty := .int) (C := RX7) (T := TX7) (N := 5) hx hb hts hinX7 tyX7 tyX7_ok nmX7 hown hK hW hd9 hS (4) (show 4 < 126 by omega) (lcE r_4 sh_4) rfl 2 (by decide) k39 (fun _ h9 => h9) rfl (by decide +kernel) rfl rfl (Nat.le_of_ble_eq_true rfl) dX7_readRun_94 (fun H locs hW hS => ?_)
          have hW := cw_up (P := P) (M := M2) (f := upd (upd (upd (M 4) 3 (nuC β q (ee - q))) 0 (zI (ee))) 1 (zI (1))) ((sh_4).trans rfl) hW
          obtain ⟨M6, hM6⟩ : ∃ x9c : Nat → Nat → Int32, x9c = va_up M2 (4) (upd (upd (upd (M 4) 3 (nuC β q (ee - q))) 0 (zI (ee))) 1 (zI (1))) := ⟨_, rfl⟩
          have hW : cw g ad P M6 H := by rw [hM6]; exact hW
          have hex : ∀ j : Nat, ¬ j = 4 → M6 j = M j := fun j q0 => ((congrFun hM6 j).trans (up_ne _ _ q0)).trans (hex j q0)
          have r_1 : M6 (1) = M 1 := ((congrFun hM6 (1)).trans (up_ne _ _ (by omega))).trans r_1
          have r_2 : M6 (2) = M 2 := ((congrFun hM6 (2)).trans (up_ne _ _ (by omega))).trans r_2
          have r_4 : M6 (4) = upd (upd (upd (M 4) 3 (nuC β q (ee - q))) 0 (zI (ee))) 1 (zI (1)) := ((congrFun hM6 _).trans (up_at _ _ _))
          refine lv_goto (tgt := 118) hx hb dX7_readRun_97 (by decide) ?_
          have hW : cw g ad P (va_up M (4) (runR (M 4) β n q)) H := by
            have e9 : M6 = va_up M (4) (runR (M 4) β n q) := by
              funext i9
              by_cases q0 : i9 = 4
              · rw [q0]; exact (r_4.trans (by unfold runR; rw [hE9]; exact row4 rfl (congrArg zI (by unfold kRun; (repeat' split) <;> omega)) rfl rfl (fun k9 hk9 => by unfold upd; (repeat rw [if_neg (by omega)])))).trans (up_at _ _ _).symm
              exact (hex i9 q0).trans (up_ne _ _ q0).symm
            rw [← e9]; exact hW
          exact W.vret hx hb hr (fun tX htX hWX => ⟨⟨(), rfl, trivial, g_at htX hW⟩, hS.F htX⟩) hS.2.2 dX7_readRun_118
      · have hsb := sb_cases (hβ ee (by omega)).2
        refine lv_aload_n hx hb dX7_readRun_23 rfl (lv_at hl 2 rfl) ?_
        refine va_get (D := g.1) (ci := 7) (v := .ref ((ad 1))) (C := RX7) (T := TX7) (N := 5) hx hb hts hinX7 hown hK (hb1 hW (show 4 < 126 by omega) (lcE r_4 sh_4)) 0 rfl rfl 0 (by decide) k7 (fun _ h9 => h9) rfl dX7_readRun_24 ?_
        refine va_get (D := g.1) (ci := 5) (v := .ref ((ad 2))) (C := RX5) (T := TX5) (N := 2) hx hb hts hinX5 hown hK (hb1 hW (show 1 < 126 by omega) (lcE r_1 sh_1)) 0 rfl rfl 0 (by decide) k28 (fun _ h9 => h9) rfl dX7_readRun_27 ?_
        refine lv_aload_n hx hb dX7_readRun_30 rfl (lv_at hl 2 rfl) ?_
        refine va_get (D := g.1) (ci := 7) (v := .int ((upd (upd (M 4) 3 (nuC β q (ee - q))) 0 (zI (ee))) 0)) (C := RX7) (T := TX7) (N := 5) hx hb hts hinX7 hown hK (hb1 hW (show 4 < 126 by omega) (lcE r_4 sh_4)) 0 rfl rfl 1 (by decide) k13 (fun _ h9 => h9) rfl dX7_readRun_31 ?_
        refine z_top (y := zI (ee)) (upd_at _ _ _) ?_
        refine z_bald hx hb hK (hb1 hW (show 2 < 126 by omega) (lcE r_2 sh_2)) 0 1 rfl rfl (by decide) (ee) (by omega) (by omega) dX7_readRun_34 ?_
        refine z_top (y := zI (sbI (β ee))) ((hβ ee (by omega)).1) ?_
        refine lv_istore_n (lv' := [(3, .int (zI (sbI (β ee)))), (2, .int (zI (dgC β q (ee - q)))), (1, .int (zI (ltC β q (ee - q)))), (0, .ref ((ad 4)))]) hx hb dX7_readRun_35 rfl hl (by decide) rfl (fun ls hl => ?_)
        refine lv_iload_n hx hb dX7_readRun_36 rfl (lv_at hl 0 rfl) ?_
        refine vp_callSi (va_Run.run (va_runS (As := [.int (zI (sbI (β ee)))]) (rest := []) ⟨hx, hb, hml, hown, hts⟩ (c_X7_isLetter l (sbI (β ee)) (by have := sb_cases (hβ ee (by omega)).2; omega)) (va_cwS 1 hts gX7_readRun_X7_isLetter rfl rfl rfl (by decide +kernel) ⟨Nat.le_of_ble_eq_true rfl, Nat.le_of_ble_eq_true rfl⟩) g_preS0 rfl rfl hl.1 rfl (lv_room (Nat.le_of_ble_eq_true rfl)) dX7_readRun_37 ⟨Nat.le_of_ble_eq_true rfl, Nat.le_of_ble_eq_true rfl⟩)) (fun r hr9 => ?_)
        subst hr9
        refine z_bz_eq (tgt := 49) hx hb dX7_readRun_40 (by decide) (fun h40 => ?_) (fun h40 => ?_)
        · refine lv_iload_n hx hb dX7_readRun_49 rfl (lv_at hl 0 rfl) ?_
          refine vp_callSi (va_Run.run (va_runS (As := [.int (zI (sbI (β ee)))]) (rest := []) ⟨hx, hb, hml, hown, hts⟩ (c_X7_isDigit l (sbI (β ee)) (by have := sb_cases (hβ ee (by omega)).2; omega)) (va_cwS 1 hts gX7_readRun_X7_isDigit rfl rfl rfl (by decide +kernel) ⟨Nat.le_of_ble_eq_true rfl, Nat.le_of_ble_eq_true rfl⟩) g_preS0 rfl rfl hl.1 rfl (lv_room (Nat.le_of_ble_eq_true rfl)) dX7_readRun_50 ⟨Nat.le_of_ble_eq_true rfl, Nat.le_of_ble_eq_true rfl⟩)) (fun r hr9 => ?_)
          subst hr9
          refine z_bz_eq (tgt := 88) hx hb dX7_readRun_53 (by decide) (fun h53 => ?_) (fun h53 => ?_)
          · have hE9 : rendT β n q = ee := hr9.trans (rend_x (fun z => by unfold isLt isDt at z; omega))
            refine lv_iload_n hx hb dX7_readRun_88 rfl (lv_at hl 1 rfl) ?_
            refine z_if_ne (tgt := 100) hx hb dX7_readRun_89 (by decide) (by omega) (fun h89 => ?_) (fun h89 => ?_)
            · refine lv_aload_n hx hb dX7_readRun_100 rfl (lv_at hl 3 rfl) ?_
              refine lv_iload_n hx hb dX7_readRun_101 rfl (lv_at hl 2 rfl) ?_
              refine z_if_ne (tgt := 114) hx hb dX7_readRun_102 (by decide) (by omega) (fun h102 => ?_) (fun h102 => ?_)
              · refine lv_iconst (v := zI (4)) hx hb dX7_readRun_114 (by decide) ?_
                refine y_put (ci := 7) (v := .int (zI (4))) (ty := .int) (C := RX7) (T := TX7) (N := 5) hx hb hts hinX7 tyX7 tyX7_ok nmX7 hown hK hW hd9 hS (4) (show 4 < 126 by omega) (lcE r_4 sh_4) rfl 2 (by decide) k39 (fun _ h9 => h9) rfl (by decide +kernel) rfl rfl (Nat.le_of_ble_eq_true rfl) dX7_readRun_115 (fun H locs hW hS => ?_)
                have hW := cw_up (P := P) (M := M2) (f := upd (upd (upd (M 4) 3 (nuC β q (ee - q))) 0 (zI (ee))) 1 (zI (4))) ((sh_4).trans rfl) hW
                obtain ⟨M7, hM7⟩ : ∃ x9c : Nat → Nat → Int32, x9c = va_up M2 (4) (upd (upd (upd (M 4) 3 (nuC β q (ee - q))) 0 (zI (ee))) 1 (zI (4))) := ⟨_, rfl⟩
                have hW : cw g ad P M7 H := by rw [hM7]; exact hW
                have hex : ∀ j : Nat, ¬ j = 4 → M7 j = M j := fun j q0 => ((congrFun hM7 j).trans (up_ne _ _ q0)).trans (hex j q0)
                have r_1 : M7 (1) = M 1 := ((congrFun hM7 (1)).trans (up_ne _ _ (by omega))).trans r_1
                have r_2 : M7 (2) = M 2 := ((congrFun hM7 (2)).trans (up_ne _ _ (by omega))).trans r_2
                have r_4 : M7 (4) = upd (upd (upd (M 4) 3 (nuC β q (ee - q))) 0 (zI (ee))) 1 (zI (4)) := ((congrFun hM7 _).trans (up_at _ _ _))
                have hW : cw g ad P (va_up M (4) (runR (M 4) β n q)) H := by
                  have e9 : M7 = va_up M (4) (runR (M 4) β n q) := by
                    funext i9
                    by_cases q0 : i9 = 4
                    · rw [q0]; exact (r_4.trans (by unfold runR; rw [hE9]; exact row4 rfl (congrArg zI (by unfold kRun; (repeat' split) <;> omega)) rfl rfl (fun k9 hk9 => by unfold upd; (repeat rw [if_neg (by omega)])))).trans (up_at _ _ _).symm
                    exact (hex i9 q0).trans (up_ne _ _ q0).symm
                  rw [← e9]; exact hW
                exact W.vret hx hb hr (fun tX htX hWX => ⟨⟨(), rfl, trivial, g_at htX hW⟩, hS.F htX⟩) hS.2.2 dX7_readRun_118
              · refine lv_iload_n hx hb dX7_readRun_105 rfl (lv_at hl 1 rfl) ?_
                refine lv_iconst (v := zI (4)) hx hb dX7_readRun_106 (by decide) ?_
                refine z_icmp_gt (tgt := 114) hx hb dX7_readRun_107 (by decide) (by omega) (by omega) (fun h107 => ?_) (fun h107 => ?_)
                · refine lv_iconst (v := zI (4)) hx hb dX7_readRun_114 (by decide) ?_
                  refine y_put (ci := 7) (v := .int (zI (4))) (ty := .int) (C := RX7) (T := TX7) (N := 5) hx hb hts hinX7 tyX7 tyX7_ok nmX7 hown hK hW hd9 hS (4) (show 4 < 126 by omega) (lcE r_4 sh_4) rfl 2 (by decide) k39 (fun _ h9 => h9) rfl (by decide +kernel) rfl rfl (Nat.le_of_ble_eq_true rfl) dX7_readRun_115 (fun H locs hW hS => ?_)
                  have hW := cw_up (P := P) (M := M2) (f := upd (upd (upd (M 4) 3 (nuC β q (ee - q))) 0 (zI (ee))) 1 (zI (4))) ((sh_4).trans rfl) hW
                  obtain ⟨M8, hM8⟩ : ∃ x9c : Nat → Nat → Int32, x9c = va_up M2 (4) (upd (upd (upd (M 4) 3 (nuC β q (ee - q))) 0 (zI (ee))) 1 (zI (4))) := ⟨_, rfl⟩
                  have hW : cw g ad P M8 H := by rw [hM8]; exact hW
                  have hex : ∀ j : Nat, ¬ j = 4 → M8 j = M j := fun j q0 => ((congrFun hM8 j).trans (up_ne _ _ q0)).trans (hex j q0)
                  have r_1 : M8 (1) = M 1 := ((congrFun hM8 (1)).trans (up_ne _ _ (by omega))).trans r_1
                  have r_2 : M8 (2) = M 2 := ((congrFun hM8 (2)).trans (up_ne _ _ (by omega))).trans r_2
                  have r_4 : M8 (4) = upd (upd (upd (M 4) 3 (nuC β q (ee - q))) 0 (zI (ee))) 1 (zI (4)) := ((congrFun hM8 _).trans (up_at _ _ _))
                  have hW : cw g ad P (va_up M (4) (runR (M 4) β n q)) H := by
                    have e9 : M8 = va_up M (4) (runR (M 4) β n q) := by
                      funext i9
                      by_cases q0 : i9 = 4
                      · rw [q0]; exact (r_4.trans (by unfold runR; rw [hE9]; exact row4 rfl (congrArg zI (by unfold kRun; (repeat' split) <;> omega)) rfl rfl (fun k9 hk9 => by unfold upd; (repeat rw [if_neg (by omega)])))).trans (up_at _ _ _).symm
                      exact (hex i9 q0).trans (up_ne _ _ q0).symm
                    rw [← e9]; exact hW
                  exact W.vret hx hb hr (fun tX htX hWX => ⟨⟨(), rfl, trivial, g_at htX hW⟩, hS.F htX⟩) hS.2.2 dX7_readRun_118
                · refine lv_iconst (v := zI (2)) hx hb dX7_readRun_110 (by decide) ?_
                  refine lv_goto (tgt := 115) hx hb dX7_readRun_111 (by decide) ?_
                  refine y_put (ci := 7) (v := .int (zI (2))) (ty := .int) (C := RX7) (T := TX7) (N := 5) hx hb hts hinX7 tyX7 tyX7_ok nmX7 hown hK hW hd9 hS (4) (show 4 < 126 by omega) (lcE r_4 sh_4) rfl 2 (by decide) k39 (fun _ h9 => h9) rfl (by decide +kernel) rfl rfl (Nat.le_of_ble_eq_true rfl) dX7_readRun_115 (fun H locs hW hS => ?_)
                  have hW := cw_up (P := P) (M := M2) (f := upd (upd (upd (M 4) 3 (nuC β q (ee - q))) 0 (zI (ee))) 1 (zI (2))) ((sh_4).trans rfl) hW
                  obtain ⟨M9, hM9⟩ : ∃ x9c : Nat → Nat → Int32, x9c = va_up M2 (4) (upd (upd (upd (M 4) 3 (nuC β q (ee - q))) 0 (zI (ee))) 1 (zI (2))) := ⟨_, rfl⟩
                  have hW : cw g ad P M9 H := by rw [hM9]; exact hW
                  have hex : ∀ j : Nat, ¬ j = 4 → M9 j = M j := fun j q0 => ((congrFun hM9 j).trans (up_ne _ _ q0)).trans (hex j q0)
                  have r_1 : M9 (1) = M 1 := ((congrFun hM9 (1)).trans (up_ne _ _ (by omega))).trans r_1
                  have r_2 : M9 (2) = M 2 := ((congrFun hM9 (2)).trans (up_ne _ _ (by omega))).trans r_2
                  have r_4 : M9 (4) = upd (upd (upd (M 4) 3 (nuC β q (ee - q))) 0 (zI (ee))) 1 (zI (2)) := ((congrFun hM9 _).trans (up_at _ _ _))
                  have hW : cw g ad P (va_up M (4) (runR (M 4) β n q)) H := by
                    have e9 : M9 = va_up M (4) (runR (M 4) β n q) := by
                      funext i9
                      by_cases q0 : i9 = 4
                      · rw [q0]; exact (r_4.trans (by unfold runR; rw [hE9]; exact row4 rfl (congrArg zI (by unfold kRun; (repeat' split) <;> omega)) rfl rfl (fun k9 hk9 => by unfold upd; (repeat rw [if_neg (by omega)])))).trans (up_at _ _ _).symm
                      exact (hex i9 q0).trans (up_ne _ _ q0).symm
                    rw [← e9]; exact hW
                  exact W.vret hx hb hr (fun tX htX hWX => ⟨⟨(), rfl, trivial, g_at htX hW⟩, hS.F htX⟩) hS.2.2 dX7_readRun_118
            · refine lv_aload_n hx hb dX7_readRun_92 rfl (lv_at hl 3 rfl) ?_
              refine lv_iconst (v := zI (1)) hx hb dX7_readRun_93 (by decide) ?_
              refine y_put (ci := 7) (v := .int (zI (1))) (ty := .int) (C := RX7) (T := TX7) (N := 5) hx hb hts hinX7 tyX7 tyX7_ok nmX7 hown hK hW hd9 hS (4) (show 4 < 126 by omega) (lcE r_4 sh_4) rfl 2 (by decide) k39 (fun _ h9 => h9) rfl (by decide +kernel) rfl rfl (Nat.le_of_ble_eq_true rfl) dX7_readRun_94 (fun H locs hW hS => ?_)
              have hW := cw_up (P := P) (M := M2) (f := upd (upd (upd (M 4) 3 (nuC β q (ee - q))) 0 (zI (ee))) 1 (zI (1))) ((sh_4).trans rfl) hW
              obtain ⟨M10, hM10⟩ : ∃ x9c : Nat → Nat → Int32, x9c = va_up M2 (4) (upd (upd (upd (M 4) 3 (nuC β q (ee - q))) 0 (zI (ee))) 1 (zI (1))) := ⟨_, rfl⟩
              have hW : cw g ad P M10 H := by rw [hM10]; exact hW
              have hex : ∀ j : Nat, ¬ j = 4 → M10 j = M j := fun j q0 => ((congrFun hM10 j).trans (up_ne _ _ q0)).trans (hex j q0)
              have r_1 : M10 (1) = M 1 := ((congrFun hM10 (1)).trans (up_ne _ _ (by omega))).trans r_1
              have r_2 : M10 (2) = M 2 := ((congrFun hM10 (2)).trans (up_ne _ _ (by omega))).trans r_2
              have r_4 : M10 (4) = upd (upd (upd (M 4) 3 (nuC β q (ee - q))) 0 (zI (ee))) 1 (zI (1)) := ((congrFun hM10 _).trans (up_at _ _ _))
              refine lv_goto (tgt := 118) hx hb dX7_readRun_97 (by decide) ?_
              have hW : cw g ad P (va_up M (4) (runR (M 4) β n q)) H := by
                have e9 : M10 = va_up M (4) (runR (M 4) β n q) := by
                  funext i9
                  by_cases q0 : i9 = 4
                  · rw [q0]; exact (r_4.trans (by unfold runR; rw [hE9]; exact row4 rfl (congrArg zI (by unfold kRun; (repeat' split) <;> omega)) rfl rfl (fun k9 hk9 => by unfold upd; (repeat rw [if_neg (by omega)])))).trans (up_at _ _ _).symm
                  exact (hex i9 q0).trans (up_ne _ _ q0).symm
                rw [← e9]; exact hW
              exact W.vret hx hb hr (fun tX htX hWX => ⟨⟨(), rfl, trivial, g_at htX hW⟩, hS.F htX⟩) hS.2.2 dX7_readRun_118
          · refine z_iinc (lv' := [(2, .int (zI ((dgC β q (ee - q)) + 1))), (3, .int (zI (sbI (β ee)))), (1, .int (zI (ltC β q (ee - q)))), (0, .ref ((ad 4)))]) hx hb dX7_readRun_56 hl (k := 1) rfl (by decide) rfl (fun ls hl => ?_)
            refine lv_aload_n hx hb dX7_readRun_59 rfl (lv_at hl 3 rfl) ?_
            refine lv_aload_n hx hb dX7_readRun_60 rfl (lv_at hl 3 rfl) ?_
            refine va_get (D := g.1) (ci := 7) (v := .int ((upd (upd (M 4) 3 (nuC β q (ee - q))) 0 (zI (ee))) 3)) (C := RX7) (T := TX7) (N := 5) hx hb hts hinX7 hown hK (hb1 hW (show 4 < 126 by omega) (lcE r_4 sh_4)) 0 rfl rfl 4 (by decide) k51 (fun _ h9 => h9) rfl dX7_readRun_61 ?_
            refine z_top (y := nuC β q (ee - q)) (rfl) ?_
            refine lv_bipush (v := zI (10)) hx hb dX7_readRun_64 (by decide) ?_
            refine lv_imul hx hb dX7_readRun_66 ?_
            refine lv_iload_n hx hb dX7_readRun_67 rfl (lv_at hl 1 rfl) ?_
            refine lv_iadd hx hb dX7_readRun_68 ?_
            refine lv_bipush (v := zI (48)) hx hb dX7_readRun_69 (by decide) ?_
            refine lv_isub hx hb dX7_readRun_71 ?_
            refine y_put (ci := 7) (v := .int ((((nuC β q (ee - q)) * zI (10)) + zI (sbI (β ee))) - zI (48))) (ty := .int) (C := RX7) (T := TX7) (N := 5) hx hb hts hinX7 tyX7 tyX7_ok nmX7 hown hK hW hd9 hS (4) (show 4 < 126 by omega) (lcE r_4 sh_4) rfl 4 (by decide) k51 (fun _ h9 => h9) rfl (by decide +kernel) rfl rfl (Nat.le_of_ble_eq_true rfl) dX7_readRun_72 (fun H locs hW hS => ?_)
            have hW := cw_up (P := P) (M := M2) (f := upd (upd (upd (M 4) 3 (nuC β q (ee - q))) 0 (zI (ee))) 3 ((((nuC β q (ee - q)) * zI (10)) + zI (sbI (β ee))) - zI (48))) ((sh_4).trans rfl) hW
            obtain ⟨M11, hM11⟩ : ∃ x9c : Nat → Nat → Int32, x9c = va_up M2 (4) (upd (upd (upd (M 4) 3 (nuC β q (ee - q))) 0 (zI (ee))) 3 ((((nuC β q (ee - q)) * zI (10)) + zI (sbI (β ee))) - zI (48))) := ⟨_, rfl⟩
            have hW : cw g ad P M11 H := by rw [hM11]; exact hW
            have hex : ∀ j : Nat, ¬ j = 4 → M11 j = M j := fun j q0 => ((congrFun hM11 j).trans (up_ne _ _ q0)).trans (hex j q0)
            have r_1 : M11 (1) = M 1 := ((congrFun hM11 (1)).trans (up_ne _ _ (by omega))).trans r_1
            have r_2 : M11 (2) = M 2 := ((congrFun hM11 (2)).trans (up_ne _ _ (by omega))).trans r_2
            have r_4 : M11 (4) = upd (upd (upd (M 4) 3 (nuC β q (ee - q))) 0 (zI (ee))) 3 ((((nuC β q (ee - q)) * zI (10)) + zI (sbI (β ee))) - zI (48)) := ((congrFun hM11 _).trans (up_at _ _ _))
            refine lv_aload_n hx hb dX7_readRun_75 rfl (lv_at hl 3 rfl) ?_
            refine lv_dup hx hb dX7_readRun_76 rfl ?_
            refine va_get (D := g.1) (ci := 7) (v := .int ((upd (upd (M 4) 3 (nuC β q (ee - q))) 0 (zI (ee))) 0)) (C := RX7) (T := TX7) (N := 5) hx hb hts hinX7 hown hK (hb1 hW (show 4 < 126 by omega) (lcE r_4 sh_4)) 0 rfl rfl 1 (by decide) k13 (fun _ h9 => h9) rfl dX7_readRun_77 ?_
            refine z_top (y := zI (ee)) (rfl) ?_
            refine lv_iconst (v := zI (1)) hx hb dX7_readRun_80 (by decide) ?_
            refine z_iadd hx hb dX7_readRun_81 ?_
            refine y_put (ci := 7) (v := .int (zI (ee + 1))) (ty := .int) (C := RX7) (T := TX7) (N := 5) hx hb hts hinX7 tyX7 tyX7_ok nmX7 hown hK hW hd9 hS (4) (show 4 < 126 by omega) (lcE r_4 sh_4) rfl 1 (by decide) k13 (fun _ h9 => h9) rfl (by decide +kernel) rfl rfl (Nat.le_of_ble_eq_true rfl) dX7_readRun_82 (fun H locs hW hS => ?_)
            have hW := cw_up (P := P) (M := M11) (f := upd (upd (upd (upd (M 4) 3 (nuC β q (ee - q))) 0 (zI (ee))) 3 ((((nuC β q (ee - q)) * zI (10)) + zI (sbI (β ee))) - zI (48))) 0 (zI (ee + 1))) ((sh_4).trans rfl) hW
            obtain ⟨M12, hM12⟩ : ∃ x9c : Nat → Nat → Int32, x9c = va_up M11 (4) (upd (upd (upd (upd (M 4) 3 (nuC β q (ee - q))) 0 (zI (ee))) 3 ((((nuC β q (ee - q)) * zI (10)) + zI (sbI (β ee))) - zI (48))) 0 (zI (ee + 1))) := ⟨_, rfl⟩
            have hW : cw g ad P M12 H := by rw [hM12]; exact hW
            have hex : ∀ j : Nat, ¬ j = 4 → M12 j = M j := fun j q0 => ((congrFun hM12 j).trans (up_ne _ _ q0)).trans (hex j q0)
            have r_1 : M12 (1) = M 1 := ((congrFun hM12 (1)).trans (up_ne _ _ (by omega))).trans r_1
            have r_2 : M12 (2) = M 2 := ((congrFun hM12 (2)).trans (up_ne _ _ (by omega))).trans r_2
            have r_4 : M12 (4) = upd (upd (upd (upd (M 4) 3 (nuC β q (ee - q))) 0 (zI (ee))) 3 ((((nuC β q (ee - q)) * zI (10)) + zI (sbI (β ee))) - zI (48))) 0 (zI (ee + 1)) := ((congrFun hM12 _).trans (up_at _ _ _))
            refine lv_goto (tgt := 9) hx hb dX7_readRun_85 (by decide) ?_
            have hl := lv_sub (l' := [(2, .int (zI ((dgC β q (ee - q)) + 1))), (1, .int (zI (ltC β q (ee - q)))), (0, .ref ((ad 4)))]) hl [0, 2, 3] rfl
            have hl : lv_has ls 4 [(2, .int (zI (dgC β q ((ee + 1) - q)))), (1, .int (zI (ltC β q ((ee + 1) - q)))), (0, .ref ((ad 4)))] := lv_cg (lvE (congrArg zI (by rw [show ee + 1 - q = (ee - q) + 1 by omega, dgC, show q + (ee - q) = ee by omega]; first | (rw [if_pos (by unfold isLt; omega)]; omega) | (rw [if_neg (by unfold isLt; omega)]; omega))) (lvE (congrArg zI (by rw [show ee + 1 - q = (ee - q) + 1 by omega, ltC, show q + (ee - q) = ee by omega]; first | (rw [if_pos (by unfold isLt; omega)]; omega) | (rw [if_neg (by unfold isLt; omega)]; omega))) (lvR (rfl)))) hl
            exact ih (ee + 1) (by omega) (⟨by omega, by omega⟩) (hr9.trans (rend_s ⟨by omega, by unfold isLt isDt; omega⟩)) H locs M12 (r_4.trans (row4 (congrArg zI (by omega)) rfl rfl (by rw [show ee + 1 - q = (ee - q) + 1 by omega]; show _ = nuC β q ((ee - q) + 1); rw [nuC, show q + (ee - q) = ee by omega]; first | (rw [if_neg (by unfold isLt; omega)]; rfl) | (rw [if_pos (by unfold isLt; omega)]; rfl)) (fun k9 hk9 => by unfold upd; (repeat rw [if_neg (by omega)])))) (r_1) (r_2) (fun j q0 => hex j q0) hW hS ls hl
        · refine z_iinc (lv' := [(1, .int (zI ((ltC β q (ee - q)) + 1))), (3, .int (zI (sbI (β ee)))), (2, .int (zI (dgC β q (ee - q)))), (0, .ref ((ad 4)))]) hx hb dX7_readRun_43 hl (k := 2) rfl (by decide) rfl (fun ls hl => ?_)
          refine lv_goto (tgt := 75) hx hb dX7_readRun_46 (by decide) ?_
          refine lv_aload_n hx hb dX7_readRun_75 rfl (lv_at hl 3 rfl) ?_
          refine lv_dup hx hb dX7_readRun_76 rfl ?_
          refine va_get (D := g.1) (ci := 7) (v := .int ((upd (upd (M 4) 3 (nuC β q (ee - q))) 0 (zI (ee))) 0)) (C := RX7) (T := TX7) (N := 5) hx hb hts hinX7 hown hK (hb1 hW (show 4 < 126 by omega) (lcE r_4 sh_4)) 0 rfl rfl 1 (by decide) k13 (fun _ h9 => h9) rfl dX7_readRun_77 ?_
          refine z_top (y := zI (ee)) (rfl) ?_
          refine lv_iconst (v := zI (1)) hx hb dX7_readRun_80 (by decide) ?_
          refine z_iadd hx hb dX7_readRun_81 ?_
          refine y_put (ci := 7) (v := .int (zI (ee + 1))) (ty := .int) (C := RX7) (T := TX7) (N := 5) hx hb hts hinX7 tyX7 tyX7_ok nmX7 hown hK hW hd9 hS (4) (show 4 < 126 by omega) (lcE r_4 sh_4) rfl 1 (by decide) k13 (fun _ h9 => h9) rfl (by decide +kernel) rfl rfl (Nat.le_of_ble_eq_true rfl) dX7_readRun_82 (fun H locs hW hS => ?_)
          have hW := cw_up (P := P) (M := M2) (f := upd (upd (upd (M 4) 3 (nuC β q (ee - q))) 0 (zI (ee))) 0 (zI (ee + 1))) ((sh_4).trans rfl) hW
          obtain ⟨M13, hM13⟩ : ∃ x9c : Nat → Nat → Int32, x9c = va_up M2 (4) (upd (upd (upd (M 4) 3 (nuC β q (ee - q))) 0 (zI (ee))) 0 (zI (ee + 1))) := ⟨_, rfl⟩
          have hW : cw g ad P M13 H := by rw [hM13]; exact hW
          have hex : ∀ j : Nat, ¬ j = 4 → M13 j = M j := fun j q0 => ((congrFun hM13 j).trans (up_ne _ _ q0)).trans (hex j q0)
          have r_1 : M13 (1) = M 1 := ((congrFun hM13 (1)).trans (up_ne _ _ (by omega))).trans r_1
          have r_2 : M13 (2) = M 2 := ((congrFun hM13 (2)).trans (up_ne _ _ (by omega))).trans r_2
          have r_4 : M13 (4) = upd (upd (upd (M 4) 3 (nuC β q (ee - q))) 0 (zI (ee))) 0 (zI (ee + 1)) := ((congrFun hM13 _).trans (up_at _ _ _))
          refine lv_goto (tgt := 9) hx hb dX7_readRun_85 (by decide) ?_
          have hl := lv_sub (l' := [(2, .int (zI (dgC β q (ee - q)))), (1, .int (zI ((ltC β q (ee - q)) + 1))), (0, .ref ((ad 4)))]) hl [2, 0, 3] rfl
          have hl : lv_has ls 4 [(2, .int (zI (dgC β q ((ee + 1) - q)))), (1, .int (zI (ltC β q ((ee + 1) - q)))), (0, .ref ((ad 4)))] := lv_cg (lvE (congrArg zI (by rw [show ee + 1 - q = (ee - q) + 1 by omega, dgC, show q + (ee - q) = ee by omega]; first | (rw [if_pos (by unfold isLt; omega)]; omega) | (rw [if_neg (by unfold isLt; omega)]; omega))) (lvE (congrArg zI (by rw [show ee + 1 - q = (ee - q) + 1 by omega, ltC, show q + (ee - q) = ee by omega]; first | (rw [if_pos (by unfold isLt; omega)]; omega) | (rw [if_neg (by unfold isLt; omega)]; omega))) (lvR (rfl)))) hl
          exact ih (ee + 1) (by omega) (⟨by omega, by omega⟩) (hr9.trans (rend_s ⟨by omega, by unfold isLt isDt; omega⟩)) H locs M13 (r_4.trans (row4 (congrArg zI (by omega)) rfl rfl (by rw [show ee + 1 - q = (ee - q) + 1 by omega]; show _ = nuC β q ((ee - q) + 1); rw [nuC, show q + (ee - q) = ee by omega]; first | (rw [if_neg (by unfold isLt; omega)]; rfl) | (rw [if_pos (by unfold isLt; omega)]; rfl)) (fun k9 hk9 => by unfold upd; (repeat rw [if_neg (by omega)])))) (r_1) (r_2) (fun j q0 => hex j q0) hW hS ls hl
  have hl := lv_sub (l' := [(2, .int (zI (0))), (1, .int (zI (0))), (0, .ref ((ad 4)))]) hl [0, 1, 2] rfl
  have hl : lv_has ls 4 [(2, .int (zI (dgC β q (q - q)))), (1, .int (zI (ltC β q (q - q)))), (0, .ref ((ad 4)))] := lv_cg (lvE (congrArg zI (by rw [Nat.sub_self]; rfl)) (lvE (congrArg zI (by rw [Nat.sub_self]; rfl)) (lvR (rfl)))) hl
  exact loop9 _ (q) (Nat.lt_succ_self _) (⟨Nat.le_refl _, by omega⟩) (rfl) H locs M1 (r_4.trans (by rw [Nat.sub_self]; exact (upd_same (f := upd (M 4) 3 (zI 0)) (k := 0) hq4).symm)) (r_1) (r_2) (fun j q0 => hex j q0) hW hS ls hl

set_option maxHeartbeats 4000000 in
set_option maxRecDepth 100000 in
theorem c_X7_advance (l : Launch) (g : GG) (ad : Nat → Nat) (hd9 : hD ad) (P : Nat → Nat) (M : Nat → Nat → Int32) (β : Nat → Nat) (n : Nat) (hn : n ≤ 740) (hz : M 1 0 = zI n) (hβ : ∀ i, i < 740 → M 2 i = zI (sbI (β i)) ∧ β i < 256) (ps : Nat) (hps : ps ≤ n) (hp4 : M 4 0 = zI ps) : Met l yX7_advance wsX7_advance ({ frames := 2, cells := 0, slots := 0, locals := 43 }) (gPc g [.ref ((ad 4))] (cw g ad P M)) (va_Qv (fun (u : Unit) => True) (fun (u : Unit) (tS : State) => cw g ad P (va_up M (4) (tokR (M 4) β n ps)) tS.heap) (hbA ad)) 0 0 (hbA ad) := by
  refine Met.ofW (cc := cX7_advance) (maxL := 2) (ret := none) (by decide) rfl ?_
  intro p e s m args below meth c s₁ B hml hv
  obtain ⟨rfl, hW, hK⟩ := hv
  have hx := B.exec
  have hb := B.bytes
  have hr := B.returns
  have hts := atoms_spec (ws := wsX7_advance) B.pre
  have hown : s.vm.findClass RX7 = some m.cls := findClass_of_methodNamed B.named
  have hlocks := B.notSynchronized
  have hinX5 : ∀ w ∈ wsX50, w ∈ wsX7_advance := by decide +kernel
  have hinX7 : ∀ w ∈ wsX70, w ∈ wsX7_advance := by decide +kernel
  have k7 := hts (.fieldLink RX7 7 "HoursBank$Tokens" "tape" "LHoursBank$Tape;") (by decide +kernel)
  have k17 := hts (.fieldLink RX7 17 "HoursBank$Tape" "size" "I") (by decide +kernel)
  have k22 := hts (.methodLink RX7 22 Lib.Math.min.name) (by decide +kernel)
  have kSmin := hts (.static Lib.Math.min.name) (by decide +kernel)
  have kM := hts (.initialized "java/lang/Math") (by decide +kernel)
  have kCmin := hts (.code Lib.Math.min.name Lib.Math.min.code 2 (some .int)) (by decide +kernel)
  have k13 := hts (.fieldLink RX7 13 "HoursBank$Tokens" "next" "I") (by decide +kernel)
  have k36 := hts (.fieldLink RX7 36 "HoursBank$Tokens" "place" "I") (by decide +kernel)
  have k28 := hts (.fieldLink RX7 28 "HoursBank$Tape" "bytes" "[B") (by decide +kernel)
  have k39 := hts (.fieldLink RX7 39 "HoursBank$Tokens" "kind" "I") (by decide +kernel)
  have hl := lv_entry ([.ref ((ad 4))]) (n := 2) (Nat.le_of_ble_eq_true rfl)
  rw [lg_entry_eq]
  generalize (lg_sl ([.ref ((ad 4))]) ++ List.replicate (2 - (lg_sl ([.ref ((ad 4))])).length) Slot.unset).toArray = ls at hl ⊢
  have hl : lv_has ls 2 [(0, .ref ((ad 4)))] := hl
  have hS : va_S (hbA ad) s.heap s.heap [] := va_S.rf
  obtain ⟨H, hH9⟩ : ∃ H, H = s.heap := ⟨_, rfl⟩
  obtain ⟨locs, hL9⟩ : ∃ x9l : List Loc, x9l = [] := ⟨_, rfl⟩
  have hW : cw g ad P M H := hH9 ▸ hW
  have hS : va_S (hbA ad) s.heap H locs := by rw [hH9, hL9]; exact hS
  refine z_start hH9 hL9 ?_
  clear hH9 hL9
  have hex : ∀ j : Nat, M j = M j := fun _ => rfl
  refine lv_aload_n hx hb dX7_advance_0 rfl (lv_at hl 0 rfl) ?_
  have r_4 : M (4) = M 4 := hex (4) 
  refine va_get (D := g.1) (ci := 7) (v := .ref ((ad 1))) (C := RX7) (T := TX7) (N := 5) hx hb hts hinX7 hown hK (hb1 hW (show 4 < 126 by omega) (lcE r_4 sh_4)) 0 rfl rfl 0 (by decide) k7 (fun _ h9 => h9) rfl dX7_advance_1 ?_
  have r_1 : M (1) = M 1 := hex (1) 
  refine va_get (D := g.1) (ci := 5) (v := .int ((M 1) 0)) (C := RX5) (T := TX5) (N := 2) hx hb hts hinX5 hown hK (hb1 hW (show 1 < 126 by omega) (lcE r_1 sh_1)) 0 rfl rfl 1 (by decide) k17 (fun _ h9 => h9) rfl dX7_advance_4 ?_
  refine z_top (y := zI (n)) (hz) ?_
  refine lv_sipush (v := zI (700)) hx hb dX7_advance_7 (by decide) ?_
  refine z_mmin hx hb (hml.trans hl.1.symm) hown k22 kSmin kM kCmin (Nat.le_of_ble_eq_true rfl) (Nat.le_of_ble_eq_true rfl) (Nat.zero_le _) (Nat.zero_le _) (by omega) (by omega) dX7_advance_10 ?_
  refine z_top (y := zI (((min n 700 : Nat) : Int))) (congrArg zI (by omega)) ?_
  refine lv_istore_n (lv' := [(1, .int (zI (((min n 700 : Nat) : Int)))), (0, .ref ((ad 4)))]) hx hb dX7_advance_13 rfl hl (by decide) rfl (fun ls hl => ?_)
  have r_2 : M (2) = M 2 := hex (2) 
  have loop14 : ∀ (K9 : Nat) (q : Nat) (hK9 : n - q < K9) (hq : ps ≤ q ∧ q ≤ n) (hq9 : cSk β n ps = skipT β (min n 700) q) (H : Heap) (locs : List Loc) (M1 : Nat → Nat → Int32) (r_4 : M1 (4) = upd (M 4) 0 (zI (q))) (r_1 : M1 (1) = M 1) (r_2 : M1 (2) = M 2) (hex : ∀ j : Nat, ¬ j = 4 → M1 j = M j) (hW : cw g ad P M1 H) (hS : va_S (hbA ad) s.heap H locs) (ls : Array Slot) (hl : lv_has ls 2 [(1, .int (zI (((min n 700 : Nat) : Int)))), (0, .ref ((ad 4)))]), W p l e (headSpec wsX7_advance ({ frames := 2, cells := 0, slots := 0, locals := 43 })).room s m ([.ref ((ad 4))] : List Value).toArray below meth c H locs 0 0 (MQ below (va_Qv (fun (u : Unit) => True) (fun (u : Unit) (tS : State) => cw g ad P (va_up M (4) (tokR (M 4) β n ps)) tS.heap) (hbA ad)) ([.ref ((ad 4))] : List Value).toArray s 0 0 (hbA ad)) (F0 m 14 ls []) := by
    intro K9
    induction K9 with
    | zero => intro q hK9; exact absurd hK9 (Nat.not_lt_zero _)
    | succ K9 ih =>
      intro q hK9 hq hq9 H locs M1 r_4 r_1 r_2 hex hW hS ls hl
      refine lv_aload_n hx hb dX7_advance_14 rfl (lv_at hl 1 rfl) ?_
      refine va_get (D := g.1) (ci := 7) (v := .int ((upd (M 4) 0 (zI (q))) 0)) (C := RX7) (T := TX7) (N := 5) hx hb hts hinX7 hown hK (hb1 hW (show 4 < 126 by omega) (lcE r_4 sh_4)) 0 rfl rfl 1 (by decide) k13 (fun _ h9 => h9) rfl dX7_advance_15 ?_
      refine z_top (y := zI (q)) (upd_at _ _ _) ?_
      refine lv_iload_n hx hb dX7_advance_18 rfl (lv_at hl 0 rfl) ?_
      refine z_icmp_ge (tgt := 53) hx hb dX7_advance_19 (by decide) (by omega) (by omega) (fun h19 => ?_) (fun h19 => ?_)
      · have hs9 : cSk β n ps = q := hq9.trans (skip_x (fun z => by omega))
        refine lv_aload_n hx hb dX7_advance_53 rfl (lv_at hl 1 rfl) ?_
        refine lv_aload_n hx hb dX7_advance_54 rfl (lv_at hl 1 rfl) ?_
        refine va_get (D := g.1) (ci := 7) (v := .int ((upd (M 4) 0 (zI (q))) 0)) (C := RX7) (T := TX7) (N := 5) hx hb hts hinX7 hown hK (hb1 hW (show 4 < 126 by omega) (lcE r_4 sh_4)) 0 rfl rfl 1 (by decide) k13 (fun _ h9 => h9) rfl dX7_advance_55 ?_
        refine z_top (y := zI (q)) (rfl) ?_
        refine lv_iload_n hx hb dX7_advance_58 rfl (lv_at hl 0 rfl) ?_
        refine z_mmin hx hb (hml.trans hl.1.symm) hown k22 kSmin kM kCmin (Nat.le_of_ble_eq_true rfl) (Nat.le_of_ble_eq_true rfl) (Nat.zero_le _) (Nat.zero_le _) (by omega) (by omega) dX7_advance_59 ?_
        refine y_put (ci := 7) (v := .int (zI (min (q) (((min n 700 : Nat) : Int))))) (ty := .int) (C := RX7) (T := TX7) (N := 5) hx hb hts hinX7 tyX7 tyX7_ok nmX7 hown hK hW hd9 hS (4) (show 4 < 126 by omega) (lcE r_4 sh_4) rfl 3 (by decide) k36 (fun _ h9 => h9) rfl (by decide +kernel) rfl rfl (Nat.le_of_ble_eq_true rfl) dX7_advance_62 (fun H locs hW hS => ?_)
        have hW := cw_up (P := P) (M := M1) (f := upd (upd (M 4) 0 (zI (q))) 2 (zI (min (q) (((min n 700 : Nat) : Int))))) ((sh_4).trans rfl) hW
        obtain ⟨M2, hM2⟩ : ∃ x9c : Nat → Nat → Int32, x9c = va_up M1 (4) (upd (upd (M 4) 0 (zI (q))) 2 (zI (min (q) (((min n 700 : Nat) : Int))))) := ⟨_, rfl⟩
        have hW : cw g ad P M2 H := by rw [hM2]; exact hW
        have hex : ∀ j : Nat, ¬ j = 4 → M2 j = M j := fun j q0 => ((congrFun hM2 j).trans (up_ne _ _ q0)).trans (hex j q0)
        have r_1 : M2 (1) = M 1 := ((congrFun hM2 (1)).trans (up_ne _ _ (by omega))).trans r_1
        have r_2 : M2 (2) = M 2 := ((congrFun hM2 (2)).trans (up_ne _ _ (by omega))).trans r_2
        have r_4 : M2 (4) = upd (upd (M 4) 0 (zI (q))) 2 (zI (min (q) (((min n 700 : Nat) : Int)))) := ((congrFun hM2 _).trans (up_at _ _ _))
        refine lv_aload_n hx hb dX7_advance_65 rfl (lv_at hl 1 rfl) ?_
        refine va_get (D := g.1) (ci := 7) (v := .int ((upd (M 4) 0 (zI (q))) 0)) (C := RX7) (T := TX7) (N := 5) hx hb hts hinX7 hown hK (hb1 hW (show 4 < 126 by omega) (lcE r_4 sh_4)) 0 rfl rfl 1 (by decide) k13 (fun _ h9 => h9) rfl dX7_advance_66 ?_
        refine z_top (y := zI (q)) (rfl) ?_
        refine lv_iload_n hx hb dX7_advance_69 rfl (lv_at hl 0 rfl) ?_
        refine z_icmp_lt (tgt := 81) hx hb dX7_advance_70 (by decide) (by omega) (by omega) (fun h70 => ?_) (fun h70 => ?_)
        · have hsb := sb_cases (hβ q (by omega)).2
          refine lv_aload_n hx hb dX7_advance_81 rfl (lv_at hl 1 rfl) ?_
          refine va_get (D := g.1) (ci := 7) (v := .ref ((ad 1))) (C := RX7) (T := TX7) (N := 5) hx hb hts hinX7 hown hK (hb1 hW (show 4 < 126 by omega) (lcE r_4 sh_4)) 0 rfl rfl 0 (by decide) k7 (fun _ h9 => h9) rfl dX7_advance_82 ?_
          refine va_get (D := g.1) (ci := 5) (v := .ref ((ad 2))) (C := RX5) (T := TX5) (N := 2) hx hb hts hinX5 hown hK (hb1 hW (show 1 < 126 by omega) (lcE r_1 sh_1)) 0 rfl rfl 0 (by decide) k28 (fun _ h9 => h9) rfl dX7_advance_85 ?_
          refine lv_aload_n hx hb dX7_advance_88 rfl (lv_at hl 1 rfl) ?_
          refine va_get (D := g.1) (ci := 7) (v := .int ((upd (M 4) 0 (zI (q))) 0)) (C := RX7) (T := TX7) (N := 5) hx hb hts hinX7 hown hK (hb1 hW (show 4 < 126 by omega) (lcE r_4 sh_4)) 0 rfl rfl 1 (by decide) k13 (fun _ h9 => h9) rfl dX7_advance_89 ?_
          refine z_top (y := zI (q)) (rfl) ?_
          refine z_bald hx hb hK (hb1 hW (show 2 < 126 by omega) (lcE r_2 sh_2)) 0 1 rfl rfl (by decide) (q) (by omega) (by omega) dX7_advance_92 ?_
          refine z_top (y := zI (sbI (β q))) ((hβ q (by omega)).1) ?_
          refine vp_callSi (va_Run.run (va_runS (As := [.int (zI (sbI (β q)))]) (rest := []) ⟨hx, hb, hml, hown, hts⟩ (c_X7_isLetter l (sbI (β q)) (by have := sb_cases (hβ q (by omega)).2; omega)) (va_cwS 1 hts gX7_advance_X7_isLetter rfl rfl rfl (by decide +kernel) ⟨Nat.le_of_ble_eq_true rfl, Nat.le_of_ble_eq_true rfl⟩) g_preS0 rfl rfl hl.1 rfl (lv_room (Nat.le_of_ble_eq_true rfl)) dX7_advance_93 ⟨Nat.le_of_ble_eq_true rfl, Nat.le_of_ble_eq_true rfl⟩)) (fun r hr9 => ?_)
          subst hr9
          refine z_bz_ne (tgt := 117) hx hb dX7_advance_96 (by decide) (fun h96 => ?_) (fun h96 => ?_)
          · refine lv_aload_n hx hb dX7_advance_117 rfl (lv_at hl 1 rfl) ?_
            have rb4 := r_4
            refine va_callv (va_runV (As := []) (rest := []) ⟨hx, hb, hml, hown, hts⟩ (c_X7_readRun l g (ad) (hd9) (P) (M2) (β) (n) (hn) ((congrFun r_1 0).trans hz) (fun i hi => ⟨(congrFun r_2 i).trans (hβ i hi).1, (hβ i hi).2⟩) (q) (by omega) ((congrFun r_4 0).trans rfl)) (cwV 0 hts gX7_advance_X7_readRun rfl rfl rfl (by decide +kernel) ⟨Nat.le_of_ble_eq_true rfl, Nat.le_of_ble_eq_true rfl⟩) (g_preV hW hK (va_recv hK (hb1 hW (show 4 < 126 by omega) (lcE r_4 sh_4)) (q0 := 0) (ci := 7) rfl rfl)) rfl rfl hl.1 rfl (lv_room (Nat.le_of_ble_eq_true rfl)) dX7_advance_118 ⟨Nat.le_of_ble_eq_true rfl, Nat.le_of_ble_eq_true rfl⟩) hS (fun q _ h => h) (fun q h => h) (fun u2 t9 H1 locs ht9 hvm9 hw9 hB9 hz9 hk9 hS => ?_)
            rw [ht9] at hB9
            clear hz9 hk9 hvm9 ht9
            generalize H1 = H at hB9 hS ⊢
            have hW := hB9
            clear hB9
            have hW : cw g ad P (va_up M2 (4) (runR (M2 4) β n q)) H := hW
            obtain ⟨M4, hM4⟩ : ∃ x9c : Nat → Nat → Int32, x9c = va_up M2 (4) (runR (M2 4) β n q) := ⟨_, rfl⟩
            have hW : cw g ad P M4 H := by rw [hM4]; exact hW
            have hex : ∀ j : Nat, ¬ j = 4 → M4 j = M j := fun j q0 => ((congrFun hM4 j).trans (up_ne _ _ q0)).trans (hex j q0)
            have r_1 : M4 (1) = M 1 := ((congrFun hM4 (1)).trans (up_ne _ _ (by omega))).trans r_1
            have r_2 : M4 (2) = M 2 := ((congrFun hM4 (2)).trans (up_ne _ _ (by omega))).trans r_2
            have r_4 : M4 (4) = runR (M2 4) β n q := ((congrFun hM4 _).trans (up_at _ _ _))
            refine lv_goto (tgt := 160) hx hb dX7_advance_121 (by decide) ?_
            have hW : cw g ad P (va_up M (4) (tokR (M 4) β n ps)) H := by
              have e9 : M4 = va_up M (4) (tokR (M 4) β n ps) := by
                funext i9
                by_cases q0 : i9 = 4
                · rw [q0]; exact (r_4.trans (tok_row (M 4) β n ps (congrArg zI (by unfold cNx; rw [if_neg (by rw [hs9]; omega), hs9, if_pos (by unfold ldT isLt isDt; omega)])) (congrArg zI (by unfold cKi; rw [if_neg (by rw [hs9]; omega), hs9, if_pos (by unfold ldT isLt isDt; omega)])) ((congrFun rb4 2).trans (congrArg zI (by unfold cPl; rw [hs9]; omega))) (by unfold cNu; rw [if_neg (by rw [hs9]; omega), hs9, if_pos (by unfold ldT isLt isDt; omega)]; rfl) (fun k9 hk9 => by unfold runR upd; (repeat rw [if_neg (by omega)]); exact (congrFun rb4 k9).trans (by unfold upd; (repeat rw [if_neg (by omega)]))))).trans (up_at _ _ _).symm
                exact (hex i9 q0).trans (up_ne _ _ q0).symm
              rw [← e9]; exact hW
            exact W.vret hx hb hr (fun tX htX hWX => ⟨⟨(), rfl, trivial, g_at htX hW⟩, hS.F htX⟩) hS.2.2 dX7_advance_160
          · refine lv_aload_n hx hb dX7_advance_99 rfl (lv_at hl 1 rfl) ?_
            refine va_get (D := g.1) (ci := 7) (v := .ref ((ad 1))) (C := RX7) (T := TX7) (N := 5) hx hb hts hinX7 hown hK (hb1 hW (show 4 < 126 by omega) (lcE r_4 sh_4)) 0 rfl rfl 0 (by decide) k7 (fun _ h9 => h9) rfl dX7_advance_100 ?_
            refine va_get (D := g.1) (ci := 5) (v := .ref ((ad 2))) (C := RX5) (T := TX5) (N := 2) hx hb hts hinX5 hown hK (hb1 hW (show 1 < 126 by omega) (lcE r_1 sh_1)) 0 rfl rfl 0 (by decide) k28 (fun _ h9 => h9) rfl dX7_advance_103 ?_
            refine lv_aload_n hx hb dX7_advance_106 rfl (lv_at hl 1 rfl) ?_
            refine va_get (D := g.1) (ci := 7) (v := .int ((upd (M 4) 0 (zI (q))) 0)) (C := RX7) (T := TX7) (N := 5) hx hb hts hinX7 hown hK (hb1 hW (show 4 < 126 by omega) (lcE r_4 sh_4)) 0 rfl rfl 1 (by decide) k13 (fun _ h9 => h9) rfl dX7_advance_107 ?_
            refine z_top (y := zI (q)) (rfl) ?_
            refine z_bald hx hb hK (hb1 hW (show 2 < 126 by omega) (lcE r_2 sh_2)) 0 1 rfl rfl (by decide) (q) (by omega) (by omega) dX7_advance_110 ?_
            refine z_top (y := zI (sbI (β q))) ((hβ q (by omega)).1) ?_
            refine vp_callSi (va_Run.run (va_runS (As := [.int (zI (sbI (β q)))]) (rest := []) ⟨hx, hb, hml, hown, hts⟩ (c_X7_isDigit l (sbI (β q)) (by have := sb_cases (hβ q (by omega)).2; omega)) (va_cwS 1 hts gX7_advance_X7_isDigit rfl rfl rfl (by decide +kernel) ⟨Nat.le_of_ble_eq_true rfl, Nat.le_of_ble_eq_true rfl⟩) g_preS0 rfl rfl hl.1 rfl (lv_room (Nat.le_of_ble_eq_true rfl)) dX7_advance_111 ⟨Nat.le_of_ble_eq_true rfl, Nat.le_of_ble_eq_true rfl⟩)) (fun r hr9 => ?_)
            subst hr9
            refine z_bz_eq (tgt := 124) hx hb dX7_advance_114 (by decide) (fun h114 => ?_) (fun h114 => ?_)
            · refine lv_aload_n hx hb dX7_advance_124 rfl (lv_at hl 1 rfl) ?_
              refine lv_aload_n hx hb dX7_advance_125 rfl (lv_at hl 1 rfl) ?_
              refine va_get (D := g.1) (ci := 7) (v := .ref ((ad 1))) (C := RX7) (T := TX7) (N := 5) hx hb hts hinX7 hown hK (hb1 hW (show 4 < 126 by omega) (lcE r_4 sh_4)) 0 rfl rfl 0 (by decide) k7 (fun _ h9 => h9) rfl dX7_advance_126 ?_
              refine va_get (D := g.1) (ci := 5) (v := .ref ((ad 2))) (C := RX5) (T := TX5) (N := 2) hx hb hts hinX5 hown hK (hb1 hW (show 1 < 126 by omega) (lcE r_1 sh_1)) 0 rfl rfl 0 (by decide) k28 (fun _ h9 => h9) rfl dX7_advance_129 ?_
              refine lv_aload_n hx hb dX7_advance_132 rfl (lv_at hl 1 rfl) ?_
              refine va_get (D := g.1) (ci := 7) (v := .int ((upd (M 4) 0 (zI (q))) 0)) (C := RX7) (T := TX7) (N := 5) hx hb hts hinX7 hown hK (hb1 hW (show 4 < 126 by omega) (lcE r_4 sh_4)) 0 rfl rfl 1 (by decide) k13 (fun _ h9 => h9) rfl dX7_advance_133 ?_
              refine z_top (y := zI (q)) (rfl) ?_
              refine z_bald hx hb hK (hb1 hW (show 2 < 126 by omega) (lcE r_2 sh_2)) 0 1 rfl rfl (by decide) (q) (by omega) (by omega) dX7_advance_136 ?_
              refine z_top (y := zI (sbI (β q))) ((hβ q (by omega)).1) ?_
              refine lv_bipush (v := zI (59)) hx hb dX7_advance_137 (by decide) ?_
              refine z_icmp_ne (tgt := 146) hx hb dX7_advance_139 (by decide) (by omega) (by omega) (fun h139 => ?_) (fun h139 => ?_)
              · refine lv_iconst (v := zI (4)) hx hb dX7_advance_146 (by decide) ?_
                refine y_put (ci := 7) (v := .int (zI (4))) (ty := .int) (C := RX7) (T := TX7) (N := 5) hx hb hts hinX7 tyX7 tyX7_ok nmX7 hown hK hW hd9 hS (4) (show 4 < 126 by omega) (lcE r_4 sh_4) rfl 2 (by decide) k39 (fun _ h9 => h9) rfl (by decide +kernel) rfl rfl (Nat.le_of_ble_eq_true rfl) dX7_advance_147 (fun H locs hW hS => ?_)
                have hW := cw_up (P := P) (M := M2) (f := upd (upd (upd (M 4) 0 (zI (q))) 2 (zI (min (q) (((min n 700 : Nat) : Int))))) 1 (zI (4))) ((sh_4).trans rfl) hW
                obtain ⟨M5, hM5⟩ : ∃ x9c : Nat → Nat → Int32, x9c = va_up M2 (4) (upd (upd (upd (M 4) 0 (zI (q))) 2 (zI (min (q) (((min n 700 : Nat) : Int))))) 1 (zI (4))) := ⟨_, rfl⟩
                have hW : cw g ad P M5 H := by rw [hM5]; exact hW
                have hex : ∀ j : Nat, ¬ j = 4 → M5 j = M j := fun j q0 => ((congrFun hM5 j).trans (up_ne _ _ q0)).trans (hex j q0)
                have r_1 : M5 (1) = M 1 := ((congrFun hM5 (1)).trans (up_ne _ _ (by omega))).trans r_1
                have r_2 : M5 (2) = M 2 := ((congrFun hM5 (2)).trans (up_ne _ _ (by omega))).trans r_2
                have r_4 : M5 (4) = upd (upd (upd (M 4) 0 (zI (q))) 2 (zI (min (q) (((min n 700 : Nat) : Int))))) 1 (zI (4)) := ((congrFun hM5 _).trans (up_at _ _ _))
                refine lv_aload_n hx hb dX7_advance_150 rfl (lv_at hl 1 rfl) ?_
                refine lv_dup hx hb dX7_advance_151 rfl ?_
                refine va_get (D := g.1) (ci := 7) (v := .int ((upd (M 4) 0 (zI (q))) 0)) (C := RX7) (T := TX7) (N := 5) hx hb hts hinX7 hown hK (hb1 hW (show 4 < 126 by omega) (lcE r_4 sh_4)) 0 rfl rfl 1 (by decide) k13 (fun _ h9 => h9) rfl dX7_advance_152 ?_
                refine z_top (y := zI (q)) (rfl) ?_
                refine lv_iconst (v := zI (1)) hx hb dX7_advance_155 (by decide) ?_
                refine z_iadd hx hb dX7_advance_156 ?_
                refine y_put (ci := 7) (v := .int (zI (q + 1))) (ty := .int) (C := RX7) (T := TX7) (N := 5) hx hb hts hinX7 tyX7 tyX7_ok nmX7 hown hK hW hd9 hS (4) (show 4 < 126 by omega) (lcE r_4 sh_4) rfl 1 (by decide) k13 (fun _ h9 => h9) rfl (by decide +kernel) rfl rfl (Nat.le_of_ble_eq_true rfl) dX7_advance_157 (fun H locs hW hS => ?_)
                have hW := cw_up (P := P) (M := M5) (f := upd (upd (upd (upd (M 4) 0 (zI (q))) 2 (zI (min (q) (((min n 700 : Nat) : Int))))) 1 (zI (4))) 0 (zI (q + 1))) ((sh_4).trans rfl) hW
                obtain ⟨M6, hM6⟩ : ∃ x9c : Nat → Nat → Int32, x9c = va_up M5 (4) (upd (upd (upd (upd (M 4) 0 (zI (q))) 2 (zI (min (q) (((min n 700 : Nat) : Int))))) 1 (zI (4))) 0 (zI (q + 1))) := ⟨_, rfl⟩
                have hW : cw g ad P M6 H := by rw [hM6]; exact hW
                have hex : ∀ j : Nat, ¬ j = 4 → M6 j = M j := fun j q0 => ((congrFun hM6 j).trans (up_ne _ _ q0)).trans (hex j q0)
                have r_1 : M6 (1) = M 1 := ((congrFun hM6 (1)).trans (up_ne _ _ (by omega))).trans r_1
                have r_2 : M6 (2) = M 2 := ((congrFun hM6 (2)).trans (up_ne _ _ (by omega))).trans r_2
                have r_4 : M6 (4) = upd (upd (upd (upd (M 4) 0 (zI (q))) 2 (zI (min (q) (((min n 700 : Nat) : Int))))) 1 (zI (4))) 0 (zI (q + 1)) := ((congrFun hM6 _).trans (up_at _ _ _))
                have hW : cw g ad P (va_up M (4) (tokR (M 4) β n ps)) H := by
                  have e9 : M6 = va_up M (4) (tokR (M 4) β n ps) := by
                    funext i9
                    by_cases q0 : i9 = 4
                    · rw [q0]; exact (r_4.trans (tok_row (M 4) β n ps (congrArg zI (by unfold cNx; rw [if_neg (by rw [hs9]; omega), hs9, if_neg (by unfold ldT isLt isDt; omega)]; omega)) (congrArg zI (by unfold cKi; rw [if_neg (by rw [hs9]; omega), hs9, if_neg (by unfold ldT isLt isDt; omega)]; first | (rw [if_pos (by omega)]; rfl) | (rw [if_neg (by omega)]; rfl))) (congrArg zI (by unfold cPl; rw [hs9]; omega)) (by unfold cNu; rw [if_neg (by rw [hs9]; omega), hs9, if_neg (by unfold ldT isLt isDt; omega)]; rfl) (fun k9 hk9 => by unfold upd; (repeat rw [if_neg (by omega)])))).trans (up_at _ _ _).symm
                    exact (hex i9 q0).trans (up_ne _ _ q0).symm
                  rw [← e9]; exact hW
                exact W.vret hx hb hr (fun tX htX hWX => ⟨⟨(), rfl, trivial, g_at htX hW⟩, hS.F htX⟩) hS.2.2 dX7_advance_160
              · refine lv_iconst (v := zI (3)) hx hb dX7_advance_142 (by decide) ?_
                refine lv_goto (tgt := 147) hx hb dX7_advance_143 (by decide) ?_
                refine y_put (ci := 7) (v := .int (zI (3))) (ty := .int) (C := RX7) (T := TX7) (N := 5) hx hb hts hinX7 tyX7 tyX7_ok nmX7 hown hK hW hd9 hS (4) (show 4 < 126 by omega) (lcE r_4 sh_4) rfl 2 (by decide) k39 (fun _ h9 => h9) rfl (by decide +kernel) rfl rfl (Nat.le_of_ble_eq_true rfl) dX7_advance_147 (fun H locs hW hS => ?_)
                have hW := cw_up (P := P) (M := M2) (f := upd (upd (upd (M 4) 0 (zI (q))) 2 (zI (min (q) (((min n 700 : Nat) : Int))))) 1 (zI (3))) ((sh_4).trans rfl) hW
                obtain ⟨M7, hM7⟩ : ∃ x9c : Nat → Nat → Int32, x9c = va_up M2 (4) (upd (upd (upd (M 4) 0 (zI (q))) 2 (zI (min (q) (((min n 700 : Nat) : Int))))) 1 (zI (3))) := ⟨_, rfl⟩
                have hW : cw g ad P M7 H := by rw [hM7]; exact hW
                have hex : ∀ j : Nat, ¬ j = 4 → M7 j = M j := fun j q0 => ((congrFun hM7 j).trans (up_ne _ _ q0)).trans (hex j q0)
                have r_1 : M7 (1) = M 1 := ((congrFun hM7 (1)).trans (up_ne _ _ (by omega))).trans r_1
                have r_2 : M7 (2) = M 2 := ((congrFun hM7 (2)).trans (up_ne _ _ (by omega))).trans r_2
                have r_4 : M7 (4) = upd (upd (upd (M 4) 0 (zI (q))) 2 (zI (min (q) (((min n 700 : Nat) : Int))))) 1 (zI (3)) := ((congrFun hM7 _).trans (up_at _ _ _))
                refine lv_aload_n hx hb dX7_advance_150 rfl (lv_at hl 1 rfl) ?_
                refine lv_dup hx hb dX7_advance_151 rfl ?_
                refine va_get (D := g.1) (ci := 7) (v := .int ((upd (M 4) 0 (zI (q))) 0)) (C := RX7) (T := TX7) (N := 5) hx hb hts hinX7 hown hK (hb1 hW (show 4 < 126 by omega) (lcE r_4 sh_4)) 0 rfl rfl 1 (by decide) k13 (fun _ h9 => h9) rfl dX7_advance_152 ?_
                refine z_top (y := zI (q)) (rfl) ?_
                refine lv_iconst (v := zI (1)) hx hb dX7_advance_155 (by decide) ?_
                refine z_iadd hx hb dX7_advance_156 ?_
                refine y_put (ci := 7) (v := .int (zI (q + 1))) (ty := .int) (C := RX7) (T := TX7) (N := 5) hx hb hts hinX7 tyX7 tyX7_ok nmX7 hown hK hW hd9 hS (4) (show 4 < 126 by omega) (lcE r_4 sh_4) rfl 1 (by decide) k13 (fun _ h9 => h9) rfl (by decide +kernel) rfl rfl (Nat.le_of_ble_eq_true rfl) dX7_advance_157 (fun H locs hW hS => ?_)
                have hW := cw_up (P := P) (M := M7) (f := upd (upd (upd (upd (M 4) 0 (zI (q))) 2 (zI (min (q) (((min n 700 : Nat) : Int))))) 1 (zI (3))) 0 (zI (q + 1))) ((sh_4).trans rfl) hW
                obtain ⟨M8, hM8⟩ : ∃ x9c : Nat → Nat → Int32, x9c = va_up M7 (4) (upd (upd (upd (upd (M 4) 0 (zI (q))) 2 (zI (min (q) (((min n 700 : Nat) : Int))))) 1 (zI (3))) 0 (zI (q + 1))) := ⟨_, rfl⟩
                have hW : cw g ad P M8 H := by rw [hM8]; exact hW
                have hex : ∀ j : Nat, ¬ j = 4 → M8 j = M j := fun j q0 => ((congrFun hM8 j).trans (up_ne _ _ q0)).trans (hex j q0)
                have r_1 : M8 (1) = M 1 := ((congrFun hM8 (1)).trans (up_ne _ _ (by omega))).trans r_1
                have r_2 : M8 (2) = M 2 := ((congrFun hM8 (2)).trans (up_ne _ _ (by omega))).trans r_2
                have r_4 : M8 (4) = upd (upd (upd (upd (M 4) 0 (zI (q))) 2 (zI (min (q) (((min n 700 : Nat) : Int))))) 1 (zI (3))) 0 (zI (q + 1)) := ((congrFun hM8 _).trans (up_at _ _ _))
                have hW : cw g ad P (va_up M (4) (tokR (M 4) β n ps)) H := by
                  have e9 : M8 = va_up M (4) (tokR (M 4) β n ps) := by
                    funext i9
                    by_cases q0 : i9 = 4
                    · rw [q0]; exact (r_4.trans (tok_row (M 4) β n ps (congrArg zI (by unfold cNx; rw [if_neg (by rw [hs9]; omega), hs9, if_neg (by unfold ldT isLt isDt; omega)]; omega)) (congrArg zI (by unfold cKi; rw [if_neg (by rw [hs9]; omega), hs9, if_neg (by unfold ldT isLt isDt; omega)]; first | (rw [if_pos (by omega)]; rfl) | (rw [if_neg (by omega)]; rfl))) (congrArg zI (by unfold cPl; rw [hs9]; omega)) (by unfold cNu; rw [if_neg (by rw [hs9]; omega), hs9, if_neg (by unfold ldT isLt isDt; omega)]; rfl) (fun k9 hk9 => by unfold upd; (repeat rw [if_neg (by omega)])))).trans (up_at _ _ _).symm
                    exact (hex i9 q0).trans (up_ne _ _ q0).symm
                  rw [← e9]; exact hW
                exact W.vret hx hb hr (fun tX htX hWX => ⟨⟨(), rfl, trivial, g_at htX hW⟩, hS.F htX⟩) hS.2.2 dX7_advance_160
            · refine lv_aload_n hx hb dX7_advance_117 rfl (lv_at hl 1 rfl) ?_
              have rb4 := r_4
              refine va_callv (va_runV (As := []) (rest := []) ⟨hx, hb, hml, hown, hts⟩ (c_X7_readRun l g (ad) (hd9) (P) (M2) (β) (n) (hn) ((congrFun r_1 0).trans hz) (fun i hi => ⟨(congrFun r_2 i).trans (hβ i hi).1, (hβ i hi).2⟩) (q) (by omega) ((congrFun r_4 0).trans rfl)) (cwV 0 hts gX7_advance_X7_readRun rfl rfl rfl (by decide +kernel) ⟨Nat.le_of_ble_eq_true rfl, Nat.le_of_ble_eq_true rfl⟩) (g_preV hW hK (va_recv hK (hb1 hW (show 4 < 126 by omega) (lcE r_4 sh_4)) (q0 := 0) (ci := 7) rfl rfl)) rfl rfl hl.1 rfl (lv_room (Nat.le_of_ble_eq_true rfl)) dX7_advance_118 ⟨Nat.le_of_ble_eq_true rfl, Nat.le_of_ble_eq_true rfl⟩) hS (fun q _ h => h) (fun q h => h) (fun u8 t9 H1 locs ht9 hvm9 hw9 hB9 hz9 hk9 hS => ?_)
              rw [ht9] at hB9
              clear hz9 hk9 hvm9 ht9
              generalize H1 = H at hB9 hS ⊢
              have hW := hB9
              clear hB9
              have hW : cw g ad P (va_up M2 (4) (runR (M2 4) β n q)) H := hW
              obtain ⟨M10, hM10⟩ : ∃ x9c : Nat → Nat → Int32, x9c = va_up M2 (4) (runR (M2 4) β n q) := ⟨_, rfl⟩
              have hW : cw g ad P M10 H := by rw [hM10]; exact hW
              have hex : ∀ j : Nat, ¬ j = 4 → M10 j = M j := fun j q0 => ((congrFun hM10 j).trans (up_ne _ _ q0)).trans (hex j q0)
              have r_1 : M10 (1) = M 1 := ((congrFun hM10 (1)).trans (up_ne _ _ (by omega))).trans r_1
              have r_2 : M10 (2) = M 2 := ((congrFun hM10 (2)).trans (up_ne _ _ (by omega))).trans r_2
              have r_4 : M10 (4) = runR (M2 4) β n q := ((congrFun hM10 _).trans (up_at _ _ _))
              refine lv_goto (tgt := 160) hx hb dX7_advance_121 (by decide) ?_
              have hW : cw g ad P (va_up M (4) (tokR (M 4) β n ps)) H := by
                have e9 : M10 = va_up M (4) (tokR (M 4) β n ps) := by
                  funext i9
                  by_cases q0 : i9 = 4
                  · rw [q0]; exact (r_4.trans (tok_row (M 4) β n ps (congrArg zI (by unfold cNx; rw [if_neg (by rw [hs9]; omega), hs9, if_pos (by unfold ldT isLt isDt; omega)])) (congrArg zI (by unfold cKi; rw [if_neg (by rw [hs9]; omega), hs9, if_pos (by unfold ldT isLt isDt; omega)])) ((congrFun rb4 2).trans (congrArg zI (by unfold cPl; rw [hs9]; omega))) (by unfold cNu; rw [if_neg (by rw [hs9]; omega), hs9, if_pos (by unfold ldT isLt isDt; omega)]; rfl) (fun k9 hk9 => by unfold runR upd; (repeat rw [if_neg (by omega)]); exact (congrFun rb4 k9).trans (by unfold upd; (repeat rw [if_neg (by omega)]))))).trans (up_at _ _ _).symm
                  exact (hex i9 q0).trans (up_ne _ _ q0).symm
                rw [← e9]; exact hW
              exact W.vret hx hb hr (fun tX htX hWX => ⟨⟨(), rfl, trivial, g_at htX hW⟩, hS.F htX⟩) hS.2.2 dX7_advance_160
        · refine lv_aload_n hx hb dX7_advance_73 rfl (lv_at hl 1 rfl) ?_
          refine lv_iconst (v := zI (0)) hx hb dX7_advance_74 (by decide) ?_
          refine y_put (ci := 7) (v := .int (zI (0))) (ty := .int) (C := RX7) (T := TX7) (N := 5) hx hb hts hinX7 tyX7 tyX7_ok nmX7 hown hK hW hd9 hS (4) (show 4 < 126 by omega) (lcE r_4 sh_4) rfl 2 (by decide) k39 (fun _ h9 => h9) rfl (by decide +kernel) rfl rfl (Nat.le_of_ble_eq_true rfl) dX7_advance_75 (fun H locs hW hS => ?_)
          have hW := cw_up (P := P) (M := M2) (f := upd (upd (upd (M 4) 0 (zI (q))) 2 (zI (min (q) (((min n 700 : Nat) : Int))))) 1 (zI (0))) ((sh_4).trans rfl) hW
          obtain ⟨M11, hM11⟩ : ∃ x9c : Nat → Nat → Int32, x9c = va_up M2 (4) (upd (upd (upd (M 4) 0 (zI (q))) 2 (zI (min (q) (((min n 700 : Nat) : Int))))) 1 (zI (0))) := ⟨_, rfl⟩
          have hW : cw g ad P M11 H := by rw [hM11]; exact hW
          have hex : ∀ j : Nat, ¬ j = 4 → M11 j = M j := fun j q0 => ((congrFun hM11 j).trans (up_ne _ _ q0)).trans (hex j q0)
          have r_1 : M11 (1) = M 1 := ((congrFun hM11 (1)).trans (up_ne _ _ (by omega))).trans r_1
          have r_2 : M11 (2) = M 2 := ((congrFun hM11 (2)).trans (up_ne _ _ (by omega))).trans r_2
          have r_4 : M11 (4) = upd (upd (upd (M 4) 0 (zI (q))) 2 (zI (min (q) (((min n 700 : Nat) : Int))))) 1 (zI (0)) := ((congrFun hM11 _).trans (up_at _ _ _))
          refine lv_goto (tgt := 160) hx hb dX7_advance_78 (by decide) ?_
          have hW : cw g ad P (va_up M (4) (tokR (M 4) β n ps)) H := by
            have e9 : M11 = va_up M (4) (tokR (M 4) β n ps) := by
              funext i9
              by_cases q0 : i9 = 4
              · rw [q0]; exact (r_4.trans (tok_row (M 4) β n ps (congrArg zI (by unfold cNx; rw [if_pos (by rw [hs9]; omega), hs9])) (congrArg zI (by unfold cKi; rw [if_pos (by rw [hs9]; omega)]; rfl)) (congrArg zI (by unfold cPl; rw [hs9]; omega)) (by unfold cNu; rw [if_pos (by rw [hs9]; omega)]; rfl) (fun k9 hk9 => by unfold upd; (repeat rw [if_neg (by omega)])))).trans (up_at _ _ _).symm
              exact (hex i9 q0).trans (up_ne _ _ q0).symm
            rw [← e9]; exact hW
          exact W.vret hx hb hr (fun tX htX hWX => ⟨⟨(), rfl, trivial, g_at htX hW⟩, hS.F htX⟩) hS.2.2 dX7_advance_160
      · have hsb := sb_cases (hβ q (by omega)).2
        refine lv_aload_n hx hb dX7_advance_22 rfl (lv_at hl 1 rfl) ?_
        refine va_get (D := g.1) (ci := 7) (v := .ref ((ad 1))) (C := RX7) (T := TX7) (N := 5) hx hb hts hinX7 hown hK (hb1 hW (show 4 < 126 by omega) (lcE r_4 sh_4)) 0 rfl rfl 0 (by decide) k7 (fun _ h9 => h9) rfl dX7_advance_23 ?_
        refine va_get (D := g.1) (ci := 5) (v := .ref ((ad 2))) (C := RX5) (T := TX5) (N := 2) hx hb hts hinX5 hown hK (hb1 hW (show 1 < 126 by omega) (lcE r_1 sh_1)) 0 rfl rfl 0 (by decide) k28 (fun _ h9 => h9) rfl dX7_advance_26 ?_
        refine lv_aload_n hx hb dX7_advance_29 rfl (lv_at hl 1 rfl) ?_
        refine va_get (D := g.1) (ci := 7) (v := .int ((upd (M 4) 0 (zI (q))) 0)) (C := RX7) (T := TX7) (N := 5) hx hb hts hinX7 hown hK (hb1 hW (show 4 < 126 by omega) (lcE r_4 sh_4)) 0 rfl rfl 1 (by decide) k13 (fun _ h9 => h9) rfl dX7_advance_30 ?_
        refine z_top (y := zI (q)) (upd_at _ _ _) ?_
        refine z_bald hx hb hK (hb1 hW (show 2 < 126 by omega) (lcE r_2 sh_2)) 0 1 rfl rfl (by decide) (q) (by omega) (by omega) dX7_advance_33 ?_
        refine z_top (y := zI (sbI (β q))) ((hβ q (by omega)).1) ?_
        refine vp_callSi (va_Run.run (va_runS (As := [.int (zI (sbI (β q)))]) (rest := []) ⟨hx, hb, hml, hown, hts⟩ (c_X7_isBlank l (sbI (β q)) (by have := sb_cases (hβ q (by omega)).2; omega)) (va_cwS 1 hts gX7_advance_X7_isBlank rfl rfl rfl (by decide +kernel) ⟨Nat.le_of_ble_eq_true rfl, Nat.le_of_ble_eq_true rfl⟩) g_preS0 rfl rfl hl.1 rfl (lv_room (Nat.le_of_ble_eq_true rfl)) dX7_advance_34 ⟨Nat.le_of_ble_eq_true rfl, Nat.le_of_ble_eq_true rfl⟩)) (fun r hr9 => ?_)
        subst hr9
        refine z_bz_eq (tgt := 53) hx hb dX7_advance_37 (by decide) (fun h37 => ?_) (fun h37 => ?_)
        · have hs9 : cSk β n ps = q := hq9.trans (skip_x (fun z => by omega))
          refine lv_aload_n hx hb dX7_advance_53 rfl (lv_at hl 1 rfl) ?_
          refine lv_aload_n hx hb dX7_advance_54 rfl (lv_at hl 1 rfl) ?_
          refine va_get (D := g.1) (ci := 7) (v := .int ((upd (M 4) 0 (zI (q))) 0)) (C := RX7) (T := TX7) (N := 5) hx hb hts hinX7 hown hK (hb1 hW (show 4 < 126 by omega) (lcE r_4 sh_4)) 0 rfl rfl 1 (by decide) k13 (fun _ h9 => h9) rfl dX7_advance_55 ?_
          refine z_top (y := zI (q)) (rfl) ?_
          refine lv_iload_n hx hb dX7_advance_58 rfl (lv_at hl 0 rfl) ?_
          refine z_mmin hx hb (hml.trans hl.1.symm) hown k22 kSmin kM kCmin (Nat.le_of_ble_eq_true rfl) (Nat.le_of_ble_eq_true rfl) (Nat.zero_le _) (Nat.zero_le _) (by omega) (by omega) dX7_advance_59 ?_
          refine y_put (ci := 7) (v := .int (zI (min (q) (((min n 700 : Nat) : Int))))) (ty := .int) (C := RX7) (T := TX7) (N := 5) hx hb hts hinX7 tyX7 tyX7_ok nmX7 hown hK hW hd9 hS (4) (show 4 < 126 by omega) (lcE r_4 sh_4) rfl 3 (by decide) k36 (fun _ h9 => h9) rfl (by decide +kernel) rfl rfl (Nat.le_of_ble_eq_true rfl) dX7_advance_62 (fun H locs hW hS => ?_)
          have hW := cw_up (P := P) (M := M1) (f := upd (upd (M 4) 0 (zI (q))) 2 (zI (min (q) (((min n 700 : Nat) : Int))))) ((sh_4).trans rfl) hW
          obtain ⟨M12, hM12⟩ : ∃ x9c : Nat → Nat → Int32, x9c = va_up M1 (4) (upd (upd (M 4) 0 (zI (q))) 2 (zI (min (q) (((min n 700 : Nat) : Int))))) := ⟨_, rfl⟩
          have hW : cw g ad P M12 H := by rw [hM12]; exact hW
          have hex : ∀ j : Nat, ¬ j = 4 → M12 j = M j := fun j q0 => ((congrFun hM12 j).trans (up_ne _ _ q0)).trans (hex j q0)
          have r_1 : M12 (1) = M 1 := ((congrFun hM12 (1)).trans (up_ne _ _ (by omega))).trans r_1
          have r_2 : M12 (2) = M 2 := ((congrFun hM12 (2)).trans (up_ne _ _ (by omega))).trans r_2
          have r_4 : M12 (4) = upd (upd (M 4) 0 (zI (q))) 2 (zI (min (q) (((min n 700 : Nat) : Int)))) := ((congrFun hM12 _).trans (up_at _ _ _))
          refine lv_aload_n hx hb dX7_advance_65 rfl (lv_at hl 1 rfl) ?_
          refine va_get (D := g.1) (ci := 7) (v := .int ((upd (M 4) 0 (zI (q))) 0)) (C := RX7) (T := TX7) (N := 5) hx hb hts hinX7 hown hK (hb1 hW (show 4 < 126 by omega) (lcE r_4 sh_4)) 0 rfl rfl 1 (by decide) k13 (fun _ h9 => h9) rfl dX7_advance_66 ?_
          refine z_top (y := zI (q)) (rfl) ?_
          refine lv_iload_n hx hb dX7_advance_69 rfl (lv_at hl 0 rfl) ?_
          refine z_icmp_lt (tgt := 81) hx hb dX7_advance_70 (by decide) (by omega) (by omega) (fun h70 => ?_) (fun h70 => ?_)
          · have hsb := sb_cases (hβ q (by omega)).2
            refine lv_aload_n hx hb dX7_advance_81 rfl (lv_at hl 1 rfl) ?_
            refine va_get (D := g.1) (ci := 7) (v := .ref ((ad 1))) (C := RX7) (T := TX7) (N := 5) hx hb hts hinX7 hown hK (hb1 hW (show 4 < 126 by omega) (lcE r_4 sh_4)) 0 rfl rfl 0 (by decide) k7 (fun _ h9 => h9) rfl dX7_advance_82 ?_
            refine va_get (D := g.1) (ci := 5) (v := .ref ((ad 2))) (C := RX5) (T := TX5) (N := 2) hx hb hts hinX5 hown hK (hb1 hW (show 1 < 126 by omega) (lcE r_1 sh_1)) 0 rfl rfl 0 (by decide) k28 (fun _ h9 => h9) rfl dX7_advance_85 ?_
            refine lv_aload_n hx hb dX7_advance_88 rfl (lv_at hl 1 rfl) ?_
            refine va_get (D := g.1) (ci := 7) (v := .int ((upd (M 4) 0 (zI (q))) 0)) (C := RX7) (T := TX7) (N := 5) hx hb hts hinX7 hown hK (hb1 hW (show 4 < 126 by omega) (lcE r_4 sh_4)) 0 rfl rfl 1 (by decide) k13 (fun _ h9 => h9) rfl dX7_advance_89 ?_
            refine z_top (y := zI (q)) (rfl) ?_
            refine z_bald hx hb hK (hb1 hW (show 2 < 126 by omega) (lcE r_2 sh_2)) 0 1 rfl rfl (by decide) (q) (by omega) (by omega) dX7_advance_92 ?_
            refine z_top (y := zI (sbI (β q))) ((hβ q (by omega)).1) ?_
            refine vp_callSi (va_Run.run (va_runS (As := [.int (zI (sbI (β q)))]) (rest := []) ⟨hx, hb, hml, hown, hts⟩ (c_X7_isLetter l (sbI (β q)) (by have := sb_cases (hβ q (by omega)).2; omega)) (va_cwS 1 hts gX7_advance_X7_isLetter rfl rfl rfl (by decide +kernel) ⟨Nat.le_of_ble_eq_true rfl, Nat.le_of_ble_eq_true rfl⟩) g_preS0 rfl rfl hl.1 rfl (lv_room (Nat.le_of_ble_eq_true rfl)) dX7_advance_93 ⟨Nat.le_of_ble_eq_true rfl, Nat.le_of_ble_eq_true rfl⟩)) (fun r hr9 => ?_)
            subst hr9
            refine z_bz_ne (tgt := 117) hx hb dX7_advance_96 (by decide) (fun h96 => ?_) (fun h96 => ?_)
            · refine lv_aload_n hx hb dX7_advance_117 rfl (lv_at hl 1 rfl) ?_
              have rb4 := r_4
              refine va_callv (va_runV (As := []) (rest := []) ⟨hx, hb, hml, hown, hts⟩ (c_X7_readRun l g (ad) (hd9) (P) (M12) (β) (n) (hn) ((congrFun r_1 0).trans hz) (fun i hi => ⟨(congrFun r_2 i).trans (hβ i hi).1, (hβ i hi).2⟩) (q) (by omega) ((congrFun r_4 0).trans rfl)) (cwV 0 hts gX7_advance_X7_readRun rfl rfl rfl (by decide +kernel) ⟨Nat.le_of_ble_eq_true rfl, Nat.le_of_ble_eq_true rfl⟩) (g_preV hW hK (va_recv hK (hb1 hW (show 4 < 126 by omega) (lcE r_4 sh_4)) (q0 := 0) (ci := 7) rfl rfl)) rfl rfl hl.1 rfl (lv_room (Nat.le_of_ble_eq_true rfl)) dX7_advance_118 ⟨Nat.le_of_ble_eq_true rfl, Nat.le_of_ble_eq_true rfl⟩) hS (fun q _ h => h) (fun q h => h) (fun u12 t9 H1 locs ht9 hvm9 hw9 hB9 hz9 hk9 hS => ?_)
              rw [ht9] at hB9
              clear hz9 hk9 hvm9 ht9
              generalize H1 = H at hB9 hS ⊢
              have hW := hB9
              clear hB9
              have hW : cw g ad P (va_up M12 (4) (runR (M12 4) β n q)) H := hW
              obtain ⟨M14, hM14⟩ : ∃ x9c : Nat → Nat → Int32, x9c = va_up M12 (4) (runR (M12 4) β n q) := ⟨_, rfl⟩
              have hW : cw g ad P M14 H := by rw [hM14]; exact hW
              have hex : ∀ j : Nat, ¬ j = 4 → M14 j = M j := fun j q0 => ((congrFun hM14 j).trans (up_ne _ _ q0)).trans (hex j q0)
              have r_1 : M14 (1) = M 1 := ((congrFun hM14 (1)).trans (up_ne _ _ (by omega))).trans r_1
              have r_2 : M14 (2) = M 2 := ((congrFun hM14 (2)).trans (up_ne _ _ (by omega))).trans r_2
              have r_4 : M14 (4) = runR (M12 4) β n q := ((congrFun hM14 _).trans (up_at _ _ _))
              refine lv_goto (tgt := 160) hx hb dX7_advance_121 (by decide) ?_
              have hW : cw g ad P (va_up M (4) (tokR (M 4) β n ps)) H := by
                have e9 : M14 = va_up M (4) (tokR (M 4) β n ps) := by
                  funext i9
                  by_cases q0 : i9 = 4
                  · rw [q0]; exact (r_4.trans (tok_row (M 4) β n ps (congrArg zI (by unfold cNx; rw [if_neg (by rw [hs9]; omega), hs9, if_pos (by unfold ldT isLt isDt; omega)])) (congrArg zI (by unfold cKi; rw [if_neg (by rw [hs9]; omega), hs9, if_pos (by unfold ldT isLt isDt; omega)])) ((congrFun rb4 2).trans (congrArg zI (by unfold cPl; rw [hs9]; omega))) (by unfold cNu; rw [if_neg (by rw [hs9]; omega), hs9, if_pos (by unfold ldT isLt isDt; omega)]; rfl) (fun k9 hk9 => by unfold runR upd; (repeat rw [if_neg (by omega)]); exact (congrFun rb4 k9).trans (by unfold upd; (repeat rw [if_neg (by omega)]))))).trans (up_at _ _ _).symm
                  exact (hex i9 q0).trans (up_ne _ _ q0).symm
                rw [← e9]; exact hW
              exact W.vret hx hb hr (fun tX htX hWX => ⟨⟨(), rfl, trivial, g_at htX hW⟩, hS.F htX⟩) hS.2.2 dX7_advance_160
            · refine lv_aload_n hx hb dX7_advance_99 rfl (lv_at hl 1 rfl) ?_
              refine va_get (D := g.1) (ci := 7) (v := .ref ((ad 1))) (C := RX7) (T := TX7) (N := 5) hx hb hts hinX7 hown hK (hb1 hW (show 4 < 126 by omega) (lcE r_4 sh_4)) 0 rfl rfl 0 (by decide) k7 (fun _ h9 => h9) rfl dX7_advance_100 ?_
              refine va_get (D := g.1) (ci := 5) (v := .ref ((ad 2))) (C := RX5) (T := TX5) (N := 2) hx hb hts hinX5 hown hK (hb1 hW (show 1 < 126 by omega) (lcE r_1 sh_1)) 0 rfl rfl 0 (by decide) k28 (fun _ h9 => h9) rfl dX7_advance_103 ?_
              refine lv_aload_n hx hb dX7_advance_106 rfl (lv_at hl 1 rfl) ?_
              refine va_get (D := g.1) (ci := 7) (v := .int ((upd (M 4) 0 (zI (q))) 0)) (C := RX7) (T := TX7) (N := 5) hx hb hts hinX7 hown hK (hb1 hW (show 4 < 126 by omega) (lcE r_4 sh_4)) 0 rfl rfl 1 (by decide) k13 (fun _ h9 => h9) rfl dX7_advance_107 ?_
              refine z_top (y := zI (q)) (rfl) ?_
              refine z_bald hx hb hK (hb1 hW (show 2 < 126 by omega) (lcE r_2 sh_2)) 0 1 rfl rfl (by decide) (q) (by omega) (by omega) dX7_advance_110 ?_
              refine z_top (y := zI (sbI (β q))) ((hβ q (by omega)).1) ?_
              refine vp_callSi (va_Run.run (va_runS (As := [.int (zI (sbI (β q)))]) (rest := []) ⟨hx, hb, hml, hown, hts⟩ (c_X7_isDigit l (sbI (β q)) (by have := sb_cases (hβ q (by omega)).2; omega)) (va_cwS 1 hts gX7_advance_X7_isDigit rfl rfl rfl (by decide +kernel) ⟨Nat.le_of_ble_eq_true rfl, Nat.le_of_ble_eq_true rfl⟩) g_preS0 rfl rfl hl.1 rfl (lv_room (Nat.le_of_ble_eq_true rfl)) dX7_advance_111 ⟨Nat.le_of_ble_eq_true rfl, Nat.le_of_ble_eq_true rfl⟩)) (fun r hr9 => ?_)
              subst hr9
              refine z_bz_eq (tgt := 124) hx hb dX7_advance_114 (by decide) (fun h114 => ?_) (fun h114 => ?_)
              · refine lv_aload_n hx hb dX7_advance_124 rfl (lv_at hl 1 rfl) ?_
                refine lv_aload_n hx hb dX7_advance_125 rfl (lv_at hl 1 rfl) ?_
                refine va_get (D := g.1) (ci := 7) (v := .ref ((ad 1))) (C := RX7) (T := TX7) (N := 5) hx hb hts hinX7 hown hK (hb1 hW (show 4 < 126 by omega) (lcE r_4 sh_4)) 0 rfl rfl 0 (by decide) k7 (fun _ h9 => h9) rfl dX7_advance_126 ?_
                refine va_get (D := g.1) (ci := 5) (v := .ref ((ad 2))) (C := RX5) (T := TX5) (N := 2) hx hb hts hinX5 hown hK (hb1 hW (show 1 < 126 by omega) (lcE r_1 sh_1)) 0 rfl rfl 0 (by decide) k28 (fun _ h9 => h9) rfl dX7_advance_129 ?_
                refine lv_aload_n hx hb dX7_advance_132 rfl (lv_at hl 1 rfl) ?_
                refine va_get (D := g.1) (ci := 7) (v := .int ((upd (M 4) 0 (zI (q))) 0)) (C := RX7) (T := TX7) (N := 5) hx hb hts hinX7 hown hK (hb1 hW (show 4 < 126 by omega) (lcE r_4 sh_4)) 0 rfl rfl 1 (by decide) k13 (fun _ h9 => h9) rfl dX7_advance_133 ?_
                refine z_top (y := zI (q)) (rfl) ?_
                refine z_bald hx hb hK (hb1 hW (show 2 < 126 by omega) (lcE r_2 sh_2)) 0 1 rfl rfl (by decide) (q) (by omega) (by omega) dX7_advance_136 ?_
                refine z_top (y := zI (sbI (β q))) ((hβ q (by omega)).1) ?_
                refine lv_bipush (v := zI (59)) hx hb dX7_advance_137 (by decide) ?_
                refine z_icmp_ne (tgt := 146) hx hb dX7_advance_139 (by decide) (by omega) (by omega) (fun h139 => ?_) (fun h139 => ?_)
                · refine lv_iconst (v := zI (4)) hx hb dX7_advance_146 (by decide) ?_
                  refine y_put (ci := 7) (v := .int (zI (4))) (ty := .int) (C := RX7) (T := TX7) (N := 5) hx hb hts hinX7 tyX7 tyX7_ok nmX7 hown hK hW hd9 hS (4) (show 4 < 126 by omega) (lcE r_4 sh_4) rfl 2 (by decide) k39 (fun _ h9 => h9) rfl (by decide +kernel) rfl rfl (Nat.le_of_ble_eq_true rfl) dX7_advance_147 (fun H locs hW hS => ?_)
                  have hW := cw_up (P := P) (M := M12) (f := upd (upd (upd (M 4) 0 (zI (q))) 2 (zI (min (q) (((min n 700 : Nat) : Int))))) 1 (zI (4))) ((sh_4).trans rfl) hW
                  obtain ⟨M15, hM15⟩ : ∃ x9c : Nat → Nat → Int32, x9c = va_up M12 (4) (upd (upd (upd (M 4) 0 (zI (q))) 2 (zI (min (q) (((min n 700 : Nat) : Int))))) 1 (zI (4))) := ⟨_, rfl⟩
                  have hW : cw g ad P M15 H := by rw [hM15]; exact hW
                  have hex : ∀ j : Nat, ¬ j = 4 → M15 j = M j := fun j q0 => ((congrFun hM15 j).trans (up_ne _ _ q0)).trans (hex j q0)
                  have r_1 : M15 (1) = M 1 := ((congrFun hM15 (1)).trans (up_ne _ _ (by omega))).trans r_1
                  have r_2 : M15 (2) = M 2 := ((congrFun hM15 (2)).trans (up_ne _ _ (by omega))).trans r_2
                  have r_4 : M15 (4) = upd (upd (upd (M 4) 0 (zI (q))) 2 (zI (min (q) (((min n 700 : Nat) : Int))))) 1 (zI (4)) := ((congrFun hM15 _).trans (up_at _ _ _))
                  refine lv_aload_n hx hb dX7_advance_150 rfl (lv_at hl 1 rfl) ?_
                  refine lv_dup hx hb dX7_advance_151 rfl ?_
                  refine va_get (D := g.1) (ci := 7) (v := .int ((upd (M 4) 0 (zI (q))) 0)) (C := RX7) (T := TX7) (N := 5) hx hb hts hinX7 hown hK (hb1 hW (show 4 < 126 by omega) (lcE r_4 sh_4)) 0 rfl rfl 1 (by decide) k13 (fun _ h9 => h9) rfl dX7_advance_152 ?_
                  refine z_top (y := zI (q)) (rfl) ?_
                  refine lv_iconst (v := zI (1)) hx hb dX7_advance_155 (by decide) ?_
                  refine z_iadd hx hb dX7_advance_156 ?_
                  refine y_put (ci := 7) (v := .int (zI (q + 1))) (ty := .int) (C := RX7) (T := TX7) (N := 5) hx hb hts hinX7 tyX7 tyX7_ok nmX7 hown hK hW hd9 hS (4) (show 4 < 126 by omega) (lcE r_4 sh_4) rfl 1 (by decide) k13 (fun _ h9 => h9) rfl (by decide +kernel) rfl rfl (Nat.le_of_ble_eq_true rfl) dX7_advance_157 (fun H locs hW hS => ?_)
                  have hW := cw_up (P := P) (M := M15) (f := upd (upd (upd (upd (M 4) 0 (zI (q))) 2 (zI (min (q) (((min n 700 : Nat) : Int))))) 1 (zI (4))) 0 (zI (q + 1))) ((sh_4).trans rfl) hW
                  obtain ⟨M16, hM16⟩ : ∃ x9c : Nat → Nat → Int32, x9c = va_up M15 (4) (upd (upd (upd (upd (M 4) 0 (zI (q))) 2 (zI (min (q) (((min n 700 : Nat) : Int))))) 1 (zI (4))) 0 (zI (q + 1))) := ⟨_, rfl⟩
                  have hW : cw g ad P M16 H := by rw [hM16]; exact hW
                  have hex : ∀ j : Nat, ¬ j = 4 → M16 j = M j := fun j q0 => ((congrFun hM16 j).trans (up_ne _ _ q0)).trans (hex j q0)
                  have r_1 : M16 (1) = M 1 := ((congrFun hM16 (1)).trans (up_ne _ _ (by omega))).trans r_1
                  have r_2 : M16 (2) = M 2 := ((congrFun hM16 (2)).trans (up_ne _ _ (by omega))).trans r_2
                  have r_4 : M16 (4) = upd (upd (upd (upd (M 4) 0 (zI (q))) 2 (zI (min (q) (((min n 700 : Nat) : Int))))) 1 (zI (4))) 0 (zI (q + 1)) := ((congrFun hM16 _).trans (up_at _ _ _))
                  have hW : cw g ad P (va_up M (4) (tokR (M 4) β n ps)) H := by
                    have e9 : M16 = va_up M (4) (tokR (M 4) β n ps) := by
                      funext i9
                      by_cases q0 : i9 = 4
                      · rw [q0]; exact (r_4.trans (tok_row (M 4) β n ps (congrArg zI (by unfold cNx; rw [if_neg (by rw [hs9]; omega), hs9, if_neg (by unfold ldT isLt isDt; omega)]; omega)) (congrArg zI (by unfold cKi; rw [if_neg (by rw [hs9]; omega), hs9, if_neg (by unfold ldT isLt isDt; omega)]; first | (rw [if_pos (by omega)]; rfl) | (rw [if_neg (by omega)]; rfl))) (congrArg zI (by unfold cPl; rw [hs9]; omega)) (by unfold cNu; rw [if_neg (by rw [hs9]; omega), hs9, if_neg (by unfold ldT isLt isDt; omega)]; rfl) (fun k9 hk9 => by unfold upd; (repeat rw [if_neg (by omega)])))).trans (up_at _ _ _).symm
                      exact (hex i9 q0).trans (up_ne _ _ q0).symm
                    rw [← e9]; exact hW
                  exact W.vret hx hb hr (fun tX htX hWX => ⟨⟨(), rfl, trivial, g_at htX hW⟩, hS.F htX⟩) hS.2.2 dX7_advance_160
                · refine lv_iconst (v := zI (3)) hx hb dX7_advance_142 (by decide) ?_
                  refine lv_goto (tgt := 147) hx hb dX7_advance_143 (by decide) ?_
                  refine y_put (ci := 7) (v := .int (zI (3))) (ty := .int) (C := RX7) (T := TX7) (N := 5) hx hb hts hinX7 tyX7 tyX7_ok nmX7 hown hK hW hd9 hS (4) (show 4 < 126 by omega) (lcE r_4 sh_4) rfl 2 (by decide) k39 (fun _ h9 => h9) rfl (by decide +kernel) rfl rfl (Nat.le_of_ble_eq_true rfl) dX7_advance_147 (fun H locs hW hS => ?_)
                  have hW := cw_up (P := P) (M := M12) (f := upd (upd (upd (M 4) 0 (zI (q))) 2 (zI (min (q) (((min n 700 : Nat) : Int))))) 1 (zI (3))) ((sh_4).trans rfl) hW
                  obtain ⟨M17, hM17⟩ : ∃ x9c : Nat → Nat → Int32, x9c = va_up M12 (4) (upd (upd (upd (M 4) 0 (zI (q))) 2 (zI (min (q) (((min n 700 : Nat) : Int))))) 1 (zI (3))) := ⟨_, rfl⟩
                  have hW : cw g ad P M17 H := by rw [hM17]; exact hW
                  have hex : ∀ j : Nat, ¬ j = 4 → M17 j = M j := fun j q0 => ((congrFun hM17 j).trans (up_ne _ _ q0)).trans (hex j q0)
                  have r_1 : M17 (1) = M 1 := ((congrFun hM17 (1)).trans (up_ne _ _ (by omega))).trans r_1
                  have r_2 : M17 (2) = M 2 := ((congrFun hM17 (2)).trans (up_ne _ _ (by omega))).trans r_2
                  have r_4 : M17 (4) = upd (upd (upd (M 4) 0 (zI (q))) 2 (zI (min (q) (((min n 700 : Nat) : Int))))) 1 (zI (3)) := ((congrFun hM17 _).trans (up_at _ _ _))
                  refine lv_aload_n hx hb dX7_advance_150 rfl (lv_at hl 1 rfl) ?_
                  refine lv_dup hx hb dX7_advance_151 rfl ?_
                  refine va_get (D := g.1) (ci := 7) (v := .int ((upd (M 4) 0 (zI (q))) 0)) (C := RX7) (T := TX7) (N := 5) hx hb hts hinX7 hown hK (hb1 hW (show 4 < 126 by omega) (lcE r_4 sh_4)) 0 rfl rfl 1 (by decide) k13 (fun _ h9 => h9) rfl dX7_advance_152 ?_
                  refine z_top (y := zI (q)) (rfl) ?_
                  refine lv_iconst (v := zI (1)) hx hb dX7_advance_155 (by decide) ?_
                  refine z_iadd hx hb dX7_advance_156 ?_
                  refine y_put (ci := 7) (v := .int (zI (q + 1))) (ty := .int) (C := RX7) (T := TX7) (N := 5) hx hb hts hinX7 tyX7 tyX7_ok nmX7 hown hK hW hd9 hS (4) (show 4 < 126 by omega) (lcE r_4 sh_4) rfl 1 (by decide) k13 (fun _ h9 => h9) rfl (by decide +kernel) rfl rfl (Nat.le_of_ble_eq_true rfl) dX7_advance_157 (fun H locs hW hS => ?_)
                  have hW := cw_up (P := P) (M := M17) (f := upd (upd (upd (upd (M 4) 0 (zI (q))) 2 (zI (min (q) (((min n 700 : Nat) : Int))))) 1 (zI (3))) 0 (zI (q + 1))) ((sh_4).trans rfl) hW
                  obtain ⟨M18, hM18⟩ : ∃ x9c : Nat → Nat → Int32, x9c = va_up M17 (4) (upd (upd (upd (upd (M 4) 0 (zI (q))) 2 (zI (min (q) (((min n 700 : Nat) : Int))))) 1 (zI (3))) 0 (zI (q + 1))) := ⟨_, rfl⟩
                  have hW : cw g ad P M18 H := by rw [hM18]; exact hW
                  have hex : ∀ j : Nat, ¬ j = 4 → M18 j = M j := fun j q0 => ((congrFun hM18 j).trans (up_ne _ _ q0)).trans (hex j q0)
                  have r_1 : M18 (1) = M 1 := ((congrFun hM18 (1)).trans (up_ne _ _ (by omega))).trans r_1
                  have r_2 : M18 (2) = M 2 := ((congrFun hM18 (2)).trans (up_ne _ _ (by omega))).trans r_2
                  have r_4 : M18 (4) = upd (upd (upd (upd (M 4) 0 (zI (q))) 2 (zI (min (q) (((min n 700 : Nat) : Int))))) 1 (zI (3))) 0 (zI (q + 1)) := ((congrFun hM18 _).trans (up_at _ _ _))
                  have hW : cw g ad P (va_up M (4) (tokR (M 4) β n ps)) H := by
                    have e9 : M18 = va_up M (4) (tokR (M 4) β n ps) := by
                      funext i9
                      by_cases q0 : i9 = 4
                      · rw [q0]; exact (r_4.trans (tok_row (M 4) β n ps (congrArg zI (by unfold cNx; rw [if_neg (by rw [hs9]; omega), hs9, if_neg (by unfold ldT isLt isDt; omega)]; omega)) (congrArg zI (by unfold cKi; rw [if_neg (by rw [hs9]; omega), hs9, if_neg (by unfold ldT isLt isDt; omega)]; first | (rw [if_pos (by omega)]; rfl) | (rw [if_neg (by omega)]; rfl))) (congrArg zI (by unfold cPl; rw [hs9]; omega)) (by unfold cNu; rw [if_neg (by rw [hs9]; omega), hs9, if_neg (by unfold ldT isLt isDt; omega)]; rfl) (fun k9 hk9 => by unfold upd; (repeat rw [if_neg (by omega)])))).trans (up_at _ _ _).symm
                      exact (hex i9 q0).trans (up_ne _ _ q0).symm
                    rw [← e9]; exact hW
                  exact W.vret hx hb hr (fun tX htX hWX => ⟨⟨(), rfl, trivial, g_at htX hW⟩, hS.F htX⟩) hS.2.2 dX7_advance_160
              · refine lv_aload_n hx hb dX7_advance_117 rfl (lv_at hl 1 rfl) ?_
                have rb4 := r_4
                refine va_callv (va_runV (As := []) (rest := []) ⟨hx, hb, hml, hown, hts⟩ (c_X7_readRun l g (ad) (hd9) (P) (M12) (β) (n) (hn) ((congrFun r_1 0).trans hz) (fun i hi => ⟨(congrFun r_2 i).trans (hβ i hi).1, (hβ i hi).2⟩) (q) (by omega) ((congrFun r_4 0).trans rfl)) (cwV 0 hts gX7_advance_X7_readRun rfl rfl rfl (by decide +kernel) ⟨Nat.le_of_ble_eq_true rfl, Nat.le_of_ble_eq_true rfl⟩) (g_preV hW hK (va_recv hK (hb1 hW (show 4 < 126 by omega) (lcE r_4 sh_4)) (q0 := 0) (ci := 7) rfl rfl)) rfl rfl hl.1 rfl (lv_room (Nat.le_of_ble_eq_true rfl)) dX7_advance_118 ⟨Nat.le_of_ble_eq_true rfl, Nat.le_of_ble_eq_true rfl⟩) hS (fun q _ h => h) (fun q h => h) (fun u18 t9 H1 locs ht9 hvm9 hw9 hB9 hz9 hk9 hS => ?_)
                rw [ht9] at hB9
                clear hz9 hk9 hvm9 ht9
                generalize H1 = H at hB9 hS ⊢
                have hW := hB9
                clear hB9
                have hW : cw g ad P (va_up M12 (4) (runR (M12 4) β n q)) H := hW
                obtain ⟨M20, hM20⟩ : ∃ x9c : Nat → Nat → Int32, x9c = va_up M12 (4) (runR (M12 4) β n q) := ⟨_, rfl⟩
                have hW : cw g ad P M20 H := by rw [hM20]; exact hW
                have hex : ∀ j : Nat, ¬ j = 4 → M20 j = M j := fun j q0 => ((congrFun hM20 j).trans (up_ne _ _ q0)).trans (hex j q0)
                have r_1 : M20 (1) = M 1 := ((congrFun hM20 (1)).trans (up_ne _ _ (by omega))).trans r_1
                have r_2 : M20 (2) = M 2 := ((congrFun hM20 (2)).trans (up_ne _ _ (by omega))).trans r_2
                have r_4 : M20 (4) = runR (M12 4) β n q := ((congrFun hM20 _).trans (up_at _ _ _))
                refine lv_goto (tgt := 160) hx hb dX7_advance_121 (by decide) ?_
                have hW : cw g ad P (va_up M (4) (tokR (M 4) β n ps)) H := by
                  have e9 : M20 = va_up M (4) (tokR (M 4) β n ps) := by
                    funext i9
                    by_cases q0 : i9 = 4
                    · rw [q0]; exact (r_4.trans (tok_row (M 4) β n ps (congrArg zI (by unfold cNx; rw [if_neg (by rw [hs9]; omega), hs9, if_pos (by unfold ldT isLt isDt; omega)])) (congrArg zI (by unfold cKi; rw [if_neg (by rw [hs9]; omega), hs9, if_pos (by unfold ldT isLt isDt; omega)])) ((congrFun rb4 2).trans (congrArg zI (by unfold cPl; rw [hs9]; omega))) (by unfold cNu; rw [if_neg (by rw [hs9]; omega), hs9, if_pos (by unfold ldT isLt isDt; omega)]; rfl) (fun k9 hk9 => by unfold runR upd; (repeat rw [if_neg (by omega)]); exact (congrFun rb4 k9).trans (by unfold upd; (repeat rw [if_neg (by omega)]))))).trans (up_at _ _ _).symm
                    exact (hex i9 q0).trans (up_ne _ _ q0).symm
                  rw [← e9]; exact hW
                exact W.vret hx hb hr (fun tX htX hWX => ⟨⟨(), rfl, trivial, g_at htX hW⟩, hS.F htX⟩) hS.2.2 dX7_advance_160
          · refine lv_aload_n hx hb dX7_advance_73 rfl (lv_at hl 1 rfl) ?_
            refine lv_iconst (v := zI (0)) hx hb dX7_advance_74 (by decide) ?_
            refine y_put (ci := 7) (v := .int (zI (0))) (ty := .int) (C := RX7) (T := TX7) (N := 5) hx hb hts hinX7 tyX7 tyX7_ok nmX7 hown hK hW hd9 hS (4) (show 4 < 126 by omega) (lcE r_4 sh_4) rfl 2 (by decide) k39 (fun _ h9 => h9) rfl (by decide +kernel) rfl rfl (Nat.le_of_ble_eq_true rfl) dX7_advance_75 (fun H locs hW hS => ?_)
            have hW := cw_up (P := P) (M := M12) (f := upd (upd (upd (M 4) 0 (zI (q))) 2 (zI (min (q) (((min n 700 : Nat) : Int))))) 1 (zI (0))) ((sh_4).trans rfl) hW
            obtain ⟨M21, hM21⟩ : ∃ x9c : Nat → Nat → Int32, x9c = va_up M12 (4) (upd (upd (upd (M 4) 0 (zI (q))) 2 (zI (min (q) (((min n 700 : Nat) : Int))))) 1 (zI (0))) := ⟨_, rfl⟩
            have hW : cw g ad P M21 H := by rw [hM21]; exact hW
            have hex : ∀ j : Nat, ¬ j = 4 → M21 j = M j := fun j q0 => ((congrFun hM21 j).trans (up_ne _ _ q0)).trans (hex j q0)
            have r_1 : M21 (1) = M 1 := ((congrFun hM21 (1)).trans (up_ne _ _ (by omega))).trans r_1
            have r_2 : M21 (2) = M 2 := ((congrFun hM21 (2)).trans (up_ne _ _ (by omega))).trans r_2
            have r_4 : M21 (4) = upd (upd (upd (M 4) 0 (zI (q))) 2 (zI (min (q) (((min n 700 : Nat) : Int))))) 1 (zI (0)) := ((congrFun hM21 _).trans (up_at _ _ _))
            refine lv_goto (tgt := 160) hx hb dX7_advance_78 (by decide) ?_
            have hW : cw g ad P (va_up M (4) (tokR (M 4) β n ps)) H := by
              have e9 : M21 = va_up M (4) (tokR (M 4) β n ps) := by
                funext i9
                by_cases q0 : i9 = 4
                · rw [q0]; exact (r_4.trans (tok_row (M 4) β n ps (congrArg zI (by unfold cNx; rw [if_pos (by rw [hs9]; omega), hs9])) (congrArg zI (by unfold cKi; rw [if_pos (by rw [hs9]; omega)]; rfl)) (congrArg zI (by unfold cPl; rw [hs9]; omega)) (by unfold cNu; rw [if_pos (by rw [hs9]; omega)]; rfl) (fun k9 hk9 => by unfold upd; (repeat rw [if_neg (by omega)])))).trans (up_at _ _ _).symm
                exact (hex i9 q0).trans (up_ne _ _ q0).symm
              rw [← e9]; exact hW
            exact W.vret hx hb hr (fun tX htX hWX => ⟨⟨(), rfl, trivial, g_at htX hW⟩, hS.F htX⟩) hS.2.2 dX7_advance_160
        · refine lv_aload_n hx hb dX7_advance_40 rfl (lv_at hl 1 rfl) ?_
          refine lv_dup hx hb dX7_advance_41 rfl ?_
          refine va_get (D := g.1) (ci := 7) (v := .int ((upd (M 4) 0 (zI (q))) 0)) (C := RX7) (T := TX7) (N := 5) hx hb hts hinX7 hown hK (hb1 hW (show 4 < 126 by omega) (lcE r_4 sh_4)) 0 rfl rfl 1 (by decide) k13 (fun _ h9 => h9) rfl dX7_advance_42 ?_
          refine z_top (y := zI (q)) (rfl) ?_
          refine lv_iconst (v := zI (1)) hx hb dX7_advance_45 (by decide) ?_
          refine z_iadd hx hb dX7_advance_46 ?_
          refine y_put (ci := 7) (v := .int (zI (q + 1))) (ty := .int) (C := RX7) (T := TX7) (N := 5) hx hb hts hinX7 tyX7 tyX7_ok nmX7 hown hK hW hd9 hS (4) (show 4 < 126 by omega) (lcE r_4 sh_4) rfl 1 (by decide) k13 (fun _ h9 => h9) rfl (by decide +kernel) rfl rfl (Nat.le_of_ble_eq_true rfl) dX7_advance_47 (fun H locs hW hS => ?_)
          have hW := cw_up (P := P) (M := M1) (f := upd (upd (M 4) 0 (zI (q))) 0 (zI (q + 1))) ((sh_4).trans rfl) hW
          obtain ⟨M22, hM22⟩ : ∃ x9c : Nat → Nat → Int32, x9c = va_up M1 (4) (upd (upd (M 4) 0 (zI (q))) 0 (zI (q + 1))) := ⟨_, rfl⟩
          have hW : cw g ad P M22 H := by rw [hM22]; exact hW
          have hex : ∀ j : Nat, ¬ j = 4 → M22 j = M j := fun j q0 => ((congrFun hM22 j).trans (up_ne _ _ q0)).trans (hex j q0)
          have r_1 : M22 (1) = M 1 := ((congrFun hM22 (1)).trans (up_ne _ _ (by omega))).trans r_1
          have r_2 : M22 (2) = M 2 := ((congrFun hM22 (2)).trans (up_ne _ _ (by omega))).trans r_2
          have r_4 : M22 (4) = upd (upd (M 4) 0 (zI (q))) 0 (zI (q + 1)) := ((congrFun hM22 _).trans (up_at _ _ _))
          refine lv_goto (tgt := 14) hx hb dX7_advance_50 (by decide) ?_
          have hl := lv_sub (l' := [(1, .int (zI (((min n 700 : Nat) : Int)))), (0, .ref ((ad 4)))]) hl [0, 1] rfl
          -- same
          exact ih (q + 1) (by omega) (⟨by omega, by omega⟩) (hq9.trans (skip_s ⟨by omega, by omega⟩)) H locs M22 (by rw [r_4, upd_upd]; rfl) (r_1) (r_2) (fun j q0 => hex j q0) hW hS ls hl
  have hl := lv_sub (l' := [(1, .int (zI (((min n 700 : Nat) : Int)))), (0, .ref ((ad 4)))]) hl [0, 1] rfl
  -- same
  exact loop14 _ (ps) (Nat.lt_succ_self _) (⟨Nat.le_refl _, hps⟩) (rfl) H locs M (r_4.trans (upd_same hp4).symm) (r_1) (r_2) (fun j q0 => hex j ) hW hS ls hl
