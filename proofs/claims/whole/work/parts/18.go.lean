set_option maxHeartbeats 4000000 in
set_option maxRecDepth 100000 in
theorem c_X9_isDigit (l : Launch) (v : Int) (hv : R32 v) : Met l yX9_isDigit wsX9_isDigit ({ frames := 0, cells := 0, slots := 0, locals := 0 }) (va_Pc [.int (zI (v))] (fun _ => True)) (vp_Si (fun r : Int32 => r = zI (bz (48 ≤ v ∧ v ≤ 57)))) 0 0 (fun _ => False) := by
  refine Met.ofW (cc := cX9_isDigit) (maxL := 1) (ret := (some .boolean)) (by decide) rfl ?_
  intro p e s m args below meth c s₁ B hml hv
  obtain ⟨rfl, -⟩ := hv
  have hx := B.exec
  have hb := B.bytes
  have hr := B.returns
  have hts := atoms_spec (ws := wsX9_isDigit) B.pre
  have hown : s.vm.findClass RX9 = some m.cls := findClass_of_methodNamed B.named
  have hlocks := B.notSynchronized
  have hl := lv_entry ([.int (zI (v))]) (n := 1) (Nat.le_of_ble_eq_true rfl)
  rw [lg_entry_eq]
  generalize (lg_sl ([.int (zI (v))]) ++ List.replicate (1 - (lg_sl ([.int (zI (v))])).length) Slot.unset).toArray = ls at hl ⊢
  have hl : lv_has ls 1 [(0, .int (zI (v)))] := hl
  refine lv_iload_n hx hb dX9_isDigit_0 rfl (lv_at hl 0 rfl) ?_
  refine lv_bipush (v := zI (48)) hx hb dX9_isDigit_1 (by decide) ?_
  refine z_icmp_lt (tgt := 16) hx hb dX9_isDigit_3 (by decide) (by omega) (by omega) (fun h3 => ?_) (fun h3 => ?_)
  · refine lv_iconst (v := zI (0)) hx hb dX9_isDigit_16 (by decide) ?_
    exact W.zret hx hb hr (by decide) (fun tX htX hWX => ⟨_, rfl, bz_0 (by omega), htX⟩) (fun _ h9 => by cases h9) dX9_isDigit_17
  · refine lv_iload_n hx hb dX9_isDigit_6 rfl (lv_at hl 0 rfl) ?_
    refine lv_bipush (v := zI (57)) hx hb dX9_isDigit_7 (by decide) ?_
    refine z_icmp_gt (tgt := 16) hx hb dX9_isDigit_9 (by decide) (by omega) (by omega) (fun h9 => ?_) (fun h9 => ?_)
    · refine lv_iconst (v := zI (0)) hx hb dX9_isDigit_16 (by decide) ?_
      exact W.zret hx hb hr (by decide) (fun tX htX hWX => ⟨_, rfl, bz_0 (by omega), htX⟩) (fun _ h9 => by cases h9) dX9_isDigit_17
    · refine lv_iconst (v := zI (1)) hx hb dX9_isDigit_12 (by decide) ?_
      refine lv_goto (tgt := 17) hx hb dX9_isDigit_13 (by decide) ?_
      exact W.zret hx hb hr (by decide) (fun tX htX hWX => ⟨_, rfl, bz_1 (by omega), htX⟩) (fun _ h9 => by cases h9) dX9_isDigit_17

set_option maxHeartbeats 4000000 in
set_option maxRecDepth 100000 in
theorem c_X9_isLetter (l : Launch) (v : Int) (hv : R32 v) : Met l yX9_isLetter wsX9_isLetter ({ frames := 0, cells := 0, slots := 0, locals := 0 }) (va_Pc [.int (zI (v))] (fun _ => True)) (vp_Si (fun r : Int32 => r = zI (bz (97 ≤ v ∧ v ≤ 122)))) 0 0 (fun _ => False) := by
  refine Met.ofW (cc := cX9_isLetter) (maxL := 1) (ret := (some .boolean)) (by decide) rfl ?_
  intro p e s m args below meth c s₁ B hml hv
  obtain ⟨rfl, -⟩ := hv
  have hx := B.exec
  have hb := B.bytes
  have hr := B.returns
  have hts := atoms_spec (ws := wsX9_isLetter) B.pre
  have hown : s.vm.findClass RX9 = some m.cls := findClass_of_methodNamed B.named
  have hlocks := B.notSynchronized
  have hl := lv_entry ([.int (zI (v))]) (n := 1) (Nat.le_of_ble_eq_true rfl)
  rw [lg_entry_eq]
  generalize (lg_sl ([.int (zI (v))]) ++ List.replicate (1 - (lg_sl ([.int (zI (v))])).length) Slot.unset).toArray = ls at hl ⊢
  have hl : lv_has ls 1 [(0, .int (zI (v)))] := hl
  refine lv_iload_n hx hb dX9_isLetter_0 rfl (lv_at hl 0 rfl) ?_
  refine lv_bipush (v := zI (97)) hx hb dX9_isLetter_1 (by decide) ?_
  refine z_icmp_lt (tgt := 16) hx hb dX9_isLetter_3 (by decide) (by omega) (by omega) (fun h3 => ?_) (fun h3 => ?_)
  · refine lv_iconst (v := zI (0)) hx hb dX9_isLetter_16 (by decide) ?_
    exact W.zret hx hb hr (by decide) (fun tX htX hWX => ⟨_, rfl, bz_0 (by omega), htX⟩) (fun _ h9 => by cases h9) dX9_isLetter_17
  · refine lv_iload_n hx hb dX9_isLetter_6 rfl (lv_at hl 0 rfl) ?_
    refine lv_bipush (v := zI (122)) hx hb dX9_isLetter_7 (by decide) ?_
    refine z_icmp_gt (tgt := 16) hx hb dX9_isLetter_9 (by decide) (by omega) (by omega) (fun h9 => ?_) (fun h9 => ?_)
    · refine lv_iconst (v := zI (0)) hx hb dX9_isLetter_16 (by decide) ?_
      exact W.zret hx hb hr (by decide) (fun tX htX hWX => ⟨_, rfl, bz_0 (by omega), htX⟩) (fun _ h9 => by cases h9) dX9_isLetter_17
    · refine lv_iconst (v := zI (1)) hx hb dX9_isLetter_12 (by decide) ?_
      refine lv_goto (tgt := 17) hx hb dX9_isLetter_13 (by decide) ?_
      exact W.zret hx hb hr (by decide) (fun tX htX hWX => ⟨_, rfl, bz_1 (by omega), htX⟩) (fun _ h9 => by cases h9) dX9_isLetter_17

set_option maxHeartbeats 4000000 in
set_option maxRecDepth 100000 in
theorem c_X9_tapeAt (l : Launch) (g : GG) (a : Nat → Nat) (sc : Nat → Int32) (wd : Int64) (tp N rd sn : Nat → Int32) (n q : Nat) (hz : sc 2 = zI n) (hn : n ≤ 740) (hq : q ≤ 740) (hT : okT tp) : Met l yX9_tapeAt wsX9_tapeAt ({ frames := 0, cells := 0, slots := 0, locals := 0 }) (gPc g [.ref ((a 0)), .int (zI (q))] (gP g (mW g a sc wd tp N rd sn))) (vp_Si (fun r : Int32 => r = zI (tAt tp n q))) 0 0 (fun _ => False) := by
  refine Met.ofW (cc := cX9_tapeAt) (maxL := 2) (ret := (some .int)) (by decide) rfl ?_
  intro p e s m args below meth c s₁ B hml hv
  obtain ⟨rfl, hPre, hK⟩ := hv
  have hx := B.exec
  have hb := B.bytes
  have hr := B.returns
  have hts := atoms_spec (ws := wsX9_tapeAt) B.pre
  have hown : s.vm.findClass RX9 = some m.cls := findClass_of_methodNamed B.named
  have hlocks := B.notSynchronized
  have hinX9 : ∀ w ∈ wsX90, w ∈ wsX9_tapeAt := by decide +kernel
  have k18 := hts (.fieldLink RX9 18 "HoursBankModel" "size" "I") (by decide +kernel)
  have k7 := hts (.fieldLink RX9 7 "HoursBankModel" "tape" "[I") (by decide +kernel)
  have hl := lv_entry ([.ref ((a 0)), .int (zI (q))]) (n := 2) (Nat.le_of_ble_eq_true rfl)
  rw [lg_entry_eq]
  generalize (lg_sl ([.ref ((a 0)), .int (zI (q))]) ++ List.replicate (2 - (lg_sl ([.ref ((a 0)), .int (zI (q))])).length) Slot.unset).toArray = ls at hl ⊢
  have hl : lv_has ls 2 [(0, .ref ((a 0))), (1, .int (zI (q)))] := hl
  have hP : gP g (mW g a sc wd tp N rd sn) s.heap := hPre
  refine lv_iload_n hx hb dX9_tapeAt_0 rfl (lv_at hl 1 rfl) ?_
  refine lv_aload_n hx hb dX9_tapeAt_1 rfl (lv_at hl 0 rfl) ?_
  refine va_get (D := g.1) (ci := 9) (v := .int (sc 2)) (C := RX9) (T := TX9) (N := 15) hx hb hts hinX9 hown hK hP 0 rfl rfl 3 (by decide) k18 (fun _ h9 => h9) rfl dX9_tapeAt_2 ?_
  refine z_top (y := zI (n)) (hz) ?_
  refine z_icmp_ge (tgt := 17) hx hb dX9_tapeAt_5 (by decide) (by omega) (by omega) (fun h5 => ?_) (fun h5 => ?_)
  · refine lv_iconst (v := zI (0)) hx hb dX9_tapeAt_17 (by decide) ?_
    exact W.iret hx hb hr (fun tX htX hWX => ⟨_, rfl, congrArg zI (by unfold tAt; split <;> omega), htX⟩) (fun _ h9 => by cases h9) dX9_tapeAt_18
  · refine lv_aload_n hx hb dX9_tapeAt_8 rfl (lv_at hl 0 rfl) ?_
    refine va_get (D := g.1) (ci := 9) (v := .ref ((a 1))) (C := RX9) (T := TX9) (N := 15) hx hb hts hinX9 hown hK hP 0 rfl rfl 1 (by decide) k7 (fun _ h9 => h9) rfl dX9_tapeAt_9 ?_
    refine lv_iload_n hx hb dX9_tapeAt_12 rfl (lv_at hl 1 rfl) ?_
    refine z_iald hx hb hK hP 1 0 rfl rfl (by decide) (q) (by omega) (by omega) dX9_tapeAt_13 ?_
    refine z_top (y := zI (mn tp q)) ((hT q (by omega)).eq) ?_
    refine lv_goto (tgt := 18) hx hb dX9_tapeAt_14 (by decide) ?_
    exact W.iret hx hb hr (fun tX htX hWX => ⟨_, rfl, congrArg zI (by unfold tAt; split <;> omega), htX⟩) (fun _ h9 => by cases h9) dX9_tapeAt_18
