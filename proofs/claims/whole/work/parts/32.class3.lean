set_option maxHeartbeats 4000000 in
set_option maxRecDepth 100000 in
theorem c_X3_isChanged (l : Launch) (g : GG) (sh w : Nat) (N : Nat → Int32) (hN : okN N) (hw : w < 4) (d : Nat) (hd : d < 364) : Met l yX3_isChanged wsX3_isChanged ({ frames := 0, cells := 0, slots := 0, locals := 0 }) (gPc g [.ref sh, .int (zI (d))] (rdS g sh w N)) (vp_Si (fun r : Int32 => r = zI (bz (¬ chg N w d = 0)))) 0 0 (fun _ => False) := by
  refine Met.ofW (cc := cX3_isChanged) (maxL := 2) (ret := (some .boolean)) (by decide) rfl ?_
  intro p e s m args below meth c s₁ B hml hv
  obtain ⟨rfl, hPre, hK⟩ := hv
  have hx := B.exec
  have hb := B.bytes
  have hr := B.returns
  have hts := atoms_spec (ws := wsX3_isChanged) B.pre
  have hown : s.vm.findClass RX3 = some m.cls := findClass_of_methodNamed B.named
  have hlocks := B.notSynchronized
  have hinX3 : ∀ w ∈ wsX30, w ∈ wsX3_isChanged := by decide +kernel
  have k9 := hts (.fieldLink RX3 9 "HoursBank$Sheet" "changed" "[I") (by decide +kernel)
  have hl := lv_entry ([.ref sh, .int (zI (d))]) (n := 2) (Nat.le_of_ble_eq_true rfl)
  rw [lg_entry_eq]
  generalize (lg_sl ([.ref sh, .int (zI (d))]) ++ List.replicate (2 - (lg_sl ([.ref sh, .int (zI (d))])).length) Slot.unset).toArray = ls at hl ⊢
  have hl : lv_has ls 2 [(0, .ref sh), (1, .int (zI (d)))] := hl
  obtain ⟨sa, ch, tl, fl, af, rate, lv, ru, gd, hP, hR, hRu⟩ := id hPre
  refine lv_aload_n hx hb dX3_isChanged_0 rfl (lv_at hl 0 rfl) ?_
  refine va_get (D := g.1) (ci := 3) (v := .ref ((sa 0))) (C := RX3) (T := TX3) (N := 7) hx hb hts hinX3 hown hK hP 0 rfl rfl 0 (by decide) k9 (fun _ h9 => h9) rfl dX3_isChanged_1 ?_
  refine lv_iload_n hx hb dX3_isChanged_4 rfl (lv_at hl 1 rfl) ?_
  refine z_iald hx hb hK hP 1 0 (rfl) rfl (by decide) (d) (by omega) (by omega) dX3_isChanged_5 ?_
  refine z_top (y := zI ((chg N w d : Int) - 1)) (hR.2.2.1 d hd) ?_
  refine lv_iconst (v := zI (-1)) hx hb dX3_isChanged_6 (by decide) ?_
  have hq := hN.chg hw hd
  refine z_icmp_eq (tgt := 14) hx hb dX3_isChanged_7 (by decide) (by omega) (by omega) (fun h7 => ?_) (fun h7 => ?_)
  · refine lv_iconst (v := zI (0)) hx hb dX3_isChanged_14 (by decide) ?_
    exact W.zret hx hb hr (by decide) (fun tX htX hWX => ⟨_, rfl, bz_0 (by omega), htX⟩) (fun _ h9 => by cases h9) dX3_isChanged_15
  · refine lv_iconst (v := zI (1)) hx hb dX3_isChanged_10 (by decide) ?_
    refine lv_goto (tgt := 15) hx hb dX3_isChanged_11 (by decide) ?_
    exact W.zret hx hb hr (by decide) (fun tX htX hWX => ⟨_, rfl, bz_1 (by omega), htX⟩) (fun _ h9 => by cases h9) dX3_isChanged_15

set_option maxHeartbeats 4000000 in
set_option maxRecDepth 100000 in
theorem c_X3_planOn (l : Launch) (g : GG) (sh w : Nat) (N : Nat → Int32) (hN : okN N) (hw : w < 4) (d : Nat) (hd : d < 364) : Met l yX3_planOn wsX3_planOn ({ frames := 1, cells := 0, slots := 0, locals := 22 }) (gPc g [.ref sh, .int (zI (d))] (rdS g sh w N)) (vp_Si (fun r : Int32 => r = zI (plan N w d))) 0 0 (fun _ => False) := by
  refine Met.ofW (cc := cX3_planOn) (maxL := 2) (ret := (some .int)) (by decide) rfl ?_
  intro p e s m args below meth c s₁ B hml hv
  obtain ⟨rfl, hPre, hK⟩ := hv
  have hx := B.exec
  have hb := B.bytes
  have hr := B.returns
  have hts := atoms_spec (ws := wsX3_planOn) B.pre
  have hown : s.vm.findClass RX3 = some m.cls := findClass_of_methodNamed B.named
  have hlocks := B.notSynchronized
  have hinX3 : ∀ w ∈ wsX30, w ∈ wsX3_planOn := by decide +kernel
  have k33 := hts (.fieldLink RX3 33 "HoursBank$Sheet" "rules" "LHoursBank$Rules;") (by decide +kernel)
  have k9 := hts (.fieldLink RX3 9 "HoursBank$Sheet" "changed" "[I") (by decide +kernel)
  have hl := lv_entry ([.ref sh, .int (zI (d))]) (n := 2) (Nat.le_of_ble_eq_true rfl)
  rw [lg_entry_eq]
  generalize (lg_sl ([.ref sh, .int (zI (d))]) ++ List.replicate (2 - (lg_sl ([.ref sh, .int (zI (d))])).length) Slot.unset).toArray = ls at hl ⊢
  have hl : lv_has ls 2 [(0, .ref sh), (1, .int (zI (d)))] := hl
  obtain ⟨sa, ch, tl, fl, af, rate, lv, ru, gd, hP, hR, hRu⟩ := id hPre
  refine lv_aload_n hx hb dX3_planOn_0 rfl (lv_at hl 0 rfl) ?_
  refine lv_iload_n hx hb dX3_planOn_1 rfl (lv_at hl 1 rfl) ?_
  refine vp_callSi (va_Run.run (va_runV (As := [.int (zI (d))]) (rest := []) ⟨hx, hb, hml, hown, hts⟩ (c_X3_isChanged l g (sh) (w) (N) (hN) (hw) (d) (hd)) (cwV 1 hts gX3_planOn_X3_isChanged rfl rfl rfl (by decide +kernel) ⟨Nat.le_of_ble_eq_true rfl, Nat.le_of_ble_eq_true rfl⟩) (g_preV hPre hK (va_recv hK hP (q0 := 0) (ci := 3) rfl rfl)) rfl rfl hl.1 rfl (lv_room (Nat.le_of_ble_eq_true rfl)) dX3_planOn_2 ⟨Nat.le_of_ble_eq_true rfl, Nat.le_of_ble_eq_true rfl⟩)) (fun r hr9 => ?_)
  subst hr9
  refine z_bz_eq (tgt := 17) hx hb dX3_planOn_5 (by decide) (fun h5 => ?_) (fun h5 => ?_)
  · refine lv_aload_n hx hb dX3_planOn_17 rfl (lv_at hl 0 rfl) ?_
    refine va_get (D := g.1) (ci := 3) (v := .ref ru) (C := RX3) (T := TX3) (N := 7) hx hb hts hinX3 hown hK hP 0 rfl rfl 6 (by decide) k33 (fun _ h9 => h9) rfl dX3_planOn_18 ?_
    refine lv_iload_n hx hb dX3_planOn_21 rfl (lv_at hl 1 rfl) ?_
    refine vp_callSi (va_Run.run (va_runV (As := [.int (zI (d))]) (rest := []) ⟨hx, hb, hml, hown, hts⟩ (c_X2_seasonPlan l g (ru) (N) (hN) (d) (hd)) (cwV 1 hts gX3_planOn_X2_seasonPlan rfl rfl rfl (by decide +kernel) ⟨Nat.le_of_ble_eq_true rfl, Nat.le_of_ble_eq_true rfl⟩) (g_preV hRu hK (rdR_recv hK hRu)) rfl rfl hl.1 rfl (lv_room (Nat.le_of_ble_eq_true rfl)) dX3_planOn_22 ⟨Nat.le_of_ble_eq_true rfl, Nat.le_of_ble_eq_true rfl⟩)) (fun r hr9 => ?_)
    subst hr9
    exact W.iret hx hb hr (fun tX htX hWX => ⟨_, rfl, congrArg zI (by unfold plan; first | (rw [if_neg h5]; omega) | (rw [if_pos (by omega)])), htX⟩) (fun _ h9 => by cases h9) dX3_planOn_25
  · refine lv_aload_n hx hb dX3_planOn_8 rfl (lv_at hl 0 rfl) ?_
    refine va_get (D := g.1) (ci := 3) (v := .ref ((sa 0))) (C := RX3) (T := TX3) (N := 7) hx hb hts hinX3 hown hK hP 0 rfl rfl 0 (by decide) k9 (fun _ h9 => h9) rfl dX3_planOn_9 ?_
    refine lv_iload_n hx hb dX3_planOn_12 rfl (lv_at hl 1 rfl) ?_
    refine z_iald hx hb hK hP 1 0 (rfl) rfl (by decide) (d) (by omega) (by omega) dX3_planOn_13 ?_
    refine z_top (y := zI ((chg N w d : Int) - 1)) (hR.2.2.1 d hd) ?_
    refine lv_goto (tgt := 25) hx hb dX3_planOn_14 (by decide) ?_
    exact W.iret hx hb hr (fun tX htX hWX => ⟨_, rfl, congrArg zI (by unfold plan; first | (rw [if_neg h5]; omega) | (rw [if_pos (by omega)])), htX⟩) (fun _ h9 => by cases h9) dX3_planOn_25

set_option maxHeartbeats 4000000 in
set_option maxRecDepth 100000 in
theorem c_X3_isBookingLost (l : Launch) (g : GG) (sh : Nat) (sa : Nat → Nat) (ch tl fl af : Nat → Int32) (rate lv : Int32) (ru d gd : Nat) (τ : Int) (hd : d < 364) (hτ : tl d = zI τ) (hg8 : af 8 = zI gd) (hgd : gd ≤ 365) (hτr : R32 τ) : Met l yX3_isBookingLost wsX3_isBookingLost ({ frames := 0, cells := 0, slots := 0, locals := 0 }) (gPc g [.ref sh, .int (zI (d))] (gP g (shW g sh sa ch tl fl af rate lv ru))) (vp_Si (fun r : Int32 => r = zI (bz (τ = -2 ∧ gd ≤ d)))) 0 0 (fun _ => False) := by
  refine Met.ofW (cc := cX3_isBookingLost) (maxL := 2) (ret := (some .boolean)) (by decide) rfl ?_
  intro p e s m args below meth c s₁ B hml hv
  obtain ⟨rfl, hPre, hK⟩ := hv
  have hx := B.exec
  have hb := B.bytes
  have hr := B.returns
  have hts := atoms_spec (ws := wsX3_isBookingLost) B.pre
  have hown : s.vm.findClass RX3 = some m.cls := findClass_of_methodNamed B.named
  have hlocks := B.notSynchronized
  have hinX0 : ∀ w ∈ wsX00, w ∈ wsX3_isBookingLost := by decide +kernel
  have hinX3 : ∀ w ∈ wsX30, w ∈ wsX3_isBookingLost := by decide +kernel
  have k15 := hts (.fieldLink RX3 15 "HoursBank$Sheet" "told" "[I") (by decide +kernel)
  have k25 := hts (.fieldLink RX3 25 "HoursBank$Sheet" "account" "LHoursBank$Account;") (by decide +kernel)
  have k63 := hts (.fieldLink RX3 63 "HoursBank$Account" "goneOn" "I") (by decide +kernel)
  have hl := lv_entry ([.ref sh, .int (zI (d))]) (n := 2) (Nat.le_of_ble_eq_true rfl)
  rw [lg_entry_eq]
  generalize (lg_sl ([.ref sh, .int (zI (d))]) ++ List.replicate (2 - (lg_sl ([.ref sh, .int (zI (d))])).length) Slot.unset).toArray = ls at hl ⊢
  have hl : lv_has ls 2 [(0, .ref sh), (1, .int (zI (d)))] := hl
  have hP : gP g (shW g sh sa ch tl fl af rate lv ru) s.heap := hPre
  refine lv_aload_n hx hb dX3_isBookingLost_0 rfl (lv_at hl 0 rfl) ?_
  refine va_get (D := g.1) (ci := 3) (v := .ref ((sa 1))) (C := RX3) (T := TX3) (N := 7) hx hb hts hinX3 hown hK hP 0 rfl rfl 1 (by decide) k15 (fun _ h9 => h9) rfl dX3_isBookingLost_1 ?_
  refine lv_iload_n hx hb dX3_isBookingLost_4 rfl (lv_at hl 1 rfl) ?_
  refine z_iald hx hb hK hP 2 0 (rfl) rfl (by decide) (d) (by omega) (by omega) dX3_isBookingLost_5 ?_
  refine z_top (y := zI (τ)) (hτ) ?_
  refine lv_bipush (v := zI (-2)) hx hb dX3_isBookingLost_6 (by decide) ?_
  refine z_icmp_ne (tgt := 26) hx hb dX3_isBookingLost_8 (by decide) (by omega) (by omega) (fun h8 => ?_) (fun h8 => ?_)
  · refine lv_iconst (v := zI (0)) hx hb dX3_isBookingLost_26 (by decide) ?_
    exact W.zret hx hb hr (by decide) (fun tX htX hWX => ⟨_, rfl, bz_0 (by omega), htX⟩) (fun _ h9 => by cases h9) dX3_isBookingLost_27
  · refine lv_iload_n hx hb dX3_isBookingLost_11 rfl (lv_at hl 1 rfl) ?_
    refine lv_aload_n hx hb dX3_isBookingLost_12 rfl (lv_at hl 0 rfl) ?_
    refine va_get (D := g.1) (ci := 3) (v := .ref ((sa 3))) (C := RX3) (T := TX3) (N := 7) hx hb hts hinX3 hown hK hP 0 rfl rfl 3 (by decide) k25 (fun _ h9 => h9) rfl dX3_isBookingLost_13 ?_
    refine va_get (D := g.1) (ci := 0) (v := .int (af 8)) (C := RX0) (T := TX0) (N := 9) hx hb hts hinX0 hown hK hP 4 rfl rfl 8 (by decide) k63 (fun _ h9 => h9) rfl dX3_isBookingLost_16 ?_
    refine z_top (y := zI (gd)) (hg8) ?_
    refine z_icmp_lt (tgt := 26) hx hb dX3_isBookingLost_19 (by decide) (by omega) (by omega) (fun h19 => ?_) (fun h19 => ?_)
    · refine lv_iconst (v := zI (0)) hx hb dX3_isBookingLost_26 (by decide) ?_
      exact W.zret hx hb hr (by decide) (fun tX htX hWX => ⟨_, rfl, bz_0 (by omega), htX⟩) (fun _ h9 => by cases h9) dX3_isBookingLost_27
    · refine lv_iconst (v := zI (1)) hx hb dX3_isBookingLost_22 (by decide) ?_
      refine lv_goto (tgt := 27) hx hb dX3_isBookingLost_23 (by decide) ?_
      exact W.zret hx hb hr (by decide) (fun tX htX hWX => ⟨_, rfl, bz_1 (by omega), htX⟩) (fun _ h9 => by cases h9) dX3_isBookingLost_27

set_option maxHeartbeats 4000000 in
set_option maxRecDepth 100000 in
theorem c_X3_kindOn (l : Launch) (g : GG) (sh w : Nat) (N : Nat → Int32) (hN : okN N) (hw : w < 4) (d : Nat) (hd : d < 364) : Met l yX3_kindOn wsX3_kindOn ({ frames := 1, cells := 0, slots := 0, locals := 21 }) (gPc g [.ref sh, .int (zI (d))] (rdS g sh w N)) (vp_Si (fun r : Int32 => r = zI (knd N w d))) 0 0 (fun _ => False) := by
  refine Met.ofW (cc := cX3_kindOn) (maxL := 2) (ret := (some .int)) (by decide) rfl ?_
  intro p e s m args below meth c s₁ B hml hv
  obtain ⟨rfl, hPre, hK⟩ := hv
  have hx := B.exec
  have hb := B.bytes
  have hr := B.returns
  have hts := atoms_spec (ws := wsX3_kindOn) B.pre
  have hown : s.vm.findClass RX3 = some m.cls := findClass_of_methodNamed B.named
  have hlocks := B.notSynchronized
  have hinX3 : ∀ w ∈ wsX30, w ∈ wsX3_kindOn := by decide +kernel
  have k15 := hts (.fieldLink RX3 15 "HoursBank$Sheet" "told" "[I") (by decide +kernel)
  have hl := lv_entry ([.ref sh, .int (zI (d))]) (n := 2) (Nat.le_of_ble_eq_true rfl)
  rw [lg_entry_eq]
  generalize (lg_sl ([.ref sh, .int (zI (d))]) ++ List.replicate (2 - (lg_sl ([.ref sh, .int (zI (d))])).length) Slot.unset).toArray = ls at hl ⊢
  have hl : lv_has ls 2 [(0, .ref sh), (1, .int (zI (d)))] := hl
  obtain ⟨sa, ch, tl, fl, af, rate, lv, ru, gd, hP, hR, hRu⟩ := id hPre
  obtain ⟨τ, hτ, hτ2⟩ := hR.2.2.2.1 d hd
  have hkk := hN.knd hw hd
  have hkw := hN.wkd hw hd
  unfold tlOK at hτ2
  have hg8 := hR.2.2.2.2.2.2.2.1
  have hgd := hR.2.2.2.2.2.2.2.2.1
  refine lv_aload_n hx hb dX3_kindOn_0 rfl (lv_at hl 0 rfl) ?_
  refine va_get (D := g.1) (ci := 3) (v := .ref ((sa 1))) (C := RX3) (T := TX3) (N := 7) hx hb hts hinX3 hown hK hP 0 rfl rfl 1 (by decide) k15 (fun _ h9 => h9) rfl dX3_kindOn_1 ?_
  refine lv_iload_n hx hb dX3_kindOn_4 rfl (lv_at hl 1 rfl) ?_
  refine z_iald hx hb hK hP 2 0 (rfl) rfl (by decide) (d) (by omega) (by omega) dX3_kindOn_5 ?_
  refine z_top (y := zI (τ)) (hτ) ?_
  refine z_if_ge (tgt := 17) hx hb dX3_kindOn_6 (by decide) (by omega) (fun h6 => ?_) (fun h6 => ?_)
  · refine lv_iconst (v := zI (0)) hx hb dX3_kindOn_17 (by decide) ?_
    refine lv_goto (tgt := 28) hx hb dX3_kindOn_18 (by decide) ?_
    exact W.iret hx hb hr (fun tX htX hWX => ⟨_, rfl, congrArg zI (by omega), htX⟩) (fun _ h9 => by cases h9) dX3_kindOn_28
  · refine lv_aload_n hx hb dX3_kindOn_9 rfl (lv_at hl 0 rfl) ?_
    refine lv_iload_n hx hb dX3_kindOn_10 rfl (lv_at hl 1 rfl) ?_
    refine vp_callSi (va_Run.run (va_runV (As := [.int (zI (d))]) (rest := []) ⟨hx, hb, hml, hown, hts⟩ (c_X3_isBookingLost l g (sh) (sa) (ch) (tl) (fl) (af) (rate) (lv) (ru) (d) (gd) (τ) (hd) (hτ) (hg8) (hgd) (by omega)) (cwV 1 hts gX3_kindOn_X3_isBookingLost rfl rfl rfl (by decide +kernel) ⟨Nat.le_of_ble_eq_true rfl, Nat.le_of_ble_eq_true rfl⟩) (g_preV hP hK (va_recv hK hP (q0 := 0) (ci := 3) rfl rfl)) rfl rfl hl.1 rfl (lv_room (Nat.le_of_ble_eq_true rfl)) dX3_kindOn_11 ⟨Nat.le_of_ble_eq_true rfl, Nat.le_of_ble_eq_true rfl⟩)) (fun r hr9 => ?_)
    subst hr9
    refine z_bz_eq (tgt := 21) hx hb dX3_kindOn_14 (by decide) (fun h14 => ?_) (fun h14 => ?_)
    · refine lv_aload_n hx hb dX3_kindOn_21 rfl (lv_at hl 0 rfl) ?_
      refine va_get (D := g.1) (ci := 3) (v := .ref ((sa 1))) (C := RX3) (T := TX3) (N := 7) hx hb hts hinX3 hown hK hP 0 rfl rfl 1 (by decide) k15 (fun _ h9 => h9) rfl dX3_kindOn_22 ?_
      refine lv_iload_n hx hb dX3_kindOn_25 rfl (lv_at hl 1 rfl) ?_
      refine z_iald hx hb hK hP 2 0 (rfl) rfl (by decide) (d) (by omega) (by omega) dX3_kindOn_26 ?_
      refine z_top (y := zI (τ)) (hτ) ?_
      refine z_ineg hx hb dX3_kindOn_27 ?_
      exact W.iret hx hb hr (fun tX htX hWX => ⟨_, rfl, congrArg zI (by omega), htX⟩) (fun _ h9 => by cases h9) dX3_kindOn_28
    · refine lv_iconst (v := zI (0)) hx hb dX3_kindOn_17 (by decide) ?_
      refine lv_goto (tgt := 28) hx hb dX3_kindOn_18 (by decide) ?_
      exact W.iret hx hb hr (fun tX htX hWX => ⟨_, rfl, congrArg zI (by omega), htX⟩) (fun _ h9 => by cases h9) dX3_kindOn_28

set_option maxHeartbeats 4000000 in
set_option maxRecDepth 100000 in
theorem c_X3_workedOn (l : Launch) (g : GG) (sh w : Nat) (N : Nat → Int32) (hN : okN N) (hw : w < 4) (d : Nat) (hd : d < 364) : Met l yX3_workedOn wsX3_workedOn ({ frames := 1, cells := 0, slots := 0, locals := 13 }) (gPc g [.ref sh, .int (zI (d))] (rdS g sh w N)) (vp_Si (fun r : Int32 => r = zI (wkd N w d))) 0 0 (fun _ => False) := by
  refine Met.ofW (cc := cX3_workedOn) (maxL := 2) (ret := (some .int)) (by decide) rfl ?_
  intro p e s m args below meth c s₁ B hml hv
  obtain ⟨rfl, hPre, hK⟩ := hv
  have hx := B.exec
  have hb := B.bytes
  have hr := B.returns
  have hts := atoms_spec (ws := wsX3_workedOn) B.pre
  have hown : s.vm.findClass RX3 = some m.cls := findClass_of_methodNamed B.named
  have hlocks := B.notSynchronized
  have hinX3 : ∀ w ∈ wsX30, w ∈ wsX3_workedOn := by decide +kernel
  have k15 := hts (.fieldLink RX3 15 "HoursBank$Sheet" "told" "[I") (by decide +kernel)
  have k69 := hts (.methodLink RX3 69 Lib.Math.max.name) (by decide +kernel)
  have kSmax := hts (.static Lib.Math.max.name) (by decide +kernel)
  have kM := hts (.initialized "java/lang/Math") (by decide +kernel)
  have kCmax := hts (.code Lib.Math.max.name Lib.Math.max.code 2 (some .int)) (by decide +kernel)
  have hl := lv_entry ([.ref sh, .int (zI (d))]) (n := 2) (Nat.le_of_ble_eq_true rfl)
  rw [lg_entry_eq]
  generalize (lg_sl ([.ref sh, .int (zI (d))]) ++ List.replicate (2 - (lg_sl ([.ref sh, .int (zI (d))])).length) Slot.unset).toArray = ls at hl ⊢
  have hl : lv_has ls 2 [(0, .ref sh), (1, .int (zI (d)))] := hl
  obtain ⟨sa, ch, tl, fl, af, rate, lv, ru, gd, hP, hR, hRu⟩ := id hPre
  obtain ⟨τ, hτ, hτ2⟩ := hR.2.2.2.1 d hd
  have hkk := hN.knd hw hd
  have hkw := hN.wkd hw hd
  unfold tlOK at hτ2
  refine lv_aload_n hx hb dX3_workedOn_0 rfl (lv_at hl 0 rfl) ?_
  refine va_get (D := g.1) (ci := 3) (v := .ref ((sa 1))) (C := RX3) (T := TX3) (N := 7) hx hb hts hinX3 hown hK hP 0 rfl rfl 1 (by decide) k15 (fun _ h9 => h9) rfl dX3_workedOn_1 ?_
  refine lv_iload_n hx hb dX3_workedOn_4 rfl (lv_at hl 1 rfl) ?_
  refine z_iald hx hb hK hP 2 0 (rfl) rfl (by decide) (d) (by omega) (by omega) dX3_workedOn_5 ?_
  refine z_top (y := zI (τ)) (hτ) ?_
  refine lv_iconst (v := zI (0)) hx hb dX3_workedOn_6 (by decide) ?_
  refine z_mmax hx hb (hml.trans hl.1.symm) hown k69 kSmax kM kCmax (Nat.le_of_ble_eq_true rfl) (Nat.le_of_ble_eq_true rfl) (Nat.zero_le _) (Nat.zero_le _) (by omega) (by omega) dX3_workedOn_7 ?_
  exact W.iret hx hb hr (fun tX htX hWX => ⟨_, rfl, congrArg zI (by omega), htX⟩) (fun _ h9 => by cases h9) dX3_workedOn_10

set_option maxHeartbeats 4000000 in
set_option maxRecDepth 100000 in
theorem c_X3_loadOn (l : Launch) (g : GG) (sh w : Nat) (N : Nat → Int32) (hN : okN N) (hw : w < 4) (d : Nat) (hd : d < 364) : Met l yX3_loadOn wsX3_loadOn ({ frames := 2, cells := 0, slots := 0, locals := 43 }) (gPc g [.ref sh, .int (zI (d))] (rdS g sh w N)) (vp_Si (fun r : Int32 => r = zI (load N w d))) 0 0 (fun _ => False) := by
  refine Met.ofW (cc := cX3_loadOn) (maxL := 2) (ret := (some .int)) (by decide) rfl ?_
  intro p e s m args below meth c s₁ B hml hv
  obtain ⟨rfl, hPre, hK⟩ := hv
  have hx := B.exec
  have hb := B.bytes
  have hr := B.returns
  have hts := atoms_spec (ws := wsX3_loadOn) B.pre
  have hown : s.vm.findClass RX3 = some m.cls := findClass_of_methodNamed B.named
  have hlocks := B.notSynchronized
  have hl := lv_entry ([.ref sh, .int (zI (d))]) (n := 2) (Nat.le_of_ble_eq_true rfl)
  rw [lg_entry_eq]
  generalize (lg_sl ([.ref sh, .int (zI (d))]) ++ List.replicate (2 - (lg_sl ([.ref sh, .int (zI (d))])).length) Slot.unset).toArray = ls at hl ⊢
  have hl : lv_has ls 2 [(0, .ref sh), (1, .int (zI (d)))] := hl
  obtain ⟨sa, ch, tl, fl, af, rate, lv, ru, gd, hP, hR, hRu⟩ := id hPre
  obtain ⟨τ, hτ, hτ2⟩ := hR.2.2.2.1 d hd
  have hkk := hN.knd hw hd
  have hkw := hN.wkd hw hd
  unfold tlOK at hτ2
  refine lv_aload_n hx hb dX3_loadOn_0 rfl (lv_at hl 0 rfl) ?_
  refine lv_iload_n hx hb dX3_loadOn_1 rfl (lv_at hl 1 rfl) ?_
  refine vp_callSi (va_Run.run (va_runV (As := [.int (zI (d))]) (rest := []) ⟨hx, hb, hml, hown, hts⟩ (c_X3_kindOn l g (sh) (w) (N) (hN) (hw) (d) (hd)) (cwV 1 hts gX3_loadOn_X3_kindOn rfl rfl rfl (by decide +kernel) ⟨Nat.le_of_ble_eq_true rfl, Nat.le_of_ble_eq_true rfl⟩) (g_preV hPre hK (va_recv hK hP (q0 := 0) (ci := 3) rfl rfl)) rfl rfl hl.1 rfl (lv_room (Nat.le_of_ble_eq_true rfl)) dX3_loadOn_2 ⟨Nat.le_of_ble_eq_true rfl, Nat.le_of_ble_eq_true rfl⟩)) (fun r hr9 => ?_)
  subst hr9
  refine lv_iconst (v := zI (1)) hx hb dX3_loadOn_5 (by decide) ?_
  refine z_icmp_ne (tgt := 17) hx hb dX3_loadOn_6 (by decide) (by omega) (by omega) (fun h6 => ?_) (fun h6 => ?_)
  · refine lv_aload_n hx hb dX3_loadOn_17 rfl (lv_at hl 0 rfl) ?_
    refine lv_iload_n hx hb dX3_loadOn_18 rfl (lv_at hl 1 rfl) ?_
    refine vp_callSi (va_Run.run (va_runV (As := [.int (zI (d))]) (rest := []) ⟨hx, hb, hml, hown, hts⟩ (c_X3_workedOn l g (sh) (w) (N) (hN) (hw) (d) (hd)) (cwV 1 hts gX3_loadOn_X3_workedOn rfl rfl rfl (by decide +kernel) ⟨Nat.le_of_ble_eq_true rfl, Nat.le_of_ble_eq_true rfl⟩) (g_preV hPre hK (va_recv hK hP (q0 := 0) (ci := 3) rfl rfl)) rfl rfl hl.1 rfl (lv_room (Nat.le_of_ble_eq_true rfl)) dX3_loadOn_19 ⟨Nat.le_of_ble_eq_true rfl, Nat.le_of_ble_eq_true rfl⟩)) (fun r hr9 => ?_)
    subst hr9
    exact W.iret hx hb hr (fun tX htX hWX => ⟨_, rfl, congrArg zI (by unfold load; (repeat' split) <;> omega), htX⟩) (fun _ h9 => by cases h9) dX3_loadOn_22
  · refine lv_aload_n hx hb dX3_loadOn_9 rfl (lv_at hl 0 rfl) ?_
    refine lv_iload_n hx hb dX3_loadOn_10 rfl (lv_at hl 1 rfl) ?_
    refine vp_callSi (va_Run.run (va_runV (As := [.int (zI (d))]) (rest := []) ⟨hx, hb, hml, hown, hts⟩ (c_X3_planOn l g (sh) (w) (N) (hN) (hw) (d) (hd)) (cwV 1 hts gX3_loadOn_X3_planOn rfl rfl rfl (by decide +kernel) ⟨Nat.le_of_ble_eq_true rfl, Nat.le_of_ble_eq_true rfl⟩) (g_preV hPre hK (va_recv hK hP (q0 := 0) (ci := 3) rfl rfl)) rfl rfl hl.1 rfl (lv_room (Nat.le_of_ble_eq_true rfl)) dX3_loadOn_11 ⟨Nat.le_of_ble_eq_true rfl, Nat.le_of_ble_eq_true rfl⟩)) (fun r hr9 => ?_)
    subst hr9
    refine lv_goto (tgt := 22) hx hb dX3_loadOn_14 (by decide) ?_
    exact W.iret hx hb hr (fun tX htX hWX => ⟨_, rfl, congrArg zI (by unfold load; (repeat' split) <;> omega), htX⟩) (fun _ h9 => by cases h9) dX3_loadOn_22

set_option maxHeartbeats 4000000 in
set_option maxRecDepth 100000 in
theorem c_X3_windowLoadAhead (l : Launch) (g : GG) (sh w : Nat) (N : Nat → Int32) (hN : okN N) (hw : w < 4) (x : Nat) (hx9 : x < 364) : Met l yX3_windowLoadAhead wsX3_windowLoadAhead ({ frames := 3, cells := 0, slots := 0, locals := 64 }) (gPc g [.ref sh, .int (zI (x))] (rdS g sh w N)) (vp_Si (fun r : Int32 => r = zI (ldS N w ((x : Int) - mn N 2 + 1) ((x : Int) - 1)))) 0 0 (fun _ => False) := by
  refine Met.ofW (cc := cX3_windowLoadAhead) (maxL := 4) (ret := (some .int)) (by decide) rfl ?_
  intro p e s m args below meth c s₁ B hml hv
  obtain ⟨rfl, hPre, hK⟩ := hv
  have hx := B.exec
  have hb := B.bytes
  have hr := B.returns
  have hts := atoms_spec (ws := wsX3_windowLoadAhead) B.pre
  have hown : s.vm.findClass RX3 = some m.cls := findClass_of_methodNamed B.named
  have hlocks := B.notSynchronized
  have hinX3 : ∀ w ∈ wsX30, w ∈ wsX3_windowLoadAhead := by decide +kernel
  have k33 := hts (.fieldLink RX3 33 "HoursBank$Sheet" "rules" "LHoursBank$Rules;") (by decide +kernel)
  have k69 := hts (.methodLink RX3 69 Lib.Math.max.name) (by decide +kernel)
  have kSmax := hts (.static Lib.Math.max.name) (by decide +kernel)
  have kM := hts (.initialized "java/lang/Math") (by decide +kernel)
  have kCmax := hts (.code Lib.Math.max.name Lib.Math.max.code 2 (some .int)) (by decide +kernel)
  have hl := lv_entry ([.ref sh, .int (zI (x))]) (n := 4) (Nat.le_of_ble_eq_true rfl)
  rw [lg_entry_eq]
  generalize (lg_sl ([.ref sh, .int (zI (x))]) ++ List.replicate (4 - (lg_sl ([.ref sh, .int (zI (x))])).length) Slot.unset).toArray = ls at hl ⊢
  have hl : lv_has ls 4 [(0, .ref sh), (1, .int (zI (x)))] := hl
  obtain ⟨sa, ch, tl, fl, af, rate, lv, ru, gd, hP, hR, hRu⟩ := id hPre
  refine lv_iconst (v := zI (0)) hx hb dX3_windowLoadAhead_0 (by decide) ?_
  refine lv_istore_n (lv' := [(2, .int (zI (0))), (0, .ref sh), (1, .int (zI (x)))]) hx hb dX3_windowLoadAhead_1 rfl hl (by decide) rfl (fun ls hl => ?_)
  refine lv_iconst (v := zI (0)) hx hb dX3_windowLoadAhead_2 (by decide) ?_
  refine lv_iload_n hx hb dX3_windowLoadAhead_3 rfl (lv_at hl 2 rfl) ?_
  refine lv_aload_n hx hb dX3_windowLoadAhead_4 rfl (lv_at hl 1 rfl) ?_
  refine va_get (D := g.1) (ci := 3) (v := .ref ru) (C := RX3) (T := TX3) (N := 7) hx hb hts hinX3 hown hK hP 0 rfl rfl 6 (by decide) k33 (fun _ h9 => h9) rfl dX3_windowLoadAhead_5 ?_
  refine vp_callSi (va_Run.run (va_runV (As := []) (rest := [.int (zI (x)), .int (zI (0))]) ⟨hx, hb, hml, hown, hts⟩ (c_X2_window l g (ru) (N) (hN)) (cwV 0 hts gX3_windowLoadAhead_X2_window rfl rfl rfl (by decide +kernel) ⟨Nat.le_of_ble_eq_true rfl, Nat.le_of_ble_eq_true rfl⟩) (g_preV hRu hK (rdR_recv hK hRu)) rfl rfl hl.1 rfl (lv_room (Nat.le_of_ble_eq_true rfl)) dX3_windowLoadAhead_8 ⟨Nat.le_of_ble_eq_true rfl, Nat.le_of_ble_eq_true rfl⟩)) (fun r hr9 => ?_)
  subst hr9
  have hwn := hN.win.le
  have hw1 := hN.win1
  refine z_isub hx hb dX3_windowLoadAhead_11 ?_
  refine lv_iconst (v := zI (1)) hx hb dX3_windowLoadAhead_12 (by decide) ?_
  refine z_iadd hx hb dX3_windowLoadAhead_13 ?_
  refine z_mmax hx hb (hml.trans hl.1.symm) hown k69 kSmax kM kCmax (Nat.le_of_ble_eq_true rfl) (Nat.le_of_ble_eq_true rfl) (Nat.zero_le _) (Nat.zero_le _) (by omega) (by omega) dX3_windowLoadAhead_14 ?_
  refine lv_istore_n (lv' := [(3, .int (zI (max (0) ((x - (mn N 2)) + 1)))), (2, .int (zI (0))), (0, .ref sh), (1, .int (zI (x)))]) hx hb dX3_windowLoadAhead_17 rfl hl (by decide) rfl (fun ls hl => ?_)
  have loop18 : ∀ (K9 : Nat) (i : Nat) (hK9 : (x - ((x : Int) - mn N 2 + 1).toNat) - i < K9) (hi : i ≤ x - ((x : Int) - mn N 2 + 1).toNat) (ls : Array Slot) (hl : lv_has ls 4 [(3, .int (zI (((((x : Int) - mn N 2 + 1).toNat + i : Nat) : Int)))), (2, .int (zI (sumN (load N w) ((x : Int) - mn N 2 + 1).toNat i))), (0, .ref sh), (1, .int (zI (x)))]), W p l e (headSpec wsX3_windowLoadAhead ({ frames := 3, cells := 0, slots := 0, locals := 64 })).room s m ([.ref sh, .int (zI (x))] : List Value).toArray below meth c s.heap [] 0 0 (MQ below (vp_Si (fun r : Int32 => r = zI (ldS N w ((x : Int) - mn N 2 + 1) ((x : Int) - 1)))) ([.ref sh, .int (zI (x))] : List Value).toArray s 0 0 (fun _ => False)) (F0 m 18 ls []) := by
    intro K9
    induction K9 with
    | zero => intro i hK9; exact absurd hK9 (Nat.not_lt_zero _)
    | succ K9 ih =>
      intro i hK9 hi ls hl
      refine lv_iload_n hx hb dX3_windowLoadAhead_18 rfl (lv_at hl 0 rfl) ?_
      refine lv_iload_n hx hb dX3_windowLoadAhead_19 rfl (lv_at hl 3 rfl) ?_
      refine z_icmp_ge (tgt := 37) hx hb dX3_windowLoadAhead_20 (by decide) (by omega) (by omega) (fun h20 => ?_) (fun h20 => ?_)
      · refine lv_iload_n hx hb dX3_windowLoadAhead_37 rfl (lv_at hl 1 rfl) ?_
        exact W.iret hx hb hr (fun tX htX hWX => ⟨_, rfl, zN_cg (by unfold ldS; rw [show i = ((x : Int) - 1 + 1).toNat - ((x : Int) - mn N 2 + 1).toNat by omega]), htX⟩) (fun _ h9 => by cases h9) dX3_windowLoadAhead_38
      · refine lv_iload_n hx hb dX3_windowLoadAhead_23 rfl (lv_at hl 1 rfl) ?_
        refine lv_aload_n hx hb dX3_windowLoadAhead_24 rfl (lv_at hl 2 rfl) ?_
        refine lv_iload_n hx hb dX3_windowLoadAhead_25 rfl (lv_at hl 0 rfl) ?_
        refine vp_callSi (va_Run.run (va_runV (As := [.int (zI (((((x : Int) - mn N 2 + 1).toNat + i : Nat) : Int)))]) (rest := [.int (zI (sumN (load N w) ((x : Int) - mn N 2 + 1).toNat i))]) ⟨hx, hb, hml, hown, hts⟩ (c_X3_loadOn l g (sh) (w) (N) (hN) (hw) ((((x : Int) - mn N 2 + 1).toNat + i)) (by omega)) (cwV 1 hts gX3_windowLoadAhead_X3_loadOn rfl rfl rfl (by decide +kernel) ⟨Nat.le_of_ble_eq_true rfl, Nat.le_of_ble_eq_true rfl⟩) (g_preV hPre hK (va_recv hK hP (q0 := 0) (ci := 3) rfl rfl)) rfl rfl hl.1 rfl (lv_room (Nat.le_of_ble_eq_true rfl)) dX3_windowLoadAhead_26 ⟨Nat.le_of_ble_eq_true rfl, Nat.le_of_ble_eq_true rfl⟩)) (fun r hr9 => ?_)
        subst hr9
        refine z_iadd hx hb dX3_windowLoadAhead_29 ?_
        refine lv_istore_n (lv' := [(2, .int (zI ((sumN (load N w) ((x : Int) - mn N 2 + 1).toNat i) + (load N w (((x : Int) - mn N 2 + 1).toNat + i))))), (3, .int (zI (((((x : Int) - mn N 2 + 1).toNat + i : Nat) : Int)))), (0, .ref sh), (1, .int (zI (x)))]) hx hb dX3_windowLoadAhead_30 rfl hl (by decide) rfl (fun ls hl => ?_)
        refine z_iinc (lv' := [(3, .int (zI (((((x : Int) - mn N 2 + 1).toNat + i : Nat) : Int) + 1))), (2, .int (zI ((sumN (load N w) ((x : Int) - mn N 2 + 1).toNat i) + (load N w (((x : Int) - mn N 2 + 1).toNat + i))))), (0, .ref sh), (1, .int (zI (x)))]) hx hb dX3_windowLoadAhead_31 hl (k := 1) rfl (by decide) rfl (fun ls hl => ?_)
        refine lv_goto (tgt := 18) hx hb dX3_windowLoadAhead_34 (by decide) ?_
        have hl := lv_sub (l' := [(3, .int (zI (((((x : Int) - mn N 2 + 1).toNat + i : Nat) : Int) + 1))), (2, .int (zI ((sumN (load N w) ((x : Int) - mn N 2 + 1).toNat i) + (load N w (((x : Int) - mn N 2 + 1).toNat + i))))), (0, .ref sh), (1, .int (zI (x)))]) hl [0, 1, 2, 3] rfl
        have hl : lv_has ls 4 [(3, .int (zI (((((x : Int) - mn N 2 + 1).toNat + (i + 1) : Nat) : Int)))), (2, .int (zI (sumN (load N w) ((x : Int) - mn N 2 + 1).toNat (i + 1)))), (0, .ref sh), (1, .int (zI (x)))] := lv_cg (lvE (congrArg zI (by omega)) (lvE (congrArg zI (by rw [sumN_s]; omega)) (lvR (lvR (rfl))))) hl
        exact ih (i + 1) (by omega) (by omega) ls hl
  have hl := lv_sub (l' := [(3, .int (zI (max (0) ((x - (mn N 2)) + 1)))), (2, .int (zI (0))), (0, .ref sh), (1, .int (zI (x)))]) hl [0, 1, 2, 3] rfl
  have hl : lv_has ls 4 [(3, .int (zI (((((x : Int) - mn N 2 + 1).toNat + 0 : Nat) : Int)))), (2, .int (zI (sumN (load N w) ((x : Int) - mn N 2 + 1).toNat 0))), (0, .ref sh), (1, .int (zI (x)))] := lv_cg (lvE (congrArg zI (by omega)) (lvE (congrArg zI (rfl)) (lvR (lvR (rfl))))) hl
  exact loop18 _ (0) (Nat.lt_succ_self _) (Nat.zero_le _) ls hl

set_option maxHeartbeats 4000000 in
set_option maxRecDepth 100000 in
theorem c_X3_windowLoad (l : Launch) (g : GG) (sh w : Nat) (N : Nat → Int32) (hN : okN N) (hw : w < 4) (x : Nat) (hx9 : x < 364) : Met l yX3_windowLoad wsX3_windowLoad ({ frames := 4, cells := 0, slots := 0, locals := 87 }) (gPc g [.ref sh, .int (zI (x))] (rdS g sh w N)) (vp_Si (fun r : Int32 => r = zI (ldS N w ((x : Int) - mn N 2 + 1) x))) 0 0 (fun _ => False) := by
  refine Met.ofW (cc := cX3_windowLoad) (maxL := 2) (ret := (some .int)) (by decide) rfl ?_
  intro p e s m args below meth c s₁ B hml hv
  obtain ⟨rfl, hPre, hK⟩ := hv
  have hx := B.exec
  have hb := B.bytes
  have hr := B.returns
  have hts := atoms_spec (ws := wsX3_windowLoad) B.pre
  have hown : s.vm.findClass RX3 = some m.cls := findClass_of_methodNamed B.named
  have hlocks := B.notSynchronized
  have hl := lv_entry ([.ref sh, .int (zI (x))]) (n := 2) (Nat.le_of_ble_eq_true rfl)
  rw [lg_entry_eq]
  generalize (lg_sl ([.ref sh, .int (zI (x))]) ++ List.replicate (2 - (lg_sl ([.ref sh, .int (zI (x))])).length) Slot.unset).toArray = ls at hl ⊢
  have hl : lv_has ls 2 [(0, .ref sh), (1, .int (zI (x)))] := hl
  obtain ⟨sa, ch, tl, fl, af, rate, lv, ru, gd, hP, hR, hRu⟩ := id hPre
  refine lv_aload_n hx hb dX3_windowLoad_0 rfl (lv_at hl 0 rfl) ?_
  refine lv_iload_n hx hb dX3_windowLoad_1 rfl (lv_at hl 1 rfl) ?_
  refine vp_callSi (va_Run.run (va_runV (As := [.int (zI (x))]) (rest := []) ⟨hx, hb, hml, hown, hts⟩ (c_X3_windowLoadAhead l g (sh) (w) (N) (hN) (hw) (x) (hx9)) (cwV 1 hts gX3_windowLoad_X3_windowLoadAhead rfl rfl rfl (by decide +kernel) ⟨Nat.le_of_ble_eq_true rfl, Nat.le_of_ble_eq_true rfl⟩) (g_preV hPre hK (va_recv hK hP (q0 := 0) (ci := 3) rfl rfl)) rfl rfl hl.1 rfl (lv_room (Nat.le_of_ble_eq_true rfl)) dX3_windowLoad_2 ⟨Nat.le_of_ble_eq_true rfl, Nat.le_of_ble_eq_true rfl⟩)) (fun r hr9 => ?_)
  subst hr9
  refine lv_aload_n hx hb dX3_windowLoad_5 rfl (lv_at hl 0 rfl) ?_
  refine lv_iload_n hx hb dX3_windowLoad_6 rfl (lv_at hl 1 rfl) ?_
  refine vp_callSi (va_Run.run (va_runV (As := [.int (zI (x))]) (rest := [.int (zI (ldS N w ((x : Int) - mn N 2 + 1) ((x : Int) - 1)))]) ⟨hx, hb, hml, hown, hts⟩ (c_X3_loadOn l g (sh) (w) (N) (hN) (hw) (x) (hx9)) (cwV 1 hts gX3_windowLoad_X3_loadOn rfl rfl rfl (by decide +kernel) ⟨Nat.le_of_ble_eq_true rfl, Nat.le_of_ble_eq_true rfl⟩) (g_preV hPre hK (va_recv hK hP (q0 := 0) (ci := 3) rfl rfl)) rfl rfl hl.1 rfl (lv_room (Nat.le_of_ble_eq_true rfl)) dX3_windowLoad_7 ⟨Nat.le_of_ble_eq_true rfl, Nat.le_of_ble_eq_true rfl⟩)) (fun r hr9 => ?_)
  subst hr9
  refine z_iadd hx hb dX3_windowLoad_10 ?_
  exact W.iret hx hb hr (fun tX htX hWX => ⟨_, rfl, congrArg zI (by have hw1 := hN.win1; rw [ldS_s (by omega)]; omega), htX⟩) (fun _ h9 => by cases h9) dX3_windowLoad_11

set_option maxHeartbeats 4000000 in
set_option maxRecDepth 100000 in
theorem c_X3_plansBetween (l : Launch) (g : GG) (sh w : Nat) (N : Nat → Int32) (hN : okN N) (hw : w < 4) (x y : Nat) (hxy : x ≤ y) (hy : y < 364) : Met l yX3_plansBetween wsX3_plansBetween ({ frames := 2, cells := 0, slots := 0, locals := 43 }) (gPc g [.ref sh, .int (zI (x)), .int (zI (y))] (rdS g sh w N)) (vp_Si (fun r : Int32 => r = zI (sumN (plan N w) x (y + 1 - x)))) 0 0 (fun _ => False) := by
  refine Met.ofW (cc := cX3_plansBetween) (maxL := 5) (ret := (some .int)) (by decide) rfl ?_
  intro p e s m args below meth c s₁ B hml hv
  obtain ⟨rfl, hPre, hK⟩ := hv
  have hx := B.exec
  have hb := B.bytes
  have hr := B.returns
  have hts := atoms_spec (ws := wsX3_plansBetween) B.pre
  have hown : s.vm.findClass RX3 = some m.cls := findClass_of_methodNamed B.named
  have hlocks := B.notSynchronized
  have hl := lv_entry ([.ref sh, .int (zI (x)), .int (zI (y))]) (n := 5) (Nat.le_of_ble_eq_true rfl)
  rw [lg_entry_eq]
  generalize (lg_sl ([.ref sh, .int (zI (x)), .int (zI (y))]) ++ List.replicate (5 - (lg_sl ([.ref sh, .int (zI (x)), .int (zI (y))])).length) Slot.unset).toArray = ls at hl ⊢
  have hl : lv_has ls 5 [(0, .ref sh), (1, .int (zI (x))), (2, .int (zI (y)))] := hl
  obtain ⟨sa, ch, tl, fl, af, rate, lv, ru, gd, hP, hR, hRu⟩ := id hPre
  refine lv_iconst (v := zI (0)) hx hb dX3_plansBetween_0 (by decide) ?_
  refine lv_istore_n (lv' := [(3, .int (zI (0))), (0, .ref sh), (1, .int (zI (x))), (2, .int (zI (y)))]) hx hb dX3_plansBetween_1 rfl hl (by decide) rfl (fun ls hl => ?_)
  refine lv_iload_n hx hb dX3_plansBetween_2 rfl (lv_at hl 2 rfl) ?_
  refine lv_istore (lv' := [(4, .int (zI (x))), (3, .int (zI (0))), (0, .ref sh), (1, .int (zI (x))), (2, .int (zI (y)))]) hx hb dX3_plansBetween_3 hl (by decide) rfl (fun ls hl => ?_)
  have loop5 : ∀ (K9 : Nat) (i : Nat) (hK9 : (y + 1 - x) - i < K9) (hi : i ≤ y + 1 - x) (ls : Array Slot) (hl : lv_has ls 5 [(4, .int (zI (((x + i : Nat) : Int)))), (3, .int (zI (sumN (plan N w) x i))), (0, .ref sh), (1, .int (zI (x))), (2, .int (zI (y)))]), W p l e (headSpec wsX3_plansBetween ({ frames := 2, cells := 0, slots := 0, locals := 43 })).room s m ([.ref sh, .int (zI (x)), .int (zI (y))] : List Value).toArray below meth c s.heap [] 0 0 (MQ below (vp_Si (fun r : Int32 => r = zI (sumN (plan N w) x (y + 1 - x)))) ([.ref sh, .int (zI (x)), .int (zI (y))] : List Value).toArray s 0 0 (fun _ => False)) (F0 m 5 ls []) := by
    intro K9
    induction K9 with
    | zero => intro i hK9; exact absurd hK9 (Nat.not_lt_zero _)
    | succ K9 ih =>
      intro i hK9 hi ls hl
      refine lv_iload hx hb dX3_plansBetween_5 (lv_at hl 0 rfl) ?_
      refine lv_iload_n hx hb dX3_plansBetween_7 rfl (lv_at hl 4 rfl) ?_
      refine z_icmp_gt (tgt := 26) hx hb dX3_plansBetween_8 (by decide) (by omega) (by omega) (fun h8 => ?_) (fun h8 => ?_)
      · refine lv_iload_n hx hb dX3_plansBetween_26 rfl (lv_at hl 1 rfl) ?_
        exact W.iret hx hb hr (fun tX htX hWX => ⟨_, rfl, zN_cg (by rw [show i = y + 1 - x by omega]), htX⟩) (fun _ h9 => by cases h9) dX3_plansBetween_27
      · refine lv_iload_n hx hb dX3_plansBetween_11 rfl (lv_at hl 1 rfl) ?_
        refine lv_aload_n hx hb dX3_plansBetween_12 rfl (lv_at hl 2 rfl) ?_
        refine lv_iload hx hb dX3_plansBetween_13 (lv_at hl 0 rfl) ?_
        refine vp_callSi (va_Run.run (va_runV (As := [.int (zI (((x + i : Nat) : Int)))]) (rest := [.int (zI (sumN (plan N w) x i))]) ⟨hx, hb, hml, hown, hts⟩ (c_X3_planOn l g (sh) (w) (N) (hN) (hw) ((x + i)) (by omega)) (cwV 1 hts gX3_plansBetween_X3_planOn rfl rfl rfl (by decide +kernel) ⟨Nat.le_of_ble_eq_true rfl, Nat.le_of_ble_eq_true rfl⟩) (g_preV hPre hK (va_recv hK hP (q0 := 0) (ci := 3) rfl rfl)) rfl rfl hl.1 rfl (lv_room (Nat.le_of_ble_eq_true rfl)) dX3_plansBetween_15 ⟨Nat.le_of_ble_eq_true rfl, Nat.le_of_ble_eq_true rfl⟩)) (fun r hr9 => ?_)
        subst hr9
        refine z_iadd hx hb dX3_plansBetween_18 ?_
        refine lv_istore_n (lv' := [(3, .int (zI ((sumN (plan N w) x i) + (plan N w (x + i))))), (4, .int (zI (((x + i : Nat) : Int)))), (0, .ref sh), (1, .int (zI (x))), (2, .int (zI (y)))]) hx hb dX3_plansBetween_19 rfl hl (by decide) rfl (fun ls hl => ?_)
        refine z_iinc (lv' := [(4, .int (zI (((x + i : Nat) : Int) + 1))), (3, .int (zI ((sumN (plan N w) x i) + (plan N w (x + i))))), (0, .ref sh), (1, .int (zI (x))), (2, .int (zI (y)))]) hx hb dX3_plansBetween_20 hl (k := 1) rfl (by decide) rfl (fun ls hl => ?_)
        refine lv_goto (tgt := 5) hx hb dX3_plansBetween_23 (by decide) ?_
        have hl := lv_sub (l' := [(4, .int (zI (((x + i : Nat) : Int) + 1))), (3, .int (zI ((sumN (plan N w) x i) + (plan N w (x + i))))), (0, .ref sh), (1, .int (zI (x))), (2, .int (zI (y)))]) hl [0, 1, 2, 3, 4] rfl
        have hl : lv_has ls 5 [(4, .int (zI (((x + (i + 1) : Nat) : Int)))), (3, .int (zI (sumN (plan N w) x (i + 1)))), (0, .ref sh), (1, .int (zI (x))), (2, .int (zI (y)))] := lv_cg (lvE (congrArg zI (by omega)) (lvE (congrArg zI (by rw [sumN_s]; omega)) (lvR (lvR (lvR (rfl)))))) hl
        exact ih (i + 1) (by omega) (by omega) ls hl
  have hl := lv_sub (l' := [(4, .int (zI (x))), (3, .int (zI (0))), (0, .ref sh), (1, .int (zI (x))), (2, .int (zI (y)))]) hl [0, 1, 2, 3, 4] rfl
  have hl : lv_has ls 5 [(4, .int (zI (((x + 0 : Nat) : Int)))), (3, .int (zI (sumN (plan N w) x 0))), (0, .ref sh), (1, .int (zI (x))), (2, .int (zI (y)))] := lv_cg (lvE (congrArg zI (by omega)) (lvE (congrArg zI (rfl)) (lvR (lvR (lvR (rfl)))))) hl
  exact loop5 _ (0) (Nat.lt_succ_self _) (Nat.zero_le _) ls hl

set_option maxHeartbeats 4000000 in
set_option maxRecDepth 100000 in
theorem c_X3_workedBefore (l : Launch) (g : GG) (sh w : Nat) (N : Nat → Int32) (hN : okN N) (hw : w < 4) (x : Nat) (hx9 : x ≤ 364) : Met l yX3_workedBefore wsX3_workedBefore ({ frames := 2, cells := 0, slots := 0, locals := 34 }) (gPc g [.ref sh, .int (zI (x))] (rdS g sh w N)) (vp_Si (fun r : Int32 => r = zI (sumN (wkd N w) 0 x))) 0 0 (fun _ => False) := by
  refine Met.ofW (cc := cX3_workedBefore) (maxL := 4) (ret := (some .int)) (by decide) rfl ?_
  intro p e s m args below meth c s₁ B hml hv
  obtain ⟨rfl, hPre, hK⟩ := hv
  have hx := B.exec
  have hb := B.bytes
  have hr := B.returns
  have hts := atoms_spec (ws := wsX3_workedBefore) B.pre
  have hown : s.vm.findClass RX3 = some m.cls := findClass_of_methodNamed B.named
  have hlocks := B.notSynchronized
  have hl := lv_entry ([.ref sh, .int (zI (x))]) (n := 4) (Nat.le_of_ble_eq_true rfl)
  rw [lg_entry_eq]
  generalize (lg_sl ([.ref sh, .int (zI (x))]) ++ List.replicate (4 - (lg_sl ([.ref sh, .int (zI (x))])).length) Slot.unset).toArray = ls at hl ⊢
  have hl : lv_has ls 4 [(0, .ref sh), (1, .int (zI (x)))] := hl
  obtain ⟨sa, ch, tl, fl, af, rate, lv, ru, gd, hP, hR, hRu⟩ := id hPre
  refine lv_iconst (v := zI (0)) hx hb dX3_workedBefore_0 (by decide) ?_
  refine lv_istore_n (lv' := [(2, .int (zI (0))), (0, .ref sh), (1, .int (zI (x)))]) hx hb dX3_workedBefore_1 rfl hl (by decide) rfl (fun ls hl => ?_)
  refine lv_iconst (v := zI (0)) hx hb dX3_workedBefore_2 (by decide) ?_
  refine lv_istore_n (lv' := [(3, .int (zI (0))), (2, .int (zI (0))), (0, .ref sh), (1, .int (zI (x)))]) hx hb dX3_workedBefore_3 rfl hl (by decide) rfl (fun ls hl => ?_)
  have loop4 : ∀ (K9 : Nat) (i : Nat) (hK9 : x - i < K9) (hi : i ≤ x) (ls : Array Slot) (hl : lv_has ls 4 [(3, .int (zI (((i : Nat) : Int)))), (2, .int (zI (sumN (wkd N w) 0 i))), (0, .ref sh), (1, .int (zI (x)))]), W p l e (headSpec wsX3_workedBefore ({ frames := 2, cells := 0, slots := 0, locals := 34 })).room s m ([.ref sh, .int (zI (x))] : List Value).toArray below meth c s.heap [] 0 0 (MQ below (vp_Si (fun r : Int32 => r = zI (sumN (wkd N w) 0 x))) ([.ref sh, .int (zI (x))] : List Value).toArray s 0 0 (fun _ => False)) (F0 m 4 ls []) := by
    intro K9
    induction K9 with
    | zero => intro i hK9; exact absurd hK9 (Nat.not_lt_zero _)
    | succ K9 ih =>
      intro i hK9 hi ls hl
      refine lv_iload_n hx hb dX3_workedBefore_4 rfl (lv_at hl 0 rfl) ?_
      refine lv_iload_n hx hb dX3_workedBefore_5 rfl (lv_at hl 3 rfl) ?_
      refine z_icmp_ge (tgt := 23) hx hb dX3_workedBefore_6 (by decide) (by omega) (by omega) (fun h6 => ?_) (fun h6 => ?_)
      · refine lv_iload_n hx hb dX3_workedBefore_23 rfl (lv_at hl 1 rfl) ?_
        exact W.iret hx hb hr (fun tX htX hWX => ⟨_, rfl, zN_cg (by rw [show i = x by omega]), htX⟩) (fun _ h9 => by cases h9) dX3_workedBefore_24
      · refine lv_iload_n hx hb dX3_workedBefore_9 rfl (lv_at hl 1 rfl) ?_
        refine lv_aload_n hx hb dX3_workedBefore_10 rfl (lv_at hl 2 rfl) ?_
        refine lv_iload_n hx hb dX3_workedBefore_11 rfl (lv_at hl 0 rfl) ?_
        refine vp_callSi (va_Run.run (va_runV (As := [.int (zI (((i : Nat) : Int)))]) (rest := [.int (zI (sumN (wkd N w) 0 i))]) ⟨hx, hb, hml, hown, hts⟩ (c_X3_workedOn l g (sh) (w) (N) (hN) (hw) (i) (by omega)) (cwV 1 hts gX3_workedBefore_X3_workedOn rfl rfl rfl (by decide +kernel) ⟨Nat.le_of_ble_eq_true rfl, Nat.le_of_ble_eq_true rfl⟩) (g_preV hPre hK (va_recv hK hP (q0 := 0) (ci := 3) rfl rfl)) rfl rfl hl.1 rfl (lv_room (Nat.le_of_ble_eq_true rfl)) dX3_workedBefore_12 ⟨Nat.le_of_ble_eq_true rfl, Nat.le_of_ble_eq_true rfl⟩)) (fun r hr9 => ?_)
        subst hr9
        refine z_iadd hx hb dX3_workedBefore_15 ?_
        refine lv_istore_n (lv' := [(2, .int (zI ((sumN (wkd N w) 0 i) + (wkd N w i)))), (3, .int (zI (((i : Nat) : Int)))), (0, .ref sh), (1, .int (zI (x)))]) hx hb dX3_workedBefore_16 rfl hl (by decide) rfl (fun ls hl => ?_)
        refine z_iinc (lv' := [(3, .int (zI (((i : Nat) : Int) + 1))), (2, .int (zI ((sumN (wkd N w) 0 i) + (wkd N w i)))), (0, .ref sh), (1, .int (zI (x)))]) hx hb dX3_workedBefore_17 hl (k := 1) rfl (by decide) rfl (fun ls hl => ?_)
        refine lv_goto (tgt := 4) hx hb dX3_workedBefore_20 (by decide) ?_
        have hl := lv_sub (l' := [(3, .int (zI (((i : Nat) : Int) + 1))), (2, .int (zI ((sumN (wkd N w) 0 i) + (wkd N w i)))), (0, .ref sh), (1, .int (zI (x)))]) hl [0, 1, 2, 3] rfl
        have hl : lv_has ls 4 [(3, .int (zI ((((i + 1) : Nat) : Int)))), (2, .int (zI (sumN (wkd N w) 0 (i + 1)))), (0, .ref sh), (1, .int (zI (x)))] := lv_cg (lvE (congrArg zI (by omega)) (lvE (congrArg zI (by rw [sumN_s, Nat.zero_add]; omega)) (lvR (lvR (rfl))))) hl
        exact ih (i + 1) (by omega) (by omega) ls hl
  have hl := lv_sub (l' := [(3, .int (zI (0))), (2, .int (zI (0))), (0, .ref sh), (1, .int (zI (x)))]) hl [0, 1, 2, 3] rfl
  have hl : lv_has ls 4 [(3, .int (zI (((0 : Nat) : Int)))), (2, .int (zI (sumN (wkd N w) 0 0))), (0, .ref sh), (1, .int (zI (x)))] := lv_cg (lvE (congrArg zI (rfl)) (lvE (congrArg zI (rfl)) (lvR (lvR (rfl))))) hl
  exact loop4 _ (0) (Nat.lt_succ_self _) (Nat.zero_le _) ls hl

set_option maxHeartbeats 4000000 in
set_option maxRecDepth 100000 in
theorem c_X3_sickDaysBefore (l : Launch) (g : GG) (sh w : Nat) (N : Nat → Int32) (hN : okN N) (hw : w < 4) (x : Nat) (hx9 : x ≤ 364) : Met l yX3_sickDaysBefore wsX3_sickDaysBefore ({ frames := 2, cells := 0, slots := 0, locals := 42 }) (gPc g [.ref sh, .int (zI (x))] (rdS g sh w N)) (vp_Si (fun r : Int32 => r = zI (sumN (ind N w 1) 0 x))) 0 0 (fun _ => False) := by
  refine Met.ofW (cc := cX3_sickDaysBefore) (maxL := 4) (ret := (some .int)) (by decide) rfl ?_
  intro p e s m args below meth c s₁ B hml hv
  obtain ⟨rfl, hPre, hK⟩ := hv
  have hx := B.exec
  have hb := B.bytes
  have hr := B.returns
  have hts := atoms_spec (ws := wsX3_sickDaysBefore) B.pre
  have hown : s.vm.findClass RX3 = some m.cls := findClass_of_methodNamed B.named
  have hlocks := B.notSynchronized
  have hl := lv_entry ([.ref sh, .int (zI (x))]) (n := 4) (Nat.le_of_ble_eq_true rfl)
  rw [lg_entry_eq]
  generalize (lg_sl ([.ref sh, .int (zI (x))]) ++ List.replicate (4 - (lg_sl ([.ref sh, .int (zI (x))])).length) Slot.unset).toArray = ls at hl ⊢
  have hl : lv_has ls 4 [(0, .ref sh), (1, .int (zI (x)))] := hl
  obtain ⟨sa, ch, tl, fl, af, rate, lv, ru, gd, hP, hR, hRu⟩ := id hPre
  refine lv_iconst (v := zI (0)) hx hb dX3_sickDaysBefore_0 (by decide) ?_
  refine lv_istore_n (lv' := [(2, .int (zI (0))), (0, .ref sh), (1, .int (zI (x)))]) hx hb dX3_sickDaysBefore_1 rfl hl (by decide) rfl (fun ls hl => ?_)
  refine lv_iconst (v := zI (0)) hx hb dX3_sickDaysBefore_2 (by decide) ?_
  refine lv_istore_n (lv' := [(3, .int (zI (0))), (2, .int (zI (0))), (0, .ref sh), (1, .int (zI (x)))]) hx hb dX3_sickDaysBefore_3 rfl hl (by decide) rfl (fun ls hl => ?_)
  have loop4 : ∀ (K9 : Nat) (i : Nat) (hK9 : x - i < K9) (hi : i ≤ x) (ls : Array Slot) (hl : lv_has ls 4 [(3, .int (zI (((i : Nat) : Int)))), (2, .int (zI (sumN (ind N w 1) 0 i))), (0, .ref sh), (1, .int (zI (x)))]), W p l e (headSpec wsX3_sickDaysBefore ({ frames := 2, cells := 0, slots := 0, locals := 42 })).room s m ([.ref sh, .int (zI (x))] : List Value).toArray below meth c s.heap [] 0 0 (MQ below (vp_Si (fun r : Int32 => r = zI (sumN (ind N w 1) 0 x))) ([.ref sh, .int (zI (x))] : List Value).toArray s 0 0 (fun _ => False)) (F0 m 4 ls []) := by
    intro K9
    induction K9 with
    | zero => intro i hK9; exact absurd hK9 (Nat.not_lt_zero _)
    | succ K9 ih =>
      intro i hK9 hi ls hl
      refine lv_iload_n hx hb dX3_sickDaysBefore_4 rfl (lv_at hl 0 rfl) ?_
      refine lv_iload_n hx hb dX3_sickDaysBefore_5 rfl (lv_at hl 3 rfl) ?_
      refine z_icmp_ge (tgt := 32) hx hb dX3_sickDaysBefore_6 (by decide) (by omega) (by omega) (fun h6 => ?_) (fun h6 => ?_)
      · refine lv_iload_n hx hb dX3_sickDaysBefore_32 rfl (lv_at hl 1 rfl) ?_
        exact W.iret hx hb hr (fun tX htX hWX => ⟨_, rfl, zN_cg (by rw [show i = x by omega]), htX⟩) (fun _ h9 => by cases h9) dX3_sickDaysBefore_33
      · refine lv_iload_n hx hb dX3_sickDaysBefore_9 rfl (lv_at hl 1 rfl) ?_
        refine lv_aload_n hx hb dX3_sickDaysBefore_10 rfl (lv_at hl 2 rfl) ?_
        refine lv_iload_n hx hb dX3_sickDaysBefore_11 rfl (lv_at hl 0 rfl) ?_
        refine vp_callSi (va_Run.run (va_runV (As := [.int (zI (((i : Nat) : Int)))]) (rest := [.int (zI (sumN (ind N w 1) 0 i))]) ⟨hx, hb, hml, hown, hts⟩ (c_X3_kindOn l g (sh) (w) (N) (hN) (hw) (i) (by omega)) (cwV 1 hts gX3_sickDaysBefore_X3_kindOn rfl rfl rfl (by decide +kernel) ⟨Nat.le_of_ble_eq_true rfl, Nat.le_of_ble_eq_true rfl⟩) (g_preV hPre hK (va_recv hK hP (q0 := 0) (ci := 3) rfl rfl)) rfl rfl hl.1 rfl (lv_room (Nat.le_of_ble_eq_true rfl)) dX3_sickDaysBefore_12 ⟨Nat.le_of_ble_eq_true rfl, Nat.le_of_ble_eq_true rfl⟩)) (fun r hr9 => ?_)
        subst hr9
        refine lv_iconst (v := zI (1)) hx hb dX3_sickDaysBefore_15 (by decide) ?_
        have hkk := hN.knd hw (d := i) (by omega)
        refine z_icmp_ne (tgt := 23) hx hb dX3_sickDaysBefore_16 (by decide) (by omega) (by omega) (fun h16 => ?_) (fun h16 => ?_)
        · refine lv_iconst (v := zI (0)) hx hb dX3_sickDaysBefore_23 (by decide) ?_
          refine z_iadd hx hb dX3_sickDaysBefore_24 ?_
          refine lv_istore_n (lv' := [(2, .int (zI ((sumN (ind N w 1) 0 i) + 0))), (3, .int (zI (((i : Nat) : Int)))), (0, .ref sh), (1, .int (zI (x)))]) hx hb dX3_sickDaysBefore_25 rfl hl (by decide) rfl (fun ls hl => ?_)
          refine z_iinc (lv' := [(3, .int (zI (((i : Nat) : Int) + 1))), (2, .int (zI ((sumN (ind N w 1) 0 i) + 0))), (0, .ref sh), (1, .int (zI (x)))]) hx hb dX3_sickDaysBefore_26 hl (k := 1) rfl (by decide) rfl (fun ls hl => ?_)
          refine lv_goto (tgt := 4) hx hb dX3_sickDaysBefore_29 (by decide) ?_
          have hl := lv_sub (l' := [(3, .int (zI (((i : Nat) : Int) + 1))), (2, .int (zI ((sumN (ind N w 1) 0 i) + 0))), (0, .ref sh), (1, .int (zI (x)))]) hl [0, 1, 2, 3] rfl
          have hl : lv_has ls 4 [(3, .int (zI ((((i + 1) : Nat) : Int)))), (2, .int (zI (sumN (ind N w 1) 0 (i + 1)))), (0, .ref sh), (1, .int (zI (x)))] := lv_cg (lvE (congrArg zI (by omega)) (lvE (congrArg zI (by first | (rw [sumN_s, Nat.zero_add, show ind N w 1 i = 1 from if_pos (by omega)]; omega) | (rw [sumN_s, Nat.zero_add, show ind N w 1 i = 0 from if_neg (by omega)]; omega))) (lvR (lvR (rfl))))) hl
          exact ih (i + 1) (by omega) (by omega) ls hl
        · refine lv_iconst (v := zI (1)) hx hb dX3_sickDaysBefore_19 (by decide) ?_
          refine lv_goto (tgt := 24) hx hb dX3_sickDaysBefore_20 (by decide) ?_
          refine z_iadd hx hb dX3_sickDaysBefore_24 ?_
          refine lv_istore_n (lv' := [(2, .int (zI ((sumN (ind N w 1) 0 i) + 1))), (3, .int (zI (((i : Nat) : Int)))), (0, .ref sh), (1, .int (zI (x)))]) hx hb dX3_sickDaysBefore_25 rfl hl (by decide) rfl (fun ls hl => ?_)
          refine z_iinc (lv' := [(3, .int (zI (((i : Nat) : Int) + 1))), (2, .int (zI ((sumN (ind N w 1) 0 i) + 1))), (0, .ref sh), (1, .int (zI (x)))]) hx hb dX3_sickDaysBefore_26 hl (k := 1) rfl (by decide) rfl (fun ls hl => ?_)
          refine lv_goto (tgt := 4) hx hb dX3_sickDaysBefore_29 (by decide) ?_
          have hl := lv_sub (l' := [(3, .int (zI (((i : Nat) : Int) + 1))), (2, .int (zI ((sumN (ind N w 1) 0 i) + 1))), (0, .ref sh), (1, .int (zI (x)))]) hl [0, 1, 2, 3] rfl
          have hl : lv_has ls 4 [(3, .int (zI ((((i + 1) : Nat) : Int)))), (2, .int (zI (sumN (ind N w 1) 0 (i + 1)))), (0, .ref sh), (1, .int (zI (x)))] := lv_cg (lvE (congrArg zI (by omega)) (lvE (congrArg zI (by first | (rw [sumN_s, Nat.zero_add, show ind N w 1 i = 1 from if_pos (by omega)]; omega) | (rw [sumN_s, Nat.zero_add, show ind N w 1 i = 0 from if_neg (by omega)]; omega))) (lvR (lvR (rfl))))) hl
          exact ih (i + 1) (by omega) (by omega) ls hl
  have hl := lv_sub (l' := [(3, .int (zI (0))), (2, .int (zI (0))), (0, .ref sh), (1, .int (zI (x)))]) hl [0, 1, 2, 3] rfl
  have hl : lv_has ls 4 [(3, .int (zI (((0 : Nat) : Int)))), (2, .int (zI (sumN (ind N w 1) 0 0))), (0, .ref sh), (1, .int (zI (x)))] := lv_cg (lvE (congrArg zI (rfl)) (lvE (congrArg zI (rfl)) (lvR (lvR (rfl))))) hl
  exact loop4 _ (0) (Nat.lt_succ_self _) (Nat.zero_le _) ls hl

set_option maxHeartbeats 4000000 in
set_option maxRecDepth 100000 in
theorem c_X3_changedDays (l : Launch) (g : GG) (sh w : Nat) (N : Nat → Int32) (hN : okN N) (hw : w < 4)  : Met l yX3_changedDays wsX3_changedDays ({ frames := 1, cells := 0, slots := 0, locals := 21 }) (gPc g [.ref sh] (rdS g sh w N)) (vp_Si (fun r : Int32 => r = zI (sumN (ind N w 4) 0 364))) 0 0 (fun _ => False) := by
  refine Met.ofW (cc := cX3_changedDays) (maxL := 3) (ret := (some .int)) (by decide) rfl ?_
  intro p e s m args below meth c s₁ B hml hv
  obtain ⟨rfl, hPre, hK⟩ := hv
  have hx := B.exec
  have hb := B.bytes
  have hr := B.returns
  have hts := atoms_spec (ws := wsX3_changedDays) B.pre
  have hown : s.vm.findClass RX3 = some m.cls := findClass_of_methodNamed B.named
  have hlocks := B.notSynchronized
  have hl := lv_entry ([.ref sh]) (n := 3) (Nat.le_of_ble_eq_true rfl)
  rw [lg_entry_eq]
  generalize (lg_sl ([.ref sh]) ++ List.replicate (3 - (lg_sl ([.ref sh])).length) Slot.unset).toArray = ls at hl ⊢
  have hl : lv_has ls 3 [(0, .ref sh)] := hl
  obtain ⟨sa, ch, tl, fl, af, rate, lv, ru, gd, hP, hR, hRu⟩ := id hPre
  refine lv_iconst (v := zI (0)) hx hb dX3_changedDays_0 (by decide) ?_
  refine lv_istore_n (lv' := [(1, .int (zI (0))), (0, .ref sh)]) hx hb dX3_changedDays_1 rfl hl (by decide) rfl (fun ls hl => ?_)
  refine lv_iconst (v := zI (0)) hx hb dX3_changedDays_2 (by decide) ?_
  refine lv_istore_n (lv' := [(2, .int (zI (0))), (1, .int (zI (0))), (0, .ref sh)]) hx hb dX3_changedDays_3 rfl hl (by decide) rfl (fun ls hl => ?_)
  have loop4 : ∀ (K9 : Nat) (i : Nat) (hK9 : 364 - i < K9) (hi : i ≤ 364) (ls : Array Slot) (hl : lv_has ls 3 [(2, .int (zI (((i : Nat) : Int)))), (1, .int (zI (sumN (ind N w 4) 0 i))), (0, .ref sh)]), W p l e (headSpec wsX3_changedDays ({ frames := 1, cells := 0, slots := 0, locals := 21 })).room s m ([.ref sh] : List Value).toArray below meth c s.heap [] 0 0 (MQ below (vp_Si (fun r : Int32 => r = zI (sumN (ind N w 4) 0 364))) ([.ref sh] : List Value).toArray s 0 0 (fun _ => False)) (F0 m 4 ls []) := by
    intro K9
    induction K9 with
    | zero => intro i hK9; exact absurd hK9 (Nat.not_lt_zero _)
    | succ K9 ih =>
      intro i hK9 hi ls hl
      refine lv_iload_n hx hb dX3_changedDays_4 rfl (lv_at hl 0 rfl) ?_
      refine lv_sipush (v := zI (364)) hx hb dX3_changedDays_5 (by decide) ?_
      refine z_icmp_ge (tgt := 33) hx hb dX3_changedDays_8 (by decide) (by omega) (by omega) (fun h8 => ?_) (fun h8 => ?_)
      · refine lv_iload_n hx hb dX3_changedDays_33 rfl (lv_at hl 1 rfl) ?_
        exact W.iret hx hb hr (fun tX htX hWX => ⟨_, rfl, zN_cg (by rw [show i = 364 by omega]), htX⟩) (fun _ h9 => by cases h9) dX3_changedDays_34
      · refine lv_iload_n hx hb dX3_changedDays_11 rfl (lv_at hl 1 rfl) ?_
        refine lv_aload_n hx hb dX3_changedDays_12 rfl (lv_at hl 2 rfl) ?_
        refine lv_iload_n hx hb dX3_changedDays_13 rfl (lv_at hl 0 rfl) ?_
        refine vp_callSi (va_Run.run (va_runV (As := [.int (zI (((i : Nat) : Int)))]) (rest := [.int (zI (sumN (ind N w 4) 0 i))]) ⟨hx, hb, hml, hown, hts⟩ (c_X3_isChanged l g (sh) (w) (N) (hN) (hw) (i) (by omega)) (cwV 1 hts gX3_changedDays_X3_isChanged rfl rfl rfl (by decide +kernel) ⟨Nat.le_of_ble_eq_true rfl, Nat.le_of_ble_eq_true rfl⟩) (g_preV hPre hK (va_recv hK hP (q0 := 0) (ci := 3) rfl rfl)) rfl rfl hl.1 rfl (lv_room (Nat.le_of_ble_eq_true rfl)) dX3_changedDays_14 ⟨Nat.le_of_ble_eq_true rfl, Nat.le_of_ble_eq_true rfl⟩)) (fun r hr9 => ?_)
        subst hr9
        refine z_bz_eq (tgt := 24) hx hb dX3_changedDays_17 (by decide) (fun h17 => ?_) (fun h17 => ?_)
        · refine lv_iconst (v := zI (0)) hx hb dX3_changedDays_24 (by decide) ?_
          refine z_iadd hx hb dX3_changedDays_25 ?_
          refine lv_istore_n (lv' := [(1, .int (zI ((sumN (ind N w 4) 0 i) + 0))), (2, .int (zI (((i : Nat) : Int)))), (0, .ref sh)]) hx hb dX3_changedDays_26 rfl hl (by decide) rfl (fun ls hl => ?_)
          refine z_iinc (lv' := [(2, .int (zI (((i : Nat) : Int) + 1))), (1, .int (zI ((sumN (ind N w 4) 0 i) + 0))), (0, .ref sh)]) hx hb dX3_changedDays_27 hl (k := 1) rfl (by decide) rfl (fun ls hl => ?_)
          refine lv_goto (tgt := 4) hx hb dX3_changedDays_30 (by decide) ?_
          have hl := lv_sub (l' := [(2, .int (zI (((i : Nat) : Int) + 1))), (1, .int (zI ((sumN (ind N w 4) 0 i) + 0))), (0, .ref sh)]) hl [0, 1, 2] rfl
          have hl : lv_has ls 3 [(2, .int (zI ((((i + 1) : Nat) : Int)))), (1, .int (zI (sumN (ind N w 4) 0 (i + 1)))), (0, .ref sh)] := lv_cg (lvE (congrArg zI (by omega)) (lvE (congrArg zI (by first | (rw [sumN_s, Nat.zero_add, show ind N w 4 i = 1 from if_pos (by omega)]; omega) | (rw [sumN_s, Nat.zero_add, show ind N w 4 i = 0 from if_neg (by omega)]; omega))) (lvR (rfl)))) hl
          exact ih (i + 1) (by omega) (by omega) ls hl
        · refine lv_iconst (v := zI (1)) hx hb dX3_changedDays_20 (by decide) ?_
          refine lv_goto (tgt := 25) hx hb dX3_changedDays_21 (by decide) ?_
          refine z_iadd hx hb dX3_changedDays_25 ?_
          refine lv_istore_n (lv' := [(1, .int (zI ((sumN (ind N w 4) 0 i) + 1))), (2, .int (zI (((i : Nat) : Int)))), (0, .ref sh)]) hx hb dX3_changedDays_26 rfl hl (by decide) rfl (fun ls hl => ?_)
          refine z_iinc (lv' := [(2, .int (zI (((i : Nat) : Int) + 1))), (1, .int (zI ((sumN (ind N w 4) 0 i) + 1))), (0, .ref sh)]) hx hb dX3_changedDays_27 hl (k := 1) rfl (by decide) rfl (fun ls hl => ?_)
          refine lv_goto (tgt := 4) hx hb dX3_changedDays_30 (by decide) ?_
          have hl := lv_sub (l' := [(2, .int (zI (((i : Nat) : Int) + 1))), (1, .int (zI ((sumN (ind N w 4) 0 i) + 1))), (0, .ref sh)]) hl [0, 1, 2] rfl
          have hl : lv_has ls 3 [(2, .int (zI ((((i + 1) : Nat) : Int)))), (1, .int (zI (sumN (ind N w 4) 0 (i + 1)))), (0, .ref sh)] := lv_cg (lvE (congrArg zI (by omega)) (lvE (congrArg zI (by first | (rw [sumN_s, Nat.zero_add, show ind N w 4 i = 1 from if_pos (by omega)]; omega) | (rw [sumN_s, Nat.zero_add, show ind N w 4 i = 0 from if_neg (by omega)]; omega))) (lvR (rfl)))) hl
          exact ih (i + 1) (by omega) (by omega) ls hl
  have hl := lv_sub (l' := [(2, .int (zI (0))), (1, .int (zI (0))), (0, .ref sh)]) hl [0, 1, 2] rfl
  have hl : lv_has ls 3 [(2, .int (zI (((0 : Nat) : Int)))), (1, .int (zI (sumN (ind N w 4) 0 0))), (0, .ref sh)] := lv_cg (lvE (congrArg zI (rfl)) (lvE (congrArg zI (rfl)) (lvR (rfl)))) hl
  exact loop4 _ (0) (Nat.lt_succ_self _) (Nat.zero_le _) ls hl

set_option maxHeartbeats 4000000 in
set_option maxRecDepth 100000 in
theorem c_X3_bookedFrom (l : Launch) (g : GG) (sh w : Nat) (N : Nat → Int32) (hN : okN N) (hw : w < 4) (x : Nat) (hx9 : x ≤ 364) : Met l yX3_bookedFrom wsX3_bookedFrom ({ frames := 2, cells := 0, slots := 0, locals := 42 }) (gPc g [.ref sh, .int (zI (x))] (rdS g sh w N)) (vp_Si (fun r : Int32 => r = zI (sumN (ind N w 2) x (364 - x)))) 0 0 (fun _ => False) := by
  refine Met.ofW (cc := cX3_bookedFrom) (maxL := 4) (ret := (some .int)) (by decide) rfl ?_
  intro p e s m args below meth c s₁ B hml hv
  obtain ⟨rfl, hPre, hK⟩ := hv
  have hx := B.exec
  have hb := B.bytes
  have hr := B.returns
  have hts := atoms_spec (ws := wsX3_bookedFrom) B.pre
  have hown : s.vm.findClass RX3 = some m.cls := findClass_of_methodNamed B.named
  have hlocks := B.notSynchronized
  have hl := lv_entry ([.ref sh, .int (zI (x))]) (n := 4) (Nat.le_of_ble_eq_true rfl)
  rw [lg_entry_eq]
  generalize (lg_sl ([.ref sh, .int (zI (x))]) ++ List.replicate (4 - (lg_sl ([.ref sh, .int (zI (x))])).length) Slot.unset).toArray = ls at hl ⊢
  have hl : lv_has ls 4 [(0, .ref sh), (1, .int (zI (x)))] := hl
  obtain ⟨sa, ch, tl, fl, af, rate, lv, ru, gd, hP, hR, hRu⟩ := id hPre
  refine lv_iconst (v := zI (0)) hx hb dX3_bookedFrom_0 (by decide) ?_
  refine lv_istore_n (lv' := [(2, .int (zI (0))), (0, .ref sh), (1, .int (zI (x)))]) hx hb dX3_bookedFrom_1 rfl hl (by decide) rfl (fun ls hl => ?_)
  refine lv_iload_n hx hb dX3_bookedFrom_2 rfl (lv_at hl 2 rfl) ?_
  refine lv_istore_n (lv' := [(3, .int (zI (x))), (2, .int (zI (0))), (0, .ref sh), (1, .int (zI (x)))]) hx hb dX3_bookedFrom_3 rfl hl (by decide) rfl (fun ls hl => ?_)
  have loop4 : ∀ (K9 : Nat) (i : Nat) (hK9 : 364 - x - i < K9) (hi : i ≤ 364 - x) (ls : Array Slot) (hl : lv_has ls 4 [(3, .int (zI (((x + i : Nat) : Int)))), (2, .int (zI (sumN (ind N w 2) x i))), (0, .ref sh), (1, .int (zI (x)))]), W p l e (headSpec wsX3_bookedFrom ({ frames := 2, cells := 0, slots := 0, locals := 42 })).room s m ([.ref sh, .int (zI (x))] : List Value).toArray below meth c s.heap [] 0 0 (MQ below (vp_Si (fun r : Int32 => r = zI (sumN (ind N w 2) x (364 - x)))) ([.ref sh, .int (zI (x))] : List Value).toArray s 0 0 (fun _ => False)) (F0 m 4 ls []) := by
    intro K9
    induction K9 with
    | zero => intro i hK9; exact absurd hK9 (Nat.not_lt_zero _)
    | succ K9 ih =>
      intro i hK9 hi ls hl
      refine lv_iload_n hx hb dX3_bookedFrom_4 rfl (lv_at hl 0 rfl) ?_
      refine lv_sipush (v := zI (364)) hx hb dX3_bookedFrom_5 (by decide) ?_
      refine z_icmp_ge (tgt := 34) hx hb dX3_bookedFrom_8 (by decide) (by omega) (by omega) (fun h8 => ?_) (fun h8 => ?_)
      · refine lv_iload_n hx hb dX3_bookedFrom_34 rfl (lv_at hl 1 rfl) ?_
        exact W.iret hx hb hr (fun tX htX hWX => ⟨_, rfl, zN_cg (by rw [show i = 364 - x by omega]), htX⟩) (fun _ h9 => by cases h9) dX3_bookedFrom_35
      · refine lv_iload_n hx hb dX3_bookedFrom_11 rfl (lv_at hl 1 rfl) ?_
        refine lv_aload_n hx hb dX3_bookedFrom_12 rfl (lv_at hl 2 rfl) ?_
        refine lv_iload_n hx hb dX3_bookedFrom_13 rfl (lv_at hl 0 rfl) ?_
        refine vp_callSi (va_Run.run (va_runV (As := [.int (zI (((x + i : Nat) : Int)))]) (rest := [.int (zI (sumN (ind N w 2) x i))]) ⟨hx, hb, hml, hown, hts⟩ (c_X3_kindOn l g (sh) (w) (N) (hN) (hw) ((x + i)) (by omega)) (cwV 1 hts gX3_bookedFrom_X3_kindOn rfl rfl rfl (by decide +kernel) ⟨Nat.le_of_ble_eq_true rfl, Nat.le_of_ble_eq_true rfl⟩) (g_preV hPre hK (va_recv hK hP (q0 := 0) (ci := 3) rfl rfl)) rfl rfl hl.1 rfl (lv_room (Nat.le_of_ble_eq_true rfl)) dX3_bookedFrom_14 ⟨Nat.le_of_ble_eq_true rfl, Nat.le_of_ble_eq_true rfl⟩)) (fun r hr9 => ?_)
        subst hr9
        refine lv_iconst (v := zI (2)) hx hb dX3_bookedFrom_17 (by decide) ?_
        have hkk := hN.knd hw (d := x + i) (by omega)
        refine z_icmp_ne (tgt := 25) hx hb dX3_bookedFrom_18 (by decide) (by omega) (by omega) (fun h18 => ?_) (fun h18 => ?_)
        · refine lv_iconst (v := zI (0)) hx hb dX3_bookedFrom_25 (by decide) ?_
          refine z_iadd hx hb dX3_bookedFrom_26 ?_
          refine lv_istore_n (lv' := [(2, .int (zI ((sumN (ind N w 2) x i) + 0))), (3, .int (zI (((x + i : Nat) : Int)))), (0, .ref sh), (1, .int (zI (x)))]) hx hb dX3_bookedFrom_27 rfl hl (by decide) rfl (fun ls hl => ?_)
          refine z_iinc (lv' := [(3, .int (zI (((x + i : Nat) : Int) + 1))), (2, .int (zI ((sumN (ind N w 2) x i) + 0))), (0, .ref sh), (1, .int (zI (x)))]) hx hb dX3_bookedFrom_28 hl (k := 1) rfl (by decide) rfl (fun ls hl => ?_)
          refine lv_goto (tgt := 4) hx hb dX3_bookedFrom_31 (by decide) ?_
          have hl := lv_sub (l' := [(3, .int (zI (((x + i : Nat) : Int) + 1))), (2, .int (zI ((sumN (ind N w 2) x i) + 0))), (0, .ref sh), (1, .int (zI (x)))]) hl [0, 1, 2, 3] rfl
          have hl : lv_has ls 4 [(3, .int (zI (((x + (i + 1) : Nat) : Int)))), (2, .int (zI (sumN (ind N w 2) x (i + 1)))), (0, .ref sh), (1, .int (zI (x)))] := lv_cg (lvE (congrArg zI (by omega)) (lvE (congrArg zI (by first | (rw [sumN_s, show ind N w 2 (x + i) = 1 from if_pos (by omega)]; omega) | (rw [sumN_s, show ind N w 2 (x + i) = 0 from if_neg (by omega)]; omega))) (lvR (lvR (rfl))))) hl
          exact ih (i + 1) (by omega) (by omega) ls hl
        · refine lv_iconst (v := zI (1)) hx hb dX3_bookedFrom_21 (by decide) ?_
          refine lv_goto (tgt := 26) hx hb dX3_bookedFrom_22 (by decide) ?_
          refine z_iadd hx hb dX3_bookedFrom_26 ?_
          refine lv_istore_n (lv' := [(2, .int (zI ((sumN (ind N w 2) x i) + 1))), (3, .int (zI (((x + i : Nat) : Int)))), (0, .ref sh), (1, .int (zI (x)))]) hx hb dX3_bookedFrom_27 rfl hl (by decide) rfl (fun ls hl => ?_)
          refine z_iinc (lv' := [(3, .int (zI (((x + i : Nat) : Int) + 1))), (2, .int (zI ((sumN (ind N w 2) x i) + 1))), (0, .ref sh), (1, .int (zI (x)))]) hx hb dX3_bookedFrom_28 hl (k := 1) rfl (by decide) rfl (fun ls hl => ?_)
          refine lv_goto (tgt := 4) hx hb dX3_bookedFrom_31 (by decide) ?_
          have hl := lv_sub (l' := [(3, .int (zI (((x + i : Nat) : Int) + 1))), (2, .int (zI ((sumN (ind N w 2) x i) + 1))), (0, .ref sh), (1, .int (zI (x)))]) hl [0, 1, 2, 3] rfl
          have hl : lv_has ls 4 [(3, .int (zI (((x + (i + 1) : Nat) : Int)))), (2, .int (zI (sumN (ind N w 2) x (i + 1)))), (0, .ref sh), (1, .int (zI (x)))] := lv_cg (lvE (congrArg zI (by omega)) (lvE (congrArg zI (by first | (rw [sumN_s, show ind N w 2 (x + i) = 1 from if_pos (by omega)]; omega) | (rw [sumN_s, show ind N w 2 (x + i) = 0 from if_neg (by omega)]; omega))) (lvR (lvR (rfl))))) hl
          exact ih (i + 1) (by omega) (by omega) ls hl
  have hl := lv_sub (l' := [(3, .int (zI (x))), (2, .int (zI (0))), (0, .ref sh), (1, .int (zI (x)))]) hl [0, 1, 2, 3] rfl
  have hl : lv_has ls 4 [(3, .int (zI (((x + 0 : Nat) : Int)))), (2, .int (zI (sumN (ind N w 2) x 0))), (0, .ref sh), (1, .int (zI (x)))] := lv_cg (lvE (congrArg zI (by omega)) (lvE (congrArg zI (rfl)) (lvR (lvR (rfl))))) hl
  exact loop4 _ (0) (Nat.lt_succ_self _) (Nat.zero_le _) ls hl

set_option maxHeartbeats 4000000 in
set_option maxRecDepth 100000 in
theorem c_X3_leaveTakenBefore (l : Launch) (g : GG) (sh w : Nat) (N : Nat → Int32) (hN : okN N) (hw : w < 4) (x : Nat) (hx9 : x ≤ 364) : Met l yX3_leaveTakenBefore wsX3_leaveTakenBefore ({ frames := 2, cells := 0, slots := 0, locals := 43 }) (gPc g [.ref sh, .int (zI (x))] (rdS g sh w N)) (vp_Si (fun r : Int32 => r = zI (lvS N w 0 x))) 0 0 (fun _ => False) := by
  refine Met.ofW (cc := cX3_leaveTakenBefore) (maxL := 4) (ret := (some .int)) (by decide) rfl ?_
  intro p e s m args below meth c s₁ B hml hv
  obtain ⟨rfl, hPre, hK⟩ := hv
  have hx := B.exec
  have hb := B.bytes
  have hr := B.returns
  have hts := atoms_spec (ws := wsX3_leaveTakenBefore) B.pre
  have hown : s.vm.findClass RX3 = some m.cls := findClass_of_methodNamed B.named
  have hlocks := B.notSynchronized
  have hl := lv_entry ([.ref sh, .int (zI (x))]) (n := 4) (Nat.le_of_ble_eq_true rfl)
  rw [lg_entry_eq]
  generalize (lg_sl ([.ref sh, .int (zI (x))]) ++ List.replicate (4 - (lg_sl ([.ref sh, .int (zI (x))])).length) Slot.unset).toArray = ls at hl ⊢
  have hl : lv_has ls 4 [(0, .ref sh), (1, .int (zI (x)))] := hl
  obtain ⟨sa, ch, tl, fl, af, rate, lv, ru, gd, hP, hR, hRu⟩ := id hPre
  refine lv_iconst (v := zI (0)) hx hb dX3_leaveTakenBefore_0 (by decide) ?_
  refine lv_istore_n (lv' := [(2, .int (zI (0))), (0, .ref sh), (1, .int (zI (x)))]) hx hb dX3_leaveTakenBefore_1 rfl hl (by decide) rfl (fun ls hl => ?_)
  refine lv_iconst (v := zI (0)) hx hb dX3_leaveTakenBefore_2 (by decide) ?_
  refine lv_istore_n (lv' := [(3, .int (zI (0))), (2, .int (zI (0))), (0, .ref sh), (1, .int (zI (x)))]) hx hb dX3_leaveTakenBefore_3 rfl hl (by decide) rfl (fun ls hl => ?_)
  have loop4 : ∀ (K9 : Nat) (i : Nat) (hK9 : x - i < K9) (hi : i ≤ x) (ls : Array Slot) (hl : lv_has ls 4 [(3, .int (zI (((i : Nat) : Int)))), (2, .int (zI (sumN (lvd N w) 0 i))), (0, .ref sh), (1, .int (zI (x)))]), W p l e (headSpec wsX3_leaveTakenBefore ({ frames := 2, cells := 0, slots := 0, locals := 43 })).room s m ([.ref sh, .int (zI (x))] : List Value).toArray below meth c s.heap [] 0 0 (MQ below (vp_Si (fun r : Int32 => r = zI (lvS N w 0 x))) ([.ref sh, .int (zI (x))] : List Value).toArray s 0 0 (fun _ => False)) (F0 m 4 ls []) := by
    intro K9
    induction K9 with
    | zero => intro i hK9; exact absurd hK9 (Nat.not_lt_zero _)
    | succ K9 ih =>
      intro i hK9 hi ls hl
      refine lv_iload_n hx hb dX3_leaveTakenBefore_4 rfl (lv_at hl 0 rfl) ?_
      refine lv_iload_n hx hb dX3_leaveTakenBefore_5 rfl (lv_at hl 3 rfl) ?_
      refine z_icmp_ge (tgt := 36) hx hb dX3_leaveTakenBefore_6 (by decide) (by omega) (by omega) (fun h6 => ?_) (fun h6 => ?_)
      · refine lv_iload_n hx hb dX3_leaveTakenBefore_36 rfl (lv_at hl 1 rfl) ?_
        exact W.iret hx hb hr (fun tX htX hWX => ⟨_, rfl, zN_cg (by unfold lvS; rw [show i = x by omega]), htX⟩) (fun _ h9 => by cases h9) dX3_leaveTakenBefore_37
      · refine lv_iload_n hx hb dX3_leaveTakenBefore_9 rfl (lv_at hl 1 rfl) ?_
        refine lv_aload_n hx hb dX3_leaveTakenBefore_10 rfl (lv_at hl 2 rfl) ?_
        refine lv_iload_n hx hb dX3_leaveTakenBefore_11 rfl (lv_at hl 0 rfl) ?_
        refine vp_callSi (va_Run.run (va_runV (As := [.int (zI (((i : Nat) : Int)))]) (rest := [.int (zI (sumN (lvd N w) 0 i))]) ⟨hx, hb, hml, hown, hts⟩ (c_X3_kindOn l g (sh) (w) (N) (hN) (hw) (i) (by omega)) (cwV 1 hts gX3_leaveTakenBefore_X3_kindOn rfl rfl rfl (by decide +kernel) ⟨Nat.le_of_ble_eq_true rfl, Nat.le_of_ble_eq_true rfl⟩) (g_preV hPre hK (va_recv hK hP (q0 := 0) (ci := 3) rfl rfl)) rfl rfl hl.1 rfl (lv_room (Nat.le_of_ble_eq_true rfl)) dX3_leaveTakenBefore_12 ⟨Nat.le_of_ble_eq_true rfl, Nat.le_of_ble_eq_true rfl⟩)) (fun r hr9 => ?_)
        subst hr9
        refine lv_iconst (v := zI (2)) hx hb dX3_leaveTakenBefore_15 (by decide) ?_
        have hkk := hN.knd hw (d := i) (by omega)
        refine z_icmp_ne (tgt := 27) hx hb dX3_leaveTakenBefore_16 (by decide) (by omega) (by omega) (fun h16 => ?_) (fun h16 => ?_)
        · refine lv_iconst (v := zI (0)) hx hb dX3_leaveTakenBefore_27 (by decide) ?_
          refine z_iadd hx hb dX3_leaveTakenBefore_28 ?_
          refine lv_istore_n (lv' := [(2, .int (zI ((sumN (lvd N w) 0 i) + 0))), (3, .int (zI (((i : Nat) : Int)))), (0, .ref sh), (1, .int (zI (x)))]) hx hb dX3_leaveTakenBefore_29 rfl hl (by decide) rfl (fun ls hl => ?_)
          refine z_iinc (lv' := [(3, .int (zI (((i : Nat) : Int) + 1))), (2, .int (zI ((sumN (lvd N w) 0 i) + 0))), (0, .ref sh), (1, .int (zI (x)))]) hx hb dX3_leaveTakenBefore_30 hl (k := 1) rfl (by decide) rfl (fun ls hl => ?_)
          refine lv_goto (tgt := 4) hx hb dX3_leaveTakenBefore_33 (by decide) ?_
          have hl := lv_sub (l' := [(3, .int (zI (((i : Nat) : Int) + 1))), (2, .int (zI ((sumN (lvd N w) 0 i) + 0))), (0, .ref sh), (1, .int (zI (x)))]) hl [0, 1, 2, 3] rfl
          have hl : lv_has ls 4 [(3, .int (zI ((((i + 1) : Nat) : Int)))), (2, .int (zI (sumN (lvd N w) 0 (i + 1)))), (0, .ref sh), (1, .int (zI (x)))] := lv_cg (lvE (congrArg zI (by omega)) (lvE (congrArg zI (by first | (rw [sumN_s, Nat.zero_add, show lvd N w i = plan N w i from if_pos (by omega)]; omega) | (rw [sumN_s, Nat.zero_add, show lvd N w i = 0 from if_neg (by omega)]; omega))) (lvR (lvR (rfl))))) hl
          exact ih (i + 1) (by omega) (by omega) ls hl
        · refine lv_aload_n hx hb dX3_leaveTakenBefore_19 rfl (lv_at hl 2 rfl) ?_
          refine lv_iload_n hx hb dX3_leaveTakenBefore_20 rfl (lv_at hl 0 rfl) ?_
          refine vp_callSi (va_Run.run (va_runV (As := [.int (zI (((i : Nat) : Int)))]) (rest := [.int (zI (sumN (lvd N w) 0 i))]) ⟨hx, hb, hml, hown, hts⟩ (c_X3_planOn l g (sh) (w) (N) (hN) (hw) (i) (by omega)) (cwV 1 hts gX3_leaveTakenBefore_X3_planOn rfl rfl rfl (by decide +kernel) ⟨Nat.le_of_ble_eq_true rfl, Nat.le_of_ble_eq_true rfl⟩) (g_preV hPre hK (va_recv hK hP (q0 := 0) (ci := 3) rfl rfl)) rfl rfl hl.1 rfl (lv_room (Nat.le_of_ble_eq_true rfl)) dX3_leaveTakenBefore_21 ⟨Nat.le_of_ble_eq_true rfl, Nat.le_of_ble_eq_true rfl⟩)) (fun r hr9 => ?_)
          subst hr9
          refine lv_goto (tgt := 28) hx hb dX3_leaveTakenBefore_24 (by decide) ?_
          refine z_iadd hx hb dX3_leaveTakenBefore_28 ?_
          refine lv_istore_n (lv' := [(2, .int (zI ((sumN (lvd N w) 0 i) + (plan N w i)))), (3, .int (zI (((i : Nat) : Int)))), (0, .ref sh), (1, .int (zI (x)))]) hx hb dX3_leaveTakenBefore_29 rfl hl (by decide) rfl (fun ls hl => ?_)
          refine z_iinc (lv' := [(3, .int (zI (((i : Nat) : Int) + 1))), (2, .int (zI ((sumN (lvd N w) 0 i) + (plan N w i)))), (0, .ref sh), (1, .int (zI (x)))]) hx hb dX3_leaveTakenBefore_30 hl (k := 1) rfl (by decide) rfl (fun ls hl => ?_)
          refine lv_goto (tgt := 4) hx hb dX3_leaveTakenBefore_33 (by decide) ?_
          have hl := lv_sub (l' := [(3, .int (zI (((i : Nat) : Int) + 1))), (2, .int (zI ((sumN (lvd N w) 0 i) + (plan N w i)))), (0, .ref sh), (1, .int (zI (x)))]) hl [0, 1, 2, 3] rfl
          have hl : lv_has ls 4 [(3, .int (zI ((((i + 1) : Nat) : Int)))), (2, .int (zI (sumN (lvd N w) 0 (i + 1)))), (0, .ref sh), (1, .int (zI (x)))] := lv_cg (lvE (congrArg zI (by omega)) (lvE (congrArg zI (by first | (rw [sumN_s, Nat.zero_add, show lvd N w i = plan N w i from if_pos (by omega)]; omega) | (rw [sumN_s, Nat.zero_add, show lvd N w i = 0 from if_neg (by omega)]; omega))) (lvR (lvR (rfl))))) hl
          exact ih (i + 1) (by omega) (by omega) ls hl
  have hl := lv_sub (l' := [(3, .int (zI (0))), (2, .int (zI (0))), (0, .ref sh), (1, .int (zI (x)))]) hl [0, 1, 2, 3] rfl
  have hl : lv_has ls 4 [(3, .int (zI (((0 : Nat) : Int)))), (2, .int (zI (sumN (lvd N w) 0 0))), (0, .ref sh), (1, .int (zI (x)))] := lv_cg (lvE (congrArg zI (rfl)) (lvE (congrArg zI (rfl)) (lvR (lvR (rfl))))) hl
  exact loop4 _ (0) (Nat.lt_succ_self _) (Nat.zero_le _) ls hl

set_option maxHeartbeats 4000000 in
set_option maxRecDepth 100000 in
theorem c_X3_leaveLeft (l : Launch) (g : GG) (sh w : Nat) (N : Nat → Int32) (hN : okN N) (hw : w < 4)  : Met l yX3_leaveLeft wsX3_leaveLeft ({ frames := 3, cells := 0, slots := 0, locals := 66 }) (gPc g [.ref sh] (rdS g sh w N)) (vp_Si (fun r : Int32 => r = zI (lft N w))) 0 0 (fun _ => False) := by
  refine Met.ofW (cc := cX3_leaveLeft) (maxL := 1) (ret := (some .int)) (by decide) rfl ?_
  intro p e s m args below meth c s₁ B hml hv
  obtain ⟨rfl, hPre, hK⟩ := hv
  have hx := B.exec
  have hb := B.bytes
  have hr := B.returns
  have hts := atoms_spec (ws := wsX3_leaveLeft) B.pre
  have hown : s.vm.findClass RX3 = some m.cls := findClass_of_methodNamed B.named
  have hlocks := B.notSynchronized
  have hinX3 : ∀ w ∈ wsX30, w ∈ wsX3_leaveLeft := by decide +kernel
  have k25 := hts (.fieldLink RX3 25 "HoursBank$Sheet" "account" "LHoursBank$Account;") (by decide +kernel)
  have k50 := hts (.fieldLink RX3 50 "HoursBank$Sheet" "leaveInAll" "I") (by decide +kernel)
  have hl := lv_entry ([.ref sh]) (n := 1) (Nat.le_of_ble_eq_true rfl)
  rw [lg_entry_eq]
  generalize (lg_sl ([.ref sh]) ++ List.replicate (1 - (lg_sl ([.ref sh])).length) Slot.unset).toArray = ls at hl ⊢
  have hl : lv_has ls 1 [(0, .ref sh)] := hl
  obtain ⟨sa, ch, tl, fl, af, rate, lv, ru, gd, hP, hR, hRu⟩ := id hPre
  have hg8 := hR.2.2.2.2.2.2.2.1
  have hgd := hR.2.2.2.2.2.2.2.2.1
  have hg0 := hR.2.2.2.2.2.2.2.2.2.1
  have hg1 := hR.2.2.2.2.2.2.2.2.2.2
  have hgn : goneN N w ≤ 1 := (hN.gone hw).le
  have htd := hN.td.le
  refine lv_aload_n hx hb dX3_leaveLeft_0 rfl (lv_at hl 0 rfl) ?_
  refine va_get (D := g.1) (ci := 3) (v := .ref ((sa 3))) (C := RX3) (T := TX3) (N := 7) hx hb hts hinX3 hown hK hP 0 rfl rfl 3 (by decide) k25 (fun _ h9 => h9) rfl dX3_leaveLeft_1 ?_
  refine vp_callSi (va_Run.run (va_runV (As := []) (rest := []) ⟨hx, hb, hml, hown, hts⟩ (c_X0_isGone l g ((sa 3)) (af) (gd) (hg8) (hgd)) (cwV 0 hts gX3_leaveLeft_X0_isGone rfl rfl rfl (by decide +kernel) ⟨Nat.le_of_ble_eq_true rfl, Nat.le_of_ble_eq_true rfl⟩) (g_preV (hP.sub [4] rfl) hK (va_recv hK hP (q0 := 4) (ci := 0) rfl rfl)) rfl rfl hl.1 rfl (lv_room (Nat.le_of_ble_eq_true rfl)) dX3_leaveLeft_4 ⟨Nat.le_of_ble_eq_true rfl, Nat.le_of_ble_eq_true rfl⟩)) (fun r hr9 => ?_)
  subst hr9
  refine z_bz_eq (tgt := 14) hx hb dX3_leaveLeft_7 (by decide) (fun h7 => ?_) (fun h7 => ?_)
  · refine lv_aload_n hx hb dX3_leaveLeft_14 rfl (lv_at hl 0 rfl) ?_
    refine va_get (D := g.1) (ci := 3) (v := .int (lv)) (C := RX3) (T := TX3) (N := 7) hx hb hts hinX3 hown hK hP 0 rfl rfl 5 (by decide) k50 (fun _ h9 => h9) rfl dX3_leaveLeft_15 ?_
    refine z_top (y := zI (mn N (59 + 13 * w))) (hR.2.1.trans (hN.leave hw).eq) ?_
    refine lv_aload_n hx hb dX3_leaveLeft_18 rfl (lv_at hl 0 rfl) ?_
    refine lv_sipush (v := zI (364)) hx hb dX3_leaveLeft_19 (by decide) ?_
    refine vp_callSi (va_Run.run (va_runV (As := [.int (zI (364))]) (rest := [.int (zI (mn N (59 + 13 * w)))]) ⟨hx, hb, hml, hown, hts⟩ (c_X3_leaveTakenBefore l g (sh) (w) (N) (hN) (hw) (364) (by omega)) (cwV 1 hts gX3_leaveLeft_X3_leaveTakenBefore rfl rfl rfl (by decide +kernel) ⟨Nat.le_of_ble_eq_true rfl, Nat.le_of_ble_eq_true rfl⟩) (g_preV hPre hK (va_recv hK hP (q0 := 0) (ci := 3) rfl rfl)) rfl rfl hl.1 rfl (lv_room (Nat.le_of_ble_eq_true rfl)) dX3_leaveLeft_22 ⟨Nat.le_of_ble_eq_true rfl, Nat.le_of_ble_eq_true rfl⟩)) (fun r hr9 => ?_)
    subst hr9
    refine z_isub hx hb dX3_leaveLeft_25 ?_
    exact W.iret hx hb hr (fun tX htX hWX => ⟨_, rfl, congrArg zI (by unfold lft; first | (rw [if_pos (by omega)]; done) | (rw [if_neg (by omega)])), htX⟩) (fun _ h9 => by cases h9) dX3_leaveLeft_26
  · refine lv_iconst (v := zI (0)) hx hb dX3_leaveLeft_10 (by decide) ?_
    refine lv_goto (tgt := 26) hx hb dX3_leaveLeft_11 (by decide) ?_
    exact W.iret hx hb hr (fun tX htX hWX => ⟨_, rfl, congrArg zI (by unfold lft; first | (rw [if_pos (by omega)]; done) | (rw [if_neg (by omega)])), htX⟩) (fun _ h9 => by cases h9) dX3_leaveLeft_26

set_option maxHeartbeats 4000000 in
set_option maxRecDepth 100000 in
theorem c_X3_settlementOn (l : Launch) (g : GG) (sh w : Nat) (N : Nat → Int32) (hN : okN N) (hw : w < 4)  : Met l yX3_settlementOn wsX3_settlementOn ({ frames := 3, cells := 0, slots := 0, locals := 66 }) (gPc g [.ref sh, .int (zI (mn N 110))] (rdS g sh w N)) (vp_Si (fun r : Int32 => r = dueN N w)) 0 0 (fun _ => False) := by
  refine Met.ofW (cc := cX3_settlementOn) (maxL := 3) (ret := (some .int)) (by decide) rfl ?_
  intro p e s m args below meth c s₁ B hml hv
  obtain ⟨rfl, hPre, hK⟩ := hv
  have hx := B.exec
  have hb := B.bytes
  have hr := B.returns
  have hts := atoms_spec (ws := wsX3_settlementOn) B.pre
  have hown : s.vm.findClass RX3 = some m.cls := findClass_of_methodNamed B.named
  have hlocks := B.notSynchronized
  have hinX0 : ∀ w ∈ wsX00, w ∈ wsX3_settlementOn := by decide +kernel
  have hinX3 : ∀ w ∈ wsX30, w ∈ wsX3_settlementOn := by decide +kernel
  have k50 := hts (.fieldLink RX3 50 "HoursBank$Sheet" "leaveInAll" "I") (by decide +kernel)
  have k43 := hts (.fieldLink RX3 43 "HoursBank$Sheet" "rate" "I") (by decide +kernel)
  have k25 := hts (.fieldLink RX3 25 "HoursBank$Sheet" "account" "LHoursBank$Account;") (by decide +kernel)
  have k101 := hts (.fieldLink RX3 101 "HoursBank$Account" "balance" "I") (by decide +kernel)
  have hl := lv_entry ([.ref sh, .int (zI (mn N 110))]) (n := 3) (Nat.le_of_ble_eq_true rfl)
  rw [lg_entry_eq]
  generalize (lg_sl ([.ref sh, .int (zI (mn N 110))]) ++ List.replicate (3 - (lg_sl ([.ref sh, .int (zI (mn N 110))])).length) Slot.unset).toArray = ls at hl ⊢
  have hl : lv_has ls 3 [(0, .ref sh), (1, .int (zI (mn N 110)))] := hl
  obtain ⟨sa, ch, tl, fl, af, rate, lv, ru, gd, hP, hR, hRu⟩ := id hPre
  refine lv_aload_n hx hb dX3_settlementOn_0 rfl (lv_at hl 0 rfl) ?_
  refine va_get (D := g.1) (ci := 3) (v := .int (lv)) (C := RX3) (T := TX3) (N := 7) hx hb hts hinX3 hown hK hP 0 rfl rfl 5 (by decide) k50 (fun _ h9 => h9) rfl dX3_settlementOn_1 ?_
  refine z_top (y := zI (mn N (59 + 13 * w))) (hR.2.1.trans (hN.leave hw).eq) ?_
  refine lv_iload_n hx hb dX3_settlementOn_4 rfl (lv_at hl 1 rfl) ?_
  refine z_imul hx hb dX3_settlementOn_5 ?_
  refine lv_sipush (v := zI (364)) hx hb dX3_settlementOn_6 (by decide) ?_
  refine z_idiv hx hb dX3_settlementOn_9 (mul2b (hN.leave hw).le hN.td.le (by decide)) (by omega) ?_
  refine z_top (y := zI (ern N w)) (congrArg zI (by unfold ern; push_cast; rfl)) ?_
  refine lv_istore_n (lv' := [(2, .int (zI (ern N w))), (0, .ref sh), (1, .int (zI (mn N 110)))]) hx hb dX3_settlementOn_10 rfl hl (by decide) rfl (fun ls hl => ?_)
  refine lv_aload_n hx hb dX3_settlementOn_11 rfl (lv_at hl 1 rfl) ?_
  refine va_get (D := g.1) (ci := 3) (v := .int (rate)) (C := RX3) (T := TX3) (N := 7) hx hb hts hinX3 hown hK hP 0 rfl rfl 4 (by decide) k43 (fun _ h9 => h9) rfl dX3_settlementOn_12 ?_
  refine lv_aload_n hx hb dX3_settlementOn_15 rfl (lv_at hl 1 rfl) ?_
  refine va_get (D := g.1) (ci := 3) (v := .ref ((sa 3))) (C := RX3) (T := TX3) (N := 7) hx hb hts hinX3 hown hK hP 0 rfl rfl 3 (by decide) k25 (fun _ h9 => h9) rfl dX3_settlementOn_16 ?_
  refine va_get (D := g.1) (ci := 0) (v := .int (af 0)) (C := RX0) (T := TX0) (N := 9) hx hb hts hinX0 hown hK hP 4 rfl rfl 0 (by decide) k101 (fun _ h9 => h9) rfl dX3_settlementOn_19 ?_
  refine lv_imul hx hb dX3_settlementOn_22 ?_
  refine lv_aload_n hx hb dX3_settlementOn_23 rfl (lv_at hl 1 rfl) ?_
  refine va_get (D := g.1) (ci := 3) (v := .int (rate)) (C := RX3) (T := TX3) (N := 7) hx hb hts hinX3 hown hK hP 0 rfl rfl 4 (by decide) k43 (fun _ h9 => h9) rfl dX3_settlementOn_24 ?_
  refine lv_iload_n hx hb dX3_settlementOn_27 rfl (lv_at hl 0 rfl) ?_
  refine lv_aload_n hx hb dX3_settlementOn_28 rfl (lv_at hl 1 rfl) ?_
  refine lv_iload_n hx hb dX3_settlementOn_29 rfl (lv_at hl 2 rfl) ?_
  refine vp_callSi (va_Run.run (va_runV (As := [.int (zI (mn N 110))]) (rest := [.int (zI (ern N w)), .int (rate), .int (rate * (af 0))]) ⟨hx, hb, hml, hown, hts⟩ (c_X3_leaveTakenBefore l g (sh) (w) (N) (hN) (hw) ((mn N 110)) (hN.td.le)) (cwV 1 hts gX3_settlementOn_X3_leaveTakenBefore rfl rfl rfl (by decide +kernel) ⟨Nat.le_of_ble_eq_true rfl, Nat.le_of_ble_eq_true rfl⟩) (g_preV hPre hK (va_recv hK hP (q0 := 0) (ci := 3) rfl rfl)) rfl rfl hl.1 rfl (lv_room (Nat.le_of_ble_eq_true rfl)) dX3_settlementOn_30 ⟨Nat.le_of_ble_eq_true rfl, Nat.le_of_ble_eq_true rfl⟩)) (fun r hr9 => ?_)
  subst hr9
  refine z_isub hx hb dX3_settlementOn_33 ?_
  refine lv_imul hx hb dX3_settlementOn_34 ?_
  refine lv_iadd hx hb dX3_settlementOn_35 ?_
  exact W.iret hx hb hr (fun tX htX hWX => ⟨_, rfl, (by unfold dueN; rw [hR.1, hR.2.2.2.2.2.1 0 (by omega), Int32.mul_comm]; rfl), htX⟩) (fun _ h9 => by cases h9) dX3_settlementOn_36

set_option maxHeartbeats 4000000 in
set_option maxRecDepth 100000 in
theorem c_X3_firstDayOutOfBounds (l : Launch) (g : GG) (sh w : Nat) (N : Nat → Int32) (hN : okN N) (hw : w < 4) (x : Int) (hx9 : -96 ≤ x ∧ x ≤ 96) : Met l yX3_firstDayOutOfBounds wsX3_firstDayOutOfBounds ({ frames := 2, cells := 0, slots := 0, locals := 43 }) (gPc g [.ref sh, .int (zI (mn N 110)), .int (zI (x))] (rdS g sh w N)) (vp_Si (fun r : Int32 => r = zI (rchF N w x (N (58 + 13 * w + 2)).toInt (mn N 110) (364 - mn N 110)))) 0 0 (fun _ => False) := by
  refine Met.ofW (cc := cX3_firstDayOutOfBounds) (maxL := 6) (ret := (some .int)) (by decide) rfl ?_
  intro p e s m args below meth c s₁ B hml hv
  obtain ⟨rfl, hPre, hK⟩ := hv
  have hx := B.exec
  have hb := B.bytes
  have hr := B.returns
  have hts := atoms_spec (ws := wsX3_firstDayOutOfBounds) B.pre
  have hown : s.vm.findClass RX3 = some m.cls := findClass_of_methodNamed B.named
  have hlocks := B.notSynchronized
  have hinX0 : ∀ w ∈ wsX00, w ∈ wsX3_firstDayOutOfBounds := by decide +kernel
  have hinX3 : ∀ w ∈ wsX30, w ∈ wsX3_firstDayOutOfBounds := by decide +kernel
  have k25 := hts (.fieldLink RX3 25 "HoursBank$Sheet" "account" "LHoursBank$Account;") (by decide +kernel)
  have k101 := hts (.fieldLink RX3 101 "HoursBank$Account" "balance" "I") (by decide +kernel)
  have k33 := hts (.fieldLink RX3 33 "HoursBank$Sheet" "rules" "LHoursBank$Rules;") (by decide +kernel)
  have k104 := hts (.methodLink RX3 104 Lib.Math.min.name) (by decide +kernel)
  have kSmin := hts (.static Lib.Math.min.name) (by decide +kernel)
  have kM := hts (.initialized "java/lang/Math") (by decide +kernel)
  have kCmin := hts (.code Lib.Math.min.name Lib.Math.min.code 2 (some .int)) (by decide +kernel)
  have k69 := hts (.methodLink RX3 69 Lib.Math.max.name) (by decide +kernel)
  have kSmax := hts (.static Lib.Math.max.name) (by decide +kernel)
  have kCmax := hts (.code Lib.Math.max.name Lib.Math.max.code 2 (some .int)) (by decide +kernel)
  have hl := lv_entry ([.ref sh, .int (zI (mn N 110)), .int (zI (x))]) (n := 6) (Nat.le_of_ble_eq_true rfl)
  rw [lg_entry_eq]
  generalize (lg_sl ([.ref sh, .int (zI (mn N 110)), .int (zI (x))]) ++ List.replicate (6 - (lg_sl ([.ref sh, .int (zI (mn N 110)), .int (zI (x))])).length) Slot.unset).toArray = ls at hl ⊢
  have hl : lv_has ls 6 [(0, .ref sh), (1, .int (zI (mn N 110))), (2, .int (zI (x)))] := hl
  obtain ⟨sa, ch, tl, fl, af, rate, lv, ru, gd, hP, hR, hRu⟩ := id hPre
  have hbl := hN.bal hw
  have hlo := hN.lo.le
  have hhi := hN.hi.le
  have htd := hN.td.le
  refine lv_aload_n hx hb dX3_firstDayOutOfBounds_0 rfl (lv_at hl 0 rfl) ?_
  refine va_get (D := g.1) (ci := 3) (v := .ref ((sa 3))) (C := RX3) (T := TX3) (N := 7) hx hb hts hinX3 hown hK hP 0 rfl rfl 3 (by decide) k25 (fun _ h9 => h9) rfl dX3_firstDayOutOfBounds_1 ?_
  refine va_get (D := g.1) (ci := 0) (v := .int (af 0)) (C := RX0) (T := TX0) (N := 9) hx hb hts hinX0 hown hK hP 4 rfl rfl 0 (by decide) k101 (fun _ h9 => h9) rfl dX3_firstDayOutOfBounds_4 ?_
  refine z_top (y := zI ((N (58 + 13 * w + 2)).toInt)) ((hR.2.2.2.2.2.1 0 (by omega)).trans (zI_of _)) ?_
  refine lv_istore_n (lv' := [(3, .int (zI ((N (58 + 13 * w + 2)).toInt))), (0, .ref sh), (1, .int (zI (mn N 110))), (2, .int (zI (x)))]) hx hb dX3_firstDayOutOfBounds_7 rfl hl (by decide) rfl (fun ls hl => ?_)
  refine lv_iload_n hx hb dX3_firstDayOutOfBounds_8 rfl (lv_at hl 2 rfl) ?_
  refine lv_istore (lv' := [(4, .int (zI (mn N 110))), (3, .int (zI ((N (58 + 13 * w + 2)).toInt))), (0, .ref sh), (1, .int (zI (mn N 110))), (2, .int (zI (x)))]) hx hb dX3_firstDayOutOfBounds_9 hl (by decide) rfl (fun ls hl => ?_)
  have loop11 : ∀ (K9 : Nat) (i : Nat) (B1 : Int) (hK9 : 364 - mn N 110 - i < K9) (hi : i ≤ 364 - mn N 110) (hB : -(mn N 0 : Int) ≤ B1 ∧ B1 ≤ mn N 1) (hinv : rchF N w x (N (58 + 13 * w + 2)).toInt (mn N 110) (364 - mn N 110) = rchF N w x B1 (mn N 110 + i) (364 - mn N 110 - i)) (ls : Array Slot) (hl : lv_has ls 6 [(4, .int (zI (((mn N 110 + i : Nat) : Int)))), (3, .int (zI (B1))), (0, .ref sh), (1, .int (zI (mn N 110))), (2, .int (zI (x)))]), W p l e (headSpec wsX3_firstDayOutOfBounds ({ frames := 2, cells := 0, slots := 0, locals := 43 })).room s m ([.ref sh, .int (zI (mn N 110)), .int (zI (x))] : List Value).toArray below meth c s.heap [] 0 0 (MQ below (vp_Si (fun r : Int32 => r = zI (rchF N w x (N (58 + 13 * w + 2)).toInt (mn N 110) (364 - mn N 110)))) ([.ref sh, .int (zI (mn N 110)), .int (zI (x))] : List Value).toArray s 0 0 (fun _ => False)) (F0 m 11 ls []) := by
    intro K9
    induction K9 with
    | zero => intro i B1 hK9; exact absurd hK9 (Nat.not_lt_zero _)
    | succ K9 ih =>
      intro i B1 hK9 hi hB hinv ls hl
      refine lv_iload hx hb dX3_firstDayOutOfBounds_11 (lv_at hl 0 rfl) ?_
      refine lv_sipush (v := zI (364)) hx hb dX3_firstDayOutOfBounds_13 (by decide) ?_
      refine z_icmp_ge (tgt := 87) hx hb dX3_firstDayOutOfBounds_16 (by decide) (by omega) (by omega) (fun h16 => ?_) (fun h16 => ?_)
      · refine lv_bipush (v := zI (-2)) hx hb dX3_firstDayOutOfBounds_87 (by decide) ?_
        exact W.iret hx hb hr (fun tX htX hWX => ⟨_, rfl, congrArg zI ((hinv.trans (by rw [show 364 - mn N 110 - i = 0 by omega]; rfl)).symm), htX⟩) (fun _ h9 => by cases h9) dX3_firstDayOutOfBounds_89
      · have hk9 := hN.knd hw (d := mn N 110 + i) (by omega)
        have hp9 := plan_le hN hw (d := mn N 110 + i) (by omega)
        refine lv_aload_n hx hb dX3_firstDayOutOfBounds_19 rfl (lv_at hl 2 rfl) ?_
        refine lv_iload hx hb dX3_firstDayOutOfBounds_20 (lv_at hl 0 rfl) ?_
        refine vp_callSi (va_Run.run (va_runV (As := [.int (zI (((mn N 110 + i : Nat) : Int)))]) (rest := []) ⟨hx, hb, hml, hown, hts⟩ (c_X3_kindOn l g (sh) (w) (N) (hN) (hw) ((mn N 110 + i)) (by omega)) (cwV 1 hts gX3_firstDayOutOfBounds_X3_kindOn rfl rfl rfl (by decide +kernel) ⟨Nat.le_of_ble_eq_true rfl, Nat.le_of_ble_eq_true rfl⟩) (g_preV hPre hK (va_recv hK hP (q0 := 0) (ci := 3) rfl rfl)) rfl rfl hl.1 rfl (lv_room (Nat.le_of_ble_eq_true rfl)) dX3_firstDayOutOfBounds_22 ⟨Nat.le_of_ble_eq_true rfl, Nat.le_of_ble_eq_true rfl⟩)) (fun r hr9 => ?_)
        subst hr9
        refine z_if_ne (tgt := 55) hx hb dX3_firstDayOutOfBounds_25 (by decide) (by omega) (fun h25 => ?_) (fun h25 => ?_)
        · refine lv_iload_n hx hb dX3_firstDayOutOfBounds_55 rfl (lv_at hl 1 rfl) ?_
          refine lv_aload_n hx hb dX3_firstDayOutOfBounds_56 rfl (lv_at hl 2 rfl) ?_
          refine va_get (D := g.1) (ci := 3) (v := .ref ru) (C := RX3) (T := TX3) (N := 7) hx hb hts hinX3 hown hK hP 0 rfl rfl 6 (by decide) k33 (fun _ h9 => h9) rfl dX3_firstDayOutOfBounds_57 ?_
          refine vp_callSi (va_Run.run (va_runV (As := []) (rest := [.int (zI (B1))]) ⟨hx, hb, hml, hown, hts⟩ (c_X2_high l g (ru) (N) (hN)) (cwV 0 hts gX3_firstDayOutOfBounds_X2_high rfl rfl rfl (by decide +kernel) ⟨Nat.le_of_ble_eq_true rfl, Nat.le_of_ble_eq_true rfl⟩) (g_preV hRu hK (rdR_recv hK hRu)) rfl rfl hl.1 rfl (lv_room (Nat.le_of_ble_eq_true rfl)) dX3_firstDayOutOfBounds_60 ⟨Nat.le_of_ble_eq_true rfl, Nat.le_of_ble_eq_true rfl⟩)) (fun r hr9 => ?_)
          subst hr9
          refine z_icmp_gt (tgt := 78) hx hb dX3_firstDayOutOfBounds_63 (by decide) (by omega) (by omega) (fun h63 => ?_) (fun h63 => ?_)
          · refine lv_iload hx hb dX3_firstDayOutOfBounds_78 (lv_at hl 0 rfl) ?_
            exact W.iret hx hb hr (fun tX htX hWX => ⟨_, rfl, congrArg zI (by first | (exfalso; omega) | exact (hinv.trans (by rw [show 364 - mn N 110 - i = 364 - mn N 110 - (i + 1) + 1 by omega, rchF_s2 (by omega) (by omega)])).symm), htX⟩) (fun _ h9 => by cases h9) dX3_firstDayOutOfBounds_80
          · refine lv_iload_n hx hb dX3_firstDayOutOfBounds_66 rfl (lv_at hl 1 rfl) ?_
            refine lv_aload_n hx hb dX3_firstDayOutOfBounds_67 rfl (lv_at hl 2 rfl) ?_
            refine va_get (D := g.1) (ci := 3) (v := .ref ru) (C := RX3) (T := TX3) (N := 7) hx hb hts hinX3 hown hK hP 0 rfl rfl 6 (by decide) k33 (fun _ h9 => h9) rfl dX3_firstDayOutOfBounds_68 ?_
            refine vp_callSi (va_Run.run (va_runV (As := []) (rest := [.int (zI (B1))]) ⟨hx, hb, hml, hown, hts⟩ (c_X2_low l g (ru) (N) (hN)) (cwV 0 hts gX3_firstDayOutOfBounds_X2_low rfl rfl rfl (by decide +kernel) ⟨Nat.le_of_ble_eq_true rfl, Nat.le_of_ble_eq_true rfl⟩) (g_preV hRu hK (rdR_recv hK hRu)) rfl rfl hl.1 rfl (lv_room (Nat.le_of_ble_eq_true rfl)) dX3_firstDayOutOfBounds_71 ⟨Nat.le_of_ble_eq_true rfl, Nat.le_of_ble_eq_true rfl⟩)) (fun r hr9 => ?_)
            subst hr9
            refine z_ineg hx hb dX3_firstDayOutOfBounds_74 ?_
            refine z_icmp_ge (tgt := 81) hx hb dX3_firstDayOutOfBounds_75 (by decide) (by omega) (by omega) (fun h75 => ?_) (fun h75 => ?_)
            · refine z_iinc (lv' := [(4, .int (zI (((mn N 110 + i : Nat) : Int) + 1))), (3, .int (zI (B1))), (0, .ref sh), (1, .int (zI (mn N 110))), (2, .int (zI (x)))]) hx hb dX3_firstDayOutOfBounds_81 hl (k := 0) rfl (by decide) rfl (fun ls hl => ?_)
              refine lv_goto (tgt := 11) hx hb dX3_firstDayOutOfBounds_84 (by decide) ?_
              have hl := lv_sub (l' := [(4, .int (zI (((mn N 110 + i : Nat) : Int) + 1))), (3, .int (zI (B1))), (0, .ref sh), (1, .int (zI (mn N 110))), (2, .int (zI (x)))]) hl [0, 1, 2, 3, 4] rfl
              have hl : lv_has ls 6 [(4, .int (zI (((mn N 110 + (i + 1) : Nat) : Int)))), (3, .int (zI (B1))), (0, .ref sh), (1, .int (zI (mn N 110))), (2, .int (zI (x)))] := lv_cg (lvE (congrArg zI (by omega)) (lvR (lvR (lvR (lvR (rfl)))))) hl
              exact ih (i + 1) (B1) (by omega) (by omega) (by omega) (hinv.trans (by first | (rw [show 364 - mn N 110 - i = 364 - mn N 110 - (i + 1) + 1 by omega, rchF_s1 (by omega)]; rfl) | (rw [show 364 - mn N 110 - i = 364 - mn N 110 - (i + 1) + 1 by omega, rchF_s3 (by omega) (by omega)]; rfl))) ls hl
            · refine lv_iload hx hb dX3_firstDayOutOfBounds_78 (lv_at hl 0 rfl) ?_
              exact W.iret hx hb hr (fun tX htX hWX => ⟨_, rfl, congrArg zI (by first | (exfalso; omega) | exact (hinv.trans (by rw [show 364 - mn N 110 - i = 364 - mn N 110 - (i + 1) + 1 by omega, rchF_s2 (by omega) (by omega)])).symm), htX⟩) (fun _ h9 => by cases h9) dX3_firstDayOutOfBounds_80
        · refine lv_aload_n hx hb dX3_firstDayOutOfBounds_28 rfl (lv_at hl 2 rfl) ?_
          refine lv_iload hx hb dX3_firstDayOutOfBounds_29 (lv_at hl 0 rfl) ?_
          refine vp_callSi (va_Run.run (va_runV (As := [.int (zI (((mn N 110 + i : Nat) : Int)))]) (rest := []) ⟨hx, hb, hml, hown, hts⟩ (c_X3_planOn l g (sh) (w) (N) (hN) (hw) ((mn N 110 + i)) (by omega)) (cwV 1 hts gX3_firstDayOutOfBounds_X3_planOn rfl rfl rfl (by decide +kernel) ⟨Nat.le_of_ble_eq_true rfl, Nat.le_of_ble_eq_true rfl⟩) (g_preV hPre hK (va_recv hK hP (q0 := 0) (ci := 3) rfl rfl)) rfl rfl hl.1 rfl (lv_room (Nat.le_of_ble_eq_true rfl)) dX3_firstDayOutOfBounds_31 ⟨Nat.le_of_ble_eq_true rfl, Nat.le_of_ble_eq_true rfl⟩)) (fun r hr9 => ?_)
          subst hr9
          refine lv_istore (lv' := [(5, .int (zI (plan N w (mn N 110 + i)))), (4, .int (zI (((mn N 110 + i : Nat) : Int)))), (3, .int (zI (B1))), (0, .ref sh), (1, .int (zI (mn N 110))), (2, .int (zI (x)))]) hx hb dX3_firstDayOutOfBounds_34 hl (by decide) rfl (fun ls hl => ?_)
          refine lv_iload_n hx hb dX3_firstDayOutOfBounds_36 rfl (lv_at hl 2 rfl) ?_
          refine lv_iconst (v := zI (0)) hx hb dX3_firstDayOutOfBounds_37 (by decide) ?_
          refine lv_iload hx hb dX3_firstDayOutOfBounds_38 (lv_at hl 0 rfl) ?_
          refine lv_iload_n hx hb dX3_firstDayOutOfBounds_40 rfl (lv_at hl 5 rfl) ?_
          refine z_iadd hx hb dX3_firstDayOutOfBounds_41 ?_
          refine lv_bipush (v := zI (96)) hx hb dX3_firstDayOutOfBounds_42 (by decide) ?_
          refine z_mmin hx hb (hml.trans hl.1.symm) hown k104 kSmin kM kCmin (Nat.le_of_ble_eq_true rfl) (Nat.le_of_ble_eq_true rfl) (Nat.zero_le _) (Nat.zero_le _) (by omega) (by omega) dX3_firstDayOutOfBounds_44 ?_
          refine z_mmax hx hb (hml.trans hl.1.symm) hown k69 kSmax kM kCmax (Nat.le_of_ble_eq_true rfl) (Nat.le_of_ble_eq_true rfl) (Nat.zero_le _) (Nat.zero_le _) (by omega) (by omega) dX3_firstDayOutOfBounds_47 ?_
          refine z_top (y := zI (clampI (plan N w (mn N 110 + i) + x))) (congrArg zI (by unfold clampI; (repeat' split) <;> omega)) ?_
          have hc9 : 0 ≤ clampI (plan N w (mn N 110 + i) + x) ∧ clampI (plan N w (mn N 110 + i) + x) ≤ 96 := by unfold clampI; (repeat' split) <;> omega
          refine lv_iload hx hb dX3_firstDayOutOfBounds_50 (lv_at hl 0 rfl) ?_
          refine z_isub hx hb dX3_firstDayOutOfBounds_52 ?_
          refine z_iadd hx hb dX3_firstDayOutOfBounds_53 ?_
          refine lv_istore_n (lv' := [(3, .int (zI (B1 + ((clampI (plan N w (mn N 110 + i) + x)) - (plan N w (mn N 110 + i)))))), (5, .int (zI (plan N w (mn N 110 + i)))), (4, .int (zI (((mn N 110 + i : Nat) : Int)))), (0, .ref sh), (1, .int (zI (mn N 110))), (2, .int (zI (x)))]) hx hb dX3_firstDayOutOfBounds_54 rfl hl (by decide) rfl (fun ls hl => ?_)
          refine lv_iload_n hx hb dX3_firstDayOutOfBounds_55 rfl (lv_at hl 0 rfl) ?_
          refine lv_aload_n hx hb dX3_firstDayOutOfBounds_56 rfl (lv_at hl 3 rfl) ?_
          refine va_get (D := g.1) (ci := 3) (v := .ref ru) (C := RX3) (T := TX3) (N := 7) hx hb hts hinX3 hown hK hP 0 rfl rfl 6 (by decide) k33 (fun _ h9 => h9) rfl dX3_firstDayOutOfBounds_57 ?_
          refine vp_callSi (va_Run.run (va_runV (As := []) (rest := [.int (zI (B1 + ((clampI (plan N w (mn N 110 + i) + x)) - (plan N w (mn N 110 + i)))))]) ⟨hx, hb, hml, hown, hts⟩ (c_X2_high l g (ru) (N) (hN)) (cwV 0 hts gX3_firstDayOutOfBounds_X2_high rfl rfl rfl (by decide +kernel) ⟨Nat.le_of_ble_eq_true rfl, Nat.le_of_ble_eq_true rfl⟩) (g_preV hRu hK (rdR_recv hK hRu)) rfl rfl hl.1 rfl (lv_room (Nat.le_of_ble_eq_true rfl)) dX3_firstDayOutOfBounds_60 ⟨Nat.le_of_ble_eq_true rfl, Nat.le_of_ble_eq_true rfl⟩)) (fun r hr9 => ?_)
          subst hr9
          refine z_icmp_gt (tgt := 78) hx hb dX3_firstDayOutOfBounds_63 (by decide) (by omega) (by omega) (fun h63 => ?_) (fun h63 => ?_)
          · refine lv_iload hx hb dX3_firstDayOutOfBounds_78 (lv_at hl 2 rfl) ?_
            exact W.iret hx hb hr (fun tX htX hWX => ⟨_, rfl, congrArg zI (by first | (exfalso; omega) | exact (hinv.trans (by rw [show 364 - mn N 110 - i = 364 - mn N 110 - (i + 1) + 1 by omega, rchF_s2 (by omega) (by omega)])).symm), htX⟩) (fun _ h9 => by cases h9) dX3_firstDayOutOfBounds_80
          · refine lv_iload_n hx hb dX3_firstDayOutOfBounds_66 rfl (lv_at hl 0 rfl) ?_
            refine lv_aload_n hx hb dX3_firstDayOutOfBounds_67 rfl (lv_at hl 3 rfl) ?_
            refine va_get (D := g.1) (ci := 3) (v := .ref ru) (C := RX3) (T := TX3) (N := 7) hx hb hts hinX3 hown hK hP 0 rfl rfl 6 (by decide) k33 (fun _ h9 => h9) rfl dX3_firstDayOutOfBounds_68 ?_
            refine vp_callSi (va_Run.run (va_runV (As := []) (rest := [.int (zI (B1 + ((clampI (plan N w (mn N 110 + i) + x)) - (plan N w (mn N 110 + i)))))]) ⟨hx, hb, hml, hown, hts⟩ (c_X2_low l g (ru) (N) (hN)) (cwV 0 hts gX3_firstDayOutOfBounds_X2_low rfl rfl rfl (by decide +kernel) ⟨Nat.le_of_ble_eq_true rfl, Nat.le_of_ble_eq_true rfl⟩) (g_preV hRu hK (rdR_recv hK hRu)) rfl rfl hl.1 rfl (lv_room (Nat.le_of_ble_eq_true rfl)) dX3_firstDayOutOfBounds_71 ⟨Nat.le_of_ble_eq_true rfl, Nat.le_of_ble_eq_true rfl⟩)) (fun r hr9 => ?_)
            subst hr9
            refine z_ineg hx hb dX3_firstDayOutOfBounds_74 ?_
            refine z_icmp_ge (tgt := 81) hx hb dX3_firstDayOutOfBounds_75 (by decide) (by omega) (by omega) (fun h75 => ?_) (fun h75 => ?_)
            · refine z_iinc (lv' := [(4, .int (zI (((mn N 110 + i : Nat) : Int) + 1))), (3, .int (zI (B1 + ((clampI (plan N w (mn N 110 + i) + x)) - (plan N w (mn N 110 + i)))))), (5, .int (zI (plan N w (mn N 110 + i)))), (0, .ref sh), (1, .int (zI (mn N 110))), (2, .int (zI (x)))]) hx hb dX3_firstDayOutOfBounds_81 hl (k := 2) rfl (by decide) rfl (fun ls hl => ?_)
              refine lv_goto (tgt := 11) hx hb dX3_firstDayOutOfBounds_84 (by decide) ?_
              have hl := lv_sub (l' := [(4, .int (zI (((mn N 110 + i : Nat) : Int) + 1))), (3, .int (zI (B1 + ((clampI (plan N w (mn N 110 + i) + x)) - (plan N w (mn N 110 + i)))))), (0, .ref sh), (1, .int (zI (mn N 110))), (2, .int (zI (x)))]) hl [0, 1, 3, 4, 5] rfl
              have hl : lv_has ls 6 [(4, .int (zI (((mn N 110 + (i + 1) : Nat) : Int)))), (3, .int (zI ((B1 + ((clampI (plan N w (mn N 110 + i) + x)) - (plan N w (mn N 110 + i))))))), (0, .ref sh), (1, .int (zI (mn N 110))), (2, .int (zI (x)))] := lv_cg (lvE (congrArg zI (by omega)) (lvE (congrArg zI (by omega)) (lvR (lvR (lvR (rfl)))))) hl
              exact ih (i + 1) (B1 + ((clampI (plan N w (mn N 110 + i) + x)) - (plan N w (mn N 110 + i)))) (by omega) (by omega) (by omega) (hinv.trans (by first | (rw [show 364 - mn N 110 - i = 364 - mn N 110 - (i + 1) + 1 by omega, rchF_s1 (by omega)]; rfl) | (rw [show 364 - mn N 110 - i = 364 - mn N 110 - (i + 1) + 1 by omega, rchF_s3 (by omega) (by omega)]; rfl))) ls hl
            · refine lv_iload hx hb dX3_firstDayOutOfBounds_78 (lv_at hl 2 rfl) ?_
              exact W.iret hx hb hr (fun tX htX hWX => ⟨_, rfl, congrArg zI (by first | (exfalso; omega) | exact (hinv.trans (by rw [show 364 - mn N 110 - i = 364 - mn N 110 - (i + 1) + 1 by omega, rchF_s2 (by omega) (by omega)])).symm), htX⟩) (fun _ h9 => by cases h9) dX3_firstDayOutOfBounds_80
  have hl := lv_sub (l' := [(4, .int (zI (mn N 110))), (3, .int (zI ((N (58 + 13 * w + 2)).toInt))), (0, .ref sh), (1, .int (zI (mn N 110))), (2, .int (zI (x)))]) hl [0, 1, 2, 3, 4] rfl
  have hl : lv_has ls 6 [(4, .int (zI (((mn N 110 + 0 : Nat) : Int)))), (3, .int (zI (((N (58 + 13 * w + 2)).toInt)))), (0, .ref sh), (1, .int (zI (mn N 110))), (2, .int (zI (x)))] := lv_cg (lvE (congrArg zI (by omega)) (lvE (congrArg zI (by omega)) (lvR (lvR (lvR (rfl)))))) hl
  exact loop11 _ (0) ((N (58 + 13 * w + 2)).toInt) (Nat.lt_succ_self _) (Nat.zero_le _) (by rw [show 58 + 13 * w + 2 = 60 + 13 * w by omega]; exact hbl) (rfl) ls hl
