set_option maxHeartbeats 4000000 in
set_option maxRecDepth 100000 in
theorem c_X8_now (l : Launch) (g : GG) (ho : Nat) (N : Nat → Int32) (hN : okN N) (hc tz : Int32) (v : Int) (hv : R32 v) : Met l yX8_now wsX8_now ({ frames := 4, cells := 0, slots := 0, locals := 87 }) (gPc g [.ref ho, .int (zI (v))] (rdH g ho N hc tz)) (vp_Si (fun r : Int32 => r = nowF N hc tz v)) 0 0 (fun _ => False) := by
  refine Met.ofW (cc := cX8_now) (maxL := 2) (ret := (some .int)) (by decide) rfl ?_
  intro p e s m args below meth c s₁ B hml hv
  obtain ⟨rfl, hPre, hK⟩ := hv
  have hx := B.exec
  have hb := B.bytes
  have hr := B.returns
  have hts := atoms_spec (ws := wsX8_now) B.pre
  have hown : s.vm.findClass RX8 = some m.cls := findClass_of_methodNamed B.named
  have hlocks := B.notSynchronized
  have hinX1 : ∀ w ∈ wsX10, w ∈ wsX8_now := by decide +kernel
  have hinX5 : ∀ w ∈ wsX50, w ∈ wsX8_now := by decide +kernel
  have hinX8 : ∀ w ∈ wsX80, w ∈ wsX8_now := by decide +kernel
  have k51 := hts (.fieldLink RX8 51 "HoursBank" "today" "I") (by decide +kernel)
  have k28 := hts (.fieldLink RX8 28 "HoursBank" "rules" "LHoursBank$Rules;") (by decide +kernel)
  have k47 := hts (.fieldLink RX8 47 "HoursBank" "history" "LHoursBank$History;") (by decide +kernel)
  have k72 := hts (.fieldLink RX8 72 "HoursBank$History" "count" "I") (by decide +kernel)
  have k12 := hts (.fieldLink RX8 12 "HoursBank" "tape" "LHoursBank$Tape;") (by decide +kernel)
  have k55 := hts (.fieldLink RX8 55 "HoursBank$Tape" "size" "I") (by decide +kernel)
  have k100 := hts (.constant RX8 100 (-100000000)) (by decide +kernel)
  have hl := lv_entry ([.ref ho, .int (zI (v))]) (n := 2) (Nat.le_of_ble_eq_true rfl)
  rw [lg_entry_eq]
  generalize (lg_sl ([.ref ho, .int (zI (v))]) ++ List.replicate (2 - (lg_sl ([.ref ho, .int (zI (v))])).length) Slot.unset).toArray = ls at hl ⊢
  have hl : lv_has ls 2 [(0, .ref ho), (1, .int (zI (v)))] := hl
  obtain ⟨tpa, rda, sa, hia, ru, dfa, sh, hst, hnx, bya, hP, hSh, hRu⟩ := id hPre
  refine lv_iload_n hx hb dX8_now_0 rfl (lv_at hl 1 rfl) ?_
  by_cases q1_0 : v = 0
  · subst q1_0
    refine lv_tableIn (off := 55) (tgt := 56) hx hb dX8_now_1 (by decide) (by decide) (by decide) (by decide) ?_
    refine lv_aload_n hx hb dX8_now_56 rfl (lv_at hl 0 rfl) ?_
    refine va_get (D := g.1) (ci := 8) (v := .int (N 110)) (C := RX8) (T := TX8) (N := 7) hx hb hts hinX8 hown hK hP 0 rfl rfl 6 (by decide) k51 (fun _ h9 => h9) rfl dX8_now_57 ?_
    refine z_top (y := zI (mn N 110)) (hN.td.eq) ?_
    exact W.iret hx hb hr (fun tX htX hWX => ⟨_, rfl, rfl, htX⟩) (fun _ h9 => by cases h9) dX8_now_60
  by_cases q1_1 : v = 1
  · subst q1_1
    refine lv_tableIn (off := 60) (tgt := 61) hx hb dX8_now_1 (by decide) (by decide) (by decide) (by decide) ?_
    refine lv_aload_n hx hb dX8_now_61 rfl (lv_at hl 0 rfl) ?_
    refine va_get (D := g.1) (ci := 8) (v := .ref ru) (C := RX8) (T := TX8) (N := 7) hx hb hts hinX8 hown hK hP 0 rfl rfl 4 (by decide) k28 (fun _ h9 => h9) rfl dX8_now_62 ?_
    refine vp_callSi (va_Run.run (va_runV (As := []) (rest := []) ⟨hx, hb, hml, hown, hts⟩ (c_X2_workers l g (ru) (N) (hN)) (cwV 0 hts gX8_now_X2_workers rfl rfl rfl (by decide +kernel) ⟨Nat.le_of_ble_eq_true rfl, Nat.le_of_ble_eq_true rfl⟩) (g_preV hRu hK (rdR_recv hK hRu)) rfl rfl hl.1 rfl (lv_room (Nat.le_of_ble_eq_true rfl)) dX8_now_65 ⟨Nat.le_of_ble_eq_true rfl, Nat.le_of_ble_eq_true rfl⟩)) (fun r hr9 => ?_)
    subst hr9
    exact W.iret hx hb hr (fun tX htX hWX => ⟨_, rfl, rfl, htX⟩) (fun _ h9 => by cases h9) dX8_now_68
  by_cases q1_2 : v = 2
  · subst q1_2
    refine lv_tableIn (off := 68) (tgt := 69) hx hb dX8_now_1 (by decide) (by decide) (by decide) (by decide) ?_
    refine lv_aload_n hx hb dX8_now_69 rfl (lv_at hl 0 rfl) ?_
    refine vp_callSi (va_Run.run (va_runV (As := []) (rest := []) ⟨hx, hb, hml, hown, hts⟩ (c_X8_presentWorkers l g (ho) (N) (hN) (hc) (tz)) (cwV 0 hts gX8_now_X8_presentWorkers rfl rfl rfl (by decide +kernel) ⟨Nat.le_of_ble_eq_true rfl, Nat.le_of_ble_eq_true rfl⟩) (g_preV hPre hK (va_recv hK hP (q0 := 0) (ci := 8) rfl rfl)) rfl rfl hl.1 rfl (lv_room (Nat.le_of_ble_eq_true rfl)) dX8_now_70 ⟨Nat.le_of_ble_eq_true rfl, Nat.le_of_ble_eq_true rfl⟩)) (fun r hr9 => ?_)
    subst hr9
    exact W.iret hx hb hr (fun tX htX hWX => ⟨_, rfl, rfl, htX⟩) (fun _ h9 => by cases h9) dX8_now_73
  by_cases q1_3 : v = 3
  · subst q1_3
    refine lv_tableIn (off := 73) (tgt := 74) hx hb dX8_now_1 (by decide) (by decide) (by decide) (by decide) ?_
    refine lv_aload_n hx hb dX8_now_74 rfl (lv_at hl 0 rfl) ?_
    refine va_get (D := g.1) (ci := 8) (v := .ref ru) (C := RX8) (T := TX8) (N := 7) hx hb hts hinX8 hown hK hP 0 rfl rfl 4 (by decide) k28 (fun _ h9 => h9) rfl dX8_now_75 ?_
    refine vp_callSi (va_Run.run (va_runV (As := []) (rest := []) ⟨hx, hb, hml, hown, hts⟩ (c_X2_seasons l g (ru) (N) (hN)) (cwV 0 hts gX8_now_X2_seasons rfl rfl rfl (by decide +kernel) ⟨Nat.le_of_ble_eq_true rfl, Nat.le_of_ble_eq_true rfl⟩) (g_preV hRu hK (rdR_recv hK hRu)) rfl rfl hl.1 rfl (lv_room (Nat.le_of_ble_eq_true rfl)) dX8_now_78 ⟨Nat.le_of_ble_eq_true rfl, Nat.le_of_ble_eq_true rfl⟩)) (fun r hr9 => ?_)
    subst hr9
    exact W.iret hx hb hr (fun tX htX hWX => ⟨_, rfl, rfl, htX⟩) (fun _ h9 => by cases h9) dX8_now_81
  by_cases q1_4 : v = 4
  · subst q1_4
    refine lv_tableIn (off := 81) (tgt := 82) hx hb dX8_now_1 (by decide) (by decide) (by decide) (by decide) ?_
    refine lv_aload_n hx hb dX8_now_82 rfl (lv_at hl 0 rfl) ?_
    refine vp_callSi (va_Run.run (va_runV (As := []) (rest := []) ⟨hx, hb, hml, hown, hts⟩ (c_X8_changedPlans l g (ho) (N) (hN) (hc) (tz)) (cwV 0 hts gX8_now_X8_changedPlans rfl rfl rfl (by decide +kernel) ⟨Nat.le_of_ble_eq_true rfl, Nat.le_of_ble_eq_true rfl⟩) (g_preV hPre hK (va_recv hK hP (q0 := 0) (ci := 8) rfl rfl)) rfl rfl hl.1 rfl (lv_room (Nat.le_of_ble_eq_true rfl)) dX8_now_83 ⟨Nat.le_of_ble_eq_true rfl, Nat.le_of_ble_eq_true rfl⟩)) (fun r hr9 => ?_)
    subst hr9
    exact W.iret hx hb hr (fun tX htX hWX => ⟨_, rfl, rfl, htX⟩) (fun _ h9 => by cases h9) dX8_now_86
  by_cases q1_5 : v = 5
  · subst q1_5
    refine lv_tableIn (off := 86) (tgt := 87) hx hb dX8_now_1 (by decide) (by decide) (by decide) (by decide) ?_
    refine lv_aload_n hx hb dX8_now_87 rfl (lv_at hl 0 rfl) ?_
    refine vp_callSi (va_Run.run (va_runV (As := []) (rest := []) ⟨hx, hb, hml, hown, hts⟩ (c_X8_bookedDays l g (ho) (N) (hN) (hc) (tz)) (cwV 0 hts gX8_now_X8_bookedDays rfl rfl rfl (by decide +kernel) ⟨Nat.le_of_ble_eq_true rfl, Nat.le_of_ble_eq_true rfl⟩) (g_preV hPre hK (va_recv hK hP (q0 := 0) (ci := 8) rfl rfl)) rfl rfl hl.1 rfl (lv_room (Nat.le_of_ble_eq_true rfl)) dX8_now_88 ⟨Nat.le_of_ble_eq_true rfl, Nat.le_of_ble_eq_true rfl⟩)) (fun r hr9 => ?_)
    subst hr9
    exact W.iret hx hb hr (fun tX htX hWX => ⟨_, rfl, rfl, htX⟩) (fun _ h9 => by cases h9) dX8_now_91
  by_cases q1_6 : v = 6
  · subst q1_6
    refine lv_tableIn (off := 91) (tgt := 92) hx hb dX8_now_1 (by decide) (by decide) (by decide) (by decide) ?_
    refine lv_aload_n hx hb dX8_now_92 rfl (lv_at hl 0 rfl) ?_
    refine vp_callSi (va_Run.run (va_runV (As := []) (rest := []) ⟨hx, hb, hml, hown, hts⟩ (c_X8_flaggedDays l g (ho) (N) (hN) (hc) (tz)) (cwV 0 hts gX8_now_X8_flaggedDays rfl rfl rfl (by decide +kernel) ⟨Nat.le_of_ble_eq_true rfl, Nat.le_of_ble_eq_true rfl⟩) (g_preV hPre hK (va_recv hK hP (q0 := 0) (ci := 8) rfl rfl)) rfl rfl hl.1 rfl (lv_room (Nat.le_of_ble_eq_true rfl)) dX8_now_93 ⟨Nat.le_of_ble_eq_true rfl, Nat.le_of_ble_eq_true rfl⟩)) (fun r hr9 => ?_)
    subst hr9
    exact W.iret hx hb hr (fun tX htX hWX => ⟨_, rfl, rfl, htX⟩) (fun _ h9 => by cases h9) dX8_now_96
  by_cases q1_7 : v = 7
  · subst q1_7
    refine lv_tableIn (off := 96) (tgt := 97) hx hb dX8_now_1 (by decide) (by decide) (by decide) (by decide) ?_
    refine lv_aload_n hx hb dX8_now_97 rfl (lv_at hl 0 rfl) ?_
    refine vp_callSi (va_Run.run (va_runV (As := []) (rest := []) ⟨hx, hb, hml, hown, hts⟩ (c_X8_coinsPaid l g (ho) (N) (hN) (hc) (tz)) (cwV 0 hts gX8_now_X8_coinsPaid rfl rfl rfl (by decide +kernel) ⟨Nat.le_of_ble_eq_true rfl, Nat.le_of_ble_eq_true rfl⟩) (g_preV hPre hK (va_recv hK hP (q0 := 0) (ci := 8) rfl rfl)) rfl rfl hl.1 rfl (lv_room (Nat.le_of_ble_eq_true rfl)) dX8_now_98 ⟨Nat.le_of_ble_eq_true rfl, Nat.le_of_ble_eq_true rfl⟩)) (fun r hr9 => ?_)
    subst hr9
    exact W.iret hx hb hr (fun tX htX hWX => ⟨_, rfl, rfl, htX⟩) (fun _ h9 => by cases h9) dX8_now_101
  by_cases q1_8 : v = 8
  · subst q1_8
    refine lv_tableIn (off := 101) (tgt := 102) hx hb dX8_now_1 (by decide) (by decide) (by decide) (by decide) ?_
    refine lv_aload_n hx hb dX8_now_102 rfl (lv_at hl 0 rfl) ?_
    refine va_get (D := g.1) (ci := 8) (v := .ref hia) (C := RX8) (T := TX8) (N := 7) hx hb hts hinX8 hown hK hP 0 rfl rfl 3 (by decide) k47 (fun _ h9 => h9) rfl dX8_now_103 ?_
    refine va_get (D := g.1) (ci := 1) (v := .int (hc)) (C := RX1) (T := TX1) (N := 3) hx hb hts hinX1 hown hK hP 2 rfl rfl 2 (by decide) k72 (fun _ h9 => h9) rfl dX8_now_106 ?_
    exact W.iret hx hb hr (fun tX htX hWX => ⟨_, rfl, rfl, htX⟩) (fun _ h9 => by cases h9) dX8_now_109
  by_cases q1_9 : v = 9
  · subst q1_9
    refine lv_tableIn (off := 109) (tgt := 110) hx hb dX8_now_1 (by decide) (by decide) (by decide) (by decide) ?_
    refine lv_aload_n hx hb dX8_now_110 rfl (lv_at hl 0 rfl) ?_
    refine va_get (D := g.1) (ci := 8) (v := .ref tpa) (C := RX8) (T := TX8) (N := 7) hx hb hts hinX8 hown hK hP 0 rfl rfl 0 (by decide) k12 (fun _ h9 => h9) rfl dX8_now_111 ?_
    refine va_get (D := g.1) (ci := 5) (v := .int (tz)) (C := RX5) (T := TX5) (N := 2) hx hb hts hinX5 hown hK hP 3 rfl rfl 1 (by decide) k55 (fun _ h9 => h9) rfl dX8_now_114 ?_
    exact W.iret hx hb hr (fun tX htX hWX => ⟨_, rfl, rfl, htX⟩) (fun _ h9 => by cases h9) dX8_now_117
  refine lv_tableOut (tgt := 118) hx hb dX8_now_1 (by rw [zI_toInt hv]; omega) (by decide) ?_
  refine lv_ldc (v := -100000000) hx hb hown k100 dX8_now_118 ?_
  refine z_top (y := zI (-100000000)) (by decide) ?_
  exact W.iret hx hb hr (fun tX htX hWX => ⟨_, rfl, by simp only [nowF, if_neg, *]; rfl, htX⟩) (fun _ h9 => by cases h9) dX8_now_120

set_option maxHeartbeats 4000000 in
set_option maxRecDepth 100000 in
theorem c_X8_day (l : Launch) (g : GG) (ho : Nat) (N : Nat → Int32) (hN : okN N) (hc tz : Int32) (v y x : Int) (hv : R32 v) (hy : R32 y) (hx0 : R32 x) : Met l yX8_day wsX8_day ({ frames := 3, cells := 0, slots := 0, locals := 64 }) (gPc g [.ref ho, .int (zI (v)), .int (zI (y)), .int (zI (x))] (rdH g ho N hc tz)) (vp_Si (fun r : Int32 => r = dayF N v y x)) 0 0 (fun _ => False) := by
  refine Met.ofW (cc := cX8_day) (maxL := 5) (ret := (some .int)) (by decide) rfl ?_
  intro p e s m args below meth c s₁ B hml hv
  obtain ⟨rfl, hPre, hK⟩ := hv
  have hx := B.exec
  have hb := B.bytes
  have hr := B.returns
  have hts := atoms_spec (ws := wsX8_day) B.pre
  have hown : s.vm.findClass RX8 = some m.cls := findClass_of_methodNamed B.named
  have hlocks := B.notSynchronized
  have hinX3 : ∀ w ∈ wsX30, w ∈ wsX8_day := by decide +kernel
  have hinX8 : ∀ w ∈ wsX80, w ∈ wsX8_day := by decide +kernel
  have k37 := hts (.fieldLink RX8 37 "HoursBank" "sheets" "[LHoursBank$Sheet;") (by decide +kernel)
  have k172 := hts (.fieldLink RX8 172 "HoursBank$Sheet" "flagged" "[Z") (by decide +kernel)
  have hl := lv_entry ([.ref ho, .int (zI (v)), .int (zI (y)), .int (zI (x))]) (n := 5) (Nat.le_of_ble_eq_true rfl)
  rw [lg_entry_eq]
  generalize (lg_sl ([.ref ho, .int (zI (v)), .int (zI (y)), .int (zI (x))]) ++ List.replicate (5 - (lg_sl ([.ref ho, .int (zI (v)), .int (zI (y)), .int (zI (x))])).length) Slot.unset).toArray = ls at hl ⊢
  have hl : lv_has ls 5 [(0, .ref ho), (1, .int (zI (v))), (2, .int (zI (y))), (3, .int (zI (x)))] := hl
  obtain ⟨tpa, rda, sa, hia, ru, dfa, sh, hst, hnx, bya, hP, hSh, hRu⟩ := id hPre
  refine lv_aload_n hx hb dX8_day_0 rfl (lv_at hl 0 rfl) ?_
  refine lv_iload_n hx hb dX8_day_1 rfl (lv_at hl 1 rfl) ?_
  refine vp_callSi (va_Run.run (va_runV (As := [.int (zI (v))]) (rest := []) ⟨hx, hb, hml, hown, hts⟩ (c_X8_isWorker l g (ho) (N) (hN) (hc) (tz) (v) (hv)) (cwV 1 hts gX8_day_X8_isWorker rfl rfl rfl (by decide +kernel) ⟨Nat.le_of_ble_eq_true rfl, Nat.le_of_ble_eq_true rfl⟩) (g_preV hPre hK (va_recv hK hP (q0 := 0) (ci := 8) rfl rfl)) rfl rfl hl.1 rfl (lv_room (Nat.le_of_ble_eq_true rfl)) dX8_day_2 ⟨Nat.le_of_ble_eq_true rfl, Nat.le_of_ble_eq_true rfl⟩)) (fun r hr9 => ?_)
  subst hr9
  refine z_bz_eq (tgt := 15) hx hb dX8_day_5 (by decide) (fun h5 => ?_) (fun h5 => ?_)
  · refine lv_iconst (v := zI (-1)) hx hb dX8_day_15 (by decide) ?_
    exact W.iret hx hb hr (fun tX htX hWX => ⟨_, rfl, (dayF_no x (by omega)).symm, htX⟩) (fun _ h9 => by cases h9) dX8_day_16
  · refine lv_iload_n hx hb dX8_day_8 rfl (lv_at hl 2 rfl) ?_
    refine vp_callSi (va_Run.run (va_runS (As := [.int (zI (y))]) (rest := []) ⟨hx, hb, hml, hown, hts⟩ (c_X8_isDay l (y) (hy)) (va_cwS 1 hts gX8_day_X8_isDay rfl rfl rfl (by decide +kernel) ⟨Nat.le_of_ble_eq_true rfl, Nat.le_of_ble_eq_true rfl⟩) g_preS0 rfl rfl hl.1 rfl (lv_room (Nat.le_of_ble_eq_true rfl)) dX8_day_9 ⟨Nat.le_of_ble_eq_true rfl, Nat.le_of_ble_eq_true rfl⟩)) (fun r hr9 => ?_)
    subst hr9
    refine z_bz_ne (tgt := 17) hx hb dX8_day_12 (by decide) (fun h12 => ?_) (fun h12 => ?_)
    · have hq := hN.nw.le
      obtain ⟨w, rfl⟩ := Int.eq_ofNat_of_zero_le h5.1
      obtain ⟨d, rfl⟩ := Int.eq_ofNat_of_zero_le h12.1
      have hw : w < 4 := by omega
      have hd : d < 364 := by omega
      have hSw1 := hSh w (by omega) (by omega)
      obtain ⟨sa1, ch1, tl1, fl1, af1, rate1, lv1, ru1, gd1, hP1, hR1, hRu1⟩ := id hSw1
      refine lv_aload_n hx hb dX8_day_17 rfl (lv_at hl 0 rfl) ?_
      refine va_get (D := g.1) (ci := 8) (v := .ref sa) (C := RX8) (T := TX8) (N := 7) hx hb hts hinX8 hown hK hP 0 rfl rfl 2 (by decide) k37 (fun _ h9 => h9) rfl dX8_day_18 ?_
      refine lv_iload_n hx hb dX8_day_21 rfl (lv_at hl 1 rfl) ?_
      refine z_aald hx hb hK hP 1 4 rfl rfl rfl (by decide) (w) (by omega) (by omega) rfl dX8_day_22 ?_
      refine lv_astore (lv' := [(4, .ref ((sh w))), (0, .ref ho), (1, .int (zI ((w : Int)))), (2, .int (zI ((d : Int)))), (3, .int (zI (x)))]) hx hb dX8_day_23 hl (by decide) rfl (fun ls hl => ?_)
      refine lv_iload_n hx hb dX8_day_25 rfl (lv_at hl 4 rfl) ?_
      by_cases q26_0 : x = 0
      · subst q26_0
        refine lv_tableIn (off := 38) (tgt := 64) hx hb dX8_day_26 (by decide) (by decide) (by decide) (by decide) ?_
        refine lv_aload hx hb dX8_day_64 (lv_at hl 0 rfl) ?_
        refine lv_iload_n hx hb dX8_day_66 rfl (lv_at hl 3 rfl) ?_
        refine vp_callSi (va_Run.run (va_runV (As := [.int (zI ((d : Int)))]) (rest := []) ⟨hx, hb, hml, hown, hts⟩ (c_X3_planOn l g ((sh w)) (w) (N) (hN) (by omega) (d) (hd)) (cwV 1 hts gX8_day_X3_planOn rfl rfl rfl (by decide +kernel) ⟨Nat.le_of_ble_eq_true rfl, Nat.le_of_ble_eq_true rfl⟩) (g_preV (hSh w (by omega) (by omega)) hK (rdS_recv hK (hSh w (by omega) (by omega)))) rfl rfl hl.1 rfl (lv_room (Nat.le_of_ble_eq_true rfl)) dX8_day_67 ⟨Nat.le_of_ble_eq_true rfl, Nat.le_of_ble_eq_true rfl⟩)) (fun r hr9 => ?_)
        subst hr9
        exact W.iret hx hb hr (fun tX htX hWX => ⟨_, rfl, by rw [dayF_in h5 h12 0]; rfl, htX⟩) (fun _ h9 => by cases h9) dX8_day_70
      by_cases q26_1 : x = 1
      · subst q26_1
        refine lv_tableIn (off := 45) (tgt := 71) hx hb dX8_day_26 (by decide) (by decide) (by decide) (by decide) ?_
        refine lv_aload hx hb dX8_day_71 (lv_at hl 0 rfl) ?_
        refine lv_iload_n hx hb dX8_day_73 rfl (lv_at hl 3 rfl) ?_
        refine vp_callSi (va_Run.run (va_runV (As := [.int (zI ((d : Int)))]) (rest := []) ⟨hx, hb, hml, hown, hts⟩ (c_X3_workedOn l g ((sh w)) (w) (N) (hN) (by omega) (d) (hd)) (cwV 1 hts gX8_day_X3_workedOn rfl rfl rfl (by decide +kernel) ⟨Nat.le_of_ble_eq_true rfl, Nat.le_of_ble_eq_true rfl⟩) (g_preV (hSh w (by omega) (by omega)) hK (rdS_recv hK (hSh w (by omega) (by omega)))) rfl rfl hl.1 rfl (lv_room (Nat.le_of_ble_eq_true rfl)) dX8_day_74 ⟨Nat.le_of_ble_eq_true rfl, Nat.le_of_ble_eq_true rfl⟩)) (fun r hr9 => ?_)
        subst hr9
        exact W.iret hx hb hr (fun tX htX hWX => ⟨_, rfl, by rw [dayF_in h5 h12 1]; rfl, htX⟩) (fun _ h9 => by cases h9) dX8_day_77
      by_cases q26_2 : x = 2
      · subst q26_2
        refine lv_tableIn (off := 52) (tgt := 78) hx hb dX8_day_26 (by decide) (by decide) (by decide) (by decide) ?_
        refine lv_aload hx hb dX8_day_78 (lv_at hl 0 rfl) ?_
        refine lv_iload_n hx hb dX8_day_80 rfl (lv_at hl 3 rfl) ?_
        refine vp_callSi (va_Run.run (va_runV (As := [.int (zI ((d : Int)))]) (rest := []) ⟨hx, hb, hml, hown, hts⟩ (c_X3_kindOn l g ((sh w)) (w) (N) (hN) (by omega) (d) (hd)) (cwV 1 hts gX8_day_X3_kindOn rfl rfl rfl (by decide +kernel) ⟨Nat.le_of_ble_eq_true rfl, Nat.le_of_ble_eq_true rfl⟩) (g_preV (hSh w (by omega) (by omega)) hK (rdS_recv hK (hSh w (by omega) (by omega)))) rfl rfl hl.1 rfl (lv_room (Nat.le_of_ble_eq_true rfl)) dX8_day_81 ⟨Nat.le_of_ble_eq_true rfl, Nat.le_of_ble_eq_true rfl⟩)) (fun r hr9 => ?_)
        subst hr9
        exact W.iret hx hb hr (fun tX htX hWX => ⟨_, rfl, by rw [dayF_in h5 h12 2]; rfl, htX⟩) (fun _ h9 => by cases h9) dX8_day_84
      by_cases q26_3 : x = 3
      · subst q26_3
        refine lv_tableIn (off := 59) (tgt := 85) hx hb dX8_day_26 (by decide) (by decide) (by decide) (by decide) ?_
        refine lv_aload hx hb dX8_day_85 (lv_at hl 0 rfl) ?_
        refine lv_iload_n hx hb dX8_day_87 rfl (lv_at hl 3 rfl) ?_
        refine vp_callSi (va_Run.run (va_runV (As := [.int (zI ((d : Int)))]) (rest := []) ⟨hx, hb, hml, hown, hts⟩ (c_X3_loadOn l g ((sh w)) (w) (N) (hN) (by omega) (d) (hd)) (cwV 1 hts gX8_day_X3_loadOn rfl rfl rfl (by decide +kernel) ⟨Nat.le_of_ble_eq_true rfl, Nat.le_of_ble_eq_true rfl⟩) (g_preV (hSh w (by omega) (by omega)) hK (rdS_recv hK (hSh w (by omega) (by omega)))) rfl rfl hl.1 rfl (lv_room (Nat.le_of_ble_eq_true rfl)) dX8_day_88 ⟨Nat.le_of_ble_eq_true rfl, Nat.le_of_ble_eq_true rfl⟩)) (fun r hr9 => ?_)
        subst hr9
        exact W.iret hx hb hr (fun tX htX hWX => ⟨_, rfl, by rw [dayF_in h5 h12 3]; rfl, htX⟩) (fun _ h9 => by cases h9) dX8_day_91
      by_cases q26_4 : x = 4
      · subst q26_4
        refine lv_tableIn (off := 66) (tgt := 92) hx hb dX8_day_26 (by decide) (by decide) (by decide) (by decide) ?_
        refine lv_aload hx hb dX8_day_92 (lv_at hl 0 rfl) ?_
        refine va_get (D := g.1) (ci := 3) (v := .ref ((sa1 2))) (C := RX3) (T := TX3) (N := 7) hx hb hts hinX3 hown hK hP1 0 rfl rfl 2 (by decide) k172 (fun _ h9 => h9) rfl dX8_day_94 ?_
        refine lv_iload_n hx hb dX8_day_97 rfl (lv_at hl 3 rfl) ?_
        refine z_zald hx hb hK hP1 3 2 (rfl) rfl (by decide) (d) (by omega) (by omega) dX8_day_98 ?_
        refine z_top (y := zI (flg N w d)) (hR1.2.2.2.2.1 d hd) ?_
        have hq5 := hN.flg hw hd
        refine z_if_eq (tgt := 106) hx hb dX8_day_99 (by decide) (by omega) (fun h99 => ?_) (fun h99 => ?_)
        · refine lv_iconst (v := zI (0)) hx hb dX8_day_106 (by decide) ?_
          exact W.iret hx hb hr (fun tX htX hWX => ⟨_, rfl, by rw [dayF_in h5 h12 4]; exact congrArg zI (by omega), htX⟩) (fun _ h9 => by cases h9) dX8_day_107
        · refine lv_iconst (v := zI (1)) hx hb dX8_day_102 (by decide) ?_
          refine lv_goto (tgt := 107) hx hb dX8_day_103 (by decide) ?_
          exact W.iret hx hb hr (fun tX htX hWX => ⟨_, rfl, by rw [dayF_in h5 h12 4]; exact congrArg zI (by omega), htX⟩) (fun _ h9 => by cases h9) dX8_day_107
      by_cases q26_5 : x = 5
      · subst q26_5
        refine lv_tableIn (off := 82) (tgt := 108) hx hb dX8_day_26 (by decide) (by decide) (by decide) (by decide) ?_
        refine lv_aload hx hb dX8_day_108 (lv_at hl 0 rfl) ?_
        refine lv_iload_n hx hb dX8_day_110 rfl (lv_at hl 3 rfl) ?_
        refine vp_callSi (va_Run.run (va_runV (As := [.int (zI ((d : Int)))]) (rest := []) ⟨hx, hb, hml, hown, hts⟩ (c_X3_isChanged l g ((sh w)) (w) (N) (hN) (by omega) (d) (hd)) (cwV 1 hts gX8_day_X3_isChanged rfl rfl rfl (by decide +kernel) ⟨Nat.le_of_ble_eq_true rfl, Nat.le_of_ble_eq_true rfl⟩) (g_preV (hSh w (by omega) (by omega)) hK (rdS_recv hK (hSh w (by omega) (by omega)))) rfl rfl hl.1 rfl (lv_room (Nat.le_of_ble_eq_true rfl)) dX8_day_111 ⟨Nat.le_of_ble_eq_true rfl, Nat.le_of_ble_eq_true rfl⟩)) (fun r hr9 => ?_)
        subst hr9
        refine z_bz_eq (tgt := 121) hx hb dX8_day_114 (by decide) (fun h114 => ?_) (fun h114 => ?_)
        · refine lv_iconst (v := zI (0)) hx hb dX8_day_121 (by decide) ?_
          exact W.iret hx hb hr (fun tX htX hWX => ⟨_, rfl, by rw [dayF_in h5 h12 5]; exact bz_0 h114, htX⟩) (fun _ h9 => by cases h9) dX8_day_122
        · refine lv_iconst (v := zI (1)) hx hb dX8_day_117 (by decide) ?_
          refine lv_goto (tgt := 122) hx hb dX8_day_118 (by decide) ?_
          exact W.iret hx hb hr (fun tX htX hWX => ⟨_, rfl, by rw [dayF_in h5 h12 5]; exact bz_1 h114, htX⟩) (fun _ h9 => by cases h9) dX8_day_122
      refine lv_tableOut (tgt := 123) hx hb dX8_day_26 (by rw [zI_toInt hx0]; omega) (by decide) ?_
      refine lv_iconst (v := zI (-1)) hx hb dX8_day_123 (by decide) ?_
      exact W.iret hx hb hr (fun tX htX hWX => ⟨_, rfl, by rw [dayF_in h5 h12 x, dyF, if_neg q26_0, if_neg q26_1, if_neg q26_2, if_neg q26_3, if_neg q26_4, if_neg q26_5], htX⟩) (fun _ h9 => by cases h9) dX8_day_124
    · refine lv_iconst (v := zI (-1)) hx hb dX8_day_15 (by decide) ?_
      exact W.iret hx hb hr (fun tX htX hWX => ⟨_, rfl, (dayF_no x (by omega)).symm, htX⟩) (fun _ h9 => by cases h9) dX8_day_16

set_option maxHeartbeats 4000000 in
set_option maxRecDepth 100000 in
theorem c_X8_load (l : Launch) (g : GG) (ho : Nat) (N : Nat → Int32) (hN : okN N) (hc tz : Int32) (v y : Int) (hv : R32 v) (hy : R32 y) : Met l yX8_load wsX8_load ({ frames := 5, cells := 0, slots := 0, locals := 108 }) (gPc g [.ref ho, .int (zI (v)), .int (zI (y))] (rdH g ho N hc tz)) (vp_Si (fun r : Int32 => r = loadF N v y)) 0 0 (fun _ => False) := by
  refine Met.ofW (cc := cX8_load) (maxL := 3) (ret := (some .int)) (by decide) rfl ?_
  intro p e s m args below meth c s₁ B hml hv
  obtain ⟨rfl, hPre, hK⟩ := hv
  have hx := B.exec
  have hb := B.bytes
  have hr := B.returns
  have hts := atoms_spec (ws := wsX8_load) B.pre
  have hown : s.vm.findClass RX8 = some m.cls := findClass_of_methodNamed B.named
  have hlocks := B.notSynchronized
  have hinX8 : ∀ w ∈ wsX80, w ∈ wsX8_load := by decide +kernel
  have k37 := hts (.fieldLink RX8 37 "HoursBank" "sheets" "[LHoursBank$Sheet;") (by decide +kernel)
  have hl := lv_entry ([.ref ho, .int (zI (v)), .int (zI (y))]) (n := 3) (Nat.le_of_ble_eq_true rfl)
  rw [lg_entry_eq]
  generalize (lg_sl ([.ref ho, .int (zI (v)), .int (zI (y))]) ++ List.replicate (3 - (lg_sl ([.ref ho, .int (zI (v)), .int (zI (y))])).length) Slot.unset).toArray = ls at hl ⊢
  have hl : lv_has ls 3 [(0, .ref ho), (1, .int (zI (v))), (2, .int (zI (y)))] := hl
  obtain ⟨tpa, rda, sa, hia, ru, dfa, sh, hst, hnx, bya, hP, hSh, hRu⟩ := id hPre
  refine lv_aload_n hx hb dX8_load_0 rfl (lv_at hl 0 rfl) ?_
  refine lv_iload_n hx hb dX8_load_1 rfl (lv_at hl 1 rfl) ?_
  refine vp_callSi (va_Run.run (va_runV (As := [.int (zI (v))]) (rest := []) ⟨hx, hb, hml, hown, hts⟩ (c_X8_isWorker l g (ho) (N) (hN) (hc) (tz) (v) (hv)) (cwV 1 hts gX8_load_X8_isWorker rfl rfl rfl (by decide +kernel) ⟨Nat.le_of_ble_eq_true rfl, Nat.le_of_ble_eq_true rfl⟩) (g_preV hPre hK (va_recv hK hP (q0 := 0) (ci := 8) rfl rfl)) rfl rfl hl.1 rfl (lv_room (Nat.le_of_ble_eq_true rfl)) dX8_load_2 ⟨Nat.le_of_ble_eq_true rfl, Nat.le_of_ble_eq_true rfl⟩)) (fun r hr9 => ?_)
  subst hr9
  refine z_bz_eq (tgt := 28) hx hb dX8_load_5 (by decide) (fun h5 => ?_) (fun h5 => ?_)
  · refine lv_iconst (v := zI (-1)) hx hb dX8_load_28 (by decide) ?_
    exact W.iret hx hb hr (fun tX htX hWX => ⟨_, rfl, by unfold loadF; rw [if_neg (by omega)], htX⟩) (fun _ h9 => by cases h9) dX8_load_29
  · refine lv_iload_n hx hb dX8_load_8 rfl (lv_at hl 2 rfl) ?_
    refine vp_callSi (va_Run.run (va_runS (As := [.int (zI (y))]) (rest := []) ⟨hx, hb, hml, hown, hts⟩ (c_X8_isDay l (y) (hy)) (va_cwS 1 hts gX8_load_X8_isDay rfl rfl rfl (by decide +kernel) ⟨Nat.le_of_ble_eq_true rfl, Nat.le_of_ble_eq_true rfl⟩) g_preS0 rfl rfl hl.1 rfl (lv_room (Nat.le_of_ble_eq_true rfl)) dX8_load_9 ⟨Nat.le_of_ble_eq_true rfl, Nat.le_of_ble_eq_true rfl⟩)) (fun r hr9 => ?_)
    subst hr9
    refine z_bz_eq (tgt := 28) hx hb dX8_load_12 (by decide) (fun h12 => ?_) (fun h12 => ?_)
    · refine lv_iconst (v := zI (-1)) hx hb dX8_load_28 (by decide) ?_
      exact W.iret hx hb hr (fun tX htX hWX => ⟨_, rfl, by unfold loadF; rw [if_neg (by omega)], htX⟩) (fun _ h9 => by cases h9) dX8_load_29
    · have hq := hN.nw.le
      obtain ⟨w, rfl⟩ := Int.eq_ofNat_of_zero_le h5.1
      obtain ⟨d, rfl⟩ := Int.eq_ofNat_of_zero_le h12.1
      have hw : w < 4 := by omega
      have hd : d < 364 := by omega
      refine lv_aload_n hx hb dX8_load_15 rfl (lv_at hl 0 rfl) ?_
      refine va_get (D := g.1) (ci := 8) (v := .ref sa) (C := RX8) (T := TX8) (N := 7) hx hb hts hinX8 hown hK hP 0 rfl rfl 2 (by decide) k37 (fun _ h9 => h9) rfl dX8_load_16 ?_
      refine lv_iload_n hx hb dX8_load_19 rfl (lv_at hl 1 rfl) ?_
      refine z_aald hx hb hK hP 1 4 rfl rfl rfl (by decide) (w) (by omega) (by omega) rfl dX8_load_20 ?_
      refine lv_iload_n hx hb dX8_load_21 rfl (lv_at hl 2 rfl) ?_
      refine vp_callSi (va_Run.run (va_runV (As := [.int (zI ((d : Int)))]) (rest := []) ⟨hx, hb, hml, hown, hts⟩ (c_X3_windowLoad l g ((sh w)) (w) (N) (hN) (by omega) (d) (hd)) (cwV 1 hts gX8_load_X3_windowLoad rfl rfl rfl (by decide +kernel) ⟨Nat.le_of_ble_eq_true rfl, Nat.le_of_ble_eq_true rfl⟩) (g_preV (hSh w (by omega) (by omega)) hK (rdS_recv hK (hSh w (by omega) (by omega)))) rfl rfl hl.1 rfl (lv_room (Nat.le_of_ble_eq_true rfl)) dX8_load_22 ⟨Nat.le_of_ble_eq_true rfl, Nat.le_of_ble_eq_true rfl⟩)) (fun r hr9 => ?_)
      subst hr9
      refine lv_goto (tgt := 29) hx hb dX8_load_25 (by decide) ?_
      exact W.iret hx hb hr (fun tX htX hWX => ⟨_, rfl, by unfold loadF; rw [if_pos ⟨h5, h12⟩]; rfl, htX⟩) (fun _ h9 => by cases h9) dX8_load_29

set_option maxHeartbeats 4000000 in
set_option maxRecDepth 100000 in
theorem c_X8_planned (l : Launch) (g : GG) (ho : Nat) (N : Nat → Int32) (hN : okN N) (hc tz : Int32) (v x y : Int) (hv : R32 v) (hx0 : R32 x) (hy : R32 y) : Met l yX8_planned wsX8_planned ({ frames := 3, cells := 0, slots := 0, locals := 67 }) (gPc g [.ref ho, .int (zI (v)), .int (zI (x)), .int (zI (y))] (rdH g ho N hc tz)) (vp_Si (fun r : Int32 => r = plannedF N v x y)) 0 0 (fun _ => False) := by
  refine Met.ofW (cc := cX8_planned) (maxL := 4) (ret := (some .int)) (by decide) rfl ?_
  intro p e s m args below meth c s₁ B hml hv
  obtain ⟨rfl, hPre, hK⟩ := hv
  have hx := B.exec
  have hb := B.bytes
  have hr := B.returns
  have hts := atoms_spec (ws := wsX8_planned) B.pre
  have hown : s.vm.findClass RX8 = some m.cls := findClass_of_methodNamed B.named
  have hlocks := B.notSynchronized
  have hinX8 : ∀ w ∈ wsX80, w ∈ wsX8_planned := by decide +kernel
  have k37 := hts (.fieldLink RX8 37 "HoursBank" "sheets" "[LHoursBank$Sheet;") (by decide +kernel)
  have hl := lv_entry ([.ref ho, .int (zI (v)), .int (zI (x)), .int (zI (y))]) (n := 4) (Nat.le_of_ble_eq_true rfl)
  rw [lg_entry_eq]
  generalize (lg_sl ([.ref ho, .int (zI (v)), .int (zI (x)), .int (zI (y))]) ++ List.replicate (4 - (lg_sl ([.ref ho, .int (zI (v)), .int (zI (x)), .int (zI (y))])).length) Slot.unset).toArray = ls at hl ⊢
  have hl : lv_has ls 4 [(0, .ref ho), (1, .int (zI (v))), (2, .int (zI (x))), (3, .int (zI (y)))] := hl
  obtain ⟨tpa, rda, sa, hia, ru, dfa, sh, hst, hnx, bya, hP, hSh, hRu⟩ := id hPre
  refine lv_aload_n hx hb dX8_planned_0 rfl (lv_at hl 0 rfl) ?_
  refine lv_iload_n hx hb dX8_planned_1 rfl (lv_at hl 1 rfl) ?_
  refine vp_callSi (va_Run.run (va_runV (As := [.int (zI (v))]) (rest := []) ⟨hx, hb, hml, hown, hts⟩ (c_X8_isWorker l g (ho) (N) (hN) (hc) (tz) (v) (hv)) (cwV 1 hts gX8_planned_X8_isWorker rfl rfl rfl (by decide +kernel) ⟨Nat.le_of_ble_eq_true rfl, Nat.le_of_ble_eq_true rfl⟩) (g_preV hPre hK (va_recv hK hP (q0 := 0) (ci := 8) rfl rfl)) rfl rfl hl.1 rfl (lv_room (Nat.le_of_ble_eq_true rfl)) dX8_planned_2 ⟨Nat.le_of_ble_eq_true rfl, Nat.le_of_ble_eq_true rfl⟩)) (fun r hr9 => ?_)
  subst hr9
  refine z_bz_eq (tgt := 27) hx hb dX8_planned_5 (by decide) (fun h5 => ?_) (fun h5 => ?_)
  · refine lv_iconst (v := zI (-1)) hx hb dX8_planned_27 (by decide) ?_
    exact W.iret hx hb hr (fun tX htX hWX => ⟨_, rfl, by unfold plannedF; rw [if_neg (by omega)], htX⟩) (fun _ h9 => by cases h9) dX8_planned_28
  · refine lv_iload_n hx hb dX8_planned_8 rfl (lv_at hl 2 rfl) ?_
    refine vp_callSi (va_Run.run (va_runS (As := [.int (zI (x))]) (rest := []) ⟨hx, hb, hml, hown, hts⟩ (c_X8_isDay l (x) (hx0)) (va_cwS 1 hts gX8_planned_X8_isDay rfl rfl rfl (by decide +kernel) ⟨Nat.le_of_ble_eq_true rfl, Nat.le_of_ble_eq_true rfl⟩) g_preS0 rfl rfl hl.1 rfl (lv_room (Nat.le_of_ble_eq_true rfl)) dX8_planned_9 ⟨Nat.le_of_ble_eq_true rfl, Nat.le_of_ble_eq_true rfl⟩)) (fun r hr9 => ?_)
    subst hr9
    refine z_bz_eq (tgt := 27) hx hb dX8_planned_12 (by decide) (fun h12 => ?_) (fun h12 => ?_)
    · refine lv_iconst (v := zI (-1)) hx hb dX8_planned_27 (by decide) ?_
      exact W.iret hx hb hr (fun tX htX hWX => ⟨_, rfl, by unfold plannedF; rw [if_neg (by omega)], htX⟩) (fun _ h9 => by cases h9) dX8_planned_28
    · refine lv_iload_n hx hb dX8_planned_15 rfl (lv_at hl 3 rfl) ?_
      refine vp_callSi (va_Run.run (va_runS (As := [.int (zI (y))]) (rest := []) ⟨hx, hb, hml, hown, hts⟩ (c_X8_isDay l (y) (hy)) (va_cwS 1 hts gX8_planned_X8_isDay rfl rfl rfl (by decide +kernel) ⟨Nat.le_of_ble_eq_true rfl, Nat.le_of_ble_eq_true rfl⟩) g_preS0 rfl rfl hl.1 rfl (lv_room (Nat.le_of_ble_eq_true rfl)) dX8_planned_16 ⟨Nat.le_of_ble_eq_true rfl, Nat.le_of_ble_eq_true rfl⟩)) (fun r hr9 => ?_)
      subst hr9
      refine z_bz_eq (tgt := 27) hx hb dX8_planned_19 (by decide) (fun h19 => ?_) (fun h19 => ?_)
      · refine lv_iconst (v := zI (-1)) hx hb dX8_planned_27 (by decide) ?_
        exact W.iret hx hb hr (fun tX htX hWX => ⟨_, rfl, by unfold plannedF; rw [if_neg (by omega)], htX⟩) (fun _ h9 => by cases h9) dX8_planned_28
      · refine lv_iload_n hx hb dX8_planned_22 rfl (lv_at hl 2 rfl) ?_
        refine lv_iload_n hx hb dX8_planned_23 rfl (lv_at hl 3 rfl) ?_
        refine z_icmp_le (tgt := 29) hx hb dX8_planned_24 (by decide) (by omega) (by omega) (fun h24 => ?_) (fun h24 => ?_)
        · have hq := hN.nw.le
          obtain ⟨w, rfl⟩ := Int.eq_ofNat_of_zero_le h5.1
          obtain ⟨x, rfl⟩ := Int.eq_ofNat_of_zero_le h12.1
          obtain ⟨y, rfl⟩ := Int.eq_ofNat_of_zero_le h19.1
          have hw : w < 4 := by omega
          refine lv_aload_n hx hb dX8_planned_29 rfl (lv_at hl 0 rfl) ?_
          refine va_get (D := g.1) (ci := 8) (v := .ref sa) (C := RX8) (T := TX8) (N := 7) hx hb hts hinX8 hown hK hP 0 rfl rfl 2 (by decide) k37 (fun _ h9 => h9) rfl dX8_planned_30 ?_
          refine lv_iload_n hx hb dX8_planned_33 rfl (lv_at hl 1 rfl) ?_
          refine z_aald hx hb hK hP 1 4 rfl rfl rfl (by decide) (w) (by omega) (by omega) rfl dX8_planned_34 ?_
          refine lv_iload_n hx hb dX8_planned_35 rfl (lv_at hl 2 rfl) ?_
          refine lv_iload_n hx hb dX8_planned_36 rfl (lv_at hl 3 rfl) ?_
          refine vp_callSi (va_Run.run (va_runV (As := [.int (zI (x)), .int (zI (y))]) (rest := []) ⟨hx, hb, hml, hown, hts⟩ (c_X3_plansBetween l g ((sh w)) (w) (N) (hN) (by omega) (x) (y) (by omega) (by omega)) (cwV 2 hts gX8_planned_X3_plansBetween rfl rfl rfl (by decide +kernel) ⟨Nat.le_of_ble_eq_true rfl, Nat.le_of_ble_eq_true rfl⟩) (g_preV (hSh w (by omega) (by omega)) hK (rdS_recv hK (hSh w (by omega) (by omega)))) rfl rfl hl.1 rfl (lv_room (Nat.le_of_ble_eq_true rfl)) dX8_planned_37 ⟨Nat.le_of_ble_eq_true rfl, Nat.le_of_ble_eq_true rfl⟩)) (fun r hr9 => ?_)
          subst hr9
          exact W.iret hx hb hr (fun tX htX hWX => ⟨_, rfl, by unfold plannedF; rw [if_pos ⟨h5, h12, h19, h24⟩]; rfl, htX⟩) (fun _ h9 => by cases h9) dX8_planned_40
        · refine lv_iconst (v := zI (-1)) hx hb dX8_planned_27 (by decide) ?_
          exact W.iret hx hb hr (fun tX htX hWX => ⟨_, rfl, by unfold plannedF; rw [if_neg (by omega)], htX⟩) (fun _ h9 => by cases h9) dX8_planned_28

set_option maxHeartbeats 4000000 in
set_option maxRecDepth 100000 in
theorem c_X8_room (l : Launch) (g : GG) (ho : Nat) (N : Nat → Int32) (hN : okN N) (hc tz : Int32) (v : Int) (hv : R32 v) : Met l yX8_room wsX8_room ({ frames := 4, cells := 0, slots := 0, locals := 87 }) (gPc g [.ref ho, .int (zI (v))] (rdH g ho N hc tz)) (vp_Si (fun r : Int32 => r = roomF N v)) 0 0 (fun _ => False) := by
  refine Met.ofW (cc := cX8_room) (maxL := 3) (ret := (some .int)) (by decide) rfl ?_
  intro p e s m args below meth c s₁ B hml hv
  obtain ⟨rfl, hPre, hK⟩ := hv
  have hx := B.exec
  have hb := B.bytes
  have hr := B.returns
  have hts := atoms_spec (ws := wsX8_room) B.pre
  have hown : s.vm.findClass RX8 = some m.cls := findClass_of_methodNamed B.named
  have hlocks := B.notSynchronized
  have hinX8 : ∀ w ∈ wsX80, w ∈ wsX8_room := by decide +kernel
  have k51 := hts (.fieldLink RX8 51 "HoursBank" "today" "I") (by decide +kernel)
  have k28 := hts (.fieldLink RX8 28 "HoursBank" "rules" "LHoursBank$Rules;") (by decide +kernel)
  have k37 := hts (.fieldLink RX8 37 "HoursBank" "sheets" "[LHoursBank$Sheet;") (by decide +kernel)
  have k195 := hts (.methodLink RX8 195 Lib.Math.min.name) (by decide +kernel)
  have kSmin := hts (.static Lib.Math.min.name) (by decide +kernel)
  have kM := hts (.initialized "java/lang/Math") (by decide +kernel)
  have kCmin := hts (.code Lib.Math.min.name Lib.Math.min.code 2 (some .int)) (by decide +kernel)
  have hl := lv_entry ([.ref ho, .int (zI (v))]) (n := 3) (Nat.le_of_ble_eq_true rfl)
  rw [lg_entry_eq]
  generalize (lg_sl ([.ref ho, .int (zI (v))]) ++ List.replicate (3 - (lg_sl ([.ref ho, .int (zI (v))])).length) Slot.unset).toArray = ls at hl ⊢
  have hl : lv_has ls 3 [(0, .ref ho), (1, .int (zI (v)))] := hl
  obtain ⟨tpa, rda, sa, hia, ru, dfa, sh, hst, hnx, bya, hP, hSh, hRu⟩ := id hPre
  refine lv_aload_n hx hb dX8_room_0 rfl (lv_at hl 0 rfl) ?_
  refine lv_iload_n hx hb dX8_room_1 rfl (lv_at hl 1 rfl) ?_
  refine vp_callSi (va_Run.run (va_runV (As := [.int (zI (v))]) (rest := []) ⟨hx, hb, hml, hown, hts⟩ (c_X8_isPresent l g (ho) (N) (hN) (hc) (tz) (v) (hv)) (cwV 1 hts gX8_room_X8_isPresent rfl rfl rfl (by decide +kernel) ⟨Nat.le_of_ble_eq_true rfl, Nat.le_of_ble_eq_true rfl⟩) (g_preV hPre hK (va_recv hK hP (q0 := 0) (ci := 8) rfl rfl)) rfl rfl hl.1 rfl (lv_room (Nat.le_of_ble_eq_true rfl)) dX8_room_2 ⟨Nat.le_of_ble_eq_true rfl, Nat.le_of_ble_eq_true rfl⟩)) (fun r hr9 => ?_)
  subst hr9
  refine z_bz_eq (tgt := 18) hx hb dX8_room_5 (by decide) (fun h5 => ?_) (fun h5 => ?_)
  · refine lv_iconst (v := zI (-1)) hx hb dX8_room_18 (by decide) ?_
    exact W.iret hx hb hr (fun tX htX hWX => ⟨_, rfl, by unfold roomF; first | rw [if_neg (fun q9 => h5 q9.1)] | rw [if_neg (fun q9 => q9.2 (by omega))], htX⟩) (fun _ h9 => by cases h9) dX8_room_19
  · have hq := hN.nw.le
    obtain ⟨⟨hv0, hv1⟩, hgo⟩ := h5
    obtain ⟨w, rfl⟩ := Int.eq_ofNat_of_zero_le hv0
    have hw : w < 4 := by omega
    refine lv_aload_n hx hb dX8_room_8 rfl (lv_at hl 0 rfl) ?_
    refine va_get (D := g.1) (ci := 8) (v := .int (N 110)) (C := RX8) (T := TX8) (N := 7) hx hb hts hinX8 hown hK hP 0 rfl rfl 6 (by decide) k51 (fun _ h9 => h9) rfl dX8_room_9 ?_
    refine z_top (y := zI (mn N 110)) (hN.td.eq) ?_
    have hq1 := hN.td.le
    refine vp_callSi (va_Run.run (va_runS (As := [.int (zI (mn N 110))]) (rest := []) ⟨hx, hb, hml, hown, hts⟩ (c_X8_isDay l ((mn N 110 : Int)) (by omega)) (va_cwS 1 hts gX8_room_X8_isDay rfl rfl rfl (by decide +kernel) ⟨Nat.le_of_ble_eq_true rfl, Nat.le_of_ble_eq_true rfl⟩) g_preS0 rfl rfl hl.1 rfl (lv_room (Nat.le_of_ble_eq_true rfl)) dX8_room_12 ⟨Nat.le_of_ble_eq_true rfl, Nat.le_of_ble_eq_true rfl⟩)) (fun r hr9 => ?_)
    subst hr9
    refine z_bz_ne (tgt := 20) hx hb dX8_room_15 (by decide) (fun h15 => ?_) (fun h15 => ?_)
    · refine lv_aload_n hx hb dX8_room_20 rfl (lv_at hl 0 rfl) ?_
      refine va_get (D := g.1) (ci := 8) (v := .ref ru) (C := RX8) (T := TX8) (N := 7) hx hb hts hinX8 hown hK hP 0 rfl rfl 4 (by decide) k28 (fun _ h9 => h9) rfl dX8_room_21 ?_
      refine vp_callSi (va_Run.run (va_runV (As := []) (rest := []) ⟨hx, hb, hml, hown, hts⟩ (c_X2_limit l g (ru) (N) (hN)) (cwV 0 hts gX8_room_X2_limit rfl rfl rfl (by decide +kernel) ⟨Nat.le_of_ble_eq_true rfl, Nat.le_of_ble_eq_true rfl⟩) (g_preV hRu hK (rdR_recv hK hRu)) rfl rfl hl.1 rfl (lv_room (Nat.le_of_ble_eq_true rfl)) dX8_room_24 ⟨Nat.le_of_ble_eq_true rfl, Nat.le_of_ble_eq_true rfl⟩)) (fun r hr9 => ?_)
      subst hr9
      refine lv_aload_n hx hb dX8_room_27 rfl (lv_at hl 0 rfl) ?_
      refine va_get (D := g.1) (ci := 8) (v := .ref sa) (C := RX8) (T := TX8) (N := 7) hx hb hts hinX8 hown hK hP 0 rfl rfl 2 (by decide) k37 (fun _ h9 => h9) rfl dX8_room_28 ?_
      refine lv_iload_n hx hb dX8_room_31 rfl (lv_at hl 1 rfl) ?_
      refine z_aald hx hb hK hP 1 4 rfl rfl rfl (by decide) (w) (by omega) (by omega) rfl dX8_room_32 ?_
      refine lv_aload_n hx hb dX8_room_33 rfl (lv_at hl 0 rfl) ?_
      refine va_get (D := g.1) (ci := 8) (v := .int (N 110)) (C := RX8) (T := TX8) (N := 7) hx hb hts hinX8 hown hK hP 0 rfl rfl 6 (by decide) k51 (fun _ h9 => h9) rfl dX8_room_34 ?_
      refine z_top (y := zI (mn N 110)) (hN.td.eq) ?_
      refine vp_callSi (va_Run.run (va_runV (As := [.int (zI (mn N 110))]) (rest := [.int (zI (mn N 3))]) ⟨hx, hb, hml, hown, hts⟩ (c_X3_windowLoadAhead l g ((sh w)) (w) (N) (hN) (by omega) ((mn N 110)) (by omega)) (cwV 1 hts gX8_room_X3_windowLoadAhead rfl rfl rfl (by decide +kernel) ⟨Nat.le_of_ble_eq_true rfl, Nat.le_of_ble_eq_true rfl⟩) (g_preV (hSh w (by omega) (by omega)) hK (rdS_recv hK (hSh w (by omega) (by omega)))) rfl rfl hl.1 rfl (lv_room (Nat.le_of_ble_eq_true rfl)) dX8_room_37 ⟨Nat.le_of_ble_eq_true rfl, Nat.le_of_ble_eq_true rfl⟩)) (fun r hr9 => ?_)
      subst hr9
      have hq2 := hN.win.le
      have hq3 := hN.lim.le
      have hq4 : ldS N w ((mn N 110 : Int) - mn N 2 + 1) ((mn N 110 : Int) - 1) ≤ 1000000 := Nat.le_trans (sumN_le (B := 96) _ (fun i hi => load_le hN hw (by omega))) (by omega)
      refine z_isub hx hb dX8_room_40 ?_
      refine lv_istore_n (lv' := [(2, .int (zI ((mn N 3) - (ldS N w (((mn N 110) : Int) - mn N 2 + 1) (((mn N 110) : Int) - 1))))), (0, .ref ho), (1, .int (zI ((w : Int))))]) hx hb dX8_room_41 rfl hl (by decide) rfl (fun ls hl => ?_)
      refine lv_iload_n hx hb dX8_room_42 rfl (lv_at hl 0 rfl) ?_
      refine z_if_ge (tgt := 51) hx hb dX8_room_43 (by decide) (by omega) (fun h43 => ?_) (fun h43 => ?_)
      · refine lv_iload_n hx hb dX8_room_51 rfl (lv_at hl 0 rfl) ?_
        refine lv_bipush (v := zI (96)) hx hb dX8_room_52 (by decide) ?_
        refine z_mmin hx hb (hml.trans hl.1.symm) hown k195 kSmin kM kCmin (Nat.le_of_ble_eq_true rfl) (Nat.le_of_ble_eq_true rfl) (Nat.zero_le _) (Nat.zero_le _) (by omega) (by omega) dX8_room_54 ?_
        exact W.iret hx hb hr (fun tX htX hWX => ⟨_, rfl, by unfold roomF; rw [if_pos ⟨⟨⟨hv0, hv1⟩, hgo⟩, by omega⟩]; exact congrArg zI (by unfold rmI; simp only [Int.toNat_natCast]; (repeat' split) <;> omega), htX⟩) (fun _ h9 => by cases h9) dX8_room_57
      · refine lv_bipush (v := zI (-2)) hx hb dX8_room_46 (by decide) ?_
        refine lv_goto (tgt := 57) hx hb dX8_room_48 (by decide) ?_
        exact W.iret hx hb hr (fun tX htX hWX => ⟨_, rfl, by unfold roomF; rw [if_pos ⟨⟨⟨hv0, hv1⟩, hgo⟩, by omega⟩]; exact congrArg zI (by unfold rmI; simp only [Int.toNat_natCast]; (repeat' split) <;> omega), htX⟩) (fun _ h9 => by cases h9) dX8_room_57
    · refine lv_iconst (v := zI (-1)) hx hb dX8_room_18 (by decide) ?_
      exact W.iret hx hb hr (fun tX htX hWX => ⟨_, rfl, by unfold roomF; first | rw [if_neg (fun q9 => h5 q9.1)] | rw [if_neg (fun q9 => q9.2 (by omega))], htX⟩) (fun _ h9 => by cases h9) dX8_room_19

set_option maxHeartbeats 4000000 in
set_option maxRecDepth 100000 in
theorem c_X8_reaches (l : Launch) (g : GG) (ho : Nat) (N : Nat → Int32) (hN : okN N) (hc tz : Int32) (v x : Int) (hv : R32 v) (hx0 : R32 x) : Met l yX8_reaches wsX8_reaches ({ frames := 3, cells := 0, slots := 0, locals := 68 }) (gPc g [.ref ho, .int (zI (v)), .int (zI (x))] (rdH g ho N hc tz)) (vp_Si (fun r : Int32 => r = reachesF N v x)) 0 0 (fun _ => False) := by
  refine Met.ofW (cc := cX8_reaches) (maxL := 3) (ret := (some .int)) (by decide) rfl ?_
  intro p e s m args below meth c s₁ B hml hv
  obtain ⟨rfl, hPre, hK⟩ := hv
  have hx := B.exec
  have hb := B.bytes
  have hr := B.returns
  have hts := atoms_spec (ws := wsX8_reaches) B.pre
  have hown : s.vm.findClass RX8 = some m.cls := findClass_of_methodNamed B.named
  have hlocks := B.notSynchronized
  have hinX8 : ∀ w ∈ wsX80, w ∈ wsX8_reaches := by decide +kernel
  have k37 := hts (.fieldLink RX8 37 "HoursBank" "sheets" "[LHoursBank$Sheet;") (by decide +kernel)
  have k51 := hts (.fieldLink RX8 51 "HoursBank" "today" "I") (by decide +kernel)
  have hl := lv_entry ([.ref ho, .int (zI (v)), .int (zI (x))]) (n := 3) (Nat.le_of_ble_eq_true rfl)
  rw [lg_entry_eq]
  generalize (lg_sl ([.ref ho, .int (zI (v)), .int (zI (x))]) ++ List.replicate (3 - (lg_sl ([.ref ho, .int (zI (v)), .int (zI (x))])).length) Slot.unset).toArray = ls at hl ⊢
  have hl : lv_has ls 3 [(0, .ref ho), (1, .int (zI (v))), (2, .int (zI (x)))] := hl
  obtain ⟨tpa, rda, sa, hia, ru, dfa, sh, hst, hnx, bya, hP, hSh, hRu⟩ := id hPre
  refine lv_aload_n hx hb dX8_reaches_0 rfl (lv_at hl 0 rfl) ?_
  refine lv_iload_n hx hb dX8_reaches_1 rfl (lv_at hl 1 rfl) ?_
  refine vp_callSi (va_Run.run (va_runV (As := [.int (zI (v))]) (rest := []) ⟨hx, hb, hml, hown, hts⟩ (c_X8_isPresent l g (ho) (N) (hN) (hc) (tz) (v) (hv)) (cwV 1 hts gX8_reaches_X8_isPresent rfl rfl rfl (by decide +kernel) ⟨Nat.le_of_ble_eq_true rfl, Nat.le_of_ble_eq_true rfl⟩) (g_preV hPre hK (va_recv hK hP (q0 := 0) (ci := 8) rfl rfl)) rfl rfl hl.1 rfl (lv_room (Nat.le_of_ble_eq_true rfl)) dX8_reaches_2 ⟨Nat.le_of_ble_eq_true rfl, Nat.le_of_ble_eq_true rfl⟩)) (fun r hr9 => ?_)
  subst hr9
  refine z_bz_eq (tgt := 20) hx hb dX8_reaches_5 (by decide) (fun h5 => ?_) (fun h5 => ?_)
  · refine lv_iconst (v := zI (-1)) hx hb dX8_reaches_20 (by decide) ?_
    exact W.iret hx hb hr (fun tX htX hWX => ⟨_, rfl, by unfold reachesF; first | rw [if_neg (fun q9 => h5 q9.1)] | rw [if_neg (fun q9 => by omega)], htX⟩) (fun _ h9 => by cases h9) dX8_reaches_21
  · have hq := hN.nw.le
    obtain ⟨⟨hv0, hv1⟩, hgo⟩ := h5
    obtain ⟨w, rfl⟩ := Int.eq_ofNat_of_zero_le hv0
    have hw : w < 4 := by omega
    refine lv_iload_n hx hb dX8_reaches_8 rfl (lv_at hl 2 rfl) ?_
    refine lv_bipush (v := zI (-96)) hx hb dX8_reaches_9 (by decide) ?_
    refine z_icmp_lt (tgt := 20) hx hb dX8_reaches_11 (by decide) (by omega) (by omega) (fun h11 => ?_) (fun h11 => ?_)
    · refine lv_iconst (v := zI (-1)) hx hb dX8_reaches_20 (by decide) ?_
      exact W.iret hx hb hr (fun tX htX hWX => ⟨_, rfl, by unfold reachesF; first | rw [if_neg (fun q9 => h5 q9.1)] | rw [if_neg (fun q9 => by omega)], htX⟩) (fun _ h9 => by cases h9) dX8_reaches_21
    · refine lv_iload_n hx hb dX8_reaches_14 rfl (lv_at hl 2 rfl) ?_
      refine lv_bipush (v := zI (96)) hx hb dX8_reaches_15 (by decide) ?_
      refine z_icmp_le (tgt := 22) hx hb dX8_reaches_17 (by decide) (by omega) (by omega) (fun h17 => ?_) (fun h17 => ?_)
      · refine lv_aload_n hx hb dX8_reaches_22 rfl (lv_at hl 0 rfl) ?_
        refine va_get (D := g.1) (ci := 8) (v := .ref sa) (C := RX8) (T := TX8) (N := 7) hx hb hts hinX8 hown hK hP 0 rfl rfl 2 (by decide) k37 (fun _ h9 => h9) rfl dX8_reaches_23 ?_
        refine lv_iload_n hx hb dX8_reaches_26 rfl (lv_at hl 1 rfl) ?_
        refine z_aald hx hb hK hP 1 4 rfl rfl rfl (by decide) (w) (by omega) (by omega) rfl dX8_reaches_27 ?_
        refine lv_aload_n hx hb dX8_reaches_28 rfl (lv_at hl 0 rfl) ?_
        refine va_get (D := g.1) (ci := 8) (v := .int (N 110)) (C := RX8) (T := TX8) (N := 7) hx hb hts hinX8 hown hK hP 0 rfl rfl 6 (by decide) k51 (fun _ h9 => h9) rfl dX8_reaches_29 ?_
        refine z_top (y := zI (mn N 110)) (hN.td.eq) ?_
        refine lv_iload_n hx hb dX8_reaches_32 rfl (lv_at hl 2 rfl) ?_
        refine vp_callSi (va_Run.run (va_runV (As := [.int (zI (mn N 110)), .int (zI (x))]) (rest := []) ⟨hx, hb, hml, hown, hts⟩ (c_X3_firstDayOutOfBounds l g ((sh w)) (w) (N) (hN) (by omega) (x) (by omega)) (cwV 2 hts gX8_reaches_X3_firstDayOutOfBounds rfl rfl rfl (by decide +kernel) ⟨Nat.le_of_ble_eq_true rfl, Nat.le_of_ble_eq_true rfl⟩) (g_preV (hSh w (by omega) (by omega)) hK (rdS_recv hK (hSh w (by omega) (by omega)))) rfl rfl hl.1 rfl (lv_room (Nat.le_of_ble_eq_true rfl)) dX8_reaches_33 ⟨Nat.le_of_ble_eq_true rfl, Nat.le_of_ble_eq_true rfl⟩)) (fun r hr9 => ?_)
        subst hr9
        exact W.iret hx hb hr (fun tX htX hWX => ⟨_, rfl, by unfold reachesF; rw [if_pos ⟨⟨⟨hv0, hv1⟩, hgo⟩, by omega⟩]; rfl, htX⟩) (fun _ h9 => by cases h9) dX8_reaches_36
      · refine lv_iconst (v := zI (-1)) hx hb dX8_reaches_20 (by decide) ?_
        exact W.iret hx hb hr (fun tX htX hWX => ⟨_, rfl, by unfold reachesF; first | rw [if_neg (fun q9 => h5 q9.1)] | rw [if_neg (fun q9 => by omega)], htX⟩) (fun _ h9 => by cases h9) dX8_reaches_21

set_option maxHeartbeats 4000000 in
set_option maxRecDepth 100000 in
theorem c_X8_cost (l : Launch) (g : GG) (ho : Nat) (N : Nat → Int32) (hN : okN N) (hc tz : Int32) (v dd qq : Int) (hv : R32 v) (hdd : R32 dd) (hqq : R32 qq) : Met l yX8_cost wsX8_cost ({ frames := 5, cells := 0, slots := 0, locals := 107 }) (gPc g [.ref ho, .int (zI (v)), .int (zI (dd)), .int (zI (qq))] (rdH g ho N hc tz)) (vp_Si (fun r : Int32 => r = costF N v dd qq)) 0 0 (fun _ => False) := by
  refine Met.ofW (cc := cX8_cost) (maxL := 4) (ret := (some .int)) (by decide) rfl ?_
  intro p e s m args below meth c s₁ B hml hv
  obtain ⟨rfl, hPre, hK⟩ := hv
  have hx := B.exec
  have hb := B.bytes
  have hr := B.returns
  have hts := atoms_spec (ws := wsX8_cost) B.pre
  have hown : s.vm.findClass RX8 = some m.cls := findClass_of_methodNamed B.named
  have hlocks := B.notSynchronized
  have hl := lv_entry ([.ref ho, .int (zI (v)), .int (zI (dd)), .int (zI (qq))]) (n := 4) (Nat.le_of_ble_eq_true rfl)
  rw [lg_entry_eq]
  generalize (lg_sl ([.ref ho, .int (zI (v)), .int (zI (dd)), .int (zI (qq))]) ++ List.replicate (4 - (lg_sl ([.ref ho, .int (zI (v)), .int (zI (dd)), .int (zI (qq))])).length) Slot.unset).toArray = ls at hl ⊢
  have hl : lv_has ls 4 [(0, .ref ho), (1, .int (zI (v))), (2, .int (zI (dd))), (3, .int (zI (qq)))] := hl
  obtain ⟨tpa, rda, sa, hia, ru, dfa, sh, hst, hnx, bya, hP, hSh, hRu⟩ := id hPre
  refine lv_aload_n hx hb dX8_cost_0 rfl (lv_at hl 0 rfl) ?_
  refine lv_iload_n hx hb dX8_cost_1 rfl (lv_at hl 1 rfl) ?_
  refine lv_iload_n hx hb dX8_cost_2 rfl (lv_at hl 2 rfl) ?_
  refine lv_iload_n hx hb dX8_cost_3 rfl (lv_at hl 3 rfl) ?_
  refine vp_callSi (va_Run.run (va_runV (As := [.int (zI (v)), .int (zI (dd)), .int (zI (qq))]) (rest := []) ⟨hx, hb, hml, hown, hts⟩ (c_X8_canChange l g (ho) (N) (hN) (hc) (tz) (v) (dd) (qq) (hv) (hdd) (hqq)) (cwV 3 hts gX8_cost_X8_canChange rfl rfl rfl (by decide +kernel) ⟨Nat.le_of_ble_eq_true rfl, Nat.le_of_ble_eq_true rfl⟩) (g_preV hPre hK (va_recv hK hP (q0 := 0) (ci := 8) rfl rfl)) rfl rfl hl.1 rfl (lv_room (Nat.le_of_ble_eq_true rfl)) dX8_cost_4 ⟨Nat.le_of_ble_eq_true rfl, Nat.le_of_ble_eq_true rfl⟩)) (fun r hr9 => ?_)
  subst hr9
  refine z_bz_eq (tgt := 20) hx hb dX8_cost_7 (by decide) (fun h7 => ?_) (fun h7 => ?_)
  · refine lv_iconst (v := zI (-1)) hx hb dX8_cost_20 (by decide) ?_
    exact W.iret hx hb hr (fun tX htX hWX => ⟨_, rfl, by unfold costF; rw [if_neg h7], htX⟩) (fun _ h9 => by cases h9) dX8_cost_21
  · have hq := hN.nw.le
    obtain ⟨w, rfl⟩ := Int.eq_ofNat_of_zero_le h7.1.1.1
    obtain ⟨d, rfl⟩ := Int.eq_ofNat_of_zero_le (show 0 ≤ dd by omega)
    obtain ⟨q, rfl⟩ := Int.eq_ofNat_of_zero_le h7.2.2.1.1
    refine lv_aload_n hx hb dX8_cost_10 rfl (lv_at hl 0 rfl) ?_
    refine lv_iload_n hx hb dX8_cost_11 rfl (lv_at hl 1 rfl) ?_
    refine lv_iload_n hx hb dX8_cost_12 rfl (lv_at hl 2 rfl) ?_
    refine lv_iload_n hx hb dX8_cost_13 rfl (lv_at hl 3 rfl) ?_
    refine vp_callSi (va_Run.run (va_runV (As := [.int (zI ((w : Int))), .int (zI ((d : Int))), .int (zI ((q : Int)))]) (rest := []) ⟨hx, hb, hml, hown, hts⟩ (c_X8_priceOf l g (ho) (N) (hN) (hc) (tz) (w) (d) (q) (by omega) (by omega) (by omega) (by omega)) (cwV 3 hts gX8_cost_X8_priceOf rfl rfl rfl (by decide +kernel) ⟨Nat.le_of_ble_eq_true rfl, Nat.le_of_ble_eq_true rfl⟩) (g_preV hPre hK (va_recv hK hP (q0 := 0) (ci := 8) rfl rfl)) rfl rfl hl.1 rfl (lv_room (Nat.le_of_ble_eq_true rfl)) dX8_cost_14 ⟨Nat.le_of_ble_eq_true rfl, Nat.le_of_ble_eq_true rfl⟩)) (fun r hr9 => ?_)
    subst hr9
    refine lv_goto (tgt := 21) hx hb dX8_cost_17 (by decide) ?_
    exact W.iret hx hb hr (fun tX htX hWX => ⟨_, rfl, by unfold costF; rw [if_pos h7]; rfl, htX⟩) (fun _ h9 => by cases h9) dX8_cost_21
