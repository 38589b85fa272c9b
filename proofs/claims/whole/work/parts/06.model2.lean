set_option maxHeartbeats 4000000 in
set_option maxRecDepth 100000 in
theorem c_X9_plannedOf (l : Launch) (g : GG) (b n : Nat) (N : Nat → Int32) (hN : okN N) (w d : Nat) (hw : w < 4) (hd : d < 364) : Met l yX9_plannedOf wsX9_plannedOf ({ frames := 2, cells := 0, slots := 0, locals := 44 }) (gPc g [.ref b, .int (zI (w)), .int (zI (d))] (rdN g b n N)) (vp_Si (fun r : Int32 => r = zI (plan N w d))) 0 0 (fun _ => False) := by
  refine Met.ofW (cc := cX9_plannedOf) (maxL := 5) (ret := (some .int)) (by decide) rfl ?_
  intro p e s m args below meth c s₁ B hml hv
  obtain ⟨rfl, hPre, hK⟩ := hv
  have hx := B.exec
  have hb := B.bytes
  have hr := B.returns
  have hts := atoms_spec (ws := wsX9_plannedOf) B.pre
  have hown : s.vm.findClass RX9 = some m.cls := findClass_of_methodNamed B.named
  have hlocks := B.notSynchronized
  have hinX9 : ∀ w ∈ wsX90, w ∈ wsX9_plannedOf := by decide +kernel
  have k70 := hts (.fieldLink RX9 70 "HoursBankModel" "now" "[I") (by decide +kernel)
  have hl := lv_entry ([.ref b, .int (zI (w)), .int (zI (d))]) (n := 5) (Nat.le_of_ble_eq_true rfl)
  rw [lg_entry_eq]
  generalize (lg_sl ([.ref b, .int (zI (w)), .int (zI (d))]) ++ List.replicate (5 - (lg_sl ([.ref b, .int (zI (w)), .int (zI (d))])).length) Slot.unset).toArray = ls at hl ⊢
  have hl : lv_has ls 5 [(0, .ref b), (1, .int (zI (w))), (2, .int (zI (d)))] := hl
  obtain ⟨fs, hP, hf⟩ := id hPre
  refine lv_aload_n hx hb dX9_plannedOf_0 rfl (lv_at hl 0 rfl) ?_
  refine lv_iload_n hx hb dX9_plannedOf_1 rfl (lv_at hl 1 rfl) ?_
  refine lv_iload_n hx hb dX9_plannedOf_2 rfl (lv_at hl 2 rfl) ?_
  refine vp_callSi (va_Run.run (va_runV (As := [.int (zI (w)), .int (zI (d))]) (rest := []) ⟨hx, hb, hml, hown, hts⟩ (c_X9_changedOf l g (b) (n) (N) (hN) (w) (d) (hw) (hd)) (cwV 2 hts gX9_plannedOf_X9_changedOf rfl rfl rfl (by decide +kernel) ⟨Nat.le_of_ble_eq_true rfl, Nat.le_of_ble_eq_true rfl⟩) (g_preV hPre hK (va_recv hK hP (q0 := 0) (ci := 9) rfl rfl)) rfl rfl hl.1 rfl (lv_room (Nat.le_of_ble_eq_true rfl)) dX9_plannedOf_3 ⟨Nat.le_of_ble_eq_true rfl, Nat.le_of_ble_eq_true rfl⟩)) (fun r hr9 => ?_)
  subst hr9
  refine lv_iconst (v := zI (-1)) hx hb dX9_plannedOf_6 (by decide) ?_
  have hq := hN.chg hw hd
  refine z_icmp_eq (tgt := 17) hx hb dX9_plannedOf_7 (by decide) (by omega) (by omega) (fun h7 => ?_) (fun h7 => ?_)
  · refine lv_aload_n hx hb dX9_plannedOf_17 rfl (lv_at hl 0 rfl) ?_
    refine va_get (D := g.1) (ci := 9) (v := .ref n) (C := RX9) (T := TX9) (N := 15) hx hb hts hinX9 hown hK hP 0 rfl rfl 11 (by decide) k70 (fun _ h9 => h9) hf dX9_plannedOf_18 ?_
    refine lv_iconst (v := zI (4)) hx hb dX9_plannedOf_21 (by decide) ?_
    refine z_iald hx hb hK hP 1 0 rfl rfl (by decide) (4) (by omega) (by omega) dX9_plannedOf_22 ?_
    refine z_top (y := zI (mn N 4)) (hN.ns.eq) ?_
    refine lv_iconst (v := zI (1)) hx hb dX9_plannedOf_23 (by decide) ?_
    refine z_isub hx hb dX9_plannedOf_24 ?_
    refine lv_istore_n (lv' := [(3, .int (zI ((mn N 4) - 1))), (0, .ref b), (1, .int (zI (w))), (2, .int (zI (d)))]) hx hb dX9_plannedOf_25 rfl hl (by decide) rfl (fun ls hl => ?_)
    have loop26 : ∀ (K9 : Nat) (k : Nat) (hK9 : k < K9) (hk : k ≤ 5) (hinv : seaP N d (mn N 4) = seaP N d k) (ls : Array Slot) (hl : lv_has ls 5 [(3, .int (zI (k - 1))), (0, .ref b), (1, .int (zI (w))), (2, .int (zI (d)))]), W p l e (headSpec wsX9_plannedOf ({ frames := 2, cells := 0, slots := 0, locals := 44 })).room s m ([.ref b, .int (zI (w)), .int (zI (d))] : List Value).toArray below meth c s.heap [] 0 0 (MQ below (vp_Si (fun r : Int32 => r = zI (plan N w d))) ([.ref b, .int (zI (w)), .int (zI (d))] : List Value).toArray s 0 0 (fun _ => False)) (F0 m 26 ls []) := by
      intro K9
      induction K9 with
      | zero => intro k hK9; exact absurd hK9 (Nat.not_lt_zero _)
      | succ K9 ih =>
        intro k hK9 hk hinv ls hl
        refine lv_iload_n hx hb dX9_plannedOf_26 rfl (lv_at hl 0 rfl) ?_
        refine z_if_lt (tgt := 82) hx hb dX9_plannedOf_27 (by decide) (by omega) (fun h27 => ?_) (fun h27 => ?_)
        · refine lv_iconst (v := zI (0)) hx hb dX9_plannedOf_82 (by decide) ?_
          exact W.iret hx hb hr (fun tX htX hWX => ⟨_, rfl, congrArg zI (by unfold plan; rw [if_pos (by omega), hinv, show k = 0 by omega]; rfl), htX⟩) (fun _ h9 => by cases h9) dX9_plannedOf_83
        · obtain ⟨j, rfl⟩ : ∃ j, k = j + 1 := ⟨k - 1, by omega⟩
          refine lv_iconst (v := zI (5)) hx hb dX9_plannedOf_30 (by decide) ?_
          refine lv_bipush (v := zI (9)) hx hb dX9_plannedOf_31 (by decide) ?_
          refine lv_iload_n hx hb dX9_plannedOf_33 rfl (lv_at hl 0 rfl) ?_
          refine z_imul hx hb dX9_plannedOf_34 ?_
          refine z_iadd hx hb dX9_plannedOf_35 ?_
          refine lv_istore (lv' := [(4, .int (zI (5 + (9 * (((j + 1 : Nat) : Int) - 1))))), (3, .int (zI (((j + 1 : Nat) : Int) - 1))), (0, .ref b), (1, .int (zI (w))), (2, .int (zI (d)))]) hx hb dX9_plannedOf_36 hl (by decide) rfl (fun ls hl => ?_)
          refine lv_iload_n hx hb dX9_plannedOf_38 rfl (lv_at hl 4 rfl) ?_
          refine lv_aload_n hx hb dX9_plannedOf_39 rfl (lv_at hl 2 rfl) ?_
          refine va_get (D := g.1) (ci := 9) (v := .ref n) (C := RX9) (T := TX9) (N := 15) hx hb hts hinX9 hown hK hP 0 rfl rfl 11 (by decide) k70 (fun _ h9 => h9) hf dX9_plannedOf_40 ?_
          refine lv_iload hx hb dX9_plannedOf_43 (lv_at hl 0 rfl) ?_
          refine z_iald hx hb hK hP 1 0 rfl rfl (by decide) (5 + 9 * j) (by omega) (by omega) dX9_plannedOf_45 ?_
          refine z_top (y := zI (mn N (5 + 9 * j))) ((hN.s0 (by omega)).eq) ?_
          refine lv_aload_n hx hb dX9_plannedOf_46 rfl (lv_at hl 2 rfl) ?_
          refine va_get (D := g.1) (ci := 9) (v := .ref n) (C := RX9) (T := TX9) (N := 15) hx hb hts hinX9 hown hK hP 0 rfl rfl 11 (by decide) k70 (fun _ h9 => h9) hf dX9_plannedOf_47 ?_
          refine lv_iload hx hb dX9_plannedOf_50 (lv_at hl 0 rfl) ?_
          refine lv_iconst (v := zI (1)) hx hb dX9_plannedOf_52 (by decide) ?_
          refine z_iadd hx hb dX9_plannedOf_53 ?_
          refine z_iald hx hb hK hP 1 0 rfl rfl (by decide) (6 + 9 * j) (by omega) (by omega) dX9_plannedOf_54 ?_
          refine z_top (y := zI (mn N (6 + 9 * j))) ((hN.s1 (by omega)).eq) ?_
          have q0 := (hN.s0 (i := j) (by omega)).le
          have q1 := (hN.s1 (i := j) (by omega)).le
          refine vp_callSi (va_Run.run (va_runS (As := [.int (zI (d)), .int (zI (mn N (5 + 9 * j))), .int (zI (mn N (6 + 9 * j)))]) (rest := []) ⟨hx, hb, hml, hown, hts⟩ (c_X9_isIn l (d) (mn N (5 + 9 * j)) (mn N (6 + 9 * j)) (by omega) (by omega) (by omega)) (va_cwS 3 hts gX9_plannedOf_X9_isIn rfl rfl rfl (by decide +kernel) ⟨Nat.le_of_ble_eq_true rfl, Nat.le_of_ble_eq_true rfl⟩) g_preS0 rfl rfl hl.1 rfl (lv_room (Nat.le_of_ble_eq_true rfl)) dX9_plannedOf_55 ⟨Nat.le_of_ble_eq_true rfl, Nat.le_of_ble_eq_true rfl⟩)) (fun r hr9 => ?_)
          subst hr9
          refine z_bz_eq (tgt := 76) hx hb dX9_plannedOf_58 (by decide) (fun h58 => ?_) (fun h58 => ?_)
          · refine z_iinc (lv' := [(3, .int (zI ((((j + 1 : Nat) : Int) - 1) + (-1)))), (4, .int (zI (5 + (9 * (((j + 1 : Nat) : Int) - 1))))), (0, .ref b), (1, .int (zI (w))), (2, .int (zI (d)))]) hx hb dX9_plannedOf_76 hl (k := 1) rfl (by decide) rfl (fun ls hl => ?_)
            refine lv_goto (tgt := 26) hx hb dX9_plannedOf_79 (by decide) ?_
            have hl := lv_sub (l' := [(3, .int (zI ((((j + 1 : Nat) : Int) - 1) + (-1)))), (0, .ref b), (1, .int (zI (w))), (2, .int (zI (d)))]) hl [0, 2, 3, 4] rfl
            have hl : lv_has ls 5 [(3, .int (zI (j - 1))), (0, .ref b), (1, .int (zI (w))), (2, .int (zI (d)))] := lv_cg (lvE (congrArg zI (by omega)) (lvR (lvR (lvR (rfl))))) hl
            exact ih (j) (by omega) (by omega) (hinv.trans (by rw [seaP, if_neg (by omega)])) ls hl
          · refine lv_aload_n hx hb dX9_plannedOf_61 rfl (lv_at hl 2 rfl) ?_
            refine va_get (D := g.1) (ci := 9) (v := .ref n) (C := RX9) (T := TX9) (N := 15) hx hb hts hinX9 hown hK hP 0 rfl rfl 11 (by decide) k70 (fun _ h9 => h9) hf dX9_plannedOf_62 ?_
            refine lv_iload hx hb dX9_plannedOf_65 (lv_at hl 0 rfl) ?_
            refine lv_iconst (v := zI (2)) hx hb dX9_plannedOf_67 (by decide) ?_
            refine z_iadd hx hb dX9_plannedOf_68 ?_
            refine lv_iload_n hx hb dX9_plannedOf_69 rfl (lv_at hl 4 rfl) ?_
            refine lv_bipush (v := zI (7)) hx hb dX9_plannedOf_70 (by decide) ?_
            refine z_irem hx hb dX9_plannedOf_72 (by omega) (by omega) ?_
            refine z_iadd hx hb dX9_plannedOf_73 ?_
            refine z_iald hx hb hK hP 1 0 rfl rfl (by decide) (7 + 9 * j + d % 7) (by omega) (by omega) dX9_plannedOf_74 ?_
            refine z_top (y := zI (mn N (7 + 9 * j + d % 7))) ((hN.sq (by omega) (Nat.mod_lt d (by omega))).eq) ?_
            exact W.iret hx hb hr (fun tX htX hWX => ⟨_, rfl, zN_cg (by unfold plan; rw [if_pos (by omega), hinv, seaP, if_pos (by omega)]), htX⟩) (fun _ h9 => by cases h9) dX9_plannedOf_75
    have hl := lv_sub (l' := [(3, .int (zI ((mn N 4) - 1))), (0, .ref b), (1, .int (zI (w))), (2, .int (zI (d)))]) hl [0, 1, 2, 3] rfl
    -- same
    exact loop26 _ (mn N 4) (Nat.lt_succ_self _) (hN.ns.le) (rfl) ls hl
  · refine lv_aload_n hx hb dX9_plannedOf_10 rfl (lv_at hl 0 rfl) ?_
    refine lv_iload_n hx hb dX9_plannedOf_11 rfl (lv_at hl 1 rfl) ?_
    refine lv_iload_n hx hb dX9_plannedOf_12 rfl (lv_at hl 2 rfl) ?_
    refine vp_callSi (va_Run.run (va_runV (As := [.int (zI (w)), .int (zI (d))]) (rest := []) ⟨hx, hb, hml, hown, hts⟩ (c_X9_changedOf l g (b) (n) (N) (hN) (w) (d) (hw) (hd)) (cwV 2 hts gX9_plannedOf_X9_changedOf rfl rfl rfl (by decide +kernel) ⟨Nat.le_of_ble_eq_true rfl, Nat.le_of_ble_eq_true rfl⟩) (g_preV hPre hK (va_recv hK hP (q0 := 0) (ci := 9) rfl rfl)) rfl rfl hl.1 rfl (lv_room (Nat.le_of_ble_eq_true rfl)) dX9_plannedOf_13 ⟨Nat.le_of_ble_eq_true rfl, Nat.le_of_ble_eq_true rfl⟩)) (fun r hr9 => ?_)
    subst hr9
    exact W.iret hx hb hr (fun tX htX hWX => ⟨_, rfl, congrArg zI (by unfold plan; rw [if_neg (by omega)]; omega), htX⟩) (fun _ h9 => by cases h9) dX9_plannedOf_16

set_option maxHeartbeats 4000000 in
set_option maxRecDepth 100000 in
theorem c_X9_loadOf (l : Launch) (g : GG) (b n : Nat) (N : Nat → Int32) (hN : okN N) (w d : Nat) (hw : w < 4) (hd : d < 364) : Met l yX9_loadOf wsX9_loadOf ({ frames := 3, cells := 0, slots := 0, locals := 68 }) (gPc g [.ref b, .int (zI (w)), .int (zI (d))] (rdN g b n N)) (vp_Si (fun r : Int32 => r = zI (load N w d))) 0 0 (fun _ => False) := by
  refine Met.ofW (cc := cX9_loadOf) (maxL := 4) (ret := (some .int)) (by decide) rfl ?_
  intro p e s m args below meth c s₁ B hml hv
  obtain ⟨rfl, hPre, hK⟩ := hv
  have hx := B.exec
  have hb := B.bytes
  have hr := B.returns
  have hts := atoms_spec (ws := wsX9_loadOf) B.pre
  have hown : s.vm.findClass RX9 = some m.cls := findClass_of_methodNamed B.named
  have hlocks := B.notSynchronized
  have hl := lv_entry ([.ref b, .int (zI (w)), .int (zI (d))]) (n := 4) (Nat.le_of_ble_eq_true rfl)
  rw [lg_entry_eq]
  generalize (lg_sl ([.ref b, .int (zI (w)), .int (zI (d))]) ++ List.replicate (4 - (lg_sl ([.ref b, .int (zI (w)), .int (zI (d))])).length) Slot.unset).toArray = ls at hl ⊢
  have hl : lv_has ls 4 [(0, .ref b), (1, .int (zI (w))), (2, .int (zI (d)))] := hl
  obtain ⟨fs, hP, hf⟩ := id hPre
  refine lv_aload_n hx hb dX9_loadOf_0 rfl (lv_at hl 0 rfl) ?_
  refine lv_iload_n hx hb dX9_loadOf_1 rfl (lv_at hl 1 rfl) ?_
  refine lv_iload_n hx hb dX9_loadOf_2 rfl (lv_at hl 2 rfl) ?_
  refine vp_callSi (va_Run.run (va_runV (As := [.int (zI (w)), .int (zI (d))]) (rest := []) ⟨hx, hb, hml, hown, hts⟩ (c_X9_kindOf l g (b) (n) (N) (hN) (w) (d) (hw) (hd)) (cwV 2 hts gX9_loadOf_X9_kindOf rfl rfl rfl (by decide +kernel) ⟨Nat.le_of_ble_eq_true rfl, Nat.le_of_ble_eq_true rfl⟩) (g_preV hPre hK (va_recv hK hP (q0 := 0) (ci := 9) rfl rfl)) rfl rfl hl.1 rfl (lv_room (Nat.le_of_ble_eq_true rfl)) dX9_loadOf_3 ⟨Nat.le_of_ble_eq_true rfl, Nat.le_of_ble_eq_true rfl⟩)) (fun r hr9 => ?_)
  subst hr9
  refine lv_istore_n (lv' := [(3, .int (zI (knd N w d))), (0, .ref b), (1, .int (zI (w))), (2, .int (zI (d)))]) hx hb dX9_loadOf_6 rfl hl (by decide) rfl (fun ls hl => ?_)
  refine lv_iload_n hx hb dX9_loadOf_7 rfl (lv_at hl 0 rfl) ?_
  have hq := hN.knd hw hd
  refine z_if_ne (tgt := 20) hx hb dX9_loadOf_8 (by decide) (by omega) (fun h8 => ?_) (fun h8 => ?_)
  · refine lv_iload_n hx hb dX9_loadOf_20 rfl (lv_at hl 0 rfl) ?_
    refine lv_iconst (v := zI (1)) hx hb dX9_loadOf_21 (by decide) ?_
    refine z_icmp_ne (tgt := 34) hx hb dX9_loadOf_22 (by decide) (by omega) (by omega) (fun h22 => ?_) (fun h22 => ?_)
    · refine lv_iconst (v := zI (0)) hx hb dX9_loadOf_34 (by decide) ?_
      exact W.iret hx hb hr (fun tX htX hWX => ⟨_, rfl, congrArg zI (by unfold load; (repeat' split) <;> omega), htX⟩) (fun _ h9 => by cases h9) dX9_loadOf_35
    · refine lv_aload_n hx hb dX9_loadOf_25 rfl (lv_at hl 1 rfl) ?_
      refine lv_iload_n hx hb dX9_loadOf_26 rfl (lv_at hl 2 rfl) ?_
      refine lv_iload_n hx hb dX9_loadOf_27 rfl (lv_at hl 3 rfl) ?_
      refine vp_callSi (va_Run.run (va_runV (As := [.int (zI (w)), .int (zI (d))]) (rest := []) ⟨hx, hb, hml, hown, hts⟩ (c_X9_plannedOf l g (b) (n) (N) (hN) (w) (d) (hw) (hd)) (cwV 2 hts gX9_loadOf_X9_plannedOf rfl rfl rfl (by decide +kernel) ⟨Nat.le_of_ble_eq_true rfl, Nat.le_of_ble_eq_true rfl⟩) (g_preV hPre hK (va_recv hK hP (q0 := 0) (ci := 9) rfl rfl)) rfl rfl hl.1 rfl (lv_room (Nat.le_of_ble_eq_true rfl)) dX9_loadOf_28 ⟨Nat.le_of_ble_eq_true rfl, Nat.le_of_ble_eq_true rfl⟩)) (fun r hr9 => ?_)
      subst hr9
      refine lv_goto (tgt := 35) hx hb dX9_loadOf_31 (by decide) ?_
      exact W.iret hx hb hr (fun tX htX hWX => ⟨_, rfl, congrArg zI (by unfold load; (repeat' split) <;> omega), htX⟩) (fun _ h9 => by cases h9) dX9_loadOf_35
  · refine lv_aload_n hx hb dX9_loadOf_11 rfl (lv_at hl 1 rfl) ?_
    refine lv_iload_n hx hb dX9_loadOf_12 rfl (lv_at hl 2 rfl) ?_
    refine lv_iload_n hx hb dX9_loadOf_13 rfl (lv_at hl 3 rfl) ?_
    refine vp_callSi (va_Run.run (va_runV (As := [.int (zI (w)), .int (zI (d))]) (rest := []) ⟨hx, hb, hml, hown, hts⟩ (c_X9_workedOf l g (b) (n) (N) (hN) (w) (d) (hw) (hd)) (cwV 2 hts gX9_loadOf_X9_workedOf rfl rfl rfl (by decide +kernel) ⟨Nat.le_of_ble_eq_true rfl, Nat.le_of_ble_eq_true rfl⟩) (g_preV hPre hK (va_recv hK hP (q0 := 0) (ci := 9) rfl rfl)) rfl rfl hl.1 rfl (lv_room (Nat.le_of_ble_eq_true rfl)) dX9_loadOf_14 ⟨Nat.le_of_ble_eq_true rfl, Nat.le_of_ble_eq_true rfl⟩)) (fun r hr9 => ?_)
    subst hr9
    refine lv_goto (tgt := 35) hx hb dX9_loadOf_17 (by decide) ?_
    exact W.iret hx hb hr (fun tX htX hWX => ⟨_, rfl, congrArg zI (by unfold load; (repeat' split) <;> omega), htX⟩) (fun _ h9 => by cases h9) dX9_loadOf_35

set_option maxHeartbeats 4000000 in
set_option maxRecDepth 100000 in
theorem c_X9_loads (l : Launch) (g : GG) (b n : Nat) (N : Nat → Int32) (hN : okN N) (w : Nat) (fr to : Int) (hw : w < 4) (hfr : -1000 ≤ fr ∧ fr ≤ 1000) (hto : -1 ≤ to ∧ to < 364) : Met l yX9_loads wsX9_loads ({ frames := 4, cells := 0, slots := 0, locals := 91 }) (gPc g [.ref b, .int (zI (w)), .int (zI (fr)), .int (zI (to))] (rdN g b n N)) (vp_Si (fun r : Int32 => r = zI (ldS N w fr to))) 0 0 (fun _ => False) := by
  refine Met.ofW (cc := cX9_loads) (maxL := 6) (ret := (some .int)) (by decide) rfl ?_
  intro p e s m args below meth c s₁ B hml hv
  obtain ⟨rfl, hPre, hK⟩ := hv
  have hx := B.exec
  have hb := B.bytes
  have hr := B.returns
  have hts := atoms_spec (ws := wsX9_loads) B.pre
  have hown : s.vm.findClass RX9 = some m.cls := findClass_of_methodNamed B.named
  have hlocks := B.notSynchronized
  have hl := lv_entry ([.ref b, .int (zI (w)), .int (zI (fr)), .int (zI (to))]) (n := 6) (Nat.le_of_ble_eq_true rfl)
  rw [lg_entry_eq]
  generalize (lg_sl ([.ref b, .int (zI (w)), .int (zI (fr)), .int (zI (to))]) ++ List.replicate (6 - (lg_sl ([.ref b, .int (zI (w)), .int (zI (fr)), .int (zI (to))])).length) Slot.unset).toArray = ls at hl ⊢
  have hl : lv_has ls 6 [(0, .ref b), (1, .int (zI (w))), (2, .int (zI (fr))), (3, .int (zI (to)))] := hl
  obtain ⟨fs, hP, hf⟩ := id hPre
  refine lv_iconst (v := zI (0)) hx hb dX9_loads_0 (by decide) ?_
  refine lv_istore (lv' := [(4, .int (zI (0))), (0, .ref b), (1, .int (zI (w))), (2, .int (zI (fr))), (3, .int (zI (to)))]) hx hb dX9_loads_1 hl (by decide) rfl (fun ls hl => ?_)
  refine lv_iload_n hx hb dX9_loads_3 rfl (lv_at hl 3 rfl) ?_
  refine z_if_ge (tgt := 11) hx hb dX9_loads_4 (by decide) (by omega) (fun h4 => ?_) (fun h4 => ?_)
  · refine lv_iload_n hx hb dX9_loads_11 rfl (lv_at hl 3 rfl) ?_
    refine lv_istore (lv' := [(5, .int (zI (fr))), (4, .int (zI (0))), (0, .ref b), (1, .int (zI (w))), (2, .int (zI (fr))), (3, .int (zI (to)))]) hx hb dX9_loads_12 hl (by decide) rfl (fun ls hl => ?_)
    have loop14 : ∀ (K9 : Nat) (i : Nat) (hK9 : ((to + 1).toNat - fr.toNat) - i < K9) (hi : i ≤ (to + 1).toNat - fr.toNat) (ls : Array Slot) (hl : lv_has ls 6 [(5, .int (zI (((fr.toNat + i : Nat) : Int)))), (4, .int (zI (sumN (load N w) fr.toNat i))), (0, .ref b), (1, .int (zI (w))), (2, .int (zI (fr))), (3, .int (zI (to)))]), W p l e (headSpec wsX9_loads ({ frames := 4, cells := 0, slots := 0, locals := 91 })).room s m ([.ref b, .int (zI (w)), .int (zI (fr)), .int (zI (to))] : List Value).toArray below meth c s.heap [] 0 0 (MQ below (vp_Si (fun r : Int32 => r = zI (ldS N w fr to))) ([.ref b, .int (zI (w)), .int (zI (fr)), .int (zI (to))] : List Value).toArray s 0 0 (fun _ => False)) (F0 m 14 ls []) := by
      intro K9
      induction K9 with
      | zero => intro i hK9; exact absurd hK9 (Nat.not_lt_zero _)
      | succ K9 ih =>
        intro i hK9 hi ls hl
        refine lv_iload hx hb dX9_loads_14 (lv_at hl 0 rfl) ?_
        refine lv_iload_n hx hb dX9_loads_16 rfl (lv_at hl 5 rfl) ?_
        refine z_icmp_gt (tgt := 38) hx hb dX9_loads_17 (by decide) (by omega) (by omega) (fun h17 => ?_) (fun h17 => ?_)
        · refine lv_iload hx hb dX9_loads_38 (lv_at hl 1 rfl) ?_
          exact W.iret hx hb hr (fun tX htX hWX => ⟨_, rfl, zN_cg (by unfold ldS; rw [show i = (to + 1).toNat - fr.toNat by omega]), htX⟩) (fun _ h9 => by cases h9) dX9_loads_40
        · refine lv_iload hx hb dX9_loads_20 (lv_at hl 1 rfl) ?_
          refine lv_aload_n hx hb dX9_loads_22 rfl (lv_at hl 2 rfl) ?_
          refine lv_iload_n hx hb dX9_loads_23 rfl (lv_at hl 3 rfl) ?_
          refine lv_iload hx hb dX9_loads_24 (lv_at hl 0 rfl) ?_
          refine vp_callSi (va_Run.run (va_runV (As := [.int (zI (w)), .int (zI (((fr.toNat + i : Nat) : Int)))]) (rest := [.int (zI (sumN (load N w) fr.toNat i))]) ⟨hx, hb, hml, hown, hts⟩ (c_X9_loadOf l g (b) (n) (N) (hN) (w) ((fr.toNat + i)) (hw) (by omega)) (cwV 2 hts gX9_loads_X9_loadOf rfl rfl rfl (by decide +kernel) ⟨Nat.le_of_ble_eq_true rfl, Nat.le_of_ble_eq_true rfl⟩) (g_preV hPre hK (va_recv hK hP (q0 := 0) (ci := 9) rfl rfl)) rfl rfl hl.1 rfl (lv_room (Nat.le_of_ble_eq_true rfl)) dX9_loads_26 ⟨Nat.le_of_ble_eq_true rfl, Nat.le_of_ble_eq_true rfl⟩)) (fun r hr9 => ?_)
          subst hr9
          refine z_iadd hx hb dX9_loads_29 ?_
          refine lv_istore (lv' := [(4, .int (zI ((sumN (load N w) fr.toNat i) + (load N w (fr.toNat + i))))), (5, .int (zI (((fr.toNat + i : Nat) : Int)))), (0, .ref b), (1, .int (zI (w))), (2, .int (zI (fr))), (3, .int (zI (to)))]) hx hb dX9_loads_30 hl (by decide) rfl (fun ls hl => ?_)
          refine z_iinc (lv' := [(5, .int (zI (((fr.toNat + i : Nat) : Int) + 1))), (4, .int (zI ((sumN (load N w) fr.toNat i) + (load N w (fr.toNat + i))))), (0, .ref b), (1, .int (zI (w))), (2, .int (zI (fr))), (3, .int (zI (to)))]) hx hb dX9_loads_32 hl (k := 1) rfl (by decide) rfl (fun ls hl => ?_)
          refine lv_goto (tgt := 14) hx hb dX9_loads_35 (by decide) ?_
          have hl := lv_sub (l' := [(5, .int (zI (((fr.toNat + i : Nat) : Int) + 1))), (4, .int (zI ((sumN (load N w) fr.toNat i) + (load N w (fr.toNat + i))))), (0, .ref b), (1, .int (zI (w))), (2, .int (zI (fr))), (3, .int (zI (to)))]) hl [0, 1, 2, 3, 4, 5] rfl
          have hl : lv_has ls 6 [(5, .int (zI (((fr.toNat + (i + 1) : Nat) : Int)))), (4, .int (zI (sumN (load N w) fr.toNat (i + 1)))), (0, .ref b), (1, .int (zI (w))), (2, .int (zI (fr))), (3, .int (zI (to)))] := lv_cg (lvE (congrArg zI (by omega)) (lvE (congrArg zI (by rw [sumN_s]; omega)) (lvR (lvR (lvR (lvR (rfl))))))) hl
          exact ih (i + 1) (by omega) (by omega) ls hl
    have hl := lv_sub (l' := [(5, .int (zI (fr))), (4, .int (zI (0))), (0, .ref b), (1, .int (zI (w))), (2, .int (zI (fr))), (3, .int (zI (to)))]) hl [0, 1, 2, 3, 4, 5] rfl
    have hl : lv_has ls 6 [(5, .int (zI (((fr.toNat + 0 : Nat) : Int)))), (4, .int (zI (sumN (load N w) fr.toNat 0))), (0, .ref b), (1, .int (zI (w))), (2, .int (zI (fr))), (3, .int (zI (to)))] := lv_cg (lvE (congrArg zI (by omega)) (lvE (congrArg zI (rfl)) (lvR (lvR (lvR (lvR (rfl))))))) hl
    exact loop14 _ (0) (Nat.lt_succ_self _) (Nat.zero_le _) ls hl
  · refine lv_iconst (v := zI (0)) hx hb dX9_loads_7 (by decide) ?_
    refine lv_goto (tgt := 12) hx hb dX9_loads_8 (by decide) ?_
    refine lv_istore (lv' := [(5, .int (zI (0))), (4, .int (zI (0))), (0, .ref b), (1, .int (zI (w))), (2, .int (zI (fr))), (3, .int (zI (to)))]) hx hb dX9_loads_12 hl (by decide) rfl (fun ls hl => ?_)
    have loop14 : ∀ (K9 : Nat) (i : Nat) (hK9 : ((to + 1).toNat - fr.toNat) - i < K9) (hi : i ≤ (to + 1).toNat - fr.toNat) (ls : Array Slot) (hl : lv_has ls 6 [(5, .int (zI (((fr.toNat + i : Nat) : Int)))), (4, .int (zI (sumN (load N w) fr.toNat i))), (0, .ref b), (1, .int (zI (w))), (2, .int (zI (fr))), (3, .int (zI (to)))]), W p l e (headSpec wsX9_loads ({ frames := 4, cells := 0, slots := 0, locals := 91 })).room s m ([.ref b, .int (zI (w)), .int (zI (fr)), .int (zI (to))] : List Value).toArray below meth c s.heap [] 0 0 (MQ below (vp_Si (fun r : Int32 => r = zI (ldS N w fr to))) ([.ref b, .int (zI (w)), .int (zI (fr)), .int (zI (to))] : List Value).toArray s 0 0 (fun _ => False)) (F0 m 14 ls []) := by
      intro K9
      induction K9 with
      | zero => intro i hK9; exact absurd hK9 (Nat.not_lt_zero _)
      | succ K9 ih =>
        intro i hK9 hi ls hl
        refine lv_iload hx hb dX9_loads_14 (lv_at hl 0 rfl) ?_
        refine lv_iload_n hx hb dX9_loads_16 rfl (lv_at hl 5 rfl) ?_
        refine z_icmp_gt (tgt := 38) hx hb dX9_loads_17 (by decide) (by omega) (by omega) (fun h17 => ?_) (fun h17 => ?_)
        · refine lv_iload hx hb dX9_loads_38 (lv_at hl 1 rfl) ?_
          exact W.iret hx hb hr (fun tX htX hWX => ⟨_, rfl, zN_cg (by unfold ldS; rw [show i = (to + 1).toNat - fr.toNat by omega]), htX⟩) (fun _ h9 => by cases h9) dX9_loads_40
        · refine lv_iload hx hb dX9_loads_20 (lv_at hl 1 rfl) ?_
          refine lv_aload_n hx hb dX9_loads_22 rfl (lv_at hl 2 rfl) ?_
          refine lv_iload_n hx hb dX9_loads_23 rfl (lv_at hl 3 rfl) ?_
          refine lv_iload hx hb dX9_loads_24 (lv_at hl 0 rfl) ?_
          refine vp_callSi (va_Run.run (va_runV (As := [.int (zI (w)), .int (zI (((fr.toNat + i : Nat) : Int)))]) (rest := [.int (zI (sumN (load N w) fr.toNat i))]) ⟨hx, hb, hml, hown, hts⟩ (c_X9_loadOf l g (b) (n) (N) (hN) (w) ((fr.toNat + i)) (hw) (by omega)) (cwV 2 hts gX9_loads_X9_loadOf rfl rfl rfl (by decide +kernel) ⟨Nat.le_of_ble_eq_true rfl, Nat.le_of_ble_eq_true rfl⟩) (g_preV hPre hK (va_recv hK hP (q0 := 0) (ci := 9) rfl rfl)) rfl rfl hl.1 rfl (lv_room (Nat.le_of_ble_eq_true rfl)) dX9_loads_26 ⟨Nat.le_of_ble_eq_true rfl, Nat.le_of_ble_eq_true rfl⟩)) (fun r hr9 => ?_)
          subst hr9
          refine z_iadd hx hb dX9_loads_29 ?_
          refine lv_istore (lv' := [(4, .int (zI ((sumN (load N w) fr.toNat i) + (load N w (fr.toNat + i))))), (5, .int (zI (((fr.toNat + i : Nat) : Int)))), (0, .ref b), (1, .int (zI (w))), (2, .int (zI (fr))), (3, .int (zI (to)))]) hx hb dX9_loads_30 hl (by decide) rfl (fun ls hl => ?_)
          refine z_iinc (lv' := [(5, .int (zI (((fr.toNat + i : Nat) : Int) + 1))), (4, .int (zI ((sumN (load N w) fr.toNat i) + (load N w (fr.toNat + i))))), (0, .ref b), (1, .int (zI (w))), (2, .int (zI (fr))), (3, .int (zI (to)))]) hx hb dX9_loads_32 hl (k := 1) rfl (by decide) rfl (fun ls hl => ?_)
          refine lv_goto (tgt := 14) hx hb dX9_loads_35 (by decide) ?_
          have hl := lv_sub (l' := [(5, .int (zI (((fr.toNat + i : Nat) : Int) + 1))), (4, .int (zI ((sumN (load N w) fr.toNat i) + (load N w (fr.toNat + i))))), (0, .ref b), (1, .int (zI (w))), (2, .int (zI (fr))), (3, .int (zI (to)))]) hl [0, 1, 2, 3, 4, 5] rfl
          have hl : lv_has ls 6 [(5, .int (zI (((fr.toNat + (i + 1) : Nat) : Int)))), (4, .int (zI (sumN (load N w) fr.toNat (i + 1)))), (0, .ref b), (1, .int (zI (w))), (2, .int (zI (fr))), (3, .int (zI (to)))] := lv_cg (lvE (congrArg zI (by omega)) (lvE (congrArg zI (by rw [sumN_s]; omega)) (lvR (lvR (lvR (lvR (rfl))))))) hl
          exact ih (i + 1) (by omega) (by omega) ls hl
    have hl := lv_sub (l' := [(5, .int (zI (0))), (4, .int (zI (0))), (0, .ref b), (1, .int (zI (w))), (2, .int (zI (fr))), (3, .int (zI (to)))]) hl [0, 1, 2, 3, 4, 5] rfl
    have hl : lv_has ls 6 [(5, .int (zI (((fr.toNat + 0 : Nat) : Int)))), (4, .int (zI (sumN (load N w) fr.toNat 0))), (0, .ref b), (1, .int (zI (w))), (2, .int (zI (fr))), (3, .int (zI (to)))] := lv_cg (lvE (congrArg zI (by omega)) (lvE (congrArg zI (rfl)) (lvR (lvR (lvR (lvR (rfl))))))) hl
    exact loop14 _ (0) (Nat.lt_succ_self _) (Nat.zero_le _) ls hl

set_option maxHeartbeats 4000000 in
set_option maxRecDepth 100000 in
theorem c_X9_onLeave (l : Launch) (g : GG) (b n : Nat) (N : Nat → Int32) (hN : okN N) (w a z : Nat) (hw : w < 4) (haz : a ≤ z) (hz : z ≤ 364) : Met l yX9_onLeave wsX9_onLeave ({ frames := 3, cells := 0, slots := 0, locals := 68 }) (gPc g [.ref b, .int (zI (w)), .int (zI (a)), .int (zI (z))] (rdN g b n N)) (vp_Si (fun r : Int32 => r = zI (lvS N w a (z - a)))) 0 0 (fun _ => False) := by
  refine Met.ofW (cc := cX9_onLeave) (maxL := 6) (ret := (some .int)) (by decide) rfl ?_
  intro p e s m args below meth c s₁ B hml hv
  obtain ⟨rfl, hPre, hK⟩ := hv
  have hx := B.exec
  have hb := B.bytes
  have hr := B.returns
  have hts := atoms_spec (ws := wsX9_onLeave) B.pre
  have hown : s.vm.findClass RX9 = some m.cls := findClass_of_methodNamed B.named
  have hlocks := B.notSynchronized
  have hl := lv_entry ([.ref b, .int (zI (w)), .int (zI (a)), .int (zI (z))]) (n := 6) (Nat.le_of_ble_eq_true rfl)
  rw [lg_entry_eq]
  generalize (lg_sl ([.ref b, .int (zI (w)), .int (zI (a)), .int (zI (z))]) ++ List.replicate (6 - (lg_sl ([.ref b, .int (zI (w)), .int (zI (a)), .int (zI (z))])).length) Slot.unset).toArray = ls at hl ⊢
  have hl : lv_has ls 6 [(0, .ref b), (1, .int (zI (w))), (2, .int (zI (a))), (3, .int (zI (z)))] := hl
  obtain ⟨fs, hP, hf⟩ := id hPre
  refine lv_iconst (v := zI (0)) hx hb dX9_onLeave_0 (by decide) ?_
  refine lv_istore (lv' := [(4, .int (zI (0))), (0, .ref b), (1, .int (zI (w))), (2, .int (zI (a))), (3, .int (zI (z)))]) hx hb dX9_onLeave_1 hl (by decide) rfl (fun ls hl => ?_)
  refine lv_iload_n hx hb dX9_onLeave_3 rfl (lv_at hl 3 rfl) ?_
  refine lv_istore (lv' := [(5, .int (zI (a))), (4, .int (zI (0))), (0, .ref b), (1, .int (zI (w))), (2, .int (zI (a))), (3, .int (zI (z)))]) hx hb dX9_onLeave_4 hl (by decide) rfl (fun ls hl => ?_)
  have loop6 : ∀ (K9 : Nat) (i : Nat) (hK9 : (z - a) - i < K9) (hi : i ≤ z - a) (ls : Array Slot) (hl : lv_has ls 6 [(5, .int (zI (((a + i : Nat) : Int)))), (4, .int (zI (sumN (lvd N w) a i))), (0, .ref b), (1, .int (zI (w))), (2, .int (zI (a))), (3, .int (zI (z)))]), W p l e (headSpec wsX9_onLeave ({ frames := 3, cells := 0, slots := 0, locals := 68 })).room s m ([.ref b, .int (zI (w)), .int (zI (a)), .int (zI (z))] : List Value).toArray below meth c s.heap [] 0 0 (MQ below (vp_Si (fun r : Int32 => r = zI (lvS N w a (z - a)))) ([.ref b, .int (zI (w)), .int (zI (a)), .int (zI (z))] : List Value).toArray s 0 0 (fun _ => False)) (F0 m 6 ls []) := by
    intro K9
    induction K9 with
    | zero => intro i hK9; exact absurd hK9 (Nat.not_lt_zero _)
    | succ K9 ih =>
      intro i hK9 hi ls hl
      refine lv_iload hx hb dX9_onLeave_6 (lv_at hl 0 rfl) ?_
      refine lv_iload_n hx hb dX9_onLeave_8 rfl (lv_at hl 5 rfl) ?_
      refine z_icmp_ge (tgt := 41) hx hb dX9_onLeave_9 (by decide) (by omega) (by omega) (fun h9 => ?_) (fun h9 => ?_)
      · refine lv_iload hx hb dX9_onLeave_41 (lv_at hl 1 rfl) ?_
        exact W.iret hx hb hr (fun tX htX hWX => ⟨_, rfl, zN_cg (by unfold lvS; rw [show i = z - a by omega]), htX⟩) (fun _ h9 => by cases h9) dX9_onLeave_43
      · refine lv_aload_n hx hb dX9_onLeave_12 rfl (lv_at hl 2 rfl) ?_
        refine lv_iload_n hx hb dX9_onLeave_13 rfl (lv_at hl 3 rfl) ?_
        refine lv_iload hx hb dX9_onLeave_14 (lv_at hl 0 rfl) ?_
        refine vp_callSi (va_Run.run (va_runV (As := [.int (zI (w)), .int (zI (((a + i : Nat) : Int)))]) (rest := []) ⟨hx, hb, hml, hown, hts⟩ (c_X9_kindOf l g (b) (n) (N) (hN) (w) ((a + i)) (hw) (by omega)) (cwV 2 hts gX9_onLeave_X9_kindOf rfl rfl rfl (by decide +kernel) ⟨Nat.le_of_ble_eq_true rfl, Nat.le_of_ble_eq_true rfl⟩) (g_preV hPre hK (va_recv hK hP (q0 := 0) (ci := 9) rfl rfl)) rfl rfl hl.1 rfl (lv_room (Nat.le_of_ble_eq_true rfl)) dX9_onLeave_16 ⟨Nat.le_of_ble_eq_true rfl, Nat.le_of_ble_eq_true rfl⟩)) (fun r hr9 => ?_)
        subst hr9
        refine lv_iconst (v := zI (2)) hx hb dX9_onLeave_19 (by decide) ?_
        have hq := hN.knd hw (d := a + i) (by omega)
        refine z_icmp_ne (tgt := 35) hx hb dX9_onLeave_20 (by decide) (by omega) (by omega) (fun h20 => ?_) (fun h20 => ?_)
        · refine z_iinc (lv' := [(5, .int (zI (((a + i : Nat) : Int) + 1))), (4, .int (zI (sumN (lvd N w) a i))), (0, .ref b), (1, .int (zI (w))), (2, .int (zI (a))), (3, .int (zI (z)))]) hx hb dX9_onLeave_35 hl (k := 0) rfl (by decide) rfl (fun ls hl => ?_)
          refine lv_goto (tgt := 6) hx hb dX9_onLeave_38 (by decide) ?_
          have hl := lv_sub (l' := [(5, .int (zI (((a + i : Nat) : Int) + 1))), (4, .int (zI (sumN (lvd N w) a i))), (0, .ref b), (1, .int (zI (w))), (2, .int (zI (a))), (3, .int (zI (z)))]) hl [0, 1, 2, 3, 4, 5] rfl
          have hl : lv_has ls 6 [(5, .int (zI (((a + (i + 1) : Nat) : Int)))), (4, .int (zI (sumN (lvd N w) a (i + 1)))), (0, .ref b), (1, .int (zI (w))), (2, .int (zI (a))), (3, .int (zI (z)))] := lv_cg (lvE (congrArg zI (by omega)) (lvE (congrArg zI (by first | (rw [sumN_s, show lvd N w (a + i) = 0 from if_neg (by omega)]; omega) | (rw [sumN_s, show lvd N w (a + i) = plan N w (a + i) from if_pos (by omega)]; omega))) (lvR (lvR (lvR (lvR (rfl))))))) hl
          exact ih (i + 1) (by omega) (by omega) ls hl
        · refine lv_iload hx hb dX9_onLeave_23 (lv_at hl 1 rfl) ?_
          refine lv_aload_n hx hb dX9_onLeave_25 rfl (lv_at hl 2 rfl) ?_
          refine lv_iload_n hx hb dX9_onLeave_26 rfl (lv_at hl 3 rfl) ?_
          refine lv_iload hx hb dX9_onLeave_27 (lv_at hl 0 rfl) ?_
          refine vp_callSi (va_Run.run (va_runV (As := [.int (zI (w)), .int (zI (((a + i : Nat) : Int)))]) (rest := [.int (zI (sumN (lvd N w) a i))]) ⟨hx, hb, hml, hown, hts⟩ (c_X9_plannedOf l g (b) (n) (N) (hN) (w) ((a + i)) (hw) (by omega)) (cwV 2 hts gX9_onLeave_X9_plannedOf rfl rfl rfl (by decide +kernel) ⟨Nat.le_of_ble_eq_true rfl, Nat.le_of_ble_eq_true rfl⟩) (g_preV hPre hK (va_recv hK hP (q0 := 0) (ci := 9) rfl rfl)) rfl rfl hl.1 rfl (lv_room (Nat.le_of_ble_eq_true rfl)) dX9_onLeave_29 ⟨Nat.le_of_ble_eq_true rfl, Nat.le_of_ble_eq_true rfl⟩)) (fun r hr9 => ?_)
          subst hr9
          refine z_iadd hx hb dX9_onLeave_32 ?_
          refine lv_istore (lv' := [(4, .int (zI ((sumN (lvd N w) a i) + (plan N w (a + i))))), (5, .int (zI (((a + i : Nat) : Int)))), (0, .ref b), (1, .int (zI (w))), (2, .int (zI (a))), (3, .int (zI (z)))]) hx hb dX9_onLeave_33 hl (by decide) rfl (fun ls hl => ?_)
          refine z_iinc (lv' := [(5, .int (zI (((a + i : Nat) : Int) + 1))), (4, .int (zI ((sumN (lvd N w) a i) + (plan N w (a + i))))), (0, .ref b), (1, .int (zI (w))), (2, .int (zI (a))), (3, .int (zI (z)))]) hx hb dX9_onLeave_35 hl (k := 1) rfl (by decide) rfl (fun ls hl => ?_)
          refine lv_goto (tgt := 6) hx hb dX9_onLeave_38 (by decide) ?_
          have hl := lv_sub (l' := [(5, .int (zI (((a + i : Nat) : Int) + 1))), (4, .int (zI ((sumN (lvd N w) a i) + (plan N w (a + i))))), (0, .ref b), (1, .int (zI (w))), (2, .int (zI (a))), (3, .int (zI (z)))]) hl [0, 1, 2, 3, 4, 5] rfl
          have hl : lv_has ls 6 [(5, .int (zI (((a + (i + 1) : Nat) : Int)))), (4, .int (zI (sumN (lvd N w) a (i + 1)))), (0, .ref b), (1, .int (zI (w))), (2, .int (zI (a))), (3, .int (zI (z)))] := lv_cg (lvE (congrArg zI (by omega)) (lvE (congrArg zI (by first | (rw [sumN_s, show lvd N w (a + i) = 0 from if_neg (by omega)]; omega) | (rw [sumN_s, show lvd N w (a + i) = plan N w (a + i) from if_pos (by omega)]; omega))) (lvR (lvR (lvR (lvR (rfl))))))) hl
          exact ih (i + 1) (by omega) (by omega) ls hl
  have hl := lv_sub (l' := [(5, .int (zI (a))), (4, .int (zI (0))), (0, .ref b), (1, .int (zI (w))), (2, .int (zI (a))), (3, .int (zI (z)))]) hl [0, 1, 2, 3, 4, 5] rfl
  have hl : lv_has ls 6 [(5, .int (zI (((a + 0 : Nat) : Int)))), (4, .int (zI (sumN (lvd N w) a 0))), (0, .ref b), (1, .int (zI (w))), (2, .int (zI (a))), (3, .int (zI (z)))] := lv_cg (lvE (congrArg zI (by omega)) (lvE (congrArg zI (rfl)) (lvR (lvR (lvR (lvR (rfl))))))) hl
  exact loop6 _ (0) (Nat.lt_succ_self _) (Nat.zero_le _) ls hl

set_option maxHeartbeats 4000000 in
set_option maxRecDepth 100000 in
theorem c_X9_leftOf (l : Launch) (g : GG) (b n : Nat) (N : Nat → Int32) (hN : okN N) (w : Nat) (hw : w < 4) : Met l yX9_leftOf wsX9_leftOf ({ frames := 4, cells := 0, slots := 0, locals := 93 }) (gPc g [.ref b, .int (zI (w))] (rdN g b n N)) (vp_Si (fun r : Int32 => r = zI (lft N w))) 0 0 (fun _ => False) := by
  refine Met.ofW (cc := cX9_leftOf) (maxL := 2) (ret := (some .int)) (by decide) rfl ?_
  intro p e s m args below meth c s₁ B hml hv
  obtain ⟨rfl, hPre, hK⟩ := hv
  have hx := B.exec
  have hb := B.bytes
  have hr := B.returns
  have hts := atoms_spec (ws := wsX9_leftOf) B.pre
  have hown : s.vm.findClass RX9 = some m.cls := findClass_of_methodNamed B.named
  have hlocks := B.notSynchronized
  have hl := lv_entry ([.ref b, .int (zI (w))]) (n := 2) (Nat.le_of_ble_eq_true rfl)
  rw [lg_entry_eq]
  generalize (lg_sl ([.ref b, .int (zI (w))]) ++ List.replicate (2 - (lg_sl ([.ref b, .int (zI (w))])).length) Slot.unset).toArray = ls at hl ⊢
  have hl : lv_has ls 2 [(0, .ref b), (1, .int (zI (w)))] := hl
  obtain ⟨fs, hP, hf⟩ := id hPre
  refine lv_aload_n hx hb dX9_leftOf_0 rfl (lv_at hl 0 rfl) ?_
  refine lv_iload_n hx hb dX9_leftOf_1 rfl (lv_at hl 1 rfl) ?_
  refine lv_bipush (v := zI (9)) hx hb dX9_leftOf_2 (by decide) ?_
  refine vp_callSi (va_Run.run (va_runV (As := [.int (zI (w)), .int (zI (9))]) (rest := []) ⟨hx, hb, hml, hown, hts⟩ (c_X9_its l g (b) (n) (N) (w) (9) (hw) (by omega)) (cwV 2 hts gX9_leftOf_X9_its rfl rfl rfl (by decide +kernel) ⟨Nat.le_of_ble_eq_true rfl, Nat.le_of_ble_eq_true rfl⟩) (g_preV hPre hK (va_recv hK hP (q0 := 0) (ci := 9) rfl rfl)) rfl rfl hl.1 rfl (lv_room (Nat.le_of_ble_eq_true rfl)) dX9_leftOf_4 ⟨Nat.le_of_ble_eq_true rfl, Nat.le_of_ble_eq_true rfl⟩)) (fun r hr9 => ?_)
  subst hr9
  refine z_top (y := zI (goneN N w)) ((show N (58 + 13 * w + 9) = N (67 + 13 * w) from congrArg N (by omega)).trans (hN.gone (by omega)).eq) ?_
  refine lv_iconst (v := zI (1)) hx hb dX9_leftOf_7 (by decide) ?_
  refine z_icmp_ne (tgt := 15) hx hb dX9_leftOf_8 (by decide) (by have := (hN.gone (w := w) (by omega)).le; first | omega | (unfold goneN; omega)) (by have := (hN.gone (w := w) (by omega)).le; first | omega | (unfold goneN; omega)) (fun h8 => ?_) (fun h8 => ?_)
  · refine lv_aload_n hx hb dX9_leftOf_15 rfl (lv_at hl 0 rfl) ?_
    refine lv_iload_n hx hb dX9_leftOf_16 rfl (lv_at hl 1 rfl) ?_
    refine lv_iconst (v := zI (1)) hx hb dX9_leftOf_17 (by decide) ?_
    refine vp_callSi (va_Run.run (va_runV (As := [.int (zI (w)), .int (zI (1))]) (rest := []) ⟨hx, hb, hml, hown, hts⟩ (c_X9_its l g (b) (n) (N) (w) (1) (hw) (by omega)) (cwV 2 hts gX9_leftOf_X9_its rfl rfl rfl (by decide +kernel) ⟨Nat.le_of_ble_eq_true rfl, Nat.le_of_ble_eq_true rfl⟩) (g_preV hPre hK (va_recv hK hP (q0 := 0) (ci := 9) rfl rfl)) rfl rfl hl.1 rfl (lv_room (Nat.le_of_ble_eq_true rfl)) dX9_leftOf_18 ⟨Nat.le_of_ble_eq_true rfl, Nat.le_of_ble_eq_true rfl⟩)) (fun r hr9 => ?_)
    subst hr9
    refine z_top (y := zI (mn N (59 + 13 * w))) ((show N (58 + 13 * w + 1) = N (59 + 13 * w) from congrArg N (by omega)).trans (hN.leave (by omega)).eq) ?_
    refine lv_aload_n hx hb dX9_leftOf_21 rfl (lv_at hl 0 rfl) ?_
    refine lv_iload_n hx hb dX9_leftOf_22 rfl (lv_at hl 1 rfl) ?_
    refine lv_iconst (v := zI (0)) hx hb dX9_leftOf_23 (by decide) ?_
    refine lv_sipush (v := zI (364)) hx hb dX9_leftOf_24 (by decide) ?_
    refine vp_callSi (va_Run.run (va_runV (As := [.int (zI (w)), .int (zI (0)), .int (zI (364))]) (rest := [.int (zI (mn N (59 + 13 * w)))]) ⟨hx, hb, hml, hown, hts⟩ (c_X9_onLeave l g (b) (n) (N) (hN) (w) (0) (364) (hw) (by omega) (by omega)) (cwV 3 hts gX9_leftOf_X9_onLeave rfl rfl rfl (by decide +kernel) ⟨Nat.le_of_ble_eq_true rfl, Nat.le_of_ble_eq_true rfl⟩) (g_preV hPre hK (va_recv hK hP (q0 := 0) (ci := 9) rfl rfl)) rfl rfl hl.1 rfl (lv_room (Nat.le_of_ble_eq_true rfl)) dX9_leftOf_27 ⟨Nat.le_of_ble_eq_true rfl, Nat.le_of_ble_eq_true rfl⟩)) (fun r hr9 => ?_)
    subst hr9
    refine z_isub hx hb dX9_leftOf_30 ?_
    exact W.iret hx hb hr (fun tX htX hWX => ⟨_, rfl, congrArg zI (by unfold lft; split <;> first | rfl | omega), htX⟩) (fun _ h9 => by cases h9) dX9_leftOf_31
  · refine lv_iconst (v := zI (0)) hx hb dX9_leftOf_11 (by decide) ?_
    refine lv_goto (tgt := 31) hx hb dX9_leftOf_12 (by decide) ?_
    exact W.iret hx hb hr (fun tX htX hWX => ⟨_, rfl, congrArg zI (by unfold lft; split <;> first | rfl | omega), htX⟩) (fun _ h9 => by cases h9) dX9_leftOf_31

set_option maxHeartbeats 4000000 in
set_option maxRecDepth 100000 in
theorem c_X9_many (l : Launch) (g : GG) (b n : Nat) (N : Nat → Int32) (hN : okN N) (w k a z : Nat) (hw : w < 4) (hk : k ≤ 4) (haz : a ≤ z) (hz : z ≤ 364) : Met l yX9_many wsX9_many ({ frames := 2, cells := 0, slots := 0, locals := 44 }) (gPc g [.ref b, .int (zI (w)), .int (zI (k)), .int (zI (a)), .int (zI (z))] (rdN g b n N)) (vp_Si (fun r : Int32 => r = zI (sumN (ind N w k) a (z - a)))) 0 0 (fun _ => False) := by
  refine Met.ofW (cc := cX9_many) (maxL := 7) (ret := (some .int)) (by decide) rfl ?_
  intro p e s m args below meth c s₁ B hml hv
  obtain ⟨rfl, hPre, hK⟩ := hv
  have hx := B.exec
  have hb := B.bytes
  have hr := B.returns
  have hts := atoms_spec (ws := wsX9_many) B.pre
  have hown : s.vm.findClass RX9 = some m.cls := findClass_of_methodNamed B.named
  have hlocks := B.notSynchronized
  have hl := lv_entry ([.ref b, .int (zI (w)), .int (zI (k)), .int (zI (a)), .int (zI (z))]) (n := 7) (Nat.le_of_ble_eq_true rfl)
  rw [lg_entry_eq]
  generalize (lg_sl ([.ref b, .int (zI (w)), .int (zI (k)), .int (zI (a)), .int (zI (z))]) ++ List.replicate (7 - (lg_sl ([.ref b, .int (zI (w)), .int (zI (k)), .int (zI (a)), .int (zI (z))])).length) Slot.unset).toArray = ls at hl ⊢
  have hl : lv_has ls 7 [(0, .ref b), (1, .int (zI (w))), (2, .int (zI (k))), (3, .int (zI (a))), (4, .int (zI (z)))] := hl
  obtain ⟨fs, hP, hf⟩ := id hPre
  refine lv_iconst (v := zI (0)) hx hb dX9_many_0 (by decide) ?_
  refine lv_istore (lv' := [(5, .int (zI (0))), (0, .ref b), (1, .int (zI (w))), (2, .int (zI (k))), (3, .int (zI (a))), (4, .int (zI (z)))]) hx hb dX9_many_1 hl (by decide) rfl (fun ls hl => ?_)
  refine lv_iload_n hx hb dX9_many_3 rfl (lv_at hl 4 rfl) ?_
  refine lv_istore (lv' := [(6, .int (zI (a))), (5, .int (zI (0))), (0, .ref b), (1, .int (zI (w))), (2, .int (zI (k))), (3, .int (zI (a))), (4, .int (zI (z)))]) hx hb dX9_many_4 hl (by decide) rfl (fun ls hl => ?_)
  have loop6 : ∀ (K9 : Nat) (i : Nat) (hK9 : (z - a) - i < K9) (hi : i ≤ z - a) (ls : Array Slot) (hl : lv_has ls 7 [(6, .int (zI (((a + i : Nat) : Int)))), (5, .int (zI (sumN (ind N w k) a i))), (0, .ref b), (1, .int (zI (w))), (2, .int (zI (k))), (3, .int (zI (a))), (4, .int (zI (z)))]), W p l e (headSpec wsX9_many ({ frames := 2, cells := 0, slots := 0, locals := 44 })).room s m ([.ref b, .int (zI (w)), .int (zI (k)), .int (zI (a)), .int (zI (z))] : List Value).toArray below meth c s.heap [] 0 0 (MQ below (vp_Si (fun r : Int32 => r = zI (sumN (ind N w k) a (z - a)))) ([.ref b, .int (zI (w)), .int (zI (k)), .int (zI (a)), .int (zI (z))] : List Value).toArray s 0 0 (fun _ => False)) (F0 m 6 ls []) := by
    intro K9
    induction K9 with
    | zero => intro i hK9; exact absurd hK9 (Nat.not_lt_zero _)
    | succ K9 ih =>
      intro i hK9 hi ls hl
      refine lv_iload hx hb dX9_many_6 (lv_at hl 0 rfl) ?_
      refine lv_iload hx hb dX9_many_8 (lv_at hl 6 rfl) ?_
      refine z_icmp_ge (tgt := 71) hx hb dX9_many_10 (by decide) (by omega) (by omega) (fun h10 => ?_) (fun h10 => ?_)
      · refine lv_iload hx hb dX9_many_71 (lv_at hl 1 rfl) ?_
        exact W.iret hx hb hr (fun tX htX hWX => ⟨_, rfl, zN_cg (by rw [show i = z - a by omega]), htX⟩) (fun _ h9 => by cases h9) dX9_many_73
      · have hq1 := hN.knd hw (d := a + i) (by omega)
        have hq2 := hN.chg hw (d := a + i) (by omega)
        have hq3 := hN.flg hw (d := a + i) (by omega)
        refine lv_iload_n hx hb dX9_many_13 rfl (lv_at hl 4 rfl) ?_
        refine lv_iconst (v := zI (3)) hx hb dX9_many_14 (by decide) ?_
        refine z_icmp_ne (tgt := 32) hx hb dX9_many_15 (by decide) (by omega) (by omega) (fun h15 => ?_) (fun h15 => ?_)
        · refine lv_iload_n hx hb dX9_many_32 rfl (lv_at hl 4 rfl) ?_
          refine lv_iconst (v := zI (4)) hx hb dX9_many_33 (by decide) ?_
          refine z_icmp_ne (tgt := 51) hx hb dX9_many_34 (by decide) (by omega) (by omega) (fun h34 => ?_) (fun h34 => ?_)
          · refine lv_aload_n hx hb dX9_many_51 rfl (lv_at hl 2 rfl) ?_
            refine lv_iload_n hx hb dX9_many_52 rfl (lv_at hl 3 rfl) ?_
            refine lv_iload hx hb dX9_many_53 (lv_at hl 0 rfl) ?_
            refine vp_callSi (va_Run.run (va_runV (As := [.int (zI (w)), .int (zI (((a + i : Nat) : Int)))]) (rest := []) ⟨hx, hb, hml, hown, hts⟩ (c_X9_kindOf l g (b) (n) (N) (hN) (w) ((a + i)) (hw) (by omega)) (cwV 2 hts gX9_many_X9_kindOf rfl rfl rfl (by decide +kernel) ⟨Nat.le_of_ble_eq_true rfl, Nat.le_of_ble_eq_true rfl⟩) (g_preV hPre hK (va_recv hK hP (q0 := 0) (ci := 9) rfl rfl)) rfl rfl hl.1 rfl (lv_room (Nat.le_of_ble_eq_true rfl)) dX9_many_55 ⟨Nat.le_of_ble_eq_true rfl, Nat.le_of_ble_eq_true rfl⟩)) (fun r hr9 => ?_)
            subst hr9
            refine lv_iload_n hx hb dX9_many_58 rfl (lv_at hl 4 rfl) ?_
            refine z_icmp_ne (tgt := 65) hx hb dX9_many_59 (by decide) (by omega) (by omega) (fun h59 => ?_) (fun h59 => ?_)
            · refine z_iinc (lv' := [(6, .int (zI (((a + i : Nat) : Int) + 1))), (5, .int (zI (sumN (ind N w k) a i))), (0, .ref b), (1, .int (zI (w))), (2, .int (zI (k))), (3, .int (zI (a))), (4, .int (zI (z)))]) hx hb dX9_many_65 hl (k := 0) rfl (by decide) rfl (fun ls hl => ?_)
              refine lv_goto (tgt := 6) hx hb dX9_many_68 (by decide) ?_
              have hl := lv_sub (l' := [(6, .int (zI (((a + i : Nat) : Int) + 1))), (5, .int (zI (sumN (ind N w k) a i))), (0, .ref b), (1, .int (zI (w))), (2, .int (zI (k))), (3, .int (zI (a))), (4, .int (zI (z)))]) hl [0, 1, 2, 3, 4, 5, 6] rfl
              have hl : lv_has ls 7 [(6, .int (zI (((a + (i + 1) : Nat) : Int)))), (5, .int (zI (sumN (ind N w k) a (i + 1)))), (0, .ref b), (1, .int (zI (w))), (2, .int (zI (k))), (3, .int (zI (a))), (4, .int (zI (z)))] := lv_cg (lvE (congrArg zI (by omega)) (lvE (congrArg zI (by first | (rw [sumN_s, show ind N w k (a + i) = 0 from if_neg (by omega)]; omega) | (rw [sumN_s, show ind N w k (a + i) = 1 from if_pos (by omega)]; omega))) (lvR (lvR (lvR (lvR (lvR (rfl)))))))) hl
              exact ih (i + 1) (by omega) (by omega) ls hl
            · refine z_iinc (lv' := [(5, .int (zI ((sumN (ind N w k) a i) + 1))), (6, .int (zI (((a + i : Nat) : Int)))), (0, .ref b), (1, .int (zI (w))), (2, .int (zI (k))), (3, .int (zI (a))), (4, .int (zI (z)))]) hx hb dX9_many_62 hl (k := 1) rfl (by decide) rfl (fun ls hl => ?_)
              refine z_iinc (lv' := [(6, .int (zI (((a + i : Nat) : Int) + 1))), (5, .int (zI ((sumN (ind N w k) a i) + 1))), (0, .ref b), (1, .int (zI (w))), (2, .int (zI (k))), (3, .int (zI (a))), (4, .int (zI (z)))]) hx hb dX9_many_65 hl (k := 1) rfl (by decide) rfl (fun ls hl => ?_)
              refine lv_goto (tgt := 6) hx hb dX9_many_68 (by decide) ?_
              have hl := lv_sub (l' := [(6, .int (zI (((a + i : Nat) : Int) + 1))), (5, .int (zI ((sumN (ind N w k) a i) + 1))), (0, .ref b), (1, .int (zI (w))), (2, .int (zI (k))), (3, .int (zI (a))), (4, .int (zI (z)))]) hl [0, 1, 2, 3, 4, 5, 6] rfl
              have hl : lv_has ls 7 [(6, .int (zI (((a + (i + 1) : Nat) : Int)))), (5, .int (zI (sumN (ind N w k) a (i + 1)))), (0, .ref b), (1, .int (zI (w))), (2, .int (zI (k))), (3, .int (zI (a))), (4, .int (zI (z)))] := lv_cg (lvE (congrArg zI (by omega)) (lvE (congrArg zI (by first | (rw [sumN_s, show ind N w k (a + i) = 0 from if_neg (by omega)]; omega) | (rw [sumN_s, show ind N w k (a + i) = 1 from if_pos (by omega)]; omega))) (lvR (lvR (lvR (lvR (lvR (rfl)))))))) hl
              exact ih (i + 1) (by omega) (by omega) ls hl
          · refine lv_aload_n hx hb dX9_many_37 rfl (lv_at hl 2 rfl) ?_
            refine lv_iload_n hx hb dX9_many_38 rfl (lv_at hl 3 rfl) ?_
            refine lv_iload hx hb dX9_many_39 (lv_at hl 0 rfl) ?_
            refine vp_callSi (va_Run.run (va_runV (As := [.int (zI (w)), .int (zI (((a + i : Nat) : Int)))]) (rest := []) ⟨hx, hb, hml, hown, hts⟩ (c_X9_changedOf l g (b) (n) (N) (hN) (w) ((a + i)) (hw) (by omega)) (cwV 2 hts gX9_many_X9_changedOf rfl rfl rfl (by decide +kernel) ⟨Nat.le_of_ble_eq_true rfl, Nat.le_of_ble_eq_true rfl⟩) (g_preV hPre hK (va_recv hK hP (q0 := 0) (ci := 9) rfl rfl)) rfl rfl hl.1 rfl (lv_room (Nat.le_of_ble_eq_true rfl)) dX9_many_41 ⟨Nat.le_of_ble_eq_true rfl, Nat.le_of_ble_eq_true rfl⟩)) (fun r hr9 => ?_)
            subst hr9
            refine lv_iconst (v := zI (-1)) hx hb dX9_many_44 (by decide) ?_
            refine z_icmp_eq (tgt := 65) hx hb dX9_many_45 (by decide) (by omega) (by omega) (fun h45 => ?_) (fun h45 => ?_)
            · refine z_iinc (lv' := [(6, .int (zI (((a + i : Nat) : Int) + 1))), (5, .int (zI (sumN (ind N w k) a i))), (0, .ref b), (1, .int (zI (w))), (2, .int (zI (k))), (3, .int (zI (a))), (4, .int (zI (z)))]) hx hb dX9_many_65 hl (k := 0) rfl (by decide) rfl (fun ls hl => ?_)
              refine lv_goto (tgt := 6) hx hb dX9_many_68 (by decide) ?_
              have hl := lv_sub (l' := [(6, .int (zI (((a + i : Nat) : Int) + 1))), (5, .int (zI (sumN (ind N w k) a i))), (0, .ref b), (1, .int (zI (w))), (2, .int (zI (k))), (3, .int (zI (a))), (4, .int (zI (z)))]) hl [0, 1, 2, 3, 4, 5, 6] rfl
              have hl : lv_has ls 7 [(6, .int (zI (((a + (i + 1) : Nat) : Int)))), (5, .int (zI (sumN (ind N w k) a (i + 1)))), (0, .ref b), (1, .int (zI (w))), (2, .int (zI (k))), (3, .int (zI (a))), (4, .int (zI (z)))] := lv_cg (lvE (congrArg zI (by omega)) (lvE (congrArg zI (by first | (rw [sumN_s, show ind N w k (a + i) = 0 from if_neg (by omega)]; omega) | (rw [sumN_s, show ind N w k (a + i) = 1 from if_pos (by omega)]; omega))) (lvR (lvR (lvR (lvR (lvR (rfl)))))))) hl
              exact ih (i + 1) (by omega) (by omega) ls hl
            · refine lv_goto (tgt := 62) hx hb dX9_many_48 (by decide) ?_
              refine z_iinc (lv' := [(5, .int (zI ((sumN (ind N w k) a i) + 1))), (6, .int (zI (((a + i : Nat) : Int)))), (0, .ref b), (1, .int (zI (w))), (2, .int (zI (k))), (3, .int (zI (a))), (4, .int (zI (z)))]) hx hb dX9_many_62 hl (k := 1) rfl (by decide) rfl (fun ls hl => ?_)
              refine z_iinc (lv' := [(6, .int (zI (((a + i : Nat) : Int) + 1))), (5, .int (zI ((sumN (ind N w k) a i) + 1))), (0, .ref b), (1, .int (zI (w))), (2, .int (zI (k))), (3, .int (zI (a))), (4, .int (zI (z)))]) hx hb dX9_many_65 hl (k := 1) rfl (by decide) rfl (fun ls hl => ?_)
              refine lv_goto (tgt := 6) hx hb dX9_many_68 (by decide) ?_
              have hl := lv_sub (l' := [(6, .int (zI (((a + i : Nat) : Int) + 1))), (5, .int (zI ((sumN (ind N w k) a i) + 1))), (0, .ref b), (1, .int (zI (w))), (2, .int (zI (k))), (3, .int (zI (a))), (4, .int (zI (z)))]) hl [0, 1, 2, 3, 4, 5, 6] rfl
              have hl : lv_has ls 7 [(6, .int (zI (((a + (i + 1) : Nat) : Int)))), (5, .int (zI (sumN (ind N w k) a (i + 1)))), (0, .ref b), (1, .int (zI (w))), (2, .int (zI (k))), (3, .int (zI (a))), (4, .int (zI (z)))] := lv_cg (lvE (congrArg zI (by omega)) (lvE (congrArg zI (by first | (rw [sumN_s, show ind N w k (a + i) = 0 from if_neg (by omega)]; omega) | (rw [sumN_s, show ind N w k (a + i) = 1 from if_pos (by omega)]; omega))) (lvR (lvR (lvR (lvR (lvR (rfl)))))))) hl
              exact ih (i + 1) (by omega) (by omega) ls hl
        · refine lv_aload_n hx hb dX9_many_18 rfl (lv_at hl 2 rfl) ?_
          refine lv_iload_n hx hb dX9_many_19 rfl (lv_at hl 3 rfl) ?_
          refine lv_iload hx hb dX9_many_20 (lv_at hl 0 rfl) ?_
          refine vp_callSi (va_Run.run (va_runV (As := [.int (zI (w)), .int (zI (((a + i : Nat) : Int)))]) (rest := []) ⟨hx, hb, hml, hown, hts⟩ (c_X9_flaggedOf l g (b) (n) (N) (hN) (w) ((a + i)) (hw) (by omega)) (cwV 2 hts gX9_many_X9_flaggedOf rfl rfl rfl (by decide +kernel) ⟨Nat.le_of_ble_eq_true rfl, Nat.le_of_ble_eq_true rfl⟩) (g_preV hPre hK (va_recv hK hP (q0 := 0) (ci := 9) rfl rfl)) rfl rfl hl.1 rfl (lv_room (Nat.le_of_ble_eq_true rfl)) dX9_many_22 ⟨Nat.le_of_ble_eq_true rfl, Nat.le_of_ble_eq_true rfl⟩)) (fun r hr9 => ?_)
          subst hr9
          refine lv_iconst (v := zI (1)) hx hb dX9_many_25 (by decide) ?_
          refine z_icmp_ne (tgt := 65) hx hb dX9_many_26 (by decide) (by omega) (by omega) (fun h26 => ?_) (fun h26 => ?_)
          · refine z_iinc (lv' := [(6, .int (zI (((a + i : Nat) : Int) + 1))), (5, .int (zI (sumN (ind N w k) a i))), (0, .ref b), (1, .int (zI (w))), (2, .int (zI (k))), (3, .int (zI (a))), (4, .int (zI (z)))]) hx hb dX9_many_65 hl (k := 0) rfl (by decide) rfl (fun ls hl => ?_)
            refine lv_goto (tgt := 6) hx hb dX9_many_68 (by decide) ?_
            have hl := lv_sub (l' := [(6, .int (zI (((a + i : Nat) : Int) + 1))), (5, .int (zI (sumN (ind N w k) a i))), (0, .ref b), (1, .int (zI (w))), (2, .int (zI (k))), (3, .int (zI (a))), (4, .int (zI (z)))]) hl [0, 1, 2, 3, 4, 5, 6] rfl
            have hl : lv_has ls 7 [(6, .int (zI (((a + (i + 1) : Nat) : Int)))), (5, .int (zI (sumN (ind N w k) a (i + 1)))), (0, .ref b), (1, .int (zI (w))), (2, .int (zI (k))), (3, .int (zI (a))), (4, .int (zI (z)))] := lv_cg (lvE (congrArg zI (by omega)) (lvE (congrArg zI (by first | (rw [sumN_s, show ind N w k (a + i) = 0 from if_neg (by omega)]; omega) | (rw [sumN_s, show ind N w k (a + i) = 1 from if_pos (by omega)]; omega))) (lvR (lvR (lvR (lvR (lvR (rfl)))))))) hl
            exact ih (i + 1) (by omega) (by omega) ls hl
          · refine lv_goto (tgt := 62) hx hb dX9_many_29 (by decide) ?_
            refine z_iinc (lv' := [(5, .int (zI ((sumN (ind N w k) a i) + 1))), (6, .int (zI (((a + i : Nat) : Int)))), (0, .ref b), (1, .int (zI (w))), (2, .int (zI (k))), (3, .int (zI (a))), (4, .int (zI (z)))]) hx hb dX9_many_62 hl (k := 1) rfl (by decide) rfl (fun ls hl => ?_)
            refine z_iinc (lv' := [(6, .int (zI (((a + i : Nat) : Int) + 1))), (5, .int (zI ((sumN (ind N w k) a i) + 1))), (0, .ref b), (1, .int (zI (w))), (2, .int (zI (k))), (3, .int (zI (a))), (4, .int (zI (z)))]) hx hb dX9_many_65 hl (k := 1) rfl (by decide) rfl (fun ls hl => ?_)
            refine lv_goto (tgt := 6) hx hb dX9_many_68 (by decide) ?_
            have hl := lv_sub (l' := [(6, .int (zI (((a + i : Nat) : Int) + 1))), (5, .int (zI ((sumN (ind N w k) a i) + 1))), (0, .ref b), (1, .int (zI (w))), (2, .int (zI (k))), (3, .int (zI (a))), (4, .int (zI (z)))]) hl [0, 1, 2, 3, 4, 5, 6] rfl
            have hl : lv_has ls 7 [(6, .int (zI (((a + (i + 1) : Nat) : Int)))), (5, .int (zI (sumN (ind N w k) a (i + 1)))), (0, .ref b), (1, .int (zI (w))), (2, .int (zI (k))), (3, .int (zI (a))), (4, .int (zI (z)))] := lv_cg (lvE (congrArg zI (by omega)) (lvE (congrArg zI (by first | (rw [sumN_s, show ind N w k (a + i) = 0 from if_neg (by omega)]; omega) | (rw [sumN_s, show ind N w k (a + i) = 1 from if_pos (by omega)]; omega))) (lvR (lvR (lvR (lvR (lvR (rfl)))))))) hl
            exact ih (i + 1) (by omega) (by omega) ls hl
  have hl := lv_sub (l' := [(6, .int (zI (a))), (5, .int (zI (0))), (0, .ref b), (1, .int (zI (w))), (2, .int (zI (k))), (3, .int (zI (a))), (4, .int (zI (z)))]) hl [0, 1, 2, 3, 4, 5, 6] rfl
  have hl : lv_has ls 7 [(6, .int (zI (((a + 0 : Nat) : Int)))), (5, .int (zI (sumN (ind N w k) a 0))), (0, .ref b), (1, .int (zI (w))), (2, .int (zI (k))), (3, .int (zI (a))), (4, .int (zI (z)))] := lv_cg (lvE (congrArg zI (by omega)) (lvE (congrArg zI (rfl)) (lvR (lvR (lvR (lvR (lvR (rfl)))))))) hl
  exact loop6 _ (0) (Nat.lt_succ_self _) (Nat.zero_le _) ls hl

set_option maxHeartbeats 4000000 in
set_option maxRecDepth 100000 in
theorem c_X9_ofAll (l : Launch) (g : GG) (b n : Nat) (N : Nat → Int32) (hN : okN N) (k a : Nat) (hk : k ≤ 4) (ha : a ≤ 364) : Met l yX9_ofAll wsX9_ofAll ({ frames := 3, cells := 0, slots := 0, locals := 70 }) (gPc g [.ref b, .int (zI (k)), .int (zI (a))] (rdN g b n N)) (vp_Si (fun r : Int32 => r = zI (allS N k a))) 0 0 (fun _ => False) := by
  refine Met.ofW (cc := cX9_ofAll) (maxL := 5) (ret := (some .int)) (by decide) rfl ?_
  intro p e s m args below meth c s₁ B hml hv
  obtain ⟨rfl, hPre, hK⟩ := hv
  have hx := B.exec
  have hb := B.bytes
  have hr := B.returns
  have hts := atoms_spec (ws := wsX9_ofAll) B.pre
  have hown : s.vm.findClass RX9 = some m.cls := findClass_of_methodNamed B.named
  have hlocks := B.notSynchronized
  have hinX9 : ∀ w ∈ wsX90, w ∈ wsX9_ofAll := by decide +kernel
  have k70 := hts (.fieldLink RX9 70 "HoursBankModel" "now" "[I") (by decide +kernel)
  have hl := lv_entry ([.ref b, .int (zI (k)), .int (zI (a))]) (n := 5) (Nat.le_of_ble_eq_true rfl)
  rw [lg_entry_eq]
  generalize (lg_sl ([.ref b, .int (zI (k)), .int (zI (a))]) ++ List.replicate (5 - (lg_sl ([.ref b, .int (zI (k)), .int (zI (a))])).length) Slot.unset).toArray = ls at hl ⊢
  have hl : lv_has ls 5 [(0, .ref b), (1, .int (zI (k))), (2, .int (zI (a)))] := hl
  obtain ⟨fs, hP, hf⟩ := id hPre
  refine lv_iconst (v := zI (0)) hx hb dX9_ofAll_0 (by decide) ?_
  refine lv_istore_n (lv' := [(3, .int (zI (0))), (0, .ref b), (1, .int (zI (k))), (2, .int (zI (a)))]) hx hb dX9_ofAll_1 rfl hl (by decide) rfl (fun ls hl => ?_)
  refine lv_iconst (v := zI (0)) hx hb dX9_ofAll_2 (by decide) ?_
  refine lv_istore (lv' := [(4, .int (zI (0))), (3, .int (zI (0))), (0, .ref b), (1, .int (zI (k))), (2, .int (zI (a)))]) hx hb dX9_ofAll_3 hl (by decide) rfl (fun ls hl => ?_)
  have loop5 : ∀ (K9 : Nat) (i : Nat) (hK9 : mn N 57 - i < K9) (hi : i ≤ mn N 57) (ls : Array Slot) (hl : lv_has ls 5 [(4, .int (zI (((i : Nat) : Int)))), (3, .int (zI (sumN (fun w => sumN (ind N w k) a (364 - a)) 0 i))), (0, .ref b), (1, .int (zI (k))), (2, .int (zI (a)))]), W p l e (headSpec wsX9_ofAll ({ frames := 3, cells := 0, slots := 0, locals := 70 })).room s m ([.ref b, .int (zI (k)), .int (zI (a))] : List Value).toArray below meth c s.heap [] 0 0 (MQ below (vp_Si (fun r : Int32 => r = zI (allS N k a))) ([.ref b, .int (zI (k)), .int (zI (a))] : List Value).toArray s 0 0 (fun _ => False)) (F0 m 5 ls []) := by
    intro K9
    induction K9 with
    | zero => intro i hK9; exact absurd hK9 (Nat.not_lt_zero _)
    | succ K9 ih =>
      intro i hK9 hi ls hl
      refine lv_iload hx hb dX9_ofAll_5 (lv_at hl 0 rfl) ?_
      refine lv_aload_n hx hb dX9_ofAll_7 rfl (lv_at hl 2 rfl) ?_
      refine va_get (D := g.1) (ci := 9) (v := .ref n) (C := RX9) (T := TX9) (N := 15) hx hb hts hinX9 hown hK hP 0 rfl rfl 11 (by decide) k70 (fun _ h9 => h9) hf dX9_ofAll_8 ?_
      refine lv_bipush (v := zI (57)) hx hb dX9_ofAll_11 (by decide) ?_
      refine z_iald hx hb hK hP 1 0 rfl rfl (by decide) (57) (by omega) (by omega) dX9_ofAll_13 ?_
      refine z_top (y := zI (mn N 57)) (hN.nw.eq) ?_
      have hq := hN.nw.le
      refine z_icmp_ge (tgt := 37) hx hb dX9_ofAll_14 (by decide) (by omega) (by omega) (fun h14 => ?_) (fun h14 => ?_)
      · refine lv_iload_n hx hb dX9_ofAll_37 rfl (lv_at hl 1 rfl) ?_
        exact W.iret hx hb hr (fun tX htX hWX => ⟨_, rfl, zN_cg (by unfold allS; rw [show i = mn N 57 by omega]), htX⟩) (fun _ h9 => by cases h9) dX9_ofAll_38
      · refine lv_iload_n hx hb dX9_ofAll_17 rfl (lv_at hl 1 rfl) ?_
        refine lv_aload_n hx hb dX9_ofAll_18 rfl (lv_at hl 2 rfl) ?_
        refine lv_iload hx hb dX9_ofAll_19 (lv_at hl 0 rfl) ?_
        refine lv_iload_n hx hb dX9_ofAll_21 rfl (lv_at hl 3 rfl) ?_
        refine lv_iload_n hx hb dX9_ofAll_22 rfl (lv_at hl 4 rfl) ?_
        refine lv_sipush (v := zI (364)) hx hb dX9_ofAll_23 (by decide) ?_
        refine vp_callSi (va_Run.run (va_runV (As := [.int (zI (((i : Nat) : Int))), .int (zI (k)), .int (zI (a)), .int (zI (364))]) (rest := [.int (zI (sumN (fun w => sumN (ind N w k) a (364 - a)) 0 i))]) ⟨hx, hb, hml, hown, hts⟩ (c_X9_many l g (b) (n) (N) (hN) (i) (k) (a) (364) (by omega) (hk) (by omega) (by omega)) (cwV 4 hts gX9_ofAll_X9_many rfl rfl rfl (by decide +kernel) ⟨Nat.le_of_ble_eq_true rfl, Nat.le_of_ble_eq_true rfl⟩) (g_preV hPre hK (va_recv hK hP (q0 := 0) (ci := 9) rfl rfl)) rfl rfl hl.1 rfl (lv_room (Nat.le_of_ble_eq_true rfl)) dX9_ofAll_26 ⟨Nat.le_of_ble_eq_true rfl, Nat.le_of_ble_eq_true rfl⟩)) (fun r hr9 => ?_)
        subst hr9
        refine z_iadd hx hb dX9_ofAll_29 ?_
        refine lv_istore_n (lv' := [(3, .int (zI ((sumN (fun w => sumN (ind N w k) a (364 - a)) 0 i) + (sumN (ind N i k) a (364 - a))))), (4, .int (zI (((i : Nat) : Int)))), (0, .ref b), (1, .int (zI (k))), (2, .int (zI (a)))]) hx hb dX9_ofAll_30 rfl hl (by decide) rfl (fun ls hl => ?_)
        refine z_iinc (lv' := [(4, .int (zI (((i : Nat) : Int) + 1))), (3, .int (zI ((sumN (fun w => sumN (ind N w k) a (364 - a)) 0 i) + (sumN (ind N i k) a (364 - a))))), (0, .ref b), (1, .int (zI (k))), (2, .int (zI (a)))]) hx hb dX9_ofAll_31 hl (k := 1) rfl (by decide) rfl (fun ls hl => ?_)
        refine lv_goto (tgt := 5) hx hb dX9_ofAll_34 (by decide) ?_
        have hl := lv_sub (l' := [(4, .int (zI (((i : Nat) : Int) + 1))), (3, .int (zI ((sumN (fun w => sumN (ind N w k) a (364 - a)) 0 i) + (sumN (ind N i k) a (364 - a))))), (0, .ref b), (1, .int (zI (k))), (2, .int (zI (a)))]) hl [0, 1, 2, 3, 4] rfl
        have hl : lv_has ls 5 [(4, .int (zI ((((i + 1) : Nat) : Int)))), (3, .int (zI (sumN (fun w => sumN (ind N w k) a (364 - a)) 0 (i + 1)))), (0, .ref b), (1, .int (zI (k))), (2, .int (zI (a)))] := lv_cg (lvE (congrArg zI (by omega)) (lvE (congrArg zI (by rw [sumN_s, Nat.zero_add]; omega)) (lvR (lvR (lvR (rfl)))))) hl
        exact ih (i + 1) (by omega) (by omega) ls hl
  have hl := lv_sub (l' := [(4, .int (zI (0))), (3, .int (zI (0))), (0, .ref b), (1, .int (zI (k))), (2, .int (zI (a)))]) hl [0, 1, 2, 3, 4] rfl
  have hl : lv_has ls 5 [(4, .int (zI (((0 : Nat) : Int)))), (3, .int (zI (sumN (fun w => sumN (ind N w k) a (364 - a)) 0 0))), (0, .ref b), (1, .int (zI (k))), (2, .int (zI (a)))] := lv_cg (lvE (congrArg zI (rfl)) (lvE (congrArg zI (rfl)) (lvR (lvR (lvR (rfl)))))) hl
  exact loop5 _ (0) (Nat.lt_succ_self _) (Nat.zero_le _) ls hl

set_option maxHeartbeats 4000000 in
set_option maxRecDepth 100000 in
theorem c_X9_coins (l : Launch) (g : GG) (b n : Nat) (N : Nat → Int32) (hN : okN N)  : Met l yX9_coins wsX9_coins ({ frames := 1, cells := 0, slots := 0, locals := 22 }) (gPc g [.ref b] (rdN g b n N)) (vp_Si (fun r : Int32 => r = coinS N (mn N 57))) 0 0 (fun _ => False) := by
  refine Met.ofW (cc := cX9_coins) (maxL := 3) (ret := (some .int)) (by decide) rfl ?_
  intro p e s m args below meth c s₁ B hml hv
  obtain ⟨rfl, hPre, hK⟩ := hv
  have hx := B.exec
  have hb := B.bytes
  have hr := B.returns
  have hts := atoms_spec (ws := wsX9_coins) B.pre
  have hown : s.vm.findClass RX9 = some m.cls := findClass_of_methodNamed B.named
  have hlocks := B.notSynchronized
  have hinX9 : ∀ w ∈ wsX90, w ∈ wsX9_coins := by decide +kernel
  have k70 := hts (.fieldLink RX9 70 "HoursBankModel" "now" "[I") (by decide +kernel)
  have hl := lv_entry ([.ref b]) (n := 3) (Nat.le_of_ble_eq_true rfl)
  rw [lg_entry_eq]
  generalize (lg_sl ([.ref b]) ++ List.replicate (3 - (lg_sl ([.ref b])).length) Slot.unset).toArray = ls at hl ⊢
  have hl : lv_has ls 3 [(0, .ref b)] := hl
  obtain ⟨fs, hP, hf⟩ := id hPre
  refine lv_iconst (v := zI (0)) hx hb dX9_coins_0 (by decide) ?_
  refine lv_istore_n (lv' := [(1, .int (zI (0))), (0, .ref b)]) hx hb dX9_coins_1 rfl hl (by decide) rfl (fun ls hl => ?_)
  refine lv_iconst (v := zI (0)) hx hb dX9_coins_2 (by decide) ?_
  refine lv_istore_n (lv' := [(2, .int (zI (0))), (1, .int (zI (0))), (0, .ref b)]) hx hb dX9_coins_3 rfl hl (by decide) rfl (fun ls hl => ?_)
  have loop4 : ∀ (K9 : Nat) (i : Nat) (hK9 : mn N 57 - i < K9) (hi : i ≤ mn N 57) (ls : Array Slot) (hl : lv_has ls 3 [(2, .int (zI (((i : Nat) : Int)))), (1, .int (coinS N i)), (0, .ref b)]), W p l e (headSpec wsX9_coins ({ frames := 1, cells := 0, slots := 0, locals := 22 })).room s m ([.ref b] : List Value).toArray below meth c s.heap [] 0 0 (MQ below (vp_Si (fun r : Int32 => r = coinS N (mn N 57))) ([.ref b] : List Value).toArray s 0 0 (fun _ => False)) (F0 m 4 ls []) := by
    intro K9
    induction K9 with
    | zero => intro i hK9; exact absurd hK9 (Nat.not_lt_zero _)
    | succ K9 ih =>
      intro i hK9 hi ls hl
      refine lv_iload_n hx hb dX9_coins_4 rfl (lv_at hl 0 rfl) ?_
      refine lv_aload_n hx hb dX9_coins_5 rfl (lv_at hl 2 rfl) ?_
      refine va_get (D := g.1) (ci := 9) (v := .ref n) (C := RX9) (T := TX9) (N := 15) hx hb hts hinX9 hown hK hP 0 rfl rfl 11 (by decide) k70 (fun _ h9 => h9) hf dX9_coins_6 ?_
      refine lv_bipush (v := zI (57)) hx hb dX9_coins_9 (by decide) ?_
      refine z_iald hx hb hK hP 1 0 rfl rfl (by decide) (57) (by omega) (by omega) dX9_coins_11 ?_
      refine z_top (y := zI (mn N 57)) (hN.nw.eq) ?_
      have hq := hN.nw.le
      refine z_icmp_ge (tgt := 54) hx hb dX9_coins_12 (by decide) (by omega) (by omega) (fun h12 => ?_) (fun h12 => ?_)
      · refine lv_iload_n hx hb dX9_coins_54 rfl (lv_at hl 1 rfl) ?_
        exact W.iret hx hb hr (fun tX htX hWX => ⟨_, rfl, by rw [show i = mn N 57 by omega], htX⟩) (fun _ h9 => by cases h9) dX9_coins_55
      · refine lv_iload_n hx hb dX9_coins_15 rfl (lv_at hl 1 rfl) ?_
        refine lv_aload_n hx hb dX9_coins_16 rfl (lv_at hl 2 rfl) ?_
        refine lv_iload_n hx hb dX9_coins_17 rfl (lv_at hl 0 rfl) ?_
        refine lv_iconst (v := zI (5)) hx hb dX9_coins_18 (by decide) ?_
        refine vp_callSi (va_Run.run (va_runV (As := [.int (zI (((i : Nat) : Int))), .int (zI (5))]) (rest := [.int (coinS N i)]) ⟨hx, hb, hml, hown, hts⟩ (c_X9_its l g (b) (n) (N) (i) (5) (by omega) (by omega)) (cwV 2 hts gX9_coins_X9_its rfl rfl rfl (by decide +kernel) ⟨Nat.le_of_ble_eq_true rfl, Nat.le_of_ble_eq_true rfl⟩) (g_preV hPre hK (va_recv hK hP (q0 := 0) (ci := 9) rfl rfl)) rfl rfl hl.1 rfl (lv_room (Nat.le_of_ble_eq_true rfl)) dX9_coins_19 ⟨Nat.le_of_ble_eq_true rfl, Nat.le_of_ble_eq_true rfl⟩)) (fun r hr9 => ?_)
        subst hr9
        refine lv_aload_n hx hb dX9_coins_22 rfl (lv_at hl 2 rfl) ?_
        refine lv_iload_n hx hb dX9_coins_23 rfl (lv_at hl 0 rfl) ?_
        refine lv_bipush (v := zI (6)) hx hb dX9_coins_24 (by decide) ?_
        refine vp_callSi (va_Run.run (va_runV (As := [.int (zI (((i : Nat) : Int))), .int (zI (6))]) (rest := [.int (N (58 + 13 * i + 5)), .int (coinS N i)]) ⟨hx, hb, hml, hown, hts⟩ (c_X9_its l g (b) (n) (N) (i) (6) (by omega) (by omega)) (cwV 2 hts gX9_coins_X9_its rfl rfl rfl (by decide +kernel) ⟨Nat.le_of_ble_eq_true rfl, Nat.le_of_ble_eq_true rfl⟩) (g_preV hPre hK (va_recv hK hP (q0 := 0) (ci := 9) rfl rfl)) rfl rfl hl.1 rfl (lv_room (Nat.le_of_ble_eq_true rfl)) dX9_coins_26 ⟨Nat.le_of_ble_eq_true rfl, Nat.le_of_ble_eq_true rfl⟩)) (fun r hr9 => ?_)
        subst hr9
        refine lv_iadd hx hb dX9_coins_29 ?_
        refine lv_aload_n hx hb dX9_coins_30 rfl (lv_at hl 2 rfl) ?_
        refine lv_iload_n hx hb dX9_coins_31 rfl (lv_at hl 0 rfl) ?_
        refine lv_bipush (v := zI (8)) hx hb dX9_coins_32 (by decide) ?_
        refine vp_callSi (va_Run.run (va_runV (As := [.int (zI (((i : Nat) : Int))), .int (zI (8))]) (rest := [.int ((N (58 + 13 * i + 5)) + (N (58 + 13 * i + 6))), .int (coinS N i)]) ⟨hx, hb, hml, hown, hts⟩ (c_X9_its l g (b) (n) (N) (i) (8) (by omega) (by omega)) (cwV 2 hts gX9_coins_X9_its rfl rfl rfl (by decide +kernel) ⟨Nat.le_of_ble_eq_true rfl, Nat.le_of_ble_eq_true rfl⟩) (g_preV hPre hK (va_recv hK hP (q0 := 0) (ci := 9) rfl rfl)) rfl rfl hl.1 rfl (lv_room (Nat.le_of_ble_eq_true rfl)) dX9_coins_34 ⟨Nat.le_of_ble_eq_true rfl, Nat.le_of_ble_eq_true rfl⟩)) (fun r hr9 => ?_)
        subst hr9
        refine lv_iadd hx hb dX9_coins_37 ?_
        refine lv_aload_n hx hb dX9_coins_38 rfl (lv_at hl 2 rfl) ?_
        refine lv_iload_n hx hb dX9_coins_39 rfl (lv_at hl 0 rfl) ?_
        refine lv_bipush (v := zI (7)) hx hb dX9_coins_40 (by decide) ?_
        refine vp_callSi (va_Run.run (va_runV (As := [.int (zI (((i : Nat) : Int))), .int (zI (7))]) (rest := [.int (((N (58 + 13 * i + 5)) + (N (58 + 13 * i + 6))) + (N (58 + 13 * i + 8))), .int (coinS N i)]) ⟨hx, hb, hml, hown, hts⟩ (c_X9_its l g (b) (n) (N) (i) (7) (by omega) (by omega)) (cwV 2 hts gX9_coins_X9_its rfl rfl rfl (by decide +kernel) ⟨Nat.le_of_ble_eq_true rfl, Nat.le_of_ble_eq_true rfl⟩) (g_preV hPre hK (va_recv hK hP (q0 := 0) (ci := 9) rfl rfl)) rfl rfl hl.1 rfl (lv_room (Nat.le_of_ble_eq_true rfl)) dX9_coins_42 ⟨Nat.le_of_ble_eq_true rfl, Nat.le_of_ble_eq_true rfl⟩)) (fun r hr9 => ?_)
        subst hr9
        refine lv_isub hx hb dX9_coins_45 ?_
        refine lv_iadd hx hb dX9_coins_46 ?_
        refine lv_istore_n (lv' := [(1, .int ((coinS N i) + ((((N (58 + 13 * i + 5)) + (N (58 + 13 * i + 6))) + (N (58 + 13 * i + 8))) - (N (58 + 13 * i + 7))))), (2, .int (zI (((i : Nat) : Int)))), (0, .ref b)]) hx hb dX9_coins_47 rfl hl (by decide) rfl (fun ls hl => ?_)
        refine z_iinc (lv' := [(2, .int (zI (((i : Nat) : Int) + 1))), (1, .int ((coinS N i) + ((((N (58 + 13 * i + 5)) + (N (58 + 13 * i + 6))) + (N (58 + 13 * i + 8))) - (N (58 + 13 * i + 7))))), (0, .ref b)]) hx hb dX9_coins_48 hl (k := 1) rfl (by decide) rfl (fun ls hl => ?_)
        refine lv_goto (tgt := 4) hx hb dX9_coins_51 (by decide) ?_
        have hl := lv_sub (l' := [(2, .int (zI (((i : Nat) : Int) + 1))), (1, .int ((coinS N i) + ((((N (58 + 13 * i + 5)) + (N (58 + 13 * i + 6))) + (N (58 + 13 * i + 8))) - (N (58 + 13 * i + 7))))), (0, .ref b)]) hl [0, 1, 2] rfl
        have hl : lv_has ls 3 [(2, .int (zI ((((i + 1) : Nat) : Int)))), (1, .int (coinS N (i + 1))), (0, .ref b)] := lv_cg (lvE (congrArg zI (by omega)) (lvE (rfl) (lvR (rfl)))) hl
        exact ih (i + 1) (by omega) (by omega) ls hl
  have hl := lv_sub (l' := [(2, .int (zI (0))), (1, .int (zI (0))), (0, .ref b)]) hl [0, 1, 2] rfl
  have hl : lv_has ls 3 [(2, .int (zI (((0 : Nat) : Int)))), (1, .int (coinS N 0)), (0, .ref b)] := lv_cg (lvE (congrArg zI (rfl)) (lvE (rfl) (lvR (rfl)))) hl
  exact loop4 _ (0) (Nat.lt_succ_self _) (Nat.zero_le _) ls hl

set_option maxHeartbeats 4000000 in
set_option maxRecDepth 100000 in
theorem c_X9_here (l : Launch) (g : GG) (b n : Nat) (N : Nat → Int32) (hN : okN N)  : Met l yX9_here wsX9_here ({ frames := 3, cells := 0, slots := 0, locals := 64 }) (gPc g [.ref b] (rdN g b n N)) (vp_Si (fun r : Int32 => r = zI (hereS N))) 0 0 (fun _ => False) := by
  refine Met.ofW (cc := cX9_here) (maxL := 3) (ret := (some .int)) (by decide) rfl ?_
  intro p e s m args below meth c s₁ B hml hv
  obtain ⟨rfl, hPre, hK⟩ := hv
  have hx := B.exec
  have hb := B.bytes
  have hr := B.returns
  have hts := atoms_spec (ws := wsX9_here) B.pre
  have hown : s.vm.findClass RX9 = some m.cls := findClass_of_methodNamed B.named
  have hlocks := B.notSynchronized
  have hinX9 : ∀ w ∈ wsX90, w ∈ wsX9_here := by decide +kernel
  have k70 := hts (.fieldLink RX9 70 "HoursBankModel" "now" "[I") (by decide +kernel)
  have hl := lv_entry ([.ref b]) (n := 3) (Nat.le_of_ble_eq_true rfl)
  rw [lg_entry_eq]
  generalize (lg_sl ([.ref b]) ++ List.replicate (3 - (lg_sl ([.ref b])).length) Slot.unset).toArray = ls at hl ⊢
  have hl : lv_has ls 3 [(0, .ref b)] := hl
  obtain ⟨fs, hP, hf⟩ := id hPre
  refine lv_iconst (v := zI (0)) hx hb dX9_here_0 (by decide) ?_
  refine lv_istore_n (lv' := [(1, .int (zI (0))), (0, .ref b)]) hx hb dX9_here_1 rfl hl (by decide) rfl (fun ls hl => ?_)
  refine lv_iconst (v := zI (0)) hx hb dX9_here_2 (by decide) ?_
  refine lv_istore_n (lv' := [(2, .int (zI (0))), (1, .int (zI (0))), (0, .ref b)]) hx hb dX9_here_3 rfl hl (by decide) rfl (fun ls hl => ?_)
  have loop4 : ∀ (K9 : Nat) (i : Nat) (hK9 : mn N 57 - i < K9) (hi : i ≤ mn N 57) (ls : Array Slot) (hl : lv_has ls 3 [(2, .int (zI (((i : Nat) : Int)))), (1, .int (zI (sumN (fun w => if goneN N w = 0 then 1 else 0) 0 i))), (0, .ref b)]), W p l e (headSpec wsX9_here ({ frames := 3, cells := 0, slots := 0, locals := 64 })).room s m ([.ref b] : List Value).toArray below meth c s.heap [] 0 0 (MQ below (vp_Si (fun r : Int32 => r = zI (hereS N))) ([.ref b] : List Value).toArray s 0 0 (fun _ => False)) (F0 m 4 ls []) := by
    intro K9
    induction K9 with
    | zero => intro i hK9; exact absurd hK9 (Nat.not_lt_zero _)
    | succ K9 ih =>
      intro i hK9 hi ls hl
      refine lv_iload_n hx hb dX9_here_4 rfl (lv_at hl 0 rfl) ?_
      refine lv_aload_n hx hb dX9_here_5 rfl (lv_at hl 2 rfl) ?_
      refine va_get (D := g.1) (ci := 9) (v := .ref n) (C := RX9) (T := TX9) (N := 15) hx hb hts hinX9 hown hK hP 0 rfl rfl 11 (by decide) k70 (fun _ h9 => h9) hf dX9_here_6 ?_
      refine lv_bipush (v := zI (57)) hx hb dX9_here_9 (by decide) ?_
      refine z_iald hx hb hK hP 1 0 rfl rfl (by decide) (57) (by omega) (by omega) dX9_here_11 ?_
      refine z_top (y := zI (mn N 57)) (hN.nw.eq) ?_
      have hq := hN.nw.le
      refine z_icmp_ge (tgt := 32) hx hb dX9_here_12 (by decide) (by omega) (by omega) (fun h12 => ?_) (fun h12 => ?_)
      · refine lv_iload_n hx hb dX9_here_32 rfl (lv_at hl 1 rfl) ?_
        exact W.iret hx hb hr (fun tX htX hWX => ⟨_, rfl, zN_cg (by unfold hereS; rw [show i = mn N 57 by omega]), htX⟩) (fun _ h9 => by cases h9) dX9_here_33
      · refine lv_aload_n hx hb dX9_here_15 rfl (lv_at hl 2 rfl) ?_
        refine lv_iload_n hx hb dX9_here_16 rfl (lv_at hl 0 rfl) ?_
        refine vp_callSi (va_Run.run (va_runV (As := [.int (zI (((i : Nat) : Int)))]) (rest := []) ⟨hx, hb, hml, hown, hts⟩ (c_X9_isHere l g (b) (n) (N) (hN) (((i : Nat) : Int)) (by omega)) (cwV 1 hts gX9_here_X9_isHere rfl rfl rfl (by decide +kernel) ⟨Nat.le_of_ble_eq_true rfl, Nat.le_of_ble_eq_true rfl⟩) (g_preV hPre hK (va_recv hK hP (q0 := 0) (ci := 9) rfl rfl)) rfl rfl hl.1 rfl (lv_room (Nat.le_of_ble_eq_true rfl)) dX9_here_17 ⟨Nat.le_of_ble_eq_true rfl, Nat.le_of_ble_eq_true rfl⟩)) (fun r hr9 => ?_)
        subst hr9
        refine z_bz_eq (tgt := 26) hx hb dX9_here_20 (by decide) (fun h20 => ?_) (fun h20 => ?_)
        · have h20 : ¬ goneN N i = 0 := fun q => h20 ⟨⟨by omega, by omega⟩, q⟩
          refine z_iinc (lv' := [(2, .int (zI (((i : Nat) : Int) + 1))), (1, .int (zI (sumN (fun w => if goneN N w = 0 then 1 else 0) 0 i))), (0, .ref b)]) hx hb dX9_here_26 hl (k := 0) rfl (by decide) rfl (fun ls hl => ?_)
          refine lv_goto (tgt := 4) hx hb dX9_here_29 (by decide) ?_
          have hl := lv_sub (l' := [(2, .int (zI (((i : Nat) : Int) + 1))), (1, .int (zI (sumN (fun w => if goneN N w = 0 then 1 else 0) 0 i))), (0, .ref b)]) hl [0, 1, 2] rfl
          have hl : lv_has ls 3 [(2, .int (zI ((((i + 1) : Nat) : Int)))), (1, .int (zI (sumN (fun w => if goneN N w = 0 then 1 else 0) 0 (i + 1)))), (0, .ref b)] := lv_cg (lvE (congrArg zI (by omega)) (lvE (congrArg zI (by first | (rw [sumN_s, Nat.zero_add, if_pos (by omega)]; omega) | (rw [sumN_s, Nat.zero_add, if_neg (by omega)]; omega))) (lvR (rfl)))) hl
          exact ih (i + 1) (by omega) (by omega) ls hl
        · have h20 : goneN N i = 0 := h20.2
          refine z_iinc (lv' := [(1, .int (zI ((sumN (fun w => if goneN N w = 0 then 1 else 0) 0 i) + 1))), (2, .int (zI (((i : Nat) : Int)))), (0, .ref b)]) hx hb dX9_here_23 hl (k := 1) rfl (by decide) rfl (fun ls hl => ?_)
          refine z_iinc (lv' := [(2, .int (zI (((i : Nat) : Int) + 1))), (1, .int (zI ((sumN (fun w => if goneN N w = 0 then 1 else 0) 0 i) + 1))), (0, .ref b)]) hx hb dX9_here_26 hl (k := 1) rfl (by decide) rfl (fun ls hl => ?_)
          refine lv_goto (tgt := 4) hx hb dX9_here_29 (by decide) ?_
          have hl := lv_sub (l' := [(2, .int (zI (((i : Nat) : Int) + 1))), (1, .int (zI ((sumN (fun w => if goneN N w = 0 then 1 else 0) 0 i) + 1))), (0, .ref b)]) hl [0, 1, 2] rfl
          have hl : lv_has ls 3 [(2, .int (zI ((((i + 1) : Nat) : Int)))), (1, .int (zI (sumN (fun w => if goneN N w = 0 then 1 else 0) 0 (i + 1)))), (0, .ref b)] := lv_cg (lvE (congrArg zI (by omega)) (lvE (congrArg zI (by first | (rw [sumN_s, Nat.zero_add, if_pos (by omega)]; omega) | (rw [sumN_s, Nat.zero_add, if_neg (by omega)]; omega))) (lvR (rfl)))) hl
          exact ih (i + 1) (by omega) (by omega) ls hl
  have hl := lv_sub (l' := [(2, .int (zI (0))), (1, .int (zI (0))), (0, .ref b)]) hl [0, 1, 2] rfl
  have hl : lv_has ls 3 [(2, .int (zI (((0 : Nat) : Int)))), (1, .int (zI (sumN (fun w => if goneN N w = 0 then 1 else 0) 0 0))), (0, .ref b)] := lv_cg (lvE (congrArg zI (rfl)) (lvE (congrArg zI (rfl)) (lvR (rfl)))) hl
  exact loop4 _ (0) (Nat.lt_succ_self _) (Nat.zero_le _) ls hl

set_option maxHeartbeats 4000000 in
set_option maxRecDepth 100000 in
theorem c_X9_workedTill (l : Launch) (g : GG) (b n : Nat) (N : Nat → Int32) (hN : okN N) (w : Nat) (hw : w < 4) : Met l yX9_workedTill wsX9_workedTill ({ frames := 2, cells := 0, slots := 0, locals := 44 }) (gPc g [.ref b, .int (zI (w))] (rdN g b n N)) (vp_Si (fun r : Int32 => r = zI (sumN (wkd N w) 0 (mn N 110)))) 0 0 (fun _ => False) := by
  refine Met.ofW (cc := cX9_workedTill) (maxL := 4) (ret := (some .int)) (by decide) rfl ?_
  intro p e s m args below meth c s₁ B hml hv
  obtain ⟨rfl, hPre, hK⟩ := hv
  have hx := B.exec
  have hb := B.bytes
  have hr := B.returns
  have hts := atoms_spec (ws := wsX9_workedTill) B.pre
  have hown : s.vm.findClass RX9 = some m.cls := findClass_of_methodNamed B.named
  have hlocks := B.notSynchronized
  have hl := lv_entry ([.ref b, .int (zI (w))]) (n := 4) (Nat.le_of_ble_eq_true rfl)
  rw [lg_entry_eq]
  generalize (lg_sl ([.ref b, .int (zI (w))]) ++ List.replicate (4 - (lg_sl ([.ref b, .int (zI (w))])).length) Slot.unset).toArray = ls at hl ⊢
  have hl : lv_has ls 4 [(0, .ref b), (1, .int (zI (w)))] := hl
  obtain ⟨fs, hP, hf⟩ := id hPre
  refine lv_iconst (v := zI (0)) hx hb dX9_workedTill_0 (by decide) ?_
  refine lv_istore_n (lv' := [(2, .int (zI (0))), (0, .ref b), (1, .int (zI (w)))]) hx hb dX9_workedTill_1 rfl hl (by decide) rfl (fun ls hl => ?_)
  refine lv_iconst (v := zI (0)) hx hb dX9_workedTill_2 (by decide) ?_
  refine lv_istore_n (lv' := [(3, .int (zI (0))), (2, .int (zI (0))), (0, .ref b), (1, .int (zI (w)))]) hx hb dX9_workedTill_3 rfl hl (by decide) rfl (fun ls hl => ?_)
  have loop4 : ∀ (K9 : Nat) (i : Nat) (hK9 : mn N 110 - i < K9) (hi : i ≤ mn N 110) (ls : Array Slot) (hl : lv_has ls 4 [(3, .int (zI (((i : Nat) : Int)))), (2, .int (zI (sumN (wkd N w) 0 i))), (0, .ref b), (1, .int (zI (w)))]), W p l e (headSpec wsX9_workedTill ({ frames := 2, cells := 0, slots := 0, locals := 44 })).room s m ([.ref b, .int (zI (w))] : List Value).toArray below meth c s.heap [] 0 0 (MQ below (vp_Si (fun r : Int32 => r = zI (sumN (wkd N w) 0 (mn N 110)))) ([.ref b, .int (zI (w))] : List Value).toArray s 0 0 (fun _ => False)) (F0 m 4 ls []) := by
    intro K9
    induction K9 with
    | zero => intro i hK9; exact absurd hK9 (Nat.not_lt_zero _)
    | succ K9 ih =>
      intro i hK9 hi ls hl
      refine lv_iload_n hx hb dX9_workedTill_4 rfl (lv_at hl 0 rfl) ?_
      refine lv_aload_n hx hb dX9_workedTill_5 rfl (lv_at hl 2 rfl) ?_
      refine vp_callSi (va_Run.run (va_runV (As := []) (rest := [.int (zI (((i : Nat) : Int)))]) ⟨hx, hb, hml, hown, hts⟩ (c_X9_today l g (b) (n) (N) (hN)) (cwV 0 hts gX9_workedTill_X9_today rfl rfl rfl (by decide +kernel) ⟨Nat.le_of_ble_eq_true rfl, Nat.le_of_ble_eq_true rfl⟩) (g_preV hPre hK (va_recv hK hP (q0 := 0) (ci := 9) rfl rfl)) rfl rfl hl.1 rfl (lv_room (Nat.le_of_ble_eq_true rfl)) dX9_workedTill_6 ⟨Nat.le_of_ble_eq_true rfl, Nat.le_of_ble_eq_true rfl⟩)) (fun r hr9 => ?_)
      subst hr9
      have hq := hN.td.le
      refine z_icmp_ge (tgt := 27) hx hb dX9_workedTill_9 (by decide) (by omega) (by omega) (fun h9 => ?_) (fun h9 => ?_)
      · refine lv_iload_n hx hb dX9_workedTill_27 rfl (lv_at hl 1 rfl) ?_
        exact W.iret hx hb hr (fun tX htX hWX => ⟨_, rfl, zN_cg (by rw [show i = mn N 110 by omega]), htX⟩) (fun _ h9 => by cases h9) dX9_workedTill_28
      · refine lv_iload_n hx hb dX9_workedTill_12 rfl (lv_at hl 1 rfl) ?_
        refine lv_aload_n hx hb dX9_workedTill_13 rfl (lv_at hl 2 rfl) ?_
        refine lv_iload_n hx hb dX9_workedTill_14 rfl (lv_at hl 3 rfl) ?_
        refine lv_iload_n hx hb dX9_workedTill_15 rfl (lv_at hl 0 rfl) ?_
        refine vp_callSi (va_Run.run (va_runV (As := [.int (zI (w)), .int (zI (((i : Nat) : Int)))]) (rest := [.int (zI (sumN (wkd N w) 0 i))]) ⟨hx, hb, hml, hown, hts⟩ (c_X9_workedOf l g (b) (n) (N) (hN) (w) (i) (hw) (by omega)) (cwV 2 hts gX9_workedTill_X9_workedOf rfl rfl rfl (by decide +kernel) ⟨Nat.le_of_ble_eq_true rfl, Nat.le_of_ble_eq_true rfl⟩) (g_preV hPre hK (va_recv hK hP (q0 := 0) (ci := 9) rfl rfl)) rfl rfl hl.1 rfl (lv_room (Nat.le_of_ble_eq_true rfl)) dX9_workedTill_16 ⟨Nat.le_of_ble_eq_true rfl, Nat.le_of_ble_eq_true rfl⟩)) (fun r hr9 => ?_)
        subst hr9
        refine z_iadd hx hb dX9_workedTill_19 ?_
        refine lv_istore_n (lv' := [(2, .int (zI ((sumN (wkd N w) 0 i) + (wkd N w i)))), (3, .int (zI (((i : Nat) : Int)))), (0, .ref b), (1, .int (zI (w)))]) hx hb dX9_workedTill_20 rfl hl (by decide) rfl (fun ls hl => ?_)
        refine z_iinc (lv' := [(3, .int (zI (((i : Nat) : Int) + 1))), (2, .int (zI ((sumN (wkd N w) 0 i) + (wkd N w i)))), (0, .ref b), (1, .int (zI (w)))]) hx hb dX9_workedTill_21 hl (k := 1) rfl (by decide) rfl (fun ls hl => ?_)
        refine lv_goto (tgt := 4) hx hb dX9_workedTill_24 (by decide) ?_
        have hl := lv_sub (l' := [(3, .int (zI (((i : Nat) : Int) + 1))), (2, .int (zI ((sumN (wkd N w) 0 i) + (wkd N w i)))), (0, .ref b), (1, .int (zI (w)))]) hl [0, 1, 2, 3] rfl
        have hl : lv_has ls 4 [(3, .int (zI ((((i + 1) : Nat) : Int)))), (2, .int (zI (sumN (wkd N w) 0 (i + 1)))), (0, .ref b), (1, .int (zI (w)))] := lv_cg (lvE (congrArg zI (by omega)) (lvE (congrArg zI (by rw [sumN_s, Nat.zero_add]; omega)) (lvR (lvR (rfl))))) hl
        exact ih (i + 1) (by omega) (by omega) ls hl
  have hl := lv_sub (l' := [(3, .int (zI (0))), (2, .int (zI (0))), (0, .ref b), (1, .int (zI (w)))]) hl [0, 1, 2, 3] rfl
  have hl : lv_has ls 4 [(3, .int (zI (((0 : Nat) : Int)))), (2, .int (zI (sumN (wkd N w) 0 0))), (0, .ref b), (1, .int (zI (w)))] := lv_cg (lvE (congrArg zI (rfl)) (lvE (congrArg zI (rfl)) (lvR (lvR (rfl))))) hl
  exact loop4 _ (0) (Nat.lt_succ_self _) (Nat.zero_le _) ls hl

set_option maxHeartbeats 4000000 in
set_option maxRecDepth 100000 in
theorem c_X9_canPlan (l : Launch) (g : GG) (b n : Nat) (N : Nat → Int32) (hN : okN N) (v dd qq : Int) (hv : R32 v) (hdd : R32 dd) (hqq : R32 qq) : Met l yX9_canPlan wsX9_canPlan ({ frames := 3, cells := 0, slots := 0, locals := 64 }) (gPc g [.ref b, .int (zI (v)), .int (zI (dd)), .int (zI (qq))] (rdN g b n N)) (vp_Si (fun r : Int32 => r = zI (bz (((0 ≤ v ∧ v ≤ (mn N 57 : Int) - 1) ∧ goneN N v.toNat = 0) ∧ ((mn N 110 : Int) ≤ dd ∧ dd ≤ 363) ∧ (0 ≤ qq ∧ qq ≤ 96) ∧ ¬ knd N v.toNat dd.toNat = 2)))) 0 0 (fun _ => False) := by
  refine Met.ofW (cc := cX9_canPlan) (maxL := 4) (ret := (some .boolean)) (by decide) rfl ?_
  intro p e s m args below meth c s₁ B hml hv
  obtain ⟨rfl, hPre, hK⟩ := hv
  have hx := B.exec
  have hb := B.bytes
  have hr := B.returns
  have hts := atoms_spec (ws := wsX9_canPlan) B.pre
  have hown : s.vm.findClass RX9 = some m.cls := findClass_of_methodNamed B.named
  have hlocks := B.notSynchronized
  have hl := lv_entry ([.ref b, .int (zI (v)), .int (zI (dd)), .int (zI (qq))]) (n := 4) (Nat.le_of_ble_eq_true rfl)
  rw [lg_entry_eq]
  generalize (lg_sl ([.ref b, .int (zI (v)), .int (zI (dd)), .int (zI (qq))]) ++ List.replicate (4 - (lg_sl ([.ref b, .int (zI (v)), .int (zI (dd)), .int (zI (qq))])).length) Slot.unset).toArray = ls at hl ⊢
  have hl : lv_has ls 4 [(0, .ref b), (1, .int (zI (v))), (2, .int (zI (dd))), (3, .int (zI (qq)))] := hl
  obtain ⟨fs, hP, hf⟩ := id hPre
  refine lv_aload_n hx hb dX9_canPlan_0 rfl (lv_at hl 0 rfl) ?_
  refine lv_iload_n hx hb dX9_canPlan_1 rfl (lv_at hl 1 rfl) ?_
  refine vp_callSi (va_Run.run (va_runV (As := [.int (zI (v))]) (rest := []) ⟨hx, hb, hml, hown, hts⟩ (c_X9_isHere l g (b) (n) (N) (hN) (v) (hv)) (cwV 1 hts gX9_canPlan_X9_isHere rfl rfl rfl (by decide +kernel) ⟨Nat.le_of_ble_eq_true rfl, Nat.le_of_ble_eq_true rfl⟩) (g_preV hPre hK (va_recv hK hP (q0 := 0) (ci := 9) rfl rfl)) rfl rfl hl.1 rfl (lv_room (Nat.le_of_ble_eq_true rfl)) dX9_canPlan_2 ⟨Nat.le_of_ble_eq_true rfl, Nat.le_of_ble_eq_true rfl⟩)) (fun r hr9 => ?_)
  subst hr9
  refine z_bz_eq (tgt := 46) hx hb dX9_canPlan_5 (by decide) (fun h5 => ?_) (fun h5 => ?_)
  · refine lv_iconst (v := zI (0)) hx hb dX9_canPlan_46 (by decide) ?_
    exact W.zret hx hb hr (by decide) (fun tX htX hWX => ⟨_, rfl, bz_0 (by first | (intro q9; exact h5 q9.1) | (intro q9; exact h19 q9.2.1) | (intro q9; exact h29 q9.2.2.1) | (intro q9; exact q9.2.2.2 (by simp only [Int.toNat_natCast]; omega)) | exact ⟨⟨⟨hv0, hv1⟩, hgo⟩, h19, h29, by simp only [Int.toNat_natCast]; omega⟩), htX⟩) (fun _ h9 => by cases h9) dX9_canPlan_47
  · refine lv_iload_n hx hb dX9_canPlan_8 rfl (lv_at hl 2 rfl) ?_
    refine lv_aload_n hx hb dX9_canPlan_9 rfl (lv_at hl 0 rfl) ?_
    refine vp_callSi (va_Run.run (va_runV (As := []) (rest := [.int (zI (dd))]) ⟨hx, hb, hml, hown, hts⟩ (c_X9_today l g (b) (n) (N) (hN)) (cwV 0 hts gX9_canPlan_X9_today rfl rfl rfl (by decide +kernel) ⟨Nat.le_of_ble_eq_true rfl, Nat.le_of_ble_eq_true rfl⟩) (g_preV hPre hK (va_recv hK hP (q0 := 0) (ci := 9) rfl rfl)) rfl rfl hl.1 rfl (lv_room (Nat.le_of_ble_eq_true rfl)) dX9_canPlan_10 ⟨Nat.le_of_ble_eq_true rfl, Nat.le_of_ble_eq_true rfl⟩)) (fun r hr9 => ?_)
    subst hr9
    refine lv_sipush (v := zI (363)) hx hb dX9_canPlan_13 (by decide) ?_
    have hq := hN.td.le
    refine vp_callSi (va_Run.run (va_runS (As := [.int (zI (dd)), .int (zI (mn N 110)), .int (zI (363))]) (rest := []) ⟨hx, hb, hml, hown, hts⟩ (c_X9_isIn l (dd) (mn N 110) (363) (hdd) (by omega) (by omega)) (va_cwS 3 hts gX9_canPlan_X9_isIn rfl rfl rfl (by decide +kernel) ⟨Nat.le_of_ble_eq_true rfl, Nat.le_of_ble_eq_true rfl⟩) g_preS0 rfl rfl hl.1 rfl (lv_room (Nat.le_of_ble_eq_true rfl)) dX9_canPlan_16 ⟨Nat.le_of_ble_eq_true rfl, Nat.le_of_ble_eq_true rfl⟩)) (fun r hr9 => ?_)
    subst hr9
    refine z_bz_eq (tgt := 46) hx hb dX9_canPlan_19 (by decide) (fun h19 => ?_) (fun h19 => ?_)
    · refine lv_iconst (v := zI (0)) hx hb dX9_canPlan_46 (by decide) ?_
      exact W.zret hx hb hr (by decide) (fun tX htX hWX => ⟨_, rfl, bz_0 (by first | (intro q9; exact h5 q9.1) | (intro q9; exact h19 q9.2.1) | (intro q9; exact h29 q9.2.2.1) | (intro q9; exact q9.2.2.2 (by simp only [Int.toNat_natCast]; omega)) | exact ⟨⟨⟨hv0, hv1⟩, hgo⟩, h19, h29, by simp only [Int.toNat_natCast]; omega⟩), htX⟩) (fun _ h9 => by cases h9) dX9_canPlan_47
    · refine lv_iload_n hx hb dX9_canPlan_22 rfl (lv_at hl 3 rfl) ?_
      refine lv_iconst (v := zI (0)) hx hb dX9_canPlan_23 (by decide) ?_
      refine lv_bipush (v := zI (96)) hx hb dX9_canPlan_24 (by decide) ?_
      refine vp_callSi (va_Run.run (va_runS (As := [.int (zI (qq)), .int (zI (0)), .int (zI (96))]) (rest := []) ⟨hx, hb, hml, hown, hts⟩ (c_X9_isIn l (qq) (0) (96) (hqq) (by omega) (by omega)) (va_cwS 3 hts gX9_canPlan_X9_isIn rfl rfl rfl (by decide +kernel) ⟨Nat.le_of_ble_eq_true rfl, Nat.le_of_ble_eq_true rfl⟩) g_preS0 rfl rfl hl.1 rfl (lv_room (Nat.le_of_ble_eq_true rfl)) dX9_canPlan_26 ⟨Nat.le_of_ble_eq_true rfl, Nat.le_of_ble_eq_true rfl⟩)) (fun r hr9 => ?_)
      subst hr9
      refine z_bz_eq (tgt := 46) hx hb dX9_canPlan_29 (by decide) (fun h29 => ?_) (fun h29 => ?_)
      · refine lv_iconst (v := zI (0)) hx hb dX9_canPlan_46 (by decide) ?_
        exact W.zret hx hb hr (by decide) (fun tX htX hWX => ⟨_, rfl, bz_0 (by first | (intro q9; exact h5 q9.1) | (intro q9; exact h19 q9.2.1) | (intro q9; exact h29 q9.2.2.1) | (intro q9; exact q9.2.2.2 (by simp only [Int.toNat_natCast]; omega)) | exact ⟨⟨⟨hv0, hv1⟩, hgo⟩, h19, h29, by simp only [Int.toNat_natCast]; omega⟩), htX⟩) (fun _ h9 => by cases h9) dX9_canPlan_47
      · have hq2 := hN.nw.le
        obtain ⟨⟨hv0, hv1⟩, hgo⟩ := h5
        obtain ⟨w, rfl⟩ := Int.eq_ofNat_of_zero_le hv0
        obtain ⟨d, rfl⟩ := Int.eq_ofNat_of_zero_le (show 0 ≤ dd by omega)
        refine lv_aload_n hx hb dX9_canPlan_32 rfl (lv_at hl 0 rfl) ?_
        refine lv_iload_n hx hb dX9_canPlan_33 rfl (lv_at hl 1 rfl) ?_
        refine lv_iload_n hx hb dX9_canPlan_34 rfl (lv_at hl 2 rfl) ?_
        refine vp_callSi (va_Run.run (va_runV (As := [.int (zI (w)), .int (zI (d))]) (rest := []) ⟨hx, hb, hml, hown, hts⟩ (c_X9_kindOf l g (b) (n) (N) (hN) (w) (d) (by omega) (by omega)) (cwV 2 hts gX9_canPlan_X9_kindOf rfl rfl rfl (by decide +kernel) ⟨Nat.le_of_ble_eq_true rfl, Nat.le_of_ble_eq_true rfl⟩) (g_preV hPre hK (va_recv hK hP (q0 := 0) (ci := 9) rfl rfl)) rfl rfl hl.1 rfl (lv_room (Nat.le_of_ble_eq_true rfl)) dX9_canPlan_35 ⟨Nat.le_of_ble_eq_true rfl, Nat.le_of_ble_eq_true rfl⟩)) (fun r hr9 => ?_)
        subst hr9
        refine lv_iconst (v := zI (2)) hx hb dX9_canPlan_38 (by decide) ?_
        have hq3 := hN.knd (w := w) (d := d) (by omega) (by omega)
        refine z_icmp_eq (tgt := 46) hx hb dX9_canPlan_39 (by decide) (by omega) (by omega) (fun h39 => ?_) (fun h39 => ?_)
        · refine lv_iconst (v := zI (0)) hx hb dX9_canPlan_46 (by decide) ?_
          exact W.zret hx hb hr (by decide) (fun tX htX hWX => ⟨_, rfl, bz_0 (by first | (intro q9; exact h5 q9.1) | (intro q9; exact h19 q9.2.1) | (intro q9; exact h29 q9.2.2.1) | (intro q9; exact q9.2.2.2 (by simp only [Int.toNat_natCast]; omega)) | exact ⟨⟨⟨hv0, hv1⟩, hgo⟩, h19, h29, by simp only [Int.toNat_natCast]; omega⟩), htX⟩) (fun _ h9 => by cases h9) dX9_canPlan_47
        · refine lv_iconst (v := zI (1)) hx hb dX9_canPlan_42 (by decide) ?_
          refine lv_goto (tgt := 47) hx hb dX9_canPlan_43 (by decide) ?_
          exact W.zret hx hb hr (by decide) (fun tX htX hWX => ⟨_, rfl, bz_1 (by first | (intro q9; exact h5 q9.1) | (intro q9; exact h19 q9.2.1) | (intro q9; exact h29 q9.2.2.1) | (intro q9; exact q9.2.2.2 (by simp only [Int.toNat_natCast]; omega)) | exact ⟨⟨⟨hv0, hv1⟩, hgo⟩, h19, h29, by simp only [Int.toNat_natCast]; omega⟩), htX⟩) (fun _ h9 => by cases h9) dX9_canPlan_47

set_option maxHeartbeats 4000000 in
set_option maxRecDepth 100000 in
theorem c_X9_costOf (l : Launch) (g : GG) (b n : Nat) (N : Nat → Int32) (hN : okN N) (w d q : Nat) (hw : w < 4) (hd : d < 364) (hq : q ≤ 96) : Met l yX9_costOf wsX9_costOf ({ frames := 3, cells := 0, slots := 0, locals := 68 }) (gPc g [.ref b, .int (zI (w)), .int (zI (d)), .int (zI (q))] (rdN g b n N)) (vp_Si (fun r : Int32 => r = zI (cst N w d q))) 0 0 (fun _ => False) := by
  refine Met.ofW (cc := cX9_costOf) (maxL := 7) (ret := (some .int)) (by decide) rfl ?_
  intro p e s m args below meth c s₁ B hml hv
  obtain ⟨rfl, hPre, hK⟩ := hv
  have hx := B.exec
  have hb := B.bytes
  have hr := B.returns
  have hts := atoms_spec (ws := wsX9_costOf) B.pre
  have hown : s.vm.findClass RX9 = some m.cls := findClass_of_methodNamed B.named
  have hlocks := B.notSynchronized
  have hinX9 : ∀ w ∈ wsX90, w ∈ wsX9_costOf := by decide +kernel
  have k70 := hts (.fieldLink RX9 70 "HoursBankModel" "now" "[I") (by decide +kernel)
  have hl := lv_entry ([.ref b, .int (zI (w)), .int (zI (d)), .int (zI (q))]) (n := 7) (Nat.le_of_ble_eq_true rfl)
  rw [lg_entry_eq]
  generalize (lg_sl ([.ref b, .int (zI (w)), .int (zI (d)), .int (zI (q))]) ++ List.replicate (7 - (lg_sl ([.ref b, .int (zI (w)), .int (zI (d)), .int (zI (q))])).length) Slot.unset).toArray = ls at hl ⊢
  have hl : lv_has ls 7 [(0, .ref b), (1, .int (zI (w))), (2, .int (zI (d))), (3, .int (zI (q)))] := hl
  obtain ⟨fs, hP, hf⟩ := id hPre
  refine lv_iconst (v := zI (0)) hx hb dX9_costOf_0 (by decide) ?_
  refine lv_istore (lv' := [(4, .int (zI (0))), (0, .ref b), (1, .int (zI (w))), (2, .int (zI (d))), (3, .int (zI (q)))]) hx hb dX9_costOf_1 hl (by decide) rfl (fun ls hl => ?_)
  refine lv_iconst (v := zI (0)) hx hb dX9_costOf_3 (by decide) ?_
  refine lv_istore (lv' := [(5, .int (zI (0))), (4, .int (zI (0))), (0, .ref b), (1, .int (zI (w))), (2, .int (zI (d))), (3, .int (zI (q)))]) hx hb dX9_costOf_4 hl (by decide) rfl (fun ls hl => ?_)
  have loop6 : ∀ (K9 : Nat) (i : Nat) (hK9 : mn N 50 - i < K9) (hi : i ≤ mn N 50) (ls : Array Slot) (hl : lv_has ls 7 [(5, .int (zI (((i : Nat) : Int)))), (4, .int (zI (pct N ((d : Int) - mn N 110) i))), (0, .ref b), (1, .int (zI (w))), (2, .int (zI (d))), (3, .int (zI (q)))]), W p l e (headSpec wsX9_costOf ({ frames := 3, cells := 0, slots := 0, locals := 68 })).room s m ([.ref b, .int (zI (w)), .int (zI (d)), .int (zI (q))] : List Value).toArray below meth c s.heap [] 0 0 (MQ below (vp_Si (fun r : Int32 => r = zI (cst N w d q))) ([.ref b, .int (zI (w)), .int (zI (d)), .int (zI (q))] : List Value).toArray s 0 0 (fun _ => False)) (F0 m 6 ls []) := by
    intro K9
    induction K9 with
    | zero => intro i hK9; exact absurd hK9 (Nat.not_lt_zero _)
    | succ K9 ih =>
      intro i hK9 hi ls hl
      refine lv_iload hx hb dX9_costOf_6 (lv_at hl 0 rfl) ?_
      refine lv_aload_n hx hb dX9_costOf_8 rfl (lv_at hl 2 rfl) ?_
      refine va_get (D := g.1) (ci := 9) (v := .ref n) (C := RX9) (T := TX9) (N := 15) hx hb hts hinX9 hown hK hP 0 rfl rfl 11 (by decide) k70 (fun _ h9 => h9) hf dX9_costOf_9 ?_
      refine lv_bipush (v := zI (50)) hx hb dX9_costOf_12 (by decide) ?_
      refine z_iald hx hb hK hP 1 0 rfl rfl (by decide) (50) (by omega) (by omega) dX9_costOf_14 ?_
      refine z_top (y := zI (mn N 50)) (hN.nn.eq) ?_
      have hq0 := hN.nn.le
      have hq1 := hN.td.le
      refine z_icmp_ge (tgt := 74) hx hb dX9_costOf_15 (by decide) (by omega) (by omega) (fun h15 => ?_) (fun h15 => ?_)
      · refine lv_iload_n hx hb dX9_costOf_74 rfl (lv_at hl 5 rfl) ?_
        refine lv_aload_n hx hb dX9_costOf_75 rfl (lv_at hl 2 rfl) ?_
        refine lv_iload_n hx hb dX9_costOf_76 rfl (lv_at hl 3 rfl) ?_
        refine lv_iload_n hx hb dX9_costOf_77 rfl (lv_at hl 4 rfl) ?_
        refine vp_callSi (va_Run.run (va_runV (As := [.int (zI (w)), .int (zI (d))]) (rest := [.int (zI (q))]) ⟨hx, hb, hml, hown, hts⟩ (c_X9_plannedOf l g (b) (n) (N) (hN) (w) (d) (hw) (hd)) (cwV 2 hts gX9_costOf_X9_plannedOf rfl rfl rfl (by decide +kernel) ⟨Nat.le_of_ble_eq_true rfl, Nat.le_of_ble_eq_true rfl⟩) (g_preV hPre hK (va_recv hK hP (q0 := 0) (ci := 9) rfl rfl)) rfl rfl hl.1 rfl (lv_room (Nat.le_of_ble_eq_true rfl)) dX9_costOf_78 ⟨Nat.le_of_ble_eq_true rfl, Nat.le_of_ble_eq_true rfl⟩)) (fun r hr9 => ?_)
        subst hr9
        have hpl := plan_le hN hw hd
        refine z_isub hx hb dX9_costOf_81 ?_
        refine lv_istore (lv' := [(5, .int (zI (q - (plan N w d)))), (4, .int (zI (pct N ((d : Int) - mn N 110) i))), (0, .ref b), (1, .int (zI (w))), (2, .int (zI (d))), (3, .int (zI (q)))]) hx hb dX9_costOf_82 hl (by decide) rfl (fun ls hl => ?_)
        refine lv_iload hx hb dX9_costOf_84 (lv_at hl 1 rfl) ?_
        refine lv_aload_n hx hb dX9_costOf_86 rfl (lv_at hl 2 rfl) ?_
        refine lv_iload_n hx hb dX9_costOf_87 rfl (lv_at hl 3 rfl) ?_
        refine lv_iconst (v := zI (0)) hx hb dX9_costOf_88 (by decide) ?_
        refine vp_callSi (va_Run.run (va_runV (As := [.int (zI (w)), .int (zI (0))]) (rest := [.int (zI (pct N ((d : Int) - mn N 110) i))]) ⟨hx, hb, hml, hown, hts⟩ (c_X9_its l g (b) (n) (N) (w) (0) (hw) (by omega)) (cwV 2 hts gX9_costOf_X9_its rfl rfl rfl (by decide +kernel) ⟨Nat.le_of_ble_eq_true rfl, Nat.le_of_ble_eq_true rfl⟩) (g_preV hPre hK (va_recv hK hP (q0 := 0) (ci := 9) rfl rfl)) rfl rfl hl.1 rfl (lv_room (Nat.le_of_ble_eq_true rfl)) dX9_costOf_89 ⟨Nat.le_of_ble_eq_true rfl, Nat.le_of_ble_eq_true rfl⟩)) (fun r hr9 => ?_)
        subst hr9
        refine z_top (y := zI (mn N (58 + 13 * w))) ((hN.rate hw).eq) ?_
        refine z_imul hx hb dX9_costOf_92 ?_
        refine lv_iload hx hb dX9_costOf_93 (lv_at hl 0 rfl) ?_
        refine z_if_ge (tgt := 104) hx hb dX9_costOf_95 (by decide) (by omega) (fun h95 => ?_) (fun h95 => ?_)
        · refine lv_iload hx hb dX9_costOf_104 (lv_at hl 0 rfl) ?_
          refine z_top (y := zI (((cabs N w d q : Nat) : Int))) (congrArg zI (by unfold cabs; omega)) ?_
          refine z_imul hx hb dX9_costOf_106 ?_
          refine lv_bipush (v := zI (100)) hx hb dX9_costOf_107 (by decide) ?_
          refine z_idiv hx hb dX9_costOf_109 (mul3b (pct_le hN _ i (by omega)) (hN.rate hw).le (show cabs N w d q ≤ 96 by unfold cabs; omega) (by decide)) (by omega) ?_
          exact W.iret hx hb hr (fun tX htX hWX => ⟨_, rfl, congrArg zI (by unfold cst; rw [show i = mn N 50 by omega]; push_cast; rfl), htX⟩) (fun _ h9 => by cases h9) dX9_costOf_110
        · refine lv_iload hx hb dX9_costOf_98 (lv_at hl 0 rfl) ?_
          refine z_ineg hx hb dX9_costOf_100 ?_
          refine lv_goto (tgt := 106) hx hb dX9_costOf_101 (by decide) ?_
          refine z_top (y := zI (((cabs N w d q : Nat) : Int))) (congrArg zI (by unfold cabs; omega)) ?_
          refine z_imul hx hb dX9_costOf_106 ?_
          refine lv_bipush (v := zI (100)) hx hb dX9_costOf_107 (by decide) ?_
          refine z_idiv hx hb dX9_costOf_109 (mul3b (pct_le hN _ i (by omega)) (hN.rate hw).le (show cabs N w d q ≤ 96 by unfold cabs; omega) (by decide)) (by omega) ?_
          exact W.iret hx hb hr (fun tX htX hWX => ⟨_, rfl, congrArg zI (by unfold cst; rw [show i = mn N 50 by omega]; push_cast; rfl), htX⟩) (fun _ h9 => by cases h9) dX9_costOf_110
      · have hq2 := (hN.n0 (i := i) (by omega)).le
        have hq3 := (hN.n1 (i := i) (by omega)).le
        have hq4 := pct_le hN ((d : Int) - mn N 110) i (by omega)
        refine lv_bipush (v := zI (51)) hx hb dX9_costOf_18 (by decide) ?_
        refine lv_iconst (v := zI (2)) hx hb dX9_costOf_20 (by decide) ?_
        refine lv_iload hx hb dX9_costOf_21 (lv_at hl 0 rfl) ?_
        refine z_imul hx hb dX9_costOf_23 ?_
        refine z_iadd hx hb dX9_costOf_24 ?_
        refine lv_istore (lv' := [(6, .int (zI (51 + (2 * ((i : Nat) : Int))))), (5, .int (zI (((i : Nat) : Int)))), (4, .int (zI (pct N ((d : Int) - mn N 110) i))), (0, .ref b), (1, .int (zI (w))), (2, .int (zI (d))), (3, .int (zI (q)))]) hx hb dX9_costOf_25 hl (by decide) rfl (fun ls hl => ?_)
        refine lv_aload_n hx hb dX9_costOf_27 rfl (lv_at hl 3 rfl) ?_
        refine va_get (D := g.1) (ci := 9) (v := .ref n) (C := RX9) (T := TX9) (N := 15) hx hb hts hinX9 hown hK hP 0 rfl rfl 11 (by decide) k70 (fun _ h9 => h9) hf dX9_costOf_28 ?_
        refine lv_iload hx hb dX9_costOf_31 (lv_at hl 0 rfl) ?_
        refine z_iald hx hb hK hP 1 0 rfl rfl (by decide) (51 + 2 * i) (by omega) (by omega) dX9_costOf_33 ?_
        refine z_top (y := zI (mn N (51 + 2 * i))) ((hN.n0 (by omega)).eq) ?_
        refine lv_iload_n hx hb dX9_costOf_34 rfl (lv_at hl 5 rfl) ?_
        refine lv_aload_n hx hb dX9_costOf_35 rfl (lv_at hl 3 rfl) ?_
        refine vp_callSi (va_Run.run (va_runV (As := []) (rest := [.int (zI (d)), .int (zI (mn N (51 + 2 * i)))]) ⟨hx, hb, hml, hown, hts⟩ (c_X9_today l g (b) (n) (N) (hN)) (cwV 0 hts gX9_costOf_X9_today rfl rfl rfl (by decide +kernel) ⟨Nat.le_of_ble_eq_true rfl, Nat.le_of_ble_eq_true rfl⟩) (g_preV hPre hK (va_recv hK hP (q0 := 0) (ci := 9) rfl rfl)) rfl rfl hl.1 rfl (lv_room (Nat.le_of_ble_eq_true rfl)) dX9_costOf_36 ⟨Nat.le_of_ble_eq_true rfl, Nat.le_of_ble_eq_true rfl⟩)) (fun r hr9 => ?_)
        subst hr9
        refine z_isub hx hb dX9_costOf_39 ?_
        refine z_icmp_le (tgt := 68) hx hb dX9_costOf_40 (by decide) (by omega) (by omega) (fun h40 => ?_) (fun h40 => ?_)
        · refine z_iinc (lv' := [(5, .int (zI (((i : Nat) : Int) + 1))), (6, .int (zI (51 + (2 * ((i : Nat) : Int))))), (4, .int (zI (pct N ((d : Int) - mn N 110) i))), (0, .ref b), (1, .int (zI (w))), (2, .int (zI (d))), (3, .int (zI (q)))]) hx hb dX9_costOf_68 hl (k := 1) rfl (by decide) rfl (fun ls hl => ?_)
          refine lv_goto (tgt := 6) hx hb dX9_costOf_71 (by decide) ?_
          have hl := lv_sub (l' := [(5, .int (zI (((i : Nat) : Int) + 1))), (4, .int (zI (pct N ((d : Int) - mn N 110) i))), (0, .ref b), (1, .int (zI (w))), (2, .int (zI (d))), (3, .int (zI (q)))]) hl [0, 2, 3, 4, 5, 6] rfl
          have hl : lv_has ls 7 [(5, .int (zI ((((i + 1) : Nat) : Int)))), (4, .int (zI (pct N ((d : Int) - mn N 110) (i + 1)))), (0, .ref b), (1, .int (zI (w))), (2, .int (zI (d))), (3, .int (zI (q)))] := lv_cg (lvE (congrArg zI (by omega)) (lvE (congrArg zI (by first | (rw [pct, if_pos (by omega)]) | (rw [pct, if_neg (by omega)]))) (lvR (lvR (lvR (lvR (rfl))))))) hl
          exact ih (i + 1) (by omega) (by omega) ls hl
        · refine lv_aload_n hx hb dX9_costOf_43 rfl (lv_at hl 3 rfl) ?_
          refine va_get (D := g.1) (ci := 9) (v := .ref n) (C := RX9) (T := TX9) (N := 15) hx hb hts hinX9 hown hK hP 0 rfl rfl 11 (by decide) k70 (fun _ h9 => h9) hf dX9_costOf_44 ?_
          refine lv_iload hx hb dX9_costOf_47 (lv_at hl 0 rfl) ?_
          refine lv_iconst (v := zI (1)) hx hb dX9_costOf_49 (by decide) ?_
          refine z_iadd hx hb dX9_costOf_50 ?_
          refine z_iald hx hb hK hP 1 0 rfl rfl (by decide) (52 + 2 * i) (by omega) (by omega) dX9_costOf_51 ?_
          refine z_top (y := zI (mn N (52 + 2 * i))) ((hN.n1 (by omega)).eq) ?_
          refine lv_iload hx hb dX9_costOf_52 (lv_at hl 2 rfl) ?_
          refine z_icmp_le (tgt := 68) hx hb dX9_costOf_54 (by decide) (by omega) (by omega) (fun h54 => ?_) (fun h54 => ?_)
          · refine z_iinc (lv' := [(5, .int (zI (((i : Nat) : Int) + 1))), (6, .int (zI (51 + (2 * ((i : Nat) : Int))))), (4, .int (zI (pct N ((d : Int) - mn N 110) i))), (0, .ref b), (1, .int (zI (w))), (2, .int (zI (d))), (3, .int (zI (q)))]) hx hb dX9_costOf_68 hl (k := 1) rfl (by decide) rfl (fun ls hl => ?_)
            refine lv_goto (tgt := 6) hx hb dX9_costOf_71 (by decide) ?_
            have hl := lv_sub (l' := [(5, .int (zI (((i : Nat) : Int) + 1))), (4, .int (zI (pct N ((d : Int) - mn N 110) i))), (0, .ref b), (1, .int (zI (w))), (2, .int (zI (d))), (3, .int (zI (q)))]) hl [0, 2, 3, 4, 5, 6] rfl
            have hl : lv_has ls 7 [(5, .int (zI ((((i + 1) : Nat) : Int)))), (4, .int (zI (pct N ((d : Int) - mn N 110) (i + 1)))), (0, .ref b), (1, .int (zI (w))), (2, .int (zI (d))), (3, .int (zI (q)))] := lv_cg (lvE (congrArg zI (by omega)) (lvE (congrArg zI (by first | (rw [pct, if_pos (by omega)]) | (rw [pct, if_neg (by omega)]))) (lvR (lvR (lvR (lvR (rfl))))))) hl
            exact ih (i + 1) (by omega) (by omega) ls hl
          · refine lv_aload_n hx hb dX9_costOf_57 rfl (lv_at hl 3 rfl) ?_
            refine va_get (D := g.1) (ci := 9) (v := .ref n) (C := RX9) (T := TX9) (N := 15) hx hb hts hinX9 hown hK hP 0 rfl rfl 11 (by decide) k70 (fun _ h9 => h9) hf dX9_costOf_58 ?_
            refine lv_iload hx hb dX9_costOf_61 (lv_at hl 0 rfl) ?_
            refine lv_iconst (v := zI (1)) hx hb dX9_costOf_63 (by decide) ?_
            refine z_iadd hx hb dX9_costOf_64 ?_
            refine z_iald hx hb hK hP 1 0 rfl rfl (by decide) (52 + 2 * i) (by omega) (by omega) dX9_costOf_65 ?_
            refine z_top (y := zI (mn N (52 + 2 * i))) ((hN.n1 (by omega)).eq) ?_
            refine lv_istore (lv' := [(4, .int (zI (mn N (52 + 2 * i)))), (6, .int (zI (51 + (2 * ((i : Nat) : Int))))), (5, .int (zI (((i : Nat) : Int)))), (0, .ref b), (1, .int (zI (w))), (2, .int (zI (d))), (3, .int (zI (q)))]) hx hb dX9_costOf_66 hl (by decide) rfl (fun ls hl => ?_)
            refine z_iinc (lv' := [(5, .int (zI (((i : Nat) : Int) + 1))), (4, .int (zI (mn N (52 + 2 * i)))), (6, .int (zI (51 + (2 * ((i : Nat) : Int))))), (0, .ref b), (1, .int (zI (w))), (2, .int (zI (d))), (3, .int (zI (q)))]) hx hb dX9_costOf_68 hl (k := 2) rfl (by decide) rfl (fun ls hl => ?_)
            refine lv_goto (tgt := 6) hx hb dX9_costOf_71 (by decide) ?_
            have hl := lv_sub (l' := [(5, .int (zI (((i : Nat) : Int) + 1))), (4, .int (zI (mn N (52 + 2 * i)))), (0, .ref b), (1, .int (zI (w))), (2, .int (zI (d))), (3, .int (zI (q)))]) hl [0, 1, 3, 4, 5, 6] rfl
            have hl : lv_has ls 7 [(5, .int (zI ((((i + 1) : Nat) : Int)))), (4, .int (zI (pct N ((d : Int) - mn N 110) (i + 1)))), (0, .ref b), (1, .int (zI (w))), (2, .int (zI (d))), (3, .int (zI (q)))] := lv_cg (lvE (congrArg zI (by omega)) (lvE (congrArg zI (by first | (rw [pct, if_pos (by omega)]) | (rw [pct, if_neg (by omega)]))) (lvR (lvR (lvR (lvR (rfl))))))) hl
            exact ih (i + 1) (by omega) (by omega) ls hl
  have hl := lv_sub (l' := [(5, .int (zI (0))), (4, .int (zI (0))), (0, .ref b), (1, .int (zI (w))), (2, .int (zI (d))), (3, .int (zI (q)))]) hl [0, 1, 2, 3, 4, 5] rfl
  have hl : lv_has ls 7 [(5, .int (zI (((0 : Nat) : Int)))), (4, .int (zI (pct N ((d : Int) - mn N 110) 0))), (0, .ref b), (1, .int (zI (w))), (2, .int (zI (d))), (3, .int (zI (q)))] := lv_cg (lvE (congrArg zI (rfl)) (lvE (congrArg zI (rfl)) (lvR (lvR (lvR (lvR (rfl))))))) hl
  exact loop6 _ (0) (Nat.lt_succ_self _) (Nat.zero_le _) ls hl

set_option maxHeartbeats 4000000 in
set_option maxRecDepth 100000 in
theorem c_X9_dueOf (l : Launch) (g : GG) (b n : Nat) (N : Nat → Int32) (hN : okN N) (w : Nat) (hw : w < 4) : Met l yX9_dueOf wsX9_dueOf ({ frames := 4, cells := 0, slots := 0, locals := 93 }) (gPc g [.ref b, .int (zI (w))] (rdN g b n N)) (vp_Si (fun r : Int32 => r = dueN N w)) 0 0 (fun _ => False) := by
  refine Met.ofW (cc := cX9_dueOf) (maxL := 3) (ret := (some .int)) (by decide) rfl ?_
  intro p e s m args below meth c s₁ B hml hv
  obtain ⟨rfl, hPre, hK⟩ := hv
  have hx := B.exec
  have hb := B.bytes
  have hr := B.returns
  have hts := atoms_spec (ws := wsX9_dueOf) B.pre
  have hown : s.vm.findClass RX9 = some m.cls := findClass_of_methodNamed B.named
  have hlocks := B.notSynchronized
  have hl := lv_entry ([.ref b, .int (zI (w))]) (n := 3) (Nat.le_of_ble_eq_true rfl)
  rw [lg_entry_eq]
  generalize (lg_sl ([.ref b, .int (zI (w))]) ++ List.replicate (3 - (lg_sl ([.ref b, .int (zI (w))])).length) Slot.unset).toArray = ls at hl ⊢
  have hl : lv_has ls 3 [(0, .ref b), (1, .int (zI (w)))] := hl
  obtain ⟨fs, hP, hf⟩ := id hPre
  refine lv_aload_n hx hb dX9_dueOf_0 rfl (lv_at hl 0 rfl) ?_
  refine lv_iload_n hx hb dX9_dueOf_1 rfl (lv_at hl 1 rfl) ?_
  refine lv_iconst (v := zI (1)) hx hb dX9_dueOf_2 (by decide) ?_
  refine vp_callSi (va_Run.run (va_runV (As := [.int (zI (w)), .int (zI (1))]) (rest := []) ⟨hx, hb, hml, hown, hts⟩ (c_X9_its l g (b) (n) (N) (w) (1) (hw) (by omega)) (cwV 2 hts gX9_dueOf_X9_its rfl rfl rfl (by decide +kernel) ⟨Nat.le_of_ble_eq_true rfl, Nat.le_of_ble_eq_true rfl⟩) (g_preV hPre hK (va_recv hK hP (q0 := 0) (ci := 9) rfl rfl)) rfl rfl hl.1 rfl (lv_room (Nat.le_of_ble_eq_true rfl)) dX9_dueOf_3 ⟨Nat.le_of_ble_eq_true rfl, Nat.le_of_ble_eq_true rfl⟩)) (fun r hr9 => ?_)
  subst hr9
  refine z_top (y := zI (mn N (59 + 13 * w))) ((show N (58 + 13 * w + 1) = N (59 + 13 * w) from congrArg N (by omega)).trans (hN.leave (by omega)).eq) ?_
  refine lv_aload_n hx hb dX9_dueOf_6 rfl (lv_at hl 0 rfl) ?_
  refine vp_callSi (va_Run.run (va_runV (As := []) (rest := [.int (zI (mn N (59 + 13 * w)))]) ⟨hx, hb, hml, hown, hts⟩ (c_X9_today l g (b) (n) (N) (hN)) (cwV 0 hts gX9_dueOf_X9_today rfl rfl rfl (by decide +kernel) ⟨Nat.le_of_ble_eq_true rfl, Nat.le_of_ble_eq_true rfl⟩) (g_preV hPre hK (va_recv hK hP (q0 := 0) (ci := 9) rfl rfl)) rfl rfl hl.1 rfl (lv_room (Nat.le_of_ble_eq_true rfl)) dX9_dueOf_7 ⟨Nat.le_of_ble_eq_true rfl, Nat.le_of_ble_eq_true rfl⟩)) (fun r hr9 => ?_)
  subst hr9
  refine z_imul hx hb dX9_dueOf_10 ?_
  refine lv_sipush (v := zI (364)) hx hb dX9_dueOf_11 (by decide) ?_
  refine z_idiv hx hb dX9_dueOf_14 (mul2b (hN.leave hw).le hN.td.le (by decide)) (by omega) ?_
  refine z_top (y := zI (ern N w)) (congrArg zI (by unfold ern; push_cast; rfl)) ?_
  refine lv_istore_n (lv' := [(2, .int (zI (ern N w))), (0, .ref b), (1, .int (zI (w)))]) hx hb dX9_dueOf_15 rfl hl (by decide) rfl (fun ls hl => ?_)
  refine lv_aload_n hx hb dX9_dueOf_16 rfl (lv_at hl 1 rfl) ?_
  refine lv_iload_n hx hb dX9_dueOf_17 rfl (lv_at hl 2 rfl) ?_
  refine lv_iconst (v := zI (2)) hx hb dX9_dueOf_18 (by decide) ?_
  refine vp_callSi (va_Run.run (va_runV (As := [.int (zI (w)), .int (zI (2))]) (rest := []) ⟨hx, hb, hml, hown, hts⟩ (c_X9_its l g (b) (n) (N) (w) (2) (hw) (by omega)) (cwV 2 hts gX9_dueOf_X9_its rfl rfl rfl (by decide +kernel) ⟨Nat.le_of_ble_eq_true rfl, Nat.le_of_ble_eq_true rfl⟩) (g_preV hPre hK (va_recv hK hP (q0 := 0) (ci := 9) rfl rfl)) rfl rfl hl.1 rfl (lv_room (Nat.le_of_ble_eq_true rfl)) dX9_dueOf_19 ⟨Nat.le_of_ble_eq_true rfl, Nat.le_of_ble_eq_true rfl⟩)) (fun r hr9 => ?_)
  subst hr9
  refine lv_aload_n hx hb dX9_dueOf_22 rfl (lv_at hl 1 rfl) ?_
  refine lv_iload_n hx hb dX9_dueOf_23 rfl (lv_at hl 2 rfl) ?_
  refine lv_iconst (v := zI (0)) hx hb dX9_dueOf_24 (by decide) ?_
  refine vp_callSi (va_Run.run (va_runV (As := [.int (zI (w)), .int (zI (0))]) (rest := [.int (N (58 + 13 * w + 2))]) ⟨hx, hb, hml, hown, hts⟩ (c_X9_its l g (b) (n) (N) (w) (0) (hw) (by omega)) (cwV 2 hts gX9_dueOf_X9_its rfl rfl rfl (by decide +kernel) ⟨Nat.le_of_ble_eq_true rfl, Nat.le_of_ble_eq_true rfl⟩) (g_preV hPre hK (va_recv hK hP (q0 := 0) (ci := 9) rfl rfl)) rfl rfl hl.1 rfl (lv_room (Nat.le_of_ble_eq_true rfl)) dX9_dueOf_25 ⟨Nat.le_of_ble_eq_true rfl, Nat.le_of_ble_eq_true rfl⟩)) (fun r hr9 => ?_)
  subst hr9
  refine lv_imul hx hb dX9_dueOf_28 ?_
  refine lv_aload_n hx hb dX9_dueOf_29 rfl (lv_at hl 1 rfl) ?_
  refine lv_iload_n hx hb dX9_dueOf_30 rfl (lv_at hl 2 rfl) ?_
  refine lv_iconst (v := zI (0)) hx hb dX9_dueOf_31 (by decide) ?_
  refine vp_callSi (va_Run.run (va_runV (As := [.int (zI (w)), .int (zI (0))]) (rest := [.int ((N (58 + 13 * w + 2)) * (N (58 + 13 * w + 0)))]) ⟨hx, hb, hml, hown, hts⟩ (c_X9_its l g (b) (n) (N) (w) (0) (hw) (by omega)) (cwV 2 hts gX9_dueOf_X9_its rfl rfl rfl (by decide +kernel) ⟨Nat.le_of_ble_eq_true rfl, Nat.le_of_ble_eq_true rfl⟩) (g_preV hPre hK (va_recv hK hP (q0 := 0) (ci := 9) rfl rfl)) rfl rfl hl.1 rfl (lv_room (Nat.le_of_ble_eq_true rfl)) dX9_dueOf_32 ⟨Nat.le_of_ble_eq_true rfl, Nat.le_of_ble_eq_true rfl⟩)) (fun r hr9 => ?_)
  subst hr9
  refine lv_iload_n hx hb dX9_dueOf_35 rfl (lv_at hl 0 rfl) ?_
  refine lv_aload_n hx hb dX9_dueOf_36 rfl (lv_at hl 1 rfl) ?_
  refine lv_iload_n hx hb dX9_dueOf_37 rfl (lv_at hl 2 rfl) ?_
  refine lv_iconst (v := zI (0)) hx hb dX9_dueOf_38 (by decide) ?_
  refine lv_aload_n hx hb dX9_dueOf_39 rfl (lv_at hl 1 rfl) ?_
  refine vp_callSi (va_Run.run (va_runV (As := []) (rest := [.int (zI (0)), .int (zI (w)), .ref b, .int (zI (ern N w)), .int (N (58 + 13 * w + 0)), .int ((N (58 + 13 * w + 2)) * (N (58 + 13 * w + 0)))]) ⟨hx, hb, hml, hown, hts⟩ (c_X9_today l g (b) (n) (N) (hN)) (cwV 0 hts gX9_dueOf_X9_today rfl rfl rfl (by decide +kernel) ⟨Nat.le_of_ble_eq_true rfl, Nat.le_of_ble_eq_true rfl⟩) (g_preV hPre hK (va_recv hK hP (q0 := 0) (ci := 9) rfl rfl)) rfl rfl hl.1 rfl (lv_room (Nat.le_of_ble_eq_true rfl)) dX9_dueOf_40 ⟨Nat.le_of_ble_eq_true rfl, Nat.le_of_ble_eq_true rfl⟩)) (fun r hr9 => ?_)
  subst hr9
  refine vp_callSi (va_Run.run (va_runV (As := [.int (zI (w)), .int (zI (0)), .int (zI (mn N 110))]) (rest := [.int (zI (ern N w)), .int (N (58 + 13 * w + 0)), .int ((N (58 + 13 * w + 2)) * (N (58 + 13 * w + 0)))]) ⟨hx, hb, hml, hown, hts⟩ (c_X9_onLeave l g (b) (n) (N) (hN) (w) (0) ((mn N 110)) (hw) (by omega) (hN.td.le)) (cwV 3 hts gX9_dueOf_X9_onLeave rfl rfl rfl (by decide +kernel) ⟨Nat.le_of_ble_eq_true rfl, Nat.le_of_ble_eq_true rfl⟩) (g_preV hPre hK (va_recv hK hP (q0 := 0) (ci := 9) rfl rfl)) rfl rfl hl.1 rfl (lv_room (Nat.le_of_ble_eq_true rfl)) dX9_dueOf_43 ⟨Nat.le_of_ble_eq_true rfl, Nat.le_of_ble_eq_true rfl⟩)) (fun r hr9 => ?_)
  subst hr9
  refine z_isub hx hb dX9_dueOf_46 ?_
  refine lv_imul hx hb dX9_dueOf_47 ?_
  refine lv_iadd hx hb dX9_dueOf_48 ?_
  exact W.iret hx hb hr (fun tX htX hWX => ⟨_, rfl, rfl, htX⟩) (fun _ h9 => by cases h9) dX9_dueOf_49
