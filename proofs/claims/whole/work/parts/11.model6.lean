set_option maxHeartbeats 4000000 in
set_option maxRecDepth 100000 in
theorem c_X9_reaches (l : Launch) (g : GG) (a : Nat → Nat) (ha : aD a) (sc : Nat → Int32) (wd : Int64) (tp N rd sn : Nat → Int32) (hN : okN N) (v x : Int) (hv : R32 v) (hx0 : R32 x) : Met l yX9_reaches wsX9_reaches ({ frames := 3, cells := 0, slots := 0, locals := 68 }) (gPc g [.ref ((a 0)), .int (zI (v)), .int (zI (x))] (gP g (mW g a sc wd tp N rd sn))) (va_Qi (fun (r : Int32) (_ : Unit) => r = reachesF N v x) (fun (_ : Unit) (tS : State) => gP g (mW g a (upd sc 0 (zI (0))) wd tp N rd sn) tS.heap) (mA a)) 0 0 (mA a) := by
  refine Met.ofW (cc := cX9_reaches) (maxL := 6) (ret := (some .int)) (by decide) rfl ?_
  intro p e s m args below meth c s₁ B hml hv
  obtain ⟨rfl, hP, hK⟩ := hv
  have hx := B.exec
  have hb := B.bytes
  have hr := B.returns
  have hts := atoms_spec (ws := wsX9_reaches) B.pre
  have hown : s.vm.findClass RX9 = some m.cls := findClass_of_methodNamed B.named
  have hlocks := B.notSynchronized
  have hinX9 : ∀ w ∈ wsX90, w ∈ wsX9_reaches := by decide +kernel
  have k1 := hts (.fieldLink RX9 1 "HoursBankModel" "thrown" "I") (by decide +kernel)
  have k70 := hts (.fieldLink RX9 70 "HoursBankModel" "now" "[I") (by decide +kernel)
  have hl := lv_entry ([.ref ((a 0)), .int (zI (v)), .int (zI (x))]) (n := 6) (Nat.le_of_ble_eq_true rfl)
  rw [lg_entry_eq]
  generalize (lg_sl ([.ref ((a 0)), .int (zI (v)), .int (zI (x))]) ++ List.replicate (6 - (lg_sl ([.ref ((a 0)), .int (zI (v)), .int (zI (x))])).length) Slot.unset).toArray = ls at hl ⊢
  have hl : lv_has ls 6 [(0, .ref ((a 0))), (1, .int (zI (v))), (2, .int (zI (x)))] := hl
  have hS : va_S (mA a) s.heap s.heap [] := va_S.rf
  obtain ⟨H, hH9⟩ : ∃ H, H = s.heap := ⟨_, rfl⟩
  obtain ⟨locs, hL9⟩ : ∃ x : List Loc, x = [] := ⟨_, rfl⟩
  have hP : gP g (mW g a sc wd tp N rd sn) H := hH9 ▸ hP
  have hS : va_S (mA a) s.heap H locs := by rw [hH9, hL9]; exact hS
  refine z_start hH9 hL9 ?_
  clear hH9 hL9
  refine lv_aload_n hx hb dX9_reaches_0 rfl (lv_at hl 0 rfl) ?_
  refine lv_iconst (v := zI (0)) hx hb dX9_reaches_1 (by decide) ?_
  refine va_put (D := g.1) (ci := 9) (v := .int (zI (0))) (ty := .int) (C := RX9) (T := TX9) (N := 15) hx hb hts hinX9 tyX9 tyX9_ok nmX9 hown hK hP (mD ha) hS 0 rfl rfl 0 (by decide) k1 (fun _ h9 => h9) rfl (by decide +kernel) rfl rfl (Nat.le_of_ble_eq_true rfl) dX9_reaches_2 (fun H locs hP _ hS => ?_)
  have hP : gP g (mW g a (upd sc 0 (zI (0))) wd tp N rd sn) H := hP
  refine lv_aload_n hx hb dX9_reaches_5 rfl (lv_at hl 0 rfl) ?_
  refine lv_iload_n hx hb dX9_reaches_6 rfl (lv_at hl 1 rfl) ?_
  refine vp_callSi (va_Run.run (va_runV (As := [.int (zI (v))]) (rest := []) ⟨hx, hb, hml, hown, hts⟩ (c_X9_isHere l g ((a 0)) ((a 2)) (N) (hN) (v) (hv)) (cwV 1 hts gX9_reaches_X9_isHere rfl rfl rfl (by decide +kernel) ⟨Nat.le_of_ble_eq_true rfl, Nat.le_of_ble_eq_true rfl⟩) (g_preV (rdN_of hP) hK (va_recv hK hP (q0 := 0) (ci := 9) rfl rfl)) rfl rfl hl.1 rfl (lv_room (Nat.le_of_ble_eq_true rfl)) dX9_reaches_7 ⟨Nat.le_of_ble_eq_true rfl, Nat.le_of_ble_eq_true rfl⟩)) (fun r hr9 => ?_)
  subst hr9
  refine z_bz_eq (tgt := 24) hx hb dX9_reaches_10 (by decide) (fun h10 => ?_) (fun h10 => ?_)
  · refine lv_iconst (v := zI (-1)) hx hb dX9_reaches_24 (by decide) ?_
    exact W.iret hx hb hr (fun tX htX hWX => ⟨⟨_, (), rfl, by unfold reachesF; first | rw [if_neg (fun q9 => h10 q9.1)] | rw [if_neg (fun q9 => h21 q9.2)], g_at htX (hP)⟩, hS.F htX⟩) hS.2.2 dX9_reaches_25
  · refine lv_iload_n hx hb dX9_reaches_13 rfl (lv_at hl 2 rfl) ?_
    refine lv_bipush (v := zI (-96)) hx hb dX9_reaches_14 (by decide) ?_
    refine lv_bipush (v := zI (96)) hx hb dX9_reaches_16 (by decide) ?_
    refine vp_callSi (va_Run.run (va_runS (As := [.int (zI (x)), .int (zI ((-96))), .int (zI (96))]) (rest := []) ⟨hx, hb, hml, hown, hts⟩ (c_X9_isIn l (x) ((-96)) (96) (hx0) (by omega) (by omega)) (va_cwS 3 hts gX9_reaches_X9_isIn rfl rfl rfl (by decide +kernel) ⟨Nat.le_of_ble_eq_true rfl, Nat.le_of_ble_eq_true rfl⟩) g_preS0 rfl rfl hl.1 rfl (lv_room (Nat.le_of_ble_eq_true rfl)) dX9_reaches_18 ⟨Nat.le_of_ble_eq_true rfl, Nat.le_of_ble_eq_true rfl⟩)) (fun r hr9 => ?_)
    subst hr9
    refine z_bz_ne (tgt := 26) hx hb dX9_reaches_21 (by decide) (fun h21 => ?_) (fun h21 => ?_)
    · have hq := hN.nw.le
      obtain ⟨⟨hv0, hv1⟩, hgo⟩ := h10
      obtain ⟨w, rfl⟩ := Int.eq_ofNat_of_zero_le hv0
      have hw : w < 4 := by omega
      have hbl := hN.bal hw
      have hlo := hN.lo.le
      have hhi := hN.hi.le
      have htd := hN.td.le
      refine lv_aload_n hx hb dX9_reaches_26 rfl (lv_at hl 0 rfl) ?_
      refine lv_iload_n hx hb dX9_reaches_27 rfl (lv_at hl 1 rfl) ?_
      refine lv_iconst (v := zI (2)) hx hb dX9_reaches_28 (by decide) ?_
      refine vp_callSi (va_Run.run (va_runV (As := [.int (zI ((w : Int))), .int (zI (2))]) (rest := []) ⟨hx, hb, hml, hown, hts⟩ (c_X9_its l g ((a 0)) ((a 2)) (N) (w) (2) (hw) (by omega)) (cwV 2 hts gX9_reaches_X9_its rfl rfl rfl (by decide +kernel) ⟨Nat.le_of_ble_eq_true rfl, Nat.le_of_ble_eq_true rfl⟩) (g_preV (rdN_of hP) hK (va_recv hK hP (q0 := 0) (ci := 9) rfl rfl)) rfl rfl hl.1 rfl (lv_room (Nat.le_of_ble_eq_true rfl)) dX9_reaches_29 ⟨Nat.le_of_ble_eq_true rfl, Nat.le_of_ble_eq_true rfl⟩)) (fun r hr9 => ?_)
      subst hr9
      refine z_top (y := zI ((N (58 + 13 * w + 2)).toInt)) (zI_of _) ?_
      refine lv_istore_n (lv' := [(3, .int (zI ((N (58 + 13 * w + 2)).toInt))), (0, .ref ((a 0))), (1, .int (zI ((w : Int)))), (2, .int (zI (x)))]) hx hb dX9_reaches_32 rfl hl (by decide) rfl (fun ls hl => ?_)
      refine lv_aload_n hx hb dX9_reaches_33 rfl (lv_at hl 1 rfl) ?_
      refine vp_callSi (va_Run.run (va_runV (As := []) (rest := []) ⟨hx, hb, hml, hown, hts⟩ (c_X9_today l g ((a 0)) ((a 2)) (N) (hN)) (cwV 0 hts gX9_reaches_X9_today rfl rfl rfl (by decide +kernel) ⟨Nat.le_of_ble_eq_true rfl, Nat.le_of_ble_eq_true rfl⟩) (g_preV (rdN_of hP) hK (va_recv hK hP (q0 := 0) (ci := 9) rfl rfl)) rfl rfl hl.1 rfl (lv_room (Nat.le_of_ble_eq_true rfl)) dX9_reaches_34 ⟨Nat.le_of_ble_eq_true rfl, Nat.le_of_ble_eq_true rfl⟩)) (fun r hr9 => ?_)
      subst hr9
      refine lv_istore (lv' := [(4, .int (zI (mn N 110))), (3, .int (zI ((N (58 + 13 * w + 2)).toInt))), (0, .ref ((a 0))), (1, .int (zI ((w : Int)))), (2, .int (zI (x)))]) hx hb dX9_reaches_37 hl (by decide) rfl (fun ls hl => ?_)
      have loop39 : ∀ (K9 : Nat) (i : Nat) (B1 : Int) (hK9 : 364 - mn N 110 - i < K9) (hi : i ≤ 364 - mn N 110) (hB : -(mn N 0 : Int) ≤ B1 ∧ B1 ≤ mn N 1) (hinv : rchF N w x (N (58 + 13 * w + 2)).toInt (mn N 110) (364 - mn N 110) = rchF N w x B1 (mn N 110 + i) (364 - mn N 110 - i)) (H : Heap) (locs : List Loc) (hP : gP g (mW g a (upd sc 0 (zI (0))) wd tp N rd sn) H) (hS : va_S (mA a) s.heap H locs) (ls : Array Slot) (hl : lv_has ls 6 [(4, .int (zI (((mn N 110 + i : Nat) : Int)))), (3, .int (zI (B1))), (0, .ref ((a 0))), (1, .int (zI ((w : Int)))), (2, .int (zI (x)))]), W p l e (headSpec wsX9_reaches ({ frames := 3, cells := 0, slots := 0, locals := 68 })).room s m ([.ref ((a 0)), .int (zI ((w : Int))), .int (zI (x))] : List Value).toArray below meth c H locs 0 0 (MQ below (va_Qi (fun (r : Int32) (_ : Unit) => r = reachesF N (w : Int) x) (fun (_ : Unit) (tS : State) => gP g (mW g a (upd sc 0 (zI (0))) wd tp N rd sn) tS.heap) (mA a)) ([.ref ((a 0)), .int (zI ((w : Int))), .int (zI (x))] : List Value).toArray s 0 0 (mA a)) (F0 m 39 ls []) := by
        intro K9
        induction K9 with
        | zero => intro i B1 hK9; exact absurd hK9 (Nat.not_lt_zero _)
        | succ K9 ih =>
          intro i B1 hK9 hi hB hinv H locs hP hS ls hl
          refine lv_iload hx hb dX9_reaches_39 (lv_at hl 0 rfl) ?_
          refine lv_sipush (v := zI (364)) hx hb dX9_reaches_41 (by decide) ?_
          refine z_icmp_ge (tgt := 135) hx hb dX9_reaches_44 (by decide) (by omega) (by omega) (fun h44 => ?_) (fun h44 => ?_)
          · refine lv_bipush (v := zI (-2)) hx hb dX9_reaches_135 (by decide) ?_
            exact W.iret hx hb hr (fun tX htX hWX => ⟨⟨_, (), rfl, by unfold reachesF; rw [if_pos ⟨⟨⟨hv0, hv1⟩, hgo⟩, h21⟩]; exact congrArg zI ((hinv.trans (by rw [show 364 - mn N 110 - i = 0 by omega]; rfl)).symm), g_at htX (hP)⟩, hS.F htX⟩) hS.2.2 dX9_reaches_137
          · have hk9 := hN.knd hw (d := mn N 110 + i) (by omega)
            have hp9 := plan_le hN hw (d := mn N 110 + i) (by omega)
            refine lv_aload_n hx hb dX9_reaches_47 rfl (lv_at hl 2 rfl) ?_
            refine lv_iload_n hx hb dX9_reaches_48 rfl (lv_at hl 3 rfl) ?_
            refine lv_iload hx hb dX9_reaches_49 (lv_at hl 0 rfl) ?_
            refine vp_callSi (va_Run.run (va_runV (As := [.int (zI ((w : Int))), .int (zI (((mn N 110 + i : Nat) : Int)))]) (rest := []) ⟨hx, hb, hml, hown, hts⟩ (c_X9_kindOf l g ((a 0)) ((a 2)) (N) (hN) (w) ((mn N 110 + i)) (hw) (by omega)) (cwV 2 hts gX9_reaches_X9_kindOf rfl rfl rfl (by decide +kernel) ⟨Nat.le_of_ble_eq_true rfl, Nat.le_of_ble_eq_true rfl⟩) (g_preV (rdN_of hP) hK (va_recv hK hP (q0 := 0) (ci := 9) rfl rfl)) rfl rfl hl.1 rfl (lv_room (Nat.le_of_ble_eq_true rfl)) dX9_reaches_51 ⟨Nat.le_of_ble_eq_true rfl, Nat.le_of_ble_eq_true rfl⟩)) (fun r hr9 => ?_)
            subst hr9
            refine z_if_eq (tgt := 60) hx hb dX9_reaches_54 (by decide) (by omega) (fun h54 => ?_) (fun h54 => ?_)
            · refine lv_aload_n hx hb dX9_reaches_60 rfl (lv_at hl 2 rfl) ?_
              refine lv_iload_n hx hb dX9_reaches_61 rfl (lv_at hl 3 rfl) ?_
              refine lv_iload hx hb dX9_reaches_62 (lv_at hl 0 rfl) ?_
              refine vp_callSi (va_Run.run (va_runV (As := [.int (zI ((w : Int))), .int (zI (((mn N 110 + i : Nat) : Int)))]) (rest := []) ⟨hx, hb, hml, hown, hts⟩ (c_X9_plannedOf l g ((a 0)) ((a 2)) (N) (hN) (w) ((mn N 110 + i)) (hw) (by omega)) (cwV 2 hts gX9_reaches_X9_plannedOf rfl rfl rfl (by decide +kernel) ⟨Nat.le_of_ble_eq_true rfl, Nat.le_of_ble_eq_true rfl⟩) (g_preV (rdN_of hP) hK (va_recv hK hP (q0 := 0) (ci := 9) rfl rfl)) rfl rfl hl.1 rfl (lv_room (Nat.le_of_ble_eq_true rfl)) dX9_reaches_64 ⟨Nat.le_of_ble_eq_true rfl, Nat.le_of_ble_eq_true rfl⟩)) (fun r hr9 => ?_)
              subst hr9
              refine lv_iload_n hx hb dX9_reaches_67 rfl (lv_at hl 4 rfl) ?_
              refine z_iadd hx hb dX9_reaches_68 ?_
              refine lv_istore (lv' := [(5, .int (zI ((plan N w (mn N 110 + i)) + x))), (4, .int (zI (((mn N 110 + i : Nat) : Int)))), (3, .int (zI (B1))), (0, .ref ((a 0))), (1, .int (zI ((w : Int)))), (2, .int (zI (x)))]) hx hb dX9_reaches_69 hl (by decide) rfl (fun ls hl => ?_)
              refine lv_iload_n hx hb dX9_reaches_71 rfl (lv_at hl 2 rfl) ?_
              refine lv_iload hx hb dX9_reaches_72 (lv_at hl 0 rfl) ?_
              refine z_if_ge (tgt := 81) hx hb dX9_reaches_74 (by decide) (by omega) (fun h74 => ?_) (fun h74 => ?_)
              · refine lv_iload hx hb dX9_reaches_81 (lv_at hl 0 rfl) ?_
                refine lv_bipush (v := zI (96)) hx hb dX9_reaches_83 (by decide) ?_
                refine z_icmp_le (tgt := 93) hx hb dX9_reaches_85 (by decide) (by omega) (by omega) (fun h85 => ?_) (fun h85 => ?_)
                · refine lv_iload hx hb dX9_reaches_93 (lv_at hl 0 rfl) ?_
                  refine z_top (y := zI (clampI (plan N w (mn N 110 + i) + x))) (congrArg zI (by unfold clampI; (repeat' split) <;> omega)) ?_
                  refine lv_aload_n hx hb dX9_reaches_95 rfl (lv_at hl 3 rfl) ?_
                  refine lv_iload_n hx hb dX9_reaches_96 rfl (lv_at hl 4 rfl) ?_
                  refine lv_iload hx hb dX9_reaches_97 (lv_at hl 1 rfl) ?_
                  refine vp_callSi (va_Run.run (va_runV (As := [.int (zI ((w : Int))), .int (zI (((mn N 110 + i : Nat) : Int)))]) (rest := [.int (zI (clampI (plan N w (mn N 110 + i) + x))), .int (zI (B1))]) ⟨hx, hb, hml, hown, hts⟩ (c_X9_plannedOf l g ((a 0)) ((a 2)) (N) (hN) (w) ((mn N 110 + i)) (hw) (by omega)) (cwV 2 hts gX9_reaches_X9_plannedOf rfl rfl rfl (by decide +kernel) ⟨Nat.le_of_ble_eq_true rfl, Nat.le_of_ble_eq_true rfl⟩) (g_preV (rdN_of hP) hK (va_recv hK hP (q0 := 0) (ci := 9) rfl rfl)) rfl rfl hl.1 rfl (lv_room (Nat.le_of_ble_eq_true rfl)) dX9_reaches_99 ⟨Nat.le_of_ble_eq_true rfl, Nat.le_of_ble_eq_true rfl⟩)) (fun r hr9 => ?_)
                  subst hr9
                  have hc9 : 0 ≤ clampI (plan N w (mn N 110 + i) + x) ∧ clampI (plan N w (mn N 110 + i) + x) ≤ 96 := by unfold clampI; (repeat' split) <;> omega
                  refine z_isub hx hb dX9_reaches_102 ?_
                  refine z_iadd hx hb dX9_reaches_103 ?_
                  refine lv_istore_n (lv' := [(3, .int (zI (B1 + ((clampI (plan N w (mn N 110 + i) + x)) - (plan N w (mn N 110 + i)))))), (5, .int (zI ((plan N w (mn N 110 + i)) + x))), (4, .int (zI (((mn N 110 + i : Nat) : Int)))), (0, .ref ((a 0))), (1, .int (zI ((w : Int)))), (2, .int (zI (x)))]) hx hb dX9_reaches_104 rfl hl (by decide) rfl (fun ls hl => ?_)
                  refine lv_iload_n hx hb dX9_reaches_105 rfl (lv_at hl 0 rfl) ?_
                  refine lv_aload_n hx hb dX9_reaches_106 rfl (lv_at hl 3 rfl) ?_
                  refine va_get (D := g.1) (ci := 9) (v := .ref ((a 2))) (C := RX9) (T := TX9) (N := 15) hx hb hts hinX9 hown hK hP 0 rfl rfl 11 (by decide) k70 (fun _ h9 => h9) rfl dX9_reaches_107 ?_
                  refine lv_iconst (v := zI (1)) hx hb dX9_reaches_110 (by decide) ?_
                  refine z_iald hx hb hK hP 2 0 rfl rfl (by decide) (1) (by omega) (by omega) dX9_reaches_111 ?_
                  refine z_top (y := zI (mn N 1)) (hN.hi.eq) ?_
                  refine z_icmp_gt (tgt := 126) hx hb dX9_reaches_112 (by decide) (by omega) (by omega) (fun h112 => ?_) (fun h112 => ?_)
                  · refine lv_iload hx hb dX9_reaches_126 (lv_at hl 2 rfl) ?_
                    exact W.iret hx hb hr (fun tX htX hWX => ⟨⟨_, (), rfl, by unfold reachesF; rw [if_pos ⟨⟨⟨hv0, hv1⟩, hgo⟩, h21⟩]; exact congrArg zI ((hinv.trans (by rw [show 364 - mn N 110 - i = 364 - mn N 110 - (i + 1) + 1 by omega, rchF_s2 (by omega) (by omega)])).symm), g_at htX (hP)⟩, hS.F htX⟩) hS.2.2 dX9_reaches_128
                  · refine lv_iload_n hx hb dX9_reaches_115 rfl (lv_at hl 0 rfl) ?_
                    refine lv_aload_n hx hb dX9_reaches_116 rfl (lv_at hl 3 rfl) ?_
                    refine va_get (D := g.1) (ci := 9) (v := .ref ((a 2))) (C := RX9) (T := TX9) (N := 15) hx hb hts hinX9 hown hK hP 0 rfl rfl 11 (by decide) k70 (fun _ h9 => h9) rfl dX9_reaches_117 ?_
                    refine lv_iconst (v := zI (0)) hx hb dX9_reaches_120 (by decide) ?_
                    refine z_iald hx hb hK hP 2 0 rfl rfl (by decide) (0) (by omega) (by omega) dX9_reaches_121 ?_
                    refine z_top (y := zI (mn N 0)) (hN.lo.eq) ?_
                    refine z_ineg hx hb dX9_reaches_122 ?_
                    refine z_icmp_ge (tgt := 129) hx hb dX9_reaches_123 (by decide) (by omega) (by omega) (fun h123 => ?_) (fun h123 => ?_)
                    · refine z_iinc (lv' := [(4, .int (zI (((mn N 110 + i : Nat) : Int) + 1))), (3, .int (zI (B1 + ((clampI (plan N w (mn N 110 + i) + x)) - (plan N w (mn N 110 + i)))))), (5, .int (zI ((plan N w (mn N 110 + i)) + x))), (0, .ref ((a 0))), (1, .int (zI ((w : Int)))), (2, .int (zI (x)))]) hx hb dX9_reaches_129 hl (k := 2) rfl (by decide) rfl (fun ls hl => ?_)
                      refine lv_goto (tgt := 39) hx hb dX9_reaches_132 (by decide) ?_
                      have hl := lv_sub (l' := [(4, .int (zI (((mn N 110 + i : Nat) : Int) + 1))), (3, .int (zI (B1 + ((clampI (plan N w (mn N 110 + i) + x)) - (plan N w (mn N 110 + i)))))), (0, .ref ((a 0))), (1, .int (zI ((w : Int)))), (2, .int (zI (x)))]) hl [0, 1, 3, 4, 5] rfl
                      have hl : lv_has ls 6 [(4, .int (zI (((mn N 110 + (i + 1) : Nat) : Int)))), (3, .int (zI ((B1 + ((clampI (plan N w (mn N 110 + i) + x)) - (plan N w (mn N 110 + i))))))), (0, .ref ((a 0))), (1, .int (zI ((w : Int)))), (2, .int (zI (x)))] := lv_cg (lvE (congrArg zI (by omega)) (lvE (congrArg zI (by omega)) (lvR (lvR (lvR (rfl)))))) hl
                      exact ih (i + 1) (B1 + ((clampI (plan N w (mn N 110 + i) + x)) - (plan N w (mn N 110 + i)))) (by omega) (by omega) (by omega) (hinv.trans (by first | (rw [show 364 - mn N 110 - i = 364 - mn N 110 - (i + 1) + 1 by omega, rchF_s1 (by omega)]; rfl) | (rw [show 364 - mn N 110 - i = 364 - mn N 110 - (i + 1) + 1 by omega, rchF_s3 (by omega) (by omega)]; rfl))) H locs (hP) hS ls hl
                    · refine lv_iload hx hb dX9_reaches_126 (lv_at hl 2 rfl) ?_
                      exact W.iret hx hb hr (fun tX htX hWX => ⟨⟨_, (), rfl, by unfold reachesF; rw [if_pos ⟨⟨⟨hv0, hv1⟩, hgo⟩, h21⟩]; exact congrArg zI ((hinv.trans (by rw [show 364 - mn N 110 - i = 364 - mn N 110 - (i + 1) + 1 by omega, rchF_s2 (by omega) (by omega)])).symm), g_at htX (hP)⟩, hS.F htX⟩) hS.2.2 dX9_reaches_128
                · refine lv_bipush (v := zI (96)) hx hb dX9_reaches_88 (by decide) ?_
                  refine lv_goto (tgt := 95) hx hb dX9_reaches_90 (by decide) ?_
                  refine z_top (y := zI (clampI (plan N w (mn N 110 + i) + x))) (congrArg zI (by unfold clampI; (repeat' split) <;> omega)) ?_
                  refine lv_aload_n hx hb dX9_reaches_95 rfl (lv_at hl 3 rfl) ?_
                  refine lv_iload_n hx hb dX9_reaches_96 rfl (lv_at hl 4 rfl) ?_
                  refine lv_iload hx hb dX9_reaches_97 (lv_at hl 1 rfl) ?_
                  refine vp_callSi (va_Run.run (va_runV (As := [.int (zI ((w : Int))), .int (zI (((mn N 110 + i : Nat) : Int)))]) (rest := [.int (zI (clampI (plan N w (mn N 110 + i) + x))), .int (zI (B1))]) ⟨hx, hb, hml, hown, hts⟩ (c_X9_plannedOf l g ((a 0)) ((a 2)) (N) (hN) (w) ((mn N 110 + i)) (hw) (by omega)) (cwV 2 hts gX9_reaches_X9_plannedOf rfl rfl rfl (by decide +kernel) ⟨Nat.le_of_ble_eq_true rfl, Nat.le_of_ble_eq_true rfl⟩) (g_preV (rdN_of hP) hK (va_recv hK hP (q0 := 0) (ci := 9) rfl rfl)) rfl rfl hl.1 rfl (lv_room (Nat.le_of_ble_eq_true rfl)) dX9_reaches_99 ⟨Nat.le_of_ble_eq_true rfl, Nat.le_of_ble_eq_true rfl⟩)) (fun r hr9 => ?_)
                  subst hr9
                  have hc9 : 0 ≤ clampI (plan N w (mn N 110 + i) + x) ∧ clampI (plan N w (mn N 110 + i) + x) ≤ 96 := by unfold clampI; (repeat' split) <;> omega
                  refine z_isub hx hb dX9_reaches_102 ?_
                  refine z_iadd hx hb dX9_reaches_103 ?_
                  refine lv_istore_n (lv' := [(3, .int (zI (B1 + ((clampI (plan N w (mn N 110 + i) + x)) - (plan N w (mn N 110 + i)))))), (5, .int (zI ((plan N w (mn N 110 + i)) + x))), (4, .int (zI (((mn N 110 + i : Nat) : Int)))), (0, .ref ((a 0))), (1, .int (zI ((w : Int)))), (2, .int (zI (x)))]) hx hb dX9_reaches_104 rfl hl (by decide) rfl (fun ls hl => ?_)
                  refine lv_iload_n hx hb dX9_reaches_105 rfl (lv_at hl 0 rfl) ?_
                  refine lv_aload_n hx hb dX9_reaches_106 rfl (lv_at hl 3 rfl) ?_
                  refine va_get (D := g.1) (ci := 9) (v := .ref ((a 2))) (C := RX9) (T := TX9) (N := 15) hx hb hts hinX9 hown hK hP 0 rfl rfl 11 (by decide) k70 (fun _ h9 => h9) rfl dX9_reaches_107 ?_
                  refine lv_iconst (v := zI (1)) hx hb dX9_reaches_110 (by decide) ?_
                  refine z_iald hx hb hK hP 2 0 rfl rfl (by decide) (1) (by omega) (by omega) dX9_reaches_111 ?_
                  refine z_top (y := zI (mn N 1)) (hN.hi.eq) ?_
                  refine z_icmp_gt (tgt := 126) hx hb dX9_reaches_112 (by decide) (by omega) (by omega) (fun h112 => ?_) (fun h112 => ?_)
                  · refine lv_iload hx hb dX9_reaches_126 (lv_at hl 2 rfl) ?_
                    exact W.iret hx hb hr (fun tX htX hWX => ⟨⟨_, (), rfl, by unfold reachesF; rw [if_pos ⟨⟨⟨hv0, hv1⟩, hgo⟩, h21⟩]; exact congrArg zI ((hinv.trans (by rw [show 364 - mn N 110 - i = 364 - mn N 110 - (i + 1) + 1 by omega, rchF_s2 (by omega) (by omega)])).symm), g_at htX (hP)⟩, hS.F htX⟩) hS.2.2 dX9_reaches_128
                  · refine lv_iload_n hx hb dX9_reaches_115 rfl (lv_at hl 0 rfl) ?_
                    refine lv_aload_n hx hb dX9_reaches_116 rfl (lv_at hl 3 rfl) ?_
                    refine va_get (D := g.1) (ci := 9) (v := .ref ((a 2))) (C := RX9) (T := TX9) (N := 15) hx hb hts hinX9 hown hK hP 0 rfl rfl 11 (by decide) k70 (fun _ h9 => h9) rfl dX9_reaches_117 ?_
                    refine lv_iconst (v := zI (0)) hx hb dX9_reaches_120 (by decide) ?_
                    refine z_iald hx hb hK hP 2 0 rfl rfl (by decide) (0) (by omega) (by omega) dX9_reaches_121 ?_
                    refine z_top (y := zI (mn N 0)) (hN.lo.eq) ?_
                    refine z_ineg hx hb dX9_reaches_122 ?_
                    refine z_icmp_ge (tgt := 129) hx hb dX9_reaches_123 (by decide) (by omega) (by omega) (fun h123 => ?_) (fun h123 => ?_)
                    · refine z_iinc (lv' := [(4, .int (zI (((mn N 110 + i : Nat) : Int) + 1))), (3, .int (zI (B1 + ((clampI (plan N w (mn N 110 + i) + x)) - (plan N w (mn N 110 + i)))))), (5, .int (zI ((plan N w (mn N 110 + i)) + x))), (0, .ref ((a 0))), (1, .int (zI ((w : Int)))), (2, .int (zI (x)))]) hx hb dX9_reaches_129 hl (k := 2) rfl (by decide) rfl (fun ls hl => ?_)
                      refine lv_goto (tgt := 39) hx hb dX9_reaches_132 (by decide) ?_
                      have hl := lv_sub (l' := [(4, .int (zI (((mn N 110 + i : Nat) : Int) + 1))), (3, .int (zI (B1 + ((clampI (plan N w (mn N 110 + i) + x)) - (plan N w (mn N 110 + i)))))), (0, .ref ((a 0))), (1, .int (zI ((w : Int)))), (2, .int (zI (x)))]) hl [0, 1, 3, 4, 5] rfl
                      have hl : lv_has ls 6 [(4, .int (zI (((mn N 110 + (i + 1) : Nat) : Int)))), (3, .int (zI ((B1 + ((clampI (plan N w (mn N 110 + i) + x)) - (plan N w (mn N 110 + i))))))), (0, .ref ((a 0))), (1, .int (zI ((w : Int)))), (2, .int (zI (x)))] := lv_cg (lvE (congrArg zI (by omega)) (lvE (congrArg zI (by omega)) (lvR (lvR (lvR (rfl)))))) hl
                      exact ih (i + 1) (B1 + ((clampI (plan N w (mn N 110 + i) + x)) - (plan N w (mn N 110 + i)))) (by omega) (by omega) (by omega) (hinv.trans (by first | (rw [show 364 - mn N 110 - i = 364 - mn N 110 - (i + 1) + 1 by omega, rchF_s1 (by omega)]; rfl) | (rw [show 364 - mn N 110 - i = 364 - mn N 110 - (i + 1) + 1 by omega, rchF_s3 (by omega) (by omega)]; rfl))) H locs (hP) hS ls hl
                    · refine lv_iload hx hb dX9_reaches_126 (lv_at hl 2 rfl) ?_
                      exact W.iret hx hb hr (fun tX htX hWX => ⟨⟨_, (), rfl, by unfold reachesF; rw [if_pos ⟨⟨⟨hv0, hv1⟩, hgo⟩, h21⟩]; exact congrArg zI ((hinv.trans (by rw [show 364 - mn N 110 - i = 364 - mn N 110 - (i + 1) + 1 by omega, rchF_s2 (by omega) (by omega)])).symm), g_at htX (hP)⟩, hS.F htX⟩) hS.2.2 dX9_reaches_128
              · refine lv_iconst (v := zI (0)) hx hb dX9_reaches_77 (by decide) ?_
                refine lv_goto (tgt := 95) hx hb dX9_reaches_78 (by decide) ?_
                refine z_top (y := zI (clampI (plan N w (mn N 110 + i) + x))) (congrArg zI (by unfold clampI; (repeat' split) <;> omega)) ?_
                refine lv_aload_n hx hb dX9_reaches_95 rfl (lv_at hl 3 rfl) ?_
                refine lv_iload_n hx hb dX9_reaches_96 rfl (lv_at hl 4 rfl) ?_
                refine lv_iload hx hb dX9_reaches_97 (lv_at hl 1 rfl) ?_
                refine vp_callSi (va_Run.run (va_runV (As := [.int (zI ((w : Int))), .int (zI (((mn N 110 + i : Nat) : Int)))]) (rest := [.int (zI (clampI (plan N w (mn N 110 + i) + x))), .int (zI (B1))]) ⟨hx, hb, hml, hown, hts⟩ (c_X9_plannedOf l g ((a 0)) ((a 2)) (N) (hN) (w) ((mn N 110 + i)) (hw) (by omega)) (cwV 2 hts gX9_reaches_X9_plannedOf rfl rfl rfl (by decide +kernel) ⟨Nat.le_of_ble_eq_true rfl, Nat.le_of_ble_eq_true rfl⟩) (g_preV (rdN_of hP) hK (va_recv hK hP (q0 := 0) (ci := 9) rfl rfl)) rfl rfl hl.1 rfl (lv_room (Nat.le_of_ble_eq_true rfl)) dX9_reaches_99 ⟨Nat.le_of_ble_eq_true rfl, Nat.le_of_ble_eq_true rfl⟩)) (fun r hr9 => ?_)
                subst hr9
                have hc9 : 0 ≤ clampI (plan N w (mn N 110 + i) + x) ∧ clampI (plan N w (mn N 110 + i) + x) ≤ 96 := by unfold clampI; (repeat' split) <;> omega
                refine z_isub hx hb dX9_reaches_102 ?_
                refine z_iadd hx hb dX9_reaches_103 ?_
                refine lv_istore_n (lv' := [(3, .int (zI (B1 + ((clampI (plan N w (mn N 110 + i) + x)) - (plan N w (mn N 110 + i)))))), (5, .int (zI ((plan N w (mn N 110 + i)) + x))), (4, .int (zI (((mn N 110 + i : Nat) : Int)))), (0, .ref ((a 0))), (1, .int (zI ((w : Int)))), (2, .int (zI (x)))]) hx hb dX9_reaches_104 rfl hl (by decide) rfl (fun ls hl => ?_)
                refine lv_iload_n hx hb dX9_reaches_105 rfl (lv_at hl 0 rfl) ?_
                refine lv_aload_n hx hb dX9_reaches_106 rfl (lv_at hl 3 rfl) ?_
                refine va_get (D := g.1) (ci := 9) (v := .ref ((a 2))) (C := RX9) (T := TX9) (N := 15) hx hb hts hinX9 hown hK hP 0 rfl rfl 11 (by decide) k70 (fun _ h9 => h9) rfl dX9_reaches_107 ?_
                refine lv_iconst (v := zI (1)) hx hb dX9_reaches_110 (by decide) ?_
                refine z_iald hx hb hK hP 2 0 rfl rfl (by decide) (1) (by omega) (by omega) dX9_reaches_111 ?_
                refine z_top (y := zI (mn N 1)) (hN.hi.eq) ?_
                refine z_icmp_gt (tgt := 126) hx hb dX9_reaches_112 (by decide) (by omega) (by omega) (fun h112 => ?_) (fun h112 => ?_)
                · refine lv_iload hx hb dX9_reaches_126 (lv_at hl 2 rfl) ?_
                  exact W.iret hx hb hr (fun tX htX hWX => ⟨⟨_, (), rfl, by unfold reachesF; rw [if_pos ⟨⟨⟨hv0, hv1⟩, hgo⟩, h21⟩]; exact congrArg zI ((hinv.trans (by rw [show 364 - mn N 110 - i = 364 - mn N 110 - (i + 1) + 1 by omega, rchF_s2 (by omega) (by omega)])).symm), g_at htX (hP)⟩, hS.F htX⟩) hS.2.2 dX9_reaches_128
                · refine lv_iload_n hx hb dX9_reaches_115 rfl (lv_at hl 0 rfl) ?_
                  refine lv_aload_n hx hb dX9_reaches_116 rfl (lv_at hl 3 rfl) ?_
                  refine va_get (D := g.1) (ci := 9) (v := .ref ((a 2))) (C := RX9) (T := TX9) (N := 15) hx hb hts hinX9 hown hK hP 0 rfl rfl 11 (by decide) k70 (fun _ h9 => h9) rfl dX9_reaches_117 ?_
                  refine lv_iconst (v := zI (0)) hx hb dX9_reaches_120 (by decide) ?_
                  refine z_iald hx hb hK hP 2 0 rfl rfl (by decide) (0) (by omega) (by omega) dX9_reaches_121 ?_
                  refine z_top (y := zI (mn N 0)) (hN.lo.eq) ?_
                  refine z_ineg hx hb dX9_reaches_122 ?_
                  refine z_icmp_ge (tgt := 129) hx hb dX9_reaches_123 (by decide) (by omega) (by omega) (fun h123 => ?_) (fun h123 => ?_)
                  · refine z_iinc (lv' := [(4, .int (zI (((mn N 110 + i : Nat) : Int) + 1))), (3, .int (zI (B1 + ((clampI (plan N w (mn N 110 + i) + x)) - (plan N w (mn N 110 + i)))))), (5, .int (zI ((plan N w (mn N 110 + i)) + x))), (0, .ref ((a 0))), (1, .int (zI ((w : Int)))), (2, .int (zI (x)))]) hx hb dX9_reaches_129 hl (k := 2) rfl (by decide) rfl (fun ls hl => ?_)
                    refine lv_goto (tgt := 39) hx hb dX9_reaches_132 (by decide) ?_
                    have hl := lv_sub (l' := [(4, .int (zI (((mn N 110 + i : Nat) : Int) + 1))), (3, .int (zI (B1 + ((clampI (plan N w (mn N 110 + i) + x)) - (plan N w (mn N 110 + i)))))), (0, .ref ((a 0))), (1, .int (zI ((w : Int)))), (2, .int (zI (x)))]) hl [0, 1, 3, 4, 5] rfl
                    have hl : lv_has ls 6 [(4, .int (zI (((mn N 110 + (i + 1) : Nat) : Int)))), (3, .int (zI ((B1 + ((clampI (plan N w (mn N 110 + i) + x)) - (plan N w (mn N 110 + i))))))), (0, .ref ((a 0))), (1, .int (zI ((w : Int)))), (2, .int (zI (x)))] := lv_cg (lvE (congrArg zI (by omega)) (lvE (congrArg zI (by omega)) (lvR (lvR (lvR (rfl)))))) hl
                    exact ih (i + 1) (B1 + ((clampI (plan N w (mn N 110 + i) + x)) - (plan N w (mn N 110 + i)))) (by omega) (by omega) (by omega) (hinv.trans (by first | (rw [show 364 - mn N 110 - i = 364 - mn N 110 - (i + 1) + 1 by omega, rchF_s1 (by omega)]; rfl) | (rw [show 364 - mn N 110 - i = 364 - mn N 110 - (i + 1) + 1 by omega, rchF_s3 (by omega) (by omega)]; rfl))) H locs (hP) hS ls hl
                  · refine lv_iload hx hb dX9_reaches_126 (lv_at hl 2 rfl) ?_
                    exact W.iret hx hb hr (fun tX htX hWX => ⟨⟨_, (), rfl, by unfold reachesF; rw [if_pos ⟨⟨⟨hv0, hv1⟩, hgo⟩, h21⟩]; exact congrArg zI ((hinv.trans (by rw [show 364 - mn N 110 - i = 364 - mn N 110 - (i + 1) + 1 by omega, rchF_s2 (by omega) (by omega)])).symm), g_at htX (hP)⟩, hS.F htX⟩) hS.2.2 dX9_reaches_128
            · refine lv_goto (tgt := 129) hx hb dX9_reaches_57 (by decide) ?_
              refine z_iinc (lv' := [(4, .int (zI (((mn N 110 + i : Nat) : Int) + 1))), (3, .int (zI (B1))), (0, .ref ((a 0))), (1, .int (zI ((w : Int)))), (2, .int (zI (x)))]) hx hb dX9_reaches_129 hl (k := 0) rfl (by decide) rfl (fun ls hl => ?_)
              refine lv_goto (tgt := 39) hx hb dX9_reaches_132 (by decide) ?_
              have hl := lv_sub (l' := [(4, .int (zI (((mn N 110 + i : Nat) : Int) + 1))), (3, .int (zI (B1))), (0, .ref ((a 0))), (1, .int (zI ((w : Int)))), (2, .int (zI (x)))]) hl [0, 1, 2, 3, 4] rfl
              have hl : lv_has ls 6 [(4, .int (zI (((mn N 110 + (i + 1) : Nat) : Int)))), (3, .int (zI (B1))), (0, .ref ((a 0))), (1, .int (zI ((w : Int)))), (2, .int (zI (x)))] := lv_cg (lvE (congrArg zI (by omega)) (lvR (lvR (lvR (lvR (rfl)))))) hl
              exact ih (i + 1) (B1) (by omega) (by omega) (by omega) (hinv.trans (by first | (rw [show 364 - mn N 110 - i = 364 - mn N 110 - (i + 1) + 1 by omega, rchF_s1 (by omega)]; rfl) | (rw [show 364 - mn N 110 - i = 364 - mn N 110 - (i + 1) + 1 by omega, rchF_s3 (by omega) (by omega)]; rfl))) H locs (hP) hS ls hl
      have hl := lv_sub (l' := [(4, .int (zI (mn N 110))), (3, .int (zI ((N (58 + 13 * w + 2)).toInt))), (0, .ref ((a 0))), (1, .int (zI ((w : Int)))), (2, .int (zI (x)))]) hl [0, 1, 2, 3, 4] rfl
      have hl : lv_has ls 6 [(4, .int (zI (((mn N 110 + 0 : Nat) : Int)))), (3, .int (zI (((N (58 + 13 * w + 2)).toInt)))), (0, .ref ((a 0))), (1, .int (zI ((w : Int)))), (2, .int (zI (x)))] := lv_cg (lvE (congrArg zI (by omega)) (lvE (congrArg zI (by omega)) (lvR (lvR (lvR (rfl)))))) hl
      exact loop39 _ (0) ((N (58 + 13 * w + 2)).toInt) (Nat.lt_succ_self _) (Nat.zero_le _) (by rw [show 58 + 13 * w + 2 = 60 + 13 * w by omega]; exact hbl) (rfl) H locs (hP) hS ls hl
    · refine lv_iconst (v := zI (-1)) hx hb dX9_reaches_24 (by decide) ?_
      exact W.iret hx hb hr (fun tX htX hWX => ⟨⟨_, (), rfl, by unfold reachesF; first | rw [if_neg (fun q9 => h10 q9.1)] | rw [if_neg (fun q9 => h21 q9.2)], g_at htX (hP)⟩, hS.F htX⟩) hS.2.2 dX9_reaches_25

set_option maxHeartbeats 4000000 in
set_option maxRecDepth 100000 in
theorem c_X9_cost (l : Launch) (g : GG) (a : Nat → Nat) (ha : aD a) (sc : Nat → Int32) (wd : Int64) (tp N rd sn : Nat → Int32) (hN : okN N) (v dd qq : Int) (hv : R32 v) (hdd : R32 dd) (hqq : R32 qq) : Met l yX9_cost wsX9_cost ({ frames := 4, cells := 0, slots := 0, locals := 94 }) (gPc g [.ref ((a 0)), .int (zI (v)), .int (zI (dd)), .int (zI (qq))] (gP g (mW g a sc wd tp N rd sn))) (va_Qi (fun (r : Int32) (_ : Unit) => r = costF N v dd qq) (fun (_ : Unit) (tS : State) => gP g (mW g a (upd sc 0 (zI (0))) wd tp N rd sn) tS.heap) (mA a)) 0 0 (mA a) := by
  refine Met.ofW (cc := cX9_cost) (maxL := 4) (ret := (some .int)) (by decide) rfl ?_
  intro p e s m args below meth c s₁ B hml hv
  obtain ⟨rfl, hP, hK⟩ := hv
  have hx := B.exec
  have hb := B.bytes
  have hr := B.returns
  have hts := atoms_spec (ws := wsX9_cost) B.pre
  have hown : s.vm.findClass RX9 = some m.cls := findClass_of_methodNamed B.named
  have hlocks := B.notSynchronized
  have hinX9 : ∀ w ∈ wsX90, w ∈ wsX9_cost := by decide +kernel
  have k1 := hts (.fieldLink RX9 1 "HoursBankModel" "thrown" "I") (by decide +kernel)
  have hl := lv_entry ([.ref ((a 0)), .int (zI (v)), .int (zI (dd)), .int (zI (qq))]) (n := 4) (Nat.le_of_ble_eq_true rfl)
  rw [lg_entry_eq]
  generalize (lg_sl ([.ref ((a 0)), .int (zI (v)), .int (zI (dd)), .int (zI (qq))]) ++ List.replicate (4 - (lg_sl ([.ref ((a 0)), .int (zI (v)), .int (zI (dd)), .int (zI (qq))])).length) Slot.unset).toArray = ls at hl ⊢
  have hl : lv_has ls 4 [(0, .ref ((a 0))), (1, .int (zI (v))), (2, .int (zI (dd))), (3, .int (zI (qq)))] := hl
  have hS : va_S (mA a) s.heap s.heap [] := va_S.rf
  obtain ⟨H, hH9⟩ : ∃ H, H = s.heap := ⟨_, rfl⟩
  obtain ⟨locs, hL9⟩ : ∃ x : List Loc, x = [] := ⟨_, rfl⟩
  have hP : gP g (mW g a sc wd tp N rd sn) H := hH9 ▸ hP
  have hS : va_S (mA a) s.heap H locs := by rw [hH9, hL9]; exact hS
  refine z_start hH9 hL9 ?_
  clear hH9 hL9
  refine lv_aload_n hx hb dX9_cost_0 rfl (lv_at hl 0 rfl) ?_
  refine lv_iconst (v := zI (0)) hx hb dX9_cost_1 (by decide) ?_
  refine va_put (D := g.1) (ci := 9) (v := .int (zI (0))) (ty := .int) (C := RX9) (T := TX9) (N := 15) hx hb hts hinX9 tyX9 tyX9_ok nmX9 hown hK hP (mD ha) hS 0 rfl rfl 0 (by decide) k1 (fun _ h9 => h9) rfl (by decide +kernel) rfl rfl (Nat.le_of_ble_eq_true rfl) dX9_cost_2 (fun H locs hP _ hS => ?_)
  have hP : gP g (mW g a (upd sc 0 (zI (0))) wd tp N rd sn) H := hP
  refine lv_aload_n hx hb dX9_cost_5 rfl (lv_at hl 0 rfl) ?_
  refine lv_iload_n hx hb dX9_cost_6 rfl (lv_at hl 1 rfl) ?_
  refine lv_iload_n hx hb dX9_cost_7 rfl (lv_at hl 2 rfl) ?_
  refine lv_iload_n hx hb dX9_cost_8 rfl (lv_at hl 3 rfl) ?_
  refine vp_callSi (va_Run.run (va_runV (As := [.int (zI (v)), .int (zI (dd)), .int (zI (qq))]) (rest := []) ⟨hx, hb, hml, hown, hts⟩ (c_X9_canPlan l g ((a 0)) ((a 2)) (N) (hN) (v) (dd) (qq) (hv) (hdd) (hqq)) (cwV 3 hts gX9_cost_X9_canPlan rfl rfl rfl (by decide +kernel) ⟨Nat.le_of_ble_eq_true rfl, Nat.le_of_ble_eq_true rfl⟩) (g_preV (rdN_of hP) hK (va_recv hK hP (q0 := 0) (ci := 9) rfl rfl)) rfl rfl hl.1 rfl (lv_room (Nat.le_of_ble_eq_true rfl)) dX9_cost_9 ⟨Nat.le_of_ble_eq_true rfl, Nat.le_of_ble_eq_true rfl⟩)) (fun r hr9 => ?_)
  subst hr9
  refine z_bz_eq (tgt := 25) hx hb dX9_cost_12 (by decide) (fun h12 => ?_) (fun h12 => ?_)
  · refine lv_iconst (v := zI (-1)) hx hb dX9_cost_25 (by decide) ?_
    exact W.iret hx hb hr (fun tX htX hWX => ⟨⟨_, (), rfl, by unfold costF; rw [if_neg h12], g_at htX (hP)⟩, hS.F htX⟩) hS.2.2 dX9_cost_26
  · have hq := hN.nw.le
    obtain ⟨w, rfl⟩ := Int.eq_ofNat_of_zero_le h12.1.1.1
    obtain ⟨d, rfl⟩ := Int.eq_ofNat_of_zero_le (show 0 ≤ dd by omega)
    obtain ⟨q, rfl⟩ := Int.eq_ofNat_of_zero_le h12.2.2.1.1
    refine lv_aload_n hx hb dX9_cost_15 rfl (lv_at hl 0 rfl) ?_
    refine lv_iload_n hx hb dX9_cost_16 rfl (lv_at hl 1 rfl) ?_
    refine lv_iload_n hx hb dX9_cost_17 rfl (lv_at hl 2 rfl) ?_
    refine lv_iload_n hx hb dX9_cost_18 rfl (lv_at hl 3 rfl) ?_
    refine vp_callSi (va_Run.run (va_runV (As := [.int (zI ((w : Int))), .int (zI ((d : Int))), .int (zI ((q : Int)))]) (rest := []) ⟨hx, hb, hml, hown, hts⟩ (c_X9_costOf l g ((a 0)) ((a 2)) (N) (hN) (w) (d) (q) (by omega) (by omega) (by omega)) (cwV 3 hts gX9_cost_X9_costOf rfl rfl rfl (by decide +kernel) ⟨Nat.le_of_ble_eq_true rfl, Nat.le_of_ble_eq_true rfl⟩) (g_preV (rdN_of hP) hK (va_recv hK hP (q0 := 0) (ci := 9) rfl rfl)) rfl rfl hl.1 rfl (lv_room (Nat.le_of_ble_eq_true rfl)) dX9_cost_19 ⟨Nat.le_of_ble_eq_true rfl, Nat.le_of_ble_eq_true rfl⟩)) (fun r hr9 => ?_)
    subst hr9
    refine lv_goto (tgt := 26) hx hb dX9_cost_22 (by decide) ?_
    exact W.iret hx hb hr (fun tX htX hWX => ⟨⟨_, (), rfl, by unfold costF; rw [if_pos h12]; rfl, g_at htX (hP)⟩, hS.F htX⟩) hS.2.2 dX9_cost_26

set_option maxHeartbeats 4000000 in
set_option maxRecDepth 100000 in
theorem c_X9_due (l : Launch) (g : GG) (a : Nat → Nat) (ha : aD a) (sc : Nat → Int32) (wd : Int64) (tp N rd sn : Nat → Int32) (hN : okN N) (v : Int) (hv : R32 v) : Met l yX9_due wsX9_due ({ frames := 5, cells := 0, slots := 0, locals := 115 }) (gPc g [.ref ((a 0)), .int (zI (v))] (gP g (mW g a sc wd tp N rd sn))) (va_Qi (fun (r : Int32) (_ : Unit) => r = (dueF N v).2) (fun (_ : Unit) (tS : State) => gP g (mW g a (upd sc 0 ((dueF N v).1)) wd tp N rd sn) tS.heap) (mA a)) 0 0 (mA a) := by
  refine Met.ofW (cc := cX9_due) (maxL := 2) (ret := (some .int)) (by decide) rfl ?_
  intro p e s m args below meth c s₁ B hml hv
  obtain ⟨rfl, hP, hK⟩ := hv
  have hx := B.exec
  have hb := B.bytes
  have hr := B.returns
  have hts := atoms_spec (ws := wsX9_due) B.pre
  have hown : s.vm.findClass RX9 = some m.cls := findClass_of_methodNamed B.named
  have hlocks := B.notSynchronized
  have hinX9 : ∀ w ∈ wsX90, w ∈ wsX9_due := by decide +kernel
  have k1 := hts (.fieldLink RX9 1 "HoursBankModel" "thrown" "I") (by decide +kernel)
  have hl := lv_entry ([.ref ((a 0)), .int (zI (v))]) (n := 2) (Nat.le_of_ble_eq_true rfl)
  rw [lg_entry_eq]
  generalize (lg_sl ([.ref ((a 0)), .int (zI (v))]) ++ List.replicate (2 - (lg_sl ([.ref ((a 0)), .int (zI (v))])).length) Slot.unset).toArray = ls at hl ⊢
  have hl : lv_has ls 2 [(0, .ref ((a 0))), (1, .int (zI (v)))] := hl
  have hS : va_S (mA a) s.heap s.heap [] := va_S.rf
  obtain ⟨H, hH9⟩ : ∃ H, H = s.heap := ⟨_, rfl⟩
  obtain ⟨locs, hL9⟩ : ∃ x : List Loc, x = [] := ⟨_, rfl⟩
  have hP : gP g (mW g a sc wd tp N rd sn) H := hH9 ▸ hP
  have hS : va_S (mA a) s.heap H locs := by rw [hH9, hL9]; exact hS
  refine z_start hH9 hL9 ?_
  clear hH9 hL9
  refine lv_aload_n hx hb dX9_due_0 rfl (lv_at hl 0 rfl) ?_
  refine lv_iconst (v := zI (0)) hx hb dX9_due_1 (by decide) ?_
  refine va_put (D := g.1) (ci := 9) (v := .int (zI (0))) (ty := .int) (C := RX9) (T := TX9) (N := 15) hx hb hts hinX9 tyX9 tyX9_ok nmX9 hown hK hP (mD ha) hS 0 rfl rfl 0 (by decide) k1 (fun _ h9 => h9) rfl (by decide +kernel) rfl rfl (Nat.le_of_ble_eq_true rfl) dX9_due_2 (fun H locs hP _ hS => ?_)
  have hP : gP g (mW g a (upd sc 0 (zI (0))) wd tp N rd sn) H := hP
  refine lv_aload_n hx hb dX9_due_5 rfl (lv_at hl 0 rfl) ?_
  refine lv_iload_n hx hb dX9_due_6 rfl (lv_at hl 1 rfl) ?_
  refine vp_callSi (va_Run.run (va_runV (As := [.int (zI (v))]) (rest := []) ⟨hx, hb, hml, hown, hts⟩ (c_X9_isHere l g ((a 0)) ((a 2)) (N) (hN) (v) (hv)) (cwV 1 hts gX9_due_X9_isHere rfl rfl rfl (by decide +kernel) ⟨Nat.le_of_ble_eq_true rfl, Nat.le_of_ble_eq_true rfl⟩) (g_preV (rdN_of hP) hK (va_recv hK hP (q0 := 0) (ci := 9) rfl rfl)) rfl rfl hl.1 rfl (lv_room (Nat.le_of_ble_eq_true rfl)) dX9_due_7 ⟨Nat.le_of_ble_eq_true rfl, Nat.le_of_ble_eq_true rfl⟩)) (fun r hr9 => ?_)
  subst hr9
  refine z_bz_eq (tgt := 21) hx hb dX9_due_10 (by decide) (fun h10 => ?_) (fun h10 => ?_)
  · have e9 : dueF N v = (zI 1, zI 0) := by unfold dueF; rw [if_neg h10]
    refine lv_aload_n hx hb dX9_due_21 rfl (lv_at hl 0 rfl) ?_
    refine va_calli (va_runV (As := []) (rest := []) ⟨hx, hb, hml, hown, hts⟩ (c_X9_refuse l g (a) (ha) ((upd sc 0 (zI (0)))) (wd) (tp) (N) (rd) (sn)) (cwV 0 hts gX9_due_X9_refuse rfl rfl rfl (by decide +kernel) ⟨Nat.le_of_ble_eq_true rfl, Nat.le_of_ble_eq_true rfl⟩) (g_preV hP hK (va_recv hK hP (q0 := 0) (ci := 9) rfl rfl)) rfl rfl hl.1 rfl (lv_room (Nat.le_of_ble_eq_true rfl)) dX9_due_22 ⟨Nat.le_of_ble_eq_true rfl, Nat.le_of_ble_eq_true rfl⟩) hS (fun q _ h => h) (fun q h => h) (fun r u9 t9 H1 locs ht9 hvm9 hw9 hB9 hz9 hk9 hS => ?_)
    rw [ht9] at hB9
    have hP := hB9
    clear hB9 hz9 hk9 hvm9 ht9
    generalize H1 = H at hP hS ⊢
    have hP : gP g (mW g a (upd sc 0 (zI (1))) wd tp N rd sn) H := hP
    try dsimp only at hw9
    subst hw9
    exact W.iret hx hb hr (fun tX htX hWX => ⟨⟨_, (), rfl, by rw [e9] <;> rfl, g_at htX ((by rw [e9]; exact hP))⟩, hS.F htX⟩) hS.2.2 dX9_due_25
  · have hq := hN.nw.le
    have e9 : dueF N v = (zI 0, dueN N v.toNat) := by unfold dueF; rw [if_pos h10]
    obtain ⟨w, rfl⟩ := Int.eq_ofNat_of_zero_le h10.1.1
    refine lv_aload_n hx hb dX9_due_13 rfl (lv_at hl 0 rfl) ?_
    refine lv_iload_n hx hb dX9_due_14 rfl (lv_at hl 1 rfl) ?_
    refine vp_callSi (va_Run.run (va_runV (As := [.int (zI ((w : Int)))]) (rest := []) ⟨hx, hb, hml, hown, hts⟩ (c_X9_dueOf l g ((a 0)) ((a 2)) (N) (hN) (w) (by omega)) (cwV 1 hts gX9_due_X9_dueOf rfl rfl rfl (by decide +kernel) ⟨Nat.le_of_ble_eq_true rfl, Nat.le_of_ble_eq_true rfl⟩) (g_preV (rdN_of hP) hK (va_recv hK hP (q0 := 0) (ci := 9) rfl rfl)) rfl rfl hl.1 rfl (lv_room (Nat.le_of_ble_eq_true rfl)) dX9_due_15 ⟨Nat.le_of_ble_eq_true rfl, Nat.le_of_ble_eq_true rfl⟩)) (fun r hr9 => ?_)
    subst hr9
    refine lv_goto (tgt := 25) hx hb dX9_due_18 (by decide) ?_
    exact W.iret hx hb hr (fun tX htX hWX => ⟨⟨_, (), rfl, by rw [e9] <;> rfl, g_at htX ((by rw [e9]; exact hP))⟩, hS.F htX⟩) hS.2.2 dX9_due_25

set_option maxHeartbeats 4000000 in
set_option maxRecDepth 100000 in
theorem c_X9_snap (l : Launch) (g : GG) (a : Nat → Nat) (ha : aD a) (sc : Nat → Int32) (wd : Int64) (tp N rd sn : Nat → Int32) (k : Nat) (hk : sc 9 = zI k) (hk10 : k ≤ 10) : Met l yX9_snap wsX9_snap ({ frames := 0, cells := 0, slots := 0, locals := 0 }) (gPc g [.ref ((a 0))] (gP g (mW g a sc wd tp N rd sn))) (va_Qv (fun (_ : Unit) => True) (fun (_ : Unit) (tS : State) => gP g (mW g a (upd sc 9 (zI ((min (k + 1) 10 : Nat)))) wd tp N rd (snS sn N k)) tS.heap) (mA a)) 0 0 (mA a) := by
  refine Met.ofW (cc := cX9_snap) (maxL := 2) (ret := none) (by decide) rfl ?_
  intro p e s m args below meth c s₁ B hml hv
  obtain ⟨rfl, hP, hK⟩ := hv
  have hx := B.exec
  have hb := B.bytes
  have hr := B.returns
  have hts := atoms_spec (ws := wsX9_snap) B.pre
  have hown : s.vm.findClass RX9 = some m.cls := findClass_of_methodNamed B.named
  have hlocks := B.notSynchronized
  have hinX9 : ∀ w ∈ wsX90, w ∈ wsX9_snap := by decide +kernel
  have k122 := hts (.fieldLink RX9 122 "HoursBankModel" "snapMany" "I") (by decide +kernel)
  have k76 := hts (.fieldLink RX9 76 "HoursBankModel" "snaps" "[I") (by decide +kernel)
  have k70 := hts (.fieldLink RX9 70 "HoursBankModel" "now" "[I") (by decide +kernel)
  have hl := lv_entry ([.ref ((a 0))]) (n := 2) (Nat.le_of_ble_eq_true rfl)
  rw [lg_entry_eq]
  generalize (lg_sl ([.ref ((a 0))]) ++ List.replicate (2 - (lg_sl ([.ref ((a 0))])).length) Slot.unset).toArray = ls at hl ⊢
  have hl : lv_has ls 2 [(0, .ref ((a 0)))] := hl
  have hS : va_S (mA a) s.heap s.heap [] := va_S.rf
  obtain ⟨H, hH9⟩ : ∃ H, H = s.heap := ⟨_, rfl⟩
  obtain ⟨locs, hL9⟩ : ∃ x : List Loc, x = [] := ⟨_, rfl⟩
  have hP : gP g (mW g a sc wd tp N rd sn) H := hH9 ▸ hP
  have hS : va_S (mA a) s.heap H locs := by rw [hH9, hL9]; exact hS
  refine z_start hH9 hL9 ?_
  clear hH9 hL9
  refine lv_aload_n hx hb dX9_snap_0 rfl (lv_at hl 0 rfl) ?_
  refine va_get (D := g.1) (ci := 9) (v := .int (sc 9)) (C := RX9) (T := TX9) (N := 15) hx hb hts hinX9 hown hK hP 0 rfl rfl 14 (by decide) k122 (fun _ h9 => h9) rfl dX9_snap_1 ?_
  refine z_top (y := zI (k)) (hk) ?_
  refine lv_bipush (v := zI (10)) hx hb dX9_snap_4 (by decide) ?_
  refine z_icmp_ne (tgt := 50) hx hb dX9_snap_6 (by decide) (by omega) (by omega) (fun h6 => ?_) (fun h6 => ?_)
  · refine lv_iconst (v := zI (0)) hx hb dX9_snap_50 (by decide) ?_
    refine lv_istore_n (lv' := [(1, .int (zI (0))), (0, .ref ((a 0)))]) hx hb dX9_snap_51 rfl hl (by decide) rfl (fun ls hl => ?_)
    have loop52 : ∀ (K9 : Nat) (j : Nat) (hK9 : 1567 - j < K9) (hj : j ≤ 1567) (H : Heap) (locs : List Loc) (hP : gP g (mW g a sc wd tp N rd (ptP sn N k j)) H) (hS : va_S (mA a) s.heap H locs) (ls : Array Slot) (hl : lv_has ls 2 [(1, .int (zI (((j : Nat) : Int)))), (0, .ref ((a 0)))]), W p l e (headSpec wsX9_snap ({ frames := 0, cells := 0, slots := 0, locals := 0 })).room s m ([.ref ((a 0))] : List Value).toArray below meth c H locs 0 0 (MQ below (va_Qv (fun (_ : Unit) => True) (fun (_ : Unit) (tS : State) => gP g (mW g a (upd sc 9 (zI ((min (k + 1) 10 : Nat)))) wd tp N rd (snS sn N k)) tS.heap) (mA a)) ([.ref ((a 0))] : List Value).toArray s 0 0 (mA a)) (F0 m 52 ls []) := by
      intro K9
      induction K9 with
      | zero => intro j hK9; exact absurd hK9 (Nat.not_lt_zero _)
      | succ K9 ih =>
        intro j hK9 hj H locs hP hS ls hl
        refine lv_iload_n hx hb dX9_snap_52 rfl (lv_at hl 0 rfl) ?_
        refine lv_sipush (v := zI (1567)) hx hb dX9_snap_53 (by decide) ?_
        refine z_icmp_ge (tgt := 86) hx hb dX9_snap_56 (by decide) (by omega) (by omega) (fun h56 => ?_) (fun h56 => ?_)
        · obtain rfl : j = 1567 := by omega
          refine lv_aload_n hx hb dX9_snap_86 rfl (lv_at hl 1 rfl) ?_
          refine lv_dup hx hb dX9_snap_87 rfl ?_
          refine va_get (D := g.1) (ci := 9) (v := .int (sc 9)) (C := RX9) (T := TX9) (N := 15) hx hb hts hinX9 hown hK hP 0 rfl rfl 14 (by decide) k122 (fun _ h9 => h9) rfl dX9_snap_88 ?_
          refine z_top (y := zI (k)) (hk) ?_
          refine lv_iconst (v := zI (1)) hx hb dX9_snap_91 (by decide) ?_
          refine z_iadd hx hb dX9_snap_92 ?_
          refine va_put (D := g.1) (ci := 9) (v := .int (zI (k + 1))) (ty := .int) (C := RX9) (T := TX9) (N := 15) hx hb hts hinX9 tyX9 tyX9_ok nmX9 hown hK hP (mD ha) hS 0 rfl rfl 14 (by decide) k122 (fun _ h9 => h9) rfl (by decide +kernel) rfl rfl (Nat.le_of_ble_eq_true rfl) dX9_snap_93 (fun H locs hP _ hS => ?_)
          have hP : gP g (mW g a (upd sc 9 (zI (k + 1))) wd tp N rd (ptP sn N k 1567)) H := hP
          exact W.vret hx hb hr (fun tX htX hWX => ⟨⟨(), rfl, trivial, g_at htX ((by rw [snS, if_neg (by omega), show ((min (k + 1) 10 : Nat) : Int) = (k : Int) + 1 by omega]; exact hP))⟩, hS.F htX⟩) hS.2.2 dX9_snap_96
        · refine lv_aload_n hx hb dX9_snap_59 rfl (lv_at hl 1 rfl) ?_
          refine va_get (D := g.1) (ci := 9) (v := .ref ((a 4))) (C := RX9) (T := TX9) (N := 15) hx hb hts hinX9 hown hK hP 0 rfl rfl 13 (by decide) k76 (fun _ h9 => h9) rfl dX9_snap_60 ?_
          refine lv_sipush (v := zI (1567)) hx hb dX9_snap_63 (by decide) ?_
          refine lv_aload_n hx hb dX9_snap_66 rfl (lv_at hl 1 rfl) ?_
          refine va_get (D := g.1) (ci := 9) (v := .int (sc 9)) (C := RX9) (T := TX9) (N := 15) hx hb hts hinX9 hown hK hP 0 rfl rfl 14 (by decide) k122 (fun _ h9 => h9) rfl dX9_snap_67 ?_
          refine z_top (y := zI (k)) (hk) ?_
          refine z_imul hx hb dX9_snap_70 ?_
          refine lv_iload_n hx hb dX9_snap_71 rfl (lv_at hl 0 rfl) ?_
          refine z_iadd hx hb dX9_snap_72 ?_
          refine lv_aload_n hx hb dX9_snap_73 rfl (lv_at hl 1 rfl) ?_
          refine va_get (D := g.1) (ci := 9) (v := .ref ((a 2))) (C := RX9) (T := TX9) (N := 15) hx hb hts hinX9 hown hK hP 0 rfl rfl 11 (by decide) k70 (fun _ h9 => h9) rfl dX9_snap_74 ?_
          refine lv_iload_n hx hb dX9_snap_77 rfl (lv_at hl 0 rfl) ?_
          refine z_iald hx hb hK hP 2 0 rfl rfl (by decide) (j) (by omega) (by omega) dX9_snap_78 ?_
          refine z_iast hx hb hK hP (mD ha) hS 4 0 rfl rfl (by decide) (1567 * k + j) (by omega) (by omega) dX9_snap_79 (fun H locs hP _ hS => ?_)
          have hP : gP g (mW g a sc wd tp N rd (upd (ptP sn N k j) (1567 * k + j) (N j))) H := hP
          refine z_iinc (lv' := [(1, .int (zI (((j : Nat) : Int) + 1))), (0, .ref ((a 0)))]) hx hb dX9_snap_80 hl (k := 0) rfl (by decide) rfl (fun ls hl => ?_)
          refine lv_goto (tgt := 52) hx hb dX9_snap_83 (by decide) ?_
          have hl := lv_sub (l' := [(1, .int (zI (((j : Nat) : Int) + 1))), (0, .ref ((a 0)))]) hl [0, 1] rfl
          have hl : lv_has ls 2 [(1, .int (zI ((((j + 1) : Nat) : Int)))), (0, .ref ((a 0)))] := lv_cg (lvE (congrArg zI (by omega)) (lvR (rfl))) hl
          exact ih (j + 1) (by omega) (by omega) H locs (by rw [← ptP_s]; exact hP) hS ls hl
    have hl := lv_sub (l' := [(1, .int (zI (0))), (0, .ref ((a 0)))]) hl [0, 1] rfl
    have hl : lv_has ls 2 [(1, .int (zI (((0 : Nat) : Int)))), (0, .ref ((a 0)))] := lv_cg (lvE (congrArg zI (rfl)) (lvR (rfl))) hl
    exact loop52 _ (0) (Nat.lt_succ_self _) (Nat.zero_le _) H locs (by rw [ptP_0]; exact hP) hS ls hl
  · obtain rfl : k = 10 := by omega
    refine lv_iconst (v := zI (0)) hx hb dX9_snap_9 (by decide) ?_
    refine lv_istore_n (lv' := [(1, .int (zI (0))), (0, .ref ((a 0)))]) hx hb dX9_snap_10 rfl hl (by decide) rfl (fun ls hl => ?_)
    have loop11 : ∀ (K9 : Nat) (i : Nat) (hK9 : 14103 - i < K9) (hi : i ≤ 14103) (H : Heap) (locs : List Loc) (hP : gP g (mW g a sc wd tp N rd (shP sn i)) H) (hS : va_S (mA a) s.heap H locs) (ls : Array Slot) (hl : lv_has ls 2 [(1, .int (zI (((i : Nat) : Int)))), (0, .ref ((a 0)))]), W p l e (headSpec wsX9_snap ({ frames := 0, cells := 0, slots := 0, locals := 0 })).room s m ([.ref ((a 0))] : List Value).toArray below meth c H locs 0 0 (MQ below (va_Qv (fun (_ : Unit) => True) (fun (_ : Unit) (tS : State) => gP g (mW g a (upd sc 9 (zI ((min (10 + 1) 10 : Nat)))) wd tp N rd (snS sn N 10)) tS.heap) (mA a)) ([.ref ((a 0))] : List Value).toArray s 0 0 (mA a)) (F0 m 11 ls []) := by
      intro K9
      induction K9 with
      | zero => intro i hK9; exact absurd hK9 (Nat.not_lt_zero _)
      | succ K9 ih =>
        intro i hK9 hi H locs hP hS ls hl
        refine lv_iload_n hx hb dX9_snap_11 rfl (lv_at hl 0 rfl) ?_
        refine lv_sipush (v := zI (14103)) hx hb dX9_snap_12 (by decide) ?_
        refine z_icmp_ge (tgt := 40) hx hb dX9_snap_15 (by decide) (by omega) (by omega) (fun h15 => ?_) (fun h15 => ?_)
        · obtain rfl : i = 14103 := by omega
          refine lv_aload_n hx hb dX9_snap_40 rfl (lv_at hl 1 rfl) ?_
          refine lv_dup hx hb dX9_snap_41 rfl ?_
          refine va_get (D := g.1) (ci := 9) (v := .int (sc 9)) (C := RX9) (T := TX9) (N := 15) hx hb hts hinX9 hown hK hP 0 rfl rfl 14 (by decide) k122 (fun _ h9 => h9) rfl dX9_snap_42 ?_
          refine z_top (y := zI (10)) (hk) ?_
          refine lv_iconst (v := zI (1)) hx hb dX9_snap_45 (by decide) ?_
          refine z_isub hx hb dX9_snap_46 ?_
          refine va_put (D := g.1) (ci := 9) (v := .int (zI (10 - 1))) (ty := .int) (C := RX9) (T := TX9) (N := 15) hx hb hts hinX9 tyX9 tyX9_ok nmX9 hown hK hP (mD ha) hS 0 rfl rfl 14 (by decide) k122 (fun _ h9 => h9) rfl (by decide +kernel) rfl rfl (Nat.le_of_ble_eq_true rfl) dX9_snap_47 (fun H locs hP _ hS => ?_)
          have hP : gP g (mW g a (upd sc 9 (zI (10 - 1))) wd tp N rd (shP sn 14103)) H := hP
          refine lv_iconst (v := zI (0)) hx hb dX9_snap_50 (by decide) ?_
          refine lv_istore_n (lv' := [(1, .int (zI (0))), (0, .ref ((a 0)))]) hx hb dX9_snap_51 rfl hl (by decide) rfl (fun ls hl => ?_)
          have loop52 : ∀ (K9 : Nat) (j : Nat) (hK9 : 1567 - j < K9) (hj : j ≤ 1567) (H : Heap) (locs : List Loc) (hP : gP g (mW g a (upd sc 9 (zI (10 - 1))) wd tp N rd (ptP (shP sn 14103) N 9 j)) H) (hS : va_S (mA a) s.heap H locs) (ls : Array Slot) (hl : lv_has ls 2 [(1, .int (zI (((j : Nat) : Int)))), (0, .ref ((a 0)))]), W p l e (headSpec wsX9_snap ({ frames := 0, cells := 0, slots := 0, locals := 0 })).room s m ([.ref ((a 0))] : List Value).toArray below meth c H locs 0 0 (MQ below (va_Qv (fun (_ : Unit) => True) (fun (_ : Unit) (tS : State) => gP g (mW g a (upd sc 9 (zI ((min (10 + 1) 10 : Nat)))) wd tp N rd (snS sn N 10)) tS.heap) (mA a)) ([.ref ((a 0))] : List Value).toArray s 0 0 (mA a)) (F0 m 52 ls []) := by
            intro K9
            induction K9 with
            | zero => intro j hK9; exact absurd hK9 (Nat.not_lt_zero _)
            | succ K9 ih =>
              intro j hK9 hj H locs hP hS ls hl
              refine lv_iload_n hx hb dX9_snap_52 rfl (lv_at hl 0 rfl) ?_
              refine lv_sipush (v := zI (1567)) hx hb dX9_snap_53 (by decide) ?_
              refine z_icmp_ge (tgt := 86) hx hb dX9_snap_56 (by decide) (by omega) (by omega) (fun h56 => ?_) (fun h56 => ?_)
              · obtain rfl : j = 1567 := by omega
                refine lv_aload_n hx hb dX9_snap_86 rfl (lv_at hl 1 rfl) ?_
                refine lv_dup hx hb dX9_snap_87 rfl ?_
                refine va_get (D := g.1) (ci := 9) (v := .int (zI (10 - 1))) (C := RX9) (T := TX9) (N := 15) hx hb hts hinX9 hown hK hP 0 rfl rfl 14 (by decide) k122 (fun _ h9 => h9) rfl dX9_snap_88 ?_
                refine lv_iconst (v := zI (1)) hx hb dX9_snap_91 (by decide) ?_
                refine z_iadd hx hb dX9_snap_92 ?_
                refine va_put (D := g.1) (ci := 9) (v := .int (zI ((10 - 1) + 1))) (ty := .int) (C := RX9) (T := TX9) (N := 15) hx hb hts hinX9 tyX9 tyX9_ok nmX9 hown hK hP (mD ha) hS 0 rfl rfl 14 (by decide) k122 (fun _ h9 => h9) rfl (by decide +kernel) rfl rfl (Nat.le_of_ble_eq_true rfl) dX9_snap_93 (fun H locs hP _ hS => ?_)
                have hP : gP g (mW g a (upd sc 9 (zI ((10 - 1) + 1))) wd tp N rd (ptP (shP sn 14103) N 9 1567)) H := hP
                exact W.vret hx hb hr (fun tX htX hWX => ⟨⟨(), rfl, trivial, g_at htX ((by rw [snS, if_pos rfl]; exact hP))⟩, hS.F htX⟩) hS.2.2 dX9_snap_96
              · refine lv_aload_n hx hb dX9_snap_59 rfl (lv_at hl 1 rfl) ?_
                refine va_get (D := g.1) (ci := 9) (v := .ref ((a 4))) (C := RX9) (T := TX9) (N := 15) hx hb hts hinX9 hown hK hP 0 rfl rfl 13 (by decide) k76 (fun _ h9 => h9) rfl dX9_snap_60 ?_
                refine lv_sipush (v := zI (1567)) hx hb dX9_snap_63 (by decide) ?_
                refine lv_aload_n hx hb dX9_snap_66 rfl (lv_at hl 1 rfl) ?_
                refine va_get (D := g.1) (ci := 9) (v := .int (zI (10 - 1))) (C := RX9) (T := TX9) (N := 15) hx hb hts hinX9 hown hK hP 0 rfl rfl 14 (by decide) k122 (fun _ h9 => h9) rfl dX9_snap_67 ?_
                refine z_imul hx hb dX9_snap_70 ?_
                refine lv_iload_n hx hb dX9_snap_71 rfl (lv_at hl 0 rfl) ?_
                refine z_iadd hx hb dX9_snap_72 ?_
                refine lv_aload_n hx hb dX9_snap_73 rfl (lv_at hl 1 rfl) ?_
                refine va_get (D := g.1) (ci := 9) (v := .ref ((a 2))) (C := RX9) (T := TX9) (N := 15) hx hb hts hinX9 hown hK hP 0 rfl rfl 11 (by decide) k70 (fun _ h9 => h9) rfl dX9_snap_74 ?_
                refine lv_iload_n hx hb dX9_snap_77 rfl (lv_at hl 0 rfl) ?_
                refine z_iald hx hb hK hP 2 0 rfl rfl (by decide) (j) (by omega) (by omega) dX9_snap_78 ?_
                refine z_iast hx hb hK hP (mD ha) hS 4 0 rfl rfl (by decide) (1567 * 9 + j) (by omega) (by omega) dX9_snap_79 (fun H locs hP _ hS => ?_)
                have hP : gP g (mW g a (upd sc 9 (zI (10 - 1))) wd tp N rd (upd (ptP (shP sn 14103) N 9 j) (1567 * 9 + j) (N j))) H := hP
                refine z_iinc (lv' := [(1, .int (zI (((j : Nat) : Int) + 1))), (0, .ref ((a 0)))]) hx hb dX9_snap_80 hl (k := 0) rfl (by decide) rfl (fun ls hl => ?_)
                refine lv_goto (tgt := 52) hx hb dX9_snap_83 (by decide) ?_
                have hl := lv_sub (l' := [(1, .int (zI (((j : Nat) : Int) + 1))), (0, .ref ((a 0)))]) hl [0, 1] rfl
                have hl : lv_has ls 2 [(1, .int (zI ((((j + 1) : Nat) : Int)))), (0, .ref ((a 0)))] := lv_cg (lvE (congrArg zI (by omega)) (lvR (rfl))) hl
                exact ih (j + 1) (by omega) (by omega) H locs (by rw [← ptP_s]; exact hP) hS ls hl
          have hl := lv_sub (l' := [(1, .int (zI (0))), (0, .ref ((a 0)))]) hl [0, 1] rfl
          have hl : lv_has ls 2 [(1, .int (zI (((0 : Nat) : Int)))), (0, .ref ((a 0)))] := lv_cg (lvE (congrArg zI (rfl)) (lvR (rfl))) hl
          exact loop52 _ (0) (Nat.lt_succ_self _) (Nat.zero_le _) H locs (by rw [ptP_0]; exact hP) hS ls hl
        · refine lv_aload_n hx hb dX9_snap_18 rfl (lv_at hl 1 rfl) ?_
          refine va_get (D := g.1) (ci := 9) (v := .ref ((a 4))) (C := RX9) (T := TX9) (N := 15) hx hb hts hinX9 hown hK hP 0 rfl rfl 13 (by decide) k76 (fun _ h9 => h9) rfl dX9_snap_19 ?_
          refine lv_iload_n hx hb dX9_snap_22 rfl (lv_at hl 0 rfl) ?_
          refine lv_aload_n hx hb dX9_snap_23 rfl (lv_at hl 1 rfl) ?_
          refine va_get (D := g.1) (ci := 9) (v := .ref ((a 4))) (C := RX9) (T := TX9) (N := 15) hx hb hts hinX9 hown hK hP 0 rfl rfl 13 (by decide) k76 (fun _ h9 => h9) rfl dX9_snap_24 ?_
          refine lv_iload_n hx hb dX9_snap_27 rfl (lv_at hl 0 rfl) ?_
          refine lv_sipush (v := zI (1567)) hx hb dX9_snap_28 (by decide) ?_
          refine z_iadd hx hb dX9_snap_31 ?_
          refine z_iald hx hb hK hP 4 0 rfl rfl (by decide) (i + 1567) (by omega) (by omega) dX9_snap_32 ?_
          refine z_iast hx hb hK hP (mD ha) hS 4 0 rfl rfl (by decide) (i) (by omega) (by omega) dX9_snap_33 (fun H locs hP _ hS => ?_)
          have hP : gP g (mW g a sc wd tp N rd (upd (shP sn i) i ((shP sn i) (i + 1567)))) H := hP
          refine z_iinc (lv' := [(1, .int (zI (((i : Nat) : Int) + 1))), (0, .ref ((a 0)))]) hx hb dX9_snap_34 hl (k := 0) rfl (by decide) rfl (fun ls hl => ?_)
          refine lv_goto (tgt := 11) hx hb dX9_snap_37 (by decide) ?_
          have hl := lv_sub (l' := [(1, .int (zI (((i : Nat) : Int) + 1))), (0, .ref ((a 0)))]) hl [0, 1] rfl
          have hl : lv_has ls 2 [(1, .int (zI ((((i + 1) : Nat) : Int)))), (0, .ref ((a 0)))] := lv_cg (lvE (congrArg zI (by omega)) (lvR (rfl))) hl
          exact ih (i + 1) (by omega) (by omega) H locs (by rw [← shP_s]; exact hP) hS ls hl
    have hl := lv_sub (l' := [(1, .int (zI (0))), (0, .ref ((a 0)))]) hl [0, 1] rfl
    have hl : lv_has ls 2 [(1, .int (zI (((0 : Nat) : Int)))), (0, .ref ((a 0)))] := lv_cg (lvE (congrArg zI (rfl)) (lvR (rfl))) hl
    exact loop11 _ (0) (Nat.lt_succ_self _) (Nat.zero_le _) H locs (by rw [shP_0]; exact hP) hS ls hl

set_option maxHeartbeats 4000000 in
set_option maxRecDepth 100000 in
theorem c_X9_undo (l : Launch) (g : GG) (a : Nat → Nat) (ha : aD a) (sc : Nat → Int32) (wd : Int64) (tp N rd sn : Nat → Int32) (k : Nat) (hk : sc 9 = zI k) (hk10 : k ≤ 10) : Met l yX9_undo wsX9_undo ({ frames := 0, cells := 0, slots := 0, locals := 0 }) (gPc g [.ref ((a 0))] (gP g (mW g a sc wd tp N rd sn))) (va_Qi (fun (r : Int32) (_ : Unit) => r = zI ((k : Int) - 1)) (fun (_ : Unit) (tS : State) => gP g (mW g a (upd (upd sc 0 (zI (0))) 9 (zI ((k - 1 : Nat)))) wd tp (unN sn N k) rd sn) tS.heap) (mA a)) 0 0 (mA a) := by
  refine Met.ofW (cc := cX9_undo) (maxL := 2) (ret := (some .int)) (by decide) rfl ?_
  intro p e s m args below meth c s₁ B hml hv
  obtain ⟨rfl, hP, hK⟩ := hv
  have hx := B.exec
  have hb := B.bytes
  have hr := B.returns
  have hts := atoms_spec (ws := wsX9_undo) B.pre
  have hown : s.vm.findClass RX9 = some m.cls := findClass_of_methodNamed B.named
  have hlocks := B.notSynchronized
  have hinX9 : ∀ w ∈ wsX90, w ∈ wsX9_undo := by decide +kernel
  have k1 := hts (.fieldLink RX9 1 "HoursBankModel" "thrown" "I") (by decide +kernel)
  have k122 := hts (.fieldLink RX9 122 "HoursBankModel" "snapMany" "I") (by decide +kernel)
  have k70 := hts (.fieldLink RX9 70 "HoursBankModel" "now" "[I") (by decide +kernel)
  have k76 := hts (.fieldLink RX9 76 "HoursBankModel" "snaps" "[I") (by decide +kernel)
  have hl := lv_entry ([.ref ((a 0))]) (n := 2) (Nat.le_of_ble_eq_true rfl)
  rw [lg_entry_eq]
  generalize (lg_sl ([.ref ((a 0))]) ++ List.replicate (2 - (lg_sl ([.ref ((a 0))])).length) Slot.unset).toArray = ls at hl ⊢
  have hl : lv_has ls 2 [(0, .ref ((a 0)))] := hl
  have hS : va_S (mA a) s.heap s.heap [] := va_S.rf
  obtain ⟨H, hH9⟩ : ∃ H, H = s.heap := ⟨_, rfl⟩
  obtain ⟨locs, hL9⟩ : ∃ x : List Loc, x = [] := ⟨_, rfl⟩
  have hP : gP g (mW g a sc wd tp N rd sn) H := hH9 ▸ hP
  have hS : va_S (mA a) s.heap H locs := by rw [hH9, hL9]; exact hS
  refine z_start hH9 hL9 ?_
  clear hH9 hL9
  refine lv_aload_n hx hb dX9_undo_0 rfl (lv_at hl 0 rfl) ?_
  refine lv_iconst (v := zI (0)) hx hb dX9_undo_1 (by decide) ?_
  refine va_put (D := g.1) (ci := 9) (v := .int (zI (0))) (ty := .int) (C := RX9) (T := TX9) (N := 15) hx hb hts hinX9 tyX9 tyX9_ok nmX9 hown hK hP (mD ha) hS 0 rfl rfl 0 (by decide) k1 (fun _ h9 => h9) rfl (by decide +kernel) rfl rfl (Nat.le_of_ble_eq_true rfl) dX9_undo_2 (fun H locs hP _ hS => ?_)
  have hP : gP g (mW g a (upd sc 0 (zI (0))) wd tp N rd sn) H := hP
  refine lv_aload_n hx hb dX9_undo_5 rfl (lv_at hl 0 rfl) ?_
  refine va_get (D := g.1) (ci := 9) (v := .int (sc 9)) (C := RX9) (T := TX9) (N := 15) hx hb hts hinX9 hown hK hP 0 rfl rfl 14 (by decide) k122 (fun _ h9 => h9) rfl dX9_undo_6 ?_
  refine z_top (y := zI (k)) (hk) ?_
  refine z_if_ne (tgt := 14) hx hb dX9_undo_9 (by decide) (by omega) (fun h9 => ?_) (fun h9 => ?_)
  · obtain ⟨j, rfl⟩ : ∃ j, k = j + 1 := ⟨k - 1, by omega⟩
    refine lv_aload_n hx hb dX9_undo_14 rfl (lv_at hl 0 rfl) ?_
    refine lv_dup hx hb dX9_undo_15 rfl ?_
    refine va_get (D := g.1) (ci := 9) (v := .int (sc 9)) (C := RX9) (T := TX9) (N := 15) hx hb hts hinX9 hown hK hP 0 rfl rfl 14 (by decide) k122 (fun _ h9 => h9) rfl dX9_undo_16 ?_
    refine z_top (y := zI (((j + 1 : Nat) : Int))) (hk) ?_
    refine lv_iconst (v := zI (1)) hx hb dX9_undo_19 (by decide) ?_
    refine z_isub hx hb dX9_undo_20 ?_
    refine z_top (y := zI (((j : Nat) : Int))) (congrArg zI (by omega)) ?_
    refine va_put (D := g.1) (ci := 9) (v := .int (zI (((j : Nat) : Int)))) (ty := .int) (C := RX9) (T := TX9) (N := 15) hx hb hts hinX9 tyX9 tyX9_ok nmX9 hown hK hP (mD ha) hS 0 rfl rfl 14 (by decide) k122 (fun _ h9 => h9) rfl (by decide +kernel) rfl rfl (Nat.le_of_ble_eq_true rfl) dX9_undo_21 (fun H locs hP _ hS => ?_)
    have hP : gP g (mW g a (upd (upd sc 0 (zI (0))) 9 (zI (((j : Nat) : Int)))) wd tp N rd sn) H := hP
    refine lv_iconst (v := zI (0)) hx hb dX9_undo_24 (by decide) ?_
    refine lv_istore_n (lv' := [(1, .int (zI (0))), (0, .ref ((a 0)))]) hx hb dX9_undo_25 rfl hl (by decide) rfl (fun ls hl => ?_)
    have loop26 : ∀ (K9 : Nat) (i : Nat) (hK9 : 1567 - i < K9) (hi : i ≤ 1567) (H : Heap) (locs : List Loc) (hP : gP g (mW g a (upd (upd sc 0 (zI (0))) 9 (zI (((j : Nat) : Int)))) wd tp (unP sn N j i) rd sn) H) (hS : va_S (mA a) s.heap H locs) (ls : Array Slot) (hl : lv_has ls 2 [(1, .int (zI (((i : Nat) : Int)))), (0, .ref ((a 0)))]), W p l e (headSpec wsX9_undo ({ frames := 0, cells := 0, slots := 0, locals := 0 })).room s m ([.ref ((a 0))] : List Value).toArray below meth c H locs 0 0 (MQ below (va_Qi (fun (r : Int32) (_ : Unit) => r = zI (((j + 1) : Int) - 1)) (fun (_ : Unit) (tS : State) => gP g (mW g a (upd (upd sc 0 (zI (0))) 9 (zI (((j + 1) - 1 : Nat)))) wd tp (unN sn N (j + 1)) rd sn) tS.heap) (mA a)) ([.ref ((a 0))] : List Value).toArray s 0 0 (mA a)) (F0 m 26 ls []) := by
      intro K9
      induction K9 with
      | zero => intro i hK9; exact absurd hK9 (Nat.not_lt_zero _)
      | succ K9 ih =>
        intro i hK9 hi H locs hP hS ls hl
        refine lv_iload_n hx hb dX9_undo_26 rfl (lv_at hl 0 rfl) ?_
        refine lv_sipush (v := zI (1567)) hx hb dX9_undo_27 (by decide) ?_
        refine z_icmp_ge (tgt := 60) hx hb dX9_undo_30 (by decide) (by omega) (by omega) (fun h30 => ?_) (fun h30 => ?_)
        · obtain rfl : i = 1567 := by omega
          refine lv_aload_n hx hb dX9_undo_60 rfl (lv_at hl 1 rfl) ?_
          refine va_get (D := g.1) (ci := 9) (v := .int (zI (((j : Nat) : Int)))) (C := RX9) (T := TX9) (N := 15) hx hb hts hinX9 hown hK hP 0 rfl rfl 14 (by decide) k122 (fun _ h9 => h9) rfl dX9_undo_61 ?_
          exact W.iret hx hb hr (fun tX htX hWX => ⟨⟨_, (), rfl, congrArg zI (by omega), g_at htX ((by rw [unN, if_neg (by omega)]; exact hP))⟩, hS.F htX⟩) hS.2.2 dX9_undo_64
        · refine lv_aload_n hx hb dX9_undo_33 rfl (lv_at hl 1 rfl) ?_
          refine va_get (D := g.1) (ci := 9) (v := .ref ((a 2))) (C := RX9) (T := TX9) (N := 15) hx hb hts hinX9 hown hK hP 0 rfl rfl 11 (by decide) k70 (fun _ h9 => h9) rfl dX9_undo_34 ?_
          refine lv_iload_n hx hb dX9_undo_37 rfl (lv_at hl 0 rfl) ?_
          refine lv_aload_n hx hb dX9_undo_38 rfl (lv_at hl 1 rfl) ?_
          refine va_get (D := g.1) (ci := 9) (v := .ref ((a 4))) (C := RX9) (T := TX9) (N := 15) hx hb hts hinX9 hown hK hP 0 rfl rfl 13 (by decide) k76 (fun _ h9 => h9) rfl dX9_undo_39 ?_
          refine lv_sipush (v := zI (1567)) hx hb dX9_undo_42 (by decide) ?_
          refine lv_aload_n hx hb dX9_undo_45 rfl (lv_at hl 1 rfl) ?_
          refine va_get (D := g.1) (ci := 9) (v := .int (zI (((j : Nat) : Int)))) (C := RX9) (T := TX9) (N := 15) hx hb hts hinX9 hown hK hP 0 rfl rfl 14 (by decide) k122 (fun _ h9 => h9) rfl dX9_undo_46 ?_
          refine z_imul hx hb dX9_undo_49 ?_
          refine lv_iload_n hx hb dX9_undo_50 rfl (lv_at hl 0 rfl) ?_
          refine z_iadd hx hb dX9_undo_51 ?_
          refine z_iald hx hb hK hP 4 0 rfl rfl (by decide) (1567 * j + i) (by omega) (by omega) dX9_undo_52 ?_
          refine z_iast hx hb hK hP (mD ha) hS 2 0 rfl rfl (by decide) (i) (by omega) (by omega) dX9_undo_53 (fun H locs hP _ hS => ?_)
          have hP : gP g (mW g a (upd (upd sc 0 (zI (0))) 9 (zI (((j : Nat) : Int)))) wd tp (upd (unP sn N j i) i (sn (1567 * j + i))) rd sn) H := hP
          refine z_iinc (lv' := [(1, .int (zI (((i : Nat) : Int) + 1))), (0, .ref ((a 0)))]) hx hb dX9_undo_54 hl (k := 0) rfl (by decide) rfl (fun ls hl => ?_)
          refine lv_goto (tgt := 26) hx hb dX9_undo_57 (by decide) ?_
          have hl := lv_sub (l' := [(1, .int (zI (((i : Nat) : Int) + 1))), (0, .ref ((a 0)))]) hl [0, 1] rfl
          have hl : lv_has ls 2 [(1, .int (zI ((((i + 1) : Nat) : Int)))), (0, .ref ((a 0)))] := lv_cg (lvE (congrArg zI (by omega)) (lvR (rfl))) hl
          exact ih (i + 1) (by omega) (by omega) H locs (by rw [← unP_s]; exact hP) hS ls hl
    have hl := lv_sub (l' := [(1, .int (zI (0))), (0, .ref ((a 0)))]) hl [0, 1] rfl
    have hl : lv_has ls 2 [(1, .int (zI (((0 : Nat) : Int)))), (0, .ref ((a 0)))] := lv_cg (lvE (congrArg zI (rfl)) (lvR (rfl))) hl
    exact loop26 _ (0) (Nat.lt_succ_self _) (Nat.zero_le _) H locs (by rw [unP_0]; exact hP) hS ls hl
  · obtain rfl : k = 0 := by omega
    refine lv_iconst (v := zI (-1)) hx hb dX9_undo_12 (by decide) ?_
    exact W.iret hx hb hr (fun tX htX hWX => ⟨⟨_, (), rfl, rfl, g_at htX ((by rw [unN, if_pos rfl, upd_same (f := upd sc 0 (zI 0)) (k := 9) (show sc 9 = _ from hk)]; exact hP))⟩, hS.F htX⟩) hS.2.2 dX9_undo_13
