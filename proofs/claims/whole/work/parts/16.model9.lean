theorem add_neg0 (x : Int32) : x + -x = zI 0 := by
  rw [zI_of x, zI_neg, zI_add]; exact congrArg zI (by omega)
set_option maxHeartbeats 4000000 in
set_option maxRecDepth 100000 in
theorem c_X9_closes (l : Launch) (g : GG) (a : Nat → Nat) (ha : aD a) (sc : Nat → Int32) (wd : Int64) (tp N rd sn : Nat → Int32) (hN : okN N) (w : Nat) (hw : w < 4) (ht : mn N 110 < 364) : Met l yX9_closes wsX9_closes ({ frames := 5, cells := 0, slots := 0, locals := 116 }) (gPc g [.ref ((a 0)), .int (zI (w))] (gP g (mW g a sc wd tp N rd sn))) (va_Qi (fun (r : Int32) (_ : Unit) => r = zI (bz (flgC N w))) (fun (_ : Unit) (tS : State) => gP g (mW g a sc wd tp (closeN N w) rd sn) tS.heap) (mA a)) 0 0 (mA a) := by
  refine Met.ofW (cc := cX9_closes) (maxL := 5) (ret := (some .boolean)) (by decide) rfl ?_
  intro p e s m args below meth c s₁ B hml hv
  obtain ⟨rfl, hP, hK⟩ := hv
  have hx := B.exec
  have hb := B.bytes
  have hr := B.returns
  have hts := atoms_spec (ws := wsX9_closes) B.pre
  have hown : s.vm.findClass RX9 = some m.cls := findClass_of_methodNamed B.named
  have hlocks := B.notSynchronized
  have hinX9 : ∀ w ∈ wsX90, w ∈ wsX9_closes := by decide +kernel
  have k70 := hts (.fieldLink RX9 70 "HoursBankModel" "now" "[I") (by decide +kernel)
  have hl := lv_entry ([.ref ((a 0)), .int (zI (w))]) (n := 5) (Nat.le_of_ble_eq_true rfl)
  rw [lg_entry_eq]
  generalize (lg_sl ([.ref ((a 0)), .int (zI (w))]) ++ List.replicate (5 - (lg_sl ([.ref ((a 0)), .int (zI (w))])).length) Slot.unset).toArray = ls at hl ⊢
  have hl : lv_has ls 5 [(0, .ref ((a 0))), (1, .int (zI (w)))] := hl
  have hS : va_S (mA a) s.heap s.heap [] := va_S.rf
  obtain ⟨H, hH9⟩ : ∃ H, H = s.heap := ⟨_, rfl⟩
  obtain ⟨locs, hL9⟩ : ∃ x : List Loc, x = [] := ⟨_, rfl⟩
  have hP : gP g (mW g a sc wd tp N rd sn) H := hH9 ▸ hP
  have hS : va_S (mA a) s.heap H locs := by rw [hH9, hL9]; exact hS
  refine z_start hH9 hL9 ?_
  clear hH9 hL9
  refine lv_aload_n hx hb dX9_closes_0 rfl (lv_at hl 0 rfl) ?_
  refine vp_callSi (va_Run.run (va_runV (As := []) (rest := []) ⟨hx, hb, hml, hown, hts⟩ (c_X9_today l g ((a 0)) ((a 2)) (N) (hN)) (cwV 0 hts gX9_closes_X9_today rfl rfl rfl (by decide +kernel) ⟨Nat.le_of_ble_eq_true rfl, Nat.le_of_ble_eq_true rfl⟩) (g_preV (rdN_of hP) hK (va_recv hK hP (q0 := 0) (ci := 9) rfl rfl)) rfl rfl hl.1 rfl (lv_room (Nat.le_of_ble_eq_true rfl)) dX9_closes_1 ⟨Nat.le_of_ble_eq_true rfl, Nat.le_of_ble_eq_true rfl⟩)) (fun r hr9 => ?_)
  subst hr9
  refine lv_istore_n (lv' := [(2, .int (zI (mn N 110))), (0, .ref ((a 0))), (1, .int (zI (w)))]) hx hb dX9_closes_4 rfl hl (by decide) rfl (fun ls hl => ?_)
  have hkk := hN.knd hw ht
  have hkw := hN.wkd hw ht
  have hpl := plan_le hN hw ht
  have h0 := hN.lo.le
  have h1 := hN.hi.le
  have hbl := hN.bal hw
  rw [show 60 + 13 * w = 58 + 13 * w + 2 by omega] at hbl
  have hbb : balB N w = (N (58 + 13 * w + 2)).toInt + ((wkd N w (mn N 110) : Int) - plan N w (mn N 110)) := rfl
  have hwin := hN.win.le
  have hld : ldS N w ((mn N 110 : Int) - mn N 2 + 1) (mn N 110) ≤ 1000000 := Nat.le_trans (sumN_le (B := 96) _ (fun i hi => load_le hN hw (by omega))) (by omega)
  have hlim := hN.lim.le
  have join140 : ∀ (M : Nat → Int32) (hM : M = clsN N w) (H : Heap) (locs : List Loc) (hP : gP g (mW g a sc wd tp M rd sn) H) (hS : va_S (mA a) s.heap H locs) (ls : Array Slot) (hl : lv_has ls 5 [(2, .int (zI (mn N 110))), (0, .ref ((a 0))), (1, .int (zI (w)))]), W p l e (headSpec wsX9_closes ({ frames := 5, cells := 0, slots := 0, locals := 116 })).room s m ([.ref ((a 0)), .int (zI (w))] : List Value).toArray below meth c H locs 0 0 (MQ below (va_Qi (fun (r : Int32) (_ : Unit) => r = zI (bz (flgC N w))) (fun (_ : Unit) (tS : State) => gP g (mW g a sc wd tp (closeN N w) rd sn) tS.heap) (mA a)) ([.ref ((a 0)), .int (zI (w))] : List Value).toArray s 0 0 (mA a)) (F0 m 140 ls []) := by
    intro M hM H locs hP hS ls hl
    have hMo : okN M := hM ▸ okN_cls hN hw
    have hsd : sameD N M := hM ▸ sD_cls hw
    refine lv_aload_n hx hb dX9_closes_140 rfl (lv_at hl 1 rfl) ?_
    refine lv_iload_n hx hb dX9_closes_141 rfl (lv_at hl 2 rfl) ?_
    refine lv_iload_n hx hb dX9_closes_142 rfl (lv_at hl 0 rfl) ?_
    refine lv_aload_n hx hb dX9_closes_143 rfl (lv_at hl 1 rfl) ?_
    refine va_get (D := g.1) (ci := 9) (v := .ref ((a 2))) (C := RX9) (T := TX9) (N := 15) hx hb hts hinX9 hown hK hP 0 rfl rfl 11 (by decide) k70 (fun _ h9 => h9) rfl dX9_closes_144 ?_
    refine lv_iconst (v := zI (2)) hx hb dX9_closes_147 (by decide) ?_
    refine z_iald hx hb hK hP 2 0 rfl rfl (by decide) (2) (by omega) (by omega) dX9_closes_148 ?_
    refine z_top (y := zI (mn N 2)) (by rw [hsd 2 (by omega)]; exact hN.win.eq) ?_
    refine z_isub hx hb dX9_closes_149 ?_
    refine lv_iconst (v := zI (1)) hx hb dX9_closes_150 (by decide) ?_
    refine z_iadd hx hb dX9_closes_151 ?_
    refine lv_iload_n hx hb dX9_closes_152 rfl (lv_at hl 0 rfl) ?_
    refine vp_callSi (va_Run.run (va_runV (As := [.int (zI (w)), .int (zI (((mn N 110) - (mn N 2)) + 1)), .int (zI (mn N 110))]) (rest := []) ⟨hx, hb, hml, hown, hts⟩ (c_X9_loads l g ((a 0)) ((a 2)) (M) (hMo) (w) ((mn N 110 : Int) - mn N 2 + 1) (mn N 110) (hw) (by omega) (by omega)) (cwV 3 hts gX9_closes_X9_loads rfl rfl rfl (by decide +kernel) ⟨Nat.le_of_ble_eq_true rfl, Nat.le_of_ble_eq_true rfl⟩) (g_preV (rdN_of hP) hK (va_recv hK hP (q0 := 0) (ci := 9) rfl rfl)) rfl rfl hl.1 rfl (lv_room (Nat.le_of_ble_eq_true rfl)) dX9_closes_153 ⟨Nat.le_of_ble_eq_true rfl, Nat.le_of_ble_eq_true rfl⟩)) (fun r hr9 => ?_)
    subst hr9
    refine z_top (y := zI (ldS N w ((mn N 110 : Int) - mn N 2 + 1) (mn N 110))) (zN_cg (sD_ldS hsd hN w _ _)) ?_
    refine lv_aload_n hx hb dX9_closes_156 rfl (lv_at hl 1 rfl) ?_
    refine va_get (D := g.1) (ci := 9) (v := .ref ((a 2))) (C := RX9) (T := TX9) (N := 15) hx hb hts hinX9 hown hK hP 0 rfl rfl 11 (by decide) k70 (fun _ h9 => h9) rfl dX9_closes_157 ?_
    refine lv_iconst (v := zI (3)) hx hb dX9_closes_160 (by decide) ?_
    refine z_iald hx hb hK hP 2 0 rfl rfl (by decide) (3) (by omega) (by omega) dX9_closes_161 ?_
    refine z_top (y := zI (mn N 3)) (by rw [hsd 3 (by omega)]; exact hN.lim.eq) ?_
    refine z_icmp_le (tgt := 169) hx hb dX9_closes_162 (by decide) (by omega) (by omega) (fun h162 => ?_) (fun h162 => ?_)
    · refine lv_iconst (v := zI (0)) hx hb dX9_closes_169 (by decide) ?_
      refine lv_istore_n (lv' := [(3, .int (zI (0))), (2, .int (zI (mn N 110))), (0, .ref ((a 0))), (1, .int (zI (w)))]) hx hb dX9_closes_170 rfl hl (by decide) rfl (fun ls hl => ?_)
      refine lv_iload_n hx hb dX9_closes_171 rfl (lv_at hl 0 rfl) ?_
      refine z_if_eq (tgt := 200) hx hb dX9_closes_172 (by decide) (by omega) (fun h172 => ?_) (fun h172 => ?_)
      · refine lv_iload_n hx hb dX9_closes_200 rfl (lv_at hl 0 rfl) ?_
        exact W.zret hx hb hr (by decide) (fun tX htX hWX => ⟨⟨_, (), rfl, bz_0 (by omega), g_at htX ((by rw [closeN, if_neg (by omega), ← hM]; exact hP))⟩, hS.F htX⟩) hS.2.2 dX9_closes_201
      · exact absurd rfl h172
    · refine lv_iconst (v := zI (1)) hx hb dX9_closes_165 (by decide) ?_
      refine lv_goto (tgt := 170) hx hb dX9_closes_166 (by decide) ?_
      refine lv_istore_n (lv' := [(3, .int (zI (1))), (2, .int (zI (mn N 110))), (0, .ref ((a 0))), (1, .int (zI (w)))]) hx hb dX9_closes_170 rfl hl (by decide) rfl (fun ls hl => ?_)
      refine lv_iload_n hx hb dX9_closes_171 rfl (lv_at hl 0 rfl) ?_
      refine z_if_eq (tgt := 200) hx hb dX9_closes_172 (by decide) (by omega) (fun h172 => ?_) (fun h172 => ?_)
      · exact absurd h172 (by omega)
      · refine lv_aload_n hx hb dX9_closes_175 rfl (lv_at hl 2 rfl) ?_
        refine lv_iload_n hx hb dX9_closes_176 rfl (lv_at hl 3 rfl) ?_
        refine lv_iload_n hx hb dX9_closes_177 rfl (lv_at hl 1 rfl) ?_
        refine lv_aload_n hx hb dX9_closes_178 rfl (lv_at hl 2 rfl) ?_
        refine lv_iload_n hx hb dX9_closes_179 rfl (lv_at hl 3 rfl) ?_
        refine lv_iload_n hx hb dX9_closes_180 rfl (lv_at hl 1 rfl) ?_
        refine vp_callSi (va_Run.run (va_runV (As := [.int (zI (w)), .int (zI (mn N 110))]) (rest := [.int (zI (mn N 110)), .int (zI (w)), .ref ((a 0))]) ⟨hx, hb, hml, hown, hts⟩ (c_X9_changedOf l g ((a 0)) ((a 2)) (M) (hMo) (w) ((mn N 110)) (hw) (ht)) (cwV 2 hts gX9_closes_X9_changedOf rfl rfl rfl (by decide +kernel) ⟨Nat.le_of_ble_eq_true rfl, Nat.le_of_ble_eq_true rfl⟩) (g_preV (rdN_of hP) hK (va_recv hK hP (q0 := 0) (ci := 9) rfl rfl)) rfl rfl hl.1 rfl (lv_room (Nat.le_of_ble_eq_true rfl)) dX9_closes_181 ⟨Nat.le_of_ble_eq_true rfl, Nat.le_of_ble_eq_true rfl⟩)) (fun r hr9 => ?_)
        subst hr9
        refine lv_aload_n hx hb dX9_closes_184 rfl (lv_at hl 2 rfl) ?_
        refine lv_iload_n hx hb dX9_closes_185 rfl (lv_at hl 3 rfl) ?_
        refine lv_iload_n hx hb dX9_closes_186 rfl (lv_at hl 1 rfl) ?_
        refine vp_callSi (va_Run.run (va_runV (As := [.int (zI (w)), .int (zI (mn N 110))]) (rest := [.int (zI ((chg M w (mn N 110) : Int) - 1)), .int (zI (mn N 110)), .int (zI (w)), .ref ((a 0))]) ⟨hx, hb, hml, hown, hts⟩ (c_X9_workedOf l g ((a 0)) ((a 2)) (M) (hMo) (w) ((mn N 110)) (hw) (ht)) (cwV 2 hts gX9_closes_X9_workedOf rfl rfl rfl (by decide +kernel) ⟨Nat.le_of_ble_eq_true rfl, Nat.le_of_ble_eq_true rfl⟩) (g_preV (rdN_of hP) hK (va_recv hK hP (q0 := 0) (ci := 9) rfl rfl)) rfl rfl hl.1 rfl (lv_room (Nat.le_of_ble_eq_true rfl)) dX9_closes_187 ⟨Nat.le_of_ble_eq_true rfl, Nat.le_of_ble_eq_true rfl⟩)) (fun r hr9 => ?_)
        subst hr9
        refine lv_aload_n hx hb dX9_closes_190 rfl (lv_at hl 2 rfl) ?_
        refine lv_iload_n hx hb dX9_closes_191 rfl (lv_at hl 3 rfl) ?_
        refine lv_iload_n hx hb dX9_closes_192 rfl (lv_at hl 1 rfl) ?_
        refine vp_callSi (va_Run.run (va_runV (As := [.int (zI (w)), .int (zI (mn N 110))]) (rest := [.int (zI (wkd M w (mn N 110))), .int (zI ((chg M w (mn N 110) : Int) - 1)), .int (zI (mn N 110)), .int (zI (w)), .ref ((a 0))]) ⟨hx, hb, hml, hown, hts⟩ (c_X9_kindOf l g ((a 0)) ((a 2)) (M) (hMo) (w) ((mn N 110)) (hw) (ht)) (cwV 2 hts gX9_closes_X9_kindOf rfl rfl rfl (by decide +kernel) ⟨Nat.le_of_ble_eq_true rfl, Nat.le_of_ble_eq_true rfl⟩) (g_preV (rdN_of hP) hK (va_recv hK hP (q0 := 0) (ci := 9) rfl rfl)) rfl rfl hl.1 rfl (lv_room (Nat.le_of_ble_eq_true rfl)) dX9_closes_193 ⟨Nat.le_of_ble_eq_true rfl, Nat.le_of_ble_eq_true rfl⟩)) (fun r hr9 => ?_)
        subst hr9
        refine lv_iconst (v := zI (1)) hx hb dX9_closes_196 (by decide) ?_
        refine va_callv (va_runV (As := [.int (zI (w)), .int (zI (mn N 110)), .int (zI ((chg M w (mn N 110) : Int) - 1)), .int (zI (wkd M w (mn N 110))), .int (zI (knd M w (mn N 110))), .int (zI (1))]) (rest := []) ⟨hx, hb, hml, hown, hts⟩ (c_X9_putDay l g (a) (ha) (sc) (wd) (tp) (M) (rd) (sn) (w) ((mn N 110)) ((chg M w (mn N 110) : Int) - 1) (wkd M w (mn N 110)) (knd M w (mn N 110)) (1) (hw) (ht)) (cwV 6 hts gX9_closes_X9_putDay rfl rfl rfl (by decide +kernel) ⟨Nat.le_of_ble_eq_true rfl, Nat.le_of_ble_eq_true rfl⟩) (g_preV hP hK (va_recv hK hP (q0 := 0) (ci := 9) rfl rfl)) rfl rfl hl.1 rfl (lv_room (Nat.le_of_ble_eq_true rfl)) dX9_closes_197 ⟨Nat.le_of_ble_eq_true rfl, Nat.le_of_ble_eq_true rfl⟩) hS (fun q _ h => h) (fun q h => h) (fun u9 t9 H1 locs ht9 hvm9 hw9 hB9 hz9 hk9 hS => ?_)
        rw [ht9] at hB9
        have hP := hB9
        clear hB9 hz9 hk9 hvm9 ht9
        generalize H1 = H at hP hS ⊢
        have hP : gP g (mW g a sc wd tp (upd M (111 + 364 * w + (mn N 110)) (zI (((chg M w (mn N 110) : Int) - 1) + 1 + 128 * (wkd M w (mn N 110)) + 16384 * (knd M w (mn N 110)) + 65536 * 1))) rd sn) H := hP
        rw [show (upd M (111 + 364 * w + (mn N 110)) (zI (((chg M w (mn N 110) : Int) - 1) + 1 + 128 * (wkd M w (mn N 110)) + 16384 * (knd M w (mn N 110)) + 65536 * 1))) = closeN N w from (by
            rw [closeN, if_pos (by omega), ← hM, sD_chg hsd, sD_wkd hsd, sD_knd hsd]; exact congrArg _ (congrArg zI (by unfold pkD; omega)))] at hP
        refine lv_iload_n hx hb dX9_closes_200 rfl (lv_at hl 0 rfl) ?_
        exact W.zret hx hb hr (by decide) (fun tX htX hWX => ⟨⟨_, (), rfl, bz_1 (by omega), g_at htX (hP)⟩, hS.F htX⟩) hS.2.2 dX9_closes_201
  refine lv_aload_n hx hb dX9_closes_5 rfl (lv_at hl 1 rfl) ?_
  refine lv_iload_n hx hb dX9_closes_6 rfl (lv_at hl 2 rfl) ?_
  refine lv_iload_n hx hb dX9_closes_7 rfl (lv_at hl 0 rfl) ?_
  refine vp_callSi (va_Run.run (va_runV (As := [.int (zI (w)), .int (zI (mn N 110))]) (rest := []) ⟨hx, hb, hml, hown, hts⟩ (c_X9_kindOf l g ((a 0)) ((a 2)) (N) (hN) (w) ((mn N 110)) (hw) (ht)) (cwV 2 hts gX9_closes_X9_kindOf rfl rfl rfl (by decide +kernel) ⟨Nat.le_of_ble_eq_true rfl, Nat.le_of_ble_eq_true rfl⟩) (g_preV (rdN_of hP) hK (va_recv hK hP (q0 := 0) (ci := 9) rfl rfl)) rfl rfl hl.1 rfl (lv_room (Nat.le_of_ble_eq_true rfl)) dX9_closes_8 ⟨Nat.le_of_ble_eq_true rfl, Nat.le_of_ble_eq_true rfl⟩)) (fun r hr9 => ?_)
  subst hr9
  refine z_if_ne (tgt := 140) hx hb dX9_closes_11 (by decide) (by omega) (fun h11 => ?_) (fun h11 => ?_)
  · exact join140 (N) (by rw [clsN, if_neg (by omega)]) H locs hP hS ls (lv_sub hl [0, 1, 2] rfl)
  · refine lv_aload_n hx hb dX9_closes_14 rfl (lv_at hl 1 rfl) ?_
    refine lv_iload_n hx hb dX9_closes_15 rfl (lv_at hl 2 rfl) ?_
    refine lv_iconst (v := zI (2)) hx hb dX9_closes_16 (by decide) ?_
    refine lv_aload_n hx hb dX9_closes_17 rfl (lv_at hl 1 rfl) ?_
    refine lv_iload_n hx hb dX9_closes_18 rfl (lv_at hl 2 rfl) ?_
    refine lv_iload_n hx hb dX9_closes_19 rfl (lv_at hl 0 rfl) ?_
    refine vp_callSi (va_Run.run (va_runV (As := [.int (zI (w)), .int (zI (mn N 110))]) (rest := [.int (zI (2)), .int (zI (w)), .ref ((a 0))]) ⟨hx, hb, hml, hown, hts⟩ (c_X9_workedOf l g ((a 0)) ((a 2)) (N) (hN) (w) ((mn N 110)) (hw) (ht)) (cwV 2 hts gX9_closes_X9_workedOf rfl rfl rfl (by decide +kernel) ⟨Nat.le_of_ble_eq_true rfl, Nat.le_of_ble_eq_true rfl⟩) (g_preV (rdN_of hP) hK (va_recv hK hP (q0 := 0) (ci := 9) rfl rfl)) rfl rfl hl.1 rfl (lv_room (Nat.le_of_ble_eq_true rfl)) dX9_closes_20 ⟨Nat.le_of_ble_eq_true rfl, Nat.le_of_ble_eq_true rfl⟩)) (fun r hr9 => ?_)
    subst hr9
    refine lv_aload_n hx hb dX9_closes_23 rfl (lv_at hl 1 rfl) ?_
    refine lv_iload_n hx hb dX9_closes_24 rfl (lv_at hl 2 rfl) ?_
    refine lv_iload_n hx hb dX9_closes_25 rfl (lv_at hl 0 rfl) ?_
    refine vp_callSi (va_Run.run (va_runV (As := [.int (zI (w)), .int (zI (mn N 110))]) (rest := [.int (zI (wkd N w (mn N 110))), .int (zI (2)), .int (zI (w)), .ref ((a 0))]) ⟨hx, hb, hml, hown, hts⟩ (c_X9_plannedOf l g ((a 0)) ((a 2)) (N) (hN) (w) ((mn N 110)) (hw) (ht)) (cwV 2 hts gX9_closes_X9_plannedOf rfl rfl rfl (by decide +kernel) ⟨Nat.le_of_ble_eq_true rfl, Nat.le_of_ble_eq_true rfl⟩) (g_preV (rdN_of hP) hK (va_recv hK hP (q0 := 0) (ci := 9) rfl rfl)) rfl rfl hl.1 rfl (lv_room (Nat.le_of_ble_eq_true rfl)) dX9_closes_26 ⟨Nat.le_of_ble_eq_true rfl, Nat.le_of_ble_eq_true rfl⟩)) (fun r hr9 => ?_)
    subst hr9
    refine z_isub hx hb dX9_closes_29 ?_
    refine va_callv (va_runV (As := [.int (zI (w)), .int (zI (2)), .int (zI ((wkd N w (mn N 110)) - (plan N w (mn N 110))))]) (rest := []) ⟨hx, hb, hml, hown, hts⟩ (c_X9_adds l g (a) (ha) (sc) (wd) (tp) (N) (rd) (sn) (w) (2) (zI ((wkd N w (mn N 110) : Int) - plan N w (mn N 110))) (hw) (by omega)) (cwV 3 hts gX9_closes_X9_adds rfl rfl rfl (by decide +kernel) ⟨Nat.le_of_ble_eq_true rfl, Nat.le_of_ble_eq_true rfl⟩) (g_preV hP hK (va_recv hK hP (q0 := 0) (ci := 9) rfl rfl)) rfl rfl hl.1 rfl (lv_room (Nat.le_of_ble_eq_true rfl)) dX9_closes_30 ⟨Nat.le_of_ble_eq_true rfl, Nat.le_of_ble_eq_true rfl⟩) hS (fun q _ h => h) (fun q h => h) (fun u9 t9 H1 locs ht9 hvm9 hw9 hB9 hz9 hk9 hS => ?_)
    rw [ht9] at hB9
    have hP := hB9
    clear hB9 hz9 hk9 hvm9 ht9
    generalize H1 = H at hP hS ⊢
    have hP : gP g (mW g a sc wd tp (upd N (58 + 13 * w + 2) (N (58 + 13 * w + 2) + (zI ((wkd N w (mn N 110) : Int) - plan N w (mn N 110))))) rd sn) H := hP
    rw [show (upd N (58 + 13 * w + 2) (N (58 + 13 * w + 2) + (zI ((wkd N w (mn N 110) : Int) - plan N w (mn N 110))))) = upd N (58 + 13 * w + 2) (zI (balB N w)) from (by rw [zI_of (N (58 + 13 * w + 2)), zI_add]; rfl)] at hP
    refine lv_aload_n hx hb dX9_closes_33 rfl (lv_at hl 1 rfl) ?_
    refine lv_iload_n hx hb dX9_closes_34 rfl (lv_at hl 2 rfl) ?_
    refine lv_iconst (v := zI (2)) hx hb dX9_closes_35 (by decide) ?_
    refine vp_callSi (va_Run.run (va_runV (As := [.int (zI (w)), .int (zI (2))]) (rest := []) ⟨hx, hb, hml, hown, hts⟩ (c_X9_its l g ((a 0)) ((a 2)) (upd N (58 + 13 * w + 2) (zI (balB N w))) (w) (2) (hw) (by omega)) (cwV 2 hts gX9_closes_X9_its rfl rfl rfl (by decide +kernel) ⟨Nat.le_of_ble_eq_true rfl, Nat.le_of_ble_eq_true rfl⟩) (g_preV (rdN_of hP) hK (va_recv hK hP (q0 := 0) (ci := 9) rfl rfl)) rfl rfl hl.1 rfl (lv_room (Nat.le_of_ble_eq_true rfl)) dX9_closes_36 ⟨Nat.le_of_ble_eq_true rfl, Nat.le_of_ble_eq_true rfl⟩)) (fun r hr9 => ?_)
    subst hr9
    refine z_top (y := zI (balB N w)) (upd_at _ _ _) ?_
    refine lv_aload_n hx hb dX9_closes_39 rfl (lv_at hl 1 rfl) ?_
    refine va_get (D := g.1) (ci := 9) (v := .ref ((a 2))) (C := RX9) (T := TX9) (N := 15) hx hb hts hinX9 hown hK hP 0 rfl rfl 11 (by decide) k70 (fun _ h9 => h9) rfl dX9_closes_40 ?_
    refine lv_iconst (v := zI (1)) hx hb dX9_closes_43 (by decide) ?_
    refine z_iald hx hb hK hP 2 0 rfl rfl (by decide) (1) (by omega) (by omega) dX9_closes_44 ?_
    refine z_top (y := zI (mn N 1)) (by rw [upd_ne _ (by omega)]; exact hN.hi.eq) ?_
    refine z_isub hx hb dX9_closes_45 ?_
    refine lv_istore_n (lv' := [(3, .int (zI ((balB N w) - (mn N 1)))), (2, .int (zI (mn N 110))), (0, .ref ((a 0))), (1, .int (zI (w)))]) hx hb dX9_closes_46 rfl hl (by decide) rfl (fun ls hl => ?_)
    refine lv_aload_n hx hb dX9_closes_47 rfl (lv_at hl 2 rfl) ?_
    refine va_get (D := g.1) (ci := 9) (v := .ref ((a 2))) (C := RX9) (T := TX9) (N := 15) hx hb hts hinX9 hown hK hP 0 rfl rfl 11 (by decide) k70 (fun _ h9 => h9) rfl dX9_closes_48 ?_
    refine lv_iconst (v := zI (0)) hx hb dX9_closes_51 (by decide) ?_
    refine z_iald hx hb hK hP 2 0 rfl rfl (by decide) (0) (by omega) (by omega) dX9_closes_52 ?_
    refine z_top (y := zI (mn N 0)) (by rw [upd_ne _ (by omega)]; exact hN.lo.eq) ?_
    refine z_ineg hx hb dX9_closes_53 ?_
    refine lv_aload_n hx hb dX9_closes_54 rfl (lv_at hl 2 rfl) ?_
    refine lv_iload_n hx hb dX9_closes_55 rfl (lv_at hl 3 rfl) ?_
    refine lv_iconst (v := zI (2)) hx hb dX9_closes_56 (by decide) ?_
    refine vp_callSi (va_Run.run (va_runV (As := [.int (zI (w)), .int (zI (2))]) (rest := [.int (zI (-(mn N 0)))]) ⟨hx, hb, hml, hown, hts⟩ (c_X9_its l g ((a 0)) ((a 2)) (upd N (58 + 13 * w + 2) (zI (balB N w))) (w) (2) (hw) (by omega)) (cwV 2 hts gX9_closes_X9_its rfl rfl rfl (by decide +kernel) ⟨Nat.le_of_ble_eq_true rfl, Nat.le_of_ble_eq_true rfl⟩) (g_preV (rdN_of hP) hK (va_recv hK hP (q0 := 0) (ci := 9) rfl rfl)) rfl rfl hl.1 rfl (lv_room (Nat.le_of_ble_eq_true rfl)) dX9_closes_57 ⟨Nat.le_of_ble_eq_true rfl, Nat.le_of_ble_eq_true rfl⟩)) (fun r hr9 => ?_)
    subst hr9
    refine z_top (y := zI (balB N w)) (upd_at _ _ _) ?_
    refine z_isub hx hb dX9_closes_60 ?_
    refine lv_istore (lv' := [(4, .int (zI ((-(mn N 0)) - (balB N w)))), (3, .int (zI ((balB N w) - (mn N 1)))), (2, .int (zI (mn N 110))), (0, .ref ((a 0))), (1, .int (zI (w)))]) hx hb dX9_closes_61 hl (by decide) rfl (fun ls hl => ?_)
    refine lv_iload_n hx hb dX9_closes_63 rfl (lv_at hl 1 rfl) ?_
    refine z_if_le (tgt := 103) hx hb dX9_closes_64 (by decide) (by omega) (fun h64 => ?_) (fun h64 => ?_)
    · refine lv_iload hx hb dX9_closes_103 (lv_at hl 0 rfl) ?_
      refine z_if_le (tgt := 140) hx hb dX9_closes_105 (by decide) (by omega) (fun h105 => ?_) (fun h105 => ?_)
      · exact join140 (upd N (58 + 13 * w + 2) (zI (balB N w))) (by rw [clsN, if_pos (by omega), if_neg (by omega), if_neg (by omega)]) H locs hP hS ls (lv_sub hl [2, 3, 4] rfl)
      · refine lv_aload_n hx hb dX9_closes_108 rfl (lv_at hl 3 rfl) ?_
        refine lv_iload_n hx hb dX9_closes_109 rfl (lv_at hl 4 rfl) ?_
        refine lv_iconst (v := zI (2)) hx hb dX9_closes_110 (by decide) ?_
        refine lv_iload hx hb dX9_closes_111 (lv_at hl 0 rfl) ?_
        refine va_callv (va_runV (As := [.int (zI (w)), .int (zI (2)), .int (zI ((-(mn N 0)) - (balB N w)))]) (rest := []) ⟨hx, hb, hml, hown, hts⟩ (c_X9_adds l g (a) (ha) (sc) (wd) (tp) ((upd N (58 + 13 * w + 2) (zI (balB N w)))) (rd) (sn) (w) (2) (zI (-(mn N 0 : Int) - balB N w)) (hw) (by omega)) (cwV 3 hts gX9_closes_X9_adds rfl rfl rfl (by decide +kernel) ⟨Nat.le_of_ble_eq_true rfl, Nat.le_of_ble_eq_true rfl⟩) (g_preV hP hK (va_recv hK hP (q0 := 0) (ci := 9) rfl rfl)) rfl rfl hl.1 rfl (lv_room (Nat.le_of_ble_eq_true rfl)) dX9_closes_113 ⟨Nat.le_of_ble_eq_true rfl, Nat.le_of_ble_eq_true rfl⟩) hS (fun q _ h => h) (fun q h => h) (fun u9 t9 H1 locs ht9 hvm9 hw9 hB9 hz9 hk9 hS => ?_)
        rw [ht9] at hB9
        have hP := hB9
        clear hB9 hz9 hk9 hvm9 ht9
        generalize H1 = H at hP hS ⊢
        have hP : gP g (mW g a sc wd tp (upd (upd N (58 + 13 * w + 2) (zI (balB N w))) (58 + 13 * w + 2) ((upd N (58 + 13 * w + 2) (zI (balB N w))) (58 + 13 * w + 2) + (zI (-(mn N 0 : Int) - balB N w)))) rd sn) H := hP
        rw [show (upd (upd N (58 + 13 * w + 2) (zI (balB N w))) (58 + 13 * w + 2) ((upd N (58 + 13 * w + 2) (zI (balB N w))) (58 + 13 * w + 2) + (zI (-(mn N 0 : Int) - balB N w)))) = upd N (58 + 13 * w + 2) (zI (-(mn N 0 : Int))) from (by rw [upd_at, zI_add, upd_upd, show balB N w + (-(mn N 0 : Int) - balB N w) = -(mn N 0 : Int) by omega])] at hP
        refine lv_aload_n hx hb dX9_closes_116 rfl (lv_at hl 3 rfl) ?_
        refine lv_iload_n hx hb dX9_closes_117 rfl (lv_at hl 4 rfl) ?_
        refine lv_iconst (v := zI (4)) hx hb dX9_closes_118 (by decide) ?_
        refine lv_iload hx hb dX9_closes_119 (lv_at hl 0 rfl) ?_
        refine va_callv (va_runV (As := [.int (zI (w)), .int (zI (4)), .int (zI ((-(mn N 0)) - (balB N w)))]) (rest := []) ⟨hx, hb, hml, hown, hts⟩ (c_X9_adds l g (a) (ha) (sc) (wd) (tp) ((upd N (58 + 13 * w + 2) (zI (-(mn N 0 : Int))))) (rd) (sn) (w) (4) (zI (-(mn N 0 : Int) - balB N w)) (hw) (by omega)) (cwV 3 hts gX9_closes_X9_adds rfl rfl rfl (by decide +kernel) ⟨Nat.le_of_ble_eq_true rfl, Nat.le_of_ble_eq_true rfl⟩) (g_preV hP hK (va_recv hK hP (q0 := 0) (ci := 9) rfl rfl)) rfl rfl hl.1 rfl (lv_room (Nat.le_of_ble_eq_true rfl)) dX9_closes_121 ⟨Nat.le_of_ble_eq_true rfl, Nat.le_of_ble_eq_true rfl⟩) hS (fun q _ h => h) (fun q h => h) (fun u9 t9 H1 locs ht9 hvm9 hw9 hB9 hz9 hk9 hS => ?_)
        rw [ht9] at hB9
        have hP := hB9
        clear hB9 hz9 hk9 hvm9 ht9
        generalize H1 = H at hP hS ⊢
        have hP : gP g (mW g a sc wd tp (upd (upd N (58 + 13 * w + 2) (zI (-(mn N 0 : Int)))) (58 + 13 * w + 4) ((upd N (58 + 13 * w + 2) (zI (-(mn N 0 : Int)))) (58 + 13 * w + 4) + (zI (-(mn N 0 : Int) - balB N w)))) rd sn) H := hP
        rw [show (upd (upd N (58 + 13 * w + 2) (zI (-(mn N 0 : Int)))) (58 + 13 * w + 4) ((upd N (58 + 13 * w + 2) (zI (-(mn N 0 : Int)))) (58 + 13 * w + 4) + (zI (-(mn N 0 : Int) - balB N w)))) = upd (upd N (58 + 13 * w + 2) (zI (-(mn N 0 : Int)))) (58 + 13 * w + 4) (N (58 + 13 * w + 4) + zI (-(mn N 0 : Int) - balB N w)) from (by rw [upd_ne N (show 58 + 13 * w + 4 ≠ 58 + 13 * w + 2 by omega)])] at hP
        refine lv_aload_n hx hb dX9_closes_124 rfl (lv_at hl 3 rfl) ?_
        refine lv_iload_n hx hb dX9_closes_125 rfl (lv_at hl 4 rfl) ?_
        refine lv_bipush (v := zI (7)) hx hb dX9_closes_126 (by decide) ?_
        refine lv_iload hx hb dX9_closes_128 (lv_at hl 0 rfl) ?_
        refine lv_aload_n hx hb dX9_closes_130 rfl (lv_at hl 3 rfl) ?_
        refine lv_iload_n hx hb dX9_closes_131 rfl (lv_at hl 4 rfl) ?_
        refine lv_iconst (v := zI (0)) hx hb dX9_closes_132 (by decide) ?_
        refine vp_callSi (va_Run.run (va_runV (As := [.int (zI (w)), .int (zI (0))]) (rest := [.int (zI ((-(mn N 0)) - (balB N w))), .int (zI (7)), .int (zI (w)), .ref ((a 0))]) ⟨hx, hb, hml, hown, hts⟩ (c_X9_its l g ((a 0)) ((a 2)) (upd (upd N (58 + 13 * w + 2) (zI (-(mn N 0 : Int)))) (58 + 13 * w + 4) (N (58 + 13 * w + 4) + zI (-(mn N 0 : Int) - balB N w))) (w) (0) (hw) (by omega)) (cwV 2 hts gX9_closes_X9_its rfl rfl rfl (by decide +kernel) ⟨Nat.le_of_ble_eq_true rfl, Nat.le_of_ble_eq_true rfl⟩) (g_preV (rdN_of hP) hK (va_recv hK hP (q0 := 0) (ci := 9) rfl rfl)) rfl rfl hl.1 rfl (lv_room (Nat.le_of_ble_eq_true rfl)) dX9_closes_133 ⟨Nat.le_of_ble_eq_true rfl, Nat.le_of_ble_eq_true rfl⟩)) (fun r hr9 => ?_)
        subst hr9
        refine z_top (y := zI (mn N (58 + 13 * w))) (by rw [upd_ne _ (by omega), upd_ne _ (by omega)]; exact (hN.rate hw).eq) ?_
        refine z_imul hx hb dX9_closes_136 ?_
        refine va_callv (va_runV (As := [.int (zI (w)), .int (zI (7)), .int (zI (((-(mn N 0)) - (balB N w)) * (mn N (58 + 13 * w))))]) (rest := []) ⟨hx, hb, hml, hown, hts⟩ (c_X9_adds l g (a) (ha) (sc) (wd) (tp) ((upd (upd N (58 + 13 * w + 2) (zI (-(mn N 0 : Int)))) (58 + 13 * w + 4) (N (58 + 13 * w + 4) + zI (-(mn N 0 : Int) - balB N w)))) (rd) (sn) (w) (7) (zI ((-(mn N 0 : Int) - balB N w) * mn N (58 + 13 * w))) (hw) (by omega)) (cwV 3 hts gX9_closes_X9_adds rfl rfl rfl (by decide +kernel) ⟨Nat.le_of_ble_eq_true rfl, Nat.le_of_ble_eq_true rfl⟩) (g_preV hP hK (va_recv hK hP (q0 := 0) (ci := 9) rfl rfl)) rfl rfl hl.1 rfl (lv_room (Nat.le_of_ble_eq_true rfl)) dX9_closes_137 ⟨Nat.le_of_ble_eq_true rfl, Nat.le_of_ble_eq_true rfl⟩) hS (fun q _ h => h) (fun q h => h) (fun u9 t9 H1 locs ht9 hvm9 hw9 hB9 hz9 hk9 hS => ?_)
        rw [ht9] at hB9
        have hP := hB9
        clear hB9 hz9 hk9 hvm9 ht9
        generalize H1 = H at hP hS ⊢
        have hP : gP g (mW g a sc wd tp (upd (upd (upd N (58 + 13 * w + 2) (zI (-(mn N 0 : Int)))) (58 + 13 * w + 4) (N (58 + 13 * w + 4) + zI (-(mn N 0 : Int) - balB N w))) (58 + 13 * w + 7) ((upd (upd N (58 + 13 * w + 2) (zI (-(mn N 0 : Int)))) (58 + 13 * w + 4) (N (58 + 13 * w + 4) + zI (-(mn N 0 : Int) - balB N w))) (58 + 13 * w + 7) + (zI ((-(mn N 0 : Int) - balB N w) * mn N (58 + 13 * w))))) rd sn) H := hP
        rw [show (upd (upd (upd N (58 + 13 * w + 2) (zI (-(mn N 0 : Int)))) (58 + 13 * w + 4) (N (58 + 13 * w + 4) + zI (-(mn N 0 : Int) - balB N w))) (58 + 13 * w + 7) ((upd (upd N (58 + 13 * w + 2) (zI (-(mn N 0 : Int)))) (58 + 13 * w + 4) (N (58 + 13 * w + 4) + zI (-(mn N 0 : Int) - balB N w))) (58 + 13 * w + 7) + (zI ((-(mn N 0 : Int) - balB N w) * mn N (58 + 13 * w))))) = upd (upd (upd N (58 + 13 * w + 2) (zI (-(mn N 0 : Int)))) (58 + 13 * w + 4) (N (58 + 13 * w + 4) + zI (-(mn N 0 : Int) - balB N w))) (58 + 13 * w + 7) (N (58 + 13 * w + 7) + zI ((-(mn N 0 : Int) - balB N w) * mn N (58 + 13 * w))) from (by rw [upd_ne _ (show 58 + 13 * w + 7 ≠ 58 + 13 * w + 4 by omega), upd_ne N (show 58 + 13 * w + 7 ≠ 58 + 13 * w + 2 by omega)])] at hP
        exact join140 (upd (upd (upd N (58 + 13 * w + 2) (zI (-(mn N 0 : Int)))) (58 + 13 * w + 4) (N (58 + 13 * w + 4) + zI (-(mn N 0 : Int) - balB N w))) (58 + 13 * w + 7) (N (58 + 13 * w + 7) + zI ((-(mn N 0 : Int) - balB N w) * mn N (58 + 13 * w)))) (by rw [clsN, if_pos (by omega), if_neg (by omega), if_pos (by omega)]) H locs hP hS ls (lv_sub hl [2, 3, 4] rfl)
    · refine lv_aload_n hx hb dX9_closes_67 rfl (lv_at hl 3 rfl) ?_
      refine lv_iload_n hx hb dX9_closes_68 rfl (lv_at hl 4 rfl) ?_
      refine lv_iconst (v := zI (2)) hx hb dX9_closes_69 (by decide) ?_
      refine lv_iload_n hx hb dX9_closes_70 rfl (lv_at hl 1 rfl) ?_
      refine z_ineg hx hb dX9_closes_71 ?_
      refine va_callv (va_runV (As := [.int (zI (w)), .int (zI (2)), .int (zI (-((balB N w) - (mn N 1))))]) (rest := []) ⟨hx, hb, hml, hown, hts⟩ (c_X9_adds l g (a) (ha) (sc) (wd) (tp) ((upd N (58 + 13 * w + 2) (zI (balB N w)))) (rd) (sn) (w) (2) (zI (-(balB N w - mn N 1))) (hw) (by omega)) (cwV 3 hts gX9_closes_X9_adds rfl rfl rfl (by decide +kernel) ⟨Nat.le_of_ble_eq_true rfl, Nat.le_of_ble_eq_true rfl⟩) (g_preV hP hK (va_recv hK hP (q0 := 0) (ci := 9) rfl rfl)) rfl rfl hl.1 rfl (lv_room (Nat.le_of_ble_eq_true rfl)) dX9_closes_72 ⟨Nat.le_of_ble_eq_true rfl, Nat.le_of_ble_eq_true rfl⟩) hS (fun q _ h => h) (fun q h => h) (fun u9 t9 H1 locs ht9 hvm9 hw9 hB9 hz9 hk9 hS => ?_)
      rw [ht9] at hB9
      have hP := hB9
      clear hB9 hz9 hk9 hvm9 ht9
      generalize H1 = H at hP hS ⊢
      have hP : gP g (mW g a sc wd tp (upd (upd N (58 + 13 * w + 2) (zI (balB N w))) (58 + 13 * w + 2) ((upd N (58 + 13 * w + 2) (zI (balB N w))) (58 + 13 * w + 2) + (zI (-(balB N w - mn N 1))))) rd sn) H := hP
      rw [show (upd (upd N (58 + 13 * w + 2) (zI (balB N w))) (58 + 13 * w + 2) ((upd N (58 + 13 * w + 2) (zI (balB N w))) (58 + 13 * w + 2) + (zI (-(balB N w - mn N 1))))) = upd N (58 + 13 * w + 2) (zI (mn N 1)) from (by rw [upd_at, zI_add, upd_upd, show balB N w + -(balB N w - mn N 1) = mn N 1 by omega])] at hP
      refine lv_aload_n hx hb dX9_closes_75 rfl (lv_at hl 3 rfl) ?_
      refine lv_iload_n hx hb dX9_closes_76 rfl (lv_at hl 4 rfl) ?_
      refine lv_iconst (v := zI (3)) hx hb dX9_closes_77 (by decide) ?_
      refine lv_iload_n hx hb dX9_closes_78 rfl (lv_at hl 1 rfl) ?_
      refine va_callv (va_runV (As := [.int (zI (w)), .int (zI (3)), .int (zI ((balB N w) - (mn N 1)))]) (rest := []) ⟨hx, hb, hml, hown, hts⟩ (c_X9_adds l g (a) (ha) (sc) (wd) (tp) ((upd N (58 + 13 * w + 2) (zI (mn N 1)))) (rd) (sn) (w) (3) (zI (balB N w - mn N 1)) (hw) (by omega)) (cwV 3 hts gX9_closes_X9_adds rfl rfl rfl (by decide +kernel) ⟨Nat.le_of_ble_eq_true rfl, Nat.le_of_ble_eq_true rfl⟩) (g_preV hP hK (va_recv hK hP (q0 := 0) (ci := 9) rfl rfl)) rfl rfl hl.1 rfl (lv_room (Nat.le_of_ble_eq_true rfl)) dX9_closes_79 ⟨Nat.le_of_ble_eq_true rfl, Nat.le_of_ble_eq_true rfl⟩) hS (fun q _ h => h) (fun q h => h) (fun u9 t9 H1 locs ht9 hvm9 hw9 hB9 hz9 hk9 hS => ?_)
      rw [ht9] at hB9
      have hP := hB9
      clear hB9 hz9 hk9 hvm9 ht9
      generalize H1 = H at hP hS ⊢
      have hP : gP g (mW g a sc wd tp (upd (upd N (58 + 13 * w + 2) (zI (mn N 1))) (58 + 13 * w + 3) ((upd N (58 + 13 * w + 2) (zI (mn N 1))) (58 + 13 * w + 3) + (zI (balB N w - mn N 1)))) rd sn) H := hP
      rw [show (upd (upd N (58 + 13 * w + 2) (zI (mn N 1))) (58 + 13 * w + 3) ((upd N (58 + 13 * w + 2) (zI (mn N 1))) (58 + 13 * w + 3) + (zI (balB N w - mn N 1)))) = upd (upd N (58 + 13 * w + 2) (zI (mn N 1))) (58 + 13 * w + 3) (N (58 + 13 * w + 3) + zI (balB N w - mn N 1)) from (by rw [upd_ne N (show 58 + 13 * w + 3 ≠ 58 + 13 * w + 2 by omega)])] at hP
      refine lv_aload_n hx hb dX9_closes_82 rfl (lv_at hl 3 rfl) ?_
      refine lv_iload_n hx hb dX9_closes_83 rfl (lv_at hl 4 rfl) ?_
      refine lv_iconst (v := zI (5)) hx hb dX9_closes_84 (by decide) ?_
      refine lv_iload_n hx hb dX9_closes_85 rfl (lv_at hl 1 rfl) ?_
      refine lv_aload_n hx hb dX9_closes_86 rfl (lv_at hl 3 rfl) ?_
      refine lv_iload_n hx hb dX9_closes_87 rfl (lv_at hl 4 rfl) ?_
      refine lv_iconst (v := zI (0)) hx hb dX9_closes_88 (by decide) ?_
      refine vp_callSi (va_Run.run (va_runV (As := [.int (zI (w)), .int (zI (0))]) (rest := [.int (zI ((balB N w) - (mn N 1))), .int (zI (5)), .int (zI (w)), .ref ((a 0))]) ⟨hx, hb, hml, hown, hts⟩ (c_X9_its l g ((a 0)) ((a 2)) (upd (upd N (58 + 13 * w + 2) (zI (mn N 1))) (58 + 13 * w + 3) (N (58 + 13 * w + 3) + zI (balB N w - mn N 1))) (w) (0) (hw) (by omega)) (cwV 2 hts gX9_closes_X9_its rfl rfl rfl (by decide +kernel) ⟨Nat.le_of_ble_eq_true rfl, Nat.le_of_ble_eq_true rfl⟩) (g_preV (rdN_of hP) hK (va_recv hK hP (q0 := 0) (ci := 9) rfl rfl)) rfl rfl hl.1 rfl (lv_room (Nat.le_of_ble_eq_true rfl)) dX9_closes_89 ⟨Nat.le_of_ble_eq_true rfl, Nat.le_of_ble_eq_true rfl⟩)) (fun r hr9 => ?_)
      subst hr9
      refine z_top (y := zI (mn N (58 + 13 * w))) (by rw [upd_ne _ (by omega), upd_ne _ (by omega)]; exact (hN.rate hw).eq) ?_
      refine z_imul hx hb dX9_closes_92 ?_
      refine lv_iconst (v := zI (3)) hx hb dX9_closes_93 (by decide) ?_
      refine z_imul hx hb dX9_closes_94 ?_
      refine lv_iconst (v := zI (2)) hx hb dX9_closes_95 (by decide) ?_
      refine z_idiv hx hb dX9_closes_96 (by
          obtain ⟨n9, hn9⟩ := Int.eq_ofNat_of_zero_le (show 0 ≤ balB N w - mn N 1 by omega)
          rw [hn9]; exact mul3b (z := 3) (show n9 ≤ 96 by omega) (hN.rate hw).le (Nat.le_refl 3) (by decide)) (by omega) ?_
      refine va_callv (va_runV (As := [.int (zI (w)), .int (zI (5)), .int (zI (((((balB N w) - (mn N 1)) * (mn N (58 + 13 * w))) * 3) / 2))]) (rest := []) ⟨hx, hb, hml, hown, hts⟩ (c_X9_adds l g (a) (ha) (sc) (wd) (tp) ((upd (upd N (58 + 13 * w + 2) (zI (mn N 1))) (58 + 13 * w + 3) (N (58 + 13 * w + 3) + zI (balB N w - mn N 1)))) (rd) (sn) (w) (5) (zI ((balB N w - mn N 1) * mn N (58 + 13 * w) * 3 / 2)) (hw) (by omega)) (cwV 3 hts gX9_closes_X9_adds rfl rfl rfl (by decide +kernel) ⟨Nat.le_of_ble_eq_true rfl, Nat.le_of_ble_eq_true rfl⟩) (g_preV hP hK (va_recv hK hP (q0 := 0) (ci := 9) rfl rfl)) rfl rfl hl.1 rfl (lv_room (Nat.le_of_ble_eq_true rfl)) dX9_closes_97 ⟨Nat.le_of_ble_eq_true rfl, Nat.le_of_ble_eq_true rfl⟩) hS (fun q _ h => h) (fun q h => h) (fun u9 t9 H1 locs ht9 hvm9 hw9 hB9 hz9 hk9 hS => ?_)
      rw [ht9] at hB9
      have hP := hB9
      clear hB9 hz9 hk9 hvm9 ht9
      generalize H1 = H at hP hS ⊢
      have hP : gP g (mW g a sc wd tp (upd (upd (upd N (58 + 13 * w + 2) (zI (mn N 1))) (58 + 13 * w + 3) (N (58 + 13 * w + 3) + zI (balB N w - mn N 1))) (58 + 13 * w + 5) ((upd (upd N (58 + 13 * w + 2) (zI (mn N 1))) (58 + 13 * w + 3) (N (58 + 13 * w + 3) + zI (balB N w - mn N 1))) (58 + 13 * w + 5) + (zI ((balB N w - mn N 1) * mn N (58 + 13 * w) * 3 / 2)))) rd sn) H := hP
      rw [show (upd (upd (upd N (58 + 13 * w + 2) (zI (mn N 1))) (58 + 13 * w + 3) (N (58 + 13 * w + 3) + zI (balB N w - mn N 1))) (58 + 13 * w + 5) ((upd (upd N (58 + 13 * w + 2) (zI (mn N 1))) (58 + 13 * w + 3) (N (58 + 13 * w + 3) + zI (balB N w - mn N 1))) (58 + 13 * w + 5) + (zI ((balB N w - mn N 1) * mn N (58 + 13 * w) * 3 / 2)))) = upd (upd (upd N (58 + 13 * w + 2) (zI (mn N 1))) (58 + 13 * w + 3) (N (58 + 13 * w + 3) + zI (balB N w - mn N 1))) (58 + 13 * w + 5) (N (58 + 13 * w + 5) + zI ((balB N w - mn N 1) * mn N (58 + 13 * w) * 3 / 2)) from (by rw [upd_ne _ (show 58 + 13 * w + 5 ≠ 58 + 13 * w + 3 by omega), upd_ne N (show 58 + 13 * w + 5 ≠ 58 + 13 * w + 2 by omega)])] at hP
      refine lv_goto (tgt := 140) hx hb dX9_closes_100 (by decide) ?_
      exact join140 (upd (upd (upd N (58 + 13 * w + 2) (zI (mn N 1))) (58 + 13 * w + 3) (N (58 + 13 * w + 3) + zI (balB N w - mn N 1))) (58 + 13 * w + 5) (N (58 + 13 * w + 5) + zI ((balB N w - mn N 1) * mn N (58 + 13 * w) * 3 / 2))) (by rw [clsN, if_pos (by omega), if_pos (by omega)]) H locs hP hS ls (lv_sub hl [2, 3, 4] rfl)

set_option maxHeartbeats 4000000 in
set_option maxRecDepth 100000 in
theorem c_X9_endDay (l : Launch) (g : GG) (a : Nat → Nat) (ha : aD a) (sc : Nat → Int32) (wd : Int64) (tp N rd sn : Nat → Int32) (hN : okN N) (k : Nat) (hk : sc 9 = zI k) (hk10 : k ≤ 10)  : Met l yX9_endDay wsX9_endDay ({ frames := 6, cells := 0, slots := 0, locals := 140 }) (gPc g [.ref ((a 0))] (gP g (mW g a sc wd tp N rd sn))) (va_Qi (fun (r : Int32) (_ : Unit) => r = zI (if ¬ mn N 110 = 364 then (edC N (mn N 57) : Int) else -1)) (fun (_ : Unit) (tS : State) => gP g (mW g a (upd (upd sc 0 (zI (0))) 9 (zI ((actK (¬ mn N 110 = 364) k : Nat)))) wd tp (actN (¬ mn N 110 = 364) N (endN N)) rd (actS (¬ mn N 110 = 364) sn N k)) tS.heap) (mA a)) 0 0 (mA a) := by
  refine Met.ofW (cc := cX9_endDay) (maxL := 3) (ret := (some .int)) (by decide) rfl ?_
  intro p e s m args below meth c s₁ B hml hv
  obtain ⟨rfl, hP, hK⟩ := hv
  have hx := B.exec
  have hb := B.bytes
  have hr := B.returns
  have hts := atoms_spec (ws := wsX9_endDay) B.pre
  have hown : s.vm.findClass RX9 = some m.cls := findClass_of_methodNamed B.named
  have hlocks := B.notSynchronized
  have hinX9 : ∀ w ∈ wsX90, w ∈ wsX9_endDay := by decide +kernel
  have k1 := hts (.fieldLink RX9 1 "HoursBankModel" "thrown" "I") (by decide +kernel)
  have k70 := hts (.fieldLink RX9 70 "HoursBankModel" "now" "[I") (by decide +kernel)
  have hl := lv_entry ([.ref ((a 0))]) (n := 3) (Nat.le_of_ble_eq_true rfl)
  rw [lg_entry_eq]
  generalize (lg_sl ([.ref ((a 0))]) ++ List.replicate (3 - (lg_sl ([.ref ((a 0))])).length) Slot.unset).toArray = ls at hl ⊢
  have hl : lv_has ls 3 [(0, .ref ((a 0)))] := hl
  have hS : va_S (mA a) s.heap s.heap [] := va_S.rf
  obtain ⟨H, hH9⟩ : ∃ H, H = s.heap := ⟨_, rfl⟩
  obtain ⟨locs, hL9⟩ : ∃ x : List Loc, x = [] := ⟨_, rfl⟩
  have hP : gP g (mW g a sc wd tp N rd sn) H := hH9 ▸ hP
  have hS : va_S (mA a) s.heap H locs := by rw [hH9, hL9]; exact hS
  refine z_start hH9 hL9 ?_
  clear hH9 hL9
  refine lv_aload_n hx hb dX9_endDay_0 rfl (lv_at hl 0 rfl) ?_
  refine lv_iconst (v := zI (0)) hx hb dX9_endDay_1 (by decide) ?_
  refine va_put (D := g.1) (ci := 9) (v := .int (zI (0))) (ty := .int) (C := RX9) (T := TX9) (N := 15) hx hb hts hinX9 tyX9 tyX9_ok nmX9 hown hK hP (mD ha) hS 0 rfl rfl 0 (by decide) k1 (fun _ h9 => h9) rfl (by decide +kernel) rfl rfl (Nat.le_of_ble_eq_true rfl) dX9_endDay_2 (fun H locs hP _ hS => ?_)
  have hP : gP g (mW g a (upd sc 0 (zI (0))) wd tp N rd sn) H := hP
  refine lv_aload_n hx hb dX9_endDay_5 rfl (lv_at hl 0 rfl) ?_
  refine vp_callSi (va_Run.run (va_runV (As := []) (rest := []) ⟨hx, hb, hml, hown, hts⟩ (c_X9_today l g ((a 0)) ((a 2)) (N) (hN)) (cwV 0 hts gX9_endDay_X9_today rfl rfl rfl (by decide +kernel) ⟨Nat.le_of_ble_eq_true rfl, Nat.le_of_ble_eq_true rfl⟩) (g_preV (rdN_of hP) hK (va_recv hK hP (q0 := 0) (ci := 9) rfl rfl)) rfl rfl hl.1 rfl (lv_room (Nat.le_of_ble_eq_true rfl)) dX9_endDay_6 ⟨Nat.le_of_ble_eq_true rfl, Nat.le_of_ble_eq_true rfl⟩)) (fun r hr9 => ?_)
  subst hr9
  refine lv_sipush (v := zI (364)) hx hb dX9_endDay_9 (by decide) ?_
  have htd := hN.td.le
  have hnw := hN.nw.le
  refine z_icmp_ne (tgt := 17) hx hb dX9_endDay_12 (by decide) (by omega) (by omega) (fun h12 => ?_) (fun h12 => ?_)
  · have ht : mn N 110 < 364 := by omega
    refine lv_aload_n hx hb dX9_endDay_17 rfl (lv_at hl 0 rfl) ?_
    refine va_callv (va_runV (As := []) (rest := []) ⟨hx, hb, hml, hown, hts⟩ (c_X9_snap l g (a) (ha) ((upd sc 0 (zI (0)))) (wd) (tp) (N) (rd) (sn) (k) (hk) (hk10)) (cwV 0 hts gX9_endDay_X9_snap rfl rfl rfl (by decide +kernel) ⟨Nat.le_of_ble_eq_true rfl, Nat.le_of_ble_eq_true rfl⟩) (g_preV hP hK (va_recv hK hP (q0 := 0) (ci := 9) rfl rfl)) rfl rfl hl.1 rfl (lv_room (Nat.le_of_ble_eq_true rfl)) dX9_endDay_18 ⟨Nat.le_of_ble_eq_true rfl, Nat.le_of_ble_eq_true rfl⟩) hS (fun q _ h => h) (fun q h => h) (fun u9 t9 H1 locs ht9 hvm9 hw9 hB9 hz9 hk9 hS => ?_)
    rw [ht9] at hB9
    have hP := hB9
    clear hB9 hz9 hk9 hvm9 ht9
    generalize H1 = H at hP hS ⊢
    have hP : gP g (mW g a (upd (upd sc 0 (zI (0))) 9 (zI ((min (k + 1) 10 : Nat)))) wd tp N rd (snS sn N k)) H := hP
    refine lv_iconst (v := zI (0)) hx hb dX9_endDay_21 (by decide) ?_
    refine lv_istore_n (lv' := [(1, .int (zI (0))), (0, .ref ((a 0)))]) hx hb dX9_endDay_22 rfl hl (by decide) rfl (fun ls hl => ?_)
    refine lv_iconst (v := zI (0)) hx hb dX9_endDay_23 (by decide) ?_
    refine lv_istore_n (lv' := [(2, .int (zI (0))), (1, .int (zI (0))), (0, .ref ((a 0)))]) hx hb dX9_endDay_24 rfl hl (by decide) rfl (fun ls hl => ?_)
    have loop25 : ∀ (K9 : Nat) (i : Nat) (hK9 : mn N 57 - i < K9) (hi : i ≤ mn N 57) (H : Heap) (locs : List Loc) (hP : gP g (mW g a (upd (upd sc 0 (zI (0))) 9 (zI ((min (k + 1) 10 : Nat)))) wd tp (edN N i) rd (snS sn N k)) H) (hS : va_S (mA a) s.heap H locs) (ls : Array Slot) (hl : lv_has ls 3 [(2, .int (zI (((i : Nat) : Int)))), (1, .int (zI (edC N i))), (0, .ref ((a 0)))]), W p l e (headSpec wsX9_endDay ({ frames := 6, cells := 0, slots := 0, locals := 140 })).room s m ([.ref ((a 0))] : List Value).toArray below meth c H locs 0 0 (MQ below (va_Qi (fun (r : Int32) (_ : Unit) => r = zI (if ¬ mn N 110 = 364 then (edC N (mn N 57) : Int) else -1)) (fun (_ : Unit) (tS : State) => gP g (mW g a (upd (upd sc 0 (zI (0))) 9 (zI ((actK (¬ mn N 110 = 364) k : Nat)))) wd tp (actN (¬ mn N 110 = 364) N (endN N)) rd (actS (¬ mn N 110 = 364) sn N k)) tS.heap) (mA a)) ([.ref ((a 0))] : List Value).toArray s 0 0 (mA a)) (F0 m 25 ls []) := by
      intro K9
      induction K9 with
      | zero => intro i hK9; exact absurd hK9 (Nat.not_lt_zero _)
      | succ K9 ih =>
        intro i hK9 hi H locs hP hS ls hl
        refine lv_iload_n hx hb dX9_endDay_25 rfl (lv_at hl 0 rfl) ?_
        refine lv_aload_n hx hb dX9_endDay_26 rfl (lv_at hl 2 rfl) ?_
        refine va_get (D := g.1) (ci := 9) (v := .ref ((a 2))) (C := RX9) (T := TX9) (N := 15) hx hb hts hinX9 hown hK hP 0 rfl rfl 11 (by decide) k70 (fun _ h9 => h9) rfl dX9_endDay_27 ?_
        refine lv_bipush (v := zI (57)) hx hb dX9_endDay_30 (by decide) ?_
        refine z_iald hx hb hK hP 2 0 rfl rfl (by decide) (57) (by omega) (by omega) dX9_endDay_32 ?_
        refine z_top (y := zI (mn N 57)) ((ed_lo (by omega) i (by omega)).trans hN.nw.eq) ?_
        refine z_icmp_ge (tgt := 61) hx hb dX9_endDay_33 (by decide) (by omega) (by omega) (fun h33 => ?_) (fun h33 => ?_)
        · have hi9 : i = mn N 57 := by omega
          subst hi9
          refine lv_aload_n hx hb dX9_endDay_61 rfl (lv_at hl 2 rfl) ?_
          refine va_get (D := g.1) (ci := 9) (v := .ref ((a 2))) (C := RX9) (T := TX9) (N := 15) hx hb hts hinX9 hown hK hP 0 rfl rfl 11 (by decide) k70 (fun _ h9 => h9) rfl dX9_endDay_62 ?_
          refine lv_bipush (v := zI (110)) hx hb dX9_endDay_65 (by decide) ?_
          refine lv_dup2_11 hx hb dX9_endDay_67 rfl rfl ?_
          refine z_iald hx hb hK hP 2 0 rfl rfl (by decide) (110) (by omega) (by omega) dX9_endDay_68 ?_
          refine z_top (y := zI (mn N 110)) ((ed_lo (by omega) _ (by omega)).trans hN.td.eq) ?_
          refine lv_iconst (v := zI (1)) hx hb dX9_endDay_69 (by decide) ?_
          refine z_iadd hx hb dX9_endDay_70 ?_
          refine z_iast hx hb hK hP (mD ha) hS 2 0 rfl rfl (by decide) (110) (by omega) (by omega) dX9_endDay_71 (fun H locs hP _ hS => ?_)
          have hP : gP g (mW g a (upd (upd sc 0 (zI (0))) 9 (zI ((min (k + 1) 10 : Nat)))) wd tp (upd (edN N (mn N 57)) 110 (zI ((mn N 110) + 1))) rd (snS sn N k)) H := hP
          refine lv_iload_n hx hb dX9_endDay_72 rfl (lv_at hl 1 rfl) ?_
          exact W.iret hx hb hr (fun tX htX hWX => ⟨⟨_, (), rfl, congrArg zI (by rw [if_pos (by omega)]), g_at htX ((act_yes (by omega) (by unfold endN; rw [show (((mn N 110 + 1 : Nat)) : Int) = (mn N 110 : Int) + 1 by omega]) hP))⟩, hS.F htX⟩) hS.2.2 dX9_endDay_73
        · have hNi := okN_ed hN ht i (by omega)
          have e57 : mn (edN N i) 57 = mn N 57 := ed_mn (by omega) (by omega)
          have e110 : mn (edN N i) 110 = mn N 110 := ed_mn (by omega) (by omega)
          refine lv_aload_n hx hb dX9_endDay_36 rfl (lv_at hl 2 rfl) ?_
          refine lv_iload_n hx hb dX9_endDay_37 rfl (lv_at hl 0 rfl) ?_
          refine vp_callSi (va_Run.run (va_runV (As := [.int (zI (((i : Nat) : Int)))]) (rest := []) ⟨hx, hb, hml, hown, hts⟩ (c_X9_isHere l g ((a 0)) ((a 2)) (edN N i) (hNi) (((i : Nat) : Int)) (by omega)) (cwV 1 hts gX9_endDay_X9_isHere rfl rfl rfl (by decide +kernel) ⟨Nat.le_of_ble_eq_true rfl, Nat.le_of_ble_eq_true rfl⟩) (g_preV (rdN_of hP) hK (va_recv hK hP (q0 := 0) (ci := 9) rfl rfl)) rfl rfl hl.1 rfl (lv_room (Nat.le_of_ble_eq_true rfl)) dX9_endDay_38 ⟨Nat.le_of_ble_eq_true rfl, Nat.le_of_ble_eq_true rfl⟩)) (fun r hr9 => ?_)
          subst hr9
          refine z_bz_eq (tgt := 55) hx hb dX9_endDay_41 (by decide) (fun h41 => ?_) (fun h41 => ?_)
          · have h41 : ¬ goneN (edN N i) i = 0 := fun q9 => h41 ⟨⟨by omega, by omega⟩, q9⟩
            refine z_iinc (lv' := [(2, .int (zI (((i : Nat) : Int) + 1))), (1, .int (zI (edC N i))), (0, .ref ((a 0)))]) hx hb dX9_endDay_55 hl (k := 0) rfl (by decide) rfl (fun ls hl => ?_)
            refine lv_goto (tgt := 25) hx hb dX9_endDay_58 (by decide) ?_
            have hl := lv_sub (l' := [(2, .int (zI (((i : Nat) : Int) + 1))), (1, .int (zI (edC N i))), (0, .ref ((a 0)))]) hl [0, 1, 2] rfl
            have hl : lv_has ls 3 [(2, .int (zI ((((i + 1) : Nat) : Int)))), (1, .int (zI (edC N (i + 1)))), (0, .ref ((a 0)))] := lv_cg (lvE (congrArg zI (by omega)) (lvE (congrArg zI (by first | (rw [edC, if_pos ⟨h41, h49⟩]; omega) | (rw [edC, if_neg (fun q9 => h49 q9.2)]; omega) | (rw [edC, if_neg (fun q9 => h41 q9.1)]; omega))) (lvR (rfl)))) hl
            exact ih (i + 1) (by omega) (by omega) H locs (by first | (rw [edN, if_pos h41]; exact hP) | (rw [edN, if_neg h41]; exact hP)) hS ls hl
          · have h41 : goneN (edN N i) i = 0 := h41.2
            refine lv_aload_n hx hb dX9_endDay_44 rfl (lv_at hl 2 rfl) ?_
            refine lv_iload_n hx hb dX9_endDay_45 rfl (lv_at hl 0 rfl) ?_
            refine va_calli (va_runV (As := [.int (zI (((i : Nat) : Int)))]) (rest := []) ⟨hx, hb, hml, hown, hts⟩ (c_X9_closes l g (a) (ha) ((upd (upd sc 0 (zI (0))) 9 (zI ((min (k + 1) 10 : Nat))))) (wd) (tp) ((edN N i)) (rd) ((snS sn N k)) (hNi) (i) (by omega) (by omega)) (cwV 1 hts gX9_endDay_X9_closes rfl rfl rfl (by decide +kernel) ⟨Nat.le_of_ble_eq_true rfl, Nat.le_of_ble_eq_true rfl⟩) (g_preV hP hK (va_recv hK hP (q0 := 0) (ci := 9) rfl rfl)) rfl rfl hl.1 rfl (lv_room (Nat.le_of_ble_eq_true rfl)) dX9_endDay_46 ⟨Nat.le_of_ble_eq_true rfl, Nat.le_of_ble_eq_true rfl⟩) hS (fun q _ h => h) (fun q h => h) (fun r u9 t9 H1 locs ht9 hvm9 hw9 hB9 hz9 hk9 hS => ?_)
            rw [ht9] at hB9
            have hP := hB9
            clear hB9 hz9 hk9 hvm9 ht9
            generalize H1 = H at hP hS ⊢
            have hP : gP g (mW g a (upd (upd sc 0 (zI (0))) 9 (zI ((min (k + 1) 10 : Nat)))) wd tp (closeN (edN N i) i) rd (snS sn N k)) H := hP
            try dsimp only at hw9
            subst hw9
            refine z_bz_eq (tgt := 55) hx hb dX9_endDay_49 (by decide) (fun h49 => ?_) (fun h49 => ?_)
            · refine z_iinc (lv' := [(2, .int (zI (((i : Nat) : Int) + 1))), (1, .int (zI (edC N i))), (0, .ref ((a 0)))]) hx hb dX9_endDay_55 hl (k := 0) rfl (by decide) rfl (fun ls hl => ?_)
              refine lv_goto (tgt := 25) hx hb dX9_endDay_58 (by decide) ?_
              have hl := lv_sub (l' := [(2, .int (zI (((i : Nat) : Int) + 1))), (1, .int (zI (edC N i))), (0, .ref ((a 0)))]) hl [0, 1, 2] rfl
              have hl : lv_has ls 3 [(2, .int (zI ((((i + 1) : Nat) : Int)))), (1, .int (zI (edC N (i + 1)))), (0, .ref ((a 0)))] := lv_cg (lvE (congrArg zI (by omega)) (lvE (congrArg zI (by first | (rw [edC, if_pos ⟨h41, h49⟩]; omega) | (rw [edC, if_neg (fun q9 => h49 q9.2)]; omega) | (rw [edC, if_neg (fun q9 => h41 q9.1)]; omega))) (lvR (rfl)))) hl
              exact ih (i + 1) (by omega) (by omega) H locs (by first | (rw [edN, if_pos h41]; exact hP) | (rw [edN, if_neg h41]; exact hP)) hS ls hl
            · refine z_iinc (lv' := [(1, .int (zI ((edC N i) + 1))), (2, .int (zI (((i : Nat) : Int)))), (0, .ref ((a 0)))]) hx hb dX9_endDay_52 hl (k := 1) rfl (by decide) rfl (fun ls hl => ?_)
              refine z_iinc (lv' := [(2, .int (zI (((i : Nat) : Int) + 1))), (1, .int (zI ((edC N i) + 1))), (0, .ref ((a 0)))]) hx hb dX9_endDay_55 hl (k := 1) rfl (by decide) rfl (fun ls hl => ?_)
              refine lv_goto (tgt := 25) hx hb dX9_endDay_58 (by decide) ?_
              have hl := lv_sub (l' := [(2, .int (zI (((i : Nat) : Int) + 1))), (1, .int (zI ((edC N i) + 1))), (0, .ref ((a 0)))]) hl [0, 1, 2] rfl
              have hl : lv_has ls 3 [(2, .int (zI ((((i + 1) : Nat) : Int)))), (1, .int (zI (edC N (i + 1)))), (0, .ref ((a 0)))] := lv_cg (lvE (congrArg zI (by omega)) (lvE (congrArg zI (by first | (rw [edC, if_pos ⟨h41, h49⟩]; omega) | (rw [edC, if_neg (fun q9 => h49 q9.2)]; omega) | (rw [edC, if_neg (fun q9 => h41 q9.1)]; omega))) (lvR (rfl)))) hl
              exact ih (i + 1) (by omega) (by omega) H locs (by first | (rw [edN, if_pos h41]; exact hP) | (rw [edN, if_neg h41]; exact hP)) hS ls hl
    have hl := lv_sub (l' := [(2, .int (zI (0))), (1, .int (zI (0))), (0, .ref ((a 0)))]) hl [0, 1, 2] rfl
    have hl : lv_has ls 3 [(2, .int (zI (((0 : Nat) : Int)))), (1, .int (zI (edC N 0))), (0, .ref ((a 0)))] := lv_cg (lvE (congrArg zI (rfl)) (lvE (congrArg zI (rfl)) (lvR (rfl)))) hl
    exact loop25 _ (0) (Nat.lt_succ_self _) (Nat.zero_le _) H locs (hP) hS ls hl
  · refine lv_iconst (v := zI (-1)) hx hb dX9_endDay_15 (by decide) ?_
    exact W.iret hx hb hr (fun tX htX hWX => ⟨⟨_, (), rfl, congrArg zI (by rw [if_neg (by omega)]), g_at htX ((act_no (by omega) hk hP))⟩, hS.F htX⟩) hS.2.2 dX9_endDay_16

set_option maxHeartbeats 4000000 in
set_option maxRecDepth 100000 in
theorem c_X9_leave (l : Launch) (g : GG) (a : Nat → Nat) (ha : aD a) (sc : Nat → Int32) (wd : Int64) (tp N rd sn : Nat → Int32) (hN : okN N) (k : Nat) (hk : sc 9 = zI k) (hk10 : k ≤ 10) (v : Int) (hv : R32 v) : Met l yX9_leave wsX9_leave ({ frames := 5, cells := 0, slots := 0, locals := 115 }) (gPc g [.ref ((a 0)), .int (zI (v))] (gP g (mW g a sc wd tp N rd sn))) (va_Qi (fun (r : Int32) (_ : Unit) => r = (dueF N v).2) (fun (_ : Unit) (tS : State) => gP g (mW g a (upd (upd sc 0 ((dueF N v).1)) 9 (zI ((actK (hereC N v) k : Nat)))) wd tp (actN (hereC N v) N (leaveN N v.toNat)) rd (actS (hereC N v) sn N k)) tS.heap) (mA a)) 0 0 (mA a) := by
  refine Met.ofW (cc := cX9_leave) (maxL := 4) (ret := (some .int)) (by decide) rfl ?_
  intro p e s m args below meth c s₁ B hml hv
  obtain ⟨rfl, hP, hK⟩ := hv
  have hx := B.exec
  have hb := B.bytes
  have hr := B.returns
  have hts := atoms_spec (ws := wsX9_leave) B.pre
  have hown : s.vm.findClass RX9 = some m.cls := findClass_of_methodNamed B.named
  have hlocks := B.notSynchronized
  have hinX9 : ∀ w ∈ wsX90, w ∈ wsX9_leave := by decide +kernel
  have k1 := hts (.fieldLink RX9 1 "HoursBankModel" "thrown" "I") (by decide +kernel)
  have hl := lv_entry ([.ref ((a 0)), .int (zI (v))]) (n := 4) (Nat.le_of_ble_eq_true rfl)
  rw [lg_entry_eq]
  generalize (lg_sl ([.ref ((a 0)), .int (zI (v))]) ++ List.replicate (4 - (lg_sl ([.ref ((a 0)), .int (zI (v))])).length) Slot.unset).toArray = ls at hl ⊢
  have hl : lv_has ls 4 [(0, .ref ((a 0))), (1, .int (zI (v)))] := hl
  have hS : va_S (mA a) s.heap s.heap [] := va_S.rf
  obtain ⟨H, hH9⟩ : ∃ H, H = s.heap := ⟨_, rfl⟩
  obtain ⟨locs, hL9⟩ : ∃ x : List Loc, x = [] := ⟨_, rfl⟩
  have hP : gP g (mW g a sc wd tp N rd sn) H := hH9 ▸ hP
  have hS : va_S (mA a) s.heap H locs := by rw [hH9, hL9]; exact hS
  refine z_start hH9 hL9 ?_
  clear hH9 hL9
  refine lv_aload_n hx hb dX9_leave_0 rfl (lv_at hl 0 rfl) ?_
  refine lv_iconst (v := zI (0)) hx hb dX9_leave_1 (by decide) ?_
  refine va_put (D := g.1) (ci := 9) (v := .int (zI (0))) (ty := .int) (C := RX9) (T := TX9) (N := 15) hx hb hts hinX9 tyX9 tyX9_ok nmX9 hown hK hP (mD ha) hS 0 rfl rfl 0 (by decide) k1 (fun _ h9 => h9) rfl (by decide +kernel) rfl rfl (Nat.le_of_ble_eq_true rfl) dX9_leave_2 (fun H locs hP _ hS => ?_)
  have hP : gP g (mW g a (upd sc 0 (zI (0))) wd tp N rd sn) H := hP
  refine lv_aload_n hx hb dX9_leave_5 rfl (lv_at hl 0 rfl) ?_
  refine lv_iload_n hx hb dX9_leave_6 rfl (lv_at hl 1 rfl) ?_
  refine vp_callSi (va_Run.run (va_runV (As := [.int (zI (v))]) (rest := []) ⟨hx, hb, hml, hown, hts⟩ (c_X9_isHere l g ((a 0)) ((a 2)) (N) (hN) (v) (hv)) (cwV 1 hts gX9_leave_X9_isHere rfl rfl rfl (by decide +kernel) ⟨Nat.le_of_ble_eq_true rfl, Nat.le_of_ble_eq_true rfl⟩) (g_preV (rdN_of hP) hK (va_recv hK hP (q0 := 0) (ci := 9) rfl rfl)) rfl rfl hl.1 rfl (lv_room (Nat.le_of_ble_eq_true rfl)) dX9_leave_7 ⟨Nat.le_of_ble_eq_true rfl, Nat.le_of_ble_eq_true rfl⟩)) (fun r hr9 => ?_)
  subst hr9
  refine z_bz_ne (tgt := 18) hx hb dX9_leave_10 (by decide) (fun h10 => ?_) (fun h10 => ?_)
  · have hc : hereC N v := h10
    have hq := hN.nw.le
    have htd := hN.td.le
    have e9 : dueF N v = (zI 0, dueN N v.toNat) := by unfold dueF; rw [if_pos h10]
    obtain ⟨w, rfl⟩ := Int.eq_ofNat_of_zero_le h10.1.1
    have hw : w < 4 := by omega
    have hgo : goneN N w = 0 := h10.2
    have hN0 := okN_lvA hN hw
    have e110 : mn (lvA N w) 110 = mn N 110 := by unfold lvA; rw [mn_ne _ (by omega), mn_ne _ (by omega), mn_ne _ (by omega)]
    refine lv_aload_n hx hb dX9_leave_18 rfl (lv_at hl 0 rfl) ?_
    refine va_callv (va_runV (As := []) (rest := []) ⟨hx, hb, hml, hown, hts⟩ (c_X9_snap l g (a) (ha) ((upd sc 0 (zI (0)))) (wd) (tp) (N) (rd) (sn) (k) (hk) (hk10)) (cwV 0 hts gX9_leave_X9_snap rfl rfl rfl (by decide +kernel) ⟨Nat.le_of_ble_eq_true rfl, Nat.le_of_ble_eq_true rfl⟩) (g_preV hP hK (va_recv hK hP (q0 := 0) (ci := 9) rfl rfl)) rfl rfl hl.1 rfl (lv_room (Nat.le_of_ble_eq_true rfl)) dX9_leave_19 ⟨Nat.le_of_ble_eq_true rfl, Nat.le_of_ble_eq_true rfl⟩) hS (fun q _ h => h) (fun q h => h) (fun u9 t9 H1 locs ht9 hvm9 hw9 hB9 hz9 hk9 hS => ?_)
    rw [ht9] at hB9
    have hP := hB9
    clear hB9 hz9 hk9 hvm9 ht9
    generalize H1 = H at hP hS ⊢
    have hP : gP g (mW g a (upd (upd sc 0 (zI (0))) 9 (zI ((min (k + 1) 10 : Nat)))) wd tp N rd (snS sn N k)) H := hP
    refine lv_aload_n hx hb dX9_leave_22 rfl (lv_at hl 0 rfl) ?_
    refine lv_iload_n hx hb dX9_leave_23 rfl (lv_at hl 1 rfl) ?_
    refine vp_callSi (va_Run.run (va_runV (As := [.int (zI ((w : Int)))]) (rest := []) ⟨hx, hb, hml, hown, hts⟩ (c_X9_dueOf l g ((a 0)) ((a 2)) (N) (hN) (w) (hw)) (cwV 1 hts gX9_leave_X9_dueOf rfl rfl rfl (by decide +kernel) ⟨Nat.le_of_ble_eq_true rfl, Nat.le_of_ble_eq_true rfl⟩) (g_preV (rdN_of hP) hK (va_recv hK hP (q0 := 0) (ci := 9) rfl rfl)) rfl rfl hl.1 rfl (lv_room (Nat.le_of_ble_eq_true rfl)) dX9_leave_24 ⟨Nat.le_of_ble_eq_true rfl, Nat.le_of_ble_eq_true rfl⟩)) (fun r hr9 => ?_)
    subst hr9
    refine lv_istore_n (lv' := [(2, .int (dueN N w)), (0, .ref ((a 0))), (1, .int (zI ((w : Int))))]) hx hb dX9_leave_27 rfl hl (by decide) rfl (fun ls hl => ?_)
    refine lv_aload_n hx hb dX9_leave_28 rfl (lv_at hl 1 rfl) ?_
    refine lv_iload_n hx hb dX9_leave_29 rfl (lv_at hl 2 rfl) ?_
    refine lv_bipush (v := zI (8)) hx hb dX9_leave_30 (by decide) ?_
    refine lv_iload_n hx hb dX9_leave_32 rfl (lv_at hl 0 rfl) ?_
    refine va_callv (va_runV (As := [.int (zI ((w : Int))), .int (zI (8)), .int (dueN N w)]) (rest := []) ⟨hx, hb, hml, hown, hts⟩ (c_X9_adds l g (a) (ha) ((upd (upd sc 0 (zI (0))) 9 (zI ((min (k + 1) 10 : Nat))))) (wd) (tp) (N) (rd) ((snS sn N k)) (w) (8) (dueN N w) (hw) (by omega)) (cwV 3 hts gX9_leave_X9_adds rfl rfl rfl (by decide +kernel) ⟨Nat.le_of_ble_eq_true rfl, Nat.le_of_ble_eq_true rfl⟩) (g_preV hP hK (va_recv hK hP (q0 := 0) (ci := 9) rfl rfl)) rfl rfl hl.1 rfl (lv_room (Nat.le_of_ble_eq_true rfl)) dX9_leave_33 ⟨Nat.le_of_ble_eq_true rfl, Nat.le_of_ble_eq_true rfl⟩) hS (fun q _ h => h) (fun q h => h) (fun u9 t9 H1 locs ht9 hvm9 hw9 hB9 hz9 hk9 hS => ?_)
    rw [ht9] at hB9
    have hP := hB9
    clear hB9 hz9 hk9 hvm9 ht9
    generalize H1 = H at hP hS ⊢
    have hP : gP g (mW g a (upd (upd sc 0 (zI (0))) 9 (zI ((min (k + 1) 10 : Nat)))) wd tp (upd N (58 + 13 * w + 8) (N (58 + 13 * w + 8) + (dueN N w))) rd (snS sn N k)) H := hP
    rw [show (upd N (58 + 13 * w + 8) (N (58 + 13 * w + 8) + (dueN N w))) = upd N (58 + 13 * w + 8) (N (58 + 13 * w + 8) + dueN N w) from rfl] at hP
    refine lv_aload_n hx hb dX9_leave_36 rfl (lv_at hl 1 rfl) ?_
    refine lv_iload_n hx hb dX9_leave_37 rfl (lv_at hl 2 rfl) ?_
    refine lv_iconst (v := zI (2)) hx hb dX9_leave_38 (by decide) ?_
    refine lv_aload_n hx hb dX9_leave_39 rfl (lv_at hl 1 rfl) ?_
    refine lv_iload_n hx hb dX9_leave_40 rfl (lv_at hl 2 rfl) ?_
    refine lv_iconst (v := zI (2)) hx hb dX9_leave_41 (by decide) ?_
    refine vp_callSi (va_Run.run (va_runV (As := [.int (zI ((w : Int))), .int (zI (2))]) (rest := [.int (zI (2)), .int (zI ((w : Int))), .ref ((a 0))]) ⟨hx, hb, hml, hown, hts⟩ (c_X9_its l g ((a 0)) ((a 2)) (upd N (58 + 13 * w + 8) (N (58 + 13 * w + 8) + dueN N w)) (w) (2) (hw) (by omega)) (cwV 2 hts gX9_leave_X9_its rfl rfl rfl (by decide +kernel) ⟨Nat.le_of_ble_eq_true rfl, Nat.le_of_ble_eq_true rfl⟩) (g_preV (rdN_of hP) hK (va_recv hK hP (q0 := 0) (ci := 9) rfl rfl)) rfl rfl hl.1 rfl (lv_room (Nat.le_of_ble_eq_true rfl)) dX9_leave_42 ⟨Nat.le_of_ble_eq_true rfl, Nat.le_of_ble_eq_true rfl⟩)) (fun r hr9 => ?_)
    subst hr9
    refine lv_ineg hx hb dX9_leave_45 ?_
    refine va_callv (va_runV (As := [.int (zI ((w : Int))), .int (zI (2)), .int (-((upd N (58 + 13 * w + 8) (N (58 + 13 * w + 8) + dueN N w)) (58 + 13 * w + 2)))]) (rest := []) ⟨hx, hb, hml, hown, hts⟩ (c_X9_adds l g (a) (ha) ((upd (upd sc 0 (zI (0))) 9 (zI ((min (k + 1) 10 : Nat))))) (wd) (tp) ((upd N (58 + 13 * w + 8) (N (58 + 13 * w + 8) + dueN N w))) (rd) ((snS sn N k)) (w) (2) (-(upd N (58 + 13 * w + 8) (N (58 + 13 * w + 8) + dueN N w)) (58 + 13 * w + 2)) (hw) (by omega)) (cwV 3 hts gX9_leave_X9_adds rfl rfl rfl (by decide +kernel) ⟨Nat.le_of_ble_eq_true rfl, Nat.le_of_ble_eq_true rfl⟩) (g_preV hP hK (va_recv hK hP (q0 := 0) (ci := 9) rfl rfl)) rfl rfl hl.1 rfl (lv_room (Nat.le_of_ble_eq_true rfl)) dX9_leave_46 ⟨Nat.le_of_ble_eq_true rfl, Nat.le_of_ble_eq_true rfl⟩) hS (fun q _ h => h) (fun q h => h) (fun u9 t9 H1 locs ht9 hvm9 hw9 hB9 hz9 hk9 hS => ?_)
    rw [ht9] at hB9
    have hP := hB9
    clear hB9 hz9 hk9 hvm9 ht9
    generalize H1 = H at hP hS ⊢
    have hP : gP g (mW g a (upd (upd sc 0 (zI (0))) 9 (zI ((min (k + 1) 10 : Nat)))) wd tp (upd (upd N (58 + 13 * w + 8) (N (58 + 13 * w + 8) + dueN N w)) (58 + 13 * w + 2) ((upd N (58 + 13 * w + 8) (N (58 + 13 * w + 8) + dueN N w)) (58 + 13 * w + 2) + (-(upd N (58 + 13 * w + 8) (N (58 + 13 * w + 8) + dueN N w)) (58 + 13 * w + 2)))) rd (snS sn N k)) H := hP
    rw [show (upd (upd N (58 + 13 * w + 8) (N (58 + 13 * w + 8) + dueN N w)) (58 + 13 * w + 2) ((upd N (58 + 13 * w + 8) (N (58 + 13 * w + 8) + dueN N w)) (58 + 13 * w + 2) + (-(upd N (58 + 13 * w + 8) (N (58 + 13 * w + 8) + dueN N w)) (58 + 13 * w + 2)))) = upd (upd N (58 + 13 * w + 8) (N (58 + 13 * w + 8) + dueN N w)) (58 + 13 * w + 2) (zI 0) from (by rw [add_neg0])] at hP
    refine lv_aload_n hx hb dX9_leave_49 rfl (lv_at hl 1 rfl) ?_
    refine lv_iload_n hx hb dX9_leave_50 rfl (lv_at hl 2 rfl) ?_
    refine lv_bipush (v := zI (9)) hx hb dX9_leave_51 (by decide) ?_
    refine lv_iconst (v := zI (1)) hx hb dX9_leave_53 (by decide) ?_
    refine va_callv (va_runV (As := [.int (zI ((w : Int))), .int (zI (9)), .int (zI (1))]) (rest := []) ⟨hx, hb, hml, hown, hts⟩ (c_X9_adds l g (a) (ha) ((upd (upd sc 0 (zI (0))) 9 (zI ((min (k + 1) 10 : Nat))))) (wd) (tp) ((upd (upd N (58 + 13 * w + 8) (N (58 + 13 * w + 8) + dueN N w)) (58 + 13 * w + 2) (zI 0))) (rd) ((snS sn N k)) (w) (9) (zI 1) (hw) (by omega)) (cwV 3 hts gX9_leave_X9_adds rfl rfl rfl (by decide +kernel) ⟨Nat.le_of_ble_eq_true rfl, Nat.le_of_ble_eq_true rfl⟩) (g_preV hP hK (va_recv hK hP (q0 := 0) (ci := 9) rfl rfl)) rfl rfl hl.1 rfl (lv_room (Nat.le_of_ble_eq_true rfl)) dX9_leave_54 ⟨Nat.le_of_ble_eq_true rfl, Nat.le_of_ble_eq_true rfl⟩) hS (fun q _ h => h) (fun q h => h) (fun u9 t9 H1 locs ht9 hvm9 hw9 hB9 hz9 hk9 hS => ?_)
    rw [ht9] at hB9
    have hP := hB9
    clear hB9 hz9 hk9 hvm9 ht9
    generalize H1 = H at hP hS ⊢
    have hP : gP g (mW g a (upd (upd sc 0 (zI (0))) 9 (zI ((min (k + 1) 10 : Nat)))) wd tp (upd (upd (upd N (58 + 13 * w + 8) (N (58 + 13 * w + 8) + dueN N w)) (58 + 13 * w + 2) (zI 0)) (58 + 13 * w + 9) ((upd (upd N (58 + 13 * w + 8) (N (58 + 13 * w + 8) + dueN N w)) (58 + 13 * w + 2) (zI 0)) (58 + 13 * w + 9) + (zI 1))) rd (snS sn N k)) H := hP
    rw [show (upd (upd (upd N (58 + 13 * w + 8) (N (58 + 13 * w + 8) + dueN N w)) (58 + 13 * w + 2) (zI 0)) (58 + 13 * w + 9) ((upd (upd N (58 + 13 * w + 8) (N (58 + 13 * w + 8) + dueN N w)) (58 + 13 * w + 2) (zI 0)) (58 + 13 * w + 9) + (zI 1))) = lvA N w from (by
        unfold lvA; rw [upd_ne _ (show 58 + 13 * w + 9 ≠ 58 + 13 * w + 2 by omega), upd_ne _ (show 58 + 13 * w + 9 ≠ 58 + 13 * w + 8 by omega), show N (58 + 13 * w + 9) = zI (0 : Nat) from (congrArg N (by omega : 58 + 13 * w + 9 = 67 + 13 * w)).trans ((hN.gone hw).eq.trans (zN_cg hgo)), zI_add]; rfl)] at hP
    refine lv_aload_n hx hb dX9_leave_57 rfl (lv_at hl 1 rfl) ?_
    refine vp_callSi (va_Run.run (va_runV (As := []) (rest := []) ⟨hx, hb, hml, hown, hts⟩ (c_X9_today l g ((a 0)) ((a 2)) (lvA N w) (hN0)) (cwV 0 hts gX9_leave_X9_today rfl rfl rfl (by decide +kernel) ⟨Nat.le_of_ble_eq_true rfl, Nat.le_of_ble_eq_true rfl⟩) (g_preV (rdN_of hP) hK (va_recv hK hP (q0 := 0) (ci := 9) rfl rfl)) rfl rfl hl.1 rfl (lv_room (Nat.le_of_ble_eq_true rfl)) dX9_leave_58 ⟨Nat.le_of_ble_eq_true rfl, Nat.le_of_ble_eq_true rfl⟩)) (fun r hr9 => ?_)
    subst hr9
    refine z_top (y := zI (mn N 110)) (zN_cg e110) ?_
    refine lv_istore_n (lv' := [(3, .int (zI (mn N 110))), (2, .int (dueN N w)), (0, .ref ((a 0))), (1, .int (zI ((w : Int))))]) hx hb dX9_leave_61 rfl hl (by decide) rfl (fun ls hl => ?_)
    have loop62 : ∀ (K9 : Nat) (i : Nat) (hK9 : (364 - mn N 110) - i < K9) (hi : i ≤ 364 - mn N 110) (H : Heap) (locs : List Loc) (hP : gP g (mW g a (upd (upd sc 0 (zI (0))) 9 (zI ((min (k + 1) 10 : Nat)))) wd tp (clrP (lvA N w) w (mn N 110) i) rd (snS sn N k)) H) (hS : va_S (mA a) s.heap H locs) (ls : Array Slot) (hl : lv_has ls 4 [(3, .int (zI (((mn N 110 + i : Nat) : Int)))), (2, .int (dueN N w)), (0, .ref ((a 0))), (1, .int (zI ((w : Int))))]), W p l e (headSpec wsX9_leave ({ frames := 5, cells := 0, slots := 0, locals := 115 })).room s m ([.ref ((a 0)), .int (zI ((w : Int)))] : List Value).toArray below meth c H locs 0 0 (MQ below (va_Qi (fun (r : Int32) (_ : Unit) => r = (dueF N (w : Int)).2) (fun (_ : Unit) (tS : State) => gP g (mW g a (upd (upd sc 0 ((dueF N (w : Int)).1)) 9 (zI ((actK (hereC N (w : Int)) k : Nat)))) wd tp (actN (hereC N (w : Int)) N (leaveN N (w : Int).toNat)) rd (actS (hereC N (w : Int)) sn N k)) tS.heap) (mA a)) ([.ref ((a 0)), .int (zI ((w : Int)))] : List Value).toArray s 0 0 (mA a)) (F0 m 62 ls []) := by
      intro K9
      induction K9 with
      | zero => intro i hK9; exact absurd hK9 (Nat.not_lt_zero _)
      | succ K9 ih =>
        intro i hK9 hi H locs hP hS ls hl
        refine lv_iload_n hx hb dX9_leave_62 rfl (lv_at hl 0 rfl) ?_
        refine lv_sipush (v := zI (364)) hx hb dX9_leave_63 (by decide) ?_
        refine z_icmp_ge (tgt := 100) hx hb dX9_leave_66 (by decide) (by omega) (by omega) (fun h66 => ?_) (fun h66 => ?_)
        · have hi9 : i = 364 - mn N 110 := by omega
          subst hi9
          refine lv_iload_n hx hb dX9_leave_100 rfl (lv_at hl 1 rfl) ?_
          exact W.iret hx hb hr (fun tX htX hWX => ⟨⟨_, (), rfl, by rw [e9] <;> rfl, g_at htX ((by rw [e9]; exact act_yes hc rfl hP))⟩, hS.F htX⟩) hS.2.2 dX9_leave_101
        · have hNi := okN_clr hN0 hw (d0 := mn N 110) i (by omega)
          have ek : knd (clrP (lvA N w) w (mn N 110) i) w (mn N 110 + i) = knd (lvA N w) w (mn N 110 + i) := by unfold knd; rw [clrP_cell]
          have eg : chg (clrP (lvA N w) w (mn N 110) i) w (mn N 110 + i) = chg (lvA N w) w (mn N 110 + i) := by unfold chg; rw [clrP_cell]
          have hk3 := hN0.knd hw (d := mn N 110 + i) (by omega)
          refine lv_aload_n hx hb dX9_leave_69 rfl (lv_at hl 2 rfl) ?_
          refine lv_iload_n hx hb dX9_leave_70 rfl (lv_at hl 3 rfl) ?_
          refine lv_iload_n hx hb dX9_leave_71 rfl (lv_at hl 0 rfl) ?_
          refine vp_callSi (va_Run.run (va_runV (As := [.int (zI ((w : Int))), .int (zI (((mn N 110 + i : Nat) : Int)))]) (rest := []) ⟨hx, hb, hml, hown, hts⟩ (c_X9_kindOf l g ((a 0)) ((a 2)) (clrP (lvA N w) w (mn N 110) i) (hNi) (w) ((mn N 110 + i)) (hw) (by omega)) (cwV 2 hts gX9_leave_X9_kindOf rfl rfl rfl (by decide +kernel) ⟨Nat.le_of_ble_eq_true rfl, Nat.le_of_ble_eq_true rfl⟩) (g_preV (rdN_of hP) hK (va_recv hK hP (q0 := 0) (ci := 9) rfl rfl)) rfl rfl hl.1 rfl (lv_room (Nat.le_of_ble_eq_true rfl)) dX9_leave_72 ⟨Nat.le_of_ble_eq_true rfl, Nat.le_of_ble_eq_true rfl⟩)) (fun r hr9 => ?_)
          subst hr9
          refine z_top (y := zI (knd (lvA N w) w (mn N 110 + i))) (zN_cg ek) ?_
          refine lv_iconst (v := zI (2)) hx hb dX9_leave_75 (by decide) ?_
          refine z_icmp_ne (tgt := 94) hx hb dX9_leave_76 (by decide) (by omega) (by omega) (fun h76 => ?_) (fun h76 => ?_)
          · refine z_iinc (lv' := [(3, .int (zI (((mn N 110 + i : Nat) : Int) + 1))), (2, .int (dueN N w)), (0, .ref ((a 0))), (1, .int (zI ((w : Int))))]) hx hb dX9_leave_94 hl (k := 0) rfl (by decide) rfl (fun ls hl => ?_)
            refine lv_goto (tgt := 62) hx hb dX9_leave_97 (by decide) ?_
            have hl := lv_sub (l' := [(3, .int (zI (((mn N 110 + i : Nat) : Int) + 1))), (2, .int (dueN N w)), (0, .ref ((a 0))), (1, .int (zI ((w : Int))))]) hl [0, 1, 2, 3] rfl
            have hl : lv_has ls 4 [(3, .int (zI (((mn N 110 + (i + 1) : Nat) : Int)))), (2, .int (dueN N w)), (0, .ref ((a 0))), (1, .int (zI ((w : Int))))] := lv_cg (lvE (congrArg zI (by omega)) (lvR (lvR (lvR (rfl))))) hl
            exact ih (i + 1) (by omega) (by omega) H locs (by first | exact hP | (rw [clrP_same (by omega)]; exact hP)) hS ls hl
          · refine lv_aload_n hx hb dX9_leave_79 rfl (lv_at hl 2 rfl) ?_
            refine lv_iload_n hx hb dX9_leave_80 rfl (lv_at hl 3 rfl) ?_
            refine lv_iload_n hx hb dX9_leave_81 rfl (lv_at hl 0 rfl) ?_
            refine lv_aload_n hx hb dX9_leave_82 rfl (lv_at hl 2 rfl) ?_
            refine lv_iload_n hx hb dX9_leave_83 rfl (lv_at hl 3 rfl) ?_
            refine lv_iload_n hx hb dX9_leave_84 rfl (lv_at hl 0 rfl) ?_
            refine vp_callSi (va_Run.run (va_runV (As := [.int (zI ((w : Int))), .int (zI (((mn N 110 + i : Nat) : Int)))]) (rest := [.int (zI (((mn N 110 + i : Nat) : Int))), .int (zI ((w : Int))), .ref ((a 0))]) ⟨hx, hb, hml, hown, hts⟩ (c_X9_changedOf l g ((a 0)) ((a 2)) (clrP (lvA N w) w (mn N 110) i) (hNi) (w) ((mn N 110 + i)) (hw) (by omega)) (cwV 2 hts gX9_leave_X9_changedOf rfl rfl rfl (by decide +kernel) ⟨Nat.le_of_ble_eq_true rfl, Nat.le_of_ble_eq_true rfl⟩) (g_preV (rdN_of hP) hK (va_recv hK hP (q0 := 0) (ci := 9) rfl rfl)) rfl rfl hl.1 rfl (lv_room (Nat.le_of_ble_eq_true rfl)) dX9_leave_85 ⟨Nat.le_of_ble_eq_true rfl, Nat.le_of_ble_eq_true rfl⟩)) (fun r hr9 => ?_)
            subst hr9
            refine z_top (y := zI ((chg (lvA N w) w (mn N 110 + i) : Int) - 1)) (by rw [eg]) ?_
            refine lv_iconst (v := zI (0)) hx hb dX9_leave_88 (by decide) ?_
            refine lv_iconst (v := zI (0)) hx hb dX9_leave_89 (by decide) ?_
            refine lv_iconst (v := zI (0)) hx hb dX9_leave_90 (by decide) ?_
            refine va_callv (va_runV (As := [.int (zI ((w : Int))), .int (zI (((mn N 110 + i : Nat) : Int))), .int (zI ((chg (lvA N w) w (mn N 110 + i) : Int) - 1)), .int (zI (0)), .int (zI (0)), .int (zI (0))]) (rest := []) ⟨hx, hb, hml, hown, hts⟩ (c_X9_putDay l g (a) (ha) ((upd (upd sc 0 (zI (0))) 9 (zI ((min (k + 1) 10 : Nat))))) (wd) (tp) ((clrP (lvA N w) w (mn N 110) i)) (rd) ((snS sn N k)) (w) ((mn N 110 + i)) ((chg (lvA N w) w (mn N 110 + i) : Int) - 1) (0) (0) (0) (hw) (by omega)) (cwV 6 hts gX9_leave_X9_putDay rfl rfl rfl (by decide +kernel) ⟨Nat.le_of_ble_eq_true rfl, Nat.le_of_ble_eq_true rfl⟩) (g_preV hP hK (va_recv hK hP (q0 := 0) (ci := 9) rfl rfl)) rfl rfl hl.1 rfl (lv_room (Nat.le_of_ble_eq_true rfl)) dX9_leave_91 ⟨Nat.le_of_ble_eq_true rfl, Nat.le_of_ble_eq_true rfl⟩) hS (fun q _ h => h) (fun q h => h) (fun u9 t9 H1 locs ht9 hvm9 hw9 hB9 hz9 hk9 hS => ?_)
            rw [ht9] at hB9
            have hP := hB9
            clear hB9 hz9 hk9 hvm9 ht9
            generalize H1 = H at hP hS ⊢
            have hP : gP g (mW g a (upd (upd sc 0 (zI (0))) 9 (zI ((min (k + 1) 10 : Nat)))) wd tp (upd (clrP (lvA N w) w (mn N 110) i) (111 + 364 * w + (mn N 110 + i)) (zI (((chg (lvA N w) w (mn N 110 + i) : Int) - 1) + 1 + 128 * 0 + 16384 * 0 + 65536 * 0))) rd (snS sn N k)) H := hP
            rw [show (upd (clrP (lvA N w) w (mn N 110) i) (111 + 364 * w + (mn N 110 + i)) (zI (((chg (lvA N w) w (mn N 110 + i) : Int) - 1) + 1 + 128 * 0 + 16384 * 0 + 65536 * 0))) = clrP (lvA N w) w (mn N 110) (i + 1) from (by rw [← clrP_put (by omega)]; exact congrArg _ (congrArg zI (by omega)))] at hP
            refine z_iinc (lv' := [(3, .int (zI (((mn N 110 + i : Nat) : Int) + 1))), (2, .int (dueN N w)), (0, .ref ((a 0))), (1, .int (zI ((w : Int))))]) hx hb dX9_leave_94 hl (k := 0) rfl (by decide) rfl (fun ls hl => ?_)
            refine lv_goto (tgt := 62) hx hb dX9_leave_97 (by decide) ?_
            have hl := lv_sub (l' := [(3, .int (zI (((mn N 110 + i : Nat) : Int) + 1))), (2, .int (dueN N w)), (0, .ref ((a 0))), (1, .int (zI ((w : Int))))]) hl [0, 1, 2, 3] rfl
            have hl : lv_has ls 4 [(3, .int (zI (((mn N 110 + (i + 1) : Nat) : Int)))), (2, .int (dueN N w)), (0, .ref ((a 0))), (1, .int (zI ((w : Int))))] := lv_cg (lvE (congrArg zI (by omega)) (lvR (lvR (lvR (rfl))))) hl
            exact ih (i + 1) (by omega) (by omega) H locs (by first | exact hP | (rw [clrP_same (by omega)]; exact hP)) hS ls hl
    have hl := lv_sub (l' := [(3, .int (zI (mn N 110))), (2, .int (dueN N w)), (0, .ref ((a 0))), (1, .int (zI ((w : Int))))]) hl [0, 1, 2, 3] rfl
    have hl : lv_has ls 4 [(3, .int (zI (((mn N 110 + 0 : Nat) : Int)))), (2, .int (dueN N w)), (0, .ref ((a 0))), (1, .int (zI ((w : Int))))] := lv_cg (lvE (congrArg zI (by omega)) (lvR (lvR (lvR (rfl))))) hl
    exact loop62 _ (0) (Nat.lt_succ_self _) (Nat.zero_le _) H locs (by rw [clrP_0]; exact hP) hS ls hl
  · have e9 : dueF N v = (zI 1, zI 0) := by unfold dueF; rw [if_neg h10]
    refine lv_aload_n hx hb dX9_leave_13 rfl (lv_at hl 0 rfl) ?_
    refine va_calli (va_runV (As := []) (rest := []) ⟨hx, hb, hml, hown, hts⟩ (c_X9_refuse l g (a) (ha) ((upd sc 0 (zI (0)))) (wd) (tp) (N) (rd) (sn)) (cwV 0 hts gX9_leave_X9_refuse rfl rfl rfl (by decide +kernel) ⟨Nat.le_of_ble_eq_true rfl, Nat.le_of_ble_eq_true rfl⟩) (g_preV hP hK (va_recv hK hP (q0 := 0) (ci := 9) rfl rfl)) rfl rfl hl.1 rfl (lv_room (Nat.le_of_ble_eq_true rfl)) dX9_leave_14 ⟨Nat.le_of_ble_eq_true rfl, Nat.le_of_ble_eq_true rfl⟩) hS (fun q _ h => h) (fun q h => h) (fun r u9 t9 H1 locs ht9 hvm9 hw9 hB9 hz9 hk9 hS => ?_)
    rw [ht9] at hB9
    have hP := hB9
    clear hB9 hz9 hk9 hvm9 ht9
    generalize H1 = H at hP hS ⊢
    have hP : gP g (mW g a (upd sc 0 (zI (1))) wd tp N rd sn) H := hP
    try dsimp only at hw9
    subst hw9
    exact W.iret hx hb hr (fun tX htX hWX => ⟨⟨_, (), rfl, by rw [e9] <;> rfl, g_at htX ((by rw [e9]; exact act_no h10 hk hP))⟩, hS.F htX⟩) hS.2.2 dX9_leave_17
