theorem lft_rng {N : Nat → Int32} (h : okN N) {w : Nat} (hw : w < 4) : -100000 ≤ lft N w ∧ lft N w ≤ 100000 := by
  have h1 := (h.leave hw).le
  have h2 : lvS N w 0 364 ≤ 364 * 96 := sumN_le _ (fun i hi => by unfold lvd; split; exact plan_le h hw (by omega); omega)
  unfold lft; split <;> omega
set_option maxHeartbeats 4000000 in
set_option maxRecDepth 100000 in
theorem c_X9_plan (l : Launch) (g : GG) (a : Nat → Nat) (ha : aD a) (sc : Nat → Int32) (wd : Int64) (tp N rd sn : Nat → Int32) (hN : okN N) (k : Nat) (hk : sc 9 = zI k) (hk10 : k ≤ 10) (v dd qq : Int) (hv : R32 v) (hdd : R32 dd) (hqq : R32 qq) : Met l yX9_plan wsX9_plan ({ frames := 4, cells := 0, slots := 0, locals := 94 }) (gPc g [.ref ((a 0)), .int (zI (v)), .int (zI (dd)), .int (zI (qq))] (gP g (mW g a sc wd tp N rd sn))) (va_Qi (fun (r : Int32) (_ : Unit) => r = costF N v dd qq) (fun (_ : Unit) (tS : State) => gP g (mW g a (upd (upd sc 0 (zI (0))) 9 (zI ((actK (planC N v dd qq) k : Nat)))) wd tp (actN (planC N v dd qq) N (planN N v.toNat dd.toNat qq.toNat)) rd (actS (planC N v dd qq) sn N k)) tS.heap) (mA a)) 0 0 (mA a) := by
  refine Met.ofW (cc := cX9_plan) (maxL := 5) (ret := (some .int)) (by decide) rfl ?_
  intro p e s m args below meth c s₁ B hml hv
  obtain ⟨rfl, hP, hK⟩ := hv
  have hx := B.exec
  have hb := B.bytes
  have hr := B.returns
  have hts := atoms_spec (ws := wsX9_plan) B.pre
  have hown : s.vm.findClass RX9 = some m.cls := findClass_of_methodNamed B.named
  have hlocks := B.notSynchronized
  have hinX9 : ∀ w ∈ wsX90, w ∈ wsX9_plan := by decide +kernel
  have k1 := hts (.fieldLink RX9 1 "HoursBankModel" "thrown" "I") (by decide +kernel)
  have hl := lv_entry ([.ref ((a 0)), .int (zI (v)), .int (zI (dd)), .int (zI (qq))]) (n := 5) (Nat.le_of_ble_eq_true rfl)
  rw [lg_entry_eq]
  generalize (lg_sl ([.ref ((a 0)), .int (zI (v)), .int (zI (dd)), .int (zI (qq))]) ++ List.replicate (5 - (lg_sl ([.ref ((a 0)), .int (zI (v)), .int (zI (dd)), .int (zI (qq))])).length) Slot.unset).toArray = ls at hl ⊢
  have hl : lv_has ls 5 [(0, .ref ((a 0))), (1, .int (zI (v))), (2, .int (zI (dd))), (3, .int (zI (qq)))] := hl
  have hS : va_S (mA a) s.heap s.heap [] := va_S.rf
  obtain ⟨H, hH9⟩ : ∃ H, H = s.heap := ⟨_, rfl⟩
  obtain ⟨locs, hL9⟩ : ∃ x : List Loc, x = [] := ⟨_, rfl⟩
  have hP : gP g (mW g a sc wd tp N rd sn) H := hH9 ▸ hP
  have hS : va_S (mA a) s.heap H locs := by rw [hH9, hL9]; exact hS
  refine z_start hH9 hL9 ?_
  clear hH9 hL9
  refine lv_aload_n hx hb dX9_plan_0 rfl (lv_at hl 0 rfl) ?_
  refine lv_iconst (v := zI (0)) hx hb dX9_plan_1 (by decide) ?_
  refine va_put (D := g.1) (ci := 9) (v := .int (zI (0))) (ty := .int) (C := RX9) (T := TX9) (N := 15) hx hb hts hinX9 tyX9 tyX9_ok nmX9 hown hK hP (mD ha) hS 0 rfl rfl 0 (by decide) k1 (fun _ h9 => h9) rfl (by decide +kernel) rfl rfl (Nat.le_of_ble_eq_true rfl) dX9_plan_2 (fun H locs hP _ hS => ?_)
  have hP : gP g (mW g a (upd sc 0 (zI (0))) wd tp N rd sn) H := hP
  refine lv_aload_n hx hb dX9_plan_5 rfl (lv_at hl 0 rfl) ?_
  refine lv_iload_n hx hb dX9_plan_6 rfl (lv_at hl 1 rfl) ?_
  refine lv_iload_n hx hb dX9_plan_7 rfl (lv_at hl 2 rfl) ?_
  refine lv_iload_n hx hb dX9_plan_8 rfl (lv_at hl 3 rfl) ?_
  refine vp_callSi (va_Run.run (va_runV (As := [.int (zI (v)), .int (zI (dd)), .int (zI (qq))]) (rest := []) ⟨hx, hb, hml, hown, hts⟩ (c_X9_canPlan l g ((a 0)) ((a 2)) (N) (hN) (v) (dd) (qq) (hv) (hdd) (hqq)) (cwV 3 hts gX9_plan_X9_canPlan rfl rfl rfl (by decide +kernel) ⟨Nat.le_of_ble_eq_true rfl, Nat.le_of_ble_eq_true rfl⟩) (g_preV (rdN_of hP) hK (va_recv hK hP (q0 := 0) (ci := 9) rfl rfl)) rfl rfl hl.1 rfl (lv_room (Nat.le_of_ble_eq_true rfl)) dX9_plan_9 ⟨Nat.le_of_ble_eq_true rfl, Nat.le_of_ble_eq_true rfl⟩)) (fun r hr9 => ?_)
  subst hr9
  refine z_bz_ne (tgt := 17) hx hb dX9_plan_12 (by decide) (fun h12 => ?_) (fun h12 => ?_)
  · have hc := h12
    have hq0 := hN.nw.le
    obtain ⟨w, rfl⟩ := Int.eq_ofNat_of_zero_le h12.1.1.1
    obtain ⟨d, rfl⟩ := Int.eq_ofNat_of_zero_le (show 0 ≤ dd by omega)
    obtain ⟨q, rfl⟩ := Int.eq_ofNat_of_zero_le h12.2.2.1.1
    have hw : w < 4 := by omega
    have hd : d < 364 := by omega
    have hq : q ≤ 96 := by omega
    have hN1 := okN_acc hN hw (k := 6) (by omega) (N (58 + 13 * w + 6) + zI (cst N w d q))
    have hsd : sameD N (upd N (58 + 13 * w + 6) (N (58 + 13 * w + 6) + zI (cst N w d q))) := sD_upd sD_rfl (by omega) _
    refine lv_aload_n hx hb dX9_plan_17 rfl (lv_at hl 0 rfl) ?_
    refine va_callv (va_runV (As := []) (rest := []) ⟨hx, hb, hml, hown, hts⟩ (c_X9_snap l g (a) (ha) ((upd sc 0 (zI (0)))) (wd) (tp) (N) (rd) (sn) (k) (hk) (hk10)) (cwV 0 hts gX9_plan_X9_snap rfl rfl rfl (by decide +kernel) ⟨Nat.le_of_ble_eq_true rfl, Nat.le_of_ble_eq_true rfl⟩) (g_preV hP hK (va_recv hK hP (q0 := 0) (ci := 9) rfl rfl)) rfl rfl hl.1 rfl (lv_room (Nat.le_of_ble_eq_true rfl)) dX9_plan_18 ⟨Nat.le_of_ble_eq_true rfl, Nat.le_of_ble_eq_true rfl⟩) hS (fun q _ h => h) (fun q h => h) (fun u9 t9 H1 locs ht9 hvm9 hw9 hB9 hz9 hk9 hS => ?_)
    rw [ht9] at hB9
    have hP := hB9
    clear hB9 hz9 hk9 hvm9 ht9
    generalize H1 = H at hP hS ⊢
    have hP : gP g (mW g a (upd (upd sc 0 (zI (0))) 9 (zI ((min (k + 1) 10 : Nat)))) wd tp N rd (snS sn N k)) H := hP
    refine lv_aload_n hx hb dX9_plan_21 rfl (lv_at hl 0 rfl) ?_
    refine lv_iload_n hx hb dX9_plan_22 rfl (lv_at hl 1 rfl) ?_
    refine lv_iload_n hx hb dX9_plan_23 rfl (lv_at hl 2 rfl) ?_
    refine lv_iload_n hx hb dX9_plan_24 rfl (lv_at hl 3 rfl) ?_
    refine vp_callSi (va_Run.run (va_runV (As := [.int (zI ((w : Int))), .int (zI ((d : Int))), .int (zI ((q : Int)))]) (rest := []) ⟨hx, hb, hml, hown, hts⟩ (c_X9_costOf l g ((a 0)) ((a 2)) (N) (hN) (w) (d) (q) (hw) (hd) (hq)) (cwV 3 hts gX9_plan_X9_costOf rfl rfl rfl (by decide +kernel) ⟨Nat.le_of_ble_eq_true rfl, Nat.le_of_ble_eq_true rfl⟩) (g_preV (rdN_of hP) hK (va_recv hK hP (q0 := 0) (ci := 9) rfl rfl)) rfl rfl hl.1 rfl (lv_room (Nat.le_of_ble_eq_true rfl)) dX9_plan_25 ⟨Nat.le_of_ble_eq_true rfl, Nat.le_of_ble_eq_true rfl⟩)) (fun r hr9 => ?_)
    subst hr9
    refine lv_istore (lv' := [(4, .int (zI (cst N w d q))), (0, .ref ((a 0))), (1, .int (zI ((w : Int)))), (2, .int (zI ((d : Int)))), (3, .int (zI ((q : Int))))]) hx hb dX9_plan_28 hl (by decide) rfl (fun ls hl => ?_)
    refine lv_aload_n hx hb dX9_plan_30 rfl (lv_at hl 1 rfl) ?_
    refine lv_iload_n hx hb dX9_plan_31 rfl (lv_at hl 2 rfl) ?_
    refine lv_bipush (v := zI (6)) hx hb dX9_plan_32 (by decide) ?_
    refine lv_iload hx hb dX9_plan_34 (lv_at hl 0 rfl) ?_
    refine va_callv (va_runV (As := [.int (zI ((w : Int))), .int (zI (6)), .int (zI (cst N w d q))]) (rest := []) ⟨hx, hb, hml, hown, hts⟩ (c_X9_adds l g (a) (ha) ((upd (upd sc 0 (zI (0))) 9 (zI ((min (k + 1) 10 : Nat))))) (wd) (tp) (N) (rd) ((snS sn N k)) (w) (6) (zI (cst N w d q)) (hw) (by omega)) (cwV 3 hts gX9_plan_X9_adds rfl rfl rfl (by decide +kernel) ⟨Nat.le_of_ble_eq_true rfl, Nat.le_of_ble_eq_true rfl⟩) (g_preV hP hK (va_recv hK hP (q0 := 0) (ci := 9) rfl rfl)) rfl rfl hl.1 rfl (lv_room (Nat.le_of_ble_eq_true rfl)) dX9_plan_36 ⟨Nat.le_of_ble_eq_true rfl, Nat.le_of_ble_eq_true rfl⟩) hS (fun q _ h => h) (fun q h => h) (fun u9 t9 H1 locs ht9 hvm9 hw9 hB9 hz9 hk9 hS => ?_)
    rw [ht9] at hB9
    have hP := hB9
    clear hB9 hz9 hk9 hvm9 ht9
    generalize H1 = H at hP hS ⊢
    have hP : gP g (mW g a (upd (upd sc 0 (zI (0))) 9 (zI ((min (k + 1) 10 : Nat)))) wd tp (upd N (58 + 13 * w + 6) (N (58 + 13 * w + 6) + (zI (cst N w d q)))) rd (snS sn N k)) H := hP
    refine lv_aload_n hx hb dX9_plan_39 rfl (lv_at hl 1 rfl) ?_
    refine lv_iload_n hx hb dX9_plan_40 rfl (lv_at hl 2 rfl) ?_
    refine lv_iload_n hx hb dX9_plan_41 rfl (lv_at hl 3 rfl) ?_
    refine lv_iload_n hx hb dX9_plan_42 rfl (lv_at hl 4 rfl) ?_
    refine lv_aload_n hx hb dX9_plan_43 rfl (lv_at hl 1 rfl) ?_
    refine lv_iload_n hx hb dX9_plan_44 rfl (lv_at hl 2 rfl) ?_
    refine lv_iload_n hx hb dX9_plan_45 rfl (lv_at hl 3 rfl) ?_
    refine vp_callSi (va_Run.run (va_runV (As := [.int (zI ((w : Int))), .int (zI ((d : Int)))]) (rest := [.int (zI ((q : Int))), .int (zI ((d : Int))), .int (zI ((w : Int))), .ref ((a 0))]) ⟨hx, hb, hml, hown, hts⟩ (c_X9_workedOf l g ((a 0)) ((a 2)) (upd N (58 + 13 * w + 6) (N (58 + 13 * w + 6) + (zI (cst N w d q)))) (hN1) (w) (d) (hw) (hd)) (cwV 2 hts gX9_plan_X9_workedOf rfl rfl rfl (by decide +kernel) ⟨Nat.le_of_ble_eq_true rfl, Nat.le_of_ble_eq_true rfl⟩) (g_preV (rdN_of hP) hK (va_recv hK hP (q0 := 0) (ci := 9) rfl rfl)) rfl rfl hl.1 rfl (lv_room (Nat.le_of_ble_eq_true rfl)) dX9_plan_46 ⟨Nat.le_of_ble_eq_true rfl, Nat.le_of_ble_eq_true rfl⟩)) (fun r hr9 => ?_)
    subst hr9
    refine lv_aload_n hx hb dX9_plan_49 rfl (lv_at hl 1 rfl) ?_
    refine lv_iload_n hx hb dX9_plan_50 rfl (lv_at hl 2 rfl) ?_
    refine lv_iload_n hx hb dX9_plan_51 rfl (lv_at hl 3 rfl) ?_
    refine vp_callSi (va_Run.run (va_runV (As := [.int (zI ((w : Int))), .int (zI ((d : Int)))]) (rest := [.int (zI (wkd (upd N (58 + 13 * w + 6) (N (58 + 13 * w + 6) + (zI (cst N w d q)))) w d)), .int (zI ((q : Int))), .int (zI ((d : Int))), .int (zI ((w : Int))), .ref ((a 0))]) ⟨hx, hb, hml, hown, hts⟩ (c_X9_kindOf l g ((a 0)) ((a 2)) (upd N (58 + 13 * w + 6) (N (58 + 13 * w + 6) + (zI (cst N w d q)))) (hN1) (w) (d) (hw) (hd)) (cwV 2 hts gX9_plan_X9_kindOf rfl rfl rfl (by decide +kernel) ⟨Nat.le_of_ble_eq_true rfl, Nat.le_of_ble_eq_true rfl⟩) (g_preV (rdN_of hP) hK (va_recv hK hP (q0 := 0) (ci := 9) rfl rfl)) rfl rfl hl.1 rfl (lv_room (Nat.le_of_ble_eq_true rfl)) dX9_plan_52 ⟨Nat.le_of_ble_eq_true rfl, Nat.le_of_ble_eq_true rfl⟩)) (fun r hr9 => ?_)
    subst hr9
    refine lv_iconst (v := zI (0)) hx hb dX9_plan_55 (by decide) ?_
    refine va_callv (va_runV (As := [.int (zI ((w : Int))), .int (zI ((d : Int))), .int (zI ((q : Int))), .int (zI (wkd (upd N (58 + 13 * w + 6) (N (58 + 13 * w + 6) + (zI (cst N w d q)))) w d)), .int (zI (knd (upd N (58 + 13 * w + 6) (N (58 + 13 * w + 6) + (zI (cst N w d q)))) w d)), .int (zI (0))]) (rest := []) ⟨hx, hb, hml, hown, hts⟩ (c_X9_putDay l g (a) (ha) ((upd (upd sc 0 (zI (0))) 9 (zI ((min (k + 1) 10 : Nat))))) (wd) (tp) ((upd N (58 + 13 * w + 6) (N (58 + 13 * w + 6) + (zI (cst N w d q))))) (rd) ((snS sn N k)) (w) (d) (q) (wkd (upd N (58 + 13 * w + 6) (N (58 + 13 * w + 6) + zI (cst N w d q))) w d) (knd (upd N (58 + 13 * w + 6) (N (58 + 13 * w + 6) + zI (cst N w d q))) w d) (0) (hw) (hd)) (cwV 6 hts gX9_plan_X9_putDay rfl rfl rfl (by decide +kernel) ⟨Nat.le_of_ble_eq_true rfl, Nat.le_of_ble_eq_true rfl⟩) (g_preV hP hK (va_recv hK hP (q0 := 0) (ci := 9) rfl rfl)) rfl rfl hl.1 rfl (lv_room (Nat.le_of_ble_eq_true rfl)) dX9_plan_56 ⟨Nat.le_of_ble_eq_true rfl, Nat.le_of_ble_eq_true rfl⟩) hS (fun q _ h => h) (fun q h => h) (fun u9 t9 H1 locs ht9 hvm9 hw9 hB9 hz9 hk9 hS => ?_)
    rw [ht9] at hB9
    have hP := hB9
    clear hB9 hz9 hk9 hvm9 ht9
    generalize H1 = H at hP hS ⊢
    have hP : gP g (mW g a (upd (upd sc 0 (zI (0))) 9 (zI ((min (k + 1) 10 : Nat)))) wd tp (upd (upd N (58 + 13 * w + 6) (N (58 + 13 * w + 6) + (zI (cst N w d q)))) (111 + 364 * w + d) (zI (q + 1 + 128 * (wkd (upd N (58 + 13 * w + 6) (N (58 + 13 * w + 6) + zI (cst N w d q))) w d) + 16384 * (knd (upd N (58 + 13 * w + 6) (N (58 + 13 * w + 6) + zI (cst N w d q))) w d) + 65536 * 0))) rd (snS sn N k)) H := hP
    refine lv_iload hx hb dX9_plan_59 (lv_at hl 0 rfl) ?_
    have eN : upd (upd N (58 + 13 * w + 6) (N (58 + 13 * w + 6) + (zI (cst N w d q)))) (111 + 364 * w + d) (zI (q + 1 + 128 * (wkd (upd N (58 + 13 * w + 6) (N (58 + 13 * w + 6) + zI (cst N w d q))) w d) + 16384 * (knd (upd N (58 + 13 * w + 6) (N (58 + 13 * w + 6) + zI (cst N w d q))) w d) + 65536 * 0)) = planN N w d q := by
      unfold planN; rw [sD_wkd hsd, sD_knd hsd]; exact congrArg _ (congrArg zI (by unfold pkD; omega))
    exact W.iret hx hb hr (fun tX htX hWX => ⟨⟨_, (), rfl, by unfold costF; rw [if_pos hc]; rfl, g_at htX ((act_yes hc eN hP))⟩, hS.F htX⟩) hS.2.2 dX9_plan_61
  · refine lv_iconst (v := zI (-1)) hx hb dX9_plan_15 (by decide) ?_
    exact W.iret hx hb hr (fun tX htX hWX => ⟨⟨_, (), rfl, by unfold costF; rw [if_neg h12], g_at htX ((act_no h12 hk hP))⟩, hS.F htX⟩) hS.2.2 dX9_plan_16

set_option maxHeartbeats 4000000 in
set_option maxRecDepth 100000 in
theorem c_X9_work (l : Launch) (g : GG) (a : Nat → Nat) (ha : aD a) (sc : Nat → Int32) (wd : Int64) (tp N rd sn : Nat → Int32) (hN : okN N) (k : Nat) (hk : sc 9 = zI k) (hk10 : k ≤ 10) (v qq : Int) (hv : R32 v) (hqq : R32 qq) : Met l yX9_work wsX9_work ({ frames := 3, cells := 0, slots := 0, locals := 64 }) (gPc g [.ref ((a 0)), .int (zI (v)), .int (zI (qq))] (gP g (mW g a sc wd tp N rd sn))) (va_Qi (fun (r : Int32) (_ : Unit) => r = zI (bz (workC N v qq))) (fun (_ : Unit) (tS : State) => gP g (mW g a (upd (upd sc 0 (zI (0))) 9 (zI ((actK (workC N v qq) k : Nat)))) wd tp (actN (workC N v qq) N (workN N v.toNat qq.toNat)) rd (actS (workC N v qq) sn N k)) tS.heap) (mA a)) 0 0 (mA a) := by
  refine Met.ofW (cc := cX9_work) (maxL := 3) (ret := (some .boolean)) (by decide) rfl ?_
  intro p e s m args below meth c s₁ B hml hv
  obtain ⟨rfl, hP, hK⟩ := hv
  have hx := B.exec
  have hb := B.bytes
  have hr := B.returns
  have hts := atoms_spec (ws := wsX9_work) B.pre
  have hown : s.vm.findClass RX9 = some m.cls := findClass_of_methodNamed B.named
  have hlocks := B.notSynchronized
  have hinX9 : ∀ w ∈ wsX90, w ∈ wsX9_work := by decide +kernel
  have k1 := hts (.fieldLink RX9 1 "HoursBankModel" "thrown" "I") (by decide +kernel)
  have hl := lv_entry ([.ref ((a 0)), .int (zI (v)), .int (zI (qq))]) (n := 3) (Nat.le_of_ble_eq_true rfl)
  rw [lg_entry_eq]
  generalize (lg_sl ([.ref ((a 0)), .int (zI (v)), .int (zI (qq))]) ++ List.replicate (3 - (lg_sl ([.ref ((a 0)), .int (zI (v)), .int (zI (qq))])).length) Slot.unset).toArray = ls at hl ⊢
  have hl : lv_has ls 3 [(0, .ref ((a 0))), (1, .int (zI (v))), (2, .int (zI (qq)))] := hl
  have hS : va_S (mA a) s.heap s.heap [] := va_S.rf
  obtain ⟨H, hH9⟩ : ∃ H, H = s.heap := ⟨_, rfl⟩
  obtain ⟨locs, hL9⟩ : ∃ x : List Loc, x = [] := ⟨_, rfl⟩
  have hP : gP g (mW g a sc wd tp N rd sn) H := hH9 ▸ hP
  have hS : va_S (mA a) s.heap H locs := by rw [hH9, hL9]; exact hS
  refine z_start hH9 hL9 ?_
  clear hH9 hL9
  refine lv_aload_n hx hb dX9_work_0 rfl (lv_at hl 0 rfl) ?_
  refine lv_iconst (v := zI (0)) hx hb dX9_work_1 (by decide) ?_
  refine va_put (D := g.1) (ci := 9) (v := .int (zI (0))) (ty := .int) (C := RX9) (T := TX9) (N := 15) hx hb hts hinX9 tyX9 tyX9_ok nmX9 hown hK hP (mD ha) hS 0 rfl rfl 0 (by decide) k1 (fun _ h9 => h9) rfl (by decide +kernel) rfl rfl (Nat.le_of_ble_eq_true rfl) dX9_work_2 (fun H locs hP _ hS => ?_)
  have hP : gP g (mW g a (upd sc 0 (zI (0))) wd tp N rd sn) H := hP
  refine lv_aload_n hx hb dX9_work_5 rfl (lv_at hl 0 rfl) ?_
  refine lv_iload_n hx hb dX9_work_6 rfl (lv_at hl 1 rfl) ?_
  refine vp_callSi (va_Run.run (va_runV (As := [.int (zI (v))]) (rest := []) ⟨hx, hb, hml, hown, hts⟩ (c_X9_isHere l g ((a 0)) ((a 2)) (N) (hN) (v) (hv)) (cwV 1 hts gX9_work_X9_isHere rfl rfl rfl (by decide +kernel) ⟨Nat.le_of_ble_eq_true rfl, Nat.le_of_ble_eq_true rfl⟩) (g_preV (rdN_of hP) hK (va_recv hK hP (q0 := 0) (ci := 9) rfl rfl)) rfl rfl hl.1 rfl (lv_room (Nat.le_of_ble_eq_true rfl)) dX9_work_7 ⟨Nat.le_of_ble_eq_true rfl, Nat.le_of_ble_eq_true rfl⟩)) (fun r hr9 => ?_)
  subst hr9
  refine z_bz_eq (tgt := 45) hx hb dX9_work_10 (by decide) (fun h10 => ?_) (fun h10 => ?_)
  · refine lv_iconst (v := zI (0)) hx hb dX9_work_45 (by decide) ?_
    have hc : ¬ workC N v qq := by first | (intro q9; exact h10 q9.1; done) | (intro q9; exact h20 q9.2.1; done) | (intro q9; exact q9.2.2.1 (by omega); done) | (intro q9; exact h42 (by have := q9.2.2.2; simp only [Int.toNat_natCast] at this; omega); done)
    exact W.zret hx hb hr (by decide) (fun tX htX hWX => ⟨⟨_, (), rfl, bz_0 (hc), g_at htX ((act_no hc hk hP))⟩, hS.F htX⟩) hS.2.2 dX9_work_46
  · have hq0 := hN.nw.le
    have hq1 := hN.td.le
    obtain ⟨⟨hv0, hv1⟩, hgo⟩ := h10
    obtain ⟨w, rfl⟩ := Int.eq_ofNat_of_zero_le hv0
    have hw : w < 4 := by omega
    refine lv_iload_n hx hb dX9_work_13 rfl (lv_at hl 2 rfl) ?_
    refine lv_iconst (v := zI (0)) hx hb dX9_work_14 (by decide) ?_
    refine lv_bipush (v := zI (96)) hx hb dX9_work_15 (by decide) ?_
    refine vp_callSi (va_Run.run (va_runS (As := [.int (zI (qq)), .int (zI (0)), .int (zI (96))]) (rest := []) ⟨hx, hb, hml, hown, hts⟩ (c_X9_isIn l (qq) (0) (96) (hqq) (by omega) (by omega)) (va_cwS 3 hts gX9_work_X9_isIn rfl rfl rfl (by decide +kernel) ⟨Nat.le_of_ble_eq_true rfl, Nat.le_of_ble_eq_true rfl⟩) g_preS0 rfl rfl hl.1 rfl (lv_room (Nat.le_of_ble_eq_true rfl)) dX9_work_17 ⟨Nat.le_of_ble_eq_true rfl, Nat.le_of_ble_eq_true rfl⟩)) (fun r hr9 => ?_)
    subst hr9
    refine z_bz_eq (tgt := 45) hx hb dX9_work_20 (by decide) (fun h20 => ?_) (fun h20 => ?_)
    · refine lv_iconst (v := zI (0)) hx hb dX9_work_45 (by decide) ?_
      have hc : ¬ workC N (w : Int) qq := by first | (intro q9; exact h10 q9.1; done) | (intro q9; exact h20 q9.2.1; done) | (intro q9; exact q9.2.2.1 (by omega); done) | (intro q9; exact h42 (by have := q9.2.2.2; simp only [Int.toNat_natCast] at this; omega); done)
      exact W.zret hx hb hr (by decide) (fun tX htX hWX => ⟨⟨_, (), rfl, bz_0 (hc), g_at htX ((act_no hc hk hP))⟩, hS.F htX⟩) hS.2.2 dX9_work_46
    · obtain ⟨q, rfl⟩ := Int.eq_ofNat_of_zero_le h20.1
      refine lv_aload_n hx hb dX9_work_23 rfl (lv_at hl 0 rfl) ?_
      refine vp_callSi (va_Run.run (va_runV (As := []) (rest := []) ⟨hx, hb, hml, hown, hts⟩ (c_X9_today l g ((a 0)) ((a 2)) (N) (hN)) (cwV 0 hts gX9_work_X9_today rfl rfl rfl (by decide +kernel) ⟨Nat.le_of_ble_eq_true rfl, Nat.le_of_ble_eq_true rfl⟩) (g_preV (rdN_of hP) hK (va_recv hK hP (q0 := 0) (ci := 9) rfl rfl)) rfl rfl hl.1 rfl (lv_room (Nat.le_of_ble_eq_true rfl)) dX9_work_24 ⟨Nat.le_of_ble_eq_true rfl, Nat.le_of_ble_eq_true rfl⟩)) (fun r hr9 => ?_)
      subst hr9
      refine lv_sipush (v := zI (364)) hx hb dX9_work_27 (by decide) ?_
      refine z_icmp_eq (tgt := 45) hx hb dX9_work_30 (by decide) (by omega) (by omega) (fun h30 => ?_) (fun h30 => ?_)
      · refine lv_iconst (v := zI (0)) hx hb dX9_work_45 (by decide) ?_
        have hc : ¬ workC N (w : Int) (q : Int) := by first | (intro q9; exact h10 q9.1; done) | (intro q9; exact h20 q9.2.1; done) | (intro q9; exact q9.2.2.1 (by omega); done) | (intro q9; exact h42 (by have := q9.2.2.2; simp only [Int.toNat_natCast] at this; omega); done)
        exact W.zret hx hb hr (by decide) (fun tX htX hWX => ⟨⟨_, (), rfl, bz_0 (hc), g_at htX ((act_no hc hk hP))⟩, hS.F htX⟩) hS.2.2 dX9_work_46
      · have hd : mn N 110 < 364 := by omega
        have hkk := hN.knd hw hd
        refine lv_aload_n hx hb dX9_work_33 rfl (lv_at hl 0 rfl) ?_
        refine lv_iload_n hx hb dX9_work_34 rfl (lv_at hl 1 rfl) ?_
        refine lv_aload_n hx hb dX9_work_35 rfl (lv_at hl 0 rfl) ?_
        refine vp_callSi (va_Run.run (va_runV (As := []) (rest := [.int (zI ((w : Int))), .ref ((a 0))]) ⟨hx, hb, hml, hown, hts⟩ (c_X9_today l g ((a 0)) ((a 2)) (N) (hN)) (cwV 0 hts gX9_work_X9_today rfl rfl rfl (by decide +kernel) ⟨Nat.le_of_ble_eq_true rfl, Nat.le_of_ble_eq_true rfl⟩) (g_preV (rdN_of hP) hK (va_recv hK hP (q0 := 0) (ci := 9) rfl rfl)) rfl rfl hl.1 rfl (lv_room (Nat.le_of_ble_eq_true rfl)) dX9_work_36 ⟨Nat.le_of_ble_eq_true rfl, Nat.le_of_ble_eq_true rfl⟩)) (fun r hr9 => ?_)
        subst hr9
        refine vp_callSi (va_Run.run (va_runV (As := [.int (zI ((w : Int))), .int (zI (mn N 110))]) (rest := []) ⟨hx, hb, hml, hown, hts⟩ (c_X9_kindOf l g ((a 0)) ((a 2)) (N) (hN) (w) ((mn N 110)) (hw) (hd)) (cwV 2 hts gX9_work_X9_kindOf rfl rfl rfl (by decide +kernel) ⟨Nat.le_of_ble_eq_true rfl, Nat.le_of_ble_eq_true rfl⟩) (g_preV (rdN_of hP) hK (va_recv hK hP (q0 := 0) (ci := 9) rfl rfl)) rfl rfl hl.1 rfl (lv_room (Nat.le_of_ble_eq_true rfl)) dX9_work_39 ⟨Nat.le_of_ble_eq_true rfl, Nat.le_of_ble_eq_true rfl⟩)) (fun r hr9 => ?_)
        subst hr9
        refine z_if_eq (tgt := 47) hx hb dX9_work_42 (by decide) (by omega) (fun h42 => ?_) (fun h42 => ?_)
        · refine lv_aload_n hx hb dX9_work_47 rfl (lv_at hl 0 rfl) ?_
          refine va_callv (va_runV (As := []) (rest := []) ⟨hx, hb, hml, hown, hts⟩ (c_X9_snap l g (a) (ha) ((upd sc 0 (zI (0)))) (wd) (tp) (N) (rd) (sn) (k) (hk) (hk10)) (cwV 0 hts gX9_work_X9_snap rfl rfl rfl (by decide +kernel) ⟨Nat.le_of_ble_eq_true rfl, Nat.le_of_ble_eq_true rfl⟩) (g_preV hP hK (va_recv hK hP (q0 := 0) (ci := 9) rfl rfl)) rfl rfl hl.1 rfl (lv_room (Nat.le_of_ble_eq_true rfl)) dX9_work_48 ⟨Nat.le_of_ble_eq_true rfl, Nat.le_of_ble_eq_true rfl⟩) hS (fun q _ h => h) (fun q h => h) (fun u9 t9 H1 locs ht9 hvm9 hw9 hB9 hz9 hk9 hS => ?_)
          rw [ht9] at hB9
          have hP := hB9
          clear hB9 hz9 hk9 hvm9 ht9
          generalize H1 = H at hP hS ⊢
          have hP : gP g (mW g a (upd (upd sc 0 (zI (0))) 9 (zI ((min (k + 1) 10 : Nat)))) wd tp N rd (snS sn N k)) H := hP
          refine lv_aload_n hx hb dX9_work_51 rfl (lv_at hl 0 rfl) ?_
          refine lv_iload_n hx hb dX9_work_52 rfl (lv_at hl 1 rfl) ?_
          refine lv_aload_n hx hb dX9_work_53 rfl (lv_at hl 0 rfl) ?_
          refine vp_callSi (va_Run.run (va_runV (As := []) (rest := [.int (zI ((w : Int))), .ref ((a 0))]) ⟨hx, hb, hml, hown, hts⟩ (c_X9_today l g ((a 0)) ((a 2)) (N) (hN)) (cwV 0 hts gX9_work_X9_today rfl rfl rfl (by decide +kernel) ⟨Nat.le_of_ble_eq_true rfl, Nat.le_of_ble_eq_true rfl⟩) (g_preV (rdN_of hP) hK (va_recv hK hP (q0 := 0) (ci := 9) rfl rfl)) rfl rfl hl.1 rfl (lv_room (Nat.le_of_ble_eq_true rfl)) dX9_work_54 ⟨Nat.le_of_ble_eq_true rfl, Nat.le_of_ble_eq_true rfl⟩)) (fun r hr9 => ?_)
          subst hr9
          refine lv_aload_n hx hb dX9_work_57 rfl (lv_at hl 0 rfl) ?_
          refine lv_iload_n hx hb dX9_work_58 rfl (lv_at hl 1 rfl) ?_
          refine lv_aload_n hx hb dX9_work_59 rfl (lv_at hl 0 rfl) ?_
          refine vp_callSi (va_Run.run (va_runV (As := []) (rest := [.int (zI ((w : Int))), .ref ((a 0)), .int (zI (mn N 110)), .int (zI ((w : Int))), .ref ((a 0))]) ⟨hx, hb, hml, hown, hts⟩ (c_X9_today l g ((a 0)) ((a 2)) (N) (hN)) (cwV 0 hts gX9_work_X9_today rfl rfl rfl (by decide +kernel) ⟨Nat.le_of_ble_eq_true rfl, Nat.le_of_ble_eq_true rfl⟩) (g_preV (rdN_of hP) hK (va_recv hK hP (q0 := 0) (ci := 9) rfl rfl)) rfl rfl hl.1 rfl (lv_room (Nat.le_of_ble_eq_true rfl)) dX9_work_60 ⟨Nat.le_of_ble_eq_true rfl, Nat.le_of_ble_eq_true rfl⟩)) (fun r hr9 => ?_)
          subst hr9
          refine vp_callSi (va_Run.run (va_runV (As := [.int (zI ((w : Int))), .int (zI (mn N 110))]) (rest := [.int (zI (mn N 110)), .int (zI ((w : Int))), .ref ((a 0))]) ⟨hx, hb, hml, hown, hts⟩ (c_X9_changedOf l g ((a 0)) ((a 2)) (N) (hN) (w) ((mn N 110)) (hw) (hd)) (cwV 2 hts gX9_work_X9_changedOf rfl rfl rfl (by decide +kernel) ⟨Nat.le_of_ble_eq_true rfl, Nat.le_of_ble_eq_true rfl⟩) (g_preV (rdN_of hP) hK (va_recv hK hP (q0 := 0) (ci := 9) rfl rfl)) rfl rfl hl.1 rfl (lv_room (Nat.le_of_ble_eq_true rfl)) dX9_work_63 ⟨Nat.le_of_ble_eq_true rfl, Nat.le_of_ble_eq_true rfl⟩)) (fun r hr9 => ?_)
          subst hr9
          refine lv_iload_n hx hb dX9_work_66 rfl (lv_at hl 2 rfl) ?_
          refine lv_iconst (v := zI (0)) hx hb dX9_work_67 (by decide) ?_
          refine lv_iconst (v := zI (0)) hx hb dX9_work_68 (by decide) ?_
          refine va_callv (va_runV (As := [.int (zI ((w : Int))), .int (zI (mn N 110)), .int (zI ((chg N w (mn N 110) : Int) - 1)), .int (zI ((q : Int))), .int (zI (0)), .int (zI (0))]) (rest := []) ⟨hx, hb, hml, hown, hts⟩ (c_X9_putDay l g (a) (ha) ((upd (upd sc 0 (zI (0))) 9 (zI ((min (k + 1) 10 : Nat))))) (wd) (tp) (N) (rd) ((snS sn N k)) (w) ((mn N 110)) ((chg N w (mn N 110) : Int) - 1) (q) (0) (0) (hw) (hd)) (cwV 6 hts gX9_work_X9_putDay rfl rfl rfl (by decide +kernel) ⟨Nat.le_of_ble_eq_true rfl, Nat.le_of_ble_eq_true rfl⟩) (g_preV hP hK (va_recv hK hP (q0 := 0) (ci := 9) rfl rfl)) rfl rfl hl.1 rfl (lv_room (Nat.le_of_ble_eq_true rfl)) dX9_work_69 ⟨Nat.le_of_ble_eq_true rfl, Nat.le_of_ble_eq_true rfl⟩) hS (fun q _ h => h) (fun q h => h) (fun u9 t9 H1 locs ht9 hvm9 hw9 hB9 hz9 hk9 hS => ?_)
          rw [ht9] at hB9
          have hP := hB9
          clear hB9 hz9 hk9 hvm9 ht9
          generalize H1 = H at hP hS ⊢
          have hP : gP g (mW g a (upd (upd sc 0 (zI (0))) 9 (zI ((min (k + 1) 10 : Nat)))) wd tp (upd N (111 + 364 * w + (mn N 110)) (zI (((chg N w (mn N 110) : Int) - 1) + 1 + 128 * q + 16384 * 0 + 65536 * 0))) rd (snS sn N k)) H := hP
          refine lv_iconst (v := zI (1)) hx hb dX9_work_72 (by decide) ?_
          have hc : workC N (w : Int) (q : Int) := ⟨⟨⟨hv0, hv1⟩, hgo⟩, h20, by omega, by simp only [Int.toNat_natCast]; omega⟩
          have eN : upd N (111 + 364 * w + (mn N 110)) (zI (((chg N w (mn N 110) : Int) - 1) + 1 + 128 * q + 16384 * 0 + 65536 * 0)) = workN N w q := by
            unfold workN; exact congrArg _ (congrArg zI (by unfold pkD; omega))
          exact W.zret hx hb hr (by decide) (fun tX htX hWX => ⟨⟨_, (), rfl, bz_1 (hc), g_at htX ((act_yes hc eN hP))⟩, hS.F htX⟩) hS.2.2 dX9_work_73
        · refine lv_iconst (v := zI (0)) hx hb dX9_work_45 (by decide) ?_
          have hc : ¬ workC N (w : Int) (q : Int) := by first | (intro q9; exact h10 q9.1; done) | (intro q9; exact h20 q9.2.1; done) | (intro q9; exact q9.2.2.1 (by omega); done) | (intro q9; exact h42 (by have := q9.2.2.2; simp only [Int.toNat_natCast] at this; omega); done)
          exact W.zret hx hb hr (by decide) (fun tX htX hWX => ⟨⟨_, (), rfl, bz_0 (hc), g_at htX ((act_no hc hk hP))⟩, hS.F htX⟩) hS.2.2 dX9_work_46

set_option maxHeartbeats 4000000 in
set_option maxRecDepth 100000 in
theorem c_X9_sick (l : Launch) (g : GG) (a : Nat → Nat) (ha : aD a) (sc : Nat → Int32) (wd : Int64) (tp N rd sn : Nat → Int32) (hN : okN N) (k : Nat) (hk : sc 9 = zI k) (hk10 : k ≤ 10) (v f : Int) (hv : R32 v) (hf : f = 0 ∨ f = 1) : Met l yX9_sick wsX9_sick ({ frames := 3, cells := 0, slots := 0, locals := 64 }) (gPc g [.ref ((a 0)), .int (zI (v)), .int (zI (f))] (gP g (mW g a sc wd tp N rd sn))) (va_Qi (fun (r : Int32) (_ : Unit) => r = zI (bz (sickC N v f))) (fun (_ : Unit) (tS : State) => gP g (mW g a (upd (upd sc 0 (zI (0))) 9 (zI ((actK (sickC N v f) k : Nat)))) wd tp (actN (sickC N v f) N (sickN N v.toNat f)) rd (actS (sickC N v f) sn N k)) tS.heap) (mA a)) 0 0 (mA a) := by
  refine Met.ofW (cc := cX9_sick) (maxL := 4) (ret := (some .boolean)) (by decide) rfl ?_
  intro p e s m args below meth c s₁ B hml hv
  obtain ⟨rfl, hP, hK⟩ := hv
  have hx := B.exec
  have hb := B.bytes
  have hr := B.returns
  have hts := atoms_spec (ws := wsX9_sick) B.pre
  have hown : s.vm.findClass RX9 = some m.cls := findClass_of_methodNamed B.named
  have hlocks := B.notSynchronized
  have hinX9 : ∀ w ∈ wsX90, w ∈ wsX9_sick := by decide +kernel
  have k1 := hts (.fieldLink RX9 1 "HoursBankModel" "thrown" "I") (by decide +kernel)
  have hl := lv_entry ([.ref ((a 0)), .int (zI (v)), .int (zI (f))]) (n := 4) (Nat.le_of_ble_eq_true rfl)
  rw [lg_entry_eq]
  generalize (lg_sl ([.ref ((a 0)), .int (zI (v)), .int (zI (f))]) ++ List.replicate (4 - (lg_sl ([.ref ((a 0)), .int (zI (v)), .int (zI (f))])).length) Slot.unset).toArray = ls at hl ⊢
  have hl : lv_has ls 4 [(0, .ref ((a 0))), (1, .int (zI (v))), (2, .int (zI (f)))] := hl
  have hS : va_S (mA a) s.heap s.heap [] := va_S.rf
  obtain ⟨H, hH9⟩ : ∃ H, H = s.heap := ⟨_, rfl⟩
  obtain ⟨locs, hL9⟩ : ∃ x : List Loc, x = [] := ⟨_, rfl⟩
  have hP : gP g (mW g a sc wd tp N rd sn) H := hH9 ▸ hP
  have hS : va_S (mA a) s.heap H locs := by rw [hH9, hL9]; exact hS
  refine z_start hH9 hL9 ?_
  clear hH9 hL9
  refine lv_aload_n hx hb dX9_sick_0 rfl (lv_at hl 0 rfl) ?_
  refine lv_iconst (v := zI (0)) hx hb dX9_sick_1 (by decide) ?_
  refine va_put (D := g.1) (ci := 9) (v := .int (zI (0))) (ty := .int) (C := RX9) (T := TX9) (N := 15) hx hb hts hinX9 tyX9 tyX9_ok nmX9 hown hK hP (mD ha) hS 0 rfl rfl 0 (by decide) k1 (fun _ h9 => h9) rfl (by decide +kernel) rfl rfl (Nat.le_of_ble_eq_true rfl) dX9_sick_2 (fun H locs hP _ hS => ?_)
  have hP : gP g (mW g a (upd sc 0 (zI (0))) wd tp N rd sn) H := hP
  refine lv_aload_n hx hb dX9_sick_5 rfl (lv_at hl 0 rfl) ?_
  refine lv_iload_n hx hb dX9_sick_6 rfl (lv_at hl 1 rfl) ?_
  refine vp_callSi (va_Run.run (va_runV (As := [.int (zI (v))]) (rest := []) ⟨hx, hb, hml, hown, hts⟩ (c_X9_isHere l g ((a 0)) ((a 2)) (N) (hN) (v) (hv)) (cwV 1 hts gX9_sick_X9_isHere rfl rfl rfl (by decide +kernel) ⟨Nat.le_of_ble_eq_true rfl, Nat.le_of_ble_eq_true rfl⟩) (g_preV (rdN_of hP) hK (va_recv hK hP (q0 := 0) (ci := 9) rfl rfl)) rfl rfl hl.1 rfl (lv_room (Nat.le_of_ble_eq_true rfl)) dX9_sick_7 ⟨Nat.le_of_ble_eq_true rfl, Nat.le_of_ble_eq_true rfl⟩)) (fun r hr9 => ?_)
  subst hr9
  refine z_bz_eq (tgt := 23) hx hb dX9_sick_10 (by decide) (fun h10 => ?_) (fun h10 => ?_)
  · refine lv_iconst (v := zI (0)) hx hb dX9_sick_23 (by decide) ?_
    have hc : ¬ sickC N v f := by first | (intro q9; exact h10 q9.1; done) | (intro q9; exact q9.2.1 (by omega); done)
    exact W.zret hx hb hr (by decide) (fun tX htX hWX => ⟨⟨_, (), rfl, bz_0 (hc), g_at htX ((act_no hc hk hP))⟩, hS.F htX⟩) hS.2.2 dX9_sick_24
  · have hq0 := hN.nw.le
    have hq1 := hN.td.le
    obtain ⟨⟨hv0, hv1⟩, hgo⟩ := h10
    obtain ⟨w, rfl⟩ := Int.eq_ofNat_of_zero_le hv0
    have hw : w < 4 := by omega
    refine lv_aload_n hx hb dX9_sick_13 rfl (lv_at hl 0 rfl) ?_
    refine vp_callSi (va_Run.run (va_runV (As := []) (rest := []) ⟨hx, hb, hml, hown, hts⟩ (c_X9_today l g ((a 0)) ((a 2)) (N) (hN)) (cwV 0 hts gX9_sick_X9_today rfl rfl rfl (by decide +kernel) ⟨Nat.le_of_ble_eq_true rfl, Nat.le_of_ble_eq_true rfl⟩) (g_preV (rdN_of hP) hK (va_recv hK hP (q0 := 0) (ci := 9) rfl rfl)) rfl rfl hl.1 rfl (lv_room (Nat.le_of_ble_eq_true rfl)) dX9_sick_14 ⟨Nat.le_of_ble_eq_true rfl, Nat.le_of_ble_eq_true rfl⟩)) (fun r hr9 => ?_)
    subst hr9
    refine lv_sipush (v := zI (364)) hx hb dX9_sick_17 (by decide) ?_
    refine z_icmp_ne (tgt := 25) hx hb dX9_sick_20 (by decide) (by omega) (by omega) (fun h20 => ?_) (fun h20 => ?_)
    · have hd : mn N 110 < 364 := by omega
      have hkk := hN.knd hw hd
      have hkw := hN.wkd hw hd
      refine lv_aload_n hx hb dX9_sick_25 rfl (lv_at hl 0 rfl) ?_
      refine vp_callSi (va_Run.run (va_runV (As := []) (rest := []) ⟨hx, hb, hml, hown, hts⟩ (c_X9_today l g ((a 0)) ((a 2)) (N) (hN)) (cwV 0 hts gX9_sick_X9_today rfl rfl rfl (by decide +kernel) ⟨Nat.le_of_ble_eq_true rfl, Nat.le_of_ble_eq_true rfl⟩) (g_preV (rdN_of hP) hK (va_recv hK hP (q0 := 0) (ci := 9) rfl rfl)) rfl rfl hl.1 rfl (lv_room (Nat.le_of_ble_eq_true rfl)) dX9_sick_26 ⟨Nat.le_of_ble_eq_true rfl, Nat.le_of_ble_eq_true rfl⟩)) (fun r hr9 => ?_)
      subst hr9
      refine lv_istore_n (lv' := [(3, .int (zI (mn N 110))), (0, .ref ((a 0))), (1, .int (zI ((w : Int)))), (2, .int (zI (f)))]) hx hb dX9_sick_29 rfl hl (by decide) rfl (fun ls hl => ?_)
      refine lv_aload_n hx hb dX9_sick_30 rfl (lv_at hl 1 rfl) ?_
      refine lv_iload_n hx hb dX9_sick_31 rfl (lv_at hl 2 rfl) ?_
      refine lv_iload_n hx hb dX9_sick_32 rfl (lv_at hl 0 rfl) ?_
      refine vp_callSi (va_Run.run (va_runV (As := [.int (zI ((w : Int))), .int (zI (mn N 110))]) (rest := []) ⟨hx, hb, hml, hown, hts⟩ (c_X9_kindOf l g ((a 0)) ((a 2)) (N) (hN) (w) ((mn N 110)) (hw) (hd)) (cwV 2 hts gX9_sick_X9_kindOf rfl rfl rfl (by decide +kernel) ⟨Nat.le_of_ble_eq_true rfl, Nat.le_of_ble_eq_true rfl⟩) (g_preV (rdN_of hP) hK (va_recv hK hP (q0 := 0) (ci := 9) rfl rfl)) rfl rfl hl.1 rfl (lv_room (Nat.le_of_ble_eq_true rfl)) dX9_sick_33 ⟨Nat.le_of_ble_eq_true rfl, Nat.le_of_ble_eq_true rfl⟩)) (fun r hr9 => ?_)
      subst hr9
      refine lv_iload_n hx hb dX9_sick_36 rfl (lv_at hl 3 rfl) ?_
      refine z_if_eq (tgt := 44) hx hb dX9_sick_37 (by decide) (by omega) (fun h37 => ?_) (fun h37 => ?_)
      · refine lv_iconst (v := zI (1)) hx hb dX9_sick_44 (by decide) ?_
        refine z_icmp_ne (tgt := 57) hx hb dX9_sick_45 (by decide) (by omega) (by omega) (fun h45 => ?_) (fun h45 => ?_)
        · refine lv_iconst (v := zI (0)) hx hb dX9_sick_57 (by decide) ?_
          have hc : ¬ sickC N (w : Int) f := by
            intro q9
            have q1 := q9.2.2.1
            have q2 := q9.2.2.2
            simp only [Int.toNat_natCast] at q1 q2
            omega
          exact W.zret hx hb hr (by decide) (fun tX htX hWX => ⟨⟨_, (), rfl, bz_0 (hc), g_at htX ((act_no hc hk hP))⟩, hS.F htX⟩) hS.2.2 dX9_sick_58
        · refine lv_aload_n hx hb dX9_sick_48 rfl (lv_at hl 1 rfl) ?_
          refine lv_iload_n hx hb dX9_sick_49 rfl (lv_at hl 2 rfl) ?_
          refine lv_iload_n hx hb dX9_sick_50 rfl (lv_at hl 0 rfl) ?_
          refine vp_callSi (va_Run.run (va_runV (As := [.int (zI ((w : Int))), .int (zI (mn N 110))]) (rest := []) ⟨hx, hb, hml, hown, hts⟩ (c_X9_workedOf l g ((a 0)) ((a 2)) (N) (hN) (w) ((mn N 110)) (hw) (hd)) (cwV 2 hts gX9_sick_X9_workedOf rfl rfl rfl (by decide +kernel) ⟨Nat.le_of_ble_eq_true rfl, Nat.le_of_ble_eq_true rfl⟩) (g_preV (rdN_of hP) hK (va_recv hK hP (q0 := 0) (ci := 9) rfl rfl)) rfl rfl hl.1 rfl (lv_room (Nat.le_of_ble_eq_true rfl)) dX9_sick_51 ⟨Nat.le_of_ble_eq_true rfl, Nat.le_of_ble_eq_true rfl⟩)) (fun r hr9 => ?_)
          subst hr9
          refine z_if_le (tgt := 59) hx hb dX9_sick_54 (by decide) (by omega) (fun h54 => ?_) (fun h54 => ?_)
          · refine lv_aload_n hx hb dX9_sick_59 rfl (lv_at hl 1 rfl) ?_
            refine va_callv (va_runV (As := []) (rest := []) ⟨hx, hb, hml, hown, hts⟩ (c_X9_snap l g (a) (ha) ((upd sc 0 (zI (0)))) (wd) (tp) (N) (rd) (sn) (k) (hk) (hk10)) (cwV 0 hts gX9_sick_X9_snap rfl rfl rfl (by decide +kernel) ⟨Nat.le_of_ble_eq_true rfl, Nat.le_of_ble_eq_true rfl⟩) (g_preV hP hK (va_recv hK hP (q0 := 0) (ci := 9) rfl rfl)) rfl rfl hl.1 rfl (lv_room (Nat.le_of_ble_eq_true rfl)) dX9_sick_60 ⟨Nat.le_of_ble_eq_true rfl, Nat.le_of_ble_eq_true rfl⟩) hS (fun q _ h => h) (fun q h => h) (fun u9 t9 H1 locs ht9 hvm9 hw9 hB9 hz9 hk9 hS => ?_)
            rw [ht9] at hB9
            have hP := hB9
            clear hB9 hz9 hk9 hvm9 ht9
            generalize H1 = H at hP hS ⊢
            have hP : gP g (mW g a (upd (upd sc 0 (zI (0))) 9 (zI ((min (k + 1) 10 : Nat)))) wd tp N rd (snS sn N k)) H := hP
            refine lv_aload_n hx hb dX9_sick_63 rfl (lv_at hl 1 rfl) ?_
            refine lv_iload_n hx hb dX9_sick_64 rfl (lv_at hl 2 rfl) ?_
            refine lv_iload_n hx hb dX9_sick_65 rfl (lv_at hl 0 rfl) ?_
            refine lv_aload_n hx hb dX9_sick_66 rfl (lv_at hl 1 rfl) ?_
            refine lv_iload_n hx hb dX9_sick_67 rfl (lv_at hl 2 rfl) ?_
            refine lv_iload_n hx hb dX9_sick_68 rfl (lv_at hl 0 rfl) ?_
            refine vp_callSi (va_Run.run (va_runV (As := [.int (zI ((w : Int))), .int (zI (mn N 110))]) (rest := [.int (zI (mn N 110)), .int (zI ((w : Int))), .ref ((a 0))]) ⟨hx, hb, hml, hown, hts⟩ (c_X9_changedOf l g ((a 0)) ((a 2)) (N) (hN) (w) ((mn N 110)) (hw) (hd)) (cwV 2 hts gX9_sick_X9_changedOf rfl rfl rfl (by decide +kernel) ⟨Nat.le_of_ble_eq_true rfl, Nat.le_of_ble_eq_true rfl⟩) (g_preV (rdN_of hP) hK (va_recv hK hP (q0 := 0) (ci := 9) rfl rfl)) rfl rfl hl.1 rfl (lv_room (Nat.le_of_ble_eq_true rfl)) dX9_sick_69 ⟨Nat.le_of_ble_eq_true rfl, Nat.le_of_ble_eq_true rfl⟩)) (fun r hr9 => ?_)
            subst hr9
            refine lv_iconst (v := zI (0)) hx hb dX9_sick_72 (by decide) ?_
            refine lv_iload_n hx hb dX9_sick_73 rfl (lv_at hl 3 rfl) ?_
            refine z_if_eq (tgt := 81) hx hb dX9_sick_74 (by decide) (by omega) (fun h74 => ?_) (fun h74 => ?_)
            · refine lv_iconst (v := zI (0)) hx hb dX9_sick_81 (by decide) ?_
              refine lv_iconst (v := zI (0)) hx hb dX9_sick_82 (by decide) ?_
              refine va_callv (va_runV (As := [.int (zI ((w : Int))), .int (zI (mn N 110)), .int (zI ((chg N w (mn N 110) : Int) - 1)), .int (zI (0)), .int (zI (0)), .int (zI (0))]) (rest := []) ⟨hx, hb, hml, hown, hts⟩ (c_X9_putDay l g (a) (ha) ((upd (upd sc 0 (zI (0))) 9 (zI ((min (k + 1) 10 : Nat))))) (wd) (tp) (N) (rd) ((snS sn N k)) (w) ((mn N 110)) ((chg N w (mn N 110) : Int) - 1) (0) (0) (0) (hw) (hd)) (cwV 6 hts gX9_sick_X9_putDay rfl rfl rfl (by decide +kernel) ⟨Nat.le_of_ble_eq_true rfl, Nat.le_of_ble_eq_true rfl⟩) (g_preV hP hK (va_recv hK hP (q0 := 0) (ci := 9) rfl rfl)) rfl rfl hl.1 rfl (lv_room (Nat.le_of_ble_eq_true rfl)) dX9_sick_83 ⟨Nat.le_of_ble_eq_true rfl, Nat.le_of_ble_eq_true rfl⟩) hS (fun q _ h => h) (fun q h => h) (fun u9 t9 H1 locs ht9 hvm9 hw9 hB9 hz9 hk9 hS => ?_)
              rw [ht9] at hB9
              have hP := hB9
              clear hB9 hz9 hk9 hvm9 ht9
              generalize H1 = H at hP hS ⊢
              have hP : gP g (mW g a (upd (upd sc 0 (zI (0))) 9 (zI ((min (k + 1) 10 : Nat)))) wd tp (upd N (111 + 364 * w + (mn N 110)) (zI (((chg N w (mn N 110) : Int) - 1) + 1 + 128 * 0 + 16384 * 0 + 65536 * 0))) rd (snS sn N k)) H := hP
              refine lv_iconst (v := zI (1)) hx hb dX9_sick_86 (by decide) ?_
              have hc : sickC N (w : Int) f := ⟨⟨⟨hv0, hv1⟩, hgo⟩, by omega, by simp only [Int.toNat_natCast]; omega, by simp only [Int.toNat_natCast]; omega⟩
              have eN : upd N (111 + 364 * w + (mn N 110)) (zI (((chg N w (mn N 110) : Int) - 1) + 1 + 128 * 0 + 16384 * 0 + 65536 * 0)) = sickN N w f := by
                unfold sickN; exact congrArg _ (congrArg zI (by unfold pkD; omega))
              exact W.zret hx hb hr (by decide) (fun tX htX hWX => ⟨⟨_, (), rfl, bz_1 (hc), g_at htX ((act_yes hc eN hP))⟩, hS.F htX⟩) hS.2.2 dX9_sick_87
            · refine lv_iconst (v := zI (1)) hx hb dX9_sick_77 (by decide) ?_
              refine lv_goto (tgt := 82) hx hb dX9_sick_78 (by decide) ?_
              refine lv_iconst (v := zI (0)) hx hb dX9_sick_82 (by decide) ?_
              refine va_callv (va_runV (As := [.int (zI ((w : Int))), .int (zI (mn N 110)), .int (zI ((chg N w (mn N 110) : Int) - 1)), .int (zI (0)), .int (zI (1)), .int (zI (0))]) (rest := []) ⟨hx, hb, hml, hown, hts⟩ (c_X9_putDay l g (a) (ha) ((upd (upd sc 0 (zI (0))) 9 (zI ((min (k + 1) 10 : Nat))))) (wd) (tp) (N) (rd) ((snS sn N k)) (w) ((mn N 110)) ((chg N w (mn N 110) : Int) - 1) (0) (1) (0) (hw) (hd)) (cwV 6 hts gX9_sick_X9_putDay rfl rfl rfl (by decide +kernel) ⟨Nat.le_of_ble_eq_true rfl, Nat.le_of_ble_eq_true rfl⟩) (g_preV hP hK (va_recv hK hP (q0 := 0) (ci := 9) rfl rfl)) rfl rfl hl.1 rfl (lv_room (Nat.le_of_ble_eq_true rfl)) dX9_sick_83 ⟨Nat.le_of_ble_eq_true rfl, Nat.le_of_ble_eq_true rfl⟩) hS (fun q _ h => h) (fun q h => h) (fun u9 t9 H1 locs ht9 hvm9 hw9 hB9 hz9 hk9 hS => ?_)
              rw [ht9] at hB9
              have hP := hB9
              clear hB9 hz9 hk9 hvm9 ht9
              generalize H1 = H at hP hS ⊢
              have hP : gP g (mW g a (upd (upd sc 0 (zI (0))) 9 (zI ((min (k + 1) 10 : Nat)))) wd tp (upd N (111 + 364 * w + (mn N 110)) (zI (((chg N w (mn N 110) : Int) - 1) + 1 + 128 * 0 + 16384 * 1 + 65536 * 0))) rd (snS sn N k)) H := hP
              refine lv_iconst (v := zI (1)) hx hb dX9_sick_86 (by decide) ?_
              have hc : sickC N (w : Int) f := ⟨⟨⟨hv0, hv1⟩, hgo⟩, by omega, by simp only [Int.toNat_natCast]; omega, by simp only [Int.toNat_natCast]; omega⟩
              have eN : upd N (111 + 364 * w + (mn N 110)) (zI (((chg N w (mn N 110) : Int) - 1) + 1 + 128 * 0 + 16384 * 1 + 65536 * 0)) = sickN N w f := by
                unfold sickN; exact congrArg _ (congrArg zI (by unfold pkD; omega))
              exact W.zret hx hb hr (by decide) (fun tX htX hWX => ⟨⟨_, (), rfl, bz_1 (hc), g_at htX ((act_yes hc eN hP))⟩, hS.F htX⟩) hS.2.2 dX9_sick_87
          · refine lv_iconst (v := zI (0)) hx hb dX9_sick_57 (by decide) ?_
            have hc : ¬ sickC N (w : Int) f := by
              intro q9
              have q1 := q9.2.2.1
              have q2 := q9.2.2.2
              simp only [Int.toNat_natCast] at q1 q2
              omega
            exact W.zret hx hb hr (by decide) (fun tX htX hWX => ⟨⟨_, (), rfl, bz_0 (hc), g_at htX ((act_no hc hk hP))⟩, hS.F htX⟩) hS.2.2 dX9_sick_58
      · refine lv_iconst (v := zI (0)) hx hb dX9_sick_40 (by decide) ?_
        refine lv_goto (tgt := 45) hx hb dX9_sick_41 (by decide) ?_
        refine z_icmp_ne (tgt := 57) hx hb dX9_sick_45 (by decide) (by omega) (by omega) (fun h45 => ?_) (fun h45 => ?_)
        · refine lv_iconst (v := zI (0)) hx hb dX9_sick_57 (by decide) ?_
          have hc : ¬ sickC N (w : Int) f := by
            intro q9
            have q1 := q9.2.2.1
            have q2 := q9.2.2.2
            simp only [Int.toNat_natCast] at q1 q2
            omega
          exact W.zret hx hb hr (by decide) (fun tX htX hWX => ⟨⟨_, (), rfl, bz_0 (hc), g_at htX ((act_no hc hk hP))⟩, hS.F htX⟩) hS.2.2 dX9_sick_58
        · refine lv_aload_n hx hb dX9_sick_48 rfl (lv_at hl 1 rfl) ?_
          refine lv_iload_n hx hb dX9_sick_49 rfl (lv_at hl 2 rfl) ?_
          refine lv_iload_n hx hb dX9_sick_50 rfl (lv_at hl 0 rfl) ?_
          refine vp_callSi (va_Run.run (va_runV (As := [.int (zI ((w : Int))), .int (zI (mn N 110))]) (rest := []) ⟨hx, hb, hml, hown, hts⟩ (c_X9_workedOf l g ((a 0)) ((a 2)) (N) (hN) (w) ((mn N 110)) (hw) (hd)) (cwV 2 hts gX9_sick_X9_workedOf rfl rfl rfl (by decide +kernel) ⟨Nat.le_of_ble_eq_true rfl, Nat.le_of_ble_eq_true rfl⟩) (g_preV (rdN_of hP) hK (va_recv hK hP (q0 := 0) (ci := 9) rfl rfl)) rfl rfl hl.1 rfl (lv_room (Nat.le_of_ble_eq_true rfl)) dX9_sick_51 ⟨Nat.le_of_ble_eq_true rfl, Nat.le_of_ble_eq_true rfl⟩)) (fun r hr9 => ?_)
          subst hr9
          refine z_if_le (tgt := 59) hx hb dX9_sick_54 (by decide) (by omega) (fun h54 => ?_) (fun h54 => ?_)
          · refine lv_aload_n hx hb dX9_sick_59 rfl (lv_at hl 1 rfl) ?_
            refine va_callv (va_runV (As := []) (rest := []) ⟨hx, hb, hml, hown, hts⟩ (c_X9_snap l g (a) (ha) ((upd sc 0 (zI (0)))) (wd) (tp) (N) (rd) (sn) (k) (hk) (hk10)) (cwV 0 hts gX9_sick_X9_snap rfl rfl rfl (by decide +kernel) ⟨Nat.le_of_ble_eq_true rfl, Nat.le_of_ble_eq_true rfl⟩) (g_preV hP hK (va_recv hK hP (q0 := 0) (ci := 9) rfl rfl)) rfl rfl hl.1 rfl (lv_room (Nat.le_of_ble_eq_true rfl)) dX9_sick_60 ⟨Nat.le_of_ble_eq_true rfl, Nat.le_of_ble_eq_true rfl⟩) hS (fun q _ h => h) (fun q h => h) (fun u9 t9 H1 locs ht9 hvm9 hw9 hB9 hz9 hk9 hS => ?_)
            rw [ht9] at hB9
            have hP := hB9
            clear hB9 hz9 hk9 hvm9 ht9
            generalize H1 = H at hP hS ⊢
            have hP : gP g (mW g a (upd (upd sc 0 (zI (0))) 9 (zI ((min (k + 1) 10 : Nat)))) wd tp N rd (snS sn N k)) H := hP
            refine lv_aload_n hx hb dX9_sick_63 rfl (lv_at hl 1 rfl) ?_
            refine lv_iload_n hx hb dX9_sick_64 rfl (lv_at hl 2 rfl) ?_
            refine lv_iload_n hx hb dX9_sick_65 rfl (lv_at hl 0 rfl) ?_
            refine lv_aload_n hx hb dX9_sick_66 rfl (lv_at hl 1 rfl) ?_
            refine lv_iload_n hx hb dX9_sick_67 rfl (lv_at hl 2 rfl) ?_
            refine lv_iload_n hx hb dX9_sick_68 rfl (lv_at hl 0 rfl) ?_
            refine vp_callSi (va_Run.run (va_runV (As := [.int (zI ((w : Int))), .int (zI (mn N 110))]) (rest := [.int (zI (mn N 110)), .int (zI ((w : Int))), .ref ((a 0))]) ⟨hx, hb, hml, hown, hts⟩ (c_X9_changedOf l g ((a 0)) ((a 2)) (N) (hN) (w) ((mn N 110)) (hw) (hd)) (cwV 2 hts gX9_sick_X9_changedOf rfl rfl rfl (by decide +kernel) ⟨Nat.le_of_ble_eq_true rfl, Nat.le_of_ble_eq_true rfl⟩) (g_preV (rdN_of hP) hK (va_recv hK hP (q0 := 0) (ci := 9) rfl rfl)) rfl rfl hl.1 rfl (lv_room (Nat.le_of_ble_eq_true rfl)) dX9_sick_69 ⟨Nat.le_of_ble_eq_true rfl, Nat.le_of_ble_eq_true rfl⟩)) (fun r hr9 => ?_)
            subst hr9
            refine lv_iconst (v := zI (0)) hx hb dX9_sick_72 (by decide) ?_
            refine lv_iload_n hx hb dX9_sick_73 rfl (lv_at hl 3 rfl) ?_
            refine z_if_eq (tgt := 81) hx hb dX9_sick_74 (by decide) (by omega) (fun h74 => ?_) (fun h74 => ?_)
            · refine lv_iconst (v := zI (0)) hx hb dX9_sick_81 (by decide) ?_
              refine lv_iconst (v := zI (0)) hx hb dX9_sick_82 (by decide) ?_
              refine va_callv (va_runV (As := [.int (zI ((w : Int))), .int (zI (mn N 110)), .int (zI ((chg N w (mn N 110) : Int) - 1)), .int (zI (0)), .int (zI (0)), .int (zI (0))]) (rest := []) ⟨hx, hb, hml, hown, hts⟩ (c_X9_putDay l g (a) (ha) ((upd (upd sc 0 (zI (0))) 9 (zI ((min (k + 1) 10 : Nat))))) (wd) (tp) (N) (rd) ((snS sn N k)) (w) ((mn N 110)) ((chg N w (mn N 110) : Int) - 1) (0) (0) (0) (hw) (hd)) (cwV 6 hts gX9_sick_X9_putDay rfl rfl rfl (by decide +kernel) ⟨Nat.le_of_ble_eq_true rfl, Nat.le_of_ble_eq_true rfl⟩) (g_preV hP hK (va_recv hK hP (q0 := 0) (ci := 9) rfl rfl)) rfl rfl hl.1 rfl (lv_room (Nat.le_of_ble_eq_true rfl)) dX9_sick_83 ⟨Nat.le_of_ble_eq_true rfl, Nat.le_of_ble_eq_true rfl⟩) hS (fun q _ h => h) (fun q h => h) (fun u9 t9 H1 locs ht9 hvm9 hw9 hB9 hz9 hk9 hS => ?_)
              rw [ht9] at hB9
              have hP := hB9
              clear hB9 hz9 hk9 hvm9 ht9
              generalize H1 = H at hP hS ⊢
              have hP : gP g (mW g a (upd (upd sc 0 (zI (0))) 9 (zI ((min (k + 1) 10 : Nat)))) wd tp (upd N (111 + 364 * w + (mn N 110)) (zI (((chg N w (mn N 110) : Int) - 1) + 1 + 128 * 0 + 16384 * 0 + 65536 * 0))) rd (snS sn N k)) H := hP
              refine lv_iconst (v := zI (1)) hx hb dX9_sick_86 (by decide) ?_
              have hc : sickC N (w : Int) f := ⟨⟨⟨hv0, hv1⟩, hgo⟩, by omega, by simp only [Int.toNat_natCast]; omega, by simp only [Int.toNat_natCast]; omega⟩
              have eN : upd N (111 + 364 * w + (mn N 110)) (zI (((chg N w (mn N 110) : Int) - 1) + 1 + 128 * 0 + 16384 * 0 + 65536 * 0)) = sickN N w f := by
                unfold sickN; exact congrArg _ (congrArg zI (by unfold pkD; omega))
              exact W.zret hx hb hr (by decide) (fun tX htX hWX => ⟨⟨_, (), rfl, bz_1 (hc), g_at htX ((act_yes hc eN hP))⟩, hS.F htX⟩) hS.2.2 dX9_sick_87
            · refine lv_iconst (v := zI (1)) hx hb dX9_sick_77 (by decide) ?_
              refine lv_goto (tgt := 82) hx hb dX9_sick_78 (by decide) ?_
              refine lv_iconst (v := zI (0)) hx hb dX9_sick_82 (by decide) ?_
              refine va_callv (va_runV (As := [.int (zI ((w : Int))), .int (zI (mn N 110)), .int (zI ((chg N w (mn N 110) : Int) - 1)), .int (zI (0)), .int (zI (1)), .int (zI (0))]) (rest := []) ⟨hx, hb, hml, hown, hts⟩ (c_X9_putDay l g (a) (ha) ((upd (upd sc 0 (zI (0))) 9 (zI ((min (k + 1) 10 : Nat))))) (wd) (tp) (N) (rd) ((snS sn N k)) (w) ((mn N 110)) ((chg N w (mn N 110) : Int) - 1) (0) (1) (0) (hw) (hd)) (cwV 6 hts gX9_sick_X9_putDay rfl rfl rfl (by decide +kernel) ⟨Nat.le_of_ble_eq_true rfl, Nat.le_of_ble_eq_true rfl⟩) (g_preV hP hK (va_recv hK hP (q0 := 0) (ci := 9) rfl rfl)) rfl rfl hl.1 rfl (lv_room (Nat.le_of_ble_eq_true rfl)) dX9_sick_83 ⟨Nat.le_of_ble_eq_true rfl, Nat.le_of_ble_eq_true rfl⟩) hS (fun q _ h => h) (fun q h => h) (fun u9 t9 H1 locs ht9 hvm9 hw9 hB9 hz9 hk9 hS => ?_)
              rw [ht9] at hB9
              have hP := hB9
              clear hB9 hz9 hk9 hvm9 ht9
              generalize H1 = H at hP hS ⊢
              have hP : gP g (mW g a (upd (upd sc 0 (zI (0))) 9 (zI ((min (k + 1) 10 : Nat)))) wd tp (upd N (111 + 364 * w + (mn N 110)) (zI (((chg N w (mn N 110) : Int) - 1) + 1 + 128 * 0 + 16384 * 1 + 65536 * 0))) rd (snS sn N k)) H := hP
              refine lv_iconst (v := zI (1)) hx hb dX9_sick_86 (by decide) ?_
              have hc : sickC N (w : Int) f := ⟨⟨⟨hv0, hv1⟩, hgo⟩, by omega, by simp only [Int.toNat_natCast]; omega, by simp only [Int.toNat_natCast]; omega⟩
              have eN : upd N (111 + 364 * w + (mn N 110)) (zI (((chg N w (mn N 110) : Int) - 1) + 1 + 128 * 0 + 16384 * 1 + 65536 * 0)) = sickN N w f := by
                unfold sickN; exact congrArg _ (congrArg zI (by unfold pkD; omega))
              exact W.zret hx hb hr (by decide) (fun tX htX hWX => ⟨⟨_, (), rfl, bz_1 (hc), g_at htX ((act_yes hc eN hP))⟩, hS.F htX⟩) hS.2.2 dX9_sick_87
          · refine lv_iconst (v := zI (0)) hx hb dX9_sick_57 (by decide) ?_
            have hc : ¬ sickC N (w : Int) f := by
              intro q9
              have q1 := q9.2.2.1
              have q2 := q9.2.2.2
              simp only [Int.toNat_natCast] at q1 q2
              omega
            exact W.zret hx hb hr (by decide) (fun tX htX hWX => ⟨⟨_, (), rfl, bz_0 (hc), g_at htX ((act_no hc hk hP))⟩, hS.F htX⟩) hS.2.2 dX9_sick_58
    · refine lv_iconst (v := zI (0)) hx hb dX9_sick_23 (by decide) ?_
      have hc : ¬ sickC N (w : Int) f := by first | (intro q9; exact h10 q9.1; done) | (intro q9; exact q9.2.1 (by omega); done)
      exact W.zret hx hb hr (by decide) (fun tX htX hWX => ⟨⟨_, (), rfl, bz_0 (hc), g_at htX ((act_no hc hk hP))⟩, hS.F htX⟩) hS.2.2 dX9_sick_24

set_option maxHeartbeats 4000000 in
set_option maxRecDepth 100000 in
theorem c_X9_book (l : Launch) (g : GG) (a : Nat → Nat) (ha : aD a) (sc : Nat → Int32) (wd : Int64) (tp N rd sn : Nat → Int32) (hN : okN N) (k : Nat) (hk : sc 9 = zI k) (hk10 : k ≤ 10) (v dd f : Int) (hv : R32 v) (hdd : R32 dd) (hf : f = 0 ∨ f = 1) : Met l yX9_book wsX9_book ({ frames := 5, cells := 0, slots := 0, locals := 114 }) (gPc g [.ref ((a 0)), .int (zI (v)), .int (zI (dd)), .int (zI (f))] (gP g (mW g a sc wd tp N rd sn))) (va_Qi (fun (r : Int32) (_ : Unit) => r = zI (bookR N v dd f)) (fun (_ : Unit) (tS : State) => gP g (mW g a (upd (upd sc 0 (zI (0))) 9 (zI ((actK (bookC1 N v dd f ∧ ¬ bookC2 N v dd f) k : Nat)))) wd tp (actN (bookC1 N v dd f ∧ ¬ bookC2 N v dd f) N (bookN N v.toNat dd.toNat f)) rd (actS (bookC1 N v dd f ∧ ¬ bookC2 N v dd f) sn N k)) tS.heap) (mA a)) 0 0 (mA a) := by
  refine Met.ofW (cc := cX9_book) (maxL := 4) (ret := (some .int)) (by decide) rfl ?_
  intro p e s m args below meth c s₁ B hml hv
  obtain ⟨rfl, hP, hK⟩ := hv
  have hx := B.exec
  have hb := B.bytes
  have hr := B.returns
  have hts := atoms_spec (ws := wsX9_book) B.pre
  have hown : s.vm.findClass RX9 = some m.cls := findClass_of_methodNamed B.named
  have hlocks := B.notSynchronized
  have hinX9 : ∀ w ∈ wsX90, w ∈ wsX9_book := by decide +kernel
  have k1 := hts (.fieldLink RX9 1 "HoursBankModel" "thrown" "I") (by decide +kernel)
  have hl := lv_entry ([.ref ((a 0)), .int (zI (v)), .int (zI (dd)), .int (zI (f))]) (n := 4) (Nat.le_of_ble_eq_true rfl)
  rw [lg_entry_eq]
  generalize (lg_sl ([.ref ((a 0)), .int (zI (v)), .int (zI (dd)), .int (zI (f))]) ++ List.replicate (4 - (lg_sl ([.ref ((a 0)), .int (zI (v)), .int (zI (dd)), .int (zI (f))])).length) Slot.unset).toArray = ls at hl ⊢
  have hl : lv_has ls 4 [(0, .ref ((a 0))), (1, .int (zI (v))), (2, .int (zI (dd))), (3, .int (zI (f)))] := hl
  have hS : va_S (mA a) s.heap s.heap [] := va_S.rf
  obtain ⟨H, hH9⟩ : ∃ H, H = s.heap := ⟨_, rfl⟩
  obtain ⟨locs, hL9⟩ : ∃ x : List Loc, x = [] := ⟨_, rfl⟩
  have hP : gP g (mW g a sc wd tp N rd sn) H := hH9 ▸ hP
  have hS : va_S (mA a) s.heap H locs := by rw [hH9, hL9]; exact hS
  refine z_start hH9 hL9 ?_
  clear hH9 hL9
  refine lv_aload_n hx hb dX9_book_0 rfl (lv_at hl 0 rfl) ?_
  refine lv_iconst (v := zI (0)) hx hb dX9_book_1 (by decide) ?_
  refine va_put (D := g.1) (ci := 9) (v := .int (zI (0))) (ty := .int) (C := RX9) (T := TX9) (N := 15) hx hb hts hinX9 tyX9 tyX9_ok nmX9 hown hK hP (mD ha) hS 0 rfl rfl 0 (by decide) k1 (fun _ h9 => h9) rfl (by decide +kernel) rfl rfl (Nat.le_of_ble_eq_true rfl) dX9_book_2 (fun H locs hP _ hS => ?_)
  have hP : gP g (mW g a (upd sc 0 (zI (0))) wd tp N rd sn) H := hP
  refine lv_aload_n hx hb dX9_book_5 rfl (lv_at hl 0 rfl) ?_
  refine lv_iload_n hx hb dX9_book_6 rfl (lv_at hl 1 rfl) ?_
  refine vp_callSi (va_Run.run (va_runV (As := [.int (zI (v))]) (rest := []) ⟨hx, hb, hml, hown, hts⟩ (c_X9_isHere l g ((a 0)) ((a 2)) (N) (hN) (v) (hv)) (cwV 1 hts gX9_book_X9_isHere rfl rfl rfl (by decide +kernel) ⟨Nat.le_of_ble_eq_true rfl, Nat.le_of_ble_eq_true rfl⟩) (g_preV (rdN_of hP) hK (va_recv hK hP (q0 := 0) (ci := 9) rfl rfl)) rfl rfl hl.1 rfl (lv_room (Nat.le_of_ble_eq_true rfl)) dX9_book_7 ⟨Nat.le_of_ble_eq_true rfl, Nat.le_of_ble_eq_true rfl⟩)) (fun r hr9 => ?_)
  subst hr9
  refine z_bz_eq (tgt := 54) hx hb dX9_book_10 (by decide) (fun h10 => ?_) (fun h10 => ?_)
  · refine lv_iconst (v := zI (-1)) hx hb dX9_book_54 (by decide) ?_
    have hc : ¬ bookC1 N v dd f := by
      first
      | (intro q9; exact h10 q9.1; done)
      | (intro q9; exact h24 q9.2.1; done)
      | (intro q9
         have q1 := q9.2.2.1
         have q2 := q9.2.2.2
         simp only [Int.toNat_natCast] at q1 q2
         omega)
    exact W.iret hx hb hr (fun tX htX hWX => ⟨⟨_, (), rfl, congrArg zI (by unfold bookR; rw [if_neg hc]), g_at htX ((act_no (fun q9 => hc q9.1) hk hP))⟩, hS.F htX⟩) hS.2.2 dX9_book_55
  · have hq0 := hN.nw.le
    have hq1 := hN.td.le
    obtain ⟨⟨hv0, hv1⟩, hgo⟩ := h10
    obtain ⟨w, rfl⟩ := Int.eq_ofNat_of_zero_le hv0
    have hw : w < 4 := by omega
    refine lv_iload_n hx hb dX9_book_13 rfl (lv_at hl 2 rfl) ?_
    refine lv_aload_n hx hb dX9_book_14 rfl (lv_at hl 0 rfl) ?_
    refine vp_callSi (va_Run.run (va_runV (As := []) (rest := [.int (zI (dd))]) ⟨hx, hb, hml, hown, hts⟩ (c_X9_today l g ((a 0)) ((a 2)) (N) (hN)) (cwV 0 hts gX9_book_X9_today rfl rfl rfl (by decide +kernel) ⟨Nat.le_of_ble_eq_true rfl, Nat.le_of_ble_eq_true rfl⟩) (g_preV (rdN_of hP) hK (va_recv hK hP (q0 := 0) (ci := 9) rfl rfl)) rfl rfl hl.1 rfl (lv_room (Nat.le_of_ble_eq_true rfl)) dX9_book_15 ⟨Nat.le_of_ble_eq_true rfl, Nat.le_of_ble_eq_true rfl⟩)) (fun r hr9 => ?_)
    subst hr9
    refine lv_sipush (v := zI (363)) hx hb dX9_book_18 (by decide) ?_
    refine vp_callSi (va_Run.run (va_runS (As := [.int (zI (dd)), .int (zI (mn N 110)), .int (zI (363))]) (rest := []) ⟨hx, hb, hml, hown, hts⟩ (c_X9_isIn l (dd) (mn N 110) (363) (hdd) (by omega) (by omega)) (va_cwS 3 hts gX9_book_X9_isIn rfl rfl rfl (by decide +kernel) ⟨Nat.le_of_ble_eq_true rfl, Nat.le_of_ble_eq_true rfl⟩) g_preS0 rfl rfl hl.1 rfl (lv_room (Nat.le_of_ble_eq_true rfl)) dX9_book_21 ⟨Nat.le_of_ble_eq_true rfl, Nat.le_of_ble_eq_true rfl⟩)) (fun r hr9 => ?_)
    subst hr9
    refine z_bz_eq (tgt := 54) hx hb dX9_book_24 (by decide) (fun h24 => ?_) (fun h24 => ?_)
    · refine lv_iconst (v := zI (-1)) hx hb dX9_book_54 (by decide) ?_
      have hc : ¬ bookC1 N (w : Int) dd f := by
        first
        | (intro q9; exact h10 q9.1; done)
        | (intro q9; exact h24 q9.2.1; done)
        | (intro q9
           have q1 := q9.2.2.1
           have q2 := q9.2.2.2
           simp only [Int.toNat_natCast] at q1 q2
           omega)
      exact W.iret hx hb hr (fun tX htX hWX => ⟨⟨_, (), rfl, congrArg zI (by unfold bookR; rw [if_neg hc]), g_at htX ((act_no (fun q9 => hc q9.1) hk hP))⟩, hS.F htX⟩) hS.2.2 dX9_book_55
    · obtain ⟨d, rfl⟩ := Int.eq_ofNat_of_zero_le (show 0 ≤ dd by omega)
      have hd : d < 364 := by omega
      have hkk := hN.knd hw hd
      have hkw := hN.wkd hw hd
      have hpl := plan_le hN hw hd
      refine lv_aload_n hx hb dX9_book_27 rfl (lv_at hl 0 rfl) ?_
      refine lv_iload_n hx hb dX9_book_28 rfl (lv_at hl 1 rfl) ?_
      refine lv_iload_n hx hb dX9_book_29 rfl (lv_at hl 2 rfl) ?_
      refine vp_callSi (va_Run.run (va_runV (As := [.int (zI ((w : Int))), .int (zI ((d : Int)))]) (rest := []) ⟨hx, hb, hml, hown, hts⟩ (c_X9_kindOf l g ((a 0)) ((a 2)) (N) (hN) (w) (d) (hw) (hd)) (cwV 2 hts gX9_book_X9_kindOf rfl rfl rfl (by decide +kernel) ⟨Nat.le_of_ble_eq_true rfl, Nat.le_of_ble_eq_true rfl⟩) (g_preV (rdN_of hP) hK (va_recv hK hP (q0 := 0) (ci := 9) rfl rfl)) rfl rfl hl.1 rfl (lv_room (Nat.le_of_ble_eq_true rfl)) dX9_book_30 ⟨Nat.le_of_ble_eq_true rfl, Nat.le_of_ble_eq_true rfl⟩)) (fun r hr9 => ?_)
      subst hr9
      refine lv_iload_n hx hb dX9_book_33 rfl (lv_at hl 3 rfl) ?_
      refine z_if_eq (tgt := 41) hx hb dX9_book_34 (by decide) (by omega) (fun h34 => ?_) (fun h34 => ?_)
      · refine lv_iconst (v := zI (2)) hx hb dX9_book_41 (by decide) ?_
        refine z_icmp_ne (tgt := 54) hx hb dX9_book_42 (by decide) (by omega) (by omega) (fun h42 => ?_) (fun h42 => ?_)
        · refine lv_iconst (v := zI (-1)) hx hb dX9_book_54 (by decide) ?_
          have hc : ¬ bookC1 N (w : Int) (d : Int) f := by
            first
            | (intro q9; exact h10 q9.1; done)
            | (intro q9; exact h24 q9.2.1; done)
            | (intro q9
               have q1 := q9.2.2.1
               have q2 := q9.2.2.2
               simp only [Int.toNat_natCast] at q1 q2
               omega)
          exact W.iret hx hb hr (fun tX htX hWX => ⟨⟨_, (), rfl, congrArg zI (by unfold bookR; rw [if_neg hc]), g_at htX ((act_no (fun q9 => hc q9.1) hk hP))⟩, hS.F htX⟩) hS.2.2 dX9_book_55
        · refine lv_aload_n hx hb dX9_book_45 rfl (lv_at hl 0 rfl) ?_
          refine lv_iload_n hx hb dX9_book_46 rfl (lv_at hl 1 rfl) ?_
          refine lv_iload_n hx hb dX9_book_47 rfl (lv_at hl 2 rfl) ?_
          refine vp_callSi (va_Run.run (va_runV (As := [.int (zI ((w : Int))), .int (zI ((d : Int)))]) (rest := []) ⟨hx, hb, hml, hown, hts⟩ (c_X9_workedOf l g ((a 0)) ((a 2)) (N) (hN) (w) (d) (hw) (hd)) (cwV 2 hts gX9_book_X9_workedOf rfl rfl rfl (by decide +kernel) ⟨Nat.le_of_ble_eq_true rfl, Nat.le_of_ble_eq_true rfl⟩) (g_preV (rdN_of hP) hK (va_recv hK hP (q0 := 0) (ci := 9) rfl rfl)) rfl rfl hl.1 rfl (lv_room (Nat.le_of_ble_eq_true rfl)) dX9_book_48 ⟨Nat.le_of_ble_eq_true rfl, Nat.le_of_ble_eq_true rfl⟩)) (fun r hr9 => ?_)
          subst hr9
          refine z_if_le (tgt := 56) hx hb dX9_book_51 (by decide) (by omega) (fun h51 => ?_) (fun h51 => ?_)
          · refine lv_iload_n hx hb dX9_book_56 rfl (lv_at hl 3 rfl) ?_
            have hc1 : bookC1 N (w : Int) (d : Int) f := ⟨⟨⟨hv0, hv1⟩, hgo⟩, h24, by simp only [Int.toNat_natCast]; omega, by simp only [Int.toNat_natCast]; omega⟩
            refine z_if_eq (tgt := 77) hx hb dX9_book_57 (by decide) (by omega) (fun h57 => ?_) (fun h57 => ?_)
            · refine lv_aload_n hx hb dX9_book_77 rfl (lv_at hl 0 rfl) ?_
              refine va_callv (va_runV (As := []) (rest := []) ⟨hx, hb, hml, hown, hts⟩ (c_X9_snap l g (a) (ha) ((upd sc 0 (zI (0)))) (wd) (tp) (N) (rd) (sn) (k) (hk) (hk10)) (cwV 0 hts gX9_book_X9_snap rfl rfl rfl (by decide +kernel) ⟨Nat.le_of_ble_eq_true rfl, Nat.le_of_ble_eq_true rfl⟩) (g_preV hP hK (va_recv hK hP (q0 := 0) (ci := 9) rfl rfl)) rfl rfl hl.1 rfl (lv_room (Nat.le_of_ble_eq_true rfl)) dX9_book_78 ⟨Nat.le_of_ble_eq_true rfl, Nat.le_of_ble_eq_true rfl⟩) hS (fun q _ h => h) (fun q h => h) (fun u9 t9 H1 locs ht9 hvm9 hw9 hB9 hz9 hk9 hS => ?_)
              rw [ht9] at hB9
              have hP := hB9
              clear hB9 hz9 hk9 hvm9 ht9
              generalize H1 = H at hP hS ⊢
              have hP : gP g (mW g a (upd (upd sc 0 (zI (0))) 9 (zI ((min (k + 1) 10 : Nat)))) wd tp N rd (snS sn N k)) H := hP
              refine lv_aload_n hx hb dX9_book_81 rfl (lv_at hl 0 rfl) ?_
              refine lv_iload_n hx hb dX9_book_82 rfl (lv_at hl 1 rfl) ?_
              refine lv_iload_n hx hb dX9_book_83 rfl (lv_at hl 2 rfl) ?_
              refine lv_aload_n hx hb dX9_book_84 rfl (lv_at hl 0 rfl) ?_
              refine lv_iload_n hx hb dX9_book_85 rfl (lv_at hl 1 rfl) ?_
              refine lv_iload_n hx hb dX9_book_86 rfl (lv_at hl 2 rfl) ?_
              refine vp_callSi (va_Run.run (va_runV (As := [.int (zI ((w : Int))), .int (zI ((d : Int)))]) (rest := [.int (zI ((d : Int))), .int (zI ((w : Int))), .ref ((a 0))]) ⟨hx, hb, hml, hown, hts⟩ (c_X9_changedOf l g ((a 0)) ((a 2)) (N) (hN) (w) (d) (hw) (hd)) (cwV 2 hts gX9_book_X9_changedOf rfl rfl rfl (by decide +kernel) ⟨Nat.le_of_ble_eq_true rfl, Nat.le_of_ble_eq_true rfl⟩) (g_preV (rdN_of hP) hK (va_recv hK hP (q0 := 0) (ci := 9) rfl rfl)) rfl rfl hl.1 rfl (lv_room (Nat.le_of_ble_eq_true rfl)) dX9_book_87 ⟨Nat.le_of_ble_eq_true rfl, Nat.le_of_ble_eq_true rfl⟩)) (fun r hr9 => ?_)
              subst hr9
              refine lv_iconst (v := zI (0)) hx hb dX9_book_90 (by decide) ?_
              refine lv_iload_n hx hb dX9_book_91 rfl (lv_at hl 3 rfl) ?_
              refine z_if_eq (tgt := 99) hx hb dX9_book_92 (by decide) (by omega) (fun h92 => ?_) (fun h92 => ?_)
              · refine lv_iconst (v := zI (0)) hx hb dX9_book_99 (by decide) ?_
                refine lv_iconst (v := zI (0)) hx hb dX9_book_100 (by decide) ?_
                refine va_callv (va_runV (As := [.int (zI ((w : Int))), .int (zI ((d : Int))), .int (zI ((chg N w d : Int) - 1)), .int (zI (0)), .int (zI (0)), .int (zI (0))]) (rest := []) ⟨hx, hb, hml, hown, hts⟩ (c_X9_putDay l g (a) (ha) ((upd (upd sc 0 (zI (0))) 9 (zI ((min (k + 1) 10 : Nat))))) (wd) (tp) (N) (rd) ((snS sn N k)) (w) (d) ((chg N w d : Int) - 1) (0) (0) (0) (hw) (hd)) (cwV 6 hts gX9_book_X9_putDay rfl rfl rfl (by decide +kernel) ⟨Nat.le_of_ble_eq_true rfl, Nat.le_of_ble_eq_true rfl⟩) (g_preV hP hK (va_recv hK hP (q0 := 0) (ci := 9) rfl rfl)) rfl rfl hl.1 rfl (lv_room (Nat.le_of_ble_eq_true rfl)) dX9_book_101 ⟨Nat.le_of_ble_eq_true rfl, Nat.le_of_ble_eq_true rfl⟩) hS (fun q _ h => h) (fun q h => h) (fun u9 t9 H1 locs ht9 hvm9 hw9 hB9 hz9 hk9 hS => ?_)
                rw [ht9] at hB9
                have hP := hB9
                clear hB9 hz9 hk9 hvm9 ht9
                generalize H1 = H at hP hS ⊢
                have hP : gP g (mW g a (upd (upd sc 0 (zI (0))) 9 (zI ((min (k + 1) 10 : Nat)))) wd tp (upd N (111 + 364 * w + d) (zI (((chg N w d : Int) - 1) + 1 + 128 * 0 + 16384 * 0 + 65536 * 0))) rd (snS sn N k)) H := hP
                have hc2 : ¬ bookC2 N (w : Int) (d : Int) f := by
                  intro q9
                  have q1 := q9.1
                  have q2 := q9.2
                  simp only [Int.toNat_natCast] at q2
                  omega
                refine lv_aload_n hx hb dX9_book_104 rfl (lv_at hl 0 rfl) ?_
                refine lv_iload_n hx hb dX9_book_105 rfl (lv_at hl 1 rfl) ?_
                have eN : upd N (111 + 364 * w + d) (zI (((chg N w d : Int) - 1) + 1 + 128 * 0 + 16384 * 0 + 65536 * 0)) = bookN N w d f := by
                  unfold bookN; exact congrArg _ (congrArg zI (by unfold pkD; omega))
                rw [eN] at hP
                have hN2 : okN (bookN N w d f) := okN_day hN hw hd (hN.chg hw hd) (by omega) (by omega) (by omega)
                refine vp_callSi (va_Run.run (va_runV (As := [.int (zI ((w : Int)))]) (rest := []) ⟨hx, hb, hml, hown, hts⟩ (c_X9_leftOf l g ((a 0)) ((a 2)) (bookN N w d f) (hN2) (w) (hw)) (cwV 1 hts gX9_book_X9_leftOf rfl rfl rfl (by decide +kernel) ⟨Nat.le_of_ble_eq_true rfl, Nat.le_of_ble_eq_true rfl⟩) (g_preV (rdN_of hP) hK (va_recv hK hP (q0 := 0) (ci := 9) rfl rfl)) rfl rfl hl.1 rfl (lv_room (Nat.le_of_ble_eq_true rfl)) dX9_book_106 ⟨Nat.le_of_ble_eq_true rfl, Nat.le_of_ble_eq_true rfl⟩)) (fun r hr9 => ?_)
                subst hr9
                exact W.iret hx hb hr (fun tX htX hWX => ⟨⟨_, (), rfl, congrArg zI (by unfold bookR; rw [if_pos hc1, if_neg hc2]; rfl), g_at htX ((act_yes ⟨hc1, hc2⟩ rfl hP))⟩, hS.F htX⟩) hS.2.2 dX9_book_109
              · refine lv_iconst (v := zI (2)) hx hb dX9_book_95 (by decide) ?_
                refine lv_goto (tgt := 100) hx hb dX9_book_96 (by decide) ?_
                refine lv_iconst (v := zI (0)) hx hb dX9_book_100 (by decide) ?_
                refine va_callv (va_runV (As := [.int (zI ((w : Int))), .int (zI ((d : Int))), .int (zI ((chg N w d : Int) - 1)), .int (zI (0)), .int (zI (2)), .int (zI (0))]) (rest := []) ⟨hx, hb, hml, hown, hts⟩ (c_X9_putDay l g (a) (ha) ((upd (upd sc 0 (zI (0))) 9 (zI ((min (k + 1) 10 : Nat))))) (wd) (tp) (N) (rd) ((snS sn N k)) (w) (d) ((chg N w d : Int) - 1) (0) (2) (0) (hw) (hd)) (cwV 6 hts gX9_book_X9_putDay rfl rfl rfl (by decide +kernel) ⟨Nat.le_of_ble_eq_true rfl, Nat.le_of_ble_eq_true rfl⟩) (g_preV hP hK (va_recv hK hP (q0 := 0) (ci := 9) rfl rfl)) rfl rfl hl.1 rfl (lv_room (Nat.le_of_ble_eq_true rfl)) dX9_book_101 ⟨Nat.le_of_ble_eq_true rfl, Nat.le_of_ble_eq_true rfl⟩) hS (fun q _ h => h) (fun q h => h) (fun u9 t9 H1 locs ht9 hvm9 hw9 hB9 hz9 hk9 hS => ?_)
                rw [ht9] at hB9
                have hP := hB9
                clear hB9 hz9 hk9 hvm9 ht9
                generalize H1 = H at hP hS ⊢
                have hP : gP g (mW g a (upd (upd sc 0 (zI (0))) 9 (zI ((min (k + 1) 10 : Nat)))) wd tp (upd N (111 + 364 * w + d) (zI (((chg N w d : Int) - 1) + 1 + 128 * 0 + 16384 * 2 + 65536 * 0))) rd (snS sn N k)) H := hP
                have hc2 : ¬ bookC2 N (w : Int) (d : Int) f := by
                  intro q9
                  have q1 := q9.1
                  have q2 := q9.2
                  simp only [Int.toNat_natCast] at q2
                  omega
                refine lv_aload_n hx hb dX9_book_104 rfl (lv_at hl 0 rfl) ?_
                refine lv_iload_n hx hb dX9_book_105 rfl (lv_at hl 1 rfl) ?_
                have eN : upd N (111 + 364 * w + d) (zI (((chg N w d : Int) - 1) + 1 + 128 * 0 + 16384 * 2 + 65536 * 0)) = bookN N w d f := by
                  unfold bookN; exact congrArg _ (congrArg zI (by unfold pkD; omega))
                rw [eN] at hP
                have hN2 : okN (bookN N w d f) := okN_day hN hw hd (hN.chg hw hd) (by omega) (by omega) (by omega)
                refine vp_callSi (va_Run.run (va_runV (As := [.int (zI ((w : Int)))]) (rest := []) ⟨hx, hb, hml, hown, hts⟩ (c_X9_leftOf l g ((a 0)) ((a 2)) (bookN N w d f) (hN2) (w) (hw)) (cwV 1 hts gX9_book_X9_leftOf rfl rfl rfl (by decide +kernel) ⟨Nat.le_of_ble_eq_true rfl, Nat.le_of_ble_eq_true rfl⟩) (g_preV (rdN_of hP) hK (va_recv hK hP (q0 := 0) (ci := 9) rfl rfl)) rfl rfl hl.1 rfl (lv_room (Nat.le_of_ble_eq_true rfl)) dX9_book_106 ⟨Nat.le_of_ble_eq_true rfl, Nat.le_of_ble_eq_true rfl⟩)) (fun r hr9 => ?_)
                subst hr9
                exact W.iret hx hb hr (fun tX htX hWX => ⟨⟨_, (), rfl, congrArg zI (by unfold bookR; rw [if_pos hc1, if_neg hc2]; rfl), g_at htX ((act_yes ⟨hc1, hc2⟩ rfl hP))⟩, hS.F htX⟩) hS.2.2 dX9_book_109
            · refine lv_aload_n hx hb dX9_book_60 rfl (lv_at hl 0 rfl) ?_
              refine lv_iload_n hx hb dX9_book_61 rfl (lv_at hl 1 rfl) ?_
              refine vp_callSi (va_Run.run (va_runV (As := [.int (zI ((w : Int)))]) (rest := []) ⟨hx, hb, hml, hown, hts⟩ (c_X9_leftOf l g ((a 0)) ((a 2)) (N) (hN) (w) (hw)) (cwV 1 hts gX9_book_X9_leftOf rfl rfl rfl (by decide +kernel) ⟨Nat.le_of_ble_eq_true rfl, Nat.le_of_ble_eq_true rfl⟩) (g_preV (rdN_of hP) hK (va_recv hK hP (q0 := 0) (ci := 9) rfl rfl)) rfl rfl hl.1 rfl (lv_room (Nat.le_of_ble_eq_true rfl)) dX9_book_62 ⟨Nat.le_of_ble_eq_true rfl, Nat.le_of_ble_eq_true rfl⟩)) (fun r hr9 => ?_)
              subst hr9
              refine lv_aload_n hx hb dX9_book_65 rfl (lv_at hl 0 rfl) ?_
              refine lv_iload_n hx hb dX9_book_66 rfl (lv_at hl 1 rfl) ?_
              refine lv_iload_n hx hb dX9_book_67 rfl (lv_at hl 2 rfl) ?_
              refine vp_callSi (va_Run.run (va_runV (As := [.int (zI ((w : Int))), .int (zI ((d : Int)))]) (rest := [.int (zI (lft N w))]) ⟨hx, hb, hml, hown, hts⟩ (c_X9_plannedOf l g ((a 0)) ((a 2)) (N) (hN) (w) (d) (hw) (hd)) (cwV 2 hts gX9_book_X9_plannedOf rfl rfl rfl (by decide +kernel) ⟨Nat.le_of_ble_eq_true rfl, Nat.le_of_ble_eq_true rfl⟩) (g_preV (rdN_of hP) hK (va_recv hK hP (q0 := 0) (ci := 9) rfl rfl)) rfl rfl hl.1 rfl (lv_room (Nat.le_of_ble_eq_true rfl)) dX9_book_68 ⟨Nat.le_of_ble_eq_true rfl, Nat.le_of_ble_eq_true rfl⟩)) (fun r hr9 => ?_)
              subst hr9
              have hlf := lft_rng hN hw
              refine z_icmp_ge (tgt := 77) hx hb dX9_book_71 (by decide) (by omega) (by omega) (fun h71 => ?_) (fun h71 => ?_)
              · refine lv_aload_n hx hb dX9_book_77 rfl (lv_at hl 0 rfl) ?_
                refine va_callv (va_runV (As := []) (rest := []) ⟨hx, hb, hml, hown, hts⟩ (c_X9_snap l g (a) (ha) ((upd sc 0 (zI (0)))) (wd) (tp) (N) (rd) (sn) (k) (hk) (hk10)) (cwV 0 hts gX9_book_X9_snap rfl rfl rfl (by decide +kernel) ⟨Nat.le_of_ble_eq_true rfl, Nat.le_of_ble_eq_true rfl⟩) (g_preV hP hK (va_recv hK hP (q0 := 0) (ci := 9) rfl rfl)) rfl rfl hl.1 rfl (lv_room (Nat.le_of_ble_eq_true rfl)) dX9_book_78 ⟨Nat.le_of_ble_eq_true rfl, Nat.le_of_ble_eq_true rfl⟩) hS (fun q _ h => h) (fun q h => h) (fun u9 t9 H1 locs ht9 hvm9 hw9 hB9 hz9 hk9 hS => ?_)
                rw [ht9] at hB9
                have hP := hB9
                clear hB9 hz9 hk9 hvm9 ht9
                generalize H1 = H at hP hS ⊢
                have hP : gP g (mW g a (upd (upd sc 0 (zI (0))) 9 (zI ((min (k + 1) 10 : Nat)))) wd tp N rd (snS sn N k)) H := hP
                refine lv_aload_n hx hb dX9_book_81 rfl (lv_at hl 0 rfl) ?_
                refine lv_iload_n hx hb dX9_book_82 rfl (lv_at hl 1 rfl) ?_
                refine lv_iload_n hx hb dX9_book_83 rfl (lv_at hl 2 rfl) ?_
                refine lv_aload_n hx hb dX9_book_84 rfl (lv_at hl 0 rfl) ?_
                refine lv_iload_n hx hb dX9_book_85 rfl (lv_at hl 1 rfl) ?_
                refine lv_iload_n hx hb dX9_book_86 rfl (lv_at hl 2 rfl) ?_
                refine vp_callSi (va_Run.run (va_runV (As := [.int (zI ((w : Int))), .int (zI ((d : Int)))]) (rest := [.int (zI ((d : Int))), .int (zI ((w : Int))), .ref ((a 0))]) ⟨hx, hb, hml, hown, hts⟩ (c_X9_changedOf l g ((a 0)) ((a 2)) (N) (hN) (w) (d) (hw) (hd)) (cwV 2 hts gX9_book_X9_changedOf rfl rfl rfl (by decide +kernel) ⟨Nat.le_of_ble_eq_true rfl, Nat.le_of_ble_eq_true rfl⟩) (g_preV (rdN_of hP) hK (va_recv hK hP (q0 := 0) (ci := 9) rfl rfl)) rfl rfl hl.1 rfl (lv_room (Nat.le_of_ble_eq_true rfl)) dX9_book_87 ⟨Nat.le_of_ble_eq_true rfl, Nat.le_of_ble_eq_true rfl⟩)) (fun r hr9 => ?_)
                subst hr9
                refine lv_iconst (v := zI (0)) hx hb dX9_book_90 (by decide) ?_
                refine lv_iload_n hx hb dX9_book_91 rfl (lv_at hl 3 rfl) ?_
                refine z_if_eq (tgt := 99) hx hb dX9_book_92 (by decide) (by omega) (fun h92 => ?_) (fun h92 => ?_)
                · refine lv_iconst (v := zI (0)) hx hb dX9_book_99 (by decide) ?_
                  refine lv_iconst (v := zI (0)) hx hb dX9_book_100 (by decide) ?_
                  refine va_callv (va_runV (As := [.int (zI ((w : Int))), .int (zI ((d : Int))), .int (zI ((chg N w d : Int) - 1)), .int (zI (0)), .int (zI (0)), .int (zI (0))]) (rest := []) ⟨hx, hb, hml, hown, hts⟩ (c_X9_putDay l g (a) (ha) ((upd (upd sc 0 (zI (0))) 9 (zI ((min (k + 1) 10 : Nat))))) (wd) (tp) (N) (rd) ((snS sn N k)) (w) (d) ((chg N w d : Int) - 1) (0) (0) (0) (hw) (hd)) (cwV 6 hts gX9_book_X9_putDay rfl rfl rfl (by decide +kernel) ⟨Nat.le_of_ble_eq_true rfl, Nat.le_of_ble_eq_true rfl⟩) (g_preV hP hK (va_recv hK hP (q0 := 0) (ci := 9) rfl rfl)) rfl rfl hl.1 rfl (lv_room (Nat.le_of_ble_eq_true rfl)) dX9_book_101 ⟨Nat.le_of_ble_eq_true rfl, Nat.le_of_ble_eq_true rfl⟩) hS (fun q _ h => h) (fun q h => h) (fun u9 t9 H1 locs ht9 hvm9 hw9 hB9 hz9 hk9 hS => ?_)
                  rw [ht9] at hB9
                  have hP := hB9
                  clear hB9 hz9 hk9 hvm9 ht9
                  generalize H1 = H at hP hS ⊢
                  have hP : gP g (mW g a (upd (upd sc 0 (zI (0))) 9 (zI ((min (k + 1) 10 : Nat)))) wd tp (upd N (111 + 364 * w + d) (zI (((chg N w d : Int) - 1) + 1 + 128 * 0 + 16384 * 0 + 65536 * 0))) rd (snS sn N k)) H := hP
                  have hc2 : ¬ bookC2 N (w : Int) (d : Int) f := by
                    intro q9
                    have q1 := q9.1
                    have q2 := q9.2
                    simp only [Int.toNat_natCast] at q2
                    omega
                  refine lv_aload_n hx hb dX9_book_104 rfl (lv_at hl 0 rfl) ?_
                  refine lv_iload_n hx hb dX9_book_105 rfl (lv_at hl 1 rfl) ?_
                  have eN : upd N (111 + 364 * w + d) (zI (((chg N w d : Int) - 1) + 1 + 128 * 0 + 16384 * 0 + 65536 * 0)) = bookN N w d f := by
                    unfold bookN; exact congrArg _ (congrArg zI (by unfold pkD; omega))
                  rw [eN] at hP
                  have hN2 : okN (bookN N w d f) := okN_day hN hw hd (hN.chg hw hd) (by omega) (by omega) (by omega)
                  refine vp_callSi (va_Run.run (va_runV (As := [.int (zI ((w : Int)))]) (rest := []) ⟨hx, hb, hml, hown, hts⟩ (c_X9_leftOf l g ((a 0)) ((a 2)) (bookN N w d f) (hN2) (w) (hw)) (cwV 1 hts gX9_book_X9_leftOf rfl rfl rfl (by decide +kernel) ⟨Nat.le_of_ble_eq_true rfl, Nat.le_of_ble_eq_true rfl⟩) (g_preV (rdN_of hP) hK (va_recv hK hP (q0 := 0) (ci := 9) rfl rfl)) rfl rfl hl.1 rfl (lv_room (Nat.le_of_ble_eq_true rfl)) dX9_book_106 ⟨Nat.le_of_ble_eq_true rfl, Nat.le_of_ble_eq_true rfl⟩)) (fun r hr9 => ?_)
                  subst hr9
                  exact W.iret hx hb hr (fun tX htX hWX => ⟨⟨_, (), rfl, congrArg zI (by unfold bookR; rw [if_pos hc1, if_neg hc2]; rfl), g_at htX ((act_yes ⟨hc1, hc2⟩ rfl hP))⟩, hS.F htX⟩) hS.2.2 dX9_book_109
                · refine lv_iconst (v := zI (2)) hx hb dX9_book_95 (by decide) ?_
                  refine lv_goto (tgt := 100) hx hb dX9_book_96 (by decide) ?_
                  refine lv_iconst (v := zI (0)) hx hb dX9_book_100 (by decide) ?_
                  refine va_callv (va_runV (As := [.int (zI ((w : Int))), .int (zI ((d : Int))), .int (zI ((chg N w d : Int) - 1)), .int (zI (0)), .int (zI (2)), .int (zI (0))]) (rest := []) ⟨hx, hb, hml, hown, hts⟩ (c_X9_putDay l g (a) (ha) ((upd (upd sc 0 (zI (0))) 9 (zI ((min (k + 1) 10 : Nat))))) (wd) (tp) (N) (rd) ((snS sn N k)) (w) (d) ((chg N w d : Int) - 1) (0) (2) (0) (hw) (hd)) (cwV 6 hts gX9_book_X9_putDay rfl rfl rfl (by decide +kernel) ⟨Nat.le_of_ble_eq_true rfl, Nat.le_of_ble_eq_true rfl⟩) (g_preV hP hK (va_recv hK hP (q0 := 0) (ci := 9) rfl rfl)) rfl rfl hl.1 rfl (lv_room (Nat.le_of_ble_eq_true rfl)) dX9_book_101 ⟨Nat.le_of_ble_eq_true rfl, Nat.le_of_ble_eq_true rfl⟩) hS (fun q _ h => h) (fun q h => h) (fun u9 t9 H1 locs ht9 hvm9 hw9 hB9 hz9 hk9 hS => ?_)
                  rw [ht9] at hB9
                  have hP := hB9
                  clear hB9 hz9 hk9 hvm9 ht9
                  generalize H1 = H at hP hS ⊢
                  have hP : gP g (mW g a (upd (upd sc 0 (zI (0))) 9 (zI ((min (k + 1) 10 : Nat)))) wd tp (upd N (111 + 364 * w + d) (zI (((chg N w d : Int) - 1) + 1 + 128 * 0 + 16384 * 2 + 65536 * 0))) rd (snS sn N k)) H := hP
                  have hc2 : ¬ bookC2 N (w : Int) (d : Int) f := by
                    intro q9
                    have q1 := q9.1
                    have q2 := q9.2
                    simp only [Int.toNat_natCast] at q2
                    omega
                  refine lv_aload_n hx hb dX9_book_104 rfl (lv_at hl 0 rfl) ?_
                  refine lv_iload_n hx hb dX9_book_105 rfl (lv_at hl 1 rfl) ?_
                  have eN : upd N (111 + 364 * w + d) (zI (((chg N w d : Int) - 1) + 1 + 128 * 0 + 16384 * 2 + 65536 * 0)) = bookN N w d f := by
                    unfold bookN; exact congrArg _ (congrArg zI (by unfold pkD; omega))
                  rw [eN] at hP
                  have hN2 : okN (bookN N w d f) := okN_day hN hw hd (hN.chg hw hd) (by omega) (by omega) (by omega)
                  refine vp_callSi (va_Run.run (va_runV (As := [.int (zI ((w : Int)))]) (rest := []) ⟨hx, hb, hml, hown, hts⟩ (c_X9_leftOf l g ((a 0)) ((a 2)) (bookN N w d f) (hN2) (w) (hw)) (cwV 1 hts gX9_book_X9_leftOf rfl rfl rfl (by decide +kernel) ⟨Nat.le_of_ble_eq_true rfl, Nat.le_of_ble_eq_true rfl⟩) (g_preV (rdN_of hP) hK (va_recv hK hP (q0 := 0) (ci := 9) rfl rfl)) rfl rfl hl.1 rfl (lv_room (Nat.le_of_ble_eq_true rfl)) dX9_book_106 ⟨Nat.le_of_ble_eq_true rfl, Nat.le_of_ble_eq_true rfl⟩)) (fun r hr9 => ?_)
                  subst hr9
                  exact W.iret hx hb hr (fun tX htX hWX => ⟨⟨_, (), rfl, congrArg zI (by unfold bookR; rw [if_pos hc1, if_neg hc2]; rfl), g_at htX ((act_yes ⟨hc1, hc2⟩ rfl hP))⟩, hS.F htX⟩) hS.2.2 dX9_book_109
              · refine lv_bipush (v := zI (-2)) hx hb dX9_book_74 (by decide) ?_
                have hc2 : bookC2 N (w : Int) (d : Int) f := ⟨by omega, by simp only [Int.toNat_natCast]; omega⟩
                exact W.iret hx hb hr (fun tX htX hWX => ⟨⟨_, (), rfl, congrArg zI (by unfold bookR; rw [if_pos hc1, if_pos hc2]), g_at htX ((act_no (fun q9 => q9.2 hc2) hk hP))⟩, hS.F htX⟩) hS.2.2 dX9_book_76
          · refine lv_iconst (v := zI (-1)) hx hb dX9_book_54 (by decide) ?_
            have hc : ¬ bookC1 N (w : Int) (d : Int) f := by
              first
              | (intro q9; exact h10 q9.1; done)
              | (intro q9; exact h24 q9.2.1; done)
              | (intro q9
                 have q1 := q9.2.2.1
                 have q2 := q9.2.2.2
                 simp only [Int.toNat_natCast] at q1 q2
                 omega)
            exact W.iret hx hb hr (fun tX htX hWX => ⟨⟨_, (), rfl, congrArg zI (by unfold bookR; rw [if_neg hc]), g_at htX ((act_no (fun q9 => hc q9.1) hk hP))⟩, hS.F htX⟩) hS.2.2 dX9_book_55
      · refine lv_iconst (v := zI (0)) hx hb dX9_book_37 (by decide) ?_
        refine lv_goto (tgt := 42) hx hb dX9_book_38 (by decide) ?_
        refine z_icmp_ne (tgt := 54) hx hb dX9_book_42 (by decide) (by omega) (by omega) (fun h42 => ?_) (fun h42 => ?_)
        · refine lv_iconst (v := zI (-1)) hx hb dX9_book_54 (by decide) ?_
          have hc : ¬ bookC1 N (w : Int) (d : Int) f := by
            first
            | (intro q9; exact h10 q9.1; done)
            | (intro q9; exact h24 q9.2.1; done)
            | (intro q9
               have q1 := q9.2.2.1
               have q2 := q9.2.2.2
               simp only [Int.toNat_natCast] at q1 q2
               omega)
          exact W.iret hx hb hr (fun tX htX hWX => ⟨⟨_, (), rfl, congrArg zI (by unfold bookR; rw [if_neg hc]), g_at htX ((act_no (fun q9 => hc q9.1) hk hP))⟩, hS.F htX⟩) hS.2.2 dX9_book_55
        · refine lv_aload_n hx hb dX9_book_45 rfl (lv_at hl 0 rfl) ?_
          refine lv_iload_n hx hb dX9_book_46 rfl (lv_at hl 1 rfl) ?_
          refine lv_iload_n hx hb dX9_book_47 rfl (lv_at hl 2 rfl) ?_
          refine vp_callSi (va_Run.run (va_runV (As := [.int (zI ((w : Int))), .int (zI ((d : Int)))]) (rest := []) ⟨hx, hb, hml, hown, hts⟩ (c_X9_workedOf l g ((a 0)) ((a 2)) (N) (hN) (w) (d) (hw) (hd)) (cwV 2 hts gX9_book_X9_workedOf rfl rfl rfl (by decide +kernel) ⟨Nat.le_of_ble_eq_true rfl, Nat.le_of_ble_eq_true rfl⟩) (g_preV (rdN_of hP) hK (va_recv hK hP (q0 := 0) (ci := 9) rfl rfl)) rfl rfl hl.1 rfl (lv_room (Nat.le_of_ble_eq_true rfl)) dX9_book_48 ⟨Nat.le_of_ble_eq_true rfl, Nat.le_of_ble_eq_true rfl⟩)) (fun r hr9 => ?_)
          subst hr9
          refine z_if_le (tgt := 56) hx hb dX9_book_51 (by decide) (by omega) (fun h51 => ?_) (fun h51 => ?_)
          · refine lv_iload_n hx hb dX9_book_56 rfl (lv_at hl 3 rfl) ?_
            have hc1 : bookC1 N (w : Int) (d : Int) f := ⟨⟨⟨hv0, hv1⟩, hgo⟩, h24, by simp only [Int.toNat_natCast]; omega, by simp only [Int.toNat_natCast]; omega⟩
            refine z_if_eq (tgt := 77) hx hb dX9_book_57 (by decide) (by omega) (fun h57 => ?_) (fun h57 => ?_)
            · refine lv_aload_n hx hb dX9_book_77 rfl (lv_at hl 0 rfl) ?_
              refine va_callv (va_runV (As := []) (rest := []) ⟨hx, hb, hml, hown, hts⟩ (c_X9_snap l g (a) (ha) ((upd sc 0 (zI (0)))) (wd) (tp) (N) (rd) (sn) (k) (hk) (hk10)) (cwV 0 hts gX9_book_X9_snap rfl rfl rfl (by decide +kernel) ⟨Nat.le_of_ble_eq_true rfl, Nat.le_of_ble_eq_true rfl⟩) (g_preV hP hK (va_recv hK hP (q0 := 0) (ci := 9) rfl rfl)) rfl rfl hl.1 rfl (lv_room (Nat.le_of_ble_eq_true rfl)) dX9_book_78 ⟨Nat.le_of_ble_eq_true rfl, Nat.le_of_ble_eq_true rfl⟩) hS (fun q _ h => h) (fun q h => h) (fun u9 t9 H1 locs ht9 hvm9 hw9 hB9 hz9 hk9 hS => ?_)
              rw [ht9] at hB9
              have hP := hB9
              clear hB9 hz9 hk9 hvm9 ht9
              generalize H1 = H at hP hS ⊢
              have hP : gP g (mW g a (upd (upd sc 0 (zI (0))) 9 (zI ((min (k + 1) 10 : Nat)))) wd tp N rd (snS sn N k)) H := hP
              refine lv_aload_n hx hb dX9_book_81 rfl (lv_at hl 0 rfl) ?_
              refine lv_iload_n hx hb dX9_book_82 rfl (lv_at hl 1 rfl) ?_
              refine lv_iload_n hx hb dX9_book_83 rfl (lv_at hl 2 rfl) ?_
              refine lv_aload_n hx hb dX9_book_84 rfl (lv_at hl 0 rfl) ?_
              refine lv_iload_n hx hb dX9_book_85 rfl (lv_at hl 1 rfl) ?_
              refine lv_iload_n hx hb dX9_book_86 rfl (lv_at hl 2 rfl) ?_
              refine vp_callSi (va_Run.run (va_runV (As := [.int (zI ((w : Int))), .int (zI ((d : Int)))]) (rest := [.int (zI ((d : Int))), .int (zI ((w : Int))), .ref ((a 0))]) ⟨hx, hb, hml, hown, hts⟩ (c_X9_changedOf l g ((a 0)) ((a 2)) (N) (hN) (w) (d) (hw) (hd)) (cwV 2 hts gX9_book_X9_changedOf rfl rfl rfl (by decide +kernel) ⟨Nat.le_of_ble_eq_true rfl, Nat.le_of_ble_eq_true rfl⟩) (g_preV (rdN_of hP) hK (va_recv hK hP (q0 := 0) (ci := 9) rfl rfl)) rfl rfl hl.1 rfl (lv_room (Nat.le_of_ble_eq_true rfl)) dX9_book_87 ⟨Nat.le_of_ble_eq_true rfl, Nat.le_of_ble_eq_true rfl⟩)) (fun r hr9 => ?_)
              subst hr9
              refine lv_iconst (v := zI (0)) hx hb dX9_book_90 (by decide) ?_
              refine lv_iload_n hx hb dX9_book_91 rfl (lv_at hl 3 rfl) ?_
              refine z_if_eq (tgt := 99) hx hb dX9_book_92 (by decide) (by omega) (fun h92 => ?_) (fun h92 => ?_)
              · refine lv_iconst (v := zI (0)) hx hb dX9_book_99 (by decide) ?_
                refine lv_iconst (v := zI (0)) hx hb dX9_book_100 (by decide) ?_
                refine va_callv (va_runV (As := [.int (zI ((w : Int))), .int (zI ((d : Int))), .int (zI ((chg N w d : Int) - 1)), .int (zI (0)), .int (zI (0)), .int (zI (0))]) (rest := []) ⟨hx, hb, hml, hown, hts⟩ (c_X9_putDay l g (a) (ha) ((upd (upd sc 0 (zI (0))) 9 (zI ((min (k + 1) 10 : Nat))))) (wd) (tp) (N) (rd) ((snS sn N k)) (w) (d) ((chg N w d : Int) - 1) (0) (0) (0) (hw) (hd)) (cwV 6 hts gX9_book_X9_putDay rfl rfl rfl (by decide +kernel) ⟨Nat.le_of_ble_eq_true rfl, Nat.le_of_ble_eq_true rfl⟩) (g_preV hP hK (va_recv hK hP (q0 := 0) (ci := 9) rfl rfl)) rfl rfl hl.1 rfl (lv_room (Nat.le_of_ble_eq_true rfl)) dX9_book_101 ⟨Nat.le_of_ble_eq_true rfl, Nat.le_of_ble_eq_true rfl⟩) hS (fun q _ h => h) (fun q h => h) (fun u9 t9 H1 locs ht9 hvm9 hw9 hB9 hz9 hk9 hS => ?_)
                rw [ht9] at hB9
                have hP := hB9
                clear hB9 hz9 hk9 hvm9 ht9
                generalize H1 = H at hP hS ⊢
                have hP : gP g (mW g a (upd (upd sc 0 (zI (0))) 9 (zI ((min (k + 1) 10 : Nat)))) wd tp (upd N (111 + 364 * w + d) (zI (((chg N w d : Int) - 1) + 1 + 128 * 0 + 16384 * 0 + 65536 * 0))) rd (snS sn N k)) H := hP
                have hc2 : ¬ bookC2 N (w : Int) (d : Int) f := by
                  intro q9
                  have q1 := q9.1
                  have q2 := q9.2
                  simp only [Int.toNat_natCast] at q2
                  omega
                refine lv_aload_n hx hb dX9_book_104 rfl (lv_at hl 0 rfl) ?_
                refine lv_iload_n hx hb dX9_book_105 rfl (lv_at hl 1 rfl) ?_
                have eN : upd N (111 + 364 * w + d) (zI (((chg N w d : Int) - 1) + 1 + 128 * 0 + 16384 * 0 + 65536 * 0)) = bookN N w d f := by
                  unfold bookN; exact congrArg _ (congrArg zI (by unfold pkD; omega))
                rw [eN] at hP
                have hN2 : okN (bookN N w d f) := okN_day hN hw hd (hN.chg hw hd) (by omega) (by omega) (by omega)
                refine vp_callSi (va_Run.run (va_runV (As := [.int (zI ((w : Int)))]) (rest := []) ⟨hx, hb, hml, hown, hts⟩ (c_X9_leftOf l g ((a 0)) ((a 2)) (bookN N w d f) (hN2) (w) (hw)) (cwV 1 hts gX9_book_X9_leftOf rfl rfl rfl (by decide +kernel) ⟨Nat.le_of_ble_eq_true rfl, Nat.le_of_ble_eq_true rfl⟩) (g_preV (rdN_of hP) hK (va_recv hK hP (q0 := 0) (ci := 9) rfl rfl)) rfl rfl hl.1 rfl (lv_room (Nat.le_of_ble_eq_true rfl)) dX9_book_106 ⟨Nat.le_of_ble_eq_true rfl, Nat.le_of_ble_eq_true rfl⟩)) (fun r hr9 => ?_)
                subst hr9
                exact W.iret hx hb hr (fun tX htX hWX => ⟨⟨_, (), rfl, congrArg zI (by unfold bookR; rw [if_pos hc1, if_neg hc2]; rfl), g_at htX ((act_yes ⟨hc1, hc2⟩ rfl hP))⟩, hS.F htX⟩) hS.2.2 dX9_book_109
              · refine lv_iconst (v := zI (2)) hx hb dX9_book_95 (by decide) ?_
                refine lv_goto (tgt := 100) hx hb dX9_book_96 (by decide) ?_
                refine lv_iconst (v := zI (0)) hx hb dX9_book_100 (by decide) ?_
                refine va_callv (va_runV (As := [.int (zI ((w : Int))), .int (zI ((d : Int))), .int (zI ((chg N w d : Int) - 1)), .int (zI (0)), .int (zI (2)), .int (zI (0))]) (rest := []) ⟨hx, hb, hml, hown, hts⟩ (c_X9_putDay l g (a) (ha) ((upd (upd sc 0 (zI (0))) 9 (zI ((min (k + 1) 10 : Nat))))) (wd) (tp) (N) (rd) ((snS sn N k)) (w) (d) ((chg N w d : Int) - 1) (0) (2) (0) (hw) (hd)) (cwV 6 hts gX9_book_X9_putDay rfl rfl rfl (by decide +kernel) ⟨Nat.le_of_ble_eq_true rfl, Nat.le_of_ble_eq_true rfl⟩) (g_preV hP hK (va_recv hK hP (q0 := 0) (ci := 9) rfl rfl)) rfl rfl hl.1 rfl (lv_room (Nat.le_of_ble_eq_true rfl)) dX9_book_101 ⟨Nat.le_of_ble_eq_true rfl, Nat.le_of_ble_eq_true rfl⟩) hS (fun q _ h => h) (fun q h => h) (fun u9 t9 H1 locs ht9 hvm9 hw9 hB9 hz9 hk9 hS => ?_)
                rw [ht9] at hB9
                have hP := hB9
                clear hB9 hz9 hk9 hvm9 ht9
                generalize H1 = H at hP hS ⊢
                have hP : gP g (mW g a (upd (upd sc 0 (zI (0))) 9 (zI ((min (k + 1) 10 : Nat)))) wd tp (upd N (111 + 364 * w + d) (zI (((chg N w d : Int) - 1) + 1 + 128 * 0 + 16384 * 2 + 65536 * 0))) rd (snS sn N k)) H := hP
                have hc2 : ¬ bookC2 N (w : Int) (d : Int) f := by
                  intro q9
                  have q1 := q9.1
                  have q2 := q9.2
                  simp only [Int.toNat_natCast] at q2
                  omega
                refine lv_aload_n hx hb dX9_book_104 rfl (lv_at hl 0 rfl) ?_
                refine lv_iload_n hx hb dX9_book_105 rfl (lv_at hl 1 rfl) ?_
                have eN : upd N (111 + 364 * w + d) (zI (((chg N w d : Int) - 1) + 1 + 128 * 0 + 16384 * 2 + 65536 * 0)) = bookN N w d f := by
                  unfold bookN; exact congrArg _ (congrArg zI (by unfold pkD; omega))
                rw [eN] at hP
                have hN2 : okN (bookN N w d f) := okN_day hN hw hd (hN.chg hw hd) (by omega) (by omega) (by omega)
                refine vp_callSi (va_Run.run (va_runV (As := [.int (zI ((w : Int)))]) (rest := []) ⟨hx, hb, hml, hown, hts⟩ (c_X9_leftOf l g ((a 0)) ((a 2)) (bookN N w d f) (hN2) (w) (hw)) (cwV 1 hts gX9_book_X9_leftOf rfl rfl rfl (by decide +kernel) ⟨Nat.le_of_ble_eq_true rfl, Nat.le_of_ble_eq_true rfl⟩) (g_preV (rdN_of hP) hK (va_recv hK hP (q0 := 0) (ci := 9) rfl rfl)) rfl rfl hl.1 rfl (lv_room (Nat.le_of_ble_eq_true rfl)) dX9_book_106 ⟨Nat.le_of_ble_eq_true rfl, Nat.le_of_ble_eq_true rfl⟩)) (fun r hr9 => ?_)
                subst hr9
                exact W.iret hx hb hr (fun tX htX hWX => ⟨⟨_, (), rfl, congrArg zI (by unfold bookR; rw [if_pos hc1, if_neg hc2]; rfl), g_at htX ((act_yes ⟨hc1, hc2⟩ rfl hP))⟩, hS.F htX⟩) hS.2.2 dX9_book_109
            · refine lv_aload_n hx hb dX9_book_60 rfl (lv_at hl 0 rfl) ?_
              refine lv_iload_n hx hb dX9_book_61 rfl (lv_at hl 1 rfl) ?_
              refine vp_callSi (va_Run.run (va_runV (As := [.int (zI ((w : Int)))]) (rest := []) ⟨hx, hb, hml, hown, hts⟩ (c_X9_leftOf l g ((a 0)) ((a 2)) (N) (hN) (w) (hw)) (cwV 1 hts gX9_book_X9_leftOf rfl rfl rfl (by decide +kernel) ⟨Nat.le_of_ble_eq_true rfl, Nat.le_of_ble_eq_true rfl⟩) (g_preV (rdN_of hP) hK (va_recv hK hP (q0 := 0) (ci := 9) rfl rfl)) rfl rfl hl.1 rfl (lv_room (Nat.le_of_ble_eq_true rfl)) dX9_book_62 ⟨Nat.le_of_ble_eq_true rfl, Nat.le_of_ble_eq_true rfl⟩)) (fun r hr9 => ?_)
              subst hr9
              refine lv_aload_n hx hb dX9_book_65 rfl (lv_at hl 0 rfl) ?_
              refine lv_iload_n hx hb dX9_book_66 rfl (lv_at hl 1 rfl) ?_
              refine lv_iload_n hx hb dX9_book_67 rfl (lv_at hl 2 rfl) ?_
              refine vp_callSi (va_Run.run (va_runV (As := [.int (zI ((w : Int))), .int (zI ((d : Int)))]) (rest := [.int (zI (lft N w))]) ⟨hx, hb, hml, hown, hts⟩ (c_X9_plannedOf l g ((a 0)) ((a 2)) (N) (hN) (w) (d) (hw) (hd)) (cwV 2 hts gX9_book_X9_plannedOf rfl rfl rfl (by decide +kernel) ⟨Nat.le_of_ble_eq_true rfl, Nat.le_of_ble_eq_true rfl⟩) (g_preV (rdN_of hP) hK (va_recv hK hP (q0 := 0) (ci := 9) rfl rfl)) rfl rfl hl.1 rfl (lv_room (Nat.le_of_ble_eq_true rfl)) dX9_book_68 ⟨Nat.le_of_ble_eq_true rfl, Nat.le_of_ble_eq_true rfl⟩)) (fun r hr9 => ?_)
              subst hr9
              have hlf := lft_rng hN hw
              refine z_icmp_ge (tgt := 77) hx hb dX9_book_71 (by decide) (by omega) (by omega) (fun h71 => ?_) (fun h71 => ?_)
              · refine lv_aload_n hx hb dX9_book_77 rfl (lv_at hl 0 rfl) ?_
                refine va_callv (va_runV (As := []) (rest := []) ⟨hx, hb, hml, hown, hts⟩ (c_X9_snap l g (a) (ha) ((upd sc 0 (zI (0)))) (wd) (tp) (N) (rd) (sn) (k) (hk) (hk10)) (cwV 0 hts gX9_book_X9_snap rfl rfl rfl (by decide +kernel) ⟨Nat.le_of_ble_eq_true rfl, Nat.le_of_ble_eq_true rfl⟩) (g_preV hP hK (va_recv hK hP (q0 := 0) (ci := 9) rfl rfl)) rfl rfl hl.1 rfl (lv_room (Nat.le_of_ble_eq_true rfl)) dX9_book_78 ⟨Nat.le_of_ble_eq_true rfl, Nat.le_of_ble_eq_true rfl⟩) hS (fun q _ h => h) (fun q h => h) (fun u9 t9 H1 locs ht9 hvm9 hw9 hB9 hz9 hk9 hS => ?_)
                rw [ht9] at hB9
                have hP := hB9
                clear hB9 hz9 hk9 hvm9 ht9
                generalize H1 = H at hP hS ⊢
                have hP : gP g (mW g a (upd (upd sc 0 (zI (0))) 9 (zI ((min (k + 1) 10 : Nat)))) wd tp N rd (snS sn N k)) H := hP
                refine lv_aload_n hx hb dX9_book_81 rfl (lv_at hl 0 rfl) ?_
                refine lv_iload_n hx hb dX9_book_82 rfl (lv_at hl 1 rfl) ?_
                refine lv_iload_n hx hb dX9_book_83 rfl (lv_at hl 2 rfl) ?_
                refine lv_aload_n hx hb dX9_book_84 rfl (lv_at hl 0 rfl) ?_
                refine lv_iload_n hx hb dX9_book_85 rfl (lv_at hl 1 rfl) ?_
                refine lv_iload_n hx hb dX9_book_86 rfl (lv_at hl 2 rfl) ?_
                refine vp_callSi (va_Run.run (va_runV (As := [.int (zI ((w : Int))), .int (zI ((d : Int)))]) (rest := [.int (zI ((d : Int))), .int (zI ((w : Int))), .ref ((a 0))]) ⟨hx, hb, hml, hown, hts⟩ (c_X9_changedOf l g ((a 0)) ((a 2)) (N) (hN) (w) (d) (hw) (hd)) (cwV 2 hts gX9_book_X9_changedOf rfl rfl rfl (by decide +kernel) ⟨Nat.le_of_ble_eq_true rfl, Nat.le_of_ble_eq_true rfl⟩) (g_preV (rdN_of hP) hK (va_recv hK hP (q0 := 0) (ci := 9) rfl rfl)) rfl rfl hl.1 rfl (lv_room (Nat.le_of_ble_eq_true rfl)) dX9_book_87 ⟨Nat.le_of_ble_eq_true rfl, Nat.le_of_ble_eq_true rfl⟩)) (fun r hr9 => ?_)
                subst hr9
                refine lv_iconst (v := zI (0)) hx hb dX9_book_90 (by decide) ?_
                refine lv_iload_n hx hb dX9_book_91 rfl (lv_at hl 3 rfl) ?_
                refine z_if_eq (tgt := 99) hx hb dX9_book_92 (by decide) (by omega) (fun h92 => ?_) (fun h92 => ?_)
                · refine lv_iconst (v := zI (0)) hx hb dX9_book_99 (by decide) ?_
                  refine lv_iconst (v := zI (0)) hx hb dX9_book_100 (by decide) ?_
                  refine va_callv (va_runV (As := [.int (zI ((w : Int))), .int (zI ((d : Int))), .int (zI ((chg N w d : Int) - 1)), .int (zI (0)), .int (zI (0)), .int (zI (0))]) (rest := []) ⟨hx, hb, hml, hown, hts⟩ (c_X9_putDay l g (a) (ha) ((upd (upd sc 0 (zI (0))) 9 (zI ((min (k + 1) 10 : Nat))))) (wd) (tp) (N) (rd) ((snS sn N k)) (w) (d) ((chg N w d : Int) - 1) (0) (0) (0) (hw) (hd)) (cwV 6 hts gX9_book_X9_putDay rfl rfl rfl (by decide +kernel) ⟨Nat.le_of_ble_eq_true rfl, Nat.le_of_ble_eq_true rfl⟩) (g_preV hP hK (va_recv hK hP (q0 := 0) (ci := 9) rfl rfl)) rfl rfl hl.1 rfl (lv_room (Nat.le_of_ble_eq_true rfl)) dX9_book_101 ⟨Nat.le_of_ble_eq_true rfl, Nat.le_of_ble_eq_true rfl⟩) hS (fun q _ h => h) (fun q h => h) (fun u9 t9 H1 locs ht9 hvm9 hw9 hB9 hz9 hk9 hS => ?_)
                  rw [ht9] at hB9
                  have hP := hB9
                  clear hB9 hz9 hk9 hvm9 ht9
                  generalize H1 = H at hP hS ⊢
                  have hP : gP g (mW g a (upd (upd sc 0 (zI (0))) 9 (zI ((min (k + 1) 10 : Nat)))) wd tp (upd N (111 + 364 * w + d) (zI (((chg N w d : Int) - 1) + 1 + 128 * 0 + 16384 * 0 + 65536 * 0))) rd (snS sn N k)) H := hP
                  have hc2 : ¬ bookC2 N (w : Int) (d : Int) f := by
                    intro q9
                    have q1 := q9.1
                    have q2 := q9.2
                    simp only [Int.toNat_natCast] at q2
                    omega
                  refine lv_aload_n hx hb dX9_book_104 rfl (lv_at hl 0 rfl) ?_
                  refine lv_iload_n hx hb dX9_book_105 rfl (lv_at hl 1 rfl) ?_
                  have eN : upd N (111 + 364 * w + d) (zI (((chg N w d : Int) - 1) + 1 + 128 * 0 + 16384 * 0 + 65536 * 0)) = bookN N w d f := by
                    unfold bookN; exact congrArg _ (congrArg zI (by unfold pkD; omega))
                  rw [eN] at hP
                  have hN2 : okN (bookN N w d f) := okN_day hN hw hd (hN.chg hw hd) (by omega) (by omega) (by omega)
                  refine vp_callSi (va_Run.run (va_runV (As := [.int (zI ((w : Int)))]) (rest := []) ⟨hx, hb, hml, hown, hts⟩ (c_X9_leftOf l g ((a 0)) ((a 2)) (bookN N w d f) (hN2) (w) (hw)) (cwV 1 hts gX9_book_X9_leftOf rfl rfl rfl (by decide +kernel) ⟨Nat.le_of_ble_eq_true rfl, Nat.le_of_ble_eq_true rfl⟩) (g_preV (rdN_of hP) hK (va_recv hK hP (q0 := 0) (ci := 9) rfl rfl)) rfl rfl hl.1 rfl (lv_room (Nat.le_of_ble_eq_true rfl)) dX9_book_106 ⟨Nat.le_of_ble_eq_true rfl, Nat.le_of_ble_eq_true rfl⟩)) (fun r hr9 => ?_)
                  subst hr9
                  exact W.iret hx hb hr (fun tX htX hWX => ⟨⟨_, (), rfl, congrArg zI (by unfold bookR; rw [if_pos hc1, if_neg hc2]; rfl), g_at htX ((act_yes ⟨hc1, hc2⟩ rfl hP))⟩, hS.F htX⟩) hS.2.2 dX9_book_109
                · refine lv_iconst (v := zI (2)) hx hb dX9_book_95 (by decide) ?_
                  refine lv_goto (tgt := 100) hx hb dX9_book_96 (by decide) ?_
                  refine lv_iconst (v := zI (0)) hx hb dX9_book_100 (by decide) ?_
                  refine va_callv (va_runV (As := [.int (zI ((w : Int))), .int (zI ((d : Int))), .int (zI ((chg N w d : Int) - 1)), .int (zI (0)), .int (zI (2)), .int (zI (0))]) (rest := []) ⟨hx, hb, hml, hown, hts⟩ (c_X9_putDay l g (a) (ha) ((upd (upd sc 0 (zI (0))) 9 (zI ((min (k + 1) 10 : Nat))))) (wd) (tp) (N) (rd) ((snS sn N k)) (w) (d) ((chg N w d : Int) - 1) (0) (2) (0) (hw) (hd)) (cwV 6 hts gX9_book_X9_putDay rfl rfl rfl (by decide +kernel) ⟨Nat.le_of_ble_eq_true rfl, Nat.le_of_ble_eq_true rfl⟩) (g_preV hP hK (va_recv hK hP (q0 := 0) (ci := 9) rfl rfl)) rfl rfl hl.1 rfl (lv_room (Nat.le_of_ble_eq_true rfl)) dX9_book_101 ⟨Nat.le_of_ble_eq_true rfl, Nat.le_of_ble_eq_true rfl⟩) hS (fun q _ h => h) (fun q h => h) (fun u9 t9 H1 locs ht9 hvm9 hw9 hB9 hz9 hk9 hS => ?_)
                  rw [ht9] at hB9
                  have hP := hB9
                  clear hB9 hz9 hk9 hvm9 ht9
                  generalize H1 = H at hP hS ⊢
                  have hP : gP g (mW g a (upd (upd sc 0 (zI (0))) 9 (zI ((min (k + 1) 10 : Nat)))) wd tp (upd N (111 + 364 * w + d) (zI (((chg N w d : Int) - 1) + 1 + 128 * 0 + 16384 * 2 + 65536 * 0))) rd (snS sn N k)) H := hP
                  have hc2 : ¬ bookC2 N (w : Int) (d : Int) f := by
                    intro q9
                    have q1 := q9.1
                    have q2 := q9.2
                    simp only [Int.toNat_natCast] at q2
                    omega
                  refine lv_aload_n hx hb dX9_book_104 rfl (lv_at hl 0 rfl) ?_
                  refine lv_iload_n hx hb dX9_book_105 rfl (lv_at hl 1 rfl) ?_
                  have eN : upd N (111 + 364 * w + d) (zI (((chg N w d : Int) - 1) + 1 + 128 * 0 + 16384 * 2 + 65536 * 0)) = bookN N w d f := by
                    unfold bookN; exact congrArg _ (congrArg zI (by unfold pkD; omega))
                  rw [eN] at hP
                  have hN2 : okN (bookN N w d f) := okN_day hN hw hd (hN.chg hw hd) (by omega) (by omega) (by omega)
                  refine vp_callSi (va_Run.run (va_runV (As := [.int (zI ((w : Int)))]) (rest := []) ⟨hx, hb, hml, hown, hts⟩ (c_X9_leftOf l g ((a 0)) ((a 2)) (bookN N w d f) (hN2) (w) (hw)) (cwV 1 hts gX9_book_X9_leftOf rfl rfl rfl (by decide +kernel) ⟨Nat.le_of_ble_eq_true rfl, Nat.le_of_ble_eq_true rfl⟩) (g_preV (rdN_of hP) hK (va_recv hK hP (q0 := 0) (ci := 9) rfl rfl)) rfl rfl hl.1 rfl (lv_room (Nat.le_of_ble_eq_true rfl)) dX9_book_106 ⟨Nat.le_of_ble_eq_true rfl, Nat.le_of_ble_eq_true rfl⟩)) (fun r hr9 => ?_)
                  subst hr9
                  exact W.iret hx hb hr (fun tX htX hWX => ⟨⟨_, (), rfl, congrArg zI (by unfold bookR; rw [if_pos hc1, if_neg hc2]; rfl), g_at htX ((act_yes ⟨hc1, hc2⟩ rfl hP))⟩, hS.F htX⟩) hS.2.2 dX9_book_109
              · refine lv_bipush (v := zI (-2)) hx hb dX9_book_74 (by decide) ?_
                have hc2 : bookC2 N (w : Int) (d : Int) f := ⟨by omega, by simp only [Int.toNat_natCast]; omega⟩
                exact W.iret hx hb hr (fun tX htX hWX => ⟨⟨_, (), rfl, congrArg zI (by unfold bookR; rw [if_pos hc1, if_pos hc2]), g_at htX ((act_no (fun q9 => q9.2 hc2) hk hP))⟩, hS.F htX⟩) hS.2.2 dX9_book_76
          · refine lv_iconst (v := zI (-1)) hx hb dX9_book_54 (by decide) ?_
            have hc : ¬ bookC1 N (w : Int) (d : Int) f := by
              first
              | (intro q9; exact h10 q9.1; done)
              | (intro q9; exact h24 q9.2.1; done)
              | (intro q9
                 have q1 := q9.2.2.1
                 have q2 := q9.2.2.2
                 simp only [Int.toNat_natCast] at q1 q2
                 omega)
            exact W.iret hx hb hr (fun tX htX hWX => ⟨⟨_, (), rfl, congrArg zI (by unfold bookR; rw [if_neg hc]), g_at htX ((act_no (fun q9 => hc q9.1) hk hP))⟩, hS.F htX⟩) hS.2.2 dX9_book_55
