set_option maxHeartbeats 4000000 in
set_option maxRecDepth 100000 in
theorem c_X9_lays (l : Launch) (g : GG) (a : Nat → Nat) (ha : aD a) (sc : Nat → Int32) (wd : Int64) (tp N rd sn : Nat → Int32) (x : Int32) (t : Nat) (ht : sc 1 = zI t) (ht4 : t + 4 ≤ 740) : Met l yX9_lays wsX9_lays ({ frames := 0, cells := 0, slots := 0, locals := 0 }) (gPc g [.ref ((a 0)), .int (x)] (gP g (mW g a sc wd tp N rd sn))) (va_Qv (fun (_ : Unit) => True) (fun (_ : Unit) (tS : State) => gP g (mW g a (upd sc 1 (zI ((t + 4 : Nat)))) wd (layP tp t x 4) N rd sn) tS.heap) (mA a)) 0 0 (mA a) := by
  refine Met.ofW (cc := cX9_lays) (maxL := 3) (ret := none) (by decide) rfl ?_
  intro p e s m args below meth c s₁ B hml hv
  obtain ⟨rfl, hP, hK⟩ := hv
  have hx := B.exec
  have hb := B.bytes
  have hr := B.returns
  have hts := atoms_spec (ws := wsX9_lays) B.pre
  have hown : s.vm.findClass RX9 = some m.cls := findClass_of_methodNamed B.named
  have hlocks := B.notSynchronized
  have hinX9 : ∀ w ∈ wsX90, w ∈ wsX9_lays := by decide +kernel
  have k7 := hts (.fieldLink RX9 7 "HoursBankModel" "tape" "[I") (by decide +kernel)
  have k11 := hts (.fieldLink RX9 11 "HoursBankModel" "taped" "I") (by decide +kernel)
  have hl := lv_entry ([.ref ((a 0)), .int (x)]) (n := 3) (Nat.le_of_ble_eq_true rfl)
  rw [lg_entry_eq]
  generalize (lg_sl ([.ref ((a 0)), .int (x)]) ++ List.replicate (3 - (lg_sl ([.ref ((a 0)), .int (x)])).length) Slot.unset).toArray = ls at hl ⊢
  have hl : lv_has ls 3 [(0, .ref ((a 0))), (1, .int (x))] := hl
  have hS : va_S (mA a) s.heap s.heap [] := va_S.rf
  obtain ⟨H, hH9⟩ : ∃ H, H = s.heap := ⟨_, rfl⟩
  obtain ⟨locs, hL9⟩ : ∃ x : List Loc, x = [] := ⟨_, rfl⟩
  have hP : gP g (mW g a sc wd tp N rd sn) H := hH9 ▸ hP
  have hS : va_S (mA a) s.heap H locs := by rw [hH9, hL9]; exact hS
  refine z_start hH9 hL9 ?_
  clear hH9 hL9
  refine lv_bipush (v := zI (24)) hx hb dX9_lays_0 (by decide) ?_
  refine lv_istore_n (lv' := [(2, .int (zI (24))), (0, .ref ((a 0))), (1, .int (x))]) hx hb dX9_lays_2 rfl hl (by decide) rfl (fun ls hl => ?_)
  have loop3 : ∀ (K9 : Nat) (i : Nat) (hK9 : 4 - i < K9) (hi : i ≤ 4) (H : Heap) (locs : List Loc) (hP : gP g (mW g a (upd sc 1 (zI ((t + i : Nat)))) wd (layP tp t x i) N rd sn) H) (hS : va_S (mA a) s.heap H locs) (ls : Array Slot) (hl : lv_has ls 3 [(2, .int (zI (24 - 8 * (i : Int)))), (0, .ref ((a 0))), (1, .int (x))]), W p l e (headSpec wsX9_lays ({ frames := 0, cells := 0, slots := 0, locals := 0 })).room s m ([.ref ((a 0)), .int (x)] : List Value).toArray below meth c H locs 0 0 (MQ below (va_Qv (fun (_ : Unit) => True) (fun (_ : Unit) (tS : State) => gP g (mW g a (upd sc 1 (zI ((t + 4 : Nat)))) wd (layP tp t x 4) N rd sn) tS.heap) (mA a)) ([.ref ((a 0)), .int (x)] : List Value).toArray s 0 0 (mA a)) (F0 m 3 ls []) := by
    intro K9
    induction K9 with
    | zero => intro i hK9; exact absurd hK9 (Nat.not_lt_zero _)
    | succ K9 ih =>
      intro i hK9 hi H locs hP hS ls hl
      refine lv_iload_n hx hb dX9_lays_3 rfl (lv_at hl 0 rfl) ?_
      refine z_if_lt (tgt := 39) hx hb dX9_lays_4 (by decide) (by omega) (fun h4 => ?_) (fun h4 => ?_)
      · obtain rfl : i = 4 := by omega
        exact W.vret hx hb hr (fun tX htX hWX => ⟨⟨(), rfl, trivial, g_at htX (hP)⟩, hS.F htX⟩) hS.2.2 dX9_lays_39
      · refine lv_aload_n hx hb dX9_lays_7 rfl (lv_at hl 1 rfl) ?_
        refine va_get (D := g.1) (ci := 9) (v := .ref ((a 1))) (C := RX9) (T := TX9) (N := 15) hx hb hts hinX9 hown hK hP 0 rfl rfl 1 (by decide) k7 (fun _ h9 => h9) rfl dX9_lays_8 ?_
        refine lv_aload_n hx hb dX9_lays_11 rfl (lv_at hl 1 rfl) ?_
        refine va_get (D := g.1) (ci := 9) (v := .int (zI ((t + i : Nat)))) (C := RX9) (T := TX9) (N := 15) hx hb hts hinX9 hown hK hP 0 rfl rfl 2 (by decide) k11 (fun _ h9 => h9) rfl dX9_lays_12 ?_
        refine lv_iload_n hx hb dX9_lays_15 rfl (lv_at hl 2 rfl) ?_
        refine lv_iload_n hx hb dX9_lays_16 rfl (lv_at hl 0 rfl) ?_
        refine lv_iushr hx hb dX9_lays_17 rfl ?_
        refine lv_sipush (v := zI (255)) hx hb dX9_lays_18 (by decide) ?_
        refine lv_iand hx hb dX9_lays_21 ?_
        refine z_top (y := zI (byteN x (24 - 8 * i))) (byte_u x i (by omega)) ?_
        refine z_iast hx hb hK hP (mD ha) hS 1 0 rfl rfl (by decide) (t + i) (by omega) (by omega) dX9_lays_22 (fun H locs hP _ hS => ?_)
        have hP : gP g (mW g a (upd sc 1 (zI ((t + i : Nat)))) wd (upd (layP tp t x i) (t + i) (zI (byteN x (24 - 8 * i)))) N rd sn) H := hP
        refine lv_aload_n hx hb dX9_lays_23 rfl (lv_at hl 1 rfl) ?_
        refine lv_dup hx hb dX9_lays_24 rfl ?_
        refine va_get (D := g.1) (ci := 9) (v := .int (zI ((t + i : Nat)))) (C := RX9) (T := TX9) (N := 15) hx hb hts hinX9 hown hK hP 0 rfl rfl 2 (by decide) k11 (fun _ h9 => h9) rfl dX9_lays_25 ?_
        refine lv_iconst (v := zI (1)) hx hb dX9_lays_28 (by decide) ?_
        refine z_iadd hx hb dX9_lays_29 ?_
        refine va_put (D := g.1) (ci := 9) (v := .int (zI ((t + i : Nat) + 1))) (ty := .int) (C := RX9) (T := TX9) (N := 15) hx hb hts hinX9 tyX9 tyX9_ok nmX9 hown hK hP (mD ha) hS 0 rfl rfl 2 (by decide) k11 (fun _ h9 => h9) rfl (by decide +kernel) rfl rfl (Nat.le_of_ble_eq_true rfl) dX9_lays_30 (fun H locs hP _ hS => ?_)
        have hP : gP g (mW g a (upd sc 1 (zI ((t + i : Nat) + 1))) wd (upd (layP tp t x i) (t + i) (zI (byteN x (24 - 8 * i)))) N rd sn) H := hP
        refine z_iinc (lv' := [(2, .int (zI ((24 - 8 * (i : Int)) + (-8)))), (0, .ref ((a 0))), (1, .int (x))]) hx hb dX9_lays_33 hl (k := 0) rfl (by decide) rfl (fun ls hl => ?_)
        refine lv_goto (tgt := 3) hx hb dX9_lays_36 (by decide) ?_
        have hl := lv_sub (l' := [(2, .int (zI ((24 - 8 * (i : Int)) + (-8)))), (0, .ref ((a 0))), (1, .int (x))]) hl [0, 1, 2] rfl
        have hl : lv_has ls 3 [(2, .int (zI (24 - 8 * ((i + 1) : Int)))), (0, .ref ((a 0))), (1, .int (x))] := lv_cg (lvE (congrArg zI (by omega)) (lvR (lvR (rfl)))) hl
        exact ih (i + 1) (by omega) (by omega) H locs (by rw [show ((t + (i + 1) : Nat) : Int) = ((t + i : Nat) : Int) + 1 by omega, ← layP_s]; exact hP) hS ls hl
  have hl := lv_sub (l' := [(2, .int (zI (24))), (0, .ref ((a 0))), (1, .int (x))]) hl [0, 1, 2] rfl
  have hl : lv_has ls 3 [(2, .int (zI (24 - 8 * (0 : Int)))), (0, .ref ((a 0))), (1, .int (x))] := lv_cg (lvE (congrArg zI (by omega)) (lvR (lvR (rfl)))) hl
  exact loop3 _ (0) (Nat.lt_succ_self _) (Nat.zero_le _) H locs (by rw [layP_0, upd_same (show sc 1 = zI ((t + 0 : Nat)) from ht)]; exact hP) hS ls hl

set_option maxHeartbeats 4000000 in
set_option maxRecDepth 100000 in
theorem c_X9_feed (l : Launch) (g : GG) (a : Nat → Nat) (ha : aD a) (sc : Nat → Int32) (wd : Int64) (tp N rd sn : Nat → Int32) (x1 x2 x3 x4 x5 : Int32) (t : Nat) (ht : sc 1 = zI t) (ht7 : t ≤ 740) : Met l yX9_feed wsX9_feed ({ frames := 1, cells := 0, slots := 0, locals := 22 }) (gPc g [.ref ((a 0)), .int (x1), .int (x2), .int (x3), .int (x4), .int (x5)] (gP g (mW g a sc wd tp N rd sn))) (va_Qi (fun (r : Int32) (_ : Unit) => r = zI (feedR t)) (fun (_ : Unit) (tS : State) => gP g (mW g a (upd (upd sc 0 (zI (0))) 1 (zI ((feedZ t : Nat)))) wd (feedT tp t x1 x2 x3 x4 x5) N rd sn) tS.heap) (mA a)) 0 0 (mA a) := by
  refine Met.ofW (cc := cX9_feed) (maxL := 6) (ret := (some .int)) (by decide) rfl ?_
  intro p e s m args below meth c s₁ B hml hv
  obtain ⟨rfl, hP, hK⟩ := hv
  have hx := B.exec
  have hb := B.bytes
  have hr := B.returns
  have hts := atoms_spec (ws := wsX9_feed) B.pre
  have hown : s.vm.findClass RX9 = some m.cls := findClass_of_methodNamed B.named
  have hlocks := B.notSynchronized
  have hinX9 : ∀ w ∈ wsX90, w ∈ wsX9_feed := by decide +kernel
  have k1 := hts (.fieldLink RX9 1 "HoursBankModel" "thrown" "I") (by decide +kernel)
  have k11 := hts (.fieldLink RX9 11 "HoursBankModel" "taped" "I") (by decide +kernel)
  have hl := lv_entry ([.ref ((a 0)), .int (x1), .int (x2), .int (x3), .int (x4), .int (x5)]) (n := 6) (Nat.le_of_ble_eq_true rfl)
  rw [lg_entry_eq]
  generalize (lg_sl ([.ref ((a 0)), .int (x1), .int (x2), .int (x3), .int (x4), .int (x5)]) ++ List.replicate (6 - (lg_sl ([.ref ((a 0)), .int (x1), .int (x2), .int (x3), .int (x4), .int (x5)])).length) Slot.unset).toArray = ls at hl ⊢
  have hl : lv_has ls 6 [(0, .ref ((a 0))), (1, .int (x1)), (2, .int (x2)), (3, .int (x3)), (4, .int (x4)), (5, .int (x5))] := hl
  have hS : va_S (mA a) s.heap s.heap [] := va_S.rf
  obtain ⟨H, hH9⟩ : ∃ H, H = s.heap := ⟨_, rfl⟩
  obtain ⟨locs, hL9⟩ : ∃ x : List Loc, x = [] := ⟨_, rfl⟩
  have hP : gP g (mW g a sc wd tp N rd sn) H := hH9 ▸ hP
  have hS : va_S (mA a) s.heap H locs := by rw [hH9, hL9]; exact hS
  refine z_start hH9 hL9 ?_
  clear hH9 hL9
  refine lv_aload_n hx hb dX9_feed_0 rfl (lv_at hl 0 rfl) ?_
  refine lv_iconst (v := zI (0)) hx hb dX9_feed_1 (by decide) ?_
  refine va_put (D := g.1) (ci := 9) (v := .int (zI (0))) (ty := .int) (C := RX9) (T := TX9) (N := 15) hx hb hts hinX9 tyX9 tyX9_ok nmX9 hown hK hP (mD ha) hS 0 rfl rfl 0 (by decide) k1 (fun _ h9 => h9) rfl (by decide +kernel) rfl rfl (Nat.le_of_ble_eq_true rfl) dX9_feed_2 (fun H locs hP _ hS => ?_)
  have hP : gP g (mW g a (upd sc 0 (zI (0))) wd tp N rd sn) H := hP
  refine lv_aload_n hx hb dX9_feed_5 rfl (lv_at hl 0 rfl) ?_
  refine va_get (D := g.1) (ci := 9) (v := .int (sc 1)) (C := RX9) (T := TX9) (N := 15) hx hb hts hinX9 hown hK hP 0 rfl rfl 2 (by decide) k11 (fun _ h9 => h9) rfl dX9_feed_6 ?_
  refine z_top (y := zI (t)) (ht) ?_
  refine lv_bipush (v := zI (20)) hx hb dX9_feed_9 (by decide) ?_
  refine z_iadd hx hb dX9_feed_11 ?_
  refine lv_sipush (v := zI (740)) hx hb dX9_feed_12 (by decide) ?_
  refine z_icmp_le (tgt := 20) hx hb dX9_feed_15 (by decide) (by omega) (by omega) (fun h15 => ?_) (fun h15 => ?_)
  · refine lv_aload_n hx hb dX9_feed_20 rfl (lv_at hl 0 rfl) ?_
    refine lv_iload_n hx hb dX9_feed_21 rfl (lv_at hl 1 rfl) ?_
    refine va_callv (va_runV (As := [.int (x1)]) (rest := []) ⟨hx, hb, hml, hown, hts⟩ (c_X9_lays l g (a) (ha) ((upd sc 0 (zI (0)))) (wd) (tp) (N) (rd) (sn) (x1) ((t)) (ht) (by omega)) (cwV 1 hts gX9_feed_X9_lays rfl rfl rfl (by decide +kernel) ⟨Nat.le_of_ble_eq_true rfl, Nat.le_of_ble_eq_true rfl⟩) (g_preV hP hK (va_recv hK hP (q0 := 0) (ci := 9) rfl rfl)) rfl rfl hl.1 rfl (lv_room (Nat.le_of_ble_eq_true rfl)) dX9_feed_22 ⟨Nat.le_of_ble_eq_true rfl, Nat.le_of_ble_eq_true rfl⟩) hS (fun q _ h => h) (fun q h => h) (fun u9 t9 H1 locs ht9 hvm9 hw9 hB9 hz9 hk9 hS => ?_)
    rw [ht9] at hB9
    have hP := hB9
    clear hB9 hz9 hk9 hvm9 ht9
    generalize H1 = H at hP hS ⊢
    have hP : gP g (mW g a (upd (upd sc 0 (zI (0))) 1 (zI (((t) + 4 : Nat)))) wd (layP tp (t) x1 4) N rd sn) H := hP
    refine lv_aload_n hx hb dX9_feed_25 rfl (lv_at hl 0 rfl) ?_
    refine lv_iload_n hx hb dX9_feed_26 rfl (lv_at hl 2 rfl) ?_
    refine va_callv (va_runV (As := [.int (x2)]) (rest := []) ⟨hx, hb, hml, hown, hts⟩ (c_X9_lays l g (a) (ha) ((upd (upd sc 0 (zI (0))) 1 (zI (((t) + 4 : Nat))))) (wd) ((layP tp (t) x1 4)) (N) (rd) (sn) (x2) ((t + 4)) (rfl) (by omega)) (cwV 1 hts gX9_feed_X9_lays rfl rfl rfl (by decide +kernel) ⟨Nat.le_of_ble_eq_true rfl, Nat.le_of_ble_eq_true rfl⟩) (g_preV hP hK (va_recv hK hP (q0 := 0) (ci := 9) rfl rfl)) rfl rfl hl.1 rfl (lv_room (Nat.le_of_ble_eq_true rfl)) dX9_feed_27 ⟨Nat.le_of_ble_eq_true rfl, Nat.le_of_ble_eq_true rfl⟩) hS (fun q _ h => h) (fun q h => h) (fun u9 t9 H1 locs ht9 hvm9 hw9 hB9 hz9 hk9 hS => ?_)
    rw [ht9] at hB9
    have hP := hB9
    clear hB9 hz9 hk9 hvm9 ht9
    generalize H1 = H at hP hS ⊢
    have hP : gP g (mW g a (upd (upd sc 0 (zI (0))) 1 (zI (((t + 4) + 4 : Nat)))) wd (layP (layP tp (t) x1 4) (t + 4) x2 4) N rd sn) H := hP
    refine lv_aload_n hx hb dX9_feed_30 rfl (lv_at hl 0 rfl) ?_
    refine lv_iload_n hx hb dX9_feed_31 rfl (lv_at hl 3 rfl) ?_
    refine va_callv (va_runV (As := [.int (x3)]) (rest := []) ⟨hx, hb, hml, hown, hts⟩ (c_X9_lays l g (a) (ha) ((upd (upd sc 0 (zI (0))) 1 (zI (((t + 4) + 4 : Nat))))) (wd) ((layP (layP tp (t) x1 4) (t + 4) x2 4)) (N) (rd) (sn) (x3) ((t + 4 + 4)) (rfl) (by omega)) (cwV 1 hts gX9_feed_X9_lays rfl rfl rfl (by decide +kernel) ⟨Nat.le_of_ble_eq_true rfl, Nat.le_of_ble_eq_true rfl⟩) (g_preV hP hK (va_recv hK hP (q0 := 0) (ci := 9) rfl rfl)) rfl rfl hl.1 rfl (lv_room (Nat.le_of_ble_eq_true rfl)) dX9_feed_32 ⟨Nat.le_of_ble_eq_true rfl, Nat.le_of_ble_eq_true rfl⟩) hS (fun q _ h => h) (fun q h => h) (fun u9 t9 H1 locs ht9 hvm9 hw9 hB9 hz9 hk9 hS => ?_)
    rw [ht9] at hB9
    have hP := hB9
    clear hB9 hz9 hk9 hvm9 ht9
    generalize H1 = H at hP hS ⊢
    have hP : gP g (mW g a (upd (upd sc 0 (zI (0))) 1 (zI (((t + 4 + 4) + 4 : Nat)))) wd (layP (layP (layP tp (t) x1 4) (t + 4) x2 4) (t + 4 + 4) x3 4) N rd sn) H := hP
    refine lv_aload_n hx hb dX9_feed_35 rfl (lv_at hl 0 rfl) ?_
    refine lv_iload hx hb dX9_feed_36 (lv_at hl 4 rfl) ?_
    refine va_callv (va_runV (As := [.int (x4)]) (rest := []) ⟨hx, hb, hml, hown, hts⟩ (c_X9_lays l g (a) (ha) ((upd (upd sc 0 (zI (0))) 1 (zI (((t + 4 + 4) + 4 : Nat))))) (wd) ((layP (layP (layP tp (t) x1 4) (t + 4) x2 4) (t + 4 + 4) x3 4)) (N) (rd) (sn) (x4) ((t + 4 + 4 + 4)) (rfl) (by omega)) (cwV 1 hts gX9_feed_X9_lays rfl rfl rfl (by decide +kernel) ⟨Nat.le_of_ble_eq_true rfl, Nat.le_of_ble_eq_true rfl⟩) (g_preV hP hK (va_recv hK hP (q0 := 0) (ci := 9) rfl rfl)) rfl rfl hl.1 rfl (lv_room (Nat.le_of_ble_eq_true rfl)) dX9_feed_38 ⟨Nat.le_of_ble_eq_true rfl, Nat.le_of_ble_eq_true rfl⟩) hS (fun q _ h => h) (fun q h => h) (fun u9 t9 H1 locs ht9 hvm9 hw9 hB9 hz9 hk9 hS => ?_)
    rw [ht9] at hB9
    have hP := hB9
    clear hB9 hz9 hk9 hvm9 ht9
    generalize H1 = H at hP hS ⊢
    have hP : gP g (mW g a (upd (upd sc 0 (zI (0))) 1 (zI (((t + 4 + 4 + 4) + 4 : Nat)))) wd (layP (layP (layP (layP tp (t) x1 4) (t + 4) x2 4) (t + 4 + 4) x3 4) (t + 4 + 4 + 4) x4 4) N rd sn) H := hP
    refine lv_aload_n hx hb dX9_feed_41 rfl (lv_at hl 0 rfl) ?_
    refine lv_iload hx hb dX9_feed_42 (lv_at hl 5 rfl) ?_
    refine va_callv (va_runV (As := [.int (x5)]) (rest := []) ⟨hx, hb, hml, hown, hts⟩ (c_X9_lays l g (a) (ha) ((upd (upd sc 0 (zI (0))) 1 (zI (((t + 4 + 4 + 4) + 4 : Nat))))) (wd) ((layP (layP (layP (layP tp (t) x1 4) (t + 4) x2 4) (t + 4 + 4) x3 4) (t + 4 + 4 + 4) x4 4)) (N) (rd) (sn) (x5) ((t + 4 + 4 + 4 + 4)) (rfl) (by omega)) (cwV 1 hts gX9_feed_X9_lays rfl rfl rfl (by decide +kernel) ⟨Nat.le_of_ble_eq_true rfl, Nat.le_of_ble_eq_true rfl⟩) (g_preV hP hK (va_recv hK hP (q0 := 0) (ci := 9) rfl rfl)) rfl rfl hl.1 rfl (lv_room (Nat.le_of_ble_eq_true rfl)) dX9_feed_44 ⟨Nat.le_of_ble_eq_true rfl, Nat.le_of_ble_eq_true rfl⟩) hS (fun q _ h => h) (fun q h => h) (fun u9 t9 H1 locs ht9 hvm9 hw9 hB9 hz9 hk9 hS => ?_)
    rw [ht9] at hB9
    have hP := hB9
    clear hB9 hz9 hk9 hvm9 ht9
    generalize H1 = H at hP hS ⊢
    have hP : gP g (mW g a (upd (upd sc 0 (zI (0))) 1 (zI (((t + 4 + 4 + 4 + 4) + 4 : Nat)))) wd (layP (layP (layP (layP (layP tp (t) x1 4) (t + 4) x2 4) (t + 4 + 4) x3 4) (t + 4 + 4 + 4) x4 4) (t + 4 + 4 + 4 + 4) x5 4) N rd sn) H := hP
    refine lv_aload_n hx hb dX9_feed_47 rfl (lv_at hl 0 rfl) ?_
    refine va_get (D := g.1) (ci := 9) (v := .int (zI (((t + 4 + 4 + 4 + 4) + 4 : Nat)))) (C := RX9) (T := TX9) (N := 15) hx hb hts hinX9 hown hK hP 0 rfl rfl 2 (by decide) k11 (fun _ h9 => h9) rfl dX9_feed_48 ?_
    exact W.iret hx hb hr (fun tX htX hWX => ⟨⟨_, (), rfl, congrArg zI (by unfold feedR; rw [if_neg (by omega)]; omega), g_at htX ((by rw [feedT, feedZ, if_neg (by omega), if_neg (by omega), show ((t + 20 : Nat)) = t + 4 + 4 + 4 + 4 + 4 by omega]; exact hP))⟩, hS.F htX⟩) hS.2.2 dX9_feed_51
  · refine lv_iconst (v := zI (-1)) hx hb dX9_feed_18 (by decide) ?_
    exact W.iret hx hb hr (fun tX htX hWX => ⟨⟨_, (), rfl, congrArg zI (by unfold feedR; rw [if_pos (by omega)]), g_at htX ((by rw [feedT, feedZ, if_pos (by omega), if_pos (by omega), upd_same (f := upd sc 0 (zI 0)) (k := 1) (show sc 1 = _ from ht)]; exact hP))⟩, hS.F htX⟩) hS.2.2 dX9_feed_19

set_option maxHeartbeats 4000000 in
set_option maxRecDepth 100000 in
theorem c_X9_end (l : Launch) (g : GG) (a : Nat → Nat) (ha : aD a) (sc : Nat → Int32) (wd : Int64) (tp N rd sn : Nat → Int32) (v : Int) (hv : R32 v) (t : Nat) (ht : sc 1 = zI t) (ht7 : t ≤ 740) : Met l yX9_end wsX9_end ({ frames := 0, cells := 0, slots := 0, locals := 0 }) (gPc g [.ref ((a 0)), .int (zI (v))] (gP g (mW g a sc wd tp N rd sn))) (va_Qi (fun (r : Int32) (_ : Unit) => r = zI (bz (0 ≤ v ∧ v ≤ t))) (fun (_ : Unit) (tS : State) => gP g (mW g a (upd (upd sc 0 (zI (0))) 1 (zI (endZ t v))) wd tp N rd sn) tS.heap) (mA a)) 0 0 (mA a) := by
  refine Met.ofW (cc := cX9_end) (maxL := 2) (ret := (some .boolean)) (by decide) rfl ?_
  intro p e s m args below meth c s₁ B hml hv
  obtain ⟨rfl, hP, hK⟩ := hv
  have hx := B.exec
  have hb := B.bytes
  have hr := B.returns
  have hts := atoms_spec (ws := wsX9_end) B.pre
  have hown : s.vm.findClass RX9 = some m.cls := findClass_of_methodNamed B.named
  have hlocks := B.notSynchronized
  have hinX9 : ∀ w ∈ wsX90, w ∈ wsX9_end := by decide +kernel
  have k1 := hts (.fieldLink RX9 1 "HoursBankModel" "thrown" "I") (by decide +kernel)
  have k11 := hts (.fieldLink RX9 11 "HoursBankModel" "taped" "I") (by decide +kernel)
  have hl := lv_entry ([.ref ((a 0)), .int (zI (v))]) (n := 2) (Nat.le_of_ble_eq_true rfl)
  rw [lg_entry_eq]
  generalize (lg_sl ([.ref ((a 0)), .int (zI (v))]) ++ List.replicate (2 - (lg_sl ([.ref ((a 0)), .int (zI (v))])).length) Slot.unset).toArray = ls at hl ⊢
  have hl : lv_has ls 2 [(0, .ref ((a 0))), (1, .int (zI (v)))] := hl
  have hS : va_S (mA a) s.heap s.heap [] := va_S.rf
  obtain ⟨H, hH9⟩ : ∃ H, H = s.heap := ⟨_, rfl⟩
  obtain ⟨locs, hL9⟩ : ∃ x : List Loc, x = [] := ⟨_, rfl⟩
  have hP : gP g (mW g a sc wd tp N rd sn) H := hH9 ▸ hP
  have hS : va_S (mA a) s.heap H locs := by rw [hH9, hL9]; exact hS
  refine z_start hH9 hL9 ?_
  clear hH9 hL9
  refine lv_aload_n hx hb dX9_end_0 rfl (lv_at hl 0 rfl) ?_
  refine lv_iconst (v := zI (0)) hx hb dX9_end_1 (by decide) ?_
  refine va_put (D := g.1) (ci := 9) (v := .int (zI (0))) (ty := .int) (C := RX9) (T := TX9) (N := 15) hx hb hts hinX9 tyX9 tyX9_ok nmX9 hown hK hP (mD ha) hS 0 rfl rfl 0 (by decide) k1 (fun _ h9 => h9) rfl (by decide +kernel) rfl rfl (Nat.le_of_ble_eq_true rfl) dX9_end_2 (fun H locs hP _ hS => ?_)
  have hP : gP g (mW g a (upd sc 0 (zI (0))) wd tp N rd sn) H := hP
  refine lv_iload_n hx hb dX9_end_5 rfl (lv_at hl 1 rfl) ?_
  refine z_if_lt (tgt := 17) hx hb dX9_end_6 (by decide) (by omega) (fun h6 => ?_) (fun h6 => ?_)
  · refine lv_iconst (v := zI (0)) hx hb dX9_end_17 (by decide) ?_
    exact W.zret hx hb hr (by decide) (fun tX htX hWX => ⟨⟨_, (), rfl, bz_0 (by omega), g_at htX ((by rw [endZ, if_neg (by omega), upd_same (f := upd sc 0 (zI 0)) (k := 1) (show sc 1 = _ from ht)]; exact hP))⟩, hS.F htX⟩) hS.2.2 dX9_end_18
  · refine lv_iload_n hx hb dX9_end_9 rfl (lv_at hl 1 rfl) ?_
    refine lv_aload_n hx hb dX9_end_10 rfl (lv_at hl 0 rfl) ?_
    refine va_get (D := g.1) (ci := 9) (v := .int (sc 1)) (C := RX9) (T := TX9) (N := 15) hx hb hts hinX9 hown hK hP 0 rfl rfl 2 (by decide) k11 (fun _ h9 => h9) rfl dX9_end_11 ?_
    refine z_top (y := zI (t)) (ht) ?_
    refine z_icmp_le (tgt := 19) hx hb dX9_end_14 (by decide) (by omega) (by omega) (fun h14 => ?_) (fun h14 => ?_)
    · refine lv_aload_n hx hb dX9_end_19 rfl (lv_at hl 0 rfl) ?_
      refine lv_iload_n hx hb dX9_end_20 rfl (lv_at hl 1 rfl) ?_
      refine va_put (D := g.1) (ci := 9) (v := .int (zI (v))) (ty := .int) (C := RX9) (T := TX9) (N := 15) hx hb hts hinX9 tyX9 tyX9_ok nmX9 hown hK hP (mD ha) hS 0 rfl rfl 2 (by decide) k11 (fun _ h9 => h9) rfl (by decide +kernel) rfl rfl (Nat.le_of_ble_eq_true rfl) dX9_end_21 (fun H locs hP _ hS => ?_)
      have hP : gP g (mW g a (upd (upd sc 0 (zI (0))) 1 (zI (v))) wd tp N rd sn) H := hP
      refine lv_iconst (v := zI (1)) hx hb dX9_end_24 (by decide) ?_
      exact W.zret hx hb hr (by decide) (fun tX htX hWX => ⟨⟨_, (), rfl, bz_1 (by omega), g_at htX ((by rw [endZ, if_pos (by omega)]; exact hP))⟩, hS.F htX⟩) hS.2.2 dX9_end_25
    · refine lv_iconst (v := zI (0)) hx hb dX9_end_17 (by decide) ?_
      exact W.zret hx hb hr (by decide) (fun tX htX hWX => ⟨⟨_, (), rfl, bz_0 (by omega), g_at htX ((by rw [endZ, if_neg (by omega), upd_same (f := upd sc 0 (zI 0)) (k := 1) (show sc 1 = _ from ht)]; exact hP))⟩, hS.F htX⟩) hS.2.2 dX9_end_18
