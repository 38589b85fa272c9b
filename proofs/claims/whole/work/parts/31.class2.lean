set_option maxHeartbeats 4000000 in
set_option maxRecDepth 100000 in
theorem c_X0_isGone (l : Launch) (g : GG) (ac : Nat) (af : Nat → Int32) (gd : Nat) (h8 : af 8 = zI gd) (hgd : gd ≤ 365) : Met l yX0_isGone wsX0_isGone ({ frames := 0, cells := 0, slots := 0, locals := 0 }) (gPc g [.ref ac] (gP g [(ac, .inr (0, acF af))])) (vp_Si (fun r : Int32 => r = zI (bz (¬ gd = 365)))) 0 0 (fun _ => False) := by
  refine Met.ofW (cc := cX0_isGone) (maxL := 1) (ret := (some .boolean)) (by decide) rfl ?_
  intro p e s m args below meth c s₁ B hml hv
  obtain ⟨rfl, hPre, hK⟩ := hv
  have hx := B.exec
  have hb := B.bytes
  have hr := B.returns
  have hts := atoms_spec (ws := wsX0_isGone) B.pre
  have hown : s.vm.findClass RX0 = some m.cls := findClass_of_methodNamed B.named
  have hlocks := B.notSynchronized
  have hinX0 : ∀ w ∈ wsX00, w ∈ wsX0_isGone := by decide +kernel
  have k11 := hts (.fieldLink RX0 11 "HoursBank$Account" "goneOn" "I") (by decide +kernel)
  have hl := lv_entry ([.ref ac]) (n := 1) (Nat.le_of_ble_eq_true rfl)
  rw [lg_entry_eq]
  generalize (lg_sl ([.ref ac]) ++ List.replicate (1 - (lg_sl ([.ref ac])).length) Slot.unset).toArray = ls at hl ⊢
  have hl : lv_has ls 1 [(0, .ref ac)] := hl
  have hP : gP g [(ac, .inr (0, acF af))] s.heap := hPre
  refine lv_aload_n hx hb dX0_isGone_0 rfl (lv_at hl 0 rfl) ?_
  refine va_get (D := g.1) (ci := 0) (v := .int (af 8)) (C := RX0) (T := TX0) (N := 9) hx hb hts hinX0 hown hK hP 0 rfl rfl 8 (by decide) k11 (fun _ h9 => h9) rfl dX0_isGone_1 ?_
  refine z_top (y := zI (gd)) (h8) ?_
  refine lv_sipush (v := zI (365)) hx hb dX0_isGone_4 (by decide) ?_
  refine z_icmp_eq (tgt := 14) hx hb dX0_isGone_7 (by decide) (by omega) (by omega) (fun h7 => ?_) (fun h7 => ?_)
  · refine lv_iconst (v := zI (0)) hx hb dX0_isGone_14 (by decide) ?_
    exact W.zret hx hb hr (by decide) (fun tX htX hWX => ⟨_, rfl, bz_0 (by omega), htX⟩) (fun _ h9 => by cases h9) dX0_isGone_15
  · refine lv_iconst (v := zI (1)) hx hb dX0_isGone_10 (by decide) ?_
    refine lv_goto (tgt := 15) hx hb dX0_isGone_11 (by decide) ?_
    exact W.zret hx hb hr (by decide) (fun tX htX hWX => ⟨_, rfl, bz_1 (by omega), htX⟩) (fun _ h9 => by cases h9) dX0_isGone_15

set_option maxHeartbeats 4000000 in
set_option maxRecDepth 100000 in
theorem c_X0_coinsPaid (l : Launch) (g : GG) (ac : Nat) (af : Nat → Int32)  : Met l yX0_coinsPaid wsX0_coinsPaid ({ frames := 0, cells := 0, slots := 0, locals := 0 }) (gPc g [.ref ac] (gP g [(ac, .inr (0, acF af))])) (vp_Si (fun r : Int32 => r = af 3 + af 4 + af 6 - af 5)) 0 0 (fun _ => False) := by
  refine Met.ofW (cc := cX0_coinsPaid) (maxL := 1) (ret := (some .int)) (by decide) rfl ?_
  intro p e s m args below meth c s₁ B hml hv
  obtain ⟨rfl, hPre, hK⟩ := hv
  have hx := B.exec
  have hb := B.bytes
  have hr := B.returns
  have hts := atoms_spec (ws := wsX0_coinsPaid) B.pre
  have hown : s.vm.findClass RX0 = some m.cls := findClass_of_methodNamed B.named
  have hlocks := B.notSynchronized
  have hinX0 : ∀ w ∈ wsX00, w ∈ wsX0_coinsPaid := by decide +kernel
  have k24 := hts (.fieldLink RX0 24 "HoursBank$Account" "overtimeCoins" "I") (by decide +kernel)
  have k27 := hts (.fieldLink RX0 27 "HoursBank$Account" "changeCoins" "I") (by decide +kernel)
  have k33 := hts (.fieldLink RX0 33 "HoursBank$Account" "settled" "I") (by decide +kernel)
  have k30 := hts (.fieldLink RX0 30 "HoursBank$Account" "dockedCoins" "I") (by decide +kernel)
  have hl := lv_entry ([.ref ac]) (n := 1) (Nat.le_of_ble_eq_true rfl)
  rw [lg_entry_eq]
  generalize (lg_sl ([.ref ac]) ++ List.replicate (1 - (lg_sl ([.ref ac])).length) Slot.unset).toArray = ls at hl ⊢
  have hl : lv_has ls 1 [(0, .ref ac)] := hl
  have hP : gP g [(ac, .inr (0, acF af))] s.heap := hPre
  refine lv_aload_n hx hb dX0_coinsPaid_0 rfl (lv_at hl 0 rfl) ?_
  refine va_get (D := g.1) (ci := 0) (v := .int (af 3)) (C := RX0) (T := TX0) (N := 9) hx hb hts hinX0 hown hK hP 0 rfl rfl 3 (by decide) k24 (fun _ h9 => h9) rfl dX0_coinsPaid_1 ?_
  refine lv_aload_n hx hb dX0_coinsPaid_4 rfl (lv_at hl 0 rfl) ?_
  refine va_get (D := g.1) (ci := 0) (v := .int (af 4)) (C := RX0) (T := TX0) (N := 9) hx hb hts hinX0 hown hK hP 0 rfl rfl 4 (by decide) k27 (fun _ h9 => h9) rfl dX0_coinsPaid_5 ?_
  refine lv_iadd hx hb dX0_coinsPaid_8 ?_
  refine lv_aload_n hx hb dX0_coinsPaid_9 rfl (lv_at hl 0 rfl) ?_
  refine va_get (D := g.1) (ci := 0) (v := .int (af 6)) (C := RX0) (T := TX0) (N := 9) hx hb hts hinX0 hown hK hP 0 rfl rfl 6 (by decide) k33 (fun _ h9 => h9) rfl dX0_coinsPaid_10 ?_
  refine lv_iadd hx hb dX0_coinsPaid_13 ?_
  refine lv_aload_n hx hb dX0_coinsPaid_14 rfl (lv_at hl 0 rfl) ?_
  refine va_get (D := g.1) (ci := 0) (v := .int (af 5)) (C := RX0) (T := TX0) (N := 9) hx hb hts hinX0 hown hK hP 0 rfl rfl 5 (by decide) k30 (fun _ h9 => h9) rfl dX0_coinsPaid_15 ?_
  refine lv_isub hx hb dX0_coinsPaid_18 ?_
  exact W.iret hx hb hr (fun tX htX hWX => ⟨_, rfl, rfl, htX⟩) (fun _ h9 => by cases h9) dX0_coinsPaid_19

set_option maxHeartbeats 4000000 in
set_option maxRecDepth 100000 in
theorem c_X2_low (l : Launch) (g : GG) (ru : Nat) (N : Nat → Int32) (hN : okN N)  : Met l yX2_low wsX2_low ({ frames := 0, cells := 0, slots := 0, locals := 0 }) (gPc g [.ref ru] (rdR g ru N)) (vp_Si (fun r : Int32 => r = zI (mn N 0))) 0 0 (fun _ => False) := by
  refine Met.ofW (cc := cX2_low) (maxL := 1) (ret := (some .int)) (by decide) rfl ?_
  intro p e s m args below meth c s₁ B hml hv
  obtain ⟨rfl, hPre, hK⟩ := hv
  have hx := B.exec
  have hb := B.bytes
  have hr := B.returns
  have hts := atoms_spec (ws := wsX2_low) B.pre
  have hown : s.vm.findClass RX2 = some m.cls := findClass_of_methodNamed B.named
  have hlocks := B.notSynchronized
  have hinX2 : ∀ w ∈ wsX20, w ∈ wsX2_low := by decide +kernel
  have k11 := hts (.fieldLink RX2 11 "HoursBank$Rules" "banks" "[[I") (by decide +kernel)
  have hl := lv_entry ([.ref ru]) (n := 1) (Nat.le_of_ble_eq_true rfl)
  rw [lg_entry_eq]
  generalize (lg_sl ([.ref ru]) ++ List.replicate (1 - (lg_sl ([.ref ru])).length) Slot.unset).toArray = ls at hl ⊢
  have hl : lv_has ls 1 [(0, .ref ru)] := hl
  obtain ⟨ra, rc, hP, hR⟩ := id hPre
  refine lv_aload_n hx hb dX2_low_0 rfl (lv_at hl 0 rfl) ?_
  refine va_get (D := g.1) (ci := 2) (v := .ref ((ra 0))) (C := RX2) (T := TX2) (N := 5) hx hb hts hinX2 hown hK hP 0 rfl rfl 0 (by decide) k11 (fun _ h9 => h9) rfl dX2_low_1 ?_
  refine lv_iconst (v := zI (0)) hx hb dX2_low_4 (by decide) ?_
  refine z_aald hx hb hK hP 1 6 rfl rfl rfl (by decide) (0) (by omega) (by omega) rfl dX2_low_5 ?_
  refine lv_iconst (v := zI (0)) hx hb dX2_low_6 (by decide) ?_
  refine z_iald hx hb hK hP 2 0 (rfl) rfl (by decide) (0) (by omega) (by omega) dX2_low_7 ?_
  refine z_top (y := zI (mn N 0)) ((hR.1 0 (by omega)).trans hN.lo.eq) ?_
  exact W.iret hx hb hr (fun tX htX hWX => ⟨_, rfl, rfl, htX⟩) (fun _ h9 => by cases h9) dX2_low_8

set_option maxHeartbeats 4000000 in
set_option maxRecDepth 100000 in
theorem c_X2_high (l : Launch) (g : GG) (ru : Nat) (N : Nat → Int32) (hN : okN N)  : Met l yX2_high wsX2_high ({ frames := 0, cells := 0, slots := 0, locals := 0 }) (gPc g [.ref ru] (rdR g ru N)) (vp_Si (fun r : Int32 => r = zI (mn N 1))) 0 0 (fun _ => False) := by
  refine Met.ofW (cc := cX2_high) (maxL := 1) (ret := (some .int)) (by decide) rfl ?_
  intro p e s m args below meth c s₁ B hml hv
  obtain ⟨rfl, hPre, hK⟩ := hv
  have hx := B.exec
  have hb := B.bytes
  have hr := B.returns
  have hts := atoms_spec (ws := wsX2_high) B.pre
  have hown : s.vm.findClass RX2 = some m.cls := findClass_of_methodNamed B.named
  have hlocks := B.notSynchronized
  have hinX2 : ∀ w ∈ wsX20, w ∈ wsX2_high := by decide +kernel
  have k11 := hts (.fieldLink RX2 11 "HoursBank$Rules" "banks" "[[I") (by decide +kernel)
  have hl := lv_entry ([.ref ru]) (n := 1) (Nat.le_of_ble_eq_true rfl)
  rw [lg_entry_eq]
  generalize (lg_sl ([.ref ru]) ++ List.replicate (1 - (lg_sl ([.ref ru])).length) Slot.unset).toArray = ls at hl ⊢
  have hl : lv_has ls 1 [(0, .ref ru)] := hl
  obtain ⟨ra, rc, hP, hR⟩ := id hPre
  refine lv_aload_n hx hb dX2_high_0 rfl (lv_at hl 0 rfl) ?_
  refine va_get (D := g.1) (ci := 2) (v := .ref ((ra 0))) (C := RX2) (T := TX2) (N := 5) hx hb hts hinX2 hown hK hP 0 rfl rfl 0 (by decide) k11 (fun _ h9 => h9) rfl dX2_high_1 ?_
  refine lv_iconst (v := zI (0)) hx hb dX2_high_4 (by decide) ?_
  refine z_aald hx hb hK hP 1 6 rfl rfl rfl (by decide) (0) (by omega) (by omega) rfl dX2_high_5 ?_
  refine lv_iconst (v := zI (1)) hx hb dX2_high_6 (by decide) ?_
  refine z_iald hx hb hK hP 2 0 (rfl) rfl (by decide) (1) (by omega) (by omega) dX2_high_7 ?_
  refine z_top (y := zI (mn N 1)) ((hR.1 1 (by omega)).trans hN.hi.eq) ?_
  exact W.iret hx hb hr (fun tX htX hWX => ⟨_, rfl, rfl, htX⟩) (fun _ h9 => by cases h9) dX2_high_8

set_option maxHeartbeats 4000000 in
set_option maxRecDepth 100000 in
theorem c_X2_window (l : Launch) (g : GG) (ru : Nat) (N : Nat → Int32) (hN : okN N)  : Met l yX2_window wsX2_window ({ frames := 0, cells := 0, slots := 0, locals := 0 }) (gPc g [.ref ru] (rdR g ru N)) (vp_Si (fun r : Int32 => r = zI (mn N 2))) 0 0 (fun _ => False) := by
  refine Met.ofW (cc := cX2_window) (maxL := 1) (ret := (some .int)) (by decide) rfl ?_
  intro p e s m args below meth c s₁ B hml hv
  obtain ⟨rfl, hPre, hK⟩ := hv
  have hx := B.exec
  have hb := B.bytes
  have hr := B.returns
  have hts := atoms_spec (ws := wsX2_window) B.pre
  have hown : s.vm.findClass RX2 = some m.cls := findClass_of_methodNamed B.named
  have hlocks := B.notSynchronized
  have hinX2 : ∀ w ∈ wsX20, w ∈ wsX2_window := by decide +kernel
  have k11 := hts (.fieldLink RX2 11 "HoursBank$Rules" "banks" "[[I") (by decide +kernel)
  have hl := lv_entry ([.ref ru]) (n := 1) (Nat.le_of_ble_eq_true rfl)
  rw [lg_entry_eq]
  generalize (lg_sl ([.ref ru]) ++ List.replicate (1 - (lg_sl ([.ref ru])).length) Slot.unset).toArray = ls at hl ⊢
  have hl : lv_has ls 1 [(0, .ref ru)] := hl
  obtain ⟨ra, rc, hP, hR⟩ := id hPre
  refine lv_aload_n hx hb dX2_window_0 rfl (lv_at hl 0 rfl) ?_
  refine va_get (D := g.1) (ci := 2) (v := .ref ((ra 0))) (C := RX2) (T := TX2) (N := 5) hx hb hts hinX2 hown hK hP 0 rfl rfl 0 (by decide) k11 (fun _ h9 => h9) rfl dX2_window_1 ?_
  refine lv_iconst (v := zI (0)) hx hb dX2_window_4 (by decide) ?_
  refine z_aald hx hb hK hP 1 6 rfl rfl rfl (by decide) (0) (by omega) (by omega) rfl dX2_window_5 ?_
  refine lv_iconst (v := zI (2)) hx hb dX2_window_6 (by decide) ?_
  refine z_iald hx hb hK hP 2 0 (rfl) rfl (by decide) (2) (by omega) (by omega) dX2_window_7 ?_
  refine z_top (y := zI (mn N 2)) ((hR.1 2 (by omega)).trans hN.win.eq) ?_
  exact W.iret hx hb hr (fun tX htX hWX => ⟨_, rfl, rfl, htX⟩) (fun _ h9 => by cases h9) dX2_window_8

set_option maxHeartbeats 4000000 in
set_option maxRecDepth 100000 in
theorem c_X2_limit (l : Launch) (g : GG) (ru : Nat) (N : Nat → Int32) (hN : okN N)  : Met l yX2_limit wsX2_limit ({ frames := 0, cells := 0, slots := 0, locals := 0 }) (gPc g [.ref ru] (rdR g ru N)) (vp_Si (fun r : Int32 => r = zI (mn N 3))) 0 0 (fun _ => False) := by
  refine Met.ofW (cc := cX2_limit) (maxL := 1) (ret := (some .int)) (by decide) rfl ?_
  intro p e s m args below meth c s₁ B hml hv
  obtain ⟨rfl, hPre, hK⟩ := hv
  have hx := B.exec
  have hb := B.bytes
  have hr := B.returns
  have hts := atoms_spec (ws := wsX2_limit) B.pre
  have hown : s.vm.findClass RX2 = some m.cls := findClass_of_methodNamed B.named
  have hlocks := B.notSynchronized
  have hinX2 : ∀ w ∈ wsX20, w ∈ wsX2_limit := by decide +kernel
  have k11 := hts (.fieldLink RX2 11 "HoursBank$Rules" "banks" "[[I") (by decide +kernel)
  have hl := lv_entry ([.ref ru]) (n := 1) (Nat.le_of_ble_eq_true rfl)
  rw [lg_entry_eq]
  generalize (lg_sl ([.ref ru]) ++ List.replicate (1 - (lg_sl ([.ref ru])).length) Slot.unset).toArray = ls at hl ⊢
  have hl : lv_has ls 1 [(0, .ref ru)] := hl
  obtain ⟨ra, rc, hP, hR⟩ := id hPre
  refine lv_aload_n hx hb dX2_limit_0 rfl (lv_at hl 0 rfl) ?_
  refine va_get (D := g.1) (ci := 2) (v := .ref ((ra 0))) (C := RX2) (T := TX2) (N := 5) hx hb hts hinX2 hown hK hP 0 rfl rfl 0 (by decide) k11 (fun _ h9 => h9) rfl dX2_limit_1 ?_
  refine lv_iconst (v := zI (0)) hx hb dX2_limit_4 (by decide) ?_
  refine z_aald hx hb hK hP 1 6 rfl rfl rfl (by decide) (0) (by omega) (by omega) rfl dX2_limit_5 ?_
  refine lv_iconst (v := zI (3)) hx hb dX2_limit_6 (by decide) ?_
  refine z_iald hx hb hK hP 2 0 (rfl) rfl (by decide) (3) (by omega) (by omega) dX2_limit_7 ?_
  refine z_top (y := zI (mn N 3)) ((hR.1 3 (by omega)).trans hN.lim.eq) ?_
  exact W.iret hx hb hr (fun tX htX hWX => ⟨_, rfl, rfl, htX⟩) (fun _ h9 => by cases h9) dX2_limit_8

set_option maxHeartbeats 4000000 in
set_option maxRecDepth 100000 in
theorem c_X2_seasons (l : Launch) (g : GG) (ru : Nat) (N : Nat → Int32) (hN : okN N)  : Met l yX2_seasons wsX2_seasons ({ frames := 0, cells := 0, slots := 0, locals := 0 }) (gPc g [.ref ru] (rdR g ru N)) (vp_Si (fun r : Int32 => r = zI (mn N 4))) 0 0 (fun _ => False) := by
  refine Met.ofW (cc := cX2_seasons) (maxL := 1) (ret := (some .int)) (by decide) rfl ?_
  intro p e s m args below meth c s₁ B hml hv
  obtain ⟨rfl, hPre, hK⟩ := hv
  have hx := B.exec
  have hb := B.bytes
  have hr := B.returns
  have hts := atoms_spec (ws := wsX2_seasons) B.pre
  have hown : s.vm.findClass RX2 = some m.cls := findClass_of_methodNamed B.named
  have hlocks := B.notSynchronized
  have hinX2 : ∀ w ∈ wsX20, w ∈ wsX2_seasons := by decide +kernel
  have k25 := hts (.fieldLink RX2 25 "HoursBank$Rules" "counts" "[I") (by decide +kernel)
  have hl := lv_entry ([.ref ru]) (n := 1) (Nat.le_of_ble_eq_true rfl)
  rw [lg_entry_eq]
  generalize (lg_sl ([.ref ru]) ++ List.replicate (1 - (lg_sl ([.ref ru])).length) Slot.unset).toArray = ls at hl ⊢
  have hl : lv_has ls 1 [(0, .ref ru)] := hl
  obtain ⟨ra, rc, hP, hR⟩ := id hPre
  refine lv_aload_n hx hb dX2_seasons_0 rfl (lv_at hl 0 rfl) ?_
  refine va_get (D := g.1) (ci := 2) (v := .ref ((ra 17))) (C := RX2) (T := TX2) (N := 5) hx hb hts hinX2 hown hK hP 0 rfl rfl 4 (by decide) k25 (fun _ h9 => h9) rfl dX2_seasons_1 ?_
  refine lv_iconst (v := zI (1)) hx hb dX2_seasons_4 (by decide) ?_
  refine z_iald hx hb hK hP 18 0 (rfl) rfl (by decide) (1) (by omega) (by omega) dX2_seasons_5 ?_
  refine z_top (y := zI (mn N 4)) (hR.2.1.trans hN.ns.eq) ?_
  exact W.iret hx hb hr (fun tX htX hWX => ⟨_, rfl, rfl, htX⟩) (fun _ h9 => by cases h9) dX2_seasons_6

set_option maxHeartbeats 4000000 in
set_option maxRecDepth 100000 in
theorem c_X2_workers (l : Launch) (g : GG) (ru : Nat) (N : Nat → Int32) (hN : okN N)  : Met l yX2_workers wsX2_workers ({ frames := 0, cells := 0, slots := 0, locals := 0 }) (gPc g [.ref ru] (rdR g ru N)) (vp_Si (fun r : Int32 => r = zI (mn N 57))) 0 0 (fun _ => False) := by
  refine Met.ofW (cc := cX2_workers) (maxL := 1) (ret := (some .int)) (by decide) rfl ?_
  intro p e s m args below meth c s₁ B hml hv
  obtain ⟨rfl, hPre, hK⟩ := hv
  have hx := B.exec
  have hb := B.bytes
  have hr := B.returns
  have hts := atoms_spec (ws := wsX2_workers) B.pre
  have hown : s.vm.findClass RX2 = some m.cls := findClass_of_methodNamed B.named
  have hlocks := B.notSynchronized
  have hinX2 : ∀ w ∈ wsX20, w ∈ wsX2_workers := by decide +kernel
  have k25 := hts (.fieldLink RX2 25 "HoursBank$Rules" "counts" "[I") (by decide +kernel)
  have hl := lv_entry ([.ref ru]) (n := 1) (Nat.le_of_ble_eq_true rfl)
  rw [lg_entry_eq]
  generalize (lg_sl ([.ref ru]) ++ List.replicate (1 - (lg_sl ([.ref ru])).length) Slot.unset).toArray = ls at hl ⊢
  have hl : lv_has ls 1 [(0, .ref ru)] := hl
  obtain ⟨ra, rc, hP, hR⟩ := id hPre
  refine lv_aload_n hx hb dX2_workers_0 rfl (lv_at hl 0 rfl) ?_
  refine va_get (D := g.1) (ci := 2) (v := .ref ((ra 17))) (C := RX2) (T := TX2) (N := 5) hx hb hts hinX2 hown hK hP 0 rfl rfl 4 (by decide) k25 (fun _ h9 => h9) rfl dX2_workers_1 ?_
  refine lv_iconst (v := zI (3)) hx hb dX2_workers_4 (by decide) ?_
  refine z_iald hx hb hK hP 18 0 (rfl) rfl (by decide) (3) (by omega) (by omega) dX2_workers_5 ?_
  refine z_top (y := zI (mn N 57)) (hR.2.2.2.1.trans hN.nw.eq) ?_
  exact W.iret hx hb hr (fun tX htX hWX => ⟨_, rfl, rfl, htX⟩) (fun _ h9 => by cases h9) dX2_workers_6

set_option maxHeartbeats 4000000 in
set_option maxRecDepth 100000 in
theorem c_X2_seasonPlan (l : Launch) (g : GG) (ru : Nat) (N : Nat → Int32) (hN : okN N) (d : Nat) (hd : d < 364) : Met l yX2_seasonPlan wsX2_seasonPlan ({ frames := 0, cells := 0, slots := 0, locals := 0 }) (gPc g [.ref ru, .int (zI (d))] (rdR g ru N)) (vp_Si (fun r : Int32 => r = zI (seaP N d (mn N 4)))) 0 0 (fun _ => False) := by
  refine Met.ofW (cc := cX2_seasonPlan) (maxL := 3) (ret := (some .int)) (by decide) rfl ?_
  intro p e s m args below meth c s₁ B hml hv
  obtain ⟨rfl, hPre, hK⟩ := hv
  have hx := B.exec
  have hb := B.bytes
  have hr := B.returns
  have hts := atoms_spec (ws := wsX2_seasonPlan) B.pre
  have hown : s.vm.findClass RX2 = some m.cls := findClass_of_methodNamed B.named
  have hlocks := B.notSynchronized
  have hinX2 : ∀ w ∈ wsX20, w ∈ wsX2_seasonPlan := by decide +kernel
  have k25 := hts (.fieldLink RX2 25 "HoursBank$Rules" "counts" "[I") (by decide +kernel)
  have k16 := hts (.fieldLink RX2 16 "HoursBank$Rules" "seasons" "[[I") (by decide +kernel)
  have hl := lv_entry ([.ref ru, .int (zI (d))]) (n := 3) (Nat.le_of_ble_eq_true rfl)
  rw [lg_entry_eq]
  generalize (lg_sl ([.ref ru, .int (zI (d))]) ++ List.replicate (3 - (lg_sl ([.ref ru, .int (zI (d))])).length) Slot.unset).toArray = ls at hl ⊢
  have hl : lv_has ls 3 [(0, .ref ru), (1, .int (zI (d)))] := hl
  obtain ⟨ra, rc, hP, hR⟩ := id hPre
  refine lv_aload_n hx hb dX2_seasonPlan_0 rfl (lv_at hl 0 rfl) ?_
  refine va_get (D := g.1) (ci := 2) (v := .ref ((ra 17))) (C := RX2) (T := TX2) (N := 5) hx hb hts hinX2 hown hK hP 0 rfl rfl 4 (by decide) k25 (fun _ h9 => h9) rfl dX2_seasonPlan_1 ?_
  refine lv_iconst (v := zI (1)) hx hb dX2_seasonPlan_4 (by decide) ?_
  refine z_iald hx hb hK hP 18 0 (rfl) rfl (by decide) (1) (by omega) (by omega) dX2_seasonPlan_5 ?_
  refine z_top (y := zI (mn N 4)) (hR.2.1.trans hN.ns.eq) ?_
  refine lv_iconst (v := zI (1)) hx hb dX2_seasonPlan_6 (by decide) ?_
  refine z_isub hx hb dX2_seasonPlan_7 ?_
  refine lv_istore_n (lv' := [(2, .int (zI ((mn N 4) - 1))), (0, .ref ru), (1, .int (zI (d)))]) hx hb dX2_seasonPlan_8 rfl hl (by decide) rfl (fun ls hl => ?_)
  have loop9 : ∀ (K9 : Nat) (k : Nat) (hK9 : k < K9) (hk : k ≤ mn N 4) (hinv : seaP N d (mn N 4) = seaP N d k) (ls : Array Slot) (hl : lv_has ls 3 [(2, .int (zI (k - 1))), (0, .ref ru), (1, .int (zI (d)))]), W p l e (headSpec wsX2_seasonPlan ({ frames := 0, cells := 0, slots := 0, locals := 0 })).room s m ([.ref ru, .int (zI (d))] : List Value).toArray below meth c s.heap [] 0 0 (MQ below (vp_Si (fun r : Int32 => r = zI (seaP N d (mn N 4)))) ([.ref ru, .int (zI (d))] : List Value).toArray s 0 0 (fun _ => False)) (F0 m 9 ls []) := by
    intro K9
    induction K9 with
    | zero => intro k hK9; exact absurd hK9 (Nat.not_lt_zero _)
    | succ K9 ih =>
      intro k hK9 hk hinv ls hl
      refine lv_iload_n hx hb dX2_seasonPlan_9 rfl (lv_at hl 0 rfl) ?_
      have hq := hN.ns.le
      refine z_if_lt (tgt := 57) hx hb dX2_seasonPlan_10 (by decide) (by omega) (fun h10 => ?_) (fun h10 => ?_)
      · refine lv_iconst (v := zI (0)) hx hb dX2_seasonPlan_57 (by decide) ?_
        exact W.iret hx hb hr (fun tX htX hWX => ⟨_, rfl, congrArg zI (by rw [hinv, show k = 0 by omega]; rfl), htX⟩) (fun _ h9 => by cases h9) dX2_seasonPlan_58
      · obtain ⟨j, rfl⟩ : ∃ j, k = j + 1 := ⟨k - 1, by omega⟩
        have q0 := (hN.s0 (i := j) (by omega)).le
        have q1 := (hN.s1 (i := j) (by omega)).le
        refine lv_aload_n hx hb dX2_seasonPlan_13 rfl (lv_at hl 1 rfl) ?_
        refine va_get (D := g.1) (ci := 2) (v := .ref ((ra 2))) (C := RX2) (T := TX2) (N := 5) hx hb hts hinX2 hown hK hP 0 rfl rfl 1 (by decide) k16 (fun _ h9 => h9) rfl dX2_seasonPlan_14 ?_
        refine lv_iload_n hx hb dX2_seasonPlan_17 rfl (lv_at hl 0 rfl) ?_
        refine z_aald hx hb hK hP 3 6 rfl rfl rfl (by decide) (j) (by omega) (by omega) rfl dX2_seasonPlan_18 ?_
        refine lv_iconst (v := zI (0)) hx hb dX2_seasonPlan_19 (by decide) ?_
        refine z_iald hx hb hK hP (4 + j) 0 (rW_s (by omega)) rfl (by decide) (0) (by omega) (by omega) dX2_seasonPlan_20 ?_
        refine z_top (y := zI (mn N (5 + 9 * j))) ((hR.2.2.2.2.1 j (by omega) 0 (by omega)).trans (hN.s0 (by omega)).eq) ?_
        refine lv_iload_n hx hb dX2_seasonPlan_21 rfl (lv_at hl 2 rfl) ?_
        refine z_icmp_gt (tgt := 51) hx hb dX2_seasonPlan_22 (by decide) (by omega) (by omega) (fun h22 => ?_) (fun h22 => ?_)
        · refine z_iinc (lv' := [(2, .int (zI ((((j + 1 : Nat) : Int) - 1) + (-1)))), (0, .ref ru), (1, .int (zI (d)))]) hx hb dX2_seasonPlan_51 hl (k := 0) rfl (by decide) rfl (fun ls hl => ?_)
          refine lv_goto (tgt := 9) hx hb dX2_seasonPlan_54 (by decide) ?_
          have hl := lv_sub (l' := [(2, .int (zI ((((j + 1 : Nat) : Int) - 1) + (-1)))), (0, .ref ru), (1, .int (zI (d)))]) hl [0, 1, 2] rfl
          have hl : lv_has ls 3 [(2, .int (zI (j - 1))), (0, .ref ru), (1, .int (zI (d)))] := lv_cg (lvE (congrArg zI (by omega)) (lvR (lvR (rfl)))) hl
          exact ih (j) (by omega) (by omega) (hinv.trans (by rw [seaP, if_neg (by omega)])) ls hl
        · refine lv_iload_n hx hb dX2_seasonPlan_25 rfl (lv_at hl 2 rfl) ?_
          refine lv_aload_n hx hb dX2_seasonPlan_26 rfl (lv_at hl 1 rfl) ?_
          refine va_get (D := g.1) (ci := 2) (v := .ref ((ra 2))) (C := RX2) (T := TX2) (N := 5) hx hb hts hinX2 hown hK hP 0 rfl rfl 1 (by decide) k16 (fun _ h9 => h9) rfl dX2_seasonPlan_27 ?_
          refine lv_iload_n hx hb dX2_seasonPlan_30 rfl (lv_at hl 0 rfl) ?_
          refine z_aald hx hb hK hP 3 6 rfl rfl rfl (by decide) (j) (by omega) (by omega) rfl dX2_seasonPlan_31 ?_
          refine lv_iconst (v := zI (1)) hx hb dX2_seasonPlan_32 (by decide) ?_
          refine z_iald hx hb hK hP (4 + j) 0 (rW_s (by omega)) rfl (by decide) (1) (by omega) (by omega) dX2_seasonPlan_33 ?_
          refine z_top (y := zI (mn N (6 + 9 * j))) ((hR.2.2.2.2.1 j (by omega) 1 (by omega)).trans ((congrArg N (by omega : 5 + 9 * j + 1 = 6 + 9 * j)).trans (hN.s1 (by omega)).eq)) ?_
          refine z_icmp_gt (tgt := 51) hx hb dX2_seasonPlan_34 (by decide) (by omega) (by omega) (fun h34 => ?_) (fun h34 => ?_)
          · refine z_iinc (lv' := [(2, .int (zI ((((j + 1 : Nat) : Int) - 1) + (-1)))), (0, .ref ru), (1, .int (zI (d)))]) hx hb dX2_seasonPlan_51 hl (k := 0) rfl (by decide) rfl (fun ls hl => ?_)
            refine lv_goto (tgt := 9) hx hb dX2_seasonPlan_54 (by decide) ?_
            have hl := lv_sub (l' := [(2, .int (zI ((((j + 1 : Nat) : Int) - 1) + (-1)))), (0, .ref ru), (1, .int (zI (d)))]) hl [0, 1, 2] rfl
            have hl : lv_has ls 3 [(2, .int (zI (j - 1))), (0, .ref ru), (1, .int (zI (d)))] := lv_cg (lvE (congrArg zI (by omega)) (lvR (lvR (rfl)))) hl
            exact ih (j) (by omega) (by omega) (hinv.trans (by rw [seaP, if_neg (by omega)])) ls hl
          · refine lv_aload_n hx hb dX2_seasonPlan_37 rfl (lv_at hl 1 rfl) ?_
            refine va_get (D := g.1) (ci := 2) (v := .ref ((ra 2))) (C := RX2) (T := TX2) (N := 5) hx hb hts hinX2 hown hK hP 0 rfl rfl 1 (by decide) k16 (fun _ h9 => h9) rfl dX2_seasonPlan_38 ?_
            refine lv_iload_n hx hb dX2_seasonPlan_41 rfl (lv_at hl 0 rfl) ?_
            refine z_aald hx hb hK hP 3 6 rfl rfl rfl (by decide) (j) (by omega) (by omega) rfl dX2_seasonPlan_42 ?_
            refine lv_iconst (v := zI (2)) hx hb dX2_seasonPlan_43 (by decide) ?_
            refine lv_iload_n hx hb dX2_seasonPlan_44 rfl (lv_at hl 2 rfl) ?_
            refine lv_bipush (v := zI (7)) hx hb dX2_seasonPlan_45 (by decide) ?_
            refine z_irem hx hb dX2_seasonPlan_47 (by omega) (by omega) ?_
            refine z_iadd hx hb dX2_seasonPlan_48 ?_
            refine z_iald hx hb hK hP (4 + j) 0 (rW_s (by omega)) rfl (by decide) (2 + d % 7) (by omega) (by omega) dX2_seasonPlan_49 ?_
            refine z_top (y := zI (mn N (7 + 9 * j + d % 7))) ((hR.2.2.2.2.1 j (by omega) (2 + d % 7) (by omega)).trans ((congrArg N (by omega : 5 + 9 * j + (2 + d % 7) = 7 + 9 * j + d % 7)).trans (hN.sq (by omega) (Nat.mod_lt d (by omega))).eq)) ?_
            exact W.iret hx hb hr (fun tX htX hWX => ⟨_, rfl, zN_cg (by rw [hinv, seaP, if_pos (by omega)]), htX⟩) (fun _ h9 => by cases h9) dX2_seasonPlan_50
  have hl := lv_sub (l' := [(2, .int (zI ((mn N 4) - 1))), (0, .ref ru), (1, .int (zI (d)))]) hl [0, 1, 2] rfl
  -- same
  exact loop9 _ (mn N 4) (Nat.lt_succ_self _) (Nat.le_refl _) (rfl) ls hl

set_option maxHeartbeats 4000000 in
set_option maxRecDepth 100000 in
theorem c_X2_percentFor (l : Launch) (g : GG) (ru : Nat) (N : Nat → Int32) (hN : okN N) (ah : Int) (hah : -1000 ≤ ah ∧ ah ≤ 1000) : Met l yX2_percentFor wsX2_percentFor ({ frames := 1, cells := 0, slots := 0, locals := 13 }) (gPc g [.ref ru, .int (zI (ah))] (rdR g ru N)) (vp_Si (fun r : Int32 => r = zI (pct N ah (mn N 50)))) 0 0 (fun _ => False) := by
  refine Met.ofW (cc := cX2_percentFor) (maxL := 4) (ret := (some .int)) (by decide) rfl ?_
  intro p e s m args below meth c s₁ B hml hv
  obtain ⟨rfl, hPre, hK⟩ := hv
  have hx := B.exec
  have hb := B.bytes
  have hr := B.returns
  have hts := atoms_spec (ws := wsX2_percentFor) B.pre
  have hown : s.vm.findClass RX2 = some m.cls := findClass_of_methodNamed B.named
  have hlocks := B.notSynchronized
  have hinX2 : ∀ w ∈ wsX20, w ∈ wsX2_percentFor := by decide +kernel
  have k25 := hts (.fieldLink RX2 25 "HoursBank$Rules" "counts" "[I") (by decide +kernel)
  have k19 := hts (.fieldLink RX2 19 "HoursBank$Rules" "notices" "[[I") (by decide +kernel)
  have k81 := hts (.methodLink RX2 81 Lib.Math.max.name) (by decide +kernel)
  have kSmax := hts (.static Lib.Math.max.name) (by decide +kernel)
  have kM := hts (.initialized "java/lang/Math") (by decide +kernel)
  have kCmax := hts (.code Lib.Math.max.name Lib.Math.max.code 2 (some .int)) (by decide +kernel)
  have hl := lv_entry ([.ref ru, .int (zI (ah))]) (n := 4) (Nat.le_of_ble_eq_true rfl)
  rw [lg_entry_eq]
  generalize (lg_sl ([.ref ru, .int (zI (ah))]) ++ List.replicate (4 - (lg_sl ([.ref ru, .int (zI (ah))])).length) Slot.unset).toArray = ls at hl ⊢
  have hl : lv_has ls 4 [(0, .ref ru), (1, .int (zI (ah)))] := hl
  obtain ⟨ra, rc, hP, hR⟩ := id hPre
  refine lv_iconst (v := zI (0)) hx hb dX2_percentFor_0 (by decide) ?_
  refine lv_istore_n (lv' := [(2, .int (zI (0))), (0, .ref ru), (1, .int (zI (ah)))]) hx hb dX2_percentFor_1 rfl hl (by decide) rfl (fun ls hl => ?_)
  refine lv_iconst (v := zI (0)) hx hb dX2_percentFor_2 (by decide) ?_
  refine lv_istore_n (lv' := [(3, .int (zI (0))), (2, .int (zI (0))), (0, .ref ru), (1, .int (zI (ah)))]) hx hb dX2_percentFor_3 rfl hl (by decide) rfl (fun ls hl => ?_)
  have loop4 : ∀ (K9 : Nat) (i : Nat) (hK9 : mn N 50 - i < K9) (hi : i ≤ mn N 50) (ls : Array Slot) (hl : lv_has ls 4 [(3, .int (zI (((i : Nat) : Int)))), (2, .int (zI (pct N ah i))), (0, .ref ru), (1, .int (zI (ah)))]), W p l e (headSpec wsX2_percentFor ({ frames := 1, cells := 0, slots := 0, locals := 13 })).room s m ([.ref ru, .int (zI (ah))] : List Value).toArray below meth c s.heap [] 0 0 (MQ below (vp_Si (fun r : Int32 => r = zI (pct N ah (mn N 50)))) ([.ref ru, .int (zI (ah))] : List Value).toArray s 0 0 (fun _ => False)) (F0 m 4 ls []) := by
    intro K9
    induction K9 with
    | zero => intro i hK9; exact absurd hK9 (Nat.not_lt_zero _)
    | succ K9 ih =>
      intro i hK9 hi ls hl
      refine lv_iload_n hx hb dX2_percentFor_4 rfl (lv_at hl 0 rfl) ?_
      refine lv_aload_n hx hb dX2_percentFor_5 rfl (lv_at hl 2 rfl) ?_
      refine va_get (D := g.1) (ci := 2) (v := .ref ((ra 17))) (C := RX2) (T := TX2) (N := 5) hx hb hts hinX2 hown hK hP 0 rfl rfl 4 (by decide) k25 (fun _ h9 => h9) rfl dX2_percentFor_6 ?_
      refine lv_iconst (v := zI (2)) hx hb dX2_percentFor_9 (by decide) ?_
      refine z_iald hx hb hK hP 18 0 (rfl) rfl (by decide) (2) (by omega) (by omega) dX2_percentFor_10 ?_
      refine z_top (y := zI (mn N 50)) (hR.2.2.1.trans hN.nn.eq) ?_
      have hq := hN.nn.le
      have hp3 := pct_le hN ah i (by omega)
      refine z_icmp_ge (tgt := 45) hx hb dX2_percentFor_11 (by decide) (by omega) (by omega) (fun h11 => ?_) (fun h11 => ?_)
      · refine lv_iload_n hx hb dX2_percentFor_45 rfl (lv_at hl 1 rfl) ?_
        exact W.iret hx hb hr (fun tX htX hWX => ⟨_, rfl, zN_cg (by rw [show i = mn N 50 by omega]), htX⟩) (fun _ h9 => by cases h9) dX2_percentFor_46
      · have q0 := (hN.n0 (i := i) (by omega)).le
        have q1 := (hN.n1 (i := i) (by omega)).le
        refine lv_aload_n hx hb dX2_percentFor_14 rfl (lv_at hl 2 rfl) ?_
        refine va_get (D := g.1) (ci := 2) (v := .ref ((ra 8))) (C := RX2) (T := TX2) (N := 5) hx hb hts hinX2 hown hK hP 0 rfl rfl 2 (by decide) k19 (fun _ h9 => h9) rfl dX2_percentFor_15 ?_
        refine lv_iload_n hx hb dX2_percentFor_18 rfl (lv_at hl 0 rfl) ?_
        refine z_aald hx hb hK hP 9 6 rfl rfl rfl (by decide) (i) (by omega) (by omega) rfl dX2_percentFor_19 ?_
        refine lv_iconst (v := zI (0)) hx hb dX2_percentFor_20 (by decide) ?_
        refine z_iald hx hb hK hP (10 + i) 0 (rW_n (by omega)) rfl (by decide) (0) (by omega) (by omega) dX2_percentFor_21 ?_
        refine z_top (y := zI (mn N (51 + 2 * i))) ((hR.2.2.2.2.2.1 i (by omega) 0 (by omega)).trans (hN.n0 (by omega)).eq) ?_
        refine lv_iload_n hx hb dX2_percentFor_22 rfl (lv_at hl 3 rfl) ?_
        refine z_icmp_le (tgt := 39) hx hb dX2_percentFor_23 (by decide) (by omega) (by omega) (fun h23 => ?_) (fun h23 => ?_)
        · refine z_iinc (lv' := [(3, .int (zI (((i : Nat) : Int) + 1))), (2, .int (zI (pct N ah i))), (0, .ref ru), (1, .int (zI (ah)))]) hx hb dX2_percentFor_39 hl (k := 0) rfl (by decide) rfl (fun ls hl => ?_)
          refine lv_goto (tgt := 4) hx hb dX2_percentFor_42 (by decide) ?_
          have hl := lv_sub (l' := [(3, .int (zI (((i : Nat) : Int) + 1))), (2, .int (zI (pct N ah i))), (0, .ref ru), (1, .int (zI (ah)))]) hl [0, 1, 2, 3] rfl
          have hl : lv_has ls 4 [(3, .int (zI ((((i + 1) : Nat) : Int)))), (2, .int (zI (pct N ah (i + 1)))), (0, .ref ru), (1, .int (zI (ah)))] := lv_cg (lvE (congrArg zI (by omega)) (lvE (congrArg zI (by rw [pct_s]; first | (rw [if_pos (by omega)]; omega) | (rw [if_neg (by omega)]))) (lvR (lvR (rfl))))) hl
          exact ih (i + 1) (by omega) (by omega) ls hl
        · refine lv_iload_n hx hb dX2_percentFor_26 rfl (lv_at hl 1 rfl) ?_
          refine lv_aload_n hx hb dX2_percentFor_27 rfl (lv_at hl 2 rfl) ?_
          refine va_get (D := g.1) (ci := 2) (v := .ref ((ra 8))) (C := RX2) (T := TX2) (N := 5) hx hb hts hinX2 hown hK hP 0 rfl rfl 2 (by decide) k19 (fun _ h9 => h9) rfl dX2_percentFor_28 ?_
          refine lv_iload_n hx hb dX2_percentFor_31 rfl (lv_at hl 0 rfl) ?_
          refine z_aald hx hb hK hP 9 6 rfl rfl rfl (by decide) (i) (by omega) (by omega) rfl dX2_percentFor_32 ?_
          refine lv_iconst (v := zI (1)) hx hb dX2_percentFor_33 (by decide) ?_
          refine z_iald hx hb hK hP (10 + i) 0 (rW_n (by omega)) rfl (by decide) (1) (by omega) (by omega) dX2_percentFor_34 ?_
          refine z_top (y := zI (mn N (52 + 2 * i))) ((hR.2.2.2.2.2.1 i (by omega) 1 (by omega)).trans ((congrArg N (by omega : 51 + 2 * i + 1 = 52 + 2 * i)).trans (hN.n1 (by omega)).eq)) ?_
          refine z_mmax hx hb (hml.trans hl.1.symm) hown k81 kSmax kM kCmax (Nat.le_of_ble_eq_true rfl) (Nat.le_of_ble_eq_true rfl) (Nat.zero_le _) (Nat.zero_le _) (by omega) (by omega) dX2_percentFor_35 ?_
          refine lv_istore_n (lv' := [(2, .int (zI (max (pct N ah i) (mn N (52 + 2 * i))))), (3, .int (zI (((i : Nat) : Int)))), (0, .ref ru), (1, .int (zI (ah)))]) hx hb dX2_percentFor_38 rfl hl (by decide) rfl (fun ls hl => ?_)
          refine z_iinc (lv' := [(3, .int (zI (((i : Nat) : Int) + 1))), (2, .int (zI (max (pct N ah i) (mn N (52 + 2 * i))))), (0, .ref ru), (1, .int (zI (ah)))]) hx hb dX2_percentFor_39 hl (k := 1) rfl (by decide) rfl (fun ls hl => ?_)
          refine lv_goto (tgt := 4) hx hb dX2_percentFor_42 (by decide) ?_
          have hl := lv_sub (l' := [(3, .int (zI (((i : Nat) : Int) + 1))), (2, .int (zI (max (pct N ah i) (mn N (52 + 2 * i))))), (0, .ref ru), (1, .int (zI (ah)))]) hl [0, 1, 2, 3] rfl
          have hl : lv_has ls 4 [(3, .int (zI ((((i + 1) : Nat) : Int)))), (2, .int (zI (pct N ah (i + 1)))), (0, .ref ru), (1, .int (zI (ah)))] := lv_cg (lvE (congrArg zI (by omega)) (lvE (congrArg zI (by rw [pct_s]; first | (rw [if_pos (by omega)]; omega) | (rw [if_neg (by omega)]))) (lvR (lvR (rfl))))) hl
          exact ih (i + 1) (by omega) (by omega) ls hl
  have hl := lv_sub (l' := [(3, .int (zI (0))), (2, .int (zI (0))), (0, .ref ru), (1, .int (zI (ah)))]) hl [0, 1, 2, 3] rfl
  have hl : lv_has ls 4 [(3, .int (zI (((0 : Nat) : Int)))), (2, .int (zI (pct N ah 0))), (0, .ref ru), (1, .int (zI (ah)))] := lv_cg (lvE (congrArg zI (rfl)) (lvE (congrArg zI (rfl)) (lvR (lvR (rfl))))) hl
  exact loop4 _ (0) (Nat.lt_succ_self _) (Nat.zero_le _) ls hl
