theorem lv_ot {N : Nat → Int32} (hN : okN N) {w j : Nat} (h : j ≠ 58 + 13 * w + 8 ∧ j ≠ 58 + 13 * w + 2 ∧ j ≠ 58 + 13 * w + 9) (hd : ¬ (111 + 364 * w + mn N 110 ≤ j ∧ j < 111 + 364 * w + 364)) : leaveN N w j = N j := by
  have ht := hN.td.le
  unfold leaveN
  rw [clrP_hi _ _ _ _ (by omega)]
  unfold lvA
  rw [upd_ne _ h.2.2, upd_ne _ h.2.1, upd_ne _ h.1]
theorem lvA_day {N : Nat → Int32} {w j : Nat} (hw : w < 4) (hj : 110 ≤ j) : lvA N w j = N j := by
  unfold lvA
  rw [upd_ne _ (by omega), upd_ne _ (by omega), upd_ne _ (by omega)]
theorem lv_clr {N : Nat → Int32} {w d : Nat} (hw : w < 4) (hd : d < 364) (h1 : mn N 110 ≤ d) (h2 : knd N w d = 2) : leaveN N w (111 + 364 * w + d) = zI (chg N w d) := by
  have e := lvA_day (N := N) (w := w) (j := 111 + 364 * w + d) hw (by omega)
  unfold leaveN clrP
  rw [show 111 + 364 * w + d - (111 + 364 * w) = d by omega, knd_cg e, chg_cg e, if_pos ⟨by omega, by omega, h2⟩]
theorem lv_cel {N : Nat → Int32} {w d : Nat} (hw : w < 4) (h : ¬ (mn N 110 ≤ d ∧ knd N w d = 2)) : leaveN N w (111 + 364 * w + d) = N (111 + 364 * w + d) := by
  have e := lvA_day (N := N) (w := w) (j := 111 + 364 * w + d) hw (by omega)
  unfold leaveN clrP
  rw [show 111 + 364 * w + d - (111 + 364 * w) = d by omega, knd_cg e, if_neg (fun z => h ⟨by omega, z.2.2⟩), e]
theorem lv_acc {N : Nat → Int32} {w k : Nat} (hw : w < 4) (hk : k < 13) : leaveN N w (58 + 13 * w + k) = lvA N w (58 + 13 * w + k) := by
  unfold leaveN
  rw [clrP_hi _ _ _ _ (by omega)]
theorem okN_leave {N : Nat → Int32} (h : okN N) {w : Nat} (hw : w < 4) : okN (leaveN N w) := by
  have ht := h.td.le
  exact okN_clr (okN_lvA h hw) hw _ (by omega)
theorem ShR_leave {N : Nat → Int32} {w : Nat} {ch tl fl af af1 : Nat → Int32} {rate lv td : Int32} (hN : okN N) (hw : w < 4) (hg0 : goneN N w = 0) (hs0 : N (66 + 13 * w) = zI 0) (hf0 : ∀ d, mn N 110 ≤ d → d < 364 → fl d = zI 0) (htd : td = zI (mn N 110)) (h : ShR N w ch tl fl af rate lv 365) (ha : af1 = upd (upd (upd af 6 (dueN N w)) 0 (zI 0)) 8 td) : ShR (leaveN N w) w ch tl fl af1 rate lv (mn N 110) := by
  obtain ⟨a1, a2, a3, a4, a5, a6, a7, a8, a9, b1, b2⟩ := h
  have ht := hN.td.le
  have hflz : ∀ d, mn N 110 ≤ d → d < 364 → flg N w d = 0 := fun d h1 h2 => by
    have x1 := hN.flg (w := w) (d := d) hw h2
    exact (zIn_eq (by omega) (by omega)).mp ((a5 d h2).symm.trans (hf0 d h1 h2))
  have key : ∀ d, d < 364 → chg (leaveN N w) w d = chg N w d ∧ flg (leaveN N w) w d = flg N w d ∧ ((mn N 110 ≤ d ∧ knd N w d = 2 ∧ wkd (leaveN N w) w d = 0 ∧ knd (leaveN N w) w d = 0) ∨ (¬ (mn N 110 ≤ d ∧ knd N w d = 2) ∧ wkd (leaveN N w) w d = wkd N w d ∧ knd (leaveN N w) w d = knd N w d)) := fun d hd => by
    by_cases q : mn N 110 ≤ d ∧ knd N w d = 2
    · have hc := hN.chg (w := w) (d := d) hw hd
      have e := lv_clr hw hd q.1 q.2
      have e2 : zI (chg N w d : Int) = zI (pkD (chg N w d) 0 0 0) := by unfold pkD; exact congrArg zI (by omega)
      obtain ⟨x1, x2, x3, x4⟩ := day_is (by omega) (by omega) (by omega) (by omega) (e.trans e2)
      exact ⟨x1, by rw [x4, hflz d q.1 hd], Or.inl ⟨q.1, q.2, x2, x3⟩⟩
    · have e := lv_cel (N := N) hw q
      exact ⟨chg_cg e, flg_cg e, Or.inr ⟨q, wkd_cg e, knd_cg e⟩⟩
  have acc : ∀ k, k < 13 → k ≠ 8 → k ≠ 2 → k ≠ 9 → leaveN N w (58 + 13 * w + k) = N (58 + 13 * w + k) := fun k h1 h2 h3 h4 => lv_ot hN ⟨by omega, by omega, by omega⟩ (by omega)
  have e0 := acc 0 (by omega) (by omega) (by omega) (by omega)
  have e1 := acc 1 (by omega) (by omega) (by omega) (by omega)
  rw [Nat.add_zero] at e0
  rw [show 58 + 13 * w + 1 = 59 + 13 * w by omega] at e1
  have e9 : leaveN N w (67 + 13 * w) = zI ((1 : Nat) : Int) := by
    rw [show 67 + 13 * w = 58 + 13 * w + 9 by omega, lv_acc hw (by omega)]
    unfold lvA
    exact upd_at _ _ _
  have h110 : leaveN N w 110 = N 110 := lv_ot hN ⟨by omega, by omega, by omega⟩ (by omega)
  have hg1 : goneN (leaveN N w) w = 1 := mn_of e9 (by omega)
  refine ⟨a1.trans e0.symm, a2.trans e1.symm, fun d hd => by rw [(key d hd).1]; exact a3 d hd, fun d hd => ?_, fun d hd => by rw [(key d hd).2.1]; exact a5 d hd, fun k hk => ?_, ?_, ?_, by omega, fun q => by omega, fun _ => by rw [mn_cg h110]; exact Nat.le_refl _⟩
  · obtain ⟨τ, t1, t2⟩ := a4 d hd
    refine ⟨τ, t1, ?_⟩
    unfold tlOK at t2 ⊢
    rcases (key d hd).2.2 with ⟨x1, x2, x3, x4⟩ | ⟨x1, x2, x3⟩
    · rw [x3, x4]; omega
    · rw [x2, x3]; omega
  · subst ha
    rw [upd_ne _ (by omega)]
    by_cases q0 : k = 0
    · subst q0
      rw [upd_at, show 58 + 13 * w + (2 + 0) = 58 + 13 * w + 2 by omega, lv_acc hw (by omega)]
      unfold lvA
      rw [upd_ne _ (by omega), upd_at]
    · rw [upd_ne _ q0]
      by_cases q6 : k = 6
      · subst q6
        rw [upd_at, show 58 + 13 * w + (2 + 6) = 58 + 13 * w + 8 by omega, lv_acc hw (by omega)]
        unfold lvA
        rw [upd_ne _ (by omega), upd_ne _ (by omega), upd_at, show 58 + 13 * w + 8 = 66 + 13 * w by omega, hs0, zI_of (dueN N w), zI_add]
        exact congrArg zI (by omega)
      · rw [upd_ne _ q6, acc (2 + k) (by omega) (by omega) (by omega) (by omega)]
        exact a6 k hk
  · subst ha
    rw [upd_ne _ (by omega), upd_ne _ (by omega), upd_ne _ (by omega), a7, sumN_cg 364 (fun i hi => (ind3_cg (key (0 + i) (by omega)).2.1).symm)]
  · subst ha
    rw [upd_at]; exact htd
theorem INV_leave {P : Nat → Nat} {M A : Nat → Nat → Int32} {N sn : Nat → Int32} {k nx w : Nat} (hI : INV P M N sn k) (hnx : nx < 10) (hn : M 6 0 = zI nx) (hw : w < 4) (hwn : w < mn N 57) (hg0 : goneN N w = 0)
    (h6 : A 6 = upd (upd (M 6) 0 (zI (((nx + 1) % 10 : Nat) : Int))) 1 (zI ((min (k + 1) 10 : Nat) : Int)))
    (hst : A (66 + 6 * nx) = upd (upd (M (66 + 6 * nx)) 0 (M 0 0)) 1 (zI (-1)))
    (hc0 : A (66 + 6 * nx + (2 + 0)) = M (46 + 5 * 0 + 4)) (hc1 : A (66 + 6 * nx + (2 + 1)) = M (46 + 5 * 1 + 4)) (hc2 : A (66 + 6 * nx + (2 + 2)) = M (46 + 5 * 2 + 4)) (hc3 : A (66 + 6 * nx + (2 + 3)) = M (46 + 5 * 3 + 4))
    (ho : ∀ j, j ≠ 6 → ¬ (66 + 6 * nx ≤ j ∧ j < 66 + 6 * nx + 6 ∧ j ≠ 66 + 6 * nx + 1) → j ≠ 46 + 5 * w + 4 → A j = M j)
    (hac : A (46 + 5 * w + 4) = upd (upd (upd (M (46 + 5 * w + 4)) 6 (dueN N w)) 0 (zI 0)) 8 (M 0 0)) : INV P A (leaveN N w) (snS sn N k) (min (k + 1) 10) := by
  have hP := hI.1
  have hc := hI.2.1
  have hN := hc.1
  have ht := hN.td.le
  have hf3 : ∀ v, v < 4 → A (46 + 5 * v + 3) = M (46 + 5 * v + 3) := fun v hv => ho _ (by omega) (by omega) (by omega)
  refine INV_act hI hnx hn (Or.inl (by rw [hst]; rfl)) (tkD_back (w := 0) (d := 0) hnx (by rw [hst]; rfl) (fun v hv => ?_) (cR_fl hc hf3) (fun v hv => ho _ (by omega) (by omega) (by omega)) (fun i h1 h2 => ho i (by omega) (by omega) (by omega)) (Or.inl ⟨by rw [hst]; rfl, fun v hv q hq => ho _ (by omega) (by omega) (by omega)⟩)) (fun j hj hjn i hi => ho _ (by omega) (by omega) (by omega)) (by rw [h6]; rfl) (by rw [h6]; rfl) ?_
  · rcases (by omega : v = 0 ∨ v = 1 ∨ v = 2 ∨ v = 3) with rfl | rfl | rfl | rfl
    · exact hc0
    · exact hc1
    · exact hc2
    · exact hc3
  · have oth : ∀ j, j ≠ 58 + 13 * w + 8 ∧ j ≠ 58 + 13 * w + 2 ∧ j ≠ 58 + 13 * w + 9 → ¬ (111 + 364 * w + mn N 110 ≤ j ∧ j < 111 + 364 * w + 364) → leaveN N w j = N j := fun j h1 h2 => lv_ot hN h1 h2
    refine cR_act (w := w) hP.r hc (okN_leave hN hw) hw (fun q hq => oth q (by omega) (by omega)) (oth 110 (by omega) (by omega)) (fun q hq => oth q (by omega) (by omega)) (fun v hv hvw => ⟨fun q hq => oth _ (by omega) (by omega), fun e he => oth _ (by omega) (by omega)⟩) ⟨oth _ (by omega) (by omega), oth _ (by omega) (by omega)⟩ (fun h1 h2 => ?_) (by rw [ho 0 (by omega) (by omega) (by omega)]) (fun i h1 h2 => ho i (by omega) (by omega) (by omega)) (fun v hv hvw q hq => ho _ (by omega) (by omega) (by omega)) (hf3 w hw) (fun _ => ?_)
    · exfalso
      have e9 : leaveN N w (67 + 13 * w) = zI ((1 : Nat) : Int) := by
        rw [show 67 + 13 * w = 58 + 13 * w + 9 by omega, lv_acc hw (by omega)]
        unfold lvA
        exact upd_at _ _ _
      have : goneN (leaveN N w) w = 1 := mn_of e9 (by omega)
      omega
    · obtain ⟨gd, hg⟩ := hc.2.2.2.2.1 w hw hwn
      obtain rfl : gd = 365 := hg.2.2.2.2.2.2.2.2.2.1 hg0
      refine ⟨mn N 110, ?_⟩
      show ShR (leaveN N w) w (A (46 + 5 * w + 1)) (A (46 + 5 * w + 2)) (A (46 + 5 * w + 3)) (A (46 + 5 * w + 4)) (A (46 + 5 * w) 0) (A (46 + 5 * w) 1) (mn N 110)
      rw [hf3 w hw, ho (46 + 5 * w) (by omega) (by omega) (by omega), ho (46 + 5 * w + 1) (by omega) (by omega) (by omega), ho (46 + 5 * w + 2) (by omega) (by omega) (by omega)]
      exact ShR_leave (td := M 0 0) hN hw hg0 (hc.2.2.1 w hw hwn hg0) (fun d h1 h2 => hc.2.2.2.2.2.2 w hw d h1 h2) (hc.2.2.2.2.2.1.trans hN.td.eq) hg hac
abbrev nsE : String := "java/util/NoSuchElementException"
abbrev txN : List String := ["no such worker", "no such count of a worker"]
abbrev nsD (Y : String) : Cond := .declares (Bundle.initS Y)
def nsN (U : State) : Prop := va_Nw (.castable nsE nsE) U ∧ va_Nw (nsD "java/lang/RuntimeException") U ∧ va_Nw (nsD "java/lang/Exception") U ∧ va_Nw (nsD Bundle.tN) U
theorem nsN.warm {s U : State} (hW : s.WarmedH U.vm) (h : nsN s) : nsN U := ⟨va_Nw.warmC hW h.1, va_Nw.warmD hW h.2.1, va_Nw.warmD hW h.2.2.1, va_Nw.warmD hW h.2.2.2⟩
theorem nsN.same {u U : State} (hv : u.vm = U.vm) (h : nsN u) : nsN U := ⟨va_Nw.same rfl hv h.1, va_Nw.same rfl hv h.2.1, va_Nw.same rfl hv h.2.2.1, va_Nw.same rfl hv h.2.2.2⟩
def kX (x : Nat → Nat) (ad : Nat → Nat) (U : State) : Prop :=
  nsN U ∧ vk_R RX8 107 "no such worker" (x 0) U ∧ vk_R RX8 155 "no such count of a worker" (x 1) U
  ∧ vx_Zq Bundle.tN "UNASSIGNED_STACK" Bundle.steD (hbA ad) U U.heap ∧ vx_Zq Bundle.tN "SUPPRESSED_SENTINEL" Bundle.listD (hbA ad) U U.heap
theorem kX_at {x : Nat → Nat} {ad : Nat → Nat} {s U : State} {H : Heap} {locs : List Loc} (hC : kX x ad s) (hS : va_S (hbA ad) s.heap H locs) (hU : U.heap = H) (hW : s.WarmedH U.vm) : kX x ad U := by
  subst hU
  have hq := hS.2.1
  exact ⟨nsN.warm hW hC.1, vk_R.warm hW hC.2.1, vk_R.warm hW hC.2.2.1, vx_Zq.moved hW.alike (hC.2.2.2.1.kept hq), vx_Zq.moved hW.alike (hC.2.2.2.2.kept hq)⟩
theorem kX_same {x : Nat → Nat} {ad : Nat → Nat} {u U : State} (hv : U.vm = u.vm) (hh : U.heap = u.heap) (hC : kX x ad u) : kX x ad U := by
  have ha : u.vm.Alike U.vm := by rw [hv]; exact Vm.Alike.refl u.vm
  refine ⟨nsN.same hv.symm hC.1, vk_R.same hv hC.2.1, vk_R.same hv hC.2.2.1, ?_, ?_⟩
  · rw [hh]; exact vx_Zq.moved ha hC.2.2.2.1
  · rw [hh]; exact vx_Zq.moved ha hC.2.2.2.2
abbrev gxPc (g : GG) (x : Nat → Nat) (ad : Nat → Nat) (av : List Value) (Pre : Heap → Prop) : Array Value → State → Prop := va_Pc av (fun U => Pre U.heap ∧ gK g U ∧ kX x ad U)
theorem gx_blind {g : GG} {x : Nat → Nat} {ad : Nat → Nat} {av : List Value} {Pre : Heap → Prop} : FrameBlind (gxPc g x ad av Pre) := fun a U fr mk q => ⟨q.1, q.2.1, va_K.moved (u := U) (U := U.calling fr mk a) (Vm.Alike.refl U.vm) q.2.2.1, kX_same (u := U) (U := U.calling fr mk a) rfl rfl q.2.2.2⟩
theorem gx_preV {s : State} {H : Heap} {C : String} {b : Addr} {As : List Value} {g : GG} {x : Nat → Nat} {ad : Nat → Nat} {locs : List Loc} {Pre : Heap → Prop} (hP : Pre H) (hK : gK g s) (hC : kX x ad s) (hS : va_S (hbA ad) s.heap H locs) (hrecv : ∃ cellB : Cell, H[b]? = some cellB ∧ cellB.vm.isStatics = false ∧ s.vm.findClass C = some cellB.cls) : PreV s H C b (gxPc g x ad (.ref b :: As) Pre) As :=
  ⟨gx_blind, hrecv, fun U hU hW => ⟨rfl, by rw [hU]; exact hP, va_K.moved hW.alike hK, kX_at hC hS hU hW⟩⟩
theorem gP_kept {g : GG} {ws : va_W} {H H1 : Heap} (hP : gP g ws H) (h : ∀ q : Nat, q < H.size → H1[q]? = H[q]?) : gP g ws H1 := hP.kept (fun k x hx => h _ (hP k x hx).lt)
theorem nsE_bad : ∀ w ∈ (vx_atS RX8 109 nsE ["java/lang/RuntimeException", "java/lang/Exception"]).filter (fun w => !goodWord w), w ∈ [Cond.castable nsE nsE, nsD "java/lang/RuntimeException", nsD "java/lang/Exception", nsD Bundle.tN] := by decide +kernel
theorem nsE_ot : ∀ w ∈ Cond.classLink RX8 105 nsE :: Cond.initialized nsE :: vx_atS RX8 109 nsE ["java/lang/RuntimeException", "java/lang/Exception"], vx_ot w = true := by decide +kernel
theorem ns_hat {args : Array Value} {s : State} {Ts : List Cond} (hts : ∀ w ∈ Ts, w.before args s = true) (hin : ∀ w ∈ (vx_atS RX8 109 nsE ["java/lang/RuntimeException", "java/lang/Exception"]).filter goodWord, w ∈ Ts) (hc : nsN s) : ∀ w ∈ vx_atS RX8 109 nsE ["java/lang/RuntimeException", "java/lang/Exception"], w.before args s = true :=
  vx_hat (fun w hw => hts w (hin w hw)) nsE_bad (vx_c (va_Nw.use rfl hc.1) (vx_c (va_Nw.use rfl hc.2.1) (vx_c (va_Nw.use rfl hc.2.2.1) (vx_c (va_Nw.use rfl hc.2.2.2) vx_n))))
abbrev xE (g : GG) (ad P : Nat → Nat) (M : Nat → Nat → Int32) (C : Prop) : String → State → State → Prop := vx_X (fun (_ : Unit) => C) (fun (E : String) (_ : Unit) (t : State) => E = nsE ∧ cw g ad P M t.heap) (hbA ad)
theorem xE_of {g : GG} {ad P : Nat → Nat} {M : Nat → Nat → Int32} {C : Prop} {s t : State} {H : Heap} {locs : List Loc} (hC : C) (hW : cw g ad P M H) (hS : va_S (hbA ad) s.heap H locs) (h1 : H.size ≤ t.heap.size) (h2 : ∀ q : Nat, q < H.size → t.heap[q]? = H[q]?) : xE g ad P M C nsE s t :=
  ⟨(), hC, ⟨rfl, gP_kept hW h2⟩, Nat.le_trans hS.1 h1, fun q h3 h4 => (h2 q (Nat.lt_of_lt_of_le h3 hS.1)).trans (hS.2.1 q h3 h4)⟩
