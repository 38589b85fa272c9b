abbrev oC (g : GG) (ao : Nat) (f : Nat → Int64) : va_W := [(ao, .inl (g.2 7, 1, .inr (.inl f)))]
abbrev oA (ad : Nat → Nat) (ao : Nat) : Nat → Prop := fun q => hbA ad q ∨ q = ao
theorem vx_toMet {l : Launch} {y : MethodName} {ws : List Cond} {rm : Room} {Pc : Array Value → State → Prop} {Qc : Array Value → State → Outcome → State → Prop} {mc ms : Nat} {free : Addr → Prop} (h : vx_Met l y ws rm Pc Qc (fun _ _ _ => False) mc ms free) : Met l y ws rm Pc Qc mc ms free :=
  MetFree.mono h (fun _ _ q => q) (fun _ _ _ _ _ q => q) (fun a s o t _ q => by
    rcases q with q | ⟨_, _, _, _, _, hx, _⟩
    · exact q
    · exact hx.elim)
theorem oP_l {g : GG} {w1 w2 : va_W} {H : Heap} (h : gP g (w1 ++ w2) H) : gP g w1 H := fun k q hk => h k q (by rw [List.getElem?_append_left (List.getElem?_eq_some_iff.mp hk).1]; exact hk)
theorem oP_r {g : GG} {w1 w2 : va_W} {H : Heap} (h : gP g (w1 ++ w2) H) : gP g w2 H := fun k q hk => h (w1.length + k) q (by rw [List.getElem?_append_right (Nat.le_add_right _ _), Nat.add_sub_cancel_left]; exact hk)
theorem hbL_len {ad : Nat → Nat} {ce : Nat → va_E} : (hbL ad ce).length = 126 := by unfold hbL; rw [List.length_map, List.length_range]
theorem oD {ad : Nat → Nat} (hd : hD ad) {ao : Nat} (hao : ¬ hbA ad ao) {ce : Nat → va_E} {e : va_E} : va_D (oA ad ao) (hbL ad ce ++ [(ao, e)]) := by
  have key : ∀ (k : Nat) (q : Nat × va_E), (hbL ad ce ++ [(ao, e)])[k]? = some q → (k < 126 ∧ q = (ad k, ce k)) ∨ (k = 126 ∧ q = (ao, e)) := fun k q hk => by
    by_cases h : k < 126
    · rw [List.getElem?_append_left (by rw [hbL_len]; exact h), hbL_at h] at hk
      exact Or.inl ⟨h, (Option.some.inj hk).symm⟩
    · rw [List.getElem?_append_right (by rw [hbL_len]; omega), hbL_len] at hk
      obtain ⟨j, hj⟩ : ∃ j, j = k - 126 := ⟨_, rfl⟩
      rw [← hj] at hk
      match j, hj, hk with
      | 0, hj, hk => exact Or.inr ⟨by omega, by cases hk; rfl⟩
      | j + 1, hj, hk => simp at hk
  refine ⟨fun i j p q hi hj e9 => ?_, fun k q hk => ?_⟩
  · rcases key i p hi with ⟨h1, rfl⟩ | ⟨h1, rfl⟩ <;> rcases key j q hj with ⟨h2, rfl⟩ | ⟨h2, rfl⟩
    · exact hd i j h1 h2 e9
    · exact (hao ⟨i, h1, e9.symm⟩).elim
    · exact (hao ⟨j, h2, e9⟩).elim
    · omega
  · rcases key k q hk with ⟨h1, rfl⟩ | ⟨h1, rfl⟩
    · exact Or.inl ⟨k, h1, rfl⟩
    · exact Or.inr rfl
theorem o_set {ad : Nat → Nat} {ce : Nat → va_E} {ao : Nat} {e e' : va_E} : (hbL ad ce ++ [(ao, e)]).set 126 (ao, e') = hbL ad ce ++ [(ao, e')] := by
  rw [List.set_append_right _ _ (by rw [hbL_len]; exact Nat.le_refl _), hbL_len]
  rfl
theorem o_at {ad : Nat → Nat} {ce : Nat → va_E} {ao : Nat} {e : va_E} : (hbL ad ce ++ [(ao, e)])[126]? = some (ao, e) := by
  rw [List.getElem?_append_right (by rw [hbL_len]; exact Nat.le_refl _), hbL_len]
  rfl
theorem o_kept {g : GG} {ao : Nat} {f : Nat → Int64} {H H1 : Heap} {A : Nat → Prop} (h : gP g (oC g ao f) H) (hk : ∀ q : Nat, q < H.size → ¬ A q → H1[q]? = H[q]?) (ha : ¬ A ao) : gP g (oC g ao f) H1 := va_P.kept h (fun k q hq => by
  match k, hq with
  | 0, hq => cases hq; exact hk ao (h 0 _ rfl).lt ha
  | k + 1, hq => simp at hq)
section OST
variable {p : Program} {l : Launch} {e : Env} {R : Room} {s : State} {m : MethodId} {args : Array Value} {below : List Frame} {meth : Method} {c : Code} {H : Heap} {locs : List Loc} {cells slots : Nat} {Q : State → Prop}
variable {cc : ByteArray} {pc : Nat} {ls : Array Slot} {rest : List Value} {H0 : Heap}
theorem o_st (hexec : p.tables.exec = Jvm.exec) (hb : c.code = cc) {g : GG} {ad P : Nat → Nat} {M : Nat → Nat → Int32} {ao : Nat} {f : Nat → Int64} (hd : hD ad) (hao : ¬ hbA ad ao) (hK : gK g s) (hW : cw g ad P M H) (hO : gP g (oC g ao f) H) (hS : va_S (oA ad ao) H0 H locs) {x : Int64} (hdg : decode cc pc = .ok (.lastore, 1))
    (kk : ∀ (H1 : Heap) (locs1 : List Loc) (f1 : Nat → Int64), f1 0 = x → cw g ad P M H1 → gP g (oC g ao f1) H1 → va_S (oA ad ao) H0 H1 locs1 → W p l e R s m args below meth c H1 locs1 cells slots Q (F0 m (pc + 1) ls rest)) : W p l e R s m args below meth c H locs cells slots Q (F0 m pc ls (.long x :: .int (zI 0) :: .ref ao :: rest)) := by
  refine va_last hexec hb hK (hW.app hO) (oD hd hao) hS 126 7 o_at rfl (by unfold vp_in; decide) hdg (fun H1 locs1 hP1 _ hS1 => ?_)
  rw [o_set] at hP1
  exact kk H1 locs1 _ (by rw [show (zI 0).toNatClampNeg = 0 by decide]; unfold vp_updL; simp) (oP_l hP1) (oP_r hP1) hS1
end OST
set_option maxHeartbeats 4000000 in
set_option maxRecDepth 100000 in
theorem c_L_worker (l : Launch) (hl9 : l.stackTraces = false) (g : GG) (xk : Nat → Nat) (ad : Nat → Nat) (hd9 : hD ad) (ao : Nat) (hao : ¬ hbA ad ao) (P : Nat → Nat) (M : Nat → Nat → Int32) (N sn : Nat → Int32) (k : Nat) (hI : INV P M N sn k) (v x : Int) (hv : R32 v) (hx0 : R32 x) (f : Nat → Int64) : Met l yL_worker wsL_workerT ({ frames := 7, cells := 1, slots := 6, locals := 130 }) (gyPc g xk ad [.ref (ad 0), .int (zI v), .int (zI x), .ref ao] (fun H => cw g ad P M H ∧ gP g (oC g ao f) H)) (va_Qi (fun (r : Int32) (u : Nat → Int64) => r = (workerF N v x).1 ∧ (r = zI 0 → u 0 = (workerF N v x).2.toInt64)) (fun (u : Nat → Int64) (tS : State) => cw g ad P M tS.heap ∧ gP g (oC g ao u) tS.heap) (oA ad ao)) 1 6 (oA ad ao) := by
  refine vx_toMet (vx_ofWH (cc := cL_worker) (maxL := 5) (ret := some .int) (hh := [(0, 10, 13, 13)]) (by decide) rfl ?_)
  intro p e s m args below meth c s₁ B hml hv9
  obtain ⟨rfl, ⟨hW, hO⟩, hK, hX⟩ := hv9
  have hx := B.exec
  have hb := B.bytes
  have hr := B.returns
  have hts := atoms_spec (ws := wsL_workerT) B.pre
  have hown : s.vm.findClass RL = some m.cls := findClass_of_methodNamed B.named
  have htb := vx_table (x := yL_worker) B (hts _ List.mem_cons_self)
  have hl := lv_entry ([.ref (ad 0), .int (zI v), .int (zI x), .ref ao]) (n := 5) (Nat.le_of_ble_eq_true rfl)
  rw [lg_entry_eq]
  generalize (lg_sl ([.ref (ad 0), .int (zI v), .int (zI x), .ref ao]) ++ List.replicate (5 - (lg_sl ([.ref (ad 0), .int (zI v), .int (zI x), .ref ao])).length) Slot.unset).toArray = ls at hl ⊢
  have hl : lv_has ls 5 [(0, .ref (ad 0)), (1, .int (zI v)), (2, .int (zI x)), (3, .ref ao)] := hl
  refine lv_aload_n hx hb dL_worker_0 rfl (lv_at hl 3 rfl) ?_
  refine lv_iconst (v := zI (0)) hx hb dL_worker_1 (by decide) ?_
  refine lv_aload_n hx hb dL_worker_2 rfl (lv_at hl 0 rfl) ?_
  refine lv_iload_n hx hb dL_worker_3 rfl (lv_at hl 1 rfl) ?_
  refine lv_iload_n hx hb dL_worker_4 rfl (lv_at hl 2 rfl) ?_
  refine vx_calli (A0 := oA ad ao) (vx_runV (As := [.int (zI v), .int (zI x)]) (rest := [.int (zI (0)), .ref ao]) ⟨hx, hb, hml, hown, hts⟩ (c_X8_workerT l hl9 g xk ad hd9 P M N sn k hI v x hv hx0) (cwV 2 hts gL_workerT_X8_worker rfl rfl rfl (by decide +kernel) ⟨Nat.le_of_ble_eq_true rfl, Nat.le_of_ble_eq_true rfl⟩) (gy_preV hW hK hX va_S.rf (va_recv hK (hb1 hW (show 0 < 126 by omega) (lcE rfl sh_0)) (q0 := 0) (ci := 8) rfl rfl)) rfl rfl hl.1 rfl (lv_room (Nat.le_of_ble_eq_true rfl)) dL_worker_5 ⟨Nat.le_of_ble_eq_true rfl, Nat.le_of_ble_eq_true rfl⟩) va_S.rf (fun q _ h9 => Or.inl h9) (fun q h9 => Or.inl h9) (fun q _ h9 => Or.inl h9) ?_ ?_
  · intro E ce q9 u t H1 locs1 ht _ hC ⟨hE, hcw⟩ hsz hkp hS1 hce hcv hcl
    subst hE
    rw [ht] at hcw
    have hO1 := o_kept hO hkp hao
    refine vx_catch hown [] ⟨0, 10, 13, 13⟩ [] (htb.trans rfl) (fun z hz => nomatch hz) (by decide) (by decide) (hts (.classLink RL 13 nsE) (by decide +kernel)) (hX.1.use (.castable nsE nsE) (by decide +kernel)) hce hcv hcl ?_
    refine lv_astore (lv' := [(4, .ref q9), (0, .ref (ad 0)), (1, .int (zI v)), (2, .int (zI x)), (3, .ref ao)]) hx hb dL_worker_13 hl (by decide) rfl (fun ls hl => ?_)
    refine lv_iconst (v := zI (1)) hx hb dL_worker_15 (by decide) ?_
    refine vx_ret ?_
    exact W.iret hx hb hr (fun tX htX hWX => ⟨⟨_, f, rfl, ⟨hC.symm, fun h9 => absurd h9 (by decide)⟩, ⟨g_at htX hcw, g_at htX hO1⟩⟩, hS1.F htX⟩) hS1.2.2 dL_worker_16
  · intro r u t H1 locs1 ht _ hC hcw hsz hkp hS1
    rw [ht] at hcw
    have hO1 := o_kept hO hkp hao
    refine lv_i2l hx hb dL_worker_8 rfl ?_
    refine o_st hx hb hd9 hao hK hcw hO1 hS1 dL_worker_9 (fun H2 locs2 f1 hf1 hcw hO2 hS2 => ?_)
    refine lv_goto (tgt := 17) hx hb dL_worker_10 (by decide) ?_
    refine lv_iconst (v := zI (0)) hx hb dL_worker_17 (by decide) ?_
    refine vx_ret ?_
    exact W.iret hx hb hr (fun tX htX hWX => ⟨⟨_, f1, rfl, ⟨hC.2.symm, fun _ => hf1.trans (congrArg Int32.toInt64 hC.1)⟩, ⟨g_at htX hcw, g_at htX hO2⟩⟩, hS2.F htX⟩) hS2.2.2 dL_worker_18
set_option maxHeartbeats 4000000 in
set_option maxRecDepth 100000 in
theorem c_L_due (l : Launch) (hl9 : l.stackTraces = false) (g : GG) (xk : Nat → Nat) (ad : Nat → Nat) (hd9 : hD ad) (ao : Nat) (hao : ¬ hbA ad ao) (P : Nat → Nat) (M : Nat → Nat → Int32) (N sn : Nat → Int32) (k : Nat) (hI : INV P M N sn k) (v : Int) (hv : R32 v) (f : Nat → Int64) : Met l yL_due wsL_dueT ({ frames := 7, cells := 1, slots := 6, locals := 130 }) (gyPc g xk ad [.ref (ad 0), .int (zI v), .ref ao] (fun H => cw g ad P M H ∧ gP g (oC g ao f) H)) (va_Qi (fun (r : Int32) (u : Nat → Int64) => r = (dueF N v).1 ∧ (r = zI 0 → u 0 = (dueF N v).2.toInt64)) (fun (u : Nat → Int64) (tS : State) => cw g ad P M tS.heap ∧ gP g (oC g ao u) tS.heap) (oA ad ao)) 1 6 (oA ad ao) := by
  refine vx_toMet (vx_ofWH (cc := cL_due) (maxL := 4) (ret := some .int) (hh := [(0, 9, 12, 13)]) (by decide) rfl ?_)
  intro p e s m args below meth c s₁ B hml hv9
  obtain ⟨rfl, ⟨hW, hO⟩, hK, hX⟩ := hv9
  have hx := B.exec
  have hb := B.bytes
  have hr := B.returns
  have hts := atoms_spec (ws := wsL_dueT) B.pre
  have hown : s.vm.findClass RL = some m.cls := findClass_of_methodNamed B.named
  have htb := vx_table (x := yL_due) B (hts _ List.mem_cons_self)
  have hl := lv_entry ([.ref (ad 0), .int (zI v), .ref ao]) (n := 4) (Nat.le_of_ble_eq_true rfl)
  rw [lg_entry_eq]
  generalize (lg_sl ([.ref (ad 0), .int (zI v), .ref ao]) ++ List.replicate (4 - (lg_sl ([.ref (ad 0), .int (zI v), .ref ao])).length) Slot.unset).toArray = ls at hl ⊢
  have hl : lv_has ls 4 [(0, .ref (ad 0)), (1, .int (zI v)), (2, .ref ao)] := hl
  refine lv_aload_n hx hb dL_due_0 rfl (lv_at hl 2 rfl) ?_
  refine lv_iconst (v := zI (0)) hx hb dL_due_1 (by decide) ?_
  refine lv_aload_n hx hb dL_due_2 rfl (lv_at hl 0 rfl) ?_
  refine lv_iload_n hx hb dL_due_3 rfl (lv_at hl 1 rfl) ?_
  refine vx_calli (A0 := oA ad ao) (vx_runV (As := [.int (zI v)]) (rest := [.int (zI (0)), .ref ao]) ⟨hx, hb, hml, hown, hts⟩ (c_X8_dueT l hl9 g xk ad hd9 P M N sn k hI v hv) (cwV 1 hts gL_dueT_X8_due rfl rfl rfl (by decide +kernel) ⟨Nat.le_of_ble_eq_true rfl, Nat.le_of_ble_eq_true rfl⟩) (gy_preV hW hK hX va_S.rf (va_recv hK (hb1 hW (show 0 < 126 by omega) (lcE rfl sh_0)) (q0 := 0) (ci := 8) rfl rfl)) rfl rfl hl.1 rfl (lv_room (Nat.le_of_ble_eq_true rfl)) dL_due_4 ⟨Nat.le_of_ble_eq_true rfl, Nat.le_of_ble_eq_true rfl⟩) va_S.rf (fun q _ h9 => Or.inl h9) (fun q h9 => Or.inl h9) (fun q _ h9 => Or.inl h9) ?_ ?_
  · intro E ce q9 u t H1 locs1 ht _ hC ⟨hE, hcw⟩ hsz hkp hS1 hce hcv hcl
    subst hE
    rw [ht] at hcw
    have hO1 := o_kept hO hkp hao
    refine vx_catch hown [] ⟨0, 9, 12, 13⟩ [] (htb.trans rfl) (fun z hz => nomatch hz) (by decide) (by decide) (hts (.classLink RL 13 nsE) (by decide +kernel)) (hX.1.use (.castable nsE nsE) (by decide +kernel)) hce hcv hcl ?_
    refine lv_astore_n (lv' := [(3, .ref q9), (0, .ref (ad 0)), (1, .int (zI v)), (2, .ref ao)]) hx hb dL_due_12 rfl hl (by decide) rfl (fun ls hl => ?_)
    refine lv_iconst (v := zI (1)) hx hb dL_due_13 (by decide) ?_
    refine vx_ret ?_
    exact W.iret hx hb hr (fun tX htX hWX => ⟨⟨_, f, rfl, ⟨hC.symm, fun h9 => absurd h9 (by decide)⟩, ⟨g_at htX hcw, g_at htX hO1⟩⟩, hS1.F htX⟩) hS1.2.2 dL_due_14
  · intro r u t H1 locs1 ht _ hC hcw hsz hkp hS1
    rw [ht] at hcw
    have hO1 := o_kept hO hkp hao
    refine lv_i2l hx hb dL_due_7 rfl ?_
    refine o_st hx hb hd9 hao hK hcw hO1 hS1 dL_due_8 (fun H2 locs2 f1 hf1 hcw hO2 hS2 => ?_)
    refine lv_goto (tgt := 15) hx hb dL_due_9 (by decide) ?_
    refine lv_iconst (v := zI (0)) hx hb dL_due_15 (by decide) ?_
    refine vx_ret ?_
    exact W.iret hx hb hr (fun tX htX hWX => ⟨⟨_, f1, rfl, ⟨hC.2.symm, fun _ => hf1.trans (congrArg Int32.toInt64 hC.1)⟩, ⟨g_at htX hcw, g_at htX hO2⟩⟩, hS2.F htX⟩) hS2.2.2 dL_due_16
theorem due_bad {N : Nat → Int32} {v : Int} (h : (dueF N v).1 = zI 1) : ¬ hereC N v := fun h9 => by
  unfold dueF at h
  rw [if_pos h9] at h
  exact absurd (show zI 0 = zI 1 from h) (by decide)
set_option maxHeartbeats 4000000 in
set_option maxRecDepth 100000 in
theorem c_L_leave (l : Launch) (hl9 : l.stackTraces = false) (g : GG) (xk : Nat → Nat) (ad : Nat → Nat) (hd9 : hD ad) (ao : Nat) (hao : ¬ hbA ad ao) (P : Nat → Nat) (M : Nat → Nat → Int32) (N sn : Nat → Int32) (k : Nat) (hI : INV P M N sn k) (v : Int) (hv : R32 v) (f : Nat → Int64) : Met l yL_leave wsL_leaveT ({ frames := 7, cells := 1, slots := 6, locals := 130 }) (gyPc g xk ad [.ref (ad 0), .int (zI v), .ref ao] (fun H => cw g ad P M H ∧ gP g (oC g ao f) H)) (va_Qi (fun (r : Int32) (u : (Nat → Nat → Int32) × (Nat → Int64)) => r = (dueF N v).1 ∧ (r = zI 0 → u.2 0 = (dueF N v).2.toInt64) ∧ actQ P M u.1 (actN (hereC N v) N (leaveN N v.toNat)) (actS (hereC N v) sn N k) (actK (hereC N v) k)) (fun (u : (Nat → Nat → Int32) × (Nat → Int64)) (tS : State) => cw g ad P u.1 tS.heap ∧ gP g (oC g ao u.2) tS.heap) (oA ad ao)) 1 6 (oA ad ao) := by
  refine vx_toMet (vx_ofWH (cc := cL_leave) (maxL := 4) (ret := some .int) (hh := [(0, 9, 12, 13)]) (by decide) rfl ?_)
  intro p e s m args below meth c s₁ B hml hv9
  obtain ⟨rfl, ⟨hW, hO⟩, hK, hX⟩ := hv9
  have hx := B.exec
  have hb := B.bytes
  have hr := B.returns
  have hts := atoms_spec (ws := wsL_leaveT) B.pre
  have hown : s.vm.findClass RL = some m.cls := findClass_of_methodNamed B.named
  have htb := vx_table (x := yL_leave) B (hts _ List.mem_cons_self)
  have hl := lv_entry ([.ref (ad 0), .int (zI v), .ref ao]) (n := 4) (Nat.le_of_ble_eq_true rfl)
  rw [lg_entry_eq]
  generalize (lg_sl ([.ref (ad 0), .int (zI v), .ref ao]) ++ List.replicate (4 - (lg_sl ([.ref (ad 0), .int (zI v), .ref ao])).length) Slot.unset).toArray = ls at hl ⊢
  have hl : lv_has ls 4 [(0, .ref (ad 0)), (1, .int (zI v)), (2, .ref ao)] := hl
  refine lv_aload_n hx hb dL_leave_0 rfl (lv_at hl 2 rfl) ?_
  refine lv_iconst (v := zI (0)) hx hb dL_leave_1 (by decide) ?_
  refine lv_aload_n hx hb dL_leave_2 rfl (lv_at hl 0 rfl) ?_
  refine lv_iload_n hx hb dL_leave_3 rfl (lv_at hl 1 rfl) ?_
  refine vx_calli (A0 := oA ad ao) (vx_runV (As := [.int (zI v)]) (rest := [.int (zI (0)), .ref ao]) ⟨hx, hb, hml, hown, hts⟩ (c_X8_leaveT l hl9 g xk ad hd9 P M N sn k hI v hv) (cwV 1 hts gL_leaveT_X8_leave rfl rfl rfl (by decide +kernel) ⟨Nat.le_of_ble_eq_true rfl, Nat.le_of_ble_eq_true rfl⟩) (gy_preV hW hK hX va_S.rf (va_recv hK (hb1 hW (show 0 < 126 by omega) (lcE rfl sh_0)) (q0 := 0) (ci := 8) rfl rfl)) rfl rfl hl.1 rfl (lv_room (Nat.le_of_ble_eq_true rfl)) dL_leave_4 ⟨Nat.le_of_ble_eq_true rfl, Nat.le_of_ble_eq_true rfl⟩) va_S.rf (fun q _ h9 => Or.inl h9) (fun q h9 => Or.inl h9) (fun q _ h9 => Or.inl h9) ?_ ?_
  · intro E ce q9 u t H1 locs1 ht _ hC ⟨hE, hcw⟩ hsz hkp hS1 hce hcv hcl
    subst hE
    rw [ht] at hcw
    have hO1 := o_kept hO hkp hao
    refine vx_catch hown [] ⟨0, 9, 12, 13⟩ [] (htb.trans rfl) (fun z hz => nomatch hz) (by decide) (by decide) (hts (.classLink RL 13 nsE) (by decide +kernel)) (hX.1.use (.castable nsE nsE) (by decide +kernel)) hce hcv hcl ?_
    refine lv_astore_n (lv' := [(3, .ref q9), (0, .ref (ad 0)), (1, .int (zI v)), (2, .ref ao)]) hx hb dL_leave_12 rfl hl (by decide) rfl (fun ls hl => ?_)
    refine lv_iconst (v := zI (1)) hx hb dL_leave_13 (by decide) ?_
    refine vx_ret ?_
    exact W.iret hx hb hr (fun tX htX hWX => ⟨⟨_, (M, f), rfl, ⟨hC.symm, fun h9 => absurd h9 (by decide), actQ_no hI (due_bad hC)⟩, ⟨g_at htX hcw, g_at htX hO1⟩⟩, hS1.F htX⟩) hS1.2.2 dL_leave_14
  · intro r u t H1 locs1 ht _ hC hcw hsz hkp hS1
    rw [ht] at hcw
    have hO1 := o_kept hO hkp hao
    refine lv_i2l hx hb dL_leave_7 rfl ?_
    refine o_st hx hb hd9 hao hK hcw hO1 hS1 dL_leave_8 (fun H2 locs2 f1 hf1 hcw hO2 hS2 => ?_)
    refine lv_goto (tgt := 15) hx hb dL_leave_9 (by decide) ?_
    refine lv_iconst (v := zI (0)) hx hb dL_leave_15 (by decide) ?_
    refine vx_ret ?_
    exact W.iret hx hb hr (fun tX htX hWX => ⟨⟨_, (u, f1), rfl, ⟨hC.2.1.symm, fun _ => hf1.trans (congrArg Int32.toInt64 hC.1), hC.2.2⟩, ⟨g_at htX hcw, g_at htX hO2⟩⟩, hS2.F htX⟩) hS2.2.2 dL_leave_16
