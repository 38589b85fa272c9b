set_option maxHeartbeats 4000000 in
set_option maxRecDepth 100000 in
theorem c_X9_text (l : Launch) (g : GG) (a : Nat → Nat) (ha : aD a) (sc : Nat → Int32) (wd : Int64) (tp N rd sn : Nat → Int32) (n : Nat) (hn1 : sc 1 = zI n) (hn : n ≤ 740) (hT : okT tp) : Met l yX9_text wsX9_text ({ frames := 5, cells := 0, slots := 0, locals := 111 }) (gPc g [.ref ((a 0))] (gP g (mW g a sc wd tp N rd sn))) (va_Qi (fun (r : Int32) (u : (Nat → Int32) × Int64 × (Nat → Int32) × (Nat → Int32)) => textQ (parseL (mn tp) n (n + 1) 0 0 (rd0 rd)) r sc u.1 N u.2.2.2) (fun u (tS : State) => gP g (mW g a u.1 u.2.1 tp u.2.2.2 u.2.2.1 sn) tS.heap) (mA a)) 0 0 (mA a) := by
  refine Met.ofW (cc := cX9_text) (maxL := 3) (ret := (some .int)) (by decide) rfl ?_
  intro p e s m args below meth c s₁ B hml hv
  obtain ⟨rfl, hP, hK⟩ := hv
  have hx := B.exec
  have hb := B.bytes
  have hr := B.returns
  have hts := atoms_spec (ws := wsX9_text) B.pre
  have hown : s.vm.findClass RX9 = some m.cls := findClass_of_methodNamed B.named
  have hlocks := B.notSynchronized
  have hinX9 : ∀ w ∈ wsX90, w ∈ wsX9_text := by decide +kernel
  have k1 := hts (.fieldLink RX9 1 "HoursBankModel" "thrown" "I") (by decide +kernel)
  have k11 := hts (.fieldLink RX9 11 "HoursBankModel" "taped" "I") (by decide +kernel)
  have k18 := hts (.fieldLink RX9 18 "HoursBankModel" "size" "I") (by decide +kernel)
  have k58 := hts (.fieldLink RX9 58 "HoursBankModel" "fault" "I") (by decide +kernel)
  have k21 := hts (.fieldLink RX9 21 "HoursBankModel" "to" "I") (by decide +kernel)
  have k73 := hts (.fieldLink RX9 73 "HoursBankModel" "read" "[I") (by decide +kernel)
  have k27 := hts (.fieldLink RX9 27 "HoursBankModel" "sort" "I") (by decide +kernel)
  have k122 := hts (.fieldLink RX9 122 "HoursBankModel" "snapMany" "I") (by decide +kernel)
  have k70 := hts (.fieldLink RX9 70 "HoursBankModel" "now" "[I") (by decide +kernel)
  have k61 := hts (.fieldLink RX9 61 "HoursBankModel" "place" "I") (by decide +kernel)
  have hl := lv_entry ([.ref ((a 0))]) (n := 3) (Nat.le_of_ble_eq_true rfl)
  rw [lg_entry_eq]
  generalize (lg_sl ([.ref ((a 0))]) ++ List.replicate (3 - (lg_sl ([.ref ((a 0))])).length) Slot.unset).toArray = ls at hl ⊢
  have hl : lv_has ls 3 [(0, .ref ((a 0)))] := hl
  have hS : va_S (mA a) s.heap s.heap [] := va_S.rf
  obtain ⟨H, hH9⟩ : ∃ H, H = s.heap := ⟨_, rfl⟩
  obtain ⟨locs, hL9⟩ : ∃ x : List Loc, x = [] := ⟨_, rfl⟩
  have hP : gP g (mW g a sc wd tp N rd sn) H := hH9 ▸ hP
  have hS : va_S (mA a) s.heap H locs := by rw [hH9, hL9]; exact hS
  refine z_start hH9 hL9 ?_
  clear hH9 hL9
  refine lv_aload_n hx hb dX9_text_0 rfl (lv_at hl 0 rfl) ?_
  refine lv_iconst (v := zI (0)) hx hb dX9_text_1 (by decide) ?_
  refine va_put (D := g.1) (ci := 9) (v := .int (zI (0))) (ty := .int) (C := RX9) (T := TX9) (N := 15) hx hb hts hinX9 tyX9 tyX9_ok nmX9 hown hK hP (mD ha) hS 0 rfl rfl 0 (by decide) k1 (fun _ h9 => h9) rfl (by decide +kernel) rfl rfl (Nat.le_of_ble_eq_true rfl) dX9_text_2 (fun H locs hP _ hS => ?_)
  have hP : gP g (mW g a (upd sc 0 (zI (0))) wd tp N rd sn) H := hP
  refine lv_aload_n hx hb dX9_text_5 rfl (lv_at hl 0 rfl) ?_
  refine lv_aload_n hx hb dX9_text_6 rfl (lv_at hl 0 rfl) ?_
  refine va_get (D := g.1) (ci := 9) (v := .int (sc 1)) (C := RX9) (T := TX9) (N := 15) hx hb hts hinX9 hown hK hP 0 rfl rfl 2 (by decide) k11 (fun _ h9 => h9) rfl dX9_text_7 ?_
  refine z_top (y := zI (n)) (hn1) ?_
  refine va_put (D := g.1) (ci := 9) (v := .int (zI (n))) (ty := .int) (C := RX9) (T := TX9) (N := 15) hx hb hts hinX9 tyX9 tyX9_ok nmX9 hown hK hP (mD ha) hS 0 rfl rfl 3 (by decide) k18 (fun _ h9 => h9) rfl (by decide +kernel) rfl rfl (Nat.le_of_ble_eq_true rfl) dX9_text_10 (fun H locs hP _ hS => ?_)
  have hP : gP g (mW g a (upd (upd sc 0 (zI (0))) 2 (zI (n))) wd tp N rd sn) H := hP
  refine lv_aload_n hx hb dX9_text_13 rfl (lv_at hl 0 rfl) ?_
  refine lv_iconst (v := zI (0)) hx hb dX9_text_14 (by decide) ?_
  refine va_put (D := g.1) (ci := 9) (v := .int (zI (0))) (ty := .int) (C := RX9) (T := TX9) (N := 15) hx hb hts hinX9 tyX9 tyX9_ok nmX9 hown hK hP (mD ha) hS 0 rfl rfl 2 (by decide) k11 (fun _ h9 => h9) rfl (by decide +kernel) rfl rfl (Nat.le_of_ble_eq_true rfl) dX9_text_15 (fun H locs hP _ hS => ?_)
  have hP : gP g (mW g a (upd (upd (upd sc 0 (zI (0))) 1 (zI (0))) 2 (zI (n))) wd tp N rd sn) H := hP
  refine lv_aload_n hx hb dX9_text_18 rfl (lv_at hl 0 rfl) ?_
  refine lv_iconst (v := zI (0)) hx hb dX9_text_19 (by decide) ?_
  refine va_put (D := g.1) (ci := 9) (v := .int (zI (0))) (ty := .int) (C := RX9) (T := TX9) (N := 15) hx hb hts hinX9 tyX9 tyX9_ok nmX9 hown hK hP (mD ha) hS 0 rfl rfl 8 (by decide) k58 (fun _ h9 => h9) rfl (by decide +kernel) rfl rfl (Nat.le_of_ble_eq_true rfl) dX9_text_20 (fun H locs hP _ hS => ?_)
  have hP : gP g (mW g a (upd (upd (upd (upd sc 0 (zI (0))) 1 (zI (0))) 2 (zI (n))) 7 (zI (0))) wd tp N rd sn) H := hP
  refine lv_aload_n hx hb dX9_text_23 rfl (lv_at hl 0 rfl) ?_
  refine lv_iconst (v := zI (0)) hx hb dX9_text_24 (by decide) ?_
  refine va_put (D := g.1) (ci := 9) (v := .int (zI (0))) (ty := .int) (C := RX9) (T := TX9) (N := 15) hx hb hts hinX9 tyX9 tyX9_ok nmX9 hown hK hP (mD ha) hS 0 rfl rfl 4 (by decide) k21 (fun _ h9 => h9) rfl (by decide +kernel) rfl rfl (Nat.le_of_ble_eq_true rfl) dX9_text_25 (fun H locs hP _ hS => ?_)
  have hP : gP g (mW g a (upd (upd (upd (upd (upd sc 0 (zI (0))) 1 (zI (0))) 2 (zI (n))) 3 (zI (0))) 7 (zI (0))) wd tp N rd sn) H := hP
  refine lv_iconst (v := zI (0)) hx hb dX9_text_28 (by decide) ?_
  refine lv_istore_n (lv' := [(1, .int (zI (0))), (0, .ref ((a 0)))]) hx hb dX9_text_29 rfl hl (by decide) rfl (fun ls hl => ?_)
  refine lv_iconst (v := zI (0)) hx hb dX9_text_30 (by decide) ?_
  refine lv_istore_n (lv' := [(2, .int (zI (0))), (1, .int (zI (0))), (0, .ref ((a 0)))]) hx hb dX9_text_31 rfl hl (by decide) rfl (fun ls hl => ?_)
  have loop32 : ∀ (K9 : Nat) (i : Nat) (hK9 : 1567 - i < K9) (hi : i ≤ 1567) (H : Heap) (locs : List Loc) (hP : gP g (mW g a (upd (upd (upd (upd (upd sc 0 (zI (0))) 1 (zI (0))) 2 (zI (n))) 3 (zI (0))) 7 (zI (0))) wd tp N (zfP rd i) sn) H) (hS : va_S (mA a) s.heap H locs) (ls : Array Slot) (hl : lv_has ls 3 [(2, .int (zI (((i : Nat) : Int)))), (1, .int (zI (0))), (0, .ref ((a 0)))]), W p l e (headSpec wsX9_text ({ frames := 5, cells := 0, slots := 0, locals := 111 })).room s m ([.ref ((a 0))] : List Value).toArray below meth c H locs 0 0 (MQ below (va_Qi (fun (r : Int32) (u : (Nat → Int32) × Int64 × (Nat → Int32) × (Nat → Int32)) => textQ (parseL (mn tp) n (n + 1) 0 0 (rd0 rd)) r sc u.1 N u.2.2.2) (fun u (tS : State) => gP g (mW g a u.1 u.2.1 tp u.2.2.2 u.2.2.1 sn) tS.heap) (mA a)) ([.ref ((a 0))] : List Value).toArray s 0 0 (mA a)) (F0 m 32 ls []) := by
    intro K9
    induction K9 with
    | zero => intro i hK9; exact absurd hK9 (Nat.not_lt_zero _)
    | succ K9 ih =>
      intro i hK9 hi H locs hP hS ls hl
      refine lv_iload_n hx hb dX9_text_32 rfl (lv_at hl 0 rfl) ?_
      refine lv_sipush (v := zI (1567)) hx hb dX9_text_33 (by decide) ?_
      refine z_icmp_ge (tgt := 52) hx hb dX9_text_36 (by decide) (by omega) (by omega) (fun h36 => ?_) (fun h36 => ?_)
      · obtain rfl : i = 1567 := by omega
        refine lv_aload_n hx hb dX9_text_52 rfl (lv_at hl 2 rfl) ?_
        refine va_get (D := g.1) (ci := 9) (v := .ref ((a 3))) (C := RX9) (T := TX9) (N := 15) hx hb hts hinX9 hown hK hP 0 rfl rfl 12 (by decide) k73 (fun _ h9 => h9) rfl dX9_text_53 ?_
        refine lv_iconst (v := zI (2)) hx hb dX9_text_56 (by decide) ?_
        refine lv_iconst (v := zI (1)) hx hb dX9_text_57 (by decide) ?_
        refine z_iast hx hb hK hP (mD ha) hS 3 0 rfl rfl (by decide) (2) (by omega) (by omega) dX9_text_58 (fun H locs hP _ hS => ?_)
        have hP : gP g (mW g a (upd (upd (upd (upd (upd sc 0 (zI (0))) 1 (zI (0))) 2 (zI (n))) 3 (zI (0))) 7 (zI (0))) wd tp N (upd (zfP rd 1567) 2 (zI (1))) sn) H := hP
        have hP : gP g (mW g a (upd (upd (upd (upd (upd sc 0 (zI (0))) 1 (zI (0))) 2 (zI (n))) 3 (zI (0))) 7 (zI (0))) wd tp N (rd0 rd) sn) H := hP
        refine lv_aload_n hx hb dX9_text_59 rfl (lv_at hl 2 rfl) ?_
        refine va_callv (va_runV (As := []) (rest := []) ⟨hx, hb, hml, hown, hts⟩ (c_X9_go l g (a) (ha) ((upd (upd (upd (upd (upd sc 0 (zI (0))) 1 (zI (0))) 2 (zI (n))) 3 (zI (0))) 7 (zI (0)))) (wd) (tp) (N) ((rd0 rd)) (sn) (n) (0) (hn) (Nat.zero_le n) (rfl) (rfl) (hT)) (cwV 0 hts gX9_text_X9_go rfl rfl rfl (by decide +kernel) ⟨Nat.le_of_ble_eq_true rfl, Nat.le_of_ble_eq_true rfl⟩) (g_preV hP hK (va_recv hK hP (q0 := 0) (ci := 9) rfl rfl)) rfl rfl hl.1 rfl (lv_room (Nat.le_of_ble_eq_true rfl)) dX9_text_60 ⟨Nat.le_of_ble_eq_true rfl, Nat.le_of_ble_eq_true rfl⟩) hS (fun q _ h => h) (fun q h => h) (fun u9 t9 H1 locs ht9 hvm9 hw9 hB9 hz9 hk9 hS => ?_)
        rw [ht9] at hB9
        have hP := hB9
        clear hB9 hz9 hk9 hvm9 ht9
        generalize H1 = H at hP hS ⊢
        have hP : gP g (mW g a (upd (upd (upd (upd (upd (upd (upd (upd sc 0 (zI (0))) 1 (zI (0))) 2 (zI (n))) 3 (zI ((gTo (mn tp) n 0 : Nat)))) 4 (zI ((gFr (mn tp) n 0 : Nat)))) 5 (zI ((gSo (mn tp) n 0 : Nat)))) 6 (gNu (mn tp) n 0 ((upd (upd (upd (upd (upd sc 0 (zI (0))) 1 (zI (0))) 2 (zI (n))) 3 (zI (0))) 7 (zI (0))) 6))) 7 (zI (0))) (gWo (mn tp) n 0 wd) tp N (rd0 rd) sn) H := hP
        have loop63 : ∀ (K9 : Nat) (f : Nat) (ln : Nat) (p3 : Nat) (r3 : Nat → Int32) (sc3 : Nat → Int32) (wd3 : Int64) (hK9 : n + 1 - p3 < K9) (hf : n + 1 ≤ f + p3) (hln : ln ≤ p3) (hp3 : p3 ≤ n) (cu : cur (mn tp) n p3 sc3 wd3) (k0 : sc3 0 = zI 0) (k1 : sc3 1 = zI 0) (k2 : sc3 2 = zI n) (k9 : sc3 9 = sc 9) (k7 : sc3 7 = zI 0) (hX : parseL (mn tp) n (n + 1) 0 0 (rd0 rd) = parseL (mn tp) n f ln p3 r3) (hR : okP r3) (H : Heap) (locs : List Loc) (hP : gP g (mW g a sc3 wd3 tp N r3 sn) H) (hS : va_S (mA a) s.heap H locs) (ls : Array Slot) (hl : lv_has ls 3 [(1, .int (zI (((ln : Nat) : Int)))), (0, .ref ((a 0)))]), W p l e (headSpec wsX9_text ({ frames := 5, cells := 0, slots := 0, locals := 111 })).room s m ([.ref ((a 0))] : List Value).toArray below meth c H locs 0 0 (MQ below (va_Qi (fun (r : Int32) (u : (Nat → Int32) × Int64 × (Nat → Int32) × (Nat → Int32)) => textQ (parseL (mn tp) n (n + 1) 0 0 (rd0 rd)) r sc u.1 N u.2.2.2) (fun u (tS : State) => gP g (mW g a u.1 u.2.1 tp u.2.2.2 u.2.2.1 sn) tS.heap) (mA a)) ([.ref ((a 0))] : List Value).toArray s 0 0 (mA a)) (F0 m 63 ls []) := by
          intro K9
          induction K9 with
          | zero => intro f ln p3 r3 sc3 wd3 hK9; exact absurd hK9 (Nat.not_lt_zero _)
          | succ K9 ih =>
            intro f ln p3 r3 sc3 wd3 hK9 hf hln hp3 cu k0 k1 k2 k9 k7 hX hR H locs hP hS ls hl
            refine lv_aload_n hx hb dX9_text_63 rfl (lv_at hl 1 rfl) ?_
            have hs4 := gso_le (mn tp) n p3
            refine va_get (D := g.1) (ci := 9) (v := .int (sc3 5)) (C := RX9) (T := TX9) (N := 15) hx hb hts hinX9 hown hK hP 0 rfl rfl 6 (by decide) k27 (fun _ h9 => h9) rfl dX9_text_64 ?_
            refine z_top (y := zI (gSo (mn tp) n p3)) (cu.2.2.1) ?_
            refine z_if_eq (tgt := 106) hx hb dX9_text_67 (by decide) (by omega) (fun h67 => ?_) (fun h67 => ?_)
            · have h67 : gSo (mn tp) n p3 = 0 := by omega
              obtain ⟨f, rfl⟩ : ∃ j, f = j + 1 := ⟨f - 1, by omega⟩
              have hXe := hX.trans (parse_e h67)
              refine lv_iconst (v := zI (0)) hx hb dX9_text_106 (by decide) ?_
              refine lv_istore_n (lv' := [(2, .int (zI (0))), (1, .int (zI (((ln : Nat) : Int)))), (0, .ref ((a 0)))]) hx hb dX9_text_107 rfl hl (by decide) rfl (fun ls hl => ?_)
              have loop108 : ∀ (K9 : Nat) (i : Nat) (hK9 : 1567 - i < K9) (hi : i ≤ 1567) (H : Heap) (locs : List Loc) (hP : gP g (mW g a sc3 wd3 tp (cpP r3 N i) r3 sn) H) (hS : va_S (mA a) s.heap H locs) (ls : Array Slot) (hl : lv_has ls 3 [(2, .int (zI (((i : Nat) : Int)))), (1, .int (zI (((ln : Nat) : Int)))), (0, .ref ((a 0)))]), W p l e (headSpec wsX9_text ({ frames := 5, cells := 0, slots := 0, locals := 111 })).room s m ([.ref ((a 0))] : List Value).toArray below meth c H locs 0 0 (MQ below (va_Qi (fun (r : Int32) (u : (Nat → Int32) × Int64 × (Nat → Int32) × (Nat → Int32)) => textQ (parseL (mn tp) n (n + 1) 0 0 (rd0 rd)) r sc u.1 N u.2.2.2) (fun u (tS : State) => gP g (mW g a u.1 u.2.1 tp u.2.2.2 u.2.2.1 sn) tS.heap) (mA a)) ([.ref ((a 0))] : List Value).toArray s 0 0 (mA a)) (F0 m 108 ls []) := by
                intro K9
                induction K9 with
                | zero => intro i hK9; exact absurd hK9 (Nat.not_lt_zero _)
                | succ K9 ih =>
                  intro i hK9 hi H locs hP hS ls hl
                  refine lv_iload_n hx hb dX9_text_108 rfl (lv_at hl 0 rfl) ?_
                  refine lv_sipush (v := zI (1567)) hx hb dX9_text_109 (by decide) ?_
                  refine z_icmp_ge (tgt := 133) hx hb dX9_text_112 (by decide) (by omega) (by omega) (fun h112 => ?_) (fun h112 => ?_)
                  · obtain rfl : i = 1567 := by omega
                    refine lv_aload_n hx hb dX9_text_133 rfl (lv_at hl 2 rfl) ?_
                    refine lv_iconst (v := zI (0)) hx hb dX9_text_134 (by decide) ?_
                    refine va_put (D := g.1) (ci := 9) (v := .int (zI (0))) (ty := .int) (C := RX9) (T := TX9) (N := 15) hx hb hts hinX9 tyX9 tyX9_ok nmX9 hown hK hP (mD ha) hS 0 rfl rfl 14 (by decide) k122 (fun _ h9 => h9) rfl (by decide +kernel) rfl rfl (Nat.le_of_ble_eq_true rfl) dX9_text_135 (fun H locs hP _ hS => ?_)
                    have hP : gP g (mW g a (upd sc3 9 (zI (0))) wd3 tp (cpP r3 N 1567) r3 sn) H := hP
                    refine lv_iload_n hx hb dX9_text_138 rfl (lv_at hl 1 rfl) ?_
                    exact W.iret hx hb hr (fun tX htX hWX => ⟨⟨_, ((upd sc3 9 (zI (0))), wd3, r3, (cpP r3 N 1567)), rfl, textQ_r hXe k0 k1 rfl k7 rfl rfl, g_at htX (hP)⟩, hS.F htX⟩) hS.2.2 dX9_text_139
                  · refine lv_aload_n hx hb dX9_text_115 rfl (lv_at hl 2 rfl) ?_
                    refine va_get (D := g.1) (ci := 9) (v := .ref ((a 2))) (C := RX9) (T := TX9) (N := 15) hx hb hts hinX9 hown hK hP 0 rfl rfl 11 (by decide) k70 (fun _ h9 => h9) rfl dX9_text_116 ?_
                    refine lv_iload_n hx hb dX9_text_119 rfl (lv_at hl 0 rfl) ?_
                    refine lv_aload_n hx hb dX9_text_120 rfl (lv_at hl 2 rfl) ?_
                    refine va_get (D := g.1) (ci := 9) (v := .ref ((a 3))) (C := RX9) (T := TX9) (N := 15) hx hb hts hinX9 hown hK hP 0 rfl rfl 12 (by decide) k73 (fun _ h9 => h9) rfl dX9_text_121 ?_
                    refine lv_iload_n hx hb dX9_text_124 rfl (lv_at hl 0 rfl) ?_
                    refine z_iald hx hb hK hP 3 0 rfl rfl (by decide) (i) (by omega) (by omega) dX9_text_125 ?_
                    refine z_iast hx hb hK hP (mD ha) hS 2 0 rfl rfl (by decide) (i) (by omega) (by omega) dX9_text_126 (fun H locs hP _ hS => ?_)
                    have hP : gP g (mW g a sc3 wd3 tp (upd (cpP r3 N i) i (r3 i)) r3 sn) H := hP
                    refine z_iinc (lv' := [(2, .int (zI (((i : Nat) : Int) + 1))), (1, .int (zI (((ln : Nat) : Int)))), (0, .ref ((a 0)))]) hx hb dX9_text_127 hl (k := 0) rfl (by decide) rfl (fun ls hl => ?_)
                    refine lv_goto (tgt := 108) hx hb dX9_text_130 (by decide) ?_
                    have hl := lv_sub (l' := [(2, .int (zI (((i : Nat) : Int) + 1))), (1, .int (zI (((ln : Nat) : Int)))), (0, .ref ((a 0)))]) hl [0, 1, 2] rfl
                    have hl : lv_has ls 3 [(2, .int (zI ((((i + 1) : Nat) : Int)))), (1, .int (zI (((ln : Nat) : Int)))), (0, .ref ((a 0)))] := lv_cg (lvE (congrArg zI (by omega)) (lvR (lvR (rfl)))) hl
                    exact ih (i + 1) (by omega) (by omega) H locs (by rw [← cpP_s]; exact hP) hS ls hl
              have hl := lv_sub (l' := [(2, .int (zI (0))), (1, .int (zI (((ln : Nat) : Int)))), (0, .ref ((a 0)))]) hl [0, 1, 2] rfl
              have hl : lv_has ls 3 [(2, .int (zI (((0 : Nat) : Int)))), (1, .int (zI (((ln : Nat) : Int)))), (0, .ref ((a 0)))] := lv_cg (lvE (congrArg zI (rfl)) (lvR (lvR (rfl)))) hl
              exact loop108 _ (0) (Nat.lt_succ_self _) (Nat.zero_le _) H locs (by rw [cpP_0]; exact hP) hS ls hl
            · have h67 : ¬ gSo (mn tp) n p3 = 0 := by omega
              obtain ⟨f, rfl⟩ : ∃ j, f = j + 1 := ⟨f - 1, by omega⟩
              have ak : kp sc3 sc3 := kp_refl
              have a7 : sc3 7 = sc3 7 := rfl
              refine lv_aload_n hx hb dX9_text_70 rfl (lv_at hl 1 rfl) ?_
              refine lv_iload_n hx hb dX9_text_71 rfl (lv_at hl 0 rfl) ?_
              refine z_if_ne (tgt := 79) hx hb dX9_text_72 (by decide) (by omega) (fun h72 => ?_) (fun h72 => ?_)
              · refine lv_iconst (v := zI (0)) hx hb dX9_text_79 (by decide) ?_
                refine va_calli (va_runV (As := [.int (zI (0))]) (rest := []) ⟨hx, hb, hml, hown, hts⟩ (c_X9_readLine l g (a) (ha) (sc3) (wd3) (tp) (N) (r3) (sn) (n) (p3) (hn) (hp3) (k2) (hT) (cu) (0) (by omega) (hR.1.ns) (hR.1.nn) (hR.1.nw)) (cwV 1 hts gX9_text_X9_readLine rfl rfl rfl (by decide +kernel) ⟨Nat.le_of_ble_eq_true rfl, Nat.le_of_ble_eq_true rfl⟩) (g_preV hP hK (va_recv hK hP (q0 := 0) (ci := 9) rfl rfl)) rfl rfl hl.1 rfl (lv_room (Nat.le_of_ble_eq_true rfl)) dX9_text_80 ⟨Nat.le_of_ble_eq_true rfl, Nat.le_of_ble_eq_true rfl⟩) hS (fun q _ h => h) (fun q h => h) (fun r1 u9 t9 H1 locs ht9 hvm9 hw1 hB9 hz9 hk9 hS => ?_)
                obtain ⟨sc1, wd1, rd1⟩ := u9
                rw [ht9] at hB9
                have hP := hB9
                clear hB9 hz9 hk9 hvm9 ht9
                generalize H1 = H at hP hS ⊢
                try dsimp only at hw1
                have hP : gP g (mW g a sc1 wd1 tp N rd1 sn) H := hP
                rw [lineP_cg (show ((0 : Int) = 1) ↔ (ln = 0) by omega)] at hw1
                obtain ⟨e1, hx1⟩ | ⟨q1, hx1⟩ := pr_cases (lineP (mn tp) n (ln = 0) p3 r3)
                · obtain ⟨rfl, b7, b8, bk⟩ := prQ_l' hx1 hw1
                  have ak := kp_trans ak bk
                  refine z_if_eq (tgt := 93) hx hb dX9_text_83 (by decide) (by omega) (fun h83 => ?_) (fun h83 => ?_)
                  · refine lv_iconst (v := zI (-1)) hx hb dX9_text_93 (by decide) ?_
                    refine lv_aload_n hx hb dX9_text_94 rfl (lv_at hl 1 rfl) ?_
                    refine va_get (D := g.1) (ci := 9) (v := .int (sc1 8)) (C := RX9) (T := TX9) (N := 15) hx hb hts hinX9 hown hK hP 0 rfl rfl 9 (by decide) k61 (fun _ h9 => h9) rfl dX9_text_95 ?_
                    refine z_top (y := zI ((e1.2 : Int))) (b8) ?_
                    refine z_isub hx hb dX9_text_98 ?_
                    exact W.iret hx hb hr (fun tX htX hWX => ⟨⟨_, (sc1, wd1, rd1, N), rfl, textQ_l (hX.trans (by first | rw [parse_s h67, bnd_l (bnd_l hx1 _)] | rw [parse_s h67, bnd_r hx1, bnd_l hx2])) (ak.1.trans k0) (ak.2.1.trans k1) rfl b7 rfl (ak.2.2.2.trans k9), g_at htX (hP)⟩, hS.F htX⟩) hS.2.2 dX9_text_99
                  · exfalso; omega
                · obtain ⟨rfl, cu, pn, rfl, bk, b7⟩ := prQ_r' hx1 hw1
                  have ak := kp_trans ak bk
                  have a7 := b7.trans a7
                  have hP : gP g (mW g a sc1 wd1 tp N q1.2 sn) H := hP
                  have hl1 := okP_line hR hp3 hx1
                  refine z_if_eq (tgt := 93) hx hb dX9_text_83 (by decide) (by omega) (fun h83 => ?_) (fun h83 => ?_)
                  · exfalso; omega
                  · refine lv_aload_n hx hb dX9_text_86 rfl (lv_at hl 1 rfl) ?_
                    refine va_calli (va_runV (As := []) (rest := []) ⟨hx, hb, hml, hown, hts⟩ (c_X9_readEnd l g (a) (ha) (sc1) (wd1) (tp) (N) (q1.2) (sn) (n) (q1.1) (hn) (hl1.2.2) (ak.2.2.1.trans k2) (hT) (cu)) (cwV 0 hts gX9_text_X9_readEnd rfl rfl rfl (by decide +kernel) ⟨Nat.le_of_ble_eq_true rfl, Nat.le_of_ble_eq_true rfl⟩) (g_preV hP hK (va_recv hK hP (q0 := 0) (ci := 9) rfl rfl)) rfl rfl hl.1 rfl (lv_room (Nat.le_of_ble_eq_true rfl)) dX9_text_87 ⟨Nat.le_of_ble_eq_true rfl, Nat.le_of_ble_eq_true rfl⟩) hS (fun q _ h => h) (fun q h => h) (fun r2 u9 t9 H1 locs ht9 hvm9 hw2 hB9 hz9 hk9 hS => ?_)
                    obtain ⟨sc2, wd2, rd2⟩ := u9
                    rw [ht9] at hB9
                    have hP := hB9
                    clear hB9 hz9 hk9 hvm9 ht9
                    generalize H1 = H at hP hS ⊢
                    try dsimp only at hw2
                    have hP : gP g (mW g a sc2 wd2 tp N rd2 sn) H := hP
                    obtain ⟨e2, hx2⟩ | ⟨q2, hx2⟩ := pr_cases (endP (mn tp) n q1.1 q1.2)
                    · obtain ⟨rfl, b7, b8, bk⟩ := prQ_l' hx2 hw2
                      have ak := kp_trans ak bk
                      refine z_if_ne (tgt := 100) hx hb dX9_text_90 (by decide) (by omega) (fun h90 => ?_) (fun h90 => ?_)
                      · exfalso; omega
                      · refine lv_iconst (v := zI (-1)) hx hb dX9_text_93 (by decide) ?_
                        refine lv_aload_n hx hb dX9_text_94 rfl (lv_at hl 1 rfl) ?_
                        refine va_get (D := g.1) (ci := 9) (v := .int (sc2 8)) (C := RX9) (T := TX9) (N := 15) hx hb hts hinX9 hown hK hP 0 rfl rfl 9 (by decide) k61 (fun _ h9 => h9) rfl dX9_text_95 ?_
                        refine z_top (y := zI ((e2.2 : Int))) (b8) ?_
                        refine z_isub hx hb dX9_text_98 ?_
                        exact W.iret hx hb hr (fun tX htX hWX => ⟨⟨_, (sc2, wd2, rd2, N), rfl, textQ_l (hX.trans (by first | rw [parse_s h67, bnd_l (bnd_l hx1 _)] | rw [parse_s h67, bnd_r hx1, bnd_l hx2])) (ak.1.trans k0) (ak.2.1.trans k1) rfl b7 rfl (ak.2.2.2.trans k9), g_at htX (hP)⟩, hS.F htX⟩) hS.2.2 dX9_text_99
                    · obtain ⟨rfl, cu, pn, rfl, bk, b7⟩ := prQ_r' hx2 hw2
                      have ak := kp_trans ak bk
                      have a7 := b7.trans a7
                      have hP : gP g (mW g a sc2 wd2 tp N q2.2 sn) H := hP
                      have hl2 := endP_in hl1.2.2 hx2
                      have hq2 : q2.1 = gTo (mn tp) n q1.1 := by rw [hl2.2.1]
                      have hE : okP q2.2 := by rw [hl2.2.1]; exact hl1.1
                      refine z_if_ne (tgt := 100) hx hb dX9_text_90 (by decide) (by omega) (fun h90 => ?_) (fun h90 => ?_)
                      · refine z_iinc (lv' := [(1, .int (zI (((ln : Nat) : Int) + 1))), (0, .ref ((a 0)))]) hx hb dX9_text_100 hl (k := 0) rfl (by decide) rfl (fun ls hl => ?_)
                        refine lv_goto (tgt := 63) hx hb dX9_text_103 (by decide) ?_
                        have hl := lv_sub (l' := [(1, .int (zI (((ln : Nat) : Int) + 1))), (0, .ref ((a 0)))]) hl [0, 1] rfl
                        have hl : lv_has ls 3 [(1, .int (zI ((((ln + 1) : Nat) : Int)))), (0, .ref ((a 0)))] := lv_cg (lvE (congrArg zI (by omega)) (lvR (rfl))) hl
                        exact ih (f) (ln + 1) (q2.1) (q2.2) (sc2) (wd2) (by omega) (by omega) (by omega) (by omega) (cu) (ak.1.trans k0) (ak.2.1.trans k1) (ak.2.2.1.trans k2) (ak.2.2.2.trans k9) (a7.trans k7) (hX.trans (by rw [parse_s h67, bnd_r hx1, bnd_r hx2])) (hE) H locs (hP) hS ls hl
                      · exfalso; omega
              · refine lv_iconst (v := zI (1)) hx hb dX9_text_75 (by decide) ?_
                refine lv_goto (tgt := 80) hx hb dX9_text_76 (by decide) ?_
                refine va_calli (va_runV (As := [.int (zI (1))]) (rest := []) ⟨hx, hb, hml, hown, hts⟩ (c_X9_readLine l g (a) (ha) (sc3) (wd3) (tp) (N) (r3) (sn) (n) (p3) (hn) (hp3) (k2) (hT) (cu) (1) (by omega) (hR.1.ns) (hR.1.nn) (hR.1.nw)) (cwV 1 hts gX9_text_X9_readLine rfl rfl rfl (by decide +kernel) ⟨Nat.le_of_ble_eq_true rfl, Nat.le_of_ble_eq_true rfl⟩) (g_preV hP hK (va_recv hK hP (q0 := 0) (ci := 9) rfl rfl)) rfl rfl hl.1 rfl (lv_room (Nat.le_of_ble_eq_true rfl)) dX9_text_80 ⟨Nat.le_of_ble_eq_true rfl, Nat.le_of_ble_eq_true rfl⟩) hS (fun q _ h => h) (fun q h => h) (fun r1 u9 t9 H1 locs ht9 hvm9 hw1 hB9 hz9 hk9 hS => ?_)
                obtain ⟨sc1, wd1, rd1⟩ := u9
                rw [ht9] at hB9
                have hP := hB9
                clear hB9 hz9 hk9 hvm9 ht9
                generalize H1 = H at hP hS ⊢
                try dsimp only at hw1
                have hP : gP g (mW g a sc1 wd1 tp N rd1 sn) H := hP
                rw [lineP_cg (show ((1 : Int) = 1) ↔ (ln = 0) by omega)] at hw1
                obtain ⟨e1, hx1⟩ | ⟨q1, hx1⟩ := pr_cases (lineP (mn tp) n (ln = 0) p3 r3)
                · obtain ⟨rfl, b7, b8, bk⟩ := prQ_l' hx1 hw1
                  have ak := kp_trans ak bk
                  refine z_if_eq (tgt := 93) hx hb dX9_text_83 (by decide) (by omega) (fun h83 => ?_) (fun h83 => ?_)
                  · refine lv_iconst (v := zI (-1)) hx hb dX9_text_93 (by decide) ?_
                    refine lv_aload_n hx hb dX9_text_94 rfl (lv_at hl 1 rfl) ?_
                    refine va_get (D := g.1) (ci := 9) (v := .int (sc1 8)) (C := RX9) (T := TX9) (N := 15) hx hb hts hinX9 hown hK hP 0 rfl rfl 9 (by decide) k61 (fun _ h9 => h9) rfl dX9_text_95 ?_
                    refine z_top (y := zI ((e1.2 : Int))) (b8) ?_
                    refine z_isub hx hb dX9_text_98 ?_
                    exact W.iret hx hb hr (fun tX htX hWX => ⟨⟨_, (sc1, wd1, rd1, N), rfl, textQ_l (hX.trans (by first | rw [parse_s h67, bnd_l (bnd_l hx1 _)] | rw [parse_s h67, bnd_r hx1, bnd_l hx2])) (ak.1.trans k0) (ak.2.1.trans k1) rfl b7 rfl (ak.2.2.2.trans k9), g_at htX (hP)⟩, hS.F htX⟩) hS.2.2 dX9_text_99
                  · exfalso; omega
                · obtain ⟨rfl, cu, pn, rfl, bk, b7⟩ := prQ_r' hx1 hw1
                  have ak := kp_trans ak bk
                  have a7 := b7.trans a7
                  have hP : gP g (mW g a sc1 wd1 tp N q1.2 sn) H := hP
                  have hl1 := okP_line hR hp3 hx1
                  refine z_if_eq (tgt := 93) hx hb dX9_text_83 (by decide) (by omega) (fun h83 => ?_) (fun h83 => ?_)
                  · exfalso; omega
                  · refine lv_aload_n hx hb dX9_text_86 rfl (lv_at hl 1 rfl) ?_
                    refine va_calli (va_runV (As := []) (rest := []) ⟨hx, hb, hml, hown, hts⟩ (c_X9_readEnd l g (a) (ha) (sc1) (wd1) (tp) (N) (q1.2) (sn) (n) (q1.1) (hn) (hl1.2.2) (ak.2.2.1.trans k2) (hT) (cu)) (cwV 0 hts gX9_text_X9_readEnd rfl rfl rfl (by decide +kernel) ⟨Nat.le_of_ble_eq_true rfl, Nat.le_of_ble_eq_true rfl⟩) (g_preV hP hK (va_recv hK hP (q0 := 0) (ci := 9) rfl rfl)) rfl rfl hl.1 rfl (lv_room (Nat.le_of_ble_eq_true rfl)) dX9_text_87 ⟨Nat.le_of_ble_eq_true rfl, Nat.le_of_ble_eq_true rfl⟩) hS (fun q _ h => h) (fun q h => h) (fun r2 u9 t9 H1 locs ht9 hvm9 hw2 hB9 hz9 hk9 hS => ?_)
                    obtain ⟨sc2, wd2, rd2⟩ := u9
                    rw [ht9] at hB9
                    have hP := hB9
                    clear hB9 hz9 hk9 hvm9 ht9
                    generalize H1 = H at hP hS ⊢
                    try dsimp only at hw2
                    have hP : gP g (mW g a sc2 wd2 tp N rd2 sn) H := hP
                    obtain ⟨e2, hx2⟩ | ⟨q2, hx2⟩ := pr_cases (endP (mn tp) n q1.1 q1.2)
                    · obtain ⟨rfl, b7, b8, bk⟩ := prQ_l' hx2 hw2
                      have ak := kp_trans ak bk
                      refine z_if_ne (tgt := 100) hx hb dX9_text_90 (by decide) (by omega) (fun h90 => ?_) (fun h90 => ?_)
                      · exfalso; omega
                      · refine lv_iconst (v := zI (-1)) hx hb dX9_text_93 (by decide) ?_
                        refine lv_aload_n hx hb dX9_text_94 rfl (lv_at hl 1 rfl) ?_
                        refine va_get (D := g.1) (ci := 9) (v := .int (sc2 8)) (C := RX9) (T := TX9) (N := 15) hx hb hts hinX9 hown hK hP 0 rfl rfl 9 (by decide) k61 (fun _ h9 => h9) rfl dX9_text_95 ?_
                        refine z_top (y := zI ((e2.2 : Int))) (b8) ?_
                        refine z_isub hx hb dX9_text_98 ?_
                        exact W.iret hx hb hr (fun tX htX hWX => ⟨⟨_, (sc2, wd2, rd2, N), rfl, textQ_l (hX.trans (by first | rw [parse_s h67, bnd_l (bnd_l hx1 _)] | rw [parse_s h67, bnd_r hx1, bnd_l hx2])) (ak.1.trans k0) (ak.2.1.trans k1) rfl b7 rfl (ak.2.2.2.trans k9), g_at htX (hP)⟩, hS.F htX⟩) hS.2.2 dX9_text_99
                    · obtain ⟨rfl, cu, pn, rfl, bk, b7⟩ := prQ_r' hx2 hw2
                      have ak := kp_trans ak bk
                      have a7 := b7.trans a7
                      have hP : gP g (mW g a sc2 wd2 tp N q2.2 sn) H := hP
                      have hl2 := endP_in hl1.2.2 hx2
                      have hq2 : q2.1 = gTo (mn tp) n q1.1 := by rw [hl2.2.1]
                      have hE : okP q2.2 := by rw [hl2.2.1]; exact hl1.1
                      refine z_if_ne (tgt := 100) hx hb dX9_text_90 (by decide) (by omega) (fun h90 => ?_) (fun h90 => ?_)
                      · refine z_iinc (lv' := [(1, .int (zI (((ln : Nat) : Int) + 1))), (0, .ref ((a 0)))]) hx hb dX9_text_100 hl (k := 0) rfl (by decide) rfl (fun ls hl => ?_)
                        refine lv_goto (tgt := 63) hx hb dX9_text_103 (by decide) ?_
                        have hl := lv_sub (l' := [(1, .int (zI (((ln : Nat) : Int) + 1))), (0, .ref ((a 0)))]) hl [0, 1] rfl
                        have hl : lv_has ls 3 [(1, .int (zI ((((ln + 1) : Nat) : Int)))), (0, .ref ((a 0)))] := lv_cg (lvE (congrArg zI (by omega)) (lvR (rfl))) hl
                        exact ih (f) (ln + 1) (q2.1) (q2.2) (sc2) (wd2) (by omega) (by omega) (by omega) (by omega) (cu) (ak.1.trans k0) (ak.2.1.trans k1) (ak.2.2.1.trans k2) (ak.2.2.2.trans k9) (a7.trans k7) (hX.trans (by rw [parse_s h67, bnd_r hx1, bnd_r hx2])) (hE) H locs (hP) hS ls hl
                      · exfalso; omega
        have hl := lv_sub (l' := [(1, .int (zI (0))), (0, .ref ((a 0)))]) hl [1, 2] rfl
        have hl : lv_has ls 3 [(1, .int (zI (((0 : Nat) : Int)))), (0, .ref ((a 0)))] := lv_cg (lvE (congrArg zI (rfl)) (lvR (rfl))) hl
        exact loop63 _ (n + 1) (0) (0) (rd0 rd) ((upd (upd (upd (upd (upd (upd (upd (upd sc 0 (zI (0))) 1 (zI (0))) 2 (zI (n))) 3 (zI ((gTo (mn tp) n 0 : Nat)))) 4 (zI ((gFr (mn tp) n 0 : Nat)))) 5 (zI ((gSo (mn tp) n 0 : Nat)))) 6 (gNu (mn tp) n 0 ((upd (upd (upd (upd (upd sc 0 (zI (0))) 1 (zI (0))) 2 (zI (n))) 3 (zI (0))) 7 (zI (0))) 6))) 7 (zI (0)))) ((gWo (mn tp) n 0 wd)) (Nat.lt_succ_self _) (by omega) (by omega) (by omega) (cur_mk (cur_go (Nat.zero_le n) sc (sc 6) wd) rfl rfl rfl rfl) (rfl) (rfl) (rfl) (rfl) (rfl) (rfl) (okP_0 rd) H locs (hP) hS ls hl
      · refine lv_aload_n hx hb dX9_text_39 rfl (lv_at hl 2 rfl) ?_
        refine va_get (D := g.1) (ci := 9) (v := .ref ((a 3))) (C := RX9) (T := TX9) (N := 15) hx hb hts hinX9 hown hK hP 0 rfl rfl 12 (by decide) k73 (fun _ h9 => h9) rfl dX9_text_40 ?_
        refine lv_iload_n hx hb dX9_text_43 rfl (lv_at hl 0 rfl) ?_
        refine lv_iconst (v := zI (0)) hx hb dX9_text_44 (by decide) ?_
        refine z_iast hx hb hK hP (mD ha) hS 3 0 rfl rfl (by decide) (i) (by omega) (by omega) dX9_text_45 (fun H locs hP _ hS => ?_)
        have hP : gP g (mW g a (upd (upd (upd (upd (upd sc 0 (zI (0))) 1 (zI (0))) 2 (zI (n))) 3 (zI (0))) 7 (zI (0))) wd tp N (upd (zfP rd i) i (zI (0))) sn) H := hP
        refine z_iinc (lv' := [(2, .int (zI (((i : Nat) : Int) + 1))), (1, .int (zI (0))), (0, .ref ((a 0)))]) hx hb dX9_text_46 hl (k := 0) rfl (by decide) rfl (fun ls hl => ?_)
        refine lv_goto (tgt := 32) hx hb dX9_text_49 (by decide) ?_
        have hl := lv_sub (l' := [(2, .int (zI (((i : Nat) : Int) + 1))), (1, .int (zI (0))), (0, .ref ((a 0)))]) hl [0, 1, 2] rfl
        have hl : lv_has ls 3 [(2, .int (zI ((((i + 1) : Nat) : Int)))), (1, .int (zI (0))), (0, .ref ((a 0)))] := lv_cg (lvE (congrArg zI (by omega)) (lvR (lvR (rfl)))) hl
        exact ih (i + 1) (by omega) (by omega) H locs (by rw [← zfP_s]; exact hP) hS ls hl
  have hl := lv_sub (l' := [(2, .int (zI (0))), (1, .int (zI (0))), (0, .ref ((a 0)))]) hl [0, 1, 2] rfl
  have hl : lv_has ls 3 [(2, .int (zI (((0 : Nat) : Int)))), (1, .int (zI (0))), (0, .ref ((a 0)))] := lv_cg (lvE (congrArg zI (rfl)) (lvR (lvR (rfl)))) hl
  exact loop32 _ (0) (Nat.lt_succ_self _) (Nat.zero_le _) H locs (by rw [zfP_0]; exact hP) hS ls hl
