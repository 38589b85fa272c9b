section LUN
variable {p : Program} {l : Launch} {e : Env} {R : Room} {s : State} {m : MethodId} {args : Array Value} {below : List Frame} {meth : Method} {c : Code} {H : Heap} {locs : List Loc} {cells slots : Nat} {Q : State → Prop}
variable {pc : Nat} {ls : Array Slot} {rest : List Value}
theorem z_under {z x y : Int32} (h : x = y) (k : W p l e R s m args below meth c H locs cells slots Q (F0 m pc ls (.int z :: .int y :: rest))) : W p l e R s m args below meth c H locs cells slots Q (F0 m pc ls (.int z :: .int x :: rest)) := by subst h; exact k
end LUN
set_option maxHeartbeats 4000000 in
set_option maxRecDepth 100000 in
theorem law_loop {p : Program} {l : Launch} {e : Env} {s : State} {m : MethodId} {below : List Frame} {meth : Method} {c : Code} {b L : Nat} {xs : Nat → Int32} {g : GG} {ad a : Nat → Nat} {ao : Nat} {xk : Nat → Nat} {kq : KK} {Q : State → Prop} (F : LF p l s m c b L xs g ad a ao xk kq)
    (hend : ∀ (H : Heap) (ls : Array Slot), W p l e room_1 s m #[Value.ref b] below meth c H [] 601024 7293034 Q (F0 m 948 ls [.int 1])) :
    ∀ (n i : Nat) (H : Heap) (locs : List Loc) (cells slots : Nat) (ls : Array Slot), L < i + 6 * n + 6 → i ≤ 3078 → cells + n + 1 ≤ 601024 → slots + 6 * n + 6 ≤ 7293034 → LI g ad a ao H → va_S (lA s) s.heap H locs → lv_has ls 7 (lvL b ad a ao i) → W p l e room_1 s m #[Value.ref b] below meth c H locs cells slots Q (F0 m 23 ls []) := by
  obtain ⟨S, hl9, hK, hkC, hkY, hd9, ha, hdis, hao, ham, hA8, hA9, hAo, hX, hbl, hL⟩ := id F
  obtain ⟨hx, hb, hml, hown, hts⟩ := S
  intro n
  induction n with
  | zero =>
    intro i H locs cells slots ls hin hi8 hcl hsl hLI hS hl
    refine lv_iload hx hb dL_law_23 (lv_at hl 4 rfl) ?_
    refine lv_aload_n hx hb dL_law_25 rfl (lv_at hl 0 rfl) ?_
    refine va_slen hx hb hX hbl (A := lA s) (Nat.not_le.mpr hbl) hS dL_law_26 ?_
    refine lv_bipush (v := zI 6) hx hb dL_law_27 (by decide) ?_
    refine z_under (y := zI (L : Int)) (by unfold zI; exact (Int32.ofInt_eq_ofNat).symm) ?_
    refine z_isub hx hb dL_law_29 ?_
    refine z_icmp_gt (tgt := 947) hx hb dL_law_30 (by decide) (by omega) (by omega) (fun h9 => ?_) (fun h9 => ?_)
    · refine lv_iconst (v := 1) hx hb dL_law_947 (by decide) ?_
      refine va_forget (fun q hq => hS.2.2 q hq) ?_
      refine W.widen (k := 601024) (n := 7293034) (by omega) (by omega) ?_
      exact hend H ls
    · exact absurd hin (by omega)
  | succ n ih =>
    intro i H locs cells slots ls hin hi8 hcl hsl hLI hS hl
    refine lv_iload hx hb dL_law_23 (lv_at hl 4 rfl) ?_
    refine lv_aload_n hx hb dL_law_25 rfl (lv_at hl 0 rfl) ?_
    refine va_slen hx hb hX hbl (A := lA s) (Nat.not_le.mpr hbl) hS dL_law_26 ?_
    refine lv_bipush (v := zI 6) hx hb dL_law_27 (by decide) ?_
    refine z_under (y := zI (L : Int)) (by unfold zI; exact (Int32.ofInt_eq_ofNat).symm) ?_
    refine z_isub hx hb dL_law_29 ?_
    refine z_icmp_gt (tgt := 947) hx hb dL_law_30 (by decide) (by omega) (by omega) (fun h9 => ?_) (fun h9 => ?_)
    · refine lv_iconst (v := 1) hx hb dL_law_947 (by decide) ?_
      refine va_forget (fun q hq => hS.2.2 q hq) ?_
      refine W.widen (k := 601024) (n := 7293034) (by omega) (by omega) ?_
      exact hend H ls
    · have hi6 : i + 6 ≤ L := by omega
      have hcl1 : cells + 1 ≤ room_1.cells := show cells + 1 ≤ 601024 by omega
      have hsl1 : slots + 6 ≤ room_1.slots := show slots + 6 ≤ 7293034 by omega
      have kk9 : ∀ (H1 : Heap) (locs1 : List Loc) (ls1 : Array Slot), LI g ad a ao H1 → va_S (lA s) s.heap H1 locs1 → lv_has ls1 7 (lvL b ad a ao i) → W p l e room_1 s m #[Value.ref b] below meth c H1 locs1 (cells + 1) (slots + 6) Q (F0 m 941 ls1 []) := by
        intro H1 locs1 ls1 hLI1 hS1 hl1
        refine z_iinc (k := 4) (lv' := [(4, .int (zI ((i : Int) + 6))), (0, .ref b), (1, .ref (ad 0)), (2, .ref (a 0)), (3, .ref ao)]) hx hb dL_law_941 hl1 rfl (by decide) rfl (fun ls2 hl2 => ?_)
        refine lv_goto (tgt := 23) hx hb dL_law_944 (by decide) ?_
        refine ih (i + 6) H1 locs1 (cells + 1) (slots + 6) ls2 (by omega) (by omega) (by omega) (by omega) hLI1 hS1 (lvx_sub hl2 (fun q h => ?_))
        simp only [lvL, List.mem_cons, List.not_mem_nil, or_false] at h ⊢
        rcases h with rfl | rfl | rfl | rfl | rfl
        · simp
        · simp
        · simp
        · simp
        · left; rfl
      refine lv_aload_n hx hb dL_law_33 rfl (lv_at hl 0 rfl) ?_
      refine lv_iload hx hb dL_law_34 (lv_at hl 4 rfl) ?_
      refine va_sld hx hb hX hbl (A := lA s) (Nat.not_le.mpr hbl) hS (zI_in (n := i) (by omega) (by omega)) dL_law_36 ?_
      refine lv_bipush (v := 31) hx hb dL_law_37 (by decide) ?_
      refine lv_iand hx hb dL_law_39 ?_
      generalize (xs (zI (i : Int)).toNatClampNeg &&& 31) = x
      by_cases q0 : x = 0
      · subst q0
        refine lv_tableIn (off := 96) (tgt := 136) hx hb dL_law_40 (by decide) (by decide) (by decide) (by decide) ?_
        exact lc_0 F hi6 hLI hS hl hcl1 hsl1 kk9
      by_cases q1 : x = 1
      · subst q1
        refine lv_tableIn (off := 169) (tgt := 209) hx hb dL_law_40 (by decide) (by decide) (by decide) (by decide) ?_
        exact lc_1 F hi6 hLI hS hl hcl1 hsl1 kk9
      by_cases q2 : x = 2
      · subst q2
        refine lv_tableIn (off := 194) (tgt := 234) hx hb dL_law_40 (by decide) (by decide) (by decide) (by decide) ?_
        exact lc_2 F hi6 hLI hS hl hcl1 hsl1 kk9
      by_cases q3 : x = 3
      · subst q3
        refine lv_tableIn (off := 207) (tgt := 247) hx hb dL_law_40 (by decide) (by decide) (by decide) (by decide) ?_
        exact lc_3 F hi6 hLI hS hl hcl1 hsl1 kk9
      by_cases q4 : x = 4
      · subst q4
        refine lv_tableIn (off := 220) (tgt := 260) hx hb dL_law_40 (by decide) (by decide) (by decide) (by decide) ?_
        exact lc_4 F hi6 hLI hS hl hcl1 hsl1 kk9
      by_cases q5 : x = 5
      · subst q5
        refine lv_tableIn (off := 245) (tgt := 285) hx hb dL_law_40 (by decide) (by decide) (by decide) (by decide) ?_
        exact lc_5 F hi6 hLI hS hl hcl1 hsl1 kk9
      by_cases q6 : x = 6
      · subst q6
        refine lv_tableIn (off := 313) (tgt := 353) hx hb dL_law_40 (by decide) (by decide) (by decide) (by decide) ?_
        exact lc_6 F hi6 hLI hS hl hcl1 hsl1 kk9
      by_cases q7 : x = 7
      · subst q7
        refine lv_tableIn (off := 362) (tgt := 402) hx hb dL_law_40 (by decide) (by decide) (by decide) (by decide) ?_
        exact lc_7 F hi6 hLI hS hl hcl1 hsl1 kk9
      by_cases q8 : x = 8
      · subst q8
        refine lv_tableIn (off := 399) (tgt := 439) hx hb dL_law_40 (by decide) (by decide) (by decide) (by decide) ?_
        exact lc_8 F hi6 hLI hS hl hcl1 hsl1 kk9
      by_cases q9 : x = 9
      · subst q9
        refine lv_tableIn (off := 424) (tgt := 464) hx hb dL_law_40 (by decide) (by decide) (by decide) (by decide) ?_
        exact lc_9 F hi6 hLI hS hl hcl1 hsl1 kk9
      by_cases q10 : x = 10
      · subst q10
        refine lv_tableIn (off := 473) (tgt := 513) hx hb dL_law_40 (by decide) (by decide) (by decide) (by decide) ?_
        exact lc_10 F hi6 hLI hS hl hcl1 hsl1 kk9
      by_cases q11 : x = 11
      · subst q11
        refine lv_tableIn (off := 510) (tgt := 550) hx hb dL_law_40 (by decide) (by decide) (by decide) (by decide) ?_
        exact lc_11 F hi6 hLI hS hl hcl1 hsl1 kk9
      by_cases q12 : x = 12
      · subst q12
        refine lv_tableIn (off := 559) (tgt := 599) hx hb dL_law_40 (by decide) (by decide) (by decide) (by decide) ?_
        exact lc_12 F hi6 hLI hS hl hcl1 hsl1 kk9
      by_cases q13 : x = 13
      · subst q13
        refine lv_tableIn (off := 615) (tgt := 655) hx hb dL_law_40 (by decide) (by decide) (by decide) (by decide) ?_
        exact lc_13 F hi6 hLI hS hl hcl1 hsl1 kk9
      by_cases q14 : x = 14
      · subst q14
        refine lv_tableIn (off := 664) (tgt := 704) hx hb dL_law_40 (by decide) (by decide) (by decide) (by decide) ?_
        exact lc_14 F hi6 hLI hS hl hcl1 hsl1 kk9
      by_cases q15 : x = 15
      · subst q15
        refine lv_tableIn (off := 701) (tgt := 741) hx hb dL_law_40 (by decide) (by decide) (by decide) (by decide) ?_
        exact lc_15 F hi6 hLI hS hl hcl1 hsl1 kk9
      by_cases q16 : x = 16
      · subst q16
        refine lv_tableIn (off := 754) (tgt := 794) hx hb dL_law_40 (by decide) (by decide) (by decide) (by decide) ?_
        exact lc_16 F hi6 hLI hS hl hcl1 hsl1 kk9
      by_cases q17 : x = 17
      · subst q17
        refine lv_tableIn (off := 819) (tgt := 859) hx hb dL_law_40 (by decide) (by decide) (by decide) (by decide) ?_
        exact lc_17 F hi6 hLI hS hl hcl1 hsl1 kk9
      by_cases q18 : x = 18
      · subst q18
        refine lv_tableIn (off := 832) (tgt := 872) hx hb dL_law_40 (by decide) (by decide) (by decide) (by decide) ?_
        exact lc_18 F hi6 hLI hS hl hcl1 hsl1 kk9
      by_cases q19 : x = 19
      · subst q19
        refine lv_tableIn (off := 888) (tgt := 928) hx hb dL_law_40 (by decide) (by decide) (by decide) (by decide) ?_
        exact lc_19 F hi6 hLI hS hl hcl1 hsl1 kk9
      have ho : x.toInt < 0 ∨ 19 < x.toInt := by
        rcases Int.lt_or_le x.toInt 0 with h | h
        · exact Or.inl h
        · rcases Int.lt_or_le 19 x.toInt with h2 | h2
          · exact Or.inr h2
          · exfalso
            have hxx : x = zI x.toInt := by unfold zI; exact (Int32.ofInt_toInt _).symm
            generalize x.toInt = z at *
            have hz : z = 0 ∨ z = 1 ∨ z = 2 ∨ z = 3 ∨ z = 4 ∨ z = 5 ∨ z = 6 ∨ z = 7 ∨ z = 8 ∨ z = 9 ∨ z = 10 ∨ z = 11 ∨ z = 12 ∨ z = 13 ∨ z = 14 ∨ z = 15 ∨ z = 16 ∨ z = 17 ∨ z = 18 ∨ z = 19 := by omega
            rcases hz with rfl | rfl | rfl | rfl | rfl | rfl | rfl | rfl | rfl | rfl | rfl | rfl | rfl | rfl | rfl | rfl | rfl | rfl | rfl | rfl
            · exact q0 hxx
            · exact q1 hxx
            · exact q2 hxx
            · exact q3 hxx
            · exact q4 hxx
            · exact q5 hxx
            · exact q6 hxx
            · exact q7 hxx
            · exact q8 hxx
            · exact q9 hxx
            · exact q10 hxx
            · exact q11 hxx
            · exact q12 hxx
            · exact q13 hxx
            · exact q14 hxx
            · exact q15 hxx
            · exact q16 hxx
            · exact q17 hxx
            · exact q18 hxx
            · exact q19 hxx
      refine lv_tableOut (tgt := 941) hx hb dL_law_40 ho (by decide) ?_
      refine W.widen (Nat.le_add_right _ 1) (Nat.le_add_right _ 6) ?_
      exact kk9 H locs ls hLI hS hl
