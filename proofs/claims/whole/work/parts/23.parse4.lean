def bdI (k : Nat) : Option Nat :=
  if k < 2 then some 9999 else if k = 2 then some 60 else if k = 3 then some 9999 else if k = 4 then some 5
  else if k < 50 then (if (k - 5) % 9 < 2 then some 363 else some 96) else if k = 50 then some 3
  else if k < 57 then (if (k - 51) % 2 = 0 then some 60 else some 300) else if k = 57 then some 4
  else if k < 110 then (if (k - 58) % 13 = 0 then some 999 else if (k - 58) % 13 = 1 then some 9999 else none) else none
theorem isN_up {N : Nat → Int32} {j k b v b' : Nat} (hb : bdI j = some b) (hv : v ≤ b) (hk : isN N k b') (e : k = j → bdI k = some b') (hb' : b' < 2147483648) : isN (upd N j (zI v)) k b' := by
  by_cases q : k = j
  · subst q
    have := e rfl
    rw [hb] at this
    cases this
    exact isN_at hv hb'
  · exact isN_ne _ q hk
theorem bd_s {i : Nat} (hi : i < 5) : bdI (5 + 9 * i) = some 363 ∧ bdI (6 + 9 * i) = some 363 ∧ ∀ j, j < 7 → bdI (7 + 9 * i + j) = some 96 := by
  rcases (by omega : i = 0 ∨ i = 1 ∨ i = 2 ∨ i = 3 ∨ i = 4) with rfl | rfl | rfl | rfl | rfl <;> refine ⟨rfl, rfl, fun j hj => ?_⟩ <;> rcases (by omega : j = 0 ∨ j = 1 ∨ j = 2 ∨ j = 3 ∨ j = 4 ∨ j = 5 ∨ j = 6) with rfl | rfl | rfl | rfl | rfl | rfl | rfl <;> rfl
theorem bd_n {i : Nat} (hi : i < 3) : bdI (51 + 2 * i) = some 60 ∧ bdI (52 + 2 * i) = some 300 := by
  rcases (by omega : i = 0 ∨ i = 1 ∨ i = 2) with rfl | rfl | rfl <;> exact ⟨rfl, rfl⟩
theorem bd_w {w : Nat} (hw : w < 4) : bdI (58 + 13 * w) = some 999 ∧ bdI (59 + 13 * w) = some 9999 ∧ bdI (67 + 13 * w) = none ∧ bdI (60 + 13 * w) = none := by
  rcases (by omega : w = 0 ∨ w = 1 ∨ w = 2 ∨ w = 3) with rfl | rfl | rfl | rfl <;> exact ⟨rfl, rfl, rfl, rfl⟩
theorem bd_lt {j b : Nat} (h : bdI j = some b) : j < 110 := by
  apply Classical.byContradiction
  intro q
  unfold bdI at h
  rw [if_neg (by omega), if_neg (by omega), if_neg (by omega), if_neg (by omega), if_neg (by omega), if_neg (by omega), if_neg (by omega), if_neg (by omega), if_neg (by omega)] at h
  cases h
theorem okN_up {N : Nat → Int32} (h : okN N) {j b v : Nat} (hb : bdI j = some b) (hv : v ≤ b) (h2 : j = 2 → 1 ≤ v) (hbal : ∀ w, w < 4 → N (60 + 13 * w) = zI 0) : okN (upd N j (zI v)) := by
  have hj := bd_lt hb
  have hbz : ∀ w, w < 4 → (N (60 + 13 * w)).toInt = 0 := fun w hw => by rw [hbal w hw, zI_toInt (by omega)]
  refine ⟨isN_up hb hv h.lo (fun _ => rfl) (by omega), isN_up hb hv h.hi (fun _ => rfl) (by omega), ⟨isN_up hb hv h.win (fun _ => rfl) (by omega), ?_⟩, isN_up hb hv h.lim (fun _ => rfl) (by omega), isN_up hb hv h.ns (fun _ => rfl) (by omega), fun i hi => ⟨isN_up hb hv (h.s0 hi) (fun _ => (bd_s hi).1) (by omega), isN_up hb hv (h.s1 hi) (fun _ => (bd_s hi).2.1) (by omega), fun j hj => isN_up hb hv (h.sq hi hj) (fun _ => (bd_s hi).2.2 j hj) (by omega)⟩, isN_up hb hv h.nn (fun _ => rfl) (by omega), fun i hi => ⟨isN_up hb hv (h.n0 hi) (fun _ => (bd_n hi).1) (by omega), isN_up hb hv (h.n1 hi) (fun _ => (bd_n hi).2) (by omega)⟩, isN_up hb hv h.nw (fun _ => rfl) (by omega), fun x hx => ⟨isN_up hb hv (h.rate hx) (fun _ => (bd_w hx).1) (by omega), isN_up hb hv (h.leave hx) (fun _ => (bd_w hx).2.1) (by omega), isN_ne _ (fun q => by rw [← q, (bd_w hx).2.2.1] at hb; cases hb) (h.gone hx), ?_⟩, isN_ne _ (by omega) h.td, fun x hx d hd => ⟨isN_ne _ (by omega) (h.cell hx hd), ?_, ?_, ?_⟩⟩
  · by_cases q : 2 = j
    · subst q; rw [mn_at (by cases hb; omega)]; exact h2 rfl
    · rw [mn_ne _ q]; exact h.win1
  · rw [upd_ne N (fun q => by rw [← q, (bd_w hx).2.2.2] at hb; cases hb), hbz x hx]
    omega
  · unfold chg; rw [cell_ne _ (by omega)]; exact h.chg hx hd
  · unfold wkd; rw [cell_ne _ (by omega)]; exact h.wkd hx hd
  · unfold knd; rw [cell_ne _ (by omega)]; exact h.knd hx hd
def zr (r : Nat → Int32) : Prop := (∀ w, w < 4 → ∀ k, 2 ≤ k → k < 13 → r (58 + 13 * w + k) = zI 0) ∧ r 110 = zI 0 ∧ ∀ j, 111 ≤ j → j < 1567 → r j = zI 0
def okP (r : Nat → Int32) : Prop := okN r ∧ zr r
theorem bd_wk {w k : Nat} (hw : w < 4) (hk : 2 ≤ k) (hk2 : k < 13) : bdI (58 + 13 * w + k) = none ∨ 110 ≤ 58 + 13 * w + k := by
  by_cases q : 110 ≤ 58 + 13 * w + k
  · exact Or.inr q
  · refine Or.inl ?_
    unfold bdI
    rw [if_neg (by omega), if_neg (by omega), if_neg (by omega), if_neg (by omega), if_neg (by omega), if_neg (by omega), if_neg (by omega), if_neg (by omega), if_pos (by omega), if_neg (by omega), if_neg (by omega)]
theorem okP_up {r : Nat → Int32} (h : okP r) {j b v : Nat} (hb : bdI j = some b) (hv : v ≤ b) (h2 : j = 2 → 1 ≤ v) : okP (upd r j (zI v)) := by
  have hj := bd_lt hb
  refine ⟨okN_up h.1 hb hv h2 (fun w hw => by have := h.2.1 w hw 2 (by omega) (by omega); rw [show 58 + 13 * w + 2 = 60 + 13 * w by omega] at this; exact this), fun w hw k hk hk2 => ?_, ?_, fun i h1 h3 => ?_⟩
  · have hne : 58 + 13 * w + k ≠ j := fun q => by
      rcases bd_wk hw hk hk2 with z | z
      · rw [q, hb] at z; cases z
      · omega
    rw [upd_ne r hne]; exact h.2.1 w hw k hk hk2
  · rw [upd_ne r (by omega)]; exact h.2.2.1
  · rw [upd_ne r (by omega)]; exact h.2.2.2 i h1 h3
theorem okP_tel {β : Nat → Nat} {n at0 lo hi p : Nat} {r : Nat → Int32} {q : Nat × (Nat → Int32)} (h : okP r) (hp : p ≤ n) {b : Nat} (hb : bdI at0 = some b) (hv : hi ≤ b) (h2 : at0 = 2 → 1 ≤ lo) (hx : tel β n at0 lo hi p r = .inr q) : okP q.2 ∧ p ≤ q.1 ∧ q.1 ≤ n := by
  have t := tel_in hp hx
  refine ⟨?_, t.2.2.2.2.2.1, t.2.2.2.2.2.2⟩
  rw [t.2.2.2.2.1]
  exact okP_up h hb (by omega) (fun z => by have := h2 z; omega)
theorem bnd_in {x : PR} {f : Nat → (Nat → Int32) → PR} {q : Nat × (Nat → Int32)} (h : bnd x f = .inr q) : ∃ q1, x = .inr q1 ∧ f q1.1 q1.2 = .inr q := by
  rcases pr_cases x with ⟨e, hx⟩ | ⟨q1, hx⟩
  · rw [bnd_l hx] at h; cases h
  · rw [bnd_r hx] at h; exact ⟨q1, hx, h⟩
theorem okP_bank {β : Nat → Nat} {n p : Nat} {r : Nat → Int32} {q : Nat × (Nat → Int32)} (h : okP r) (hp : p ≤ n) (hx : bankP β n p r = .inr q) : okP q.2 ∧ p ≤ q.1 ∧ q.1 ≤ n := by
  unfold bankP at hx
  split at hx
  · have g0 := gto_le (β := β) hp
    obtain ⟨q1, x1, hx⟩ := bnd_in hx
    have t1 := okP_tel h g0.1 (b := 9999) rfl (by omega) (by omega) x1
    obtain ⟨q2, x2, hx⟩ := bnd_in hx
    have t2 := okP_tel t1.1 t1.2.2 (b := 9999) rfl (by omega) (by omega) x2
    obtain ⟨q3, x3, hx⟩ := bnd_in hx
    have t3 := okP_tel t2.1 t2.2.2 (b := 60) rfl (by omega) (by omega) x3
    have t4 := okP_tel t3.1 t3.2.2 (b := 9999) rfl (by omega) (by omega) hx
    exact ⟨t4.1, by omega, t4.2.2⟩
  · cases hx
theorem telN_in {β : Nat → Nat} {n i : Nat} (hi : i < 5) : ∀ k p r q, k ≤ 7 → okP r → p ≤ n → telN β n (5 + 9 * i) k p r = .inr q → okP q.2 ∧ p ≤ q.1 ∧ q.1 ≤ n ∧ q.2 4 = r 4
  | 0, p, r, q, _, h, hp, hx => by cases hx; exact ⟨h, Nat.le_refl _, hp, rfl⟩
  | k + 1, p, r, q, hk, h, hp, hx => by
    rw [telN] at hx
    obtain ⟨q1, x1, hx⟩ := bnd_in hx
    have t1 := telN_in hi k p r q1 (by omega) h hp x1
    have hb : bdI (5 + 9 * i + (2 + k)) = some 96 := by
      have := (bd_s hi).2.2 k (by omega)
      rw [show 5 + 9 * i + (2 + k) = 7 + 9 * i + k by omega]; exact this
    have t2 := okP_tel t1.1 t1.2.2.1 hb (by omega) (by omega) hx
    have t3 := tel_in t1.2.2.1 hx
    refine ⟨t2.1, by omega, t2.2.2, ?_⟩
    rw [t3.2.2.2.2.1, upd_ne _ (by omega)]; exact t1.2.2.2
theorem okP_seas {β : Nat → Nat} {n p : Nat} {r : Nat → Int32} {q : Nat × (Nat → Int32)} (h : okP r) (hp : p ≤ n) (hx : seasP β n p r = .inr q) : okP q.2 ∧ p ≤ q.1 ∧ q.1 ≤ n := by
  have hc := h.1.ns.le
  unfold seasP at hx
  split at hx
  · cases hx
  · have g0 := gto_le (β := β) hp
    have hb := bd_s (i := mn r 4) (by omega)
    obtain ⟨q1, x1, hx⟩ := bnd_in hx
    have t1 := okP_tel h g0.1 hb.1 (by omega) (by omega) x1
    obtain ⟨q2, x2, hx⟩ := bnd_in hx
    have t2 := okP_tel t1.1 t1.2.2 (b := 363) (by rw [show 5 + 9 * mn r 4 + 1 = 6 + 9 * mn r 4 by omega]; exact hb.2.1) (by omega) (by omega) x2
    obtain ⟨q3, x3, hx⟩ := bnd_in hx
    have t3 := telN_in (by omega) 7 _ _ _ (by omega) t2.1 t2.2.2 x3
    cases hx
    exact ⟨okP_up t3.1 (b := 5) rfl (by omega) (by omega), by show p ≤ q3.1; omega, t3.2.2.1⟩
theorem okP_not {β : Nat → Nat} {n p : Nat} {r : Nat → Int32} {q : Nat × (Nat → Int32)} (h : okP r) (hp : p ≤ n) (hx : notP β n p r = .inr q) : okP q.2 ∧ p ≤ q.1 ∧ q.1 ≤ n := by
  have hc := h.1.nn.le
  unfold notP at hx
  split at hx
  · cases hx
  · have g0 := gto_le (β := β) hp
    have hb := bd_n (i := mn r 50) (by omega)
    obtain ⟨q1, x1, hx⟩ := bnd_in hx
    have t1 := okP_tel h g0.1 hb.1 (by omega) (by omega) x1
    obtain ⟨q2, x2, hx⟩ := bnd_in hx
    have t2 := okP_tel t1.1 t1.2.2 (b := 300) (by rw [show 51 + 2 * mn r 50 + 1 = 52 + 2 * mn r 50 by omega]; exact hb.2) (by omega) (by omega) x2
    cases hx
    exact ⟨okP_up t2.1 (b := 3) rfl (by omega) (by omega), by show p ≤ q2.1; omega, t2.2.2⟩
theorem okP_work {β : Nat → Nat} {n p : Nat} {r : Nat → Int32} {q : Nat × (Nat → Int32)} (h : okP r) (hp : p ≤ n) (hx : workP β n p r = .inr q) : okP q.2 ∧ p ≤ q.1 ∧ q.1 ≤ n := by
  have hc := h.1.nw.le
  unfold workP at hx
  split at hx
  · cases hx
  · have g0 := gto_le (β := β) hp
    have hb := bd_w (w := mn r 57) (by omega)
    obtain ⟨q1, x1, hx⟩ := bnd_in hx
    have t1 := okP_tel h g0.1 hb.1 (by omega) (by omega) x1
    obtain ⟨q2, x2, hx⟩ := bnd_in hx
    have t2 := okP_tel t1.1 t1.2.2 (b := 9999) (by rw [show 58 + 13 * mn r 57 + 1 = 59 + 13 * mn r 57 by omega]; exact hb.2.1) (by omega) (by omega) x2
    cases hx
    exact ⟨okP_up t2.1 (b := 4) rfl (by omega) (by omega), by show p ≤ q2.1; omega, t2.2.2⟩
theorem okP_line {β : Nat → Nat} {n p : Nat} {F : Prop} [Decidable F] {r : Nat → Int32} {q : Nat × (Nat → Int32)} (h : okP r) (hp : p ≤ n) (hx : lineP β n F p r = .inr q) : okP q.2 ∧ p ≤ q.1 ∧ q.1 ≤ n := by
  unfold lineP at hx
  split at hx
  · exact okP_bank h hp hx
  · split at hx
    · exact okP_seas h hp hx
    · split at hx
      · exact okP_not h hp hx
      · split at hx
        · exact okP_work h hp hx
        · cases hx
theorem lineP_cg {β : Nat → Nat} {n p : Nat} {F G : Prop} [Decidable F] [Decidable G] (h : F ↔ G) (r : Nat → Int32) : lineP β n F p r = lineP β n G p r := by
  unfold lineP
  by_cases q : F
  · rw [if_pos q, if_pos (h.mp q)]
  · rw [if_neg q, if_neg (fun z => q (h.mpr z))]
theorem endP_in {β : Nat → Nat} {n p : Nat} {r : Nat → Int32} {q : Nat × (Nat → Int32)} (hp : p ≤ n) (hx : endP β n p r = .inr q) : gSo β n p = 4 ∧ q = (gTo β n p, r) ∧ p < gTo β n p ∧ gTo β n p ≤ n := by
  unfold endP at hx
  split at hx
  · rename_i h4
    cases hx
    refine ⟨h4, rfl, (gto_le hp).2.2 (by omega) (fun z => ?_), (gto_le hp).1⟩
    have := (g_over rfl z).2.2.1
    omega
  · cases hx
theorem parse_s {β : Nat → Nat} {n f ln p : Nat} {r : Nat → Int32} (h : ¬ gSo β n p = 0) : parseL β n (f + 1) ln p r = bnd (bnd (lineP β n (ln = 0) p r) (endP β n)) (parseL β n f (ln + 1)) := by rw [parseL, if_neg h]
theorem parse_e {β : Nat → Nat} {n f ln p : Nat} {r : Nat → Int32} (h : gSo β n p = 0) : parseL β n (f + 1) ln p r = .inr (ln, r) := by rw [parseL, if_pos h]
def zfP (r : Nat → Int32) (i : Nat) : Nat → Int32 := fun j => if j < i then zI 0 else r j
def cpP (r N : Nat → Int32) (i : Nat) : Nat → Int32 := fun j => if j < i then r j else N j
theorem zfP_0 (r : Nat → Int32) : zfP r 0 = r := by funext j; unfold zfP; rw [if_neg (by omega)]
theorem zfP_s (r : Nat → Int32) (i : Nat) : upd (zfP r i) i (zI 0) = zfP r (i + 1) := by
  funext j; unfold upd zfP
  by_cases h : j = i
  · subst h; rw [if_pos rfl, if_pos (by omega)]
  · rw [if_neg h]
    by_cases h2 : j < i
    · rw [if_pos h2, if_pos (by omega)]
    · rw [if_neg h2, if_neg (by omega)]
theorem cpP_0 (r N : Nat → Int32) : cpP r N 0 = N := by funext j; unfold cpP; rw [if_neg (by omega)]
theorem cpP_s (r N : Nat → Int32) (i : Nat) : upd (cpP r N i) i (r i) = cpP r N (i + 1) := by
  funext j; unfold upd cpP
  by_cases h : j = i
  · subst h; rw [if_pos rfl, if_pos (by omega)]
  · rw [if_neg h]
    by_cases h2 : j < i
    · rw [if_pos h2, if_pos (by omega)]
    · rw [if_neg h2, if_neg (by omega)]
abbrev rd0 (r : Nat → Int32) : Nat → Int32 := upd (zfP r 1567) 2 (zI ((1 : Nat) : Int))
theorem isN_z {N : Nat → Int32} {k b : Nat} (h : N k = zI 0) : isN N k b := by unfold isN; rw [h, zI_toInt (by omega)]; omega
theorem rd0_at (r : Nat → Int32) {j : Nat} (h : j < 1567) (h2 : j ≠ 2) : rd0 r j = zI 0 := by
  show upd (zfP r 1567) 2 _ j = _
  rw [upd_ne _ h2]; unfold zfP; rw [if_pos h]
theorem mn_z {N : Nat → Int32} {k : Nat} (h : N k = zI 0) : mn N k = 0 := by unfold mn; rw [h, zI_toInt (by omega)]; rfl
theorem okN_z {N : Nat → Int32} (h2 : N 2 = zI ((1 : Nat) : Int)) (h : ∀ j, j < 1567 → j ≠ 2 → N j = zI 0) : okN N := by
  refine ⟨isN_z (h 0 (by omega) (by omega)), isN_z (h 1 (by omega) (by omega)), ⟨isN.of h2 (by omega) (by omega), by rw [mn_of h2 (by omega)]; omega⟩, isN_z (h 3 (by omega) (by omega)), isN_z (h 4 (by omega) (by omega)), fun i hi => ⟨isN_z (h _ (by omega) (by omega)), isN_z (h _ (by omega) (by omega)), fun j hj => isN_z (h _ (by omega) (by omega))⟩, isN_z (h _ (by omega) (by omega)), fun i hi => ⟨isN_z (h _ (by omega) (by omega)), isN_z (h _ (by omega) (by omega))⟩, isN_z (h _ (by omega) (by omega)), fun x hx => ⟨isN_z (h _ (by omega) (by omega)), isN_z (h _ (by omega) (by omega)), isN_z (h _ (by omega) (by omega)), ?_⟩, isN_z (h _ (by omega) (by omega)), fun x hx d hd => ⟨isN_z (h _ (by omega) (by omega)), ?_, ?_, ?_⟩⟩
  · rw [h (60 + 13 * x) (by omega) (by omega), zI_toInt (by omega)]; omega
  · unfold chg cellN; rw [mn_z (h _ (by omega) (by omega))]; omega
  · unfold wkd cellN; rw [mn_z (h _ (by omega) (by omega))]; omega
  · unfold knd cellN; rw [mn_z (h _ (by omega) (by omega))]; omega
theorem okP_0 (r : Nat → Int32) : okP (rd0 r) := by
  refine ⟨okN_z (upd_at _ _ _) (fun j h1 h2 => rd0_at r h1 h2), fun w hw k hk hk2 => ?_, rd0_at r (by omega) (by omega), fun j h1 h3 => rd0_at r h3 (by omega)⟩
  by_cases q : 58 + 13 * w + k < 1567
  · exact rd0_at r q (by omega)
  · omega
def textQ (X : PR) (r : Int32) (sc sc1 : Nat → Int32) (N N1 : Nat → Int32) : Prop := sc1 0 = zI 0 ∧ sc1 1 = zI 0 ∧ match X with
  | .inl e => r = zI (-1 - (e.2 : Int)) ∧ sc1 7 = zI e.1 ∧ N1 = N ∧ sc1 9 = sc 9
  | .inr q => r = zI q.1 ∧ sc1 7 = zI 0 ∧ N1 = cpP q.2 N 1567 ∧ sc1 9 = zI 0
theorem textQ_l {X : PR} {e : Nat × Nat} {r : Int32} {sc sc1 N N1 : Nat → Int32} (hx : X = .inl e) (h0 : sc1 0 = zI 0) (h1 : sc1 1 = zI 0) (hr : r = zI (-1 - (e.2 : Int))) (h7 : sc1 7 = zI e.1) (hN : N1 = N) (h9 : sc1 9 = sc 9) : textQ X r sc sc1 N N1 := by subst hx; exact ⟨h0, h1, hr, h7, hN, h9⟩
theorem textQ_r {X : PR} {q : Nat × (Nat → Int32)} {r : Int32} {sc sc1 N N1 : Nat → Int32} (hx : X = .inr q) (h0 : sc1 0 = zI 0) (h1 : sc1 1 = zI 0) (hr : r = zI q.1) (h7 : sc1 7 = zI 0) (hN : N1 = cpP q.2 N 1567) (h9 : sc1 9 = zI 0) : textQ X r sc sc1 N N1 := by subst hx; exact ⟨h0, h1, hr, h7, hN, h9⟩
theorem cur_mk {β : Nat → Nat} {n p : Nat} {sc sc' : Nat → Int32} {wd : Int64} (h : cur β n p sc wd) (h3 : sc' 3 = sc 3) (h4 : sc' 4 = sc 4) (h5 : sc' 5 = sc 5) (h6 : sc' 6 = sc 6) : cur β n p sc' wd := ⟨h3.trans h.1, h4.trans h.2.1, h5.trans h.2.2.1, fun q => h6.trans (h.2.2.2.1 q), h.2.2.2.2⟩
