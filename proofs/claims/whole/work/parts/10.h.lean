/-! ===== changes of the grains ===== -/
def un {α : Type} (f : Nat → α) (k : Nat) (x : α) : Nat → α := fun j => if j = k then x else f j
theorem un_s {α : Type} {f : Nat → α} {k : Nat} {x : α} : un f k x k = x := if_pos rfl
theorem un_n {α : Type} {f : Nat → α} {k j : Nat} {x : α} (h : j ≠ k) : un f k x j = f j := if_neg h
theorem atF_ext {C D : Nat → Nat} : ∀ {n c : Nat}, (∀ i, i < n → C i = D i) → atF C n c = atF D n c
  | 0, _, _ => rfl
  | n + 1, c, h => by
    rw [atF, atF, h n (by omega), atF_ext (fun i hi => h i (by omega))]
/-- one grain more -/
def addM (M : GM) (c h : Nat) (st : Int32) : GM := (mN M + 1, un (mC M) (mN M) c, un (mH M) (mN M) h, un (mW M) (mN M) st, mL M, mS M, mR M, mT M, mA M, mK M)
def lotM (M : GM) (L : Nat) : GM := (mN M, mC M, mH M, mW M, L, mS M, mR M, mT M, mA M, mK M)
def cntM (M : GM) (r t a k : Int32) : GM := (mN M, mC M, mH M, mW M, mL M, mS M, r, t, a, k)
theorem WF.lot {M : GM} (w : WF M) {L : Nat} (h : L < 10000) : WF (lotM M L) := ⟨w.1, w.2.1, w.2.2.1, w.2.2.2.1, h, w.2.2.2.2.2⟩
theorem WF.cnt {M : GM} (w : WF M) {r t a k : Int32} : WF (cntM M r t a k) := ⟨w.1, w.2.1, w.2.2.1, w.2.2.2.1, w.2.2.2.2.1, w.2.2.2.2.2⟩
theorem WF.add {M : GM} (w : WF M) {c h : Nat} {st : Int32} (hn : mN M < 121) (hc : c < 121) (ha : at_ M c = none) (hh : h ≤ mN M) : WF (addM M c h st) := by
  refine ⟨hn, fun g hg => ?_, fun g hg => ?_, fun a b h1 h2 e => ?_, w.2.2.2.2.1, w.2.2.2.2.2⟩
  · show un (mC M) (mN M) c g < 121
    by_cases q : g = mN M
    · rw [q, un_s]; exact hc
    · rw [un_n q]; exact w.c (by have : g < mN M + 1 := hg; omega)
  · show un (mH M) (mN M) h g ≤ g
    by_cases q : g = mN M
    · rw [q, un_s]; exact hh
    · rw [un_n q]; exact w.h (by have : g < mN M + 1 := hg; omega)
  · have h1' : a < mN M + 1 := h1
    have h2' : b < mN M + 1 := h2
    have e' : un (mC M) (mN M) c a = un (mC M) (mN M) c b := e
    by_cases q1 : a = mN M
    · by_cases q2 : b = mN M
      · omega
      · rw [q1, un_s, un_n q2] at e'
        exact absurd e'.symm (atF_none ha b (by omega))
    · by_cases q2 : b = mN M
      · rw [q2, un_s, un_n q1] at e'
        exact absurd e' (atF_none ha a (by omega))
      · rw [un_n q1, un_n q2] at e'
        exact w.2.2.2.1 a b (by omega) (by omega) e'
theorem at_add {M : GM} {c h k : Nat} {st : Int32} : at_ (addM M c h st) k = if c = k then some (mN M) else at_ M k := by
  show atF (un (mC M) (mN M) c) (mN M + 1) k = _
  rw [atF, un_s, atF_ext (D := mC M) (fun i hi => un_n (by omega))]
theorem gH {α : Type} {i N : Nat} {x : Option α} (h : i < N) (hN : N < 2147483648) : (if nI i < 0 ∨ N ≤ (nI i).toNatClampNeg then none else x) = x := by
  rw [if_neg]
  rw [i_cl (by omega)]
  exact fun z => z.elim (fun q => (i_neg (a := i) (by omega)).mp q) (fun q => absurd q (by omega))
/-- the number that tells whether a grain is there -/
theorem ifz {P : Prop} [Decidable P] : ((if P then (0 : Int32) else 1) = 0) ↔ P := by
  by_cases h : P
  · rw [if_pos h]; exact ⟨fun _ => h, fun _ => rfl⟩
  · rw [if_neg h]; exact ⟨fun z => absurd z (by decide), fun z => absurd z h⟩
theorem ig_num {α : Type} {x n : Int32} {N h : Nat} {A B : α} (e : n = nI N) (hN : N ≤ 121) (hx : x = hI h) (hh : h ≤ N) : (if x < 0 then A else if n ≤ x then A else B) = if h = 0 then A else B := by
  subst e hx
  by_cases q : h = 0
  · rw [if_pos q, q, if_pos (show hI 0 < 0 by decide)]
  · rw [if_neg q, hI_s q, if_neg (show ¬ nI (h - 1) < 0 from fun z => (i_neg (a := h - 1) (by omega)).mp z), if_neg (i_nle (show h - 1 < N by omega) (by omega))]
theorem ig4 {S : GX4} {N h : Nat} (hN : N ≤ 121) (hh : h ≤ N) (e : pX4_grains S = nI N) : fX4_isGrain (hI h) S = some (if h = 0 then 0 else 1) := by
  unfold fX4_isGrain
  rw [ig_num e hN rfl hh]
  by_cases q : h = 0
  · rw [if_pos q, if_pos q]
  · rw [if_neg q, if_neg q]
theorem ig5 {S : GX5} {N h : Nat} (hN : N ≤ 121) (hh : h ≤ N) (e : pX5_grains S = nI N) : fX5_isGrain (hI h) S = some (if h = 0 then 0 else 1) := by
  unfold fX5_isGrain
  rw [ig_num e hN rfl hh]
  by_cases q : h = 0
  · rw [if_pos q, if_pos q]
  · rw [if_neg q, if_neg q]
theorem igb4 {α : Type} {S : GX4} {N h : Nat} {A B : Option α} (hN : N ≤ 121) (hh : h ≤ N) (e : pX4_grains S = nI N) : ((fX4_isGrain (hI h) S).bind fun o => if o = 0 then A else B) = if h = 0 then A else B := by
  rw [ig4 hN hh e, Option.bind_some, ifc (ifz (P := h = 0))]
theorem igb5 {α : Type} {S : GX5} {N h : Nat} {A B : Option α} (hN : N ≤ 121) (hh : h ≤ N) (e : pX5_grains S = nI N) : ((fX5_isGrain (hI h) S).bind fun o => if o = 0 then A else B) = if h = 0 then A else B := by
  rw [ig5 hN hh e, Option.bind_some, ifc (ifz (P := h = 0))]
theorem igbO {α : Type} {S : GX4} {N : Nat} {o : Option Nat} {A B : Option α} (hN : N ≤ 121) (ho : ∀ g, o = some g → g < N) (e : pX4_grains S = nI N) : ((fX4_isGrain (oI o) S).bind fun z => if z = 0 then A else B) = if o = none then A else B := by
  cases o with
  | none =>
    rw [if_pos rfl, show oI none = hI 0 from rfl]
    exact (igb4 (h := 0) hN (Nat.zero_le _) e).trans (if_pos rfl)
  | some g =>
    rw [if_neg (fun z => by cases z), show oI (some g) = hI (g + 1) from (hI_s (Nat.succ_ne_zero g)).symm]
    exact (igb4 (h := g + 1) hN (ho g rfl) e).trans (if_neg (Nat.succ_ne_zero g))
theorem p_isCell {c : Nat} (hc : c < 121) : fX2_isCell (nI c) = some 1 := by
  unfold fX2_isCell
  rw [if_neg (show ¬ nI c < 0 from fun z => (i_neg (a := c) (by omega)).mp z), if_neg (show ¬ (121 : Int32) ≤ nI c from i_nle (a := 121) hc (by omega))]
theorem s_mark {c : Nat} (hc : c < 121) (v : Int32) (T : GX4) : fX4_mark (nI c) v T = some ((pX4_cells T), (pX4_holders T), (pX4_steps T), (upd (pX4_grainsByCell T) c v), (pX4_settings T), (pX4_grains T), (pX4_lot T), (pX4_released T), (pX4_lost T), (pX4_gone T), (pX4_walked T)) := by
  unfold fX4_mark
  rw [p_isCell hc, Option.bind_some, if_neg (show ¬ (1 : Int32) = 0 by decide), gH hc (by omega), i_cl (by omega)]
theorem s_add {S : GX4} {M : GM} (h : RepS S M) {c hd : Nat} {st : Int32} (hn : mN M < 121) (hc : c < 121) : ∃ S', fX4_add (nI c) (hI hd) st S = some S' ∧ RepS S' (addM M c hd st) := by
  have e : fX4_add (nI c) (hI hd) st S = some ((upd (pX4_cells S) (mN M) (nI c)), (upd (pX4_holders S) (mN M) (hI hd)), (upd (pX4_steps S) (mN M) st), (upd (pX4_grainsByCell S) c (nI (mN M))), (pX4_settings S), nI (mN M) + 1, (pX4_lot S), (pX4_released S), (pX4_lost S), (pX4_gone S), (pX4_walked S)) := by
    unfold fX4_add
    rw [h.1, if_neg (show ¬ (121 : Int32) ≤ nI (mN M) from i_nle (a := 121) hn (by omega)), p_isCell hc, Option.bind_some, if_neg (show ¬ (1 : Int32) = 0 by decide)]
    simp only [gH (i := mN M) (N := 121) hn (by omega)]
    rw [i_cl (show mN M < 2147483648 by omega), s_mark hc, Option.bind_some]
  refine ⟨_, e, i_inc _, fun g hg => ?_, fun g hg => ?_, fun g hg => ?_, fun k hk => ?_, h.2.2.2.2.2.1, h.2.2.2.2.2.2.1, h.2.2.2.2.2.2.2.1, h.2.2.2.2.2.2.2.2.1, h.2.2.2.2.2.2.2.2.2.1, h.2.2.2.2.2.2.2.2.2.2⟩
  · have hg' : g < mN M + 1 := hg
    show upd _ _ _ g = nI (un _ _ _ g)
    by_cases q : g = mN M
    · rw [q, pk_us, un_s]
    · rw [pk_un q, un_n q]; exact h.2.1 g (by omega)
  · have hg' : g < mN M + 1 := hg
    show upd _ _ _ g = hI (un _ _ _ g)
    by_cases q : g = mN M
    · rw [q, pk_us, un_s]
    · rw [pk_un q, un_n q]; exact h.2.2.1 g (by omega)
  · have hg' : g < mN M + 1 := hg
    show upd _ _ _ g = un _ _ _ g
    by_cases q : g = mN M
    · rw [q, pk_us, un_s]
    · rw [pk_un q, un_n q]; exact h.2.2.2.1 g (by omega)
  · show upd _ _ _ k = _
    rw [at_add]
    by_cases q : c = k
    · subst q; rw [pk_us, if_pos rfl]; rfl
    · rw [pk_un (fun z => q z.symm), if_neg q]; exact h.2.2.2.2.1 k hk
/-! ===== the reference: what a change leaves ===== -/
abbrev frK (G : GX8) := (pX8_past G, pX8_known G, pX8_kept G, pX8_isKept G, pX8_pad G, pX8_length G, pX8_whyError G, pX8_whyNumber G, pX8_whySpot G, pX8_spot G, pX8_isForm G, pX8_letter G, pX8_told G, pX8_aside G)
def Fr (G G' : GX8) : Prop := frK G' = frK G
theorem Fr.rfl' (G : GX8) : Fr G G := rfl
theorem Fr.tr {G H K : GX8} (a : Fr G H) (b : Fr H K) : Fr G K := Eq.trans b a
theorem r_adds_raw {G : GX8} {k : Nat} {a b d : Int32} (hk : pX8_s G 0 = nI k) (h : k < 121) : fX8_adds a b d G = some (upd (upd (upd (upd (pX8_s G) (10 + 3 * k) a) (10 + 3 * k + 1) (b + 1)) (10 + 3 * k + 2) d) 0 (nI (k + 1)), G.2) := by
  unfold fX8_adds
  rw [n_cl0, hk]
  simp (disch := omega) only [i_lit, i_add, i_mul, i_sub, i_lt, i_le, i_eq, i_cl, i_max, i_min, i_rem, i_div, i_neg, i_nn, i_n4, i_n4', Option.bind_some, Option.some.injEq, Sum.inl.injEq, Sum.inr.injEq, Prod.mk.injEq, gdn, if_pos, if_neg, Nat.add_zero, Nat.zero_add, and_true, true_and, and_self, ite_true, ite_false, if_true, if_false, reduceIte]
  rw [pk_un (by omega), pk_un (by omega), pk_un (by omega), hk, i_add]
theorem hR_inc {h : Nat} (hh : h < 2147483648) : hR h + 1 = nI h := by
  by_cases q : h = 0
  · subst q; decide
  · rw [hR_s q, i_inc, show h - 1 + 1 = h by omega]
theorem RepR_add {f : Nat → Int32} {M : GM} (h : RepR f M) {c hd : Nat} {st : Int32} (hn : mN M < 121) : RepR (upd (upd (upd (upd f (10 + 3 * mN M) (nI c)) (10 + 3 * mN M + 1) (nI hd)) (10 + 3 * mN M + 2) st) 0 (nI (mN M + 1))) (addM M c hd st) := by
  have ot : ∀ j, j ≠ 0 → (∀ g, g = mN M → j ≠ 10 + 3 * g ∧ j ≠ 10 + 3 * g + 1 ∧ j ≠ 10 + 3 * g + 2) → upd (upd (upd (upd f (10 + 3 * mN M) (nI c)) (10 + 3 * mN M + 1) (nI hd)) (10 + 3 * mN M + 2) st) 0 (nI (mN M + 1)) j = f j := fun j h0 hj => by
    have := hj _ rfl
    rw [pk_un h0, pk_un this.2.2, pk_un this.2.1, pk_un this.1]
  refine ⟨pk_us, fun g hg => ?_, fun g hg => ?_, fun g hg => ?_, ?_, fun k hk => ?_, ?_, ?_, ?_, ?_⟩
  · have hg' : g < mN M + 1 := hg
    show _ = nI (un _ _ _ g)
    by_cases q : g = mN M
    · rw [q, un_s, pk_un (by omega), pk_un (by omega), pk_un (by omega), pk_us]
    · rw [un_n q, ot _ (by omega) (fun x hx => by omega)]; exact h.2.1 g (by omega)
  · have hg' : g < mN M + 1 := hg
    show _ = nI (un _ _ _ g)
    by_cases q : g = mN M
    · rw [q, un_s, pk_un (by omega), pk_un (by omega), pk_us]
    · rw [un_n q, ot _ (by omega) (fun x hx => by omega)]; exact h.2.2.1 g (by omega)
  · have hg' : g < mN M + 1 := hg
    show _ = un _ _ _ g
    by_cases q : g = mN M
    · rw [q, un_s, pk_un (by omega), pk_us]
    · rw [un_n q, ot _ (by omega) (fun x hx => by omega)]; exact h.2.2.2.1 g (by omega)
  · rw [ot _ (by omega) (fun x hx => by omega)]; exact h.2.2.2.2.1
  · rw [ot _ (by omega) (fun x hx => by omega)]; exact h.2.2.2.2.2.1 k hk
  · rw [ot _ (by omega) (fun x hx => by omega)]; exact h.2.2.2.2.2.2.1
  · rw [ot _ (by omega) (fun x hx => by omega)]; exact h.2.2.2.2.2.2.2.1
  · rw [ot _ (by omega) (fun x hx => by omega)]; exact h.2.2.2.2.2.2.2.2.1
  · rw [ot _ (by omega) (fun x hx => by omega)]; exact h.2.2.2.2.2.2.2.2.2
theorem r_adds {G : GX8} {M : GM} (h : RepR (pX8_s G) M) {c hd : Nat} {st : Int32} (hn : mN M < 121) (hh : hd < 2147483648) : ∃ G', fX8_adds (nI c) (hR hd) st G = some G' ∧ RepR (pX8_s G') (addM M c hd st) ∧ G'.2 = G.2 := by
  refine ⟨_, r_adds_raw h.1 hn, ?_, rfl⟩
  show RepR (upd (upd (upd (upd (pX8_s G) _ _) _ _) _ _) _ _) _
  rw [hR_inc hh]
  exact RepR_add h hn
theorem RepR_lot {f : Nat → Int32} {M : GM} (h : RepR f M) (L : Nat) : RepR (upd f 1 (nI L)) (lotM M L) := by
  refine ⟨?_, fun g hg => ?_, fun g hg => ?_, fun g hg => ?_, pk_us, fun k hk => ?_, ?_, ?_, ?_, ?_⟩
  · rw [pk_un (by omega)]; exact h.1
  · rw [pk_un (by omega)]; exact h.2.1 g hg
  · rw [pk_un (by omega)]; exact h.2.2.1 g hg
  · rw [pk_un (by omega)]; exact h.2.2.2.1 g hg
  · rw [pk_un (by omega)]; exact h.2.2.2.2.2.1 k hk
  · rw [pk_un (by omega)]; exact h.2.2.2.2.2.2.1
  · rw [pk_un (by omega)]; exact h.2.2.2.2.2.2.2.1
  · rw [pk_un (by omega)]; exact h.2.2.2.2.2.2.2.2.1
  · rw [pk_un (by omega)]; exact h.2.2.2.2.2.2.2.2.2
/-- the counts -/
theorem RepR_cnt {f f' : Nat → Int32} {M : GM} (h : RepR f M) (ho : ∀ j, j < 6 ∨ 10 ≤ j → f' j = f j) : RepR f' (cntM M (f' 6) (f' 7) (f' 8) (f' 9)) := by
  refine ⟨?_, fun g hg => ?_, fun g hg => ?_, fun g hg => ?_, ?_, fun k hk => ?_, rfl, rfl, rfl, rfl⟩
  · rw [ho _ (by omega)]; exact h.1
  · rw [ho _ (by omega)]; exact h.2.1 g hg
  · rw [ho _ (by omega)]; exact h.2.2.1 g hg
  · rw [ho _ (by omega)]; exact h.2.2.2.1 g hg
  · rw [ho _ (by omega)]; exact h.2.2.2.2.1
  · rw [ho _ (by omega)]; exact h.2.2.2.2.2.1 k hk
/-! ===== the roots of a beginning ===== -/
def rootC (b c : Nat) : Bool := if b = 0 then decide (c = 60) else if b = 1 then decide (110 ≤ c) else decide (ring c = 2)
theorem p_rootC : ∀ b, b < 3 → ∀ c, c < 121 → fX4_isRootCell (nI b) (nI c) = some (if rootC b c then 1 else 0) := by decide +kernel
def zM (M : GM) : GM := (0, mC M, mH M, mW M, mL M, mS M, 0, 0, 0, 0)
def plM (b : Nat) (M : GM) : Nat → GM
  | 0 => zM M
  | c + 1 => if rootC b c then addM (plM b M c) c 0 0 else plM b M c
theorem plM_at {b : Nat} {M : GM} : ∀ (n : Nat), mN (plM b M n) ≤ n ∧ (∀ g, g < mN (plM b M n) → mC (plM b M n) g < n)
  | 0 => ⟨Nat.le_refl _, fun g hg => absurd hg (Nat.not_lt_zero _)⟩
  | n + 1 => by
    have ⟨h1, h2⟩ := plM_at (b := b) (M := M) n
    rw [plM]
    by_cases q : rootC b n = true
    · rw [if_pos q]
      refine ⟨by show mN (plM b M n) + 1 ≤ _; omega, fun g hg => ?_⟩
      have hg' : g < mN (plM b M n) + 1 := hg
      show un _ _ _ g < _
      by_cases q2 : g = mN (plM b M n)
      · rw [q2, un_s]; omega
      · rw [un_n q2]; have := h2 g (by omega); omega
    · rw [if_neg q]
      exact ⟨by omega, fun g hg => by have := h2 g hg; omega⟩
theorem at_none {M : GM} {c : Nat} (h : ∀ g, g < mN M → mC M g ≠ c) : at_ M c = none := by
  cases e : at_ M c with
  | none => rfl
  | some g => exact absurd (atF_some e).2 (h g (atF_some e).1)
theorem plM_free {b : Nat} {M : GM} (n : Nat) : at_ (plM b M n) n = none := at_none (fun g hg => by have := (plM_at n).2 g hg; omega)
theorem WF.z {M : GM} (w : WF M) : WF (zM M) := ⟨Nat.zero_le _, fun g hg => absurd hg (Nat.not_lt_zero _), fun g hg => absurd hg (Nat.not_lt_zero _), fun a b hg => absurd hg (Nat.not_lt_zero _), w.2.2.2.2.1, w.2.2.2.2.2⟩
theorem WF.pl {M : GM} (w : WF M) (b : Nat) : ∀ n, n ≤ 121 → WF (plM b M n)
  | 0, _ => w.z
  | n + 1, h => by
    have hw := WF.pl w b n (by omega)
    have ⟨h1, _⟩ := plM_at (b := b) (M := M) n
    rw [plM]
    by_cases q : rootC b n = true
    · rw [if_pos q]
      exact hw.add (by omega) (by omega) (plM_free n) (Nat.zero_le _)
    · rw [if_neg q]; exact hw
/-- the beginning -/
def begM (b : Nat) (M : GM) : GM := plM b M 121
/-- a state without grains, ready -/
theorem s_plant {S : GX4} {M : GM} {b : Nat} (hb : b < 3) (hl : pX4_lot S = nI (mL M)) (hs : ∀ k, k < 4 → pX4_settings S k = nI (mS M k)) : ∃ S', fX4_plant (nI b) S = some (nI (mN (begM b M)), S') ∧ RepS S' (begM b M) := by
  unfold fX4_plant
  obtain ⟨S1, e1, h1⟩ := lp_inv (step := tX4_plant_27) (s := (0, ((pX4_cells S), (pX4_holders S), (pX4_steps S), (pX4_grainsByCell S), (pX4_settings S), 0, (pX4_lot S), 0, 0, 0, 0)))
    (fun i s => s.1 = nI i ∧ (∀ c, c < i → pX4_grainsByCell s.2 c = -4) ∧ pX4_grains s.2 = 0 ∧ pX4_lot s.2 = pX4_lot S ∧ pX4_settings s.2 = pX4_settings S ∧ pX4_released s.2 = 0 ∧ pX4_lost s.2 = 0 ∧ pX4_gone s.2 = 0 ∧ pX4_walked s.2 = 0)
    (fun o => RepS o (zM M)) 121 (by omega) ⟨rfl, fun c hc => absurd hc (Nat.not_lt_zero _), rfl, rfl, rfl, rfl, rfl, rfl, rfl⟩
    (fun i s hi ⟨a1, a2, a3⟩ => by
      obtain ⟨x, T⟩ := s
      dsimp only at a1
      subst a1
      refine ⟨(nI (i + 1), ((pX4_cells T), (pX4_holders T), (pX4_steps T), (upd (pX4_grainsByCell T) i (-4)), (pX4_settings T), (pX4_grains T), (pX4_lot T), (pX4_released T), (pX4_lost T), (pX4_gone T), (pX4_walked T))), ?_, rfl, fun c hc => ?_, a3⟩
      · unfold tX4_plant_27
        dsimp only
        rw [if_neg (show ¬ (121 : Int32) ≤ nI i from i_nle (a := 121) hi (by omega)), s_mark hi, Option.bind_some, i_inc]
      · show upd _ _ _ c = _
        by_cases q : c = i
        · rw [q, pk_us]
        · rw [pk_un q]; exact a2 c (by omega))
    (fun s ⟨a1, a2, a3, a4, a5, a6, a7, a8, a9⟩ => by
      refine ⟨s.2, ?_, a3, fun g hg => absurd hg (Nat.not_lt_zero _), fun g hg => absurd hg (Nat.not_lt_zero _), fun g hg => absurd hg (Nat.not_lt_zero _), fun c hc => a2 c hc, by rw [a4]; exact hl, fun k hk => by rw [a5]; exact hs k hk, a6, a7, a8, a9⟩
      unfold tX4_plant_27
      rw [a1, if_pos (show (121 : Int32) ≤ nI 121 from i_ple (a := 121) (Nat.le_refl _) (by omega))])
  rw [e1]
  simp only [Option.bind_some]
  obtain ⟨S2, e2, h2⟩ := lp_inv (step := tX4_plant_48 (nI b)) (s := (0, S1)) (fun i s => s.1 = nI i ∧ RepS s.2 (plM b M i)) (fun o => RepS o (begM b M)) 121 (by omega) ⟨rfl, h1⟩
    (fun i s hi ⟨a1, a2⟩ => by
      obtain ⟨x, T⟩ := s
      dsimp only at a1 a2
      subst a1
      have hn := (plM_at (b := b) (M := M) i).1
      unfold tX4_plant_48 jX4_plant_1
      dsimp only
      rw [if_neg (show ¬ (121 : Int32) ≤ nI i from i_nle (a := 121) hi (by omega)), p_rootC b hb i hi]
      simp only [Option.bind_some]
      rw [plM]
      by_cases q : rootC b i = true
      · rw [if_pos q, if_pos q, if_neg (show ¬ (1 : Int32) = 0 by decide)]
        obtain ⟨T', e, r⟩ := s_add a2 (c := i) (hd := 0) (st := 0) (by omega) hi
        rw [show fX4_add (nI i) (-4) 0 T = some T' from e]
        exact ⟨_, rfl, i_inc i, r⟩
      · rw [if_neg q, if_neg q, if_pos rfl]
        exact ⟨_, rfl, i_inc i, a2⟩)
    (fun s ⟨a1, a2⟩ => by
      refine ⟨s.2, ?_, a2⟩
      unfold tX4_plant_48
      rw [a1, if_pos (show (121 : Int32) ≤ nI 121 from i_ple (a := 121) (Nat.le_refl _) (by omega))])
  rw [e2]
  refine ⟨S2, ?_, h2⟩
  simp only [Option.bind_some]
  rw [h2.1]
theorem r_roots {G : GX8} {M : GM} {b : Nat} (hb : b < 3) (h1 : pX8_s G 1 = nI (mL M)) (h2 : ∀ k, k < 4 → pX8_s G (2 + k) = nI (mS M k)) (h6 : pX8_s G 6 = 0) (h7 : pX8_s G 7 = 0) (h8 : pX8_s G 8 = 0) (h9 : pX8_s G 9 = 0) : ∃ G', fX8_roots (nI b) G = some G' ∧ RepR (pX8_s G') (begM b M) ∧ G'.2 = G.2 := by
  unfold fX8_roots
  obtain ⟨G2, e2, r2⟩ := lp_inv (step := tX8_roots_9 (nI b)) (s := (0, (upd (pX8_s G) (0 : Int32).toNatClampNeg 0, G.2))) (fun i s => s.1 = nI i ∧ RepR (pX8_s s.2) (plM b M i) ∧ s.2.2 = G.2) (fun o => RepR (pX8_s o) (begM b M) ∧ o.2 = G.2) 121 (by omega) ⟨rfl, ⟨rfl, fun g hg => absurd hg (Nat.not_lt_zero _), fun g hg => absurd hg (Nat.not_lt_zero _), fun g hg => absurd hg (Nat.not_lt_zero _), h1, fun k hk => by
      show upd _ _ _ _ = _
      rw [n_cl0, pk_un (by omega)]; exact h2 k hk, h6, h7, h8, h9⟩, rfl⟩
    (fun i s hi ⟨a1, a2, a3⟩ => by
      obtain ⟨x, T⟩ := s
      dsimp only at a1 a2 a3
      subst a1
      have hn := (plM_at (b := b) (M := M) i).1
      have j1 : ∀ y : Int32, (y = if rootC b i then 1 else 0) → ∃ s', jX8_roots_1 (nI i, T) y = some (.inl s') ∧ s'.1 = nI (i + 1) ∧ RepR (pX8_s s'.2) (plM b M (i + 1)) ∧ s'.2.2 = G.2 := fun y hy => by
        unfold jX8_roots_1 jX8_roots_2
        dsimp only
        rw [plM]
        by_cases q : rootC b i = true
        · rw [if_pos q] at hy
          rw [hy, if_neg (show ¬ (1 : Int32) = 0 by decide), if_pos q]
          obtain ⟨T', e, r, er⟩ := r_adds a2 (c := i) (hd := 0) (st := 0) (by omega) (by omega)
          rw [show fX8_adds (nI i) (-1) 0 T = some T' from e]
          exact ⟨_, rfl, i_inc i, r, er.trans a3⟩
        · rw [if_neg q] at hy
          rw [hy, if_pos rfl, if_neg q]
          exact ⟨_, rfl, i_inc i, a2, a3⟩
      unfold tX8_roots_9
      dsimp only
      rw [if_neg (show ¬ (121 : Int32) ≤ nI i from i_nle (a := 121) hi (by omega)), r_ring i hi]
      simp only [Option.bind_some]
      have hr := ring_le i hi
      rw [ifc (show nI b = 0 ↔ b = 0 from i_eq (b := 0) (by omega) (by omega)), ifc (show nI b = 1 ↔ b = 1 from i_eq (b := 1) (by omega) (by omega)), ifc (show nI i = 60 ↔ i = 60 from i_eq (b := 60) (by omega) (by omega)), ifc (show nI i < 110 ↔ i < 110 from i_lt (b := 110) (by omega) (by omega)), ifc (show nI (ring i) = 2 ↔ ring i = 2 from i_eq (b := 2) (by omega) (by omega))]
      unfold rootC at j1
      by_cases q0 : b = 0
      · simp only [if_pos q0] at j1 ⊢
        by_cases q : i = 60
        · rw [if_pos q]; exact j1 1 (by rw [decide_eq_true q]; rfl)
        · rw [if_neg q]; exact j1 0 (by rw [decide_eq_false q]; rfl)
      · simp only [if_neg q0] at j1 ⊢
        by_cases q1 : b = 1
        · simp only [if_pos q1] at j1 ⊢
          by_cases q : i < 110
          · rw [if_pos q]; exact j1 0 (by rw [decide_eq_false (by omega)]; rfl)
          · rw [if_neg q]; exact j1 1 (by rw [decide_eq_true (by omega)]; rfl)
        · simp only [if_neg q1] at j1 ⊢
          by_cases q : ring i = 2
          · rw [if_pos q]; exact j1 1 (by rw [decide_eq_true q]; rfl)
          · rw [if_neg q]; exact j1 0 (by rw [decide_eq_false q]; rfl))
    (fun s ⟨a1, a2⟩ => by
      refine ⟨s.2, ?_, a2⟩
      unfold tX8_roots_9
      rw [a1]
      simp (disch := omega) only [i_lit, i_add, i_mul, i_sub, i_lt, i_le, i_eq, i_cl, i_max, i_min, i_rem, i_div, i_neg, i_nn, i_n4, i_n4', Option.bind_some, Option.some.injEq, Sum.inl.injEq, Sum.inr.injEq, Prod.mk.injEq, gdn, if_pos, if_neg, Nat.add_zero, Nat.zero_add, and_true, true_and, and_self, ite_true, ite_false, if_true, if_false, reduceIte])
  exact ⟨G2, by
    show ((lp (tX8_roots_9 (nI b)) FU (0, (upd (pX8_s G) (0 : Int32).toNatClampNeg 0, G.2))).bind _) = _
    rw [e2]; rfl, r2⟩
