/-! ===== changes of the grains ===== -/
def un {α : Type} (f : Nat → α) (k : Nat) (x : α) : Nat → α := fun j => if j = k then x else f j
theorem un_s {α : Type} {f : Nat → α} {k : Nat} {x : α} : un f k x k = x := if_pos rfl
theorem un_n {α : Type} {f : Nat → α} {k j : Nat} {x : α} (h : j ≠ k) : un f k x j = f j := if_neg h
theorem atF_ext {C D : Nat → Nat} : ∀ {n c : Nat}, (∀ i, i < n → C i = D i) → atF C n c = atF D n c
  | 0, _, _ => rfl
  | n + 1, c, h => by
    rw [atF, atF, h n (by omega), atF_ext (fun i hi => h i (by omega))]
/-- one grain more -/
def addM (M : GM) (c h : Nat) (st : Int32) : GM := (mN M + 1, un (mC M) (mN M) c, un (mH M) (mN M) h, un (mW M) (mN M) st, mL M, mS M, mR M, mT M, mA M, mK M)
def lotM (M : GM) (L : Nat) : GM := (mN M, mC M, mH M, mW M, L, mS M, mR M, mT M, mA M, mK M)
def cntM (M : GM) (r t a k : Int32) : GM := (mN M, mC M, mH M, mW M, mL M, mS M, r, t, a, k)
theorem WF.lot {M : GM} (w : WF M) {L : Nat} (h : L < 10000) : WF (lotM M L) := ⟨w.1, w.2.1, w.2.2.1, w.2.2.2.1, h, w.2.2.2.2.2⟩
theorem WF.cnt {M : GM} (w : WF M) {r t a k : Int32} : WF (cntM M r t a k) := ⟨w.1, w.2.1, w.2.2.1, w.2.2.2.1, w.2.2.2.2.1, w.2.2.2.2.2⟩
theorem WF.add {M : GM} (w : WF M) {c h : Nat} {st : Int32} (hn : mN M < 121) (hc : c < 121) (ha : at_ M c = none) (hh : h ≤ mN M) : WF (addM M c h st) := by
  refine ⟨hn, fun g hg => ?_, fun g hg => ?_, fun a b h1 h2 e => ?_, w.2.2.2.2.1, w.2.2.2.2.2⟩
  · show un (mC M) (mN M) c g < 121
    by_cases q : g = mN M
    · rw [q, un_s]; exact hc
    · rw [un_n q]; exact w.c (by have : g < mN M + 1 := hg; omega)
  · show un (mH M) (mN M) h g ≤ g
    by_cases q : g = mN M
    · rw [q, un_s]; exact hh
    · rw [un_n q]; exact w.h (by have : g < mN M + 1 := hg; omega)
  · have h1' : a < mN M + 1 := h1
    have h2' : b < mN M + 1 := h2
    have e' : un (mC M) (mN M) c a = un (mC M) (mN M) c b := e
    by_cases q1 : a = mN M
    · by_cases q2 : b = mN M
      · omega
      · rw [q1, un_s, un_n q2] at e'
        exact absurd e'.symm (atF_none ha b (by omega))
    · by_cases q2 : b = mN M
      · rw [q2, un_s, un_n q1] at e'
        exact absurd e' (atF_none ha a (by omega))
      · rw [un_n q1, un_n q2] at e'
        exact w.2.2.2.1 a b (by omega) (by omega) e'
theorem at_add {M : GM} {c h k : Nat} {st : Int32} : at_ (addM M c h st) k = if c = k then some (mN M) else at_ M k := by
  show atF (un (mC M) (mN M) c) (mN M + 1) k = _
  rw [atF, un_s, atF_ext (D := mC M) (fun i hi => un_n (by omega))]
theorem gH {α : Type} {i N : Nat} {x : Option α} (h : i < N) (hN : N < 2147483648) : (if nI i < 0 ∨ N ≤ (nI i).toNatClampNeg then none else x) = x := by
  rw [if_neg]
  rw [i_cl (by omega)]
  exact fun z => z.elim (fun q => (i_neg (a := i) (by omega)).mp q) (fun q => absurd q (by omega))
/-- the number that tells whether a grain is there -/
theorem ifz {P : Prop} [Decidable P] : ((if P then (0 : Int32) else 1) = 0) ↔ P := by
  by_cases h : P
  · rw [if_pos h]; exact ⟨fun _ => h, fun _ => rfl⟩
  · rw [if_neg h]; exact ⟨fun z => absurd z (by decide), fun z => absurd z h⟩
theorem ig_num {α : Type} {x n : Int32} {N h : Nat} {A B : α} (e : n = nI N) (hN : N ≤ 121) (hx : x = hI h) (hh : h ≤ N) : (if x < 0 then A else if n ≤ x then A else B) = if h = 0 then A else B := by
  subst e hx
  by_cases q : h = 0
  · rw [if_pos q, q, if_pos (show hI 0 < 0 by decide)]
  · rw [if_neg q, hI_s q, if_neg (show ¬ nI (h - 1) < 0 from fun z => (i_neg (a := h - 1) (by omega)).mp z), if_neg (i_nle (show h - 1 < N by omega) (by omega))]
theorem ig4 {S : GX4} {N h : Nat} (hN : N ≤ 121) (hh : h ≤ N) (e : pX4_grains S = nI N) : fX4_isGrain (hI h) S = some (if h = 0 then 0 else 1) := by
  unfold fX4_isGrain
  rw [ig_num e hN rfl hh]
  by_cases q : h = 0
  · rw [if_pos q, if_pos q]
  · rw [if_neg q, if_neg q]
theorem ig5 {S : GX5} {N h : Nat} (hN : N ≤ 121) (hh : h ≤ N) (e : pX5_grains S = nI N) : fX5_isGrain (hI h) S = some (if h = 0 then 0 else 1) := by
  unfold fX5_isGrain
  rw [ig_num e hN rfl hh]
  by_cases q : h = 0
  · rw [if_pos q, if_pos q]
  · rw [if_neg q, if_neg q]
theorem igb4 {α : Type} {S : GX4} {N h : Nat} {A B : Option α} (hN : N ≤ 121) (hh : h ≤ N) (e : pX4_grains S = nI N) : ((fX4_isGrain (hI h) S).bind fun o => if o = 0 then A else B) = if h = 0 then A else B := by
  rw [ig4 hN hh e, Option.bind_some, ifc (ifz (P := h = 0))]
theorem igb5 {α : Type} {S : GX5} {N h : Nat} {A B : Option α} (hN : N ≤ 121) (hh : h ≤ N) (e : pX5_grains S = nI N) : ((fX5_isGrain (hI h) S).bind fun o => if o = 0 then A else B) = if h = 0 then A else B := by
  rw [ig5 hN hh e, Option.bind_some, ifc (ifz (P := h = 0))]
theorem igbO {α : Type} {S : GX4} {N : Nat} {o : Option Nat} {A B : Option α} (hN : N ≤ 121) (ho : ∀ g, o = some g → g < N) (e : pX4_grains S = nI N) : ((fX4_isGrain (oI o) S).bind fun z => if z = 0 then A else B) = if o = none then A else B := by
  cases o with
  | none =>
    rw [if_pos rfl, show oI none = hI 0 from rfl]
    exact (igb4 (h := 0) hN (Nat.zero_le _) e).trans (if_pos rfl)
  | some g =>
    rw [if_neg (fun z => by cases z), show oI (some g) = hI (g + 1) from (hI_s (Nat.succ_ne_zero g)).symm]
    exact (igb4 (h := g + 1) hN (ho g rfl) e).trans (if_neg (Nat.succ_ne_zero g))
theorem p_isCell {c : Nat} (hc : c < 121) : fX2_isCell (nI c) = some 1 := by
  unfold fX2_isCell
  rw [if_neg (show ¬ nI c < 0 from fun z => (i_neg (a := c) (by omega)).mp z), if_neg (show ¬ (121 : Int32) ≤ nI c from i_nle (a := 121) hc (by omega))]
theorem s_mark {c : Nat} (hc : c < 121) (v : Int32) (T : GX4) : fX4_mark (nI c) v T = some ((pX4_cells T), (pX4_holders T), (pX4_steps T), (upd (pX4_grainsByCell T) c v), (pX4_settings T), (pX4_grains T), (pX4_lot T), (pX4_released T), (pX4_lost T), (pX4_gone T), (pX4_walked T)) := by
  unfold fX4_mark
  rw [p_isCell hc, Option.bind_some, if_neg (show ¬ (1 : Int32) = 0 by decide), gH hc (by omega), i_cl (by omega)]
theorem s_add {S : GX4} {M : GM} (h : RepS S M) {c hd : Nat} {st : Int32} (hn : mN M < 121) (hc : c < 121) : ∃ S', fX4_add (nI c) (hI hd) st S = some S' ∧ RepS S' (addM M c hd st) := by
  have e : fX4_add (nI c) (hI hd) st S = some ((upd (pX4_cells S) (mN M) (nI c)), (upd (pX4_holders S) (mN M) (hI hd)), (upd (pX4_steps S) (mN M) st), (upd (pX4_grainsByCell S) c (nI (mN M))), (pX4_settings S), nI (mN M) + 1, (pX4_lot S), (pX4_released S), (pX4_lost S), (pX4_gone S), (pX4_walked S)) := by
    unfold fX4_add
    rw [h.1, if_neg (show ¬ (121 : Int32) ≤ nI (mN M) from i_nle (a := 121) hn (by omega)), p_isCell hc, Option.bind_some, if_neg (show ¬ (1 : Int32) = 0 by decide)]
    simp only [gH (i := mN M) (N := 121) hn (by omega)]
    rw [i_cl (show mN M < 2147483648 by omega), s_mark hc, Option.bind_some]
  refine ⟨_, e, i_inc _, fun g hg => ?_, fun g hg => ?_, fun g hg => ?_, fun k hk => ?_, h.2.2.2.2.2.1, h.2.2.2.2.2.2.1, h.2.2.2.2.2.2.2.1, h.2.2.2.2.2.2.2.2.1, h.2.2.2.2.2.2.2.2.2.1, h.2.2.2.2.2.2.2.2.2.2⟩
  · have hg' : g < mN M + 1 := hg
    show upd _ _ _ g = nI (un _ _ _ g)
    by_cases q : g = mN M
    · rw [q, pk_us, un_s]
    · rw [pk_un q, un_n q]; exact h.2.1 g (by omega)
  · have hg' : g < mN M + 1 := hg
    show upd _ _ _ g = hI (un _ _ _ g)
    by_cases q : g = mN M
    · rw [q, pk_us, un_s]
    · rw [pk_un q, un_n q]; exact h.2.2.1 g (by omega)
  · have hg' : g < mN M + 1 := hg
    show upd _ _ _ g = un _ _ _ g
    by_cases q : g = mN M
    · rw [q, pk_us, un_s]
    · rw [pk_un q, un_n q]; exact h.2.2.2.1 g (by omega)
  · show upd _ _ _ k = _
    rw [at_add]
    by_cases q : c = k
    · subst q; rw [pk_us, if_pos rfl]; rfl
    · rw [pk_un (fun z => q z.symm), if_neg q]; exact h.2.2.2.2.1 k hk
theorem hR_inc {h : Nat} (hh : h < 2147483648) : hR h + 1 = nI h := by
  by_cases q : h = 0
  · subst q; decide
  · rw [hR_s q, i_inc, show h - 1 + 1 = h by omega]
/-! ===== the roots of a beginning ===== -/
def rootC (b c : Nat) : Bool := if b = 0 then decide (c = 60) else if b = 1 then decide (110 ≤ c) else decide (ring c = 2)
theorem p_rootC : ∀ b, b < 3 → ∀ c, c < 121 → fX4_isRootCell (nI b) (nI c) = some (if rootC b c then 1 else 0) := by decide +kernel
def zM (M : GM) : GM := (0, mC M, mH M, mW M, mL M, mS M, 0, 0, 0, 0)
def plM (b : Nat) (M : GM) : Nat → GM
  | 0 => zM M
  | c + 1 => if rootC b c then addM (plM b M c) c 0 0 else plM b M c
theorem plM_at {b : Nat} {M : GM} : ∀ (n : Nat), mN (plM b M n) ≤ n ∧ (∀ g, g < mN (plM b M n) → mC (plM b M n) g < n)
  | 0 => ⟨Nat.le_refl _, fun g hg => absurd hg (Nat.not_lt_zero _)⟩
  | n + 1 => by
    have ⟨h1, h2⟩ := plM_at (b := b) (M := M) n
    rw [plM]
    by_cases q : rootC b n = true
    · rw [if_pos q]
      refine ⟨by show mN (plM b M n) + 1 ≤ _; omega, fun g hg => ?_⟩
      have hg' : g < mN (plM b M n) + 1 := hg
      show un _ _ _ g < _
      by_cases q2 : g = mN (plM b M n)
      · rw [q2, un_s]; omega
      · rw [un_n q2]; have := h2 g (by omega); omega
    · rw [if_neg q]
      exact ⟨by omega, fun g hg => by have := h2 g hg; omega⟩
theorem at_none {M : GM} {c : Nat} (h : ∀ g, g < mN M → mC M g ≠ c) : at_ M c = none := by
  cases e : at_ M c with
  | none => rfl
  | some g => exact absurd (atF_some e).2 (h g (atF_some e).1)
theorem plM_free {b : Nat} {M : GM} (n : Nat) : at_ (plM b M n) n = none := at_none (fun g hg => by have := (plM_at n).2 g hg; omega)
theorem WF.z {M : GM} (w : WF M) : WF (zM M) := ⟨Nat.zero_le _, fun g hg => absurd hg (Nat.not_lt_zero _), fun g hg => absurd hg (Nat.not_lt_zero _), fun a b hg => absurd hg (Nat.not_lt_zero _), w.2.2.2.2.1, w.2.2.2.2.2⟩
theorem WF.pl {M : GM} (w : WF M) (b : Nat) : ∀ n, n ≤ 121 → WF (plM b M n)
  | 0, _ => w.z
  | n + 1, h => by
    have hw := WF.pl w b n (by omega)
    have ⟨h1, _⟩ := plM_at (b := b) (M := M) n
    rw [plM]
    by_cases q : rootC b n = true
    · rw [if_pos q]
      exact hw.add (by omega) (by omega) (plM_free n) (Nat.zero_le _)
    · rw [if_neg q]; exact hw
/-- the beginning -/
def begM (b : Nat) (M : GM) : GM := plM b M 121
/-- a state without grains, ready -/
theorem s_plant {S : GX4} {M : GM} {b : Nat} (hb : b < 3) (hl : pX4_lot S = nI (mL M)) (hs : ∀ k, k < 4 → pX4_settings S k = nI (mS M k)) : ∃ S', fX4_plant (nI b) S = some (nI (mN (begM b M)), S') ∧ RepS S' (begM b M) := by
  unfold fX4_plant
  obtain ⟨S1, e1, h1⟩ := lp_inv (step := tX4_plant_27) (s := (0, ((pX4_cells S), (pX4_holders S), (pX4_steps S), (pX4_grainsByCell S), (pX4_settings S), 0, (pX4_lot S), 0, 0, 0, 0)))
    (fun i s => s.1 = nI i ∧ (∀ c, c < i → pX4_grainsByCell s.2 c = -4) ∧ pX4_grains s.2 = 0 ∧ pX4_lot s.2 = pX4_lot S ∧ pX4_settings s.2 = pX4_settings S ∧ pX4_released s.2 = 0 ∧ pX4_lost s.2 = 0 ∧ pX4_gone s.2 = 0 ∧ pX4_walked s.2 = 0)
    (fun o => RepS o (zM M)) 121 (by omega) ⟨rfl, fun c hc => absurd hc (Nat.not_lt_zero _), rfl, rfl, rfl, rfl, rfl, rfl, rfl⟩
    (fun i s hi ⟨a1, a2, a3⟩ => by
      obtain ⟨x, T⟩ := s
      dsimp only at a1
      subst a1
      refine ⟨(nI (i + 1), ((pX4_cells T), (pX4_holders T), (pX4_steps T), (upd (pX4_grainsByCell T) i (-4)), (pX4_settings T), (pX4_grains T), (pX4_lot T), (pX4_released T), (pX4_lost T), (pX4_gone T), (pX4_walked T))), ?_, rfl, fun c hc => ?_, a3⟩
      · unfold tX4_plant_27
        dsimp only
        rw [if_neg (show ¬ (121 : Int32) ≤ nI i from i_nle (a := 121) hi (by omega)), s_mark hi, Option.bind_some, i_inc]
      · show upd _ _ _ c = _
        by_cases q : c = i
        · rw [q, pk_us]
        · rw [pk_un q]; exact a2 c (by omega))
    (fun s ⟨a1, a2, a3, a4, a5, a6, a7, a8, a9⟩ => by
      refine ⟨s.2, ?_, a3, fun g hg => absurd hg (Nat.not_lt_zero _), fun g hg => absurd hg (Nat.not_lt_zero _), fun g hg => absurd hg (Nat.not_lt_zero _), fun c hc => a2 c hc, by rw [a4]; exact hl, fun k hk => by rw [a5]; exact hs k hk, a6, a7, a8, a9⟩
      unfold tX4_plant_27
      rw [a1, if_pos (show (121 : Int32) ≤ nI 121 from i_ple (a := 121) (Nat.le_refl _) (by omega))])
  rw [e1]
  simp only [Option.bind_some]
  obtain ⟨S2, e2, h2⟩ := lp_inv (step := tX4_plant_48 (nI b)) (s := (0, S1)) (fun i s => s.1 = nI i ∧ RepS s.2 (plM b M i)) (fun o => RepS o (begM b M)) 121 (by omega) ⟨rfl, h1⟩
    (fun i s hi ⟨a1, a2⟩ => by
      obtain ⟨x, T⟩ := s
      dsimp only at a1 a2
      subst a1
      have hn := (plM_at (b := b) (M := M) i).1
      unfold tX4_plant_48 jX4_plant_1
      dsimp only
      rw [if_neg (show ¬ (121 : Int32) ≤ nI i from i_nle (a := 121) hi (by omega)), p_rootC b hb i hi]
      simp only [Option.bind_some]
      rw [plM]
      by_cases q : rootC b i = true
      · rw [if_pos q, if_pos q, if_neg (show ¬ (1 : Int32) = 0 by decide)]
        obtain ⟨T', e, r⟩ := s_add a2 (c := i) (hd := 0) (st := 0) (by omega) hi
        rw [show fX4_add (nI i) (-4) 0 T = some T' from e]
        exact ⟨_, rfl, i_inc i, r⟩
      · rw [if_neg q, if_neg q, if_pos rfl]
        exact ⟨_, rfl, i_inc i, a2⟩)
    (fun s ⟨a1, a2⟩ => by
      refine ⟨s.2, ?_, a2⟩
      unfold tX4_plant_48
      rw [a1, if_pos (show (121 : Int32) ≤ nI 121 from i_ple (a := 121) (Nat.le_refl _) (by omega))])
  rw [e2]
  refine ⟨S2, ?_, h2⟩
  simp only [Option.bind_some]
  rw [h2.1]
