/-! ===== what stays good ===== -/
theorem cnt_le1 {p : Nat → Bool} : ∀ {n : Nat}, (∀ a b, a < n → b < n → p a = true → p b = true → a = b) → cnt p n ≤ 1
  | 0, _ => Nat.zero_le _
  | n + 1, h => by
    rw [cnt_s]
    cases e : p n with
    | false =>
      have := cnt_le1 (p := p) (n := n) (fun a b ha hb => h a b (by omega) (by omega))
      rw [if_neg (by decide)]
      exact this
    | true =>
      have : cnt p n = 0 := cnt_0 (fun i hi => by
        cases ei : p i with
        | false => rfl
        | true =>
          have := h i n (by omega) (by omega) ei e
          omega)
      rw [this, if_pos rfl]
      exact Nat.le_refl _
theorem cnt_orle {p q r : Nat → Bool} : ∀ {n : Nat}, (∀ i, i < n → p i = true → q i = true ∨ r i = true) → cnt p n ≤ cnt q n + cnt r n
  | 0, _ => Nat.zero_le _
  | n + 1, h => by
    have ih := cnt_orle (p := p) (q := q) (r := r) (n := n) (fun i hi => h i (by omega))
    have hn := h n (by omega)
    rw [cnt_s, cnt_s, cnt_s]
    cases e : p n with
    | false =>
      rw [if_neg (show ¬ false = true by decide)]
      omega
    | true =>
      rw [if_pos (show true = true from rfl)]
      rcases hn e with z | z
      · rw [z, if_pos (show true = true from rfl)]; omega
      · rw [z, if_pos (show true = true from rfl)]; omega
/-- a hold is of a neighbour -/
def Adj (M : GM) : Prop := ∀ g, g < mN M → mH M g ≠ 0 → ∃ d, d < 4 ∧ nb (mC M (mH M g - 1)) d = some (mC M g)
def Good (M : GM) : Prop := WF M ∧ 0 < mN M ∧ Adj M
def dirB (M : GM) (x d g : Nat) : Bool := decide (nb (mC M x) d = some (mC M g))
theorem dirB_1 {M : GM} (w : WF M) (x d : Nat) : cnt (dirB M x d) (mN M) ≤ 1 := cnt_le1 (fun i j hi hj e1 e2 => by
  have e1 : nb (mC M x) d = some (mC M i) := of_decide_eq_true e1
  have e2 : nb (mC M x) d = some (mC M j) := of_decide_eq_true e2
  rw [e1] at e2
  exact w.2.2.2.1 i j hi hj (Option.some.inj e2))
theorem orB {a b : Bool} (h : (a || b) = true) : a = true ∨ b = true := by
  cases a
  · exact Or.inr h
  · exact Or.inl rfl
theorem chl_le4 {M : GM} (w : WF M) (a : Adj M) (x : Nat) : chl M x ≤ 4 := by
  have h0 : chl M x ≤ cnt (fun g => dirB M x 0 g || dirB M x 1 g) (mN M) + cnt (fun g => dirB M x 2 g || dirB M x 3 g) (mN M) := cnt_orle (fun i hi e => by
    have e : mH M i = x + 1 := of_decide_eq_true e
    obtain ⟨d, hd, hdn⟩ := a i hi (by omega)
    rw [e, Nat.add_sub_cancel] at hdn
    have hb : dirB M x d i = true := decide_eq_true hdn
    rcases (show d = 0 ∨ d = 1 ∨ d = 2 ∨ d = 3 by omega) with rfl | rfl | rfl | rfl
    · exact Or.inl (by show (dirB M x 0 i || dirB M x 1 i) = true; rw [hb]; rfl)
    · exact Or.inl (by show (dirB M x 0 i || dirB M x 1 i) = true; rw [hb, Bool.or_true])
    · exact Or.inr (by show (dirB M x 2 i || dirB M x 3 i) = true; rw [hb]; rfl)
    · exact Or.inr (by show (dirB M x 2 i || dirB M x 3 i) = true; rw [hb, Bool.or_true]))
  have h1 : cnt (fun g => dirB M x 0 g || dirB M x 1 g) (mN M) ≤ cnt (dirB M x 0) (mN M) + cnt (dirB M x 1) (mN M) := cnt_orle (fun i _ e => by exact orB e)
  have h2 : cnt (fun g => dirB M x 2 g || dirB M x 3 g) (mN M) ≤ cnt (dirB M x 2) (mN M) + cnt (dirB M x 3) (mN M) := cnt_orle (fun i _ e => by exact orB e)
  have a0 := dirB_1 w x 0
  have a1 := dirB_1 w x 1
  have a2 := dirB_1 w x 2
  have a3 := dirB_1 w x 3
  omega
theorem nb_sym : ∀ c, c < 121 → ∀ d, d < 4 → ∀ k, nb c d = some k → ∃ e, e < 4 ∧ nb k e = some c := by
  intro c hc d hd k hk
  have h : ∀ c, c < 121 → ∀ d, d < 4 → (match nb c d with | none => true | some k => (decide (nb k 0 = some c) || decide (nb k 1 = some c)) || (decide (nb k 2 = some c) || decide (nb k 3 = some c))) = true := by decide +kernel
  have h1 := h c hc d hd
  rw [hk] at h1
  rcases orB h1 with z | z
  · rcases orB z with z | z
    · exact ⟨0, by omega, of_decide_eq_true z⟩
    · exact ⟨1, by omega, of_decide_eq_true z⟩
  · rcases orB z with z | z
    · exact ⟨2, by omega, of_decide_eq_true z⟩
    · exact ⟨3, by omega, of_decide_eq_true z⟩
theorem nbAt_nb {M : GM} {c d g : Nat} (h : nbAt M c d = some g) : nb c d = some (mC M g) := by
  unfold nbAt at h
  cases hn : nb c d with
  | none => rw [hn] at h; cases h
  | some k =>
    rw [hn] at h
    have h2 : atF (mC M) (mN M) k = some g := h
    rw [(atF_some h2).2]
theorem fgb_nb {M : GM} {c g : Nat} (h : fgb M c = some g) : ∃ d, d < 4 ∧ nb c d = some (mC M g) := by
  unfold fgb at h
  cases e0 : nbAt M c 0 with
  | some q => rw [e0] at h; cases h; exact ⟨0, by omega, nbAt_nb e0⟩
  | none =>
    rw [e0] at h
    cases e1 : nbAt M c 1 with
    | some q => rw [e1] at h; cases h; exact ⟨1, by omega, nbAt_nb e1⟩
    | none =>
      rw [e1] at h
      cases e2 : nbAt M c 2 with
      | some q => rw [e2] at h; cases h; exact ⟨2, by omega, nbAt_nb e2⟩
      | none => rw [e2] at h; exact ⟨3, by omega, nbAt_nb h⟩
theorem Adj.add {M : GM} (a : Adj M) (w : WF M) {c h : Nat} {st : Int32} (hh : h ≤ mN M) (hc : h ≠ 0 → ∃ d, d < 4 ∧ nb (mC M (h - 1)) d = some c) : Adj (addM M c h st) := fun g hg h0 => by
  have hg' : g < mN M + 1 := hg
  have h0' : un (mH M) (mN M) h g ≠ 0 := h0
  show ∃ d, d < 4 ∧ nb (un (mC M) (mN M) c (un (mH M) (mN M) h g - 1)) d = some (un (mC M) (mN M) c g)
  by_cases q : g = mN M
  · subst q
    rw [un_s] at h0'
    rw [un_s (f := mH M), un_s (f := mC M), un_n (by omega)]
    exact hc h0'
  · rw [un_n q] at h0'
    have := w.h (show g < mN M by omega)
    rw [un_n (f := mH M) q, un_n (f := mC M) q, un_n (by omega)]
    exact a g (by omega) h0'
theorem Good.lot {M : GM} (h : Good M) {L : Nat} (hL : L < 10000) : Good (lotM M L) := ⟨h.1.lot hL, h.2.1, h.2.2⟩
theorem Good.cnt {M : GM} (h : Good M) {r t a k : Int32} : Good (cntM M r t a k) := ⟨h.1.cnt, h.2.1, h.2.2⟩
theorem Good.set {M : GM} (h : Good M) {z : Nat × Nat × Nat × Nat × Option Nat} (hz : okZ M z) : Good (setM M z) := by
  refine ⟨h.1.set hz, ?_⟩
  unfold setM
  cases e : z.2.2.2.2 with
  | none => exact ⟨h.2.1, h.2.2⟩
  | some g =>
    have hf := hz.2.2.2.2 g e
    have hg := fgb_lt hf
    refine ⟨Nat.succ_pos _, ?_⟩
    refine Adj.add (M := cntM (lotM M z.2.2.2.1) (mR M + 1) (mT M) (mA M) (mK M + nI z.2.1)) h.2.2 (h.1.lot hz.2.2.1).cnt (show g + 1 ≤ mN M by omega) (fun _ => ?_)
    obtain ⟨d, hd, e1⟩ := fgb_nb hf
    exact nb_sym z.1 hz.1 d hd _ e1
theorem Good.rn {M : GM} (h : Good M) : Good (rnM M) := by
  unfold rnM
  have g1 := h.lot (nxl_lt (mL M))
  cases e : at_ M (rnR M) with
  | some g => exact g1.cnt
  | none => exact g1.set (wlk_ok g1.1 (rnR_lt M) ((at_lot M _ _).trans e))
theorem Good.rnF {M : GM} (h : Good M) : ∀ i, Good (rnF M i).2
  | 0 => h
  | i + 1 => (Good.rnF h i).rn
theorem Good.drp {M : GM} (h : Good M) {fl : Nat → Bool} (hc : Cl M fl) (h0 : fl 0 = false) : Good (drpM M fl) := by
  refine ⟨h.1.drp hc, ?_, fun x hx h1 => ?_⟩
  · show 0 < rk fl (mN M)
    have := rk_lt h.2.1 h0
    omega
  · obtain ⟨g, g1, g2, rfl⟩ := rk_of (show x < rk fl (mN M) from hx)
    have h1' : (pkF M fl (mN M)).2.1 (rk fl g) ≠ 0 := h1
    show ∃ d, d < 4 ∧ nb ((pkF M fl (mN M)).1 ((pkF M fl (mN M)).2.1 (rk fl g) - 1)) d = some ((pkF M fl (mN M)).1 (rk fl g))
    have e := pk_lo (M := M) g2 g1
    rw [e.2.1] at h1' ⊢
    rw [e.1]
    unfold nwH at h1' ⊢
    by_cases q : mH M g = 0
    · rw [if_pos q] at h1'; exact absurd rfl h1'
    · have hh := h.1.h g1
      rw [if_neg q, Nat.add_sub_cancel, (pk_lo (M := M) (hc g g1 g2 q) (show mH M g - 1 < mN M by omega)).1]
      exact h.2.2 g g1 q
theorem Good.brk {M : GM} (h : Good M) {t : Nat} (ht : t < mN M) (h0 : mH M t ≠ 0) : Good (drpM M (inT M t)) := by
  have := h.1.h ht
  exact h.drp (inT_cl h.1) (inT_lt h.1 h.2.1 (by omega))
theorem Good.wsh {M : GM} (h : Good M) : Good (drpM M (tip M)) := by
  have := h.1.h h.2.1
  exact h.drp (tip_cl h.1) (by
    unfold tip
    rw [decide_eq_false (show ¬ mH M 0 ≠ 0 by omega)]; rfl)
theorem plM_n {b : Nat} {M : GM} : ∀ n, mN (plM b M n) = cnt (rootC b) n
  | 0 => rfl
  | n + 1 => by
    rw [plM, cnt_s]
    by_cases q : rootC b n = true
    · rw [if_pos q, if_pos q]
      show mN (plM b M n) + 1 = _
      rw [plM_n n]
    · rw [if_neg q, if_neg q, Nat.add_zero]
      exact plM_n n
theorem Adj.pl {b : Nat} {M : GM} (w : WF M) : ∀ n, n ≤ 121 → Adj (plM b M n)
  | 0, _ => fun g hg => absurd hg (Nat.not_lt_zero _)
  | n + 1, h => by
    rw [plM]
    by_cases q : rootC b n = true
    · rw [if_pos q]
      exact (Adj.pl w n (by omega)).add (w.pl b n (by omega)) (Nat.zero_le _) (fun z => absurd rfl z)
    · rw [if_neg q]
      exact Adj.pl w n (by omega)
theorem rootC_n : ∀ b, b < 3 → 0 < cnt (rootC b) 121 := by decide +kernel
theorem Good.beg {M : GM} (w : WF M) {b : Nat} (hb : b < 3) : Good (begM b M) := ⟨w.pl b 121 (Nat.le_refl _), by
  show 0 < mN (plM b M 121)
  rw [plM_n]
  exact rootC_n b hb, Adj.pl w 121 (Nat.le_refl _)⟩
/-- the states of the history, in its order -/
def hs (h : GH) : Nat → GX4
  | 0 => h.1
  | 1 => h.2.1
  | 2 => h.2.2.1
  | _ => h.2.2.2
theorem c_record {g0 : GX7} {gn : GX4} {gh : GH} {k : Nat} (hk : k ≤ 4) (h : pX7_states g0 = nI k) : ∃ gh', fX7_record g0 gn gh = some ((nI (min k 3 + 1), g0.2), gh') ∧ ∀ i, i ≤ min k 3 → hs gh' i = if i = min k 3 then gn else hs gh (if k < 4 then i else i + 1) := by
  unfold fX7_record
  rw [h]
  rcases (show k = 0 ∨ k = 1 ∨ k = 2 ∨ k = 3 ∨ k = 4 by omega) with rfl | rfl | rfl | rfl | rfl
  · rw [if_pos (show nI 0 < 4 by decide)]
    refine ⟨(gn, gh.2.1, gh.2.2.1, gh.2.2.2), ?_, fun i hi => ?_⟩
    · unfold jX7_record_1
      rw [h, if_pos (show nI 0 = (0 : Int32) from rfl), i_inc]
      rfl
    · obtain rfl : i = 0 := by omega
      rfl
  · rw [if_pos (show nI 1 < 4 by decide)]
    refine ⟨(gh.1, gn, gh.2.2.1, gh.2.2.2), ?_, fun i hi => ?_⟩
    · unfold jX7_record_1
      rw [h, if_neg (show ¬ nI 1 = (0 : Int32) by decide), if_pos (show nI 1 = (1 : Int32) from rfl), i_inc]
      rfl
    · rcases (show i = 0 ∨ i = 1 by omega) with rfl | rfl
      · rfl
      · rfl
  · rw [if_pos (show nI 2 < 4 by decide)]
    refine ⟨(gh.1, gh.2.1, gn, gh.2.2.2), ?_, fun i hi => ?_⟩
    · unfold jX7_record_1
      rw [h, if_neg (show ¬ nI 2 = (0 : Int32) by decide), if_neg (show ¬ nI 2 = (1 : Int32) by decide), if_pos (show nI 2 = (2 : Int32) from rfl), i_inc]
      rfl
    · rcases (show i = 0 ∨ i = 1 ∨ i = 2 by omega) with rfl | rfl | rfl
      · rfl
      · rfl
      · rfl
  · rw [if_pos (show nI 3 < 4 by decide)]
    refine ⟨(gh.1, gh.2.1, gh.2.2.1, gn), ?_, fun i hi => ?_⟩
    · unfold jX7_record_1
      rw [h, if_neg (show ¬ nI 3 = (0 : Int32) by decide), if_neg (show ¬ nI 3 = (1 : Int32) by decide), if_neg (show ¬ nI 3 = (2 : Int32) by decide), if_pos (show nI 3 = (3 : Int32) from rfl), i_inc]
      rfl
    · rcases (show i = 0 ∨ i = 1 ∨ i = 2 ∨ i = 3 by omega) with rfl | rfl | rfl | rfl
      · rfl
      · rfl
      · rfl
      · rfl
  · rw [if_neg (show ¬ nI 4 < 4 by decide)]
    refine ⟨(gh.2.1, gh.2.2.1, gh.2.2.2, gn), ?_, fun i hi => ?_⟩
    · show (if (3 : Int32) = 0 then none else if (3 : Int32) = 1 then none else if (3 : Int32) = 2 then none else if (3 : Int32) = 3 then ((fX4_takeOver gh.1 gn).bind fun o29 => some (((3 : Int32) + 1, g0.2), (gh.2.1, gh.2.2.1, gh.2.2.2, o29))) else none) = _
      rw [if_neg (show ¬ (3 : Int32) = 0 by decide), if_neg (show ¬ (3 : Int32) = 1 by decide), if_neg (show ¬ (3 : Int32) = 2 by decide), if_pos (show (3 : Int32) = 3 from rfl), show (3 : Int32) + 1 = nI (min 4 3 + 1) from by decide]
      rfl
    · rcases (show i = 0 ∨ i = 1 ∨ i = 2 ∨ i = 3 by omega) with rfl | rfl | rfl | rfl
      · rfl
      · rfl
      · rfl
      · rfl
