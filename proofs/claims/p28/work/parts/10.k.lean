/-! ===== grains are taken off ===== -/
theorem gI {α : Type} {i N : Nat} {x : Option α} (h : i < N) (hN : N < 2147483648) : (if nI i < 0 ∨ N ≤ (nI i).toNatClampNeg then none else x) = x := by
  rw [if_neg]
  rw [i_cl (by omega)]
  intro z
  rcases z with z | z
  · exact i_nlt (b := 0) (Nat.zero_le _) (by omega) z
  · omega
def rk (fl : Nat → Bool) (k : Nat) : Nat := cnt (fun g => !fl g) k
theorem rk_le (fl : Nat → Bool) (k : Nat) : rk fl k ≤ k := cnt_le _ _
theorem rk_s (fl : Nat → Bool) (k : Nat) : rk fl (k + 1) = rk fl k + (if fl k then 0 else 1) := by
  show cnt _ k + (if (!fl k) = true then 1 else 0) = cnt _ k + _
  cases fl k <;> rfl
theorem rk_t {fl : Nat → Bool} {k : Nat} (h : fl k = true) : rk fl (k + 1) = rk fl k := by rw [rk_s, if_pos h, Nat.add_zero]
theorem rk_f {fl : Nat → Bool} {k : Nat} (h : fl k = false) : rk fl (k + 1) = rk fl k + 1 := by rw [rk_s, h]; rfl
theorem rk_mono {fl : Nat → Bool} {a : Nat} : ∀ {b : Nat}, a ≤ b → rk fl a ≤ rk fl b
  | 0, h => by rw [show a = 0 by omega]; exact Nat.le_refl _
  | b + 1, h => by
    by_cases q : a = b + 1
    · rw [q]; exact Nat.le_refl _
    · have := rk_mono (fl := fl) (show a ≤ b by omega)
      rw [rk_s]
      omega
theorem rk_lt {fl : Nat → Bool} {a b : Nat} (h : a < b) (hf : fl a = false) : rk fl a < rk fl b := by
  have := rk_mono (fl := fl) (show a + 1 ≤ b from h)
  rw [rk_f hf] at this
  omega
theorem rk_inj {fl : Nat → Bool} {a b : Nat} (ha : fl a = false) (hb : fl b = false) (h : rk fl a = rk fl b) : a = b := by
  rcases Nat.lt_trichotomy a b with q | q | q
  · have := rk_lt q ha; omega
  · exact q
  · have := rk_lt q hb; omega
theorem rk_of {fl : Nat → Bool} {x : Nat} : ∀ {i : Nat}, x < rk fl i → ∃ g, g < i ∧ fl g = false ∧ rk fl g = x
  | 0, h => absurd h (Nat.not_lt_zero _)
  | i + 1, h => by
    cases e : fl i with
    | true =>
      rw [rk_t e] at h
      obtain ⟨g, h1, h2⟩ := rk_of h
      exact ⟨g, by omega, h2⟩
    | false =>
      rw [rk_f e] at h
      by_cases q : x = rk fl i
      · exact ⟨i, by omega, e, q.symm⟩
      · obtain ⟨g, h1, h2⟩ := rk_of (show x < rk fl i by omega)
        exact ⟨g, by omega, h2⟩
/-- the holder's new number -/
def nwH (M : GM) (fl : Nat → Bool) (i : Nat) : Nat := if mH M i = 0 then 0 else rk fl (mH M i - 1) + 1
def pkF (M : GM) (fl : Nat → Bool) : Nat → (Nat → Nat) × (Nat → Nat) × (Nat → Int32)
  | 0 => (mC M, mH M, mW M)
  | i + 1 => if fl i then pkF M fl i else (un (pkF M fl i).1 (rk fl i) (mC M i), un (pkF M fl i).2.1 (rk fl i) (nwH M fl i), un (pkF M fl i).2.2 (rk fl i) (mW M i))
def drpM (M : GM) (fl : Nat → Bool) : GM := (rk fl (mN M), (pkF M fl (mN M)).1, (pkF M fl (mN M)).2.1, (pkF M fl (mN M)).2.2, mL M, mS M, mR M, mT M, mA M + nI (mN M - rk fl (mN M)), mK M)
theorem pk_hi {M : GM} {fl : Nat → Bool} {x : Nat} : ∀ {i : Nat}, rk fl i ≤ x → (pkF M fl i).1 x = mC M x ∧ (pkF M fl i).2.1 x = mH M x ∧ (pkF M fl i).2.2 x = mW M x
  | 0, _ => ⟨rfl, rfl, rfl⟩
  | i + 1, h => by
    have hm := rk_mono (fl := fl) (show i ≤ i + 1 by omega)
    have ih := pk_hi (M := M) (fl := fl) (show rk fl i ≤ x by omega)
    rw [pkF]
    cases e : fl i with
    | true => rw [if_pos rfl]; exact ih
    | false =>
      rw [rk_f e] at h
      rw [if_neg (by decide)]
      exact ⟨(un_n (by omega)).trans ih.1, (un_n (by omega)).trans ih.2.1, (un_n (by omega)).trans ih.2.2⟩
theorem pk_lo {M : GM} {fl : Nat → Bool} {g : Nat} (hf : fl g = false) : ∀ {i : Nat}, g < i → (pkF M fl i).1 (rk fl g) = mC M g ∧ (pkF M fl i).2.1 (rk fl g) = nwH M fl g ∧ (pkF M fl i).2.2 (rk fl g) = mW M g
  | i + 1, h => by
    rw [pkF]
    by_cases q : g = i
    · subst q
      rw [hf, if_neg (by decide)]
      exact ⟨un_s, un_s, un_s⟩
    · have ih := pk_lo (M := M) hf (show g < i by omega)
      have hl := rk_lt (fl := fl) (show g < i by omega) hf
      cases e : fl i with
      | true => rw [if_pos rfl]; exact ih
      | false =>
        rw [if_neg (by decide)]
        exact ⟨(un_n (by omega)).trans ih.1, (un_n (by omega)).trans ih.2.1, (un_n (by omega)).trans ih.2.2⟩
/-- what stays keeps its holder -/
def Cl (M : GM) (fl : Nat → Bool) : Prop := ∀ g, g < mN M → fl g = false → mH M g ≠ 0 → fl (mH M g - 1) = false
theorem WF.drp {M : GM} (w : WF M) {fl : Nat → Bool} (hc : Cl M fl) : WF (drpM M fl) := by
  have h1 := w.n1
  refine ⟨?_, fun x hx => ?_, fun x hx => ?_, fun a b ha hb e => ?_, w.2.2.2.2.1, w.2.2.2.2.2⟩
  · show rk fl (mN M) ≤ 121
    have := rk_le fl (mN M); omega
  · obtain ⟨g, g1, g2, rfl⟩ := rk_of (show x < rk fl (mN M) from hx)
    show (pkF M fl (mN M)).1 _ < 121
    rw [(pk_lo g2 g1).1]
    exact w.c g1
  · obtain ⟨g, g1, g2, rfl⟩ := rk_of (show x < rk fl (mN M) from hx)
    show (pkF M fl (mN M)).2.1 _ ≤ _
    rw [(pk_lo g2 g1).2.1]
    have hh := w.h g1
    unfold nwH
    by_cases q : mH M g = 0
    · rw [if_pos q]; exact Nat.zero_le _
    · rw [if_neg q]
      have := rk_lt (show mH M g - 1 < g by omega) (hc g g1 g2 q)
      omega
  · obtain ⟨g, g1, g2, rfl⟩ := rk_of (show a < rk fl (mN M) from ha)
    obtain ⟨k, k1, k2, rfl⟩ := rk_of (show b < rk fl (mN M) from hb)
    have e' : (pkF M fl (mN M)).1 (rk fl g) = (pkF M fl (mN M)).1 (rk fl k) := e
    rw [(pk_lo g2 g1).1, (pk_lo k2 k1).1] at e'
    rw [w.2.2.2.1 g k g1 k1 e']
theorem at_drp {M : GM} (w : WF M) {fl : Nat → Bool} (hc : Cl M fl) {c : Nat} : at_ (drpM M fl) c = match at_ M c with
    | none => none
    | some g => if fl g then none else some (rk fl g) := by
  have hn : ∀ {P : Prop}, (∀ x, x < rk fl (mN M) → (pkF M fl (mN M)).1 x = c → P) → (∀ g, g < mN M → fl g = false → mC M g = c → P) := fun h g g1 g2 g3 => h _ (rk_lt g1 g2) ((pk_lo g2 g1).1.trans g3)
  cases e : at_ M c with
  | none =>
    refine at_none (fun x hx => ?_)
    obtain ⟨g, g1, g2, rfl⟩ := rk_of (show x < rk fl (mN M) from hx)
    show ¬ (pkF M fl (mN M)).1 _ = c
    rw [(pk_lo g2 g1).1]
    exact atF_none e g g1
  | some g =>
    have hg := atF_some e
    show _ = if fl g then none else some (rk fl g)
    cases ef : fl g with
    | true =>
      rw [if_pos rfl]
      refine at_none (fun x hx => ?_)
      obtain ⟨k, k1, k2, rfl⟩ := rk_of (show x < rk fl (mN M) from hx)
      show ¬ (pkF M fl (mN M)).1 _ = c
      rw [(pk_lo k2 k1).1]
      intro z
      rw [w.2.2.2.1 k g k1 hg.1 (z.trans hg.2.symm), ef] at k2
      cases k2
    | false =>
      rw [if_neg (by decide)]
      have hl := rk_lt hg.1 ef
      have hw := (w.drp hc)
      have := atF_of (C := mC (drpM M fl)) (n := mN (drpM M fl)) (g := rk fl g) hw.2.2.2.1 hl
      rw [show mC (drpM M fl) (rk fl g) = c from (pk_lo ef hg.1).1.trans hg.2] at this
      exact this
/-- the class's rows on the way -/
def DJ (S : GX4) (M : GM) (fl : Nat → Bool) (i : Nat) (T : GX4) : Prop := pX4_grains T = nI (mN M) ∧ (∀ x, x < mN M → pX4_cells T x = nI ((pkF M fl i).1 x)) ∧ (∀ x, x < mN M → pX4_holders T x = hI ((pkF M fl i).2.1 x)) ∧ (∀ x, x < mN M → pX4_steps T x = (pkF M fl i).2.2 x) ∧ (∀ c, c < 121 → pX4_grainsByCell T c = match at_ M c with
  | none => -4
  | some g => if g < i then (if fl g then -4 else nI (rk fl g)) else nI g) ∧ pX4_lot T = pX4_lot S ∧ pX4_settings T = pX4_settings S ∧ pX4_released T = pX4_released S ∧ pX4_lost T = pX4_lost S ∧ pX4_gone T = pX4_gone S ∧ pX4_walked T = pX4_walked S
theorem hI_n4 {h : Nat} (hh : h < 2147483648) : hI h = -4 ↔ h = 0 := by
  by_cases q : h = 0
  · subst q; exact ⟨fun _ => rfl, fun _ => rfl⟩
  · rw [hI_s q]; exact ⟨fun z => ((i_n4 (by omega)).mp z).elim, fun z => absurd z q⟩
theorem s_drop {S : GX4} {M : GM} (w : WF M) (h : RepS S M) {fl : Nat → Bool} (hc : Cl M fl) {g1 g2 : Nat → Int32} (hg : ∀ i, i < mN M → g1 i = if fl i then 1 else 0) : ∃ S' g2', fX4_drop S 121 g1 121 g2 = some (nI (mN M - rk fl (mN M)), S', g2') ∧ RepS S' (drpM M fl) := by
  have h1 := w.n1
  unfold fX4_drop
  obtain ⟨o, e, o1, o2⟩ := lp_inv (step := tX4_drop_5 121 g1 121) (s := (0, 0, S, g2))
    (fun i s => s.1 = nI (rk fl i) ∧ s.2.1 = nI i ∧ DJ S M fl i s.2.2.1 ∧ (∀ x, x < i → fl x = false → s.2.2.2 x = nI (rk fl x)))
    (fun o => o.1 = nI (rk fl (mN M)) ∧ DJ S M fl (mN M) o.2.1) (mN M) (by omega)
    ⟨rfl, rfl, ⟨h.1, h.2.1, h.2.2.1, h.2.2.2.1, fun c hc => by
      rw [h.2.2.2.2.1 c hc]
      cases at_ M c with
      | none => rfl
      | some g => exact (if_neg (Nat.not_lt_zero g)).symm, rfl, rfl, rfl, rfl, rfl, rfl⟩, fun x hx => absurd hx (Nat.not_lt_zero _)⟩
    (fun i s hi ⟨a1, a2, a3, a4⟩ => by
      obtain ⟨x, y, T, nw⟩ := s
      dsimp only at a1 a2 a3 a4
      subst a1 a2
      obtain ⟨b1, b2, b3, b4, b5, b6⟩ := a3
      have hri := rk_le fl i
      have hh := w.h hi
      have hci := w.c hi
      have phi := pk_hi (M := M) (fl := fl) (show rk fl i ≤ i from hri)
      have ci : pX4_cells T i = nI (mC M i) := by rw [b2 i hi, phi.1]
      have hi' : pX4_holders T i = hI (mH M i) := by rw [b3 i hi, phi.2.1]
      have si : pX4_steps T i = mW M i := by rw [b4 i hi, phi.2.2]
      have ai : at_ M (mC M i) = some i := atF_of w.2.2.2.1 hi
      unfold tX4_drop_5
      dsimp only
      rw [b1, if_neg (i_nle hi (by omega))]
      simp only [gI (i := i) (N := 121) (by omega) (by omega), gI (i := rk fl i) (N := 121) (by omega) (by omega)]
      rw [i_cl (show i < 2147483648 by omega), ci, hi', hg i hi]
      cases ef : fl i with
      | true =>
        rw [if_neg (show ¬ (if true = true then (1 : Int32) else 0) = 0 by decide), s_mark hci, Option.bind_some]
        unfold jX4_drop_1
        refine ⟨_, rfl, by rw [rk_t ef], i_inc i, ⟨b1, ?_, ?_, ?_, fun c hc => ?_, b6⟩, fun x hx hf => ?_⟩
        · intro x hx
          rw [pkF, if_pos ef]; exact b2 x hx
        · intro x hx
          rw [pkF, if_pos ef]; exact b3 x hx
        · intro x hx
          rw [pkF, if_pos ef]; exact b4 x hx
        · show upd _ _ _ c = _
          by_cases q : c = mC M i
          · rw [q, pk_us, ai]
            show _ = if i < i + 1 then (if fl i then -4 else _) else _
            rw [if_pos (by omega), if_pos ef]
          · rw [pk_un q, b5 c hc]
            cases ea : at_ M c with
            | none => rfl
            | some g =>
              have hgi : g ≠ i := fun z => by
                rw [z] at ea
                exact q (atF_some ea).2.symm
              show (if g < i then _ else _) = (if g < i + 1 then _ else _)
              by_cases q3 : g < i
              · rw [if_pos q3, if_pos (show g < i + 1 by omega)]
              · rw [if_neg q3, if_neg (show ¬ g < i + 1 by omega)]
        · show upd _ _ _ x = _
          by_cases q : x = i
          · rw [q, ef] at hf; cases hf
          · rw [pk_un q]; exact a4 x (by omega) hf
      | false =>
        rw [if_pos (show (if false = true then (1 : Int32) else 0) = 0 by decide)]
        have j2 : ∀ y, y = hI (nwH M fl i) → ∃ s', jX4_drop_2 (nI (rk fl i), nI i, T, nw) y = some (.inl s') ∧ s'.1 = nI (rk fl (i + 1)) ∧ s'.2.1 = nI (i + 1) ∧ DJ S M fl (i + 1) s'.2.2.1 ∧ (∀ x, x < i + 1 → fl x = false → s'.2.2.2 x = nI (rk fl x)) := fun y hy => by
          unfold jX4_drop_2 jX4_drop_1
          dsimp only
          simp only [gI (i := i) (N := 121) (by omega) (by omega), gI (i := rk fl i) (N := 121) (by omega) (by omega)]
          rw [i_cl (show i < 2147483648 by omega), ci, i_cl (show rk fl i < 2147483648 by omega), s_mark hci, Option.bind_some, si, hy]
          refine ⟨_, rfl, by rw [rk_f ef]; exact i_inc _, i_inc i, ⟨b1, ?_, ?_, ?_, fun c hc => ?_, b6⟩, fun x hx hf => ?_⟩
          · intro x hx
            rw [pkF, if_neg (by rw [ef]; decide)]
            show upd _ _ _ x = nI (un _ _ _ x)
            by_cases q : x = rk fl i
            · rw [q, pk_us, un_s]
            · rw [pk_un q, un_n q]; exact b2 x hx
          · intro x hx
            rw [pkF, if_neg (by rw [ef]; decide)]
            show upd _ _ _ x = hI (un _ _ _ x)
            by_cases q : x = rk fl i
            · rw [q, pk_us, un_s]
            · rw [pk_un q, un_n q]; exact b3 x hx
          · intro x hx
            rw [pkF, if_neg (by rw [ef]; decide)]
            show upd _ _ _ x = un _ _ _ x
            by_cases q : x = rk fl i
            · rw [q, pk_us, un_s]
            · rw [pk_un q, un_n q]; exact b4 x hx
          · show upd _ _ _ c = _
            by_cases q : c = mC M i
            · rw [q, pk_us, ai]
              show _ = if i < i + 1 then (if fl i then -4 else _) else _
              rw [if_pos (by omega), if_neg (by rw [ef]; decide)]
            · rw [pk_un q, b5 c hc]
              cases ea : at_ M c with
              | none => rfl
              | some g =>
                have hgi : g ≠ i := fun z => by
                  rw [z] at ea
                  exact q (atF_some ea).2.symm
                show (if g < i then _ else _) = (if g < i + 1 then _ else _)
                by_cases q3 : g < i
                · rw [if_pos q3, if_pos (show g < i + 1 by omega)]
                · rw [if_neg q3, if_neg (show ¬ g < i + 1 by omega)]
          · show upd _ _ _ x = _
            by_cases q : x = i
            · rw [q, pk_us]
            · rw [pk_un q]; exact a4 x (by omega) hf
        rw [igb4 (N := mN M) h1 (show mH M i ≤ mN M by omega)]
        rotate_left
        · rfl
        by_cases q : mH M i = 0
        · rw [if_pos q]
          exact j2 (-4) (by unfold nwH; rw [if_pos q]; rfl)
        · rw [if_neg q, hI_s q]
          simp only [gI (i := mH M i - 1) (N := 121) (by omega) (by omega)]
          rw [i_cl (by omega), pk_un (by omega), a4 _ (by omega) (hc i hi ef q)]
          exact j2 _ (by unfold nwH; rw [if_neg q, hI_s (Nat.succ_ne_zero _)]; rfl))
    (fun s ⟨a1, a2, a3, a4⟩ => by
      refine ⟨(s.1, s.2.2.1, s.2.2.2), ?_, a1, a3⟩
      unfold tX4_drop_5
      rw [a2, a3.1, if_pos (i_ple (Nat.le_refl _) (by omega))])
  rw [e]
  simp only [Option.bind_some]
  have hl := rk_le fl (mN M)
  obtain ⟨b1, b2, b3, b4, b5, b6, b7, b8, b9, b10, b11⟩ := o2
  refine ⟨_, _, by rw [b1, o1, i_sub hl], rfl, fun x hx => ?_, fun x hx => ?_, fun x hx => ?_, fun c hc' => ?_, ?_, fun k hk => ?_, ?_, ?_, ?_, ?_⟩
  · exact b2 x (by have : x < rk fl (mN M) := hx; omega)
  · exact b3 x (by have : x < rk fl (mN M) := hx; omega)
  · exact b4 x (by have : x < rk fl (mN M) := hx; omega)
  · rw [at_drp w hc]
    show pX4_grainsByCell o.2.1 c = _
    rw [b5 c hc']
    cases ea : at_ M c with
    | none => rfl
    | some g =>
      show (if g < mN M then _ else _) = oI (if fl g then none else some (rk fl g))
      rw [if_pos (at_lt ea)]
      cases fl g <;> rfl
  · show pX4_lot o.2.1 = _
    rw [b6]; exact h.2.2.2.2.2.1
  · show pX4_settings o.2.1 k = _
    rw [b7]; exact h.2.2.2.2.2.2.1 k hk
  · show pX4_released o.2.1 = _
    rw [b8]; exact h.2.2.2.2.2.2.2.1
  · show pX4_lost o.2.1 = _
    rw [b9]; exact h.2.2.2.2.2.2.2.2.1
  · show pX4_gone o.2.1 + nI (mN M - rk fl (mN M)) = mA M + _
    rw [b10, h.2.2.2.2.2.2.2.2.2.1]
  · show pX4_walked o.2.1 = _
    rw [b11]; exact h.2.2.2.2.2.2.2.2.2.2
/-! ===== trees that break off, tips that are washed away ===== -/
theorem inT_or {M : GM} (w : WF M) {t g : Nat} (hg : g < mN M) : inT M t g = (decide (g = t) || (decide (mH M g ≠ 0) && inT M t (mH M g - 1))) := by
  have hh := w.h hg
  rw [inT_eq w hg]
  by_cases q : g ≤ t
  · rw [if_pos q]
    by_cases q2 : g = t
    · rw [decide_eq_true q2]; rfl
    · rw [decide_eq_false q2]
      by_cases q3 : mH M g = 0
      · rw [decide_eq_false (by omega)]; rfl
      · rw [inT_lt w (show mH M g - 1 < mN M by omega) (by omega), Bool.and_false]; rfl
  · rw [if_neg q, decide_eq_false (show ¬ g = t by omega)]
    by_cases q3 : mH M g = 0
    · rw [if_pos q3, decide_eq_false (by omega)]; rfl
    · rw [if_neg q3, decide_eq_true q3]; rfl
theorem inT_cl {M : GM} (w : WF M) {t : Nat} : Cl M (inT M t) := fun g hg hf h0 => by
  rw [inT_or w hg, decide_eq_true h0] at hf
  cases e : inT M t (mH M g - 1) with
  | false => rfl
  | true => rw [e, Bool.true_and, Bool.or_true] at hf; cases hf
theorem nar1 : vp_nar .boolean 1 = 1 := rfl
theorem nar0 : vp_nar .boolean 0 = 0 := rfl
theorem s_dropTree {S : GX4} {M : GM} (w : WF M) (h : RepS S M) {t : Nat} (ht : t < mN M) (F : GX0) : ∃ F' S', fX0_dropTree (nI t) F S = some (nI (mN M - rk (inT M t) (mN M)), F', S') ∧ RepS S' (drpM M (inT M t)) := by
  have h1 := w.n1
  unfold fX0_dropTree
  obtain ⟨o, e, he⟩ := lp_inv (step := tX0_dropTree_2 (nI t) S) (s := (0, F)) (fun i s => s.1 = nI i ∧ ∀ x, x < i → pX0_falling s.2 x = if inT M t x then 1 else 0) (fun o => ∀ x, x < mN M → pX0_falling o x = if inT M t x then 1 else 0) (mN M) (by omega) ⟨rfl, fun x hx => absurd hx (Nat.not_lt_zero _)⟩
    (fun i s hi ⟨a1, a2⟩ => by
      obtain ⟨y, T⟩ := s
      dsimp only at a1 a2
      subst a1
      have hh := w.h hi
      have j1 : ∀ b : Bool, b = inT M t i → ∃ s', jX0_dropTree_1 (nI i, T) (if b then 1 else 0) = some (.inl s') ∧ s'.1 = nI (i + 1) ∧ ∀ x, x < i + 1 → pX0_falling s'.2 x = if inT M t x then 1 else 0 := fun b hb => by
        unfold jX0_dropTree_1
        dsimp only
        rw [gI (by omega) (by omega), i_cl (by omega)]
        refine ⟨_, rfl, i_inc i, fun x hx => ?_⟩
        show upd _ _ _ x = _
        by_cases q : x = i
        · rw [q, pk_us, ← hb]
          cases b <;> rfl
        · rw [pk_un q]; exact a2 x (by omega)
      have hor := inT_or w (t := t) hi
      unfold tX0_dropTree_2
      dsimp only
      rw [h.1, if_neg (i_nle hi (by omega)), s_holderOf w h hi]
      simp only [Option.bind_some]
      rw [ifc (i_eq (by omega) (by omega)), igb4 (N := mN M) h1 (show mH M i ≤ mN M by omega) h.1]
      by_cases q : i = t
      · rw [if_pos q]
        exact j1 true (by rw [hor, decide_eq_true q]; rfl)
      · rw [if_neg q]
        rw [decide_eq_false q, Bool.false_or] at hor
        by_cases q2 : mH M i = 0
        · rw [if_pos q2]
          exact j1 false (by rw [hor, decide_eq_false (by omega)]; rfl)
        · rw [if_neg q2, hI_s q2, gI (by omega) (by omega), i_cl (by omega), a2 _ (by omega)]
          rw [decide_eq_true q2, Bool.true_and] at hor
          cases e : inT M t (mH M i - 1) with
          | true =>
            rw [if_neg (show ¬ (if true = true then (1 : Int32) else 0) = 0 by decide)]
            exact j1 true (by rw [hor, e])
          | false =>
            rw [if_pos (show (if false = true then (1 : Int32) else 0) = 0 by decide)]
            exact j1 false (by rw [hor, e]))
    (fun s ⟨a1, a2⟩ => by
      refine ⟨s.2, ?_, a2⟩
      unfold tX0_dropTree_2
      rw [a1, h.1, if_pos (i_ple (Nat.le_refl _) (by omega))])
  rw [e]
  simp only [Option.bind_some]
  obtain ⟨S', g2', e2, r2⟩ := s_drop w h (inT_cl w (t := t)) (g2 := pX0_newNumbers o) he
  rw [e2]
  exact ⟨_, S', rfl, r2⟩
/-- a tip that is held -/
def tip (M : GM) (g : Nat) : Bool := decide (mH M g ≠ 0) && decide (chl M g = 0)
theorem cnt_pos {p : Nat → Bool} {g : Nat} (hp : p g = true) : ∀ {n : Nat}, g < n → 0 < cnt p n
  | n + 1, h => by
    rw [cnt_s]
    by_cases q : g = n
    · rw [← q, hp, if_pos rfl]; omega
    · have := cnt_pos hp (show g < n by omega)
      omega
theorem tip_cl {M : GM} (w : WF M) : Cl M (tip M) := fun g hg hf h0 => by
  have : 0 < chl M (mH M g - 1) := cnt_pos (g := g) (by exact decide_eq_true (by omega)) hg
  unfold tip
  rw [decide_eq_false (p := chl M (mH M g - 1) = 0) (by omega), Bool.and_false]
def tipS (M : GM) (i g : Nat) : Bool := decide (mH M g ≠ 0) && decide (cnt (fun x => decide (mH M x = g + 1)) i = 0)
theorem s_dropTips {S : GX4} {M : GM} (w : WF M) (h : RepS S M) (F : GX0) : ∃ F' S', fX0_dropTips F S = some (nI (mN M - rk (tip M) (mN M)), F', S') ∧ RepS S' (drpM M (tip M)) := by
  have h1 := w.n1
  unfold fX0_dropTips
  obtain ⟨o, e, he⟩ := lp_inv (step := tX0_dropTips_2 S) (s := (0, F)) (fun i s => s.1 = nI i ∧ ∀ x, x < i → pX0_falling s.2 x = if tipS M i x then 1 else 0) (fun o => ∀ x, x < mN M → pX0_falling o x = if tip M x then 1 else 0) (mN M) (by omega) ⟨rfl, fun x hx => absurd hx (Nat.not_lt_zero _)⟩
    (fun i s hi ⟨a1, a2⟩ => by
      obtain ⟨y, T⟩ := s
      dsimp only at a1 a2
      subst a1
      have hh := w.h hi
      have own : tipS M (i + 1) i = decide (mH M i ≠ 0) := by
        unfold tipS
        rw [cnt_0 (fun x hx => decide_eq_false (by have := w.h (show x < mN M by omega); omega)), decide_eq_true rfl, Bool.and_true]
      have oth : ∀ x, x < i → mH M i ≠ x + 1 → tipS M (i + 1) x = tipS M i x := fun x hx hne => by
        unfold tipS
        rw [cnt_s, decide_eq_false hne]; rfl
      unfold tX0_dropTips_2 jX0_dropTips_1
      dsimp only
      rw [h.1, if_neg (i_nle hi (by omega)), s_holderOf w h hi]
      simp only [Option.bind_some]
      rw [ig4 (N := mN M) h1 (show mH M i ≤ mN M by omega) h.1]
      simp only [Option.bind_some]
      simp only [gI (i := i) (N := 121) (by omega) (by omega)]
      rw [ifc (ifz (P := mH M i = 0)), i_cl (by omega)]
      by_cases q : mH M i = 0
      · rw [if_pos q, if_pos q]
        refine ⟨_, rfl, i_inc i, fun x hx => ?_⟩
        show upd _ _ _ x = _
        by_cases qx : x = i
        · rw [qx, pk_us, own, decide_eq_false (by omega)]; rfl
        · rw [pk_un qx, oth x (by omega) (by omega)]; exact a2 x (by omega)
      · rw [if_neg q, if_neg q, hI_s q, gI (by omega) (by omega), i_cl (by omega)]
        refine ⟨_, rfl, i_inc i, fun x hx => ?_⟩
        show upd _ _ _ x = _
        by_cases qh : x = mH M i - 1
        · rw [qh, pk_us]
          have : 0 < cnt (fun y => decide (mH M y = mH M i - 1 + 1)) (i + 1) := cnt_pos (g := i) (by exact decide_eq_true (by omega)) (by omega)
          unfold tipS
          rw [decide_eq_false (p := cnt (fun y => decide (mH M y = mH M i - 1 + 1)) (i + 1) = 0) (by omega), Bool.and_false]
          rfl
        · rw [pk_un qh]
          by_cases qx : x = i
          · rw [qx, pk_us, own, decide_eq_true q]; rfl
          · rw [pk_un qx, oth x (by omega) (by omega)]; exact a2 x (by omega))
    (fun s ⟨a1, a2⟩ => by
      refine ⟨s.2, ?_, a2⟩
      unfold tX0_dropTips_2
      rw [a1, h.1, if_pos (i_ple (Nat.le_refl _) (by omega))])
  rw [e]
  simp only [Option.bind_some]
  obtain ⟨S', g2', e2, r2⟩ := s_drop w h (tip_cl w) (g2 := pX0_newNumbers o) he
  rw [e2]
  exact ⟨_, S', rfl, r2⟩
