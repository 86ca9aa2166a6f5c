/-! ===== room ===== -/
theorem cnt_ext {p q : Nat → Bool} : ∀ {n : Nat}, (∀ i, i < n → p i = q i) → cnt p n = cnt q n
  | 0, _ => rfl
  | n + 1, h => by
    rw [cnt_s, cnt_s, cnt_ext (fun i hi => h i (by omega)), h n (by omega)]
theorem cnt_upd {p : Nat → Bool} {k : Nat} (hp : p k = false) : ∀ {N : Nat}, k < N → cnt (fun c => decide (k = c) || p c) N = cnt p N + 1
  | N + 1, h => by
    rw [cnt_s, cnt_s]
    by_cases q : k = N
    · subst q
      rw [cnt_ext (q := p) (fun i hi => by
        show (decide (k = i) || p i) = p i
        rw [decide_eq_false (by omega)]; rfl), decide_eq_true rfl, hp]
      rfl
    · rw [cnt_upd hp (show k < N by omega), decide_eq_false q]
      show cnt p N + 1 + (if p N = true then 1 else 0) = _
      omega
theorem cnt_at {C : Nat → Nat} : ∀ {n : Nat}, (∀ g, g < n → C g < 121) → (∀ a b, a < n → b < n → C a = C b → a = b) → cnt (fun c => (atF C n c).isSome) 121 = n
  | 0, _, _ => cnt_0 (fun i hi => rfl)
  | n + 1, h1, h2 => by
    have hf : (atF C n (C n)).isSome = false := by
      cases e : atF C n (C n) with
      | none => rfl
      | some g =>
        have := atF_some e
        have := h2 g n (by omega) (by omega) this.2
        omega
    rw [cnt_ext (q := fun c => decide (C n = c) || (atF C n c).isSome) (fun c hc => by
      show (atF C (n + 1) c).isSome = _
      rw [atF]
      by_cases q : C n = c
      · rw [if_pos q, decide_eq_true q]; rfl
      · rw [if_neg q, decide_eq_false q]; rfl), cnt_upd (p := fun c => (atF C n c).isSome) hf (h1 n (by omega)), cnt_at (fun g hg => h1 g (by omega)) (fun a b ha hb => h2 a b (by omega) (by omega))]
theorem free_lt {M : GM} (w : WF M) {c : Nat} (hc : c < 121) (ha : at_ M c = none) : mN M < 121 := by
  have h1 := cnt_at (C := mC M) (n := mN M) (fun g hg => w.c hg) w.2.2.2.1
  have h2 := cnt_upd (p := fun c => (atF (mC M) (mN M) c).isSome) (k := c) (by show (at_ M c).isSome = false; rw [ha]; rfl) hc
  have h3 := cnt_le (fun d => decide (c = d) || (atF (mC M) (mN M) d).isSome) 121
  omega
/-! ===== walks: what holds on the way and at the end ===== -/
def okW (M : GM) (x : Nat × Nat × Nat × Nat) : Prop := x.1 < 121 ∧ at_ M x.1 = none ∧ x.2.2.2 < 10000 ∧ x.2.1 ≤ mS M 1
def okZ (M : GM) (z : Nat × Nat × Nat × Nat × Option Nat) : Prop := z.1 < 121 ∧ at_ M z.1 = none ∧ z.2.2.2.1 < 10000 ∧ z.2.1 ≤ mS M 1 ∧ (∀ g, z.2.2.2.2 = some g → fgb M z.1 = some g)
theorem stepW_ok {M : GM} (w : WF M) {pl L c : Nat} (hp : pl < 121) (ha : at_ M pl = none) (h : stepW M pl L = some c) : c < 121 ∧ at_ M c = none := by
  refine ⟨stepW_lt w hp h, ?_⟩
  unfold stepW at h
  cases e : nb pl (if L % (4 + mS M 2) < 4 then L % (4 + mS M 2) else mS M 3) with
  | none => rw [e] at h; cases h
  | some k =>
    rw [e] at h
    simp only [Option.some.injEq] at h
    cases ek : at_ M k with
    | none => rw [ek] at h; rw [← h]; exact ek
    | some g => rw [ek] at h; rw [← h]; exact ha
def okS (M : GM) : (Nat × Nat × Nat × Nat) ⊕ (Nat × Nat × Nat × Nat × Option Nat) → Prop
  | .inl y => okW M y
  | .inr z => okZ M z
theorem onW_ok {M : GM} (w : WF M) {pl st dr L : Nat} (h : okW M (pl, st, dr, L)) : okS M (onW M pl st dr L) := by
  obtain ⟨h1, h2, h3, h4⟩ := h
  unfold onW
  by_cases q : st < mS M 1
  · rw [if_pos q]
    cases e : stepW M pl (nxl L) with
    | none => exact ⟨h1, h2, nxl_lt L, q, fun g hg => by cases hg⟩
    | some c =>
      have hc := stepW_ok w h1 h2 e
      exact ⟨hc.1, hc.2, nxl_lt L, q⟩
  · rw [if_neg q]
    exact ⟨h1, h2, h3, h4, fun g hg => by cases hg⟩
theorem turnW_ok {M : GM} (w : WF M) {x : Nat × Nat × Nat × Nat} (h : okW M x) : okS M (turnW M x) := by
  unfold turnW
  cases e : fgb M x.1 with
  | none => exact onW_ok w h
  | some g =>
    simp only
    by_cases q : nxl x.2.2.2 % 4 < mS M 0
    · rw [if_pos q]
      exact ⟨h.1, h.2.1, nxl_lt _, h.2.2.2, fun k hk => by cases hk; exact e⟩
    · rw [if_neg q]
      exact onW_ok w ⟨h.1, h.2.1, nxl_lt _, h.2.2.2⟩
theorem wlkF_ok {M : GM} (w : WF M) : ∀ (f : Nat) (x : Nat × Nat × Nat × Nat), okW M x → okZ M (wlkF M f x)
  | 0, x, h => ⟨h.1, h.2.1, h.2.2.1, h.2.2.2, fun g hg => by cases hg⟩
  | f + 1, x, h => by
    have h1 := turnW_ok w h
    rw [wlkF]
    cases e : turnW M x with
    | inl y => rw [e] at h1; exact wlkF_ok w f y h1
    | inr z => rw [e] at h1; exact h1
theorem wlk_ok {M : GM} (w : WF M) {c : Nat} (hc : c < 121) (ha : at_ M c = none) : okZ M (wlk M c) := by
  unfold wlk
  exact wlkF_ok w 201 _ ⟨hc, ha, w.2.2.2.2.1, Nat.zero_le _⟩
/-- the state when a walk has ended -/
def setM (M : GM) (z : Nat × Nat × Nat × Nat × Option Nat) : GM := match z.2.2.2.2 with
  | none => cntM (lotM M z.2.2.2.1) (mR M + 1) (mT M + 1) (mA M) (mK M + nI z.2.1)
  | some g => addM (cntM (lotM M z.2.2.2.1) (mR M + 1) (mT M) (mA M) (mK M + nI z.2.1)) z.1 (g + 1) (nI z.2.1)
def ansW (z : Nat × Nat × Nat × Nat × Option Nat) : Int32 := match z.2.2.2.2 with
  | none => nI z.2.1
  | some _ => nI (1000 + z.1)
theorem WF.set {M : GM} (w : WF M) {z : Nat × Nat × Nat × Nat × Option Nat} (h : okZ M z) : WF (setM M z) := by
  have hn := free_lt w h.1 h.2.1
  unfold setM
  cases e : z.2.2.2.2 with
  | none => exact (w.lot h.2.2.1).cnt
  | some g =>
    have := fgb_lt (h.2.2.2.2 g e)
    exact WF.add (M := cntM (lotM M z.2.2.2.1) (mR M + 1) (mT M) (mA M) (mK M + nI z.2.1)) (w.lot h.2.2.1).cnt hn h.1 h.2.1 (show g + 1 ≤ mN M by omega)
theorem s_settle {S : GX4} {M : GM} (w : WF M) (h : RepS S M) {z : Nat × Nat × Nat × Nat × Option Nat} (hz : okZ M z) : ∃ S', fX4_settle S (wkI z) = some S' ∧ RepS S' (setM M z) := by
  have hn := free_lt w hz.1 hz.2.1
  have h1 := w.n1
  obtain ⟨pl, st, dr, L, o⟩ := z
  unfold fX4_settle fX6_sticks setM
  cases o with
  | none =>
    refine ⟨_, rfl, h.1, h.2.1, h.2.2.1, h.2.2.2.1, h.2.2.2.2.1, rfl, h.2.2.2.2.2.2.1, ?_, ?_, h.2.2.2.2.2.2.2.2.2.1, ?_⟩
    · show pX4_released S + 1 = mR M + 1
      rw [h.2.2.2.2.2.2.2.1]
    · show pX4_lost S + 1 = mT M + 1
      rw [h.2.2.2.2.2.2.2.2.1]
    · show pX4_walked S + nI st = mK M + nI st
      rw [h.2.2.2.2.2.2.2.2.2.2]
  | some g =>
    have := fgb_lt (hz.2.2.2.2 g rfl)
    have hr : RepS ((pX4_cells S), (pX4_holders S), (pX4_steps S), (pX4_grainsByCell S), (pX4_settings S), (pX4_grains S), nI L, (pX4_released S) + 1, (pX4_lost S), (pX4_gone S), (pX4_walked S) + nI st) (cntM (lotM M L) (mR M + 1) (mT M) (mA M) (mK M + nI st)) := by
      refine ⟨h.1, h.2.1, h.2.2.1, h.2.2.2.1, h.2.2.2.2.1, rfl, h.2.2.2.2.2.2.1, ?_, h.2.2.2.2.2.2.2.2.1, h.2.2.2.2.2.2.2.2.2.1, ?_⟩
      · show pX4_released S + 1 = mR M + 1
        rw [h.2.2.2.2.2.2.2.1]
      · show pX4_walked S + nI st = mK M + nI st
        rw [h.2.2.2.2.2.2.2.2.2.2]
    obtain ⟨S', e, r⟩ := s_add hr (c := pl) (hd := g + 1) (st := nI st) hn hz.1
    refine ⟨S', ?_, r⟩
    show ((if oI (some g) = -4 then some (0 : Int32) else some 1).bind _) = _
    rw [if_neg (show ¬ oI (some g) = -4 from fun q => (i_n4 (by omega)).mp q)]
    show ((fX4_add (nI pl) (oI (some g)) (nI st) _).bind _) = _
    rw [show oI (some g) = hI (g + 1) from (hI_s (Nat.succ_ne_zero g)).symm]
    exact congrArg (fun x => Option.bind x (fun o => some o)) e
theorem s_answer {M : GM} (w : WF M) {z : Nat × Nat × Nat × Nat × Option Nat} (hz : okZ M z) : fX6_answer (wkI z) = some (ansW z) := by
  have h1 := w.n1
  obtain ⟨pl, st, dr, L, o⟩ := z
  unfold fX6_answer fX6_sticks ansW
  cases o with
  | none => rfl
  | some g =>
    have := fgb_lt (hz.2.2.2.2 g rfl)
    show ((if oI (some g) = -4 then some (0 : Int32) else some 1).bind _) = _
    rw [if_neg (show ¬ oI (some g) = -4 from fun q => (i_n4 (by omega)).mp q)]
    show some (1000 + nI pl) = some (nI (1000 + pl))
    rw [← i_add]; rfl
theorem s_sticks {M : GM} (w : WF M) {z : Nat × Nat × Nat × Nat × Option Nat} (hz : okZ M z) : fX6_sticks (wkI z) = some (if z.2.2.2.2.isSome then 1 else 0) := by
  have h1 := w.n1
  obtain ⟨pl, st, dr, L, o⟩ := z
  unfold fX6_sticks
  cases o with
  | none => rfl
  | some g =>
    have := fgb_lt (hz.2.2.2.2 g rfl)
    show (if oI (some g) = -4 then some (0 : Int32) else some 1) = _
    rw [if_neg (show ¬ oI (some g) = -4 from fun q => (i_n4 (by omega)).mp q)]
    rfl
/-- the class lets a grain go -/
theorem s_letWalk {S : GX4} {M : GM} (w : WF M) (h : RepS S M) {r : Nat} (hr : r < 40) (ha : at_ M (rimC r) = none) (g0 : GX7) (K : GX6) : ∃ S', fX7_letWalk (nI r) g0 S K = some (ansW (wlk M (rimC r)), S', wkI (wlk M (rimC r))) ∧ RepS S' (setM M (wlk M (rimC r))) := by
  have hz := wlk_ok w (rimC_lt r hr) ha
  obtain ⟨S', e, r'⟩ := s_settle w h hz
  refine ⟨S', ?_, r'⟩
  unfold fX7_letWalk
  rw [p_rimC r hr]
  simp only [Option.bind_some]
  rw [s_walk w h (rimC_lt r hr)]
  simp only [Option.bind_some]
  rw [e]
  simp only [Option.bind_some]
  rw [s_answer w hz]
  rfl
/-! ===== rain ===== -/
def rnR (M : GM) : Nat := rimC (nxl (mL M) % 40)
def rnM (M : GM) : GM := match at_ M (rnR M) with
  | some _ => cntM (lotM M (nxl (mL M))) (mR M + 1) (mT M + 1) (mA M) (mK M)
  | none => setM (lotM M (nxl (mL M))) (wlk (lotM M (nxl (mL M))) (rnR M))
def rnS (M : GM) : Bool := match at_ M (rnR M) with
  | some _ => false
  | none => (wlk (lotM M (nxl (mL M))) (rnR M)).2.2.2.2.isSome
theorem at_lot (M : GM) (L c : Nat) : at_ (lotM M L) c = at_ M c := rfl
theorem at_cnt (M : GM) (r t a k : Int32) (c : Nat) : at_ (cntM M r t a k) c = at_ M c := rfl
theorem rnR_lt (M : GM) : rnR M < 121 := rimC_lt _ (Nat.mod_lt _ (by omega))
theorem WF.rn {M : GM} (w : WF M) : WF (rnM M) := by
  unfold rnM
  have w1 := w.lot (nxl_lt (mL M))
  cases e : at_ M (rnR M) with
  | some g => exact w1.cnt
  | none => exact w1.set (wlk_ok w1 (rnR_lt M) ((at_lot M _ _).trans e))
theorem s_refGo {S : GX4} {M : GM} (w : WF M) (h : RepS S M) {r : Nat} (hr : r < 40) : fX4_refusalToGo (nI r) S = some (if (at_ M (rimC r)).isSome then -2 else 0) := by
  have h1 := w.n1
  unfold fX4_refusalToGo fX2_isRim
  rw [if_neg (show ¬ nI r < 0 from i_nlt (b := 0) (Nat.zero_le _) (by omega)), if_neg (show ¬ 40 ≤ nI r from i_nle (a := 40) hr (by omega))]
  simp only [Option.bind_some]
  rw [if_neg (show ¬ (1 : Int32) = 0 by decide), p_rimC r hr]
  simp only [Option.bind_some]
  rw [s_grainAt h (rimC_lt r hr)]
  simp only [Option.bind_some]
  cases e : at_ M (rimC r) with
  | none => rfl
  | some g =>
    have := at_lt e
    rw [if_neg (show ¬ oI (some g) = -4 from fun q => (i_n4 (by omega)).mp q)]
    rfl
theorem RepS.lot {S : GX4} {M : GM} (h : RepS S M) (L : Nat) : RepS ((pX4_cells S), (pX4_holders S), (pX4_steps S), (pX4_grainsByCell S), (pX4_settings S), (pX4_grains S), nI L, (pX4_released S), (pX4_lost S), (pX4_gone S), (pX4_walked S)) (lotM M L) := ⟨h.1, h.2.1, h.2.2.1, h.2.2.2.1, h.2.2.2.2.1, rfl, h.2.2.2.2.2.2.1, h.2.2.2.2.2.2.2⟩
theorem s_drops {S : GX4} {M : GM} (w : WF M) (h : RepS S M) (g0 : GX7) (K : GX6) : ∃ S' K', fX7_dropSticks g0 S K = some (if rnS M then 1 else 0, S', K') ∧ RepS S' (rnM M) := by
  have w1 := w.lot (nxl_lt (mL M))
  have hr := h.lot (nxl (mL M))
  have hL := nxl_lt (mL M)
  have hm : nxl (mL M) % 40 < 40 := Nat.mod_lt _ (by omega)
  unfold fX7_dropSticks
  rw [show pX4_lot S = nI (mL M) from h.2.2.2.2.2.1, s_nxl w.2.2.2.2.1]
  simp only [Option.bind_some]
  rw [show jrem (nI (nxl (mL M))) 40 = nI (nxl (mL M) % 40) from i_rem (a := nxl (mL M)) (d := 40) (by omega) (by omega) (by omega), s_refGo w1 hr hm]
  simp only [Option.bind_some]
  unfold rnS rnM
  have hrn : rimC (nxl (mL M) % 40) = rnR M := by unfold rnR; rfl
  rw [at_lot, hrn]
  cases e : at_ M (rnR M) with
  | some g =>
    rw [if_neg (show ¬ (if (some g).isSome = true then (-2 : Int32) else 0) = 0 by simp)]
    clear hL hm hrn w1
    generalize nxl (mL M) = L at *
    refine ⟨_, K, rfl, hr.1, hr.2.1, hr.2.2.1, hr.2.2.2.1, hr.2.2.2.2.1, rfl, hr.2.2.2.2.2.2.1, ?_, ?_, hr.2.2.2.2.2.2.2.2.2.1, hr.2.2.2.2.2.2.2.2.2.2⟩
    · show pX4_released S + 1 = mR M + 1
      rw [h.2.2.2.2.2.2.2.1]
    · show pX4_lost S + 1 = mT M + 1
      rw [h.2.2.2.2.2.2.2.2.1]
  | none =>
    rw [if_pos (show (if (none : Option Nat).isSome = true then (-2 : Int32) else 0) = 0 by rfl)]
    have hz := wlk_ok w1 (rnR_lt M) ((at_lot M _ _).trans e)
    obtain ⟨S', e1, r1⟩ := s_letWalk w1 hr hm ((at_lot M _ _).trans (by rw [hrn]; exact e)) g0 K
    rw [e1]
    simp only [Option.bind_some]
    rw [hrn] at r1 ⊢
    rw [s_sticks w1 hz]
    simp only [Option.bind_some]
    refine ⟨S', wkI (wlk (lotM M (nxl (mL M))) (rnR M)), ?_, r1⟩
    unfold jgz
    rw [if_pos (by
      cases (wlk (lotM M (nxl (mL M))) (rnR M)).2.2.2.2 with
      | none => exact Or.inl rfl
      | some g => exact Or.inr rfl)]
def rnF (M : GM) : Nat → Nat × GM
  | 0 => (0, M)
  | i + 1 => ((rnF M i).1 + (if rnS (rnF M i).2 then 1 else 0), rnM (rnF M i).2)
theorem WF.rnF {M : GM} (w : WF M) : ∀ i, WF (rnF M i).2
  | 0 => w
  | i + 1 => (WF.rnF w i).rn
