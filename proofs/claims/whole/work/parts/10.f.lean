/-! ===== loops by an invariant ===== -/
theorem lp_iv {σ ω : Type} {step : σ → Option (σ ⊕ ω)} (I : Nat → σ → Prop) (Q : ω → Prop) : ∀ (N k n : Nat) (s : σ), N < n → I k s → (∀ i s, i < N → I (k + i) s → ∃ s', step s = some (.inl s') ∧ I (k + i + 1) s') → (∀ s, I (k + N) s → ∃ o, step s = some (.inr o) ∧ Q o) → ∃ o, lp step n s = some o ∧ Q o
  | 0, k, n + 1, s, _, h0, _, he => by
    obtain ⟨o, h1, h2⟩ := he s h0
    exact ⟨o, lp_r n h1, h2⟩
  | N + 1, k, n + 1, s, hn, h0, hs, he => by
    obtain ⟨s', h1, h2⟩ := hs 0 s (by omega) h0
    obtain ⟨o, h3, h4⟩ := lp_iv I Q N (k + 1) n s' (by omega) h2 (fun i s hi h => by
      have := hs (i + 1) s (by omega) (by rw [show k + (i + 1) = k + 1 + i by omega]; exact h)
      rw [show k + (i + 1) + 1 = k + 1 + i + 1 by omega] at this
      exact this) (fun s h => he s (by rw [show k + (N + 1) = k + 1 + N by omega]; exact h))
    exact ⟨o, by rw [lp_l n h1]; exact h3, h4⟩
theorem lp_inv {σ ω : Type} {step : σ → Option (σ ⊕ ω)} {s : σ} (I : Nat → σ → Prop) (Q : ω → Prop) (N : Nat) (hN : N < 5000) (h0 : I 0 s) (hs : ∀ i s, i < N → I i s → ∃ s', step s = some (.inl s') ∧ I (i + 1) s') (he : ∀ s, I N s → ∃ o, step s = some (.inr o) ∧ Q o) : ∃ o, lp step FU s = some o ∧ Q o :=
  lp_iv I Q N 0 FU s hN h0 (fun i s hi h => by
    rw [Nat.zero_add] at h ⊢
    exact hs i s hi h) (fun s h => by
    rw [Nat.zero_add] at h
    exact he s h)
/-! ===== down the holders ===== -/
def dnF {α : Type} (H : Nat → Nat) (sp : Nat → Option α) (z : Nat → α) (k : α → α) : Nat → Nat → α
  | 0, g => z g
  | f + 1, g => match sp g with
    | some a => a
    | none => if H g = 0 then z g else k (dnF H sp z k f (H g - 1))
theorem dnF_any {α : Type} {H : Nat → Nat} {sp : Nat → Option α} {z : Nat → α} {k : α → α} {n : Nat} (hh : ∀ g, g < n → H g ≤ g) : ∀ (f f' g : Nat), g < n → g < f → g < f' → dnF H sp z k f g = dnF H sp z k f' g := by
  intro f
  induction f with
  | zero => intro f' g _ h _; omega
  | succ f ih =>
    intro f' g hg h1 h2
    obtain ⟨f', rfl⟩ : ∃ q, f' = q + 1 := ⟨f' - 1, by omega⟩
    rw [dnF, dnF]
    cases sp g with
    | some a => rfl
    | none =>
      have := hh g hg
      by_cases q : H g = 0
      · simp only [if_pos q]
      · simp only [if_neg q]
        rw [ih f' (H g - 1) (by omega) (by omega) (by omega)]
abbrev dnV {α : Type} (H : Nat → Nat) (sp : Nat → Option α) (z : Nat → α) (k : α → α) (g : Nat) : α := dnF H sp z k (g + 1) g
theorem dn_eq {α : Type} {H : Nat → Nat} {sp : Nat → Option α} {z : Nat → α} {k : α → α} {n g : Nat} (hh : ∀ g, g < n → H g ≤ g) (hg : g < n) : dnV H sp z k g = match sp g with
    | some a => a
    | none => if H g = 0 then z g else k (dnV H sp z k (H g - 1)) := by
  unfold dnV
  rw [dnF]
  cases sp g with
  | some a => rfl
  | none =>
    have := hh g hg
    by_cases q : H g = 0
    · simp only [if_pos q]
    · simp only [if_neg q]
      rw [dnF_any hh g (H g - 1 + 1) (H g - 1) (by omega) (by omega) (by omega)]
def dep (M : GM) (g : Nat) : Nat := dnV (mH M) (fun _ => none) (fun _ => 0) (· + 1) g
def rot (M : GM) (g : Nat) : Nat := dnV (mH M) (fun _ => none) (fun g => g) id g
def inT (M : GM) (t g : Nat) : Bool := dnV (mH M) (fun g => if g ≤ t then some (decide (g = t)) else none) (fun _ => false) id g
def via (M : GM) (x k g : Nat) : Bool := dnV (mH M) (fun g => if g ≤ x then some (decide (g = x)) else if mH M g = x + 1 then some (decide (k ≤ g)) else none) (fun _ => false) id g
theorem WF.hh {M : GM} (w : WF M) : ∀ g, g < mN M → mH M g ≤ g := w.2.2.1
theorem dep_eq {M : GM} (w : WF M) {g : Nat} (hg : g < mN M) : dep M g = if mH M g = 0 then 0 else dep M (mH M g - 1) + 1 := by
  unfold dep
  rw [dn_eq w.hh hg]
theorem rot_eq {M : GM} (w : WF M) {g : Nat} (hg : g < mN M) : rot M g = if mH M g = 0 then g else rot M (mH M g - 1) := by
  unfold rot
  rw [dn_eq w.hh hg]
  rfl
theorem inT_eq {M : GM} (w : WF M) {t g : Nat} (hg : g < mN M) : inT M t g = if g ≤ t then decide (g = t) else if mH M g = 0 then false else inT M t (mH M g - 1) := by
  unfold inT
  rw [dn_eq w.hh hg]
  by_cases q : g ≤ t
  · simp only [if_pos q]
  · simp only [if_neg q]
    rfl
theorem via_eq {M : GM} (w : WF M) {x k g : Nat} (hg : g < mN M) : via M x k g = if g ≤ x then decide (g = x) else if mH M g = x + 1 then decide (k ≤ g) else if mH M g = 0 then false else via M x k (mH M g - 1) := by
  unfold via
  rw [dn_eq w.hh hg]
  by_cases q : g ≤ x
  · simp only [if_pos q]
  · simp only [if_neg q]
    by_cases q2 : mH M g = x + 1
    · simp only [if_pos q2]
    · simp only [if_neg q2]
      rfl
theorem dep_le {M : GM} (w : WF M) : ∀ (m g : Nat), g ≤ m → g < mN M → dep M g ≤ g := by
  intro m
  induction m with
  | zero =>
    intro g h1 h2
    have := w.h h2
    rw [dep_eq w h2, if_pos (by omega)]; omega
  | succ m ih =>
    intro g h1 h2
    have := w.h h2
    rw [dep_eq w h2]
    by_cases q : mH M g = 0
    · rw [if_pos q]; omega
    · rw [if_neg q]
      have := ih (mH M g - 1) (by omega) (by omega)
      omega
theorem WF.dep {M : GM} (w : WF M) {g : Nat} (hg : g < mN M) : dep M g ≤ g := dep_le w g g (Nat.le_refl _) hg
theorem rot_le {M : GM} (w : WF M) : ∀ (m g : Nat), g ≤ m → g < mN M → rot M g ≤ g := by
  intro m
  induction m with
  | zero =>
    intro g h1 h2
    have := w.h h2
    rw [rot_eq w h2, if_pos (by omega)]; omega
  | succ m ih =>
    intro g h1 h2
    have := w.h h2
    rw [rot_eq w h2]
    by_cases q : mH M g = 0
    · rw [if_pos q]; omega
    · rw [if_neg q]
      have := ih (mH M g - 1) (by omega) (by omega)
      omega
theorem WF.rot {M : GM} (w : WF M) {g : Nat} (hg : g < mN M) : rot M g ≤ g := rot_le w g g (Nat.le_refl _) hg
/-- the depth of the place below -/
def depH (M : GM) (h : Nat) : Nat := if h = 0 then 0 else dep M (h - 1) + 1
theorem dep_H {M : GM} (w : WF M) {g : Nat} (hg : g < mN M) : dep M g = depH M (mH M g) := by
  rw [dep_eq w hg]; rfl
theorem depH_s {M : GM} {h : Nat} (h0 : h ≠ 0) : depH M h = dep M (h - 1) + 1 := by unfold depH; rw [if_neg h0]
theorem i_inc (k : Nat) : nI k + 1 = nI (k + 1) := i_add k 1
theorem i_dec {k : Nat} (h : 0 < k) : nI k + (-1) = nI (k - 1) := by
  obtain ⟨j, rfl⟩ : ∃ j, k = j + 1 := ⟨k - 1, by omega⟩
  rw [← i_inc, Int32.add_assoc, show (1 : Int32) + (-1) = 0 from by decide, Int32.add_zero]
  rfl
theorem i_dec' {k : Nat} (h : 0 < k) : nI k - 1 = nI (k - 1) := i_sub (b := 1) (by omega)
theorem hR_0 : hR 0 = -1 := rfl
theorem hR_s {h : Nat} (h0 : h ≠ 0) : hR h = nI (h - 1) := by unfold hR; rw [if_neg h0]
theorem r_depth_go {G : GX8} {M : GM} (w : WF M) (h : RepR (pX8_s G) M) : ∀ (m x k fu : Nat), x ≤ m → x ≤ mN M → m < fu → lp (tX8_depthOf_8 G) fu (nI k, hR x) = some (nI (k + depH M x)) := by
  have h1 := w.n1
  intro m
  induction m with
  | zero =>
    intro x k fu hx hn hf
    obtain ⟨fu, rfl⟩ : ∃ q, fu = q + 1 := ⟨fu - 1, by omega⟩
    obtain rfl : x = 0 := by omega
    refine lp_r fu ?_
    unfold tX8_depthOf_8
    rw [if_pos (show hR 0 < 0 by decide)]
    rfl
  | succ m ih =>
    intro x k fu hx hn hf
    obtain ⟨fu, rfl⟩ : ∃ q, fu = q + 1 := ⟨fu - 1, by omega⟩
    by_cases q : x = 0
    · subst q
      refine lp_r fu ?_
      unfold tX8_depthOf_8
      rw [if_pos (show hR 0 < 0 by decide)]
      rfl
    · have hh := w.h (show x - 1 < mN M by omega)
      have e : tX8_depthOf_8 G (nI k, hR x) = some (.inl (nI (k + 1), hR (mH M (x - 1)))) := by
        unfold tX8_depthOf_8
        rw [if_neg (show ¬ hR x < 0 by rw [hR_neg (by omega)]; exact q), hR_s q, r_holder w h (by omega)]
        show some (Sum.inl (nI k + 1, hR (mH M (x - 1)))) = _
        rw [i_inc]
      rw [lp_l fu e, ih (mH M (x - 1)) (k + 1) fu (by omega) (by omega) (by omega), depH_s q, dep_H w (by omega)]
      rw [show k + 1 + depH M (mH M (x - 1)) = k + (depH M (mH M (x - 1)) + 1) by omega]
theorem r_depth {G : GX8} {M : GM} (w : WF M) (h : RepR (pX8_s G) M) {g : Nat} (hg : g < mN M) : fX8_depthOf (nI g) G = some (nI (dep M g)) := by
  have h1 := w.n1
  have hh := w.h hg
  unfold fX8_depthOf
  rw [r_holder w h hg]
  simp only [Option.bind_some]
  rw [i_0, r_depth_go w h (mH M g) (mH M g) 0 FU (by omega) (by omega) (by rw [FU_eq]; omega), dep_H w hg, Nat.zero_add]
  rfl
theorem r_root_go {G : GX8} {M : GM} (w : WF M) (h : RepR (pX8_s G) M) : ∀ (m g fu : Nat), g ≤ m → g < mN M → m < fu → lp (tX8_rootOf_2 G) fu (nI g) = some (nI (rot M g)) := by
  have h1 := w.n1
  intro m
  induction m with
  | zero =>
    intro g fu hx hn hf
    obtain ⟨fu, rfl⟩ : ∃ q, fu = q + 1 := ⟨fu - 1, by omega⟩
    have hh := w.h hn
    refine lp_r fu ?_
    unfold tX8_rootOf_2
    rw [r_holder w h hn, rot_eq w hn, if_pos (show mH M g = 0 by omega), show mH M g = 0 by omega]
    simp only [Option.bind_some]
    rw [if_pos (by decide)]
  | succ m ih =>
    intro g fu hx hn hf
    obtain ⟨fu, rfl⟩ : ∃ q, fu = q + 1 := ⟨fu - 1, by omega⟩
    have hh := w.h hn
    rw [rot_eq w hn]
    by_cases q : mH M g = 0
    · rw [if_pos q]
      refine lp_r fu ?_
      unfold tX8_rootOf_2
      rw [r_holder w h hn, q]
      simp only [Option.bind_some]
      rw [if_pos (by decide)]
    · rw [if_neg q]
      have e : tX8_rootOf_2 G (nI g) = some (.inl (nI (mH M g - 1))) := by
        unfold tX8_rootOf_2
        rw [r_holder w h hn]
        simp only [Option.bind_some]
        rw [if_neg (show ¬ hR (mH M g) < 0 by rw [hR_neg (by omega)]; exact q), hR_s q]
      rw [lp_l fu e]
      exact ih _ fu (by omega) (by omega) (by omega)
theorem r_root {G : GX8} {M : GM} (w : WF M) (h : RepR (pX8_s G) M) {g : Nat} (hg : g < mN M) : fX8_rootOf (nI g) G = some (nI (rot M g)) := by
  have h1 := w.n1
  unfold fX8_rootOf
  rw [r_root_go w h g g FU (by omega) (by omega) (by rw [FU_eq]; omega)]
  rfl
theorem r_isIn_go {G : GX8} {M : GM} (w : WF M) (h : RepR (pX8_s G) M) {t : Nat} (ht : t < mN M) : ∀ (m g fu : Nat), g ≤ m → g < mN M → m + 1 < fu → ∃ o, lp (tX8_isIn_2 (nI t) G) fu (nI g) = some o ∧ (o = nI t ↔ inT M t g = true) := by
  have h1 := w.n1
  intro m
  induction m with
  | zero =>
    intro g fu hx hn hf
    obtain ⟨fu, rfl⟩ : ∃ q, fu = q + 1 := ⟨fu - 1, by omega⟩
    refine ⟨nI g, lp_r fu ?_, ?_⟩
    · unfold tX8_isIn_2
      rw [if_pos (show nI g ≤ nI t by rw [i_le (by omega) (by omega)]; omega)]
    · rw [inT_eq w hn, if_pos (show g ≤ t by omega), i_eq (by omega) (by omega)]
      simp
  | succ m ih =>
    intro g fu hx hn hf
    obtain ⟨fu, rfl⟩ : ∃ q, fu = q + 1 := ⟨fu - 1, by omega⟩
    have hh := w.h hn
    rw [inT_eq w hn]
    by_cases q : g ≤ t
    · refine ⟨nI g, lp_r fu ?_, ?_⟩
      · unfold tX8_isIn_2
        rw [if_pos (show nI g ≤ nI t by rw [i_le (by omega) (by omega)]; omega)]
      · rw [if_pos q, i_eq (by omega) (by omega)]
        simp
    · rw [if_neg q]
      have e : tX8_isIn_2 (nI t) G (nI g) = some (.inl (hR (mH M g))) := by
        unfold tX8_isIn_2
        rw [if_neg (show ¬ nI g ≤ nI t by rw [i_le (by omega) (by omega)]; exact q), r_holder w h hn]
        rfl
      rw [lp_l fu e]
      by_cases q2 : mH M g = 0
      · rw [if_pos q2, q2]
        obtain ⟨fu, rfl⟩ : ∃ q, fu = q + 1 := ⟨fu - 1, by omega⟩
        refine ⟨-1, lp_r fu ?_, ?_⟩
        · unfold tX8_isIn_2
          rw [if_pos (show hR 0 ≤ nI t by rw [Int32.le_iff_toInt_le, nI_toInt (by omega), show (hR 0).toInt = -1 from by decide]; omega)]
          rfl
        · constructor
          · intro e
            have h1 := congrArg Int32.toInt e
            rw [nI_toInt (by omega), show (-1 : Int32).toInt = -1 from by decide] at h1
            omega
          · intro e; cases e
      · rw [if_neg q2, hR_s q2]
        exact ih _ fu (by omega) (by omega) (by omega)
theorem r_isIn {G : GX8} {M : GM} (w : WF M) (h : RepR (pX8_s G) M) {t g : Nat} (ht : t < mN M) (hg : g < mN M) : fX8_isIn (nI g) (nI t) G = some (if inT M t g then 1 else 0) := by
  have h1 := w.n1
  unfold fX8_isIn
  obtain ⟨o, e1, e2⟩ := r_isIn_go w h ht g g FU (by omega) hg (by rw [FU_eq]; omega)
  rw [e1]
  simp only [Option.bind_some]
  by_cases q : inT M t g = true
  · rw [if_pos (e2.mpr q), if_pos q]
  · rw [if_neg (fun z => q (e2.mp z)), if_neg q]
