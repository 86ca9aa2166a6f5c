/-! ===== loops by an invariant ===== -/
theorem lp_iv {σ ω : Type} {step : σ → Option (σ ⊕ ω)} (I : Nat → σ → Prop) (Q : ω → Prop) : ∀ (N k n : Nat) (s : σ), N < n → I k s → (∀ i s, i < N → I (k + i) s → ∃ s', step s = some (.inl s') ∧ I (k + i + 1) s') → (∀ s, I (k + N) s → ∃ o, step s = some (.inr o) ∧ Q o) → ∃ o, lp step n s = some o ∧ Q o
  | 0, k, n + 1, s, _, h0, _, he => by
    obtain ⟨o, h1, h2⟩ := he s h0
    exact ⟨o, lp_r n h1, h2⟩
  | N + 1, k, n + 1, s, hn, h0, hs, he => by
    obtain ⟨s', h1, h2⟩ := hs 0 s (by omega) h0
    obtain ⟨o, h3, h4⟩ := lp_iv I Q N (k + 1) n s' (by omega) h2 (fun i s hi h => by
      have := hs (i + 1) s (by omega) (by rw [show k + (i + 1) = k + 1 + i by omega]; exact h)
      rw [show k + (i + 1) + 1 = k + 1 + i + 1 by omega] at this
      exact this) (fun s h => he s (by rw [show k + (N + 1) = k + 1 + N by omega]; exact h))
    exact ⟨o, by rw [lp_l n h1]; exact h3, h4⟩
theorem lp_inv {σ ω : Type} {step : σ → Option (σ ⊕ ω)} {s : σ} (I : Nat → σ → Prop) (Q : ω → Prop) (N : Nat) (hN : N < 5000) (h0 : I 0 s) (hs : ∀ i s, i < N → I i s → ∃ s', step s = some (.inl s') ∧ I (i + 1) s') (he : ∀ s, I N s → ∃ o, step s = some (.inr o) ∧ Q o) : ∃ o, lp step FU s = some o ∧ Q o :=
  lp_iv I Q N 0 FU s hN h0 (fun i s hi h => by
    rw [Nat.zero_add] at h ⊢
    exact hs i s hi h) (fun s h => by
    rw [Nat.zero_add] at h
    exact he s h)
/-! ===== down the holders ===== -/
def dnF {α : Type} (H : Nat → Nat) (sp : Nat → Option α) (z : Nat → α) (k : α → α) : Nat → Nat → α
  | 0, g => z g
  | f + 1, g => match sp g with
    | some a => a
    | none => if H g = 0 then z g else k (dnF H sp z k f (H g - 1))
theorem dnF_any {α : Type} {H : Nat → Nat} {sp : Nat → Option α} {z : Nat → α} {k : α → α} {n : Nat} (hh : ∀ g, g < n → H g ≤ g) : ∀ (f f' g : Nat), g < n → g < f → g < f' → dnF H sp z k f g = dnF H sp z k f' g := by
  intro f
  induction f with
  | zero => intro f' g _ h _; omega
  | succ f ih =>
    intro f' g hg h1 h2
    obtain ⟨f', rfl⟩ : ∃ q, f' = q + 1 := ⟨f' - 1, by omega⟩
    rw [dnF, dnF]
    cases sp g with
    | some a => rfl
    | none =>
      have := hh g hg
      by_cases q : H g = 0
      · simp only [if_pos q]
      · simp only [if_neg q]
        rw [ih f' (H g - 1) (by omega) (by omega) (by omega)]
abbrev dnV {α : Type} (H : Nat → Nat) (sp : Nat → Option α) (z : Nat → α) (k : α → α) (g : Nat) : α := dnF H sp z k (g + 1) g
theorem dn_eq {α : Type} {H : Nat → Nat} {sp : Nat → Option α} {z : Nat → α} {k : α → α} {n g : Nat} (hh : ∀ g, g < n → H g ≤ g) (hg : g < n) : dnV H sp z k g = match sp g with
    | some a => a
    | none => if H g = 0 then z g else k (dnV H sp z k (H g - 1)) := by
  unfold dnV
  rw [dnF]
  cases sp g with
  | some a => rfl
  | none =>
    have := hh g hg
    by_cases q : H g = 0
    · simp only [if_pos q]
    · simp only [if_neg q]
      rw [dnF_any hh g (H g - 1 + 1) (H g - 1) (by omega) (by omega) (by omega)]
def dep (M : GM) (g : Nat) : Nat := dnV (mH M) (fun _ => none) (fun _ => 0) (· + 1) g
def rot (M : GM) (g : Nat) : Nat := dnV (mH M) (fun _ => none) (fun g => g) id g
def inT (M : GM) (t g : Nat) : Bool := dnV (mH M) (fun g => if g ≤ t then some (decide (g = t)) else none) (fun _ => false) id g
def via (M : GM) (x k g : Nat) : Bool := dnV (mH M) (fun g => if g ≤ x then some (decide (g = x)) else if mH M g = x + 1 then some (decide (k ≤ g)) else none) (fun _ => false) id g
theorem WF.hh {M : GM} (w : WF M) : ∀ g, g < mN M → mH M g ≤ g := w.2.2.1
theorem dep_eq {M : GM} (w : WF M) {g : Nat} (hg : g < mN M) : dep M g = if mH M g = 0 then 0 else dep M (mH M g - 1) + 1 := by
  unfold dep
  rw [dn_eq w.hh hg]
theorem rot_eq {M : GM} (w : WF M) {g : Nat} (hg : g < mN M) : rot M g = if mH M g = 0 then g else rot M (mH M g - 1) := by
  unfold rot
  rw [dn_eq w.hh hg]
  rfl
theorem inT_eq {M : GM} (w : WF M) {t g : Nat} (hg : g < mN M) : inT M t g = if g ≤ t then decide (g = t) else if mH M g = 0 then false else inT M t (mH M g - 1) := by
  unfold inT
  rw [dn_eq w.hh hg]
  by_cases q : g ≤ t
  · simp only [if_pos q]
  · simp only [if_neg q]
    rfl
theorem via_eq {M : GM} (w : WF M) {x k g : Nat} (hg : g < mN M) : via M x k g = if g ≤ x then decide (g = x) else if mH M g = x + 1 then decide (k ≤ g) else if mH M g = 0 then false else via M x k (mH M g - 1) := by
  unfold via
  rw [dn_eq w.hh hg]
  by_cases q : g ≤ x
  · simp only [if_pos q]
  · simp only [if_neg q]
    by_cases q2 : mH M g = x + 1
    · simp only [if_pos q2]
    · simp only [if_neg q2]
      rfl
theorem dep_le {M : GM} (w : WF M) : ∀ (m g : Nat), g ≤ m → g < mN M → dep M g ≤ g := by
  intro m
  induction m with
  | zero =>
    intro g h1 h2
    have := w.h h2
    rw [dep_eq w h2, if_pos (by omega)]; omega
  | succ m ih =>
    intro g h1 h2
    have := w.h h2
    rw [dep_eq w h2]
    by_cases q : mH M g = 0
    · rw [if_pos q]; omega
    · rw [if_neg q]
      have := ih (mH M g - 1) (by omega) (by omega)
      omega
theorem WF.dep {M : GM} (w : WF M) {g : Nat} (hg : g < mN M) : dep M g ≤ g := dep_le w g g (Nat.le_refl _) hg
theorem rot_le {M : GM} (w : WF M) : ∀ (m g : Nat), g ≤ m → g < mN M → rot M g ≤ g := by
  intro m
  induction m with
  | zero =>
    intro g h1 h2
    have := w.h h2
    rw [rot_eq w h2, if_pos (by omega)]; omega
  | succ m ih =>
    intro g h1 h2
    have := w.h h2
    rw [rot_eq w h2]
    by_cases q : mH M g = 0
    · rw [if_pos q]; omega
    · rw [if_neg q]
      have := ih (mH M g - 1) (by omega) (by omega)
      omega
theorem WF.rot {M : GM} (w : WF M) {g : Nat} (hg : g < mN M) : rot M g ≤ g := rot_le w g g (Nat.le_refl _) hg
/-- the depth of the place below -/
def depH (M : GM) (h : Nat) : Nat := if h = 0 then 0 else dep M (h - 1) + 1
theorem dep_H {M : GM} (w : WF M) {g : Nat} (hg : g < mN M) : dep M g = depH M (mH M g) := by
  rw [dep_eq w hg]; rfl
theorem depH_s {M : GM} {h : Nat} (h0 : h ≠ 0) : depH M h = dep M (h - 1) + 1 := by unfold depH; rw [if_neg h0]
theorem i_inc (k : Nat) : nI k + 1 = nI (k + 1) := i_add k 1
theorem i_dec {k : Nat} (h : 0 < k) : nI k + (-1) = nI (k - 1) := by
  obtain ⟨j, rfl⟩ : ∃ j, k = j + 1 := ⟨k - 1, by omega⟩
  rw [← i_inc, Int32.add_assoc, show (1 : Int32) + (-1) = 0 from by decide, Int32.add_zero]
  rfl
theorem i_dec' {k : Nat} (h : 0 < k) : nI k - 1 = nI (k - 1) := i_sub (b := 1) (by omega)
theorem hR_0 : hR 0 = -1 := rfl
theorem hR_s {h : Nat} (h0 : h ≠ 0) : hR h = nI (h - 1) := by unfold hR; rw [if_neg h0]
