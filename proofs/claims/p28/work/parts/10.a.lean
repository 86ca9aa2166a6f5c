/-! ===== phase 2: what the partial functions answer, in plain numbers ===== -/
theorem lp_from {σ ω : Type} {step : σ → Option (σ ⊕ ω)} {o : ω} (st : Nat → σ) : ∀ (N k n : Nat), N < n → (∀ i, i < N → step (st (k + i)) = some (.inl (st (k + i + 1)))) → step (st (k + N)) = some (.inr o) → lp step n (st k) = some o
  | 0, k, n + 1, _, _, he => by
    rw [Nat.add_zero] at he
    show (step (st k)).bind _ = _
    rw [he]; rfl
  | N + 1, k, n + 1, hn, hs, he => by
    have h0 := hs 0 (by omega)
    rw [Nat.add_zero] at h0
    show (step (st k)).bind _ = _
    rw [h0]
    exact lp_from st N (k + 1) n (by omega) (fun i hi => by
      have := hs (i + 1) (by omega)
      rw [show k + 1 + i = k + (i + 1) by omega, show k + (i + 1) + 1 = k + (i + 1) + 1 from rfl]; exact this) (by rw [show k + 1 + N = k + (N + 1) by omega]; exact he)
theorem lp_fu {σ ω : Type} {step : σ → Option (σ ⊕ ω)} {o : ω} {s : σ} (st : Nat → σ) (N : Nat) (hN : N < 5000) (h0 : s = st 0) (hs : ∀ i, i < N → step (st i) = some (.inl (st (i + 1)))) (he : step (st N) = some (.inr o)) : lp step FU s = some o := by
  rw [h0]
  exact lp_from st N 0 FU hN (fun i hi => by rw [Nat.zero_add]; exact hs i hi) (by rw [Nat.zero_add]; exact he)
theorem lp_fub {σ ω β : Type} {step : σ → Option (σ ⊕ ω)} {o : ω} {s : σ} {f : ω → Option β} {b : β} (st : Nat → σ) (N : Nat) (hN : N < 5000) (h0 : s = st 0) (hs : ∀ i, i < N → step (st i) = some (.inl (st (i + 1)))) (he : step (st N) = some (.inr o)) (hf : f o = some b) : (lp step FU s).bind f = some b := by
  rw [lp_fu st N hN h0 hs he]
  exact hf
/-- None is told by -4 -/
def oI : Option Nat → Int32
  | none => -4
  | some k => nI k
theorem oI_some (k : Nat) : oI (some k) = nI k := rfl
theorem oI_none : oI none = -4 := rfl
theorem i_lit (n : Nat) : (OfNat.ofNat n : Int32) = nI n := rfl
theorem i_0 : (0 : Int32) = nI 0 := rfl
theorem i_1 : (1 : Int32) = nI 1 := rfl
theorem i_lt {a b : Nat} (ha : a < 2147483648) (hb : b < 2147483648) : nI a < nI b ↔ a < b := nI_ltI ha hb
theorem i_le {a b : Nat} (ha : a < 2147483648) (hb : b < 2147483648) : nI a ≤ nI b ↔ a ≤ b := nI_leI ha hb
theorem i_eq {a b : Nat} (ha : a < 2147483648) (hb : b < 2147483648) : nI a = nI b ↔ a = b := nI_eq ha hb
theorem i_cl {a : Nat} (ha : a < 2147483648) : (nI a).toNatClampNeg = a := nI_clamp ha
theorem i_n4 {a : Nat} (ha : a < 2147483648) : nI a = -nI 4 ↔ False := by
  constructor
  · intro h
    have h1 := congrArg Int32.toInt h
    rw [nI_toInt ha, show (-nI 4 : Int32).toInt = -4 from by decide] at h1
    omega
  · exact False.elim
theorem i_n4' {a : Nat} (ha : a < 2147483648) : -nI 4 = nI a ↔ False := by rw [eq_comm]; exact i_n4 ha
theorem i_neg {a : Nat} (ha : a < 2147483648) : nI a < nI 0 ↔ False := by
  rw [i_lt ha (by decide)]; simp
theorem i_nn {a : Nat} (ha : a < 2147483648) : nI 0 ≤ nI a ↔ True := by
  rw [i_le (by decide) ha]; simp
theorem gdn {α : Type} {i N : Nat} {x : Option α} (h : i < N) : (if False ∨ N ≤ i then none else x) = x := by
  rw [if_neg]
  simp only [false_or]
  omega
theorem oI_n4 {o : Option Nat} (h : ∀ k, o = some k → k < 2147483648) : oI o = -nI 4 ↔ o = none := by
  cases o with
  | none => exact ⟨fun _ => rfl, fun _ => rfl⟩
  | some k => exact ⟨fun q => absurd q (fun q => (i_n4 (h k rfl)).mp q), fun q => by cases q⟩
theorem i_add (a b : Nat) : nI a + nI b = nI (a + b) := nI_add a b
theorem i_sub {a b : Nat} (h : b ≤ a) : nI a - nI b = nI (a - b) := pk_sub h
theorem i_mul (a b : Nat) : nI a * nI b = nI (a * b) := pk_mul a b
theorem i_div {a d : Nat} (ha : a < 2147483648) (h0 : 0 < d) (hd : d < 2147483648) : nI a / nI d = nI (a / d) := pk_div ha h0 hd
theorem i_rem {a d : Nat} (ha : a < 2147483648) (h0 : 0 < d) (hd : d < 2147483648) : jrem (nI a) (nI d) = nI (a % d) := pk_rem ha h0 hd
theorem ifc {α : Sort _} {c d : Prop} [Decidable c] [Decidable d] (h : c ↔ d) {x y : α} : (if c then x else y) = if d then x else y := by
  by_cases q : c
  · rw [if_pos q, if_pos (h.mp q)]
  · rw [if_neg q, if_neg (fun z => q (h.mpr z))]
theorem i_max {a b : Nat} (ha : a < 2147483648) (hb : b < 2147483648) : jmax (nI a) (nI b) = nI (max a b) := by
  unfold jmax
  rw [ifc (i_lt ha hb)]
  by_cases h : a < b
  · rw [if_pos h, Nat.max_eq_right (Nat.le_of_lt h)]
  · rw [if_neg h, Nat.max_eq_left (Nat.le_of_not_lt h)]
theorem i_min {a b : Nat} (ha : a < 2147483648) (hb : b < 2147483648) : jmin (nI a) (nI b) = nI (min a b) := by
  unfold jmin
  rw [ifc (i_lt hb ha)]
  by_cases h : b < a
  · rw [if_pos h, Nat.min_eq_right (Nat.le_of_lt h)]
  · rw [if_neg h, Nat.min_eq_left (Nat.le_of_not_lt h)]
theorem i_any (x : Int32) {n : Nat} (hn : n < 2147483648) : x < 0 ∨ nI n ≤ x ∨ ∃ j : Nat, j < n ∧ x = nI j := pk_ix x hn
/-! ===== the plate ===== -/
def ring (c : Nat) : Nat := max (if c / 11 < 5 then 5 - c / 11 else c / 11 - 5) (if c % 11 < 5 then 5 - c % 11 else c % 11 - 5)
def nb (c d : Nat) : Option Nat := match d with
  | 0 => if 11 ≤ c then some (c - 11) else none
  | 1 => if c % 11 < 10 then some (c + 1) else none
  | 2 => if c < 110 then some (c + 11) else none
  | _ => if 0 < c % 11 then some (c - 1) else none
def rimC (r : Nat) : Nat := if r ≤ 10 then r else if r ≤ 20 then 11 * (r - 10) + 10 else if r ≤ 30 then 140 - r else 11 * (40 - r)
def rimD (r : Nat) : Nat := if r ≤ 10 then 2 else if r ≤ 19 then 3 else if r ≤ 30 then 0 else 1
def rimN (c : Nat) : Option Nat := if c < 11 then some c else if c % 11 = 10 then some (10 + c / 11) else if 110 ≤ c then some (30 - c % 11) else if c % 11 = 0 then some (40 - c / 11) else none
theorem p_ring : ∀ c, c < 121 → fX2_ringOf (nI c) = some (nI (ring c)) := by decide +kernel
theorem p_nb : ∀ c, c < 121 → ∀ d, d < 4 → fX2_neighbour (nI c) (nI d) = some (oI (nb c d)) := by decide +kernel
theorem p_rimC : ∀ r, r < 40 → fX2_cellOfRim (nI r) = some (nI (rimC r)) := by decide +kernel
theorem p_rimD : ∀ r, r < 40 → fX2_directionInward (nI r) = some (nI (rimD r)) := by decide +kernel
theorem p_rimN : ∀ c, c < 121 → fX2_rimOf (nI c) = some (oI (rimN c)) := by decide +kernel
theorem nb_lt : ∀ c, c < 121 → ∀ d, d < 4 → ∀ k, nb c d = some k → k < 121 := by
  intro c hc d hd k hk
  have h : ∀ c, c < 121 → ∀ d, d < 4 → (match nb c d with | none => true | some k => decide (k < 121)) = true := by decide +kernel
  have h1 := h c hc d hd
  rw [hk] at h1
  simpa using h1
theorem rimC_lt : ∀ r, r < 40 → rimC r < 121 := by decide +kernel
theorem rimD_lt : ∀ r, r < 40 → rimD r < 4 := by decide +kernel
theorem ring_le : ∀ c, c < 121 → ring c < 6 := by decide +kernel
/-! ===== the grains of a plate: number, cells, holders (0: a root; k + 1: the grain k), steps, lot, settings, let go, lost, gone, walked ===== -/
abbrev GM : Type := Nat × (Nat → Nat) × (Nat → Nat) × (Nat → Int32) × Nat × (Nat → Nat) × Int32 × Int32 × Int32 × Int32
abbrev mN (M : GM) : Nat := M.1
abbrev mC (M : GM) : Nat → Nat := M.2.1
abbrev mH (M : GM) : Nat → Nat := M.2.2.1
abbrev mW (M : GM) : Nat → Int32 := M.2.2.2.1
abbrev mL (M : GM) : Nat := M.2.2.2.2.1
abbrev mS (M : GM) : Nat → Nat := M.2.2.2.2.2.1
abbrev mR (M : GM) : Int32 := M.2.2.2.2.2.2.1
abbrev mT (M : GM) : Int32 := M.2.2.2.2.2.2.2.1
abbrev mA (M : GM) : Int32 := M.2.2.2.2.2.2.2.2.1
abbrev mK (M : GM) : Int32 := M.2.2.2.2.2.2.2.2.2
/-- the grain at a cell, of the first n -/
def atF (C : Nat → Nat) : Nat → Nat → Option Nat
  | 0, _ => none
  | n + 1, c => if C n = c then some n else atF C n c
theorem atF_some {C : Nat → Nat} : ∀ {n c g : Nat}, atF C n c = some g → g < n ∧ C g = c
  | n + 1, c, g, h => by
    unfold atF at h
    by_cases hc : C n = c
    · rw [if_pos hc] at h; cases h; exact ⟨Nat.lt_succ_self _, hc⟩
    · rw [if_neg hc] at h
      have := atF_some h
      exact ⟨by omega, this.2⟩
theorem atF_none {C : Nat → Nat} : ∀ {n c : Nat}, atF C n c = none → ∀ g, g < n → C g ≠ c
  | n + 1, c, h, g, hg => by
    unfold atF at h
    by_cases hc : C n = c
    · rw [if_pos hc] at h; cases h
    · rw [if_neg hc] at h
      rcases Nat.lt_or_ge g n with q | q
      · exact atF_none h g q
      · rw [show g = n by omega]; exact hc
theorem atF_of {C : Nat → Nat} {n g : Nat} (hi : ∀ a b, a < n → b < n → C a = C b → a = b) (hg : g < n) : atF C n (C g) = some g := by
  cases h : atF C n (C g) with
  | none => exact absurd rfl (atF_none h g hg)
  | some k => rw [hi k g (atF_some h).1 hg (atF_some h).2]
abbrev at_ (M : GM) (c : Nat) : Option Nat := atF (mC M) (mN M) c
def WF (M : GM) : Prop := mN M ≤ 121 ∧ (∀ g, g < mN M → mC M g < 121) ∧ (∀ g, g < mN M → mH M g ≤ g) ∧ (∀ a b, a < mN M → b < mN M → mC M a = mC M b → a = b) ∧ mL M < 10000 ∧ (1 ≤ mS M 0 ∧ mS M 0 ≤ 4) ∧ (10 ≤ mS M 1 ∧ mS M 1 ≤ 200) ∧ mS M 2 ≤ 4 ∧ mS M 3 ≤ 3
/-- the holder as the class has it -/
def hI (h : Nat) : Int32 := if h = 0 then -4 else nI (h - 1)
def RepS (S : GX4) (M : GM) : Prop := pX4_grains S = nI (mN M) ∧ (∀ g, g < mN M → pX4_cells S g = nI (mC M g)) ∧ (∀ g, g < mN M → pX4_holders S g = hI (mH M g)) ∧ (∀ g, g < mN M → pX4_steps S g = mW M g) ∧ (∀ c, c < 121 → pX4_grainsByCell S c = oI (at_ M c)) ∧ pX4_lot S = nI (mL M) ∧ (∀ k, k < 4 → pX4_settings S k = nI (mS M k)) ∧ pX4_released S = mR M ∧ pX4_lost S = mT M ∧ pX4_gone S = mA M ∧ pX4_walked S = mK M
