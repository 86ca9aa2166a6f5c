/-! ===== the reference: looks ===== -/
theorem cnt_0 {p : Nat → Bool} : ∀ {n : Nat}, (∀ i, i < n → p i = false) → cnt p n = 0
  | 0, _ => rfl
  | n + 1, h => by
    unfold cnt
    rw [cnt_0 (fun i hi => h i (by omega)), h n (by omega)]
    rfl
theorem cnt_s (p : Nat → Bool) (n : Nat) : cnt p (n + 1) = cnt p n + (if p n then 1 else 0) := rfl
theorem mxF_s (f : Nat → Nat) (n : Nat) : mxF f (n + 1) = max (mxF f n) (f n) := rfl
theorem mxF_0 {f : Nat → Nat} : ∀ {n : Nat}, (∀ i, i < n → f i = 0) → mxF f n = 0
  | 0, _ => rfl
  | n + 1, h => by
    unfold mxF
    rw [mxF_0 (fun i hi => h i (by omega)), h n (by omega)]
    rfl
theorem lp_cnt {step : Int32 × Int32 → Option ((Int32 × Int32) ⊕ Int32)} (p : Nat → Bool) (a N : Nat) (hN : N < 5000) (ha : a ≤ N) (h0 : cnt p a = 0) (hs : ∀ k i, a ≤ i → i < N → k ≤ i → step (nI k, nI i) = some (.inl (nI (k + if p i then 1 else 0), nI (i + 1)))) (he : ∀ k, step (nI k, nI N) = some (.inr (nI k))) : lp step FU (nI 0, nI a) = some (nI (cnt p N)) := by
  refine lp_fu (fun i => (nI (cnt p (a + i)), nI (a + i))) (N - a) (by omega) ?_ (fun i hi => ?_) ?_
  · simp only [Nat.add_zero, h0]
  · rw [hs _ _ (by omega) (by omega) (cnt_le p _)]
    rfl
  · rw [show a + (N - a) = N by omega]
    exact he _
theorem lp_mx {step : Int32 × Int32 → Option ((Int32 × Int32) ⊕ Int32)} (f : Nat → Nat) (B a N : Nat) (hN : N < 5000) (ha : a ≤ N) (h0 : mxF f a = 0) (hB : ∀ i, i < N → f i ≤ B) (hs : ∀ k i, a ≤ i → i < N → k ≤ B → step (nI k, nI i) = some (.inl (nI (max k (f i)), nI (i + 1)))) (he : ∀ k, step (nI k, nI N) = some (.inr (nI k))) : lp step FU (nI 0, nI a) = some (nI (mxF f N)) := by
  refine lp_fu (fun i => (nI (mxF f (a + i)), nI (a + i))) (N - a) (by omega) ?_ (fun i hi => ?_) ?_
  · simp only [Nat.add_zero, h0]
  · rw [hs _ _ (by omega) (by omega) (mxF_le (fun j hj => hB j (by omega)))]
    rfl
  · rw [show a + (N - a) = N by omega]
    exact he _
theorem i_nle {a b : Nat} (h : b < a) (ha : a < 2147483648) : ¬ nI a ≤ nI b := fun z => by
  have := (i_le ha (by omega)).mp z
  omega
theorem i_nlt {a b : Nat} (h : b ≤ a) (ha : a < 2147483648) : ¬ nI a < nI b := fun z => by
  have := (i_lt ha (by omega)).mp z
  omega
theorem i_ple {a b : Nat} (h : a ≤ b) (hb : b < 2147483648) : nI a ≤ nI b := (i_le (by omega) hb).mpr h
theorem i_plt {a b : Nat} (h : a < b) (hb : b < 2147483648) : nI a < nI b := (i_lt (by omega) hb).mpr h
theorem hR_eq {h g : Nat} (hh : h < 2147483648) (hg : g < 2147483648) : hR h = nI g ↔ h = g + 1 := by
  by_cases q : h = 0
  · subst q
    constructor
    · intro e
      have h1 := congrArg Int32.toInt e
      rw [nI_toInt hg, show (hR 0).toInt = -1 from by decide] at h1
      omega
    · intro e; omega
  · rw [hR_s q, i_eq (by omega) hg]; omega
/-- the grains that a grain holds -/
def chl (M : GM) (g : Nat) : Nat := cnt (fun x => decide (mH M x = g + 1)) (mN M)
theorem i_p0 (k : Nat) : nI k + 0 = nI k := i_add k 0
theorem inT_lt {M : GM} (w : WF M) {t g : Nat} (hg : g < mN M) (h : g < t) : inT M t g = false := by
  rw [inT_eq w hg, if_pos (by omega)]
  exact decide_eq_false (by omega)
theorem inT_self {M : GM} (w : WF M) {t : Nat} (hg : t < mN M) : inT M t t = true := by
  rw [inT_eq w hg, if_pos (by omega)]
  exact decide_eq_true rfl
/-- the grains of the tree on a grain -/
def siz (M : GM) (t : Nat) : Nat := cnt (inT M t) (mN M)
theorem inT_ge {M : GM} (w : WF M) {t g : Nat} (hg : g < mN M) (h : inT M t g = true) : t ≤ g := by
  rcases Nat.lt_or_ge g t with q | q
  · rw [inT_lt w hg q] at h; cases h
  · exact q
theorem inT_dep {M : GM} (w : WF M) {t : Nat} : ∀ (m g : Nat), g ≤ m → g < mN M → inT M t g = true → dep M t ≤ dep M g := by
  intro m
  induction m with
  | zero =>
    intro g h1 h2 h3
    have := inT_ge w h2 h3
    rw [show t = g by omega]
    exact Nat.le_refl _
  | succ m ih =>
    intro g h1 h2 h3
    have hh := w.h h2
    rw [inT_eq w h2] at h3
    by_cases q : g ≤ t
    · rw [if_pos q] at h3
      rw [of_decide_eq_true h3]
      exact Nat.le_refl _
    · rw [if_neg q] at h3
      by_cases q2 : mH M g = 0
      · rw [if_pos q2] at h3; cases h3
      · rw [if_neg q2] at h3
        have := ih _ (by omega) (by omega) h3
        rw [dep_eq w h2, if_neg q2]
        omega
/-- the height of the tree on a grain -/
def hgt (M : GM) (t : Nat) : Nat := mxF (fun g => if inT M t g then dep M g - dep M t else 0) (mN M)
theorem i_mx {k f : Nat} (hk : k < 2147483648) (hf : f < 2147483648) {α : Type} {x : Int32 → α} : (if nI f ≤ nI k then x (nI k) else x (nI f)) = x (nI (max k f)) := by
  rw [ifc (i_le hf hk)]
  by_cases q : f ≤ k
  · rw [if_pos q, Nat.max_eq_left q]
  · rw [if_neg q, Nat.max_eq_right (by omega)]
/-! ===== screens ===== -/
def scrF (M : GM) (d : Nat) : Nat → Option Nat → Option Nat
  | 0, _ => none
  | _ + 1, none => none
  | f + 1, some c => match at_ M c with
    | some g => some g
    | none => scrF M d f (nb c d)
/-- the first grain met from a rim cell -/
def scr (M : GM) (r : Nat) : Option Nat := scrF M (rimD r) 11 (some (rimC r))
def nbI (d : Nat) : Nat → Option Nat → Option Nat
  | 0, o => o
  | f + 1, o => nbI d f (o.bind (fun c => nb c d))
theorem nbI_rim : ∀ r, r < 40 → nbI (rimD r) 11 (some (rimC r)) = none := by decide +kernel
theorem nbI_none (d : Nat) : ∀ f, nbI d f none = none
  | 0 => rfl
  | f + 1 => nbI_none d f
theorem scrF_lt {M : GM} {d : Nat} : ∀ {f : Nat} {o : Option Nat} {g : Nat}, scrF M d f o = some g → g < mN M
  | 0, _, _, h => by cases h
  | f + 1, none, _, h => by cases h
  | f + 1, some c, g, h => by
    unfold scrF at h
    cases e : at_ M c with
    | some k => rw [e] at h; cases h; exact at_lt e
    | none => rw [e] at h; exact scrF_lt h
theorem scr_lt {M : GM} {r g : Nat} (h : scr M r = some g) : g < mN M := scrF_lt h
theorem oI_eq {o : Option Nat} {g : Nat} (h : ∀ k, o = some k → k < 2147483648) (hg : g < 2147483648) : oI o = nI g ↔ o = some g := by
  cases o with
  | none => exact ⟨fun e => absurd e.symm (fun q => (i_n4 hg).mp q), fun e => by cases e⟩
  | some k => rw [oI_some, i_eq (h k rfl) hg]; exact ⟨fun e => by rw [e], fun e => by cases e; rfl⟩
/-- how many rim cells a grain screens -/
def cth (M : GM) (g : Nat) : Nat := cnt (fun r => decide (scr M r = some g)) 40
def opn (M : GM) : Nat := cnt (fun r => (scr M r).isNone) 40
def bstF (f : Nat → Nat) : Nat → Nat
  | 0 => 0
  | i + 1 => if f (i + 1) ≤ f (bstF f i) then bstF f i else i + 1
theorem bstF_le (f : Nat → Nat) : ∀ i, bstF f i ≤ i
  | 0 => Nat.le_refl _
  | i + 1 => by
    have := bstF_le f i
    unfold bstF
    split <;> omega
/-- the lowest grain with the greatest catch -/
def bst (M : GM) : Nat := bstF (cth M) (mN M - 1)
theorem cth_le (M : GM) (g : Nat) : cth M g ≤ 40 := cnt_le _ _
/-! ===== more counts ===== -/
def dpt (M : GM) : Nat := mxF (dep M) (mN M)
/-- grains of a kind -/
def kndB (M : GM) (k g : Nat) : Bool := if k = 1 then decide (mH M g = 0) else if k = 2 then decide (chl M g = 0) else decide (1 < chl M g)
def knd (M : GM) (k : Nat) : Nat := cnt (kndB M k) (mN M)
theorem chl_le (M : GM) (g : Nat) : chl M g ≤ mN M := cnt_le _ _
/-- the grains of a ring -/
def rng (M : GM) (k : Nat) : Nat := cnt (fun g => decide (ring (mC M g) = k)) (mN M)
/-! ===== apart ===== -/
theorem dst_comm {H : Nat → Nat} : ∀ (f a b : Nat), dstF H f a b = dstF H f b a
  | 0, _, _ => rfl
  | f + 1, a, b => by
    rw [dstF, dstF]
    by_cases q : a = b
    · rw [if_pos q, if_pos q.symm]
    · rw [if_neg q, if_neg (show ¬ b = a from fun z => q z.symm), Nat.max_comm a b, Nat.min_comm a b]
