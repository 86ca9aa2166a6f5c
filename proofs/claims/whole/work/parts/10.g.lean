/-! ===== the reference: looks ===== -/
theorem cnt_0 {p : Nat → Bool} : ∀ {n : Nat}, (∀ i, i < n → p i = false) → cnt p n = 0
  | 0, _ => rfl
  | n + 1, h => by
    unfold cnt
    rw [cnt_0 (fun i hi => h i (by omega)), h n (by omega)]
    rfl
theorem cnt_s (p : Nat → Bool) (n : Nat) : cnt p (n + 1) = cnt p n + (if p n then 1 else 0) := rfl
theorem mxF_s (f : Nat → Nat) (n : Nat) : mxF f (n + 1) = max (mxF f n) (f n) := rfl
theorem mxF_0 {f : Nat → Nat} : ∀ {n : Nat}, (∀ i, i < n → f i = 0) → mxF f n = 0
  | 0, _ => rfl
  | n + 1, h => by
    unfold mxF
    rw [mxF_0 (fun i hi => h i (by omega)), h n (by omega)]
    rfl
theorem lp_cnt {step : Int32 × Int32 → Option ((Int32 × Int32) ⊕ Int32)} (p : Nat → Bool) (a N : Nat) (hN : N < 5000) (ha : a ≤ N) (h0 : cnt p a = 0) (hs : ∀ k i, a ≤ i → i < N → k ≤ i → step (nI k, nI i) = some (.inl (nI (k + if p i then 1 else 0), nI (i + 1)))) (he : ∀ k, step (nI k, nI N) = some (.inr (nI k))) : lp step FU (nI 0, nI a) = some (nI (cnt p N)) := by
  refine lp_fu (fun i => (nI (cnt p (a + i)), nI (a + i))) (N - a) (by omega) ?_ (fun i hi => ?_) ?_
  · simp only [Nat.add_zero, h0]
  · rw [hs _ _ (by omega) (by omega) (cnt_le p _)]
    rfl
  · rw [show a + (N - a) = N by omega]
    exact he _
theorem lp_mx {step : Int32 × Int32 → Option ((Int32 × Int32) ⊕ Int32)} (f : Nat → Nat) (B a N : Nat) (hN : N < 5000) (ha : a ≤ N) (h0 : mxF f a = 0) (hB : ∀ i, i < N → f i ≤ B) (hs : ∀ k i, a ≤ i → i < N → k ≤ B → step (nI k, nI i) = some (.inl (nI (max k (f i)), nI (i + 1)))) (he : ∀ k, step (nI k, nI N) = some (.inr (nI k))) : lp step FU (nI 0, nI a) = some (nI (mxF f N)) := by
  refine lp_fu (fun i => (nI (mxF f (a + i)), nI (a + i))) (N - a) (by omega) ?_ (fun i hi => ?_) ?_
  · simp only [Nat.add_zero, h0]
  · rw [hs _ _ (by omega) (by omega) (mxF_le (fun j hj => hB j (by omega)))]
    rfl
  · rw [show a + (N - a) = N by omega]
    exact he _
theorem i_nle {a b : Nat} (h : b < a) (ha : a < 2147483648) : ¬ nI a ≤ nI b := fun z => by
  have := (i_le ha (by omega)).mp z
  omega
theorem i_nlt {a b : Nat} (h : b ≤ a) (ha : a < 2147483648) : ¬ nI a < nI b := fun z => by
  have := (i_lt ha (by omega)).mp z
  omega
theorem i_ple {a b : Nat} (h : a ≤ b) (hb : b < 2147483648) : nI a ≤ nI b := (i_le (by omega) hb).mpr h
theorem i_plt {a b : Nat} (h : a < b) (hb : b < 2147483648) : nI a < nI b := (i_lt (by omega) hb).mpr h
theorem hR_eq {h g : Nat} (hh : h < 2147483648) (hg : g < 2147483648) : hR h = nI g ↔ h = g + 1 := by
  by_cases q : h = 0
  · subst q
    constructor
    · intro e
      have h1 := congrArg Int32.toInt e
      rw [nI_toInt hg, show (hR 0).toInt = -1 from by decide] at h1
      omega
    · intro e; omega
  · rw [hR_s q, i_eq (by omega) hg]; omega
/-- the grains that a grain holds -/
def chl (M : GM) (g : Nat) : Nat := cnt (fun x => decide (mH M x = g + 1)) (mN M)
theorem r_children {G : GX8} {M : GM} (w : WF M) (h : RepR (pX8_s G) M) {g : Nat} (hg : g < mN M) : fX8_children (nI g) G = some (nI (chl M g)) := by
  have h1 := w.n1
  unfold fX8_children
  rw [i_inc, i_0, lp_cnt (fun x => decide (mH M x = g + 1)) (g + 1) (mN M) (by omega) (by omega) (cnt_0 (fun i hi => by
    have := w.h (show i < mN M by omega)
    exact decide_eq_false (by omega)))]
  · rfl
  · intro k i _ hi _
    have := w.h hi
    unfold tX8_children_6
    rw [r_n h]
    simp (disch := omega) only [i_lit, i_add, i_mul, i_sub, i_lt, i_le, i_eq, i_cl, i_max, i_min, i_rem, i_div, i_neg, i_nn, i_n4, i_n4', Option.bind_some, Option.some.injEq, Sum.inl.injEq, Sum.inr.injEq, Prod.mk.injEq, gdn, if_pos, if_neg, Nat.add_zero, Nat.zero_add, and_true, true_and, and_self, ite_true, ite_false, if_true, if_false, reduceIte]
    rw [r_holder w h hi]
    simp only [Option.bind_some]
    rw [ifc (hR_eq (by omega) (by omega))]
    unfold jX8_children_1
    by_cases q : mH M i = g + 1
    · rw [if_pos q, decide_eq_true q]
      show some (Sum.inl (nI k + 1, nI i + 1)) = _
      rw [i_inc, i_inc]; rfl
    · rw [if_neg q, decide_eq_false q]
      show some (Sum.inl (nI k + 0, nI i + 1)) = _
      rw [i_inc, i_0, i_add]; rfl
  · intro k
    unfold tX8_children_6
    rw [r_n h]
    simp (disch := omega) only [i_lit, i_add, i_mul, i_sub, i_lt, i_le, i_eq, i_cl, i_max, i_min, i_rem, i_div, i_neg, i_nn, i_n4, i_n4', Option.bind_some, Option.some.injEq, Sum.inl.injEq, Sum.inr.injEq, Prod.mk.injEq, gdn, if_pos, if_neg, Nat.add_zero, Nat.zero_add, and_true, true_and, and_self, ite_true, ite_false, if_true, if_false, reduceIte]
theorem i_p0 (k : Nat) : nI k + 0 = nI k := i_add k 0
theorem inT_lt {M : GM} (w : WF M) {t g : Nat} (hg : g < mN M) (h : g < t) : inT M t g = false := by
  rw [inT_eq w hg, if_pos (by omega)]
  exact decide_eq_false (by omega)
theorem inT_self {M : GM} (w : WF M) {t : Nat} (hg : t < mN M) : inT M t t = true := by
  rw [inT_eq w hg, if_pos (by omega)]
  exact decide_eq_true rfl
/-- the grains of the tree on a grain -/
def siz (M : GM) (t : Nat) : Nat := cnt (inT M t) (mN M)
theorem r_tree {G : GX8} {M : GM} (w : WF M) (h : RepR (pX8_s G) M) {t : Nat} (ht : t < mN M) : fX8_treeOf (nI t) G = some (nI (siz M t)) := by
  have h1 := w.n1
  unfold fX8_treeOf
  rw [i_0, lp_cnt (inT M t) t (mN M) (by omega) (by omega) (cnt_0 (fun i hi => inT_lt w (by omega) hi))]
  · rfl
  · intro k i _ hi _
    unfold tX8_treeOf_4
    rw [r_n h]
    dsimp only
    rw [if_neg (i_nle hi (by omega)), r_isIn w h ht hi]
    simp only [Option.bind_some]
    unfold jX8_treeOf_1
    by_cases q : inT M t i = true
    · rw [if_pos q, if_neg (show ¬ (1 : Int32) = 0 by decide), if_pos q]
      show some (Sum.inl (nI k + 1, nI i + 1)) = _
      rw [i_inc, i_inc]
    · rw [if_neg q, if_pos rfl, if_neg q]
      show some (Sum.inl (nI k + 0, nI i + 1)) = _
      rw [i_inc, i_p0]; rfl
  · intro k
    unfold tX8_treeOf_4
    rw [r_n h]
    simp (disch := omega) only [i_lit, i_add, i_mul, i_sub, i_lt, i_le, i_eq, i_cl, i_max, i_min, i_rem, i_div, i_neg, i_nn, i_n4, i_n4', Option.bind_some, Option.some.injEq, Sum.inl.injEq, Sum.inr.injEq, Prod.mk.injEq, gdn, if_pos, if_neg, Nat.add_zero, Nat.zero_add, and_true, true_and, and_self, ite_true, ite_false, if_true, if_false, reduceIte]
theorem inT_ge {M : GM} (w : WF M) {t g : Nat} (hg : g < mN M) (h : inT M t g = true) : t ≤ g := by
  rcases Nat.lt_or_ge g t with q | q
  · rw [inT_lt w hg q] at h; cases h
  · exact q
theorem inT_dep {M : GM} (w : WF M) {t : Nat} : ∀ (m g : Nat), g ≤ m → g < mN M → inT M t g = true → dep M t ≤ dep M g := by
  intro m
  induction m with
  | zero =>
    intro g h1 h2 h3
    have := inT_ge w h2 h3
    rw [show t = g by omega]
    exact Nat.le_refl _
  | succ m ih =>
    intro g h1 h2 h3
    have hh := w.h h2
    rw [inT_eq w h2] at h3
    by_cases q : g ≤ t
    · rw [if_pos q] at h3
      rw [of_decide_eq_true h3]
      exact Nat.le_refl _
    · rw [if_neg q] at h3
      by_cases q2 : mH M g = 0
      · rw [if_pos q2] at h3; cases h3
      · rw [if_neg q2] at h3
        have := ih _ (by omega) (by omega) h3
        rw [dep_eq w h2, if_neg q2]
        omega
/-- the height of the tree on a grain -/
def hgt (M : GM) (t : Nat) : Nat := mxF (fun g => if inT M t g then dep M g - dep M t else 0) (mN M)
theorem i_mx {k f : Nat} (hk : k < 2147483648) (hf : f < 2147483648) {α : Type} {x : Int32 → α} : (if nI f ≤ nI k then x (nI k) else x (nI f)) = x (nI (max k f)) := by
  rw [ifc (i_le hf hk)]
  by_cases q : f ≤ k
  · rw [if_pos q, Nat.max_eq_left q]
  · rw [if_neg q, Nat.max_eq_right (by omega)]
theorem r_high {G : GX8} {M : GM} (w : WF M) (h : RepR (pX8_s G) M) {t : Nat} (ht : t < mN M) : fX8_highOf (nI t) G = some (nI (hgt M t)) := by
  have h1 := w.n1
  have hB : ∀ i, i < mN M → (if inT M t i then dep M i - dep M t else 0) ≤ 121 := fun i hi => by
    have := w.dep hi
    split <;> omega
  unfold fX8_highOf
  rw [i_0, lp_mx (fun g => if inT M t g then dep M g - dep M t else 0) 121 t (mN M) (by omega) (by omega) (mxF_0 (fun i hi => by
    show (if inT M t i then dep M i - dep M t else 0) = 0
    rw [inT_lt w (by omega) hi]; rfl)) hB]
  · rfl
  · intro k i _ hi hk
    have hb := hB i hi
    have key : ∀ f, f ≤ 121 → jX8_highOf_1 (nI k, nI i) (nI f) = some (.inl (nI (max k f), nI (i + 1))) := fun f hf => by
      unfold jX8_highOf_1 jX8_highOf_2
      show (if nI f ≤ nI k then some (Sum.inl (nI k, nI i + 1)) else some (Sum.inl (nI f, nI i + 1))) = _
      rw [i_inc, i_mx (x := fun y => some (Sum.inl (y, nI (i + 1)))) (by omega) (by omega)]
    unfold tX8_highOf_4
    rw [r_n h]
    dsimp only
    rw [if_neg (i_nle hi (by omega)), r_isIn w h ht hi]
    simp only [Option.bind_some]
    by_cases q : inT M t i = true
    · have hd := inT_dep w i i (Nat.le_refl _) hi q
      rw [if_pos q, if_neg (show ¬ (1 : Int32) = 0 by decide), if_pos q, r_depth w h hi, r_depth w h ht]
      simp only [Option.bind_some]
      rw [i_sub hd]
      rw [if_pos q] at hb
      exact key _ hb
    · rw [if_neg q, if_pos rfl, if_neg q]
      exact key 0 (by omega)
  · intro k
    unfold tX8_highOf_4
    rw [r_n h]
    simp (disch := omega) only [i_lit, i_add, i_mul, i_sub, i_lt, i_le, i_eq, i_cl, i_max, i_min, i_rem, i_div, i_neg, i_nn, i_n4, i_n4', Option.bind_some, Option.some.injEq, Sum.inl.injEq, Sum.inr.injEq, Prod.mk.injEq, gdn, if_pos, if_neg, Nat.add_zero, Nat.zero_add, and_true, true_and, and_self, ite_true, ite_false, if_true, if_false, reduceIte]
/-! ===== screens ===== -/
def scrF (M : GM) (d : Nat) : Nat → Option Nat → Option Nat
  | 0, _ => none
  | _ + 1, none => none
  | f + 1, some c => match at_ M c with
    | some g => some g
    | none => scrF M d f (nb c d)
/-- the first grain met from a rim cell -/
def scr (M : GM) (r : Nat) : Option Nat := scrF M (rimD r) 11 (some (rimC r))
def nbI (d : Nat) : Nat → Option Nat → Option Nat
  | 0, o => o
  | f + 1, o => nbI d f (o.bind (fun c => nb c d))
theorem nbI_rim : ∀ r, r < 40 → nbI (rimD r) 11 (some (rimC r)) = none := by decide +kernel
theorem nbI_none (d : Nat) : ∀ f, nbI d f none = none
  | 0 => rfl
  | f + 1 => nbI_none d f
theorem scrF_lt {M : GM} {d : Nat} : ∀ {f : Nat} {o : Option Nat} {g : Nat}, scrF M d f o = some g → g < mN M
  | 0, _, _, h => by cases h
  | f + 1, none, _, h => by cases h
  | f + 1, some c, g, h => by
    unfold scrF at h
    cases e : at_ M c with
    | some k => rw [e] at h; cases h; exact at_lt e
    | none => rw [e] at h; exact scrF_lt h
theorem scr_lt {M : GM} {r g : Nat} (h : scr M r = some g) : g < mN M := scrF_lt h
theorem r_look : ∀ r, r < 40 → fX8_lookingFrom (nI r) = some (nI (rimD r)) := r_rimD
theorem r_screen_go {G : GX8} {M : GM} (w : WF M) (h : RepR (pX8_s G) M) {r : Nat} (hr : r < 40) : ∀ (f fu : Nat) (o : Option Nat), (∀ c, o = some c → c < 121) → nbI (rimD r) f o = none → f < fu → ∃ o', lp (tX8_screening_5 (nI r) G) fu (oI o) = some (oI o') ∧ (∀ c, o' = some c → c < 121) ∧ scrF M (rimD r) f o = o'.bind (at_ M) := by
  have h1 := w.n1
  intro f
  induction f with
  | zero =>
    intro fu o ho hn hf
    obtain ⟨fu, rfl⟩ : ∃ q, fu = q + 1 := ⟨fu - 1, by omega⟩
    obtain rfl : o = none := hn
    refine ⟨none, lp_r fu ?_, (fun c hc => by cases hc), rfl⟩
    unfold tX8_screening_5
    rw [if_pos (by decide)]
  | succ f ih =>
    intro fu o ho hn hf
    obtain ⟨fu, rfl⟩ : ∃ q, fu = q + 1 := ⟨fu - 1, by omega⟩
    cases o with
    | none =>
      refine ⟨none, lp_r fu ?_, (fun c hc => by cases hc), rfl⟩
      unfold tX8_screening_5
      rw [if_pos (by decide)]
    | some c =>
      have hc := ho c rfl
      cases ha : at_ M c with
      | some g =>
        have := at_lt ha
        refine ⟨some c, lp_r fu ?_, (fun k hk => by cases hk; exact hc), ?_⟩
        · unfold tX8_screening_5
          rw [if_neg (show ¬ oI (some c) < 0 by rw [oI_neg (fun j e => by cases e; omega)]; exact fun e => by cases e), oI_some, r_grainAt w h c hc, ha]
          simp only [Option.bind_some]
          rw [if_pos (show 0 ≤ oI (some g) by rw [oI_nn (fun j e => by cases e; omega)]; exact fun e => by cases e)]
        · rw [scrF, ha]; exact ha.symm
      | none =>
        have e : tX8_screening_5 (nI r) G (oI (some c)) = some (.inl (oI (nb c (rimD r)))) := by
          unfold tX8_screening_5
          rw [if_neg (show ¬ oI (some c) < 0 by rw [oI_neg (fun j e => by cases e; omega)]; exact fun e => by cases e), oI_some, r_grainAt w h c hc, ha]
          simp only [Option.bind_some]
          rw [if_neg (show ¬ 0 ≤ oI none by decide), r_look r hr]
          simp only [Option.bind_some]
          rw [r_nb c hc _ (rimD_lt r hr)]
          rfl
        obtain ⟨o', e1, e2, e3⟩ := ih fu (nb c (rimD r)) (nb_lt c hc _ (rimD_lt r hr)) hn (by omega)
        refine ⟨o', by rw [lp_l fu e]; exact e1, e2, ?_⟩
        rw [scrF, ha]
        exact e3
theorem r_screening {G : GX8} {M : GM} (w : WF M) (h : RepR (pX8_s G) M) {r : Nat} (hr : r < 40) : fX8_screening (nI r) G = some (oI (scr M r)) := by
  have h1 := w.n1
  unfold fX8_screening
  rw [r_rimC r hr]
  simp only [Option.bind_some]
  obtain ⟨o', e1, e2, e3⟩ := r_screen_go w h hr 11 FU (some (rimC r)) (fun c e => by cases e; exact rimC_lt r hr) (nbI_rim r hr) (by rw [FU_eq]; omega)
  rw [show nI (rimC r) = oI (some (rimC r)) from rfl, e1]
  simp only [Option.bind_some]
  unfold scr
  rw [e3]
  cases o' with
  | none => rw [if_neg (show ¬ 0 ≤ oI none by decide)]; rfl
  | some c =>
    have hc := e2 c rfl
    rw [if_pos (show 0 ≤ oI (some c) by rw [oI_nn (fun j e => by cases e; omega)]; exact fun e => by cases e), oI_some, r_grainAt w h c hc]
    rfl
theorem oI_eq {o : Option Nat} {g : Nat} (h : ∀ k, o = some k → k < 2147483648) (hg : g < 2147483648) : oI o = nI g ↔ o = some g := by
  cases o with
  | none => exact ⟨fun e => absurd e.symm (fun q => (i_n4 hg).mp q), fun e => by cases e⟩
  | some k => rw [oI_some, i_eq (h k rfl) hg]; exact ⟨fun e => by rw [e], fun e => by cases e; rfl⟩
/-- how many rim cells a grain screens -/
def cth (M : GM) (g : Nat) : Nat := cnt (fun r => decide (scr M r = some g)) 40
def opn (M : GM) : Nat := cnt (fun r => (scr M r).isNone) 40
theorem r_catch {G : GX8} {M : GM} (w : WF M) (h : RepR (pX8_s G) M) {g : Nat} (hg : g < mN M) : fX8_catchOf (nI g) G = some (nI (cth M g)) := by
  have h1 := w.n1
  unfold fX8_catchOf
  rw [i_0, lp_cnt (fun r => decide (scr M r = some g)) 0 40 (by omega) (by omega) rfl]
  · rfl
  · intro k i _ hi _
    unfold tX8_catchOf_4
    dsimp only
    rw [if_neg (show ¬ (40 : Int32) ≤ nI i from i_nle (a := 40) hi (by omega)), r_screening w h hi]
    simp only [Option.bind_some]
    rw [ifc (oI_eq (fun k e => by have := scr_lt e; omega) (by omega))]
    unfold jX8_catchOf_1
    by_cases q : scr M i = some g
    · rw [if_pos q, decide_eq_true q]
      show some (Sum.inl (nI k + 1, nI i + 1)) = _
      rw [i_inc, i_inc]; rfl
    · rw [if_neg q, decide_eq_false q]
      show some (Sum.inl (nI k + 0, nI i + 1)) = _
      rw [i_inc, i_p0]; rfl
  · intro k
    unfold tX8_catchOf_4
    simp (disch := omega) only [i_lit, i_add, i_mul, i_sub, i_lt, i_le, i_eq, i_cl, i_max, i_min, i_rem, i_div, i_neg, i_nn, i_n4, i_n4', Option.bind_some, Option.some.injEq, Sum.inl.injEq, Sum.inr.injEq, Prod.mk.injEq, gdn, if_pos, if_neg, Nat.add_zero, Nat.zero_add, and_true, true_and, and_self, ite_true, ite_false, if_true, if_false, reduceIte]
theorem r_unscreened {G : GX8} {M : GM} (w : WF M) (h : RepR (pX8_s G) M) : fX8_unscreened G = some (nI (opn M)) := by
  have h1 := w.n1
  unfold fX8_unscreened
  rw [i_0, lp_cnt (fun r => (scr M r).isNone) 0 40 (by omega) (by omega) rfl]
  · rfl
  · intro k i _ hi _
    unfold tX8_unscreened_4
    dsimp only
    rw [if_neg (show ¬ (40 : Int32) ≤ nI i from i_nle (a := 40) hi (by omega)), r_screening w h hi]
    simp only [Option.bind_some]
    unfold jX8_unscreened_1
    cases e : scr M i with
    | none =>
      rw [if_neg (show ¬ 0 ≤ oI none by decide)]
      show some (Sum.inl (nI k + 1, nI i + 1)) = _
      rw [i_inc, i_inc]; rfl
    | some g =>
      have := scr_lt e
      rw [if_pos (show 0 ≤ oI (some g) from (oI_nn (fun j e => by cases e; omega)).mpr (fun e => by cases e))]
      show some (Sum.inl (nI k + 0, nI i + 1)) = _
      rw [i_inc, i_p0]; rfl
  · intro k
    unfold tX8_unscreened_4
    simp (disch := omega) only [i_lit, i_add, i_mul, i_sub, i_lt, i_le, i_eq, i_cl, i_max, i_min, i_rem, i_div, i_neg, i_nn, i_n4, i_n4', Option.bind_some, Option.some.injEq, Sum.inl.injEq, Sum.inr.injEq, Prod.mk.injEq, gdn, if_pos, if_neg, Nat.add_zero, Nat.zero_add, and_true, true_and, and_self, ite_true, ite_false, if_true, if_false, reduceIte]
def bstF (f : Nat → Nat) : Nat → Nat
  | 0 => 0
  | i + 1 => if f (i + 1) ≤ f (bstF f i) then bstF f i else i + 1
theorem bstF_le (f : Nat → Nat) : ∀ i, bstF f i ≤ i
  | 0 => Nat.le_refl _
  | i + 1 => by
    have := bstF_le f i
    unfold bstF
    split <;> omega
/-- the lowest grain with the greatest catch -/
def bst (M : GM) : Nat := bstF (cth M) (mN M - 1)
theorem cth_le (M : GM) (g : Nat) : cth M g ≤ 40 := cnt_le _ _
theorem r_best {G : GX8} {M : GM} (w : WF M) (h : RepR (pX8_s G) M) (h0 : 0 < mN M) : fX8_bestCatch G = some (nI (bst M)) := by
  have h1 := w.n1
  unfold fX8_bestCatch
  refine lp_fub (o := nI (bst M)) (fun i => (nI (bstF (cth M) i), nI (i + 1))) (mN M - 1) (by omega) rfl (fun i hi => ?_) ?_ rfl
  · have hb := bstF_le (cth M) i
    have c1 := cth_le M (i + 1)
    have c2 := cth_le M (bstF (cth M) i)
    unfold tX8_bestCatch_4
    rw [r_n h]
    dsimp only
    rw [if_neg (i_nle (show i + 1 < mN M by omega) (by omega)), r_catch w h (show i + 1 < mN M by omega), r_catch w h (show bstF (cth M) i < mN M by omega)]
    simp only [Option.bind_some]
    rw [ifc (i_le (by omega) (by omega))]
    unfold jX8_bestCatch_1
    rw [bstF]
    by_cases q : cth M (i + 1) ≤ cth M (bstF (cth M) i)
    · rw [if_pos q, if_pos q]
      show some (Sum.inl (_, nI (i + 1) + 1)) = _
      rw [i_inc]
    · rw [if_neg q, if_neg q]
      show some (Sum.inl (_, nI (i + 1) + 1)) = _
      rw [i_inc]
  · unfold tX8_bestCatch_4
    rw [r_n h]
    simp (disch := omega) only [i_lit, i_add, i_mul, i_sub, i_lt, i_le, i_eq, i_cl, i_max, i_min, i_rem, i_div, i_neg, i_nn, i_n4, i_n4', Option.bind_some, Option.some.injEq, Sum.inl.injEq, Sum.inr.injEq, Prod.mk.injEq, gdn, if_pos, if_neg, Nat.add_zero, Nat.zero_add, and_true, true_and, and_self, ite_true, ite_false, if_true, if_false, reduceIte]
    rfl
/-! ===== more counts ===== -/
def dpt (M : GM) : Nat := mxF (dep M) (mN M)
theorem r_deepest {G : GX8} {M : GM} (w : WF M) (h : RepR (pX8_s G) M) : fX8_deepest G = some (nI (dpt M)) := by
  have h1 := w.n1
  unfold fX8_deepest
  rw [i_0, lp_mx (dep M) 121 0 (mN M) (by omega) (by omega) rfl (fun i hi => by have := w.dep hi; omega)]
  · rfl
  · intro k i _ hi hk
    have hd := w.dep hi
    unfold tX8_deepest_4 jX8_deepest_1
    rw [r_n h]
    simp (disch := omega) only [i_lit, i_add, i_mul, i_sub, i_lt, i_le, i_eq, i_cl, i_max, i_min, i_rem, i_div, i_neg, i_nn, i_n4, i_n4', Option.bind_some, Option.some.injEq, Sum.inl.injEq, Sum.inr.injEq, Prod.mk.injEq, gdn, if_pos, if_neg, Nat.add_zero, Nat.zero_add, and_true, true_and, and_self, ite_true, ite_false, if_true, if_false, reduceIte]
    rw [r_depth w h hi]
    simp only [Option.bind_some]
    rw [i_mx (x := fun y => some (Sum.inl (y, nI (i + 1)))) (by omega) (by omega)]
  · intro k
    unfold tX8_deepest_4
    rw [r_n h]
    simp (disch := omega) only [i_lit, i_add, i_mul, i_sub, i_lt, i_le, i_eq, i_cl, i_max, i_min, i_rem, i_div, i_neg, i_nn, i_n4, i_n4', Option.bind_some, Option.some.injEq, Sum.inl.injEq, Sum.inr.injEq, Prod.mk.injEq, gdn, if_pos, if_neg, Nat.add_zero, Nat.zero_add, and_true, true_and, and_self, ite_true, ite_false, if_true, if_false, reduceIte]
/-- grains of a kind -/
def kndB (M : GM) (k g : Nat) : Bool := if k = 1 then decide (mH M g = 0) else if k = 2 then decide (chl M g = 0) else decide (1 < chl M g)
def knd (M : GM) (k : Nat) : Nat := cnt (kndB M k) (mN M)
theorem chl_le (M : GM) (g : Nat) : chl M g ≤ mN M := cnt_le _ _
theorem r_kind {G : GX8} {M : GM} (w : WF M) (h : RepR (pX8_s G) M) {kd : Nat} (hk1 : kd < 4) : fX8_ofKind (nI kd) G = some (nI (knd M kd)) := by
  have h1 := w.n1
  unfold fX8_ofKind
  rw [i_0, lp_cnt (kndB M kd) 0 (mN M) (by omega) (by omega) rfl]
  · rfl
  · intro k i _ hi _
    have hh := w.h hi
    have hc := chl_le M i
    have j1 : ∀ b : Bool, jX8_ofKind_1 (nI k, nI i) (if b then 1 else 0) = some (.inl (nI (k + if b then 1 else 0), nI (i + 1))) := fun b => by
      unfold jX8_ofKind_1 jX8_ofKind_2
      cases b
      · rw [if_pos (by rfl)]
        show some (Sum.inl (nI k + 0, nI i + 1)) = _
        rw [i_inc, i_p0]; rfl
      · rw [if_neg (by decide)]
        show some (Sum.inl (nI k + 1, nI i + 1)) = _
        rw [i_inc, i_inc]; rfl
    have j2 := j1 (kndB M kd i)
    unfold tX8_ofKind_4
    rw [r_n h]
    dsimp only
    rw [if_neg (i_nle hi (by omega)), r_holder w h hi, r_children w h hi]
    simp only [Option.bind_some]
    rw [← j2]
    unfold kndB
    by_cases q1 : kd = 1
    · rw [ifc (show nI kd = 1 ↔ kd = 1 from i_eq (b := 1) (by omega) (by omega)), if_pos q1, if_pos q1, ifc (hR_nn (by omega))]
      by_cases q : mH M i = 0
      · rw [if_neg (fun z => z q), decide_eq_true q]; rfl
      · rw [if_pos q, decide_eq_false q]; rfl
    · rw [ifc (show nI kd = 1 ↔ kd = 1 from i_eq (b := 1) (by omega) (by omega)), if_neg q1, if_neg q1, ifc (show nI kd = 2 ↔ kd = 2 from i_eq (b := 2) (by omega) (by omega))]
      by_cases q2 : kd = 2
      · rw [if_pos q2, if_pos q2, ifc (show nI (chl M i) = 0 ↔ chl M i = 0 from i_eq (b := 0) (by omega) (by omega))]
        by_cases q : chl M i = 0
        · rw [if_pos q, decide_eq_true q]; rfl
        · rw [if_neg q, decide_eq_false q]; rfl
      · rw [if_neg q2, if_neg q2, ifc (show nI (chl M i) ≤ 1 ↔ chl M i ≤ 1 from i_le (b := 1) (by omega) (by omega))]
        by_cases q : chl M i ≤ 1
        · rw [if_pos q, decide_eq_false (by omega)]; rfl
        · rw [if_neg q, decide_eq_true (by omega)]; rfl
  · intro k
    unfold tX8_ofKind_4
    rw [r_n h]
    simp (disch := omega) only [i_lit, i_add, i_mul, i_sub, i_lt, i_le, i_eq, i_cl, i_max, i_min, i_rem, i_div, i_neg, i_nn, i_n4, i_n4', Option.bind_some, Option.some.injEq, Sum.inl.injEq, Sum.inr.injEq, Prod.mk.injEq, gdn, if_pos, if_neg, Nat.add_zero, Nat.zero_add, and_true, true_and, and_self, ite_true, ite_false, if_true, if_false, reduceIte]
/-- the grains of a ring -/
def rng (M : GM) (k : Nat) : Nat := cnt (fun g => decide (ring (mC M g) = k)) (mN M)
theorem r_ringl {G : GX8} {M : GM} (w : WF M) (h : RepR (pX8_s G) M) {rg : Nat} (hr : rg < 6) : lp (tX8_ring_15 (nI rg) G) FU (0, 0) = some (nI (rng M rg)) := by
  have h1 := w.n1
  rw [i_0, lp_cnt (fun g => decide (ring (mC M g) = rg)) 0 (mN M) (by omega) (by omega) rfl]
  · rfl
  · intro k i _ hi _
    have hc := ring_le _ (w.c hi)
    unfold tX8_ring_15 jX8_ring_1
    rw [r_n h]
    dsimp only
    rw [if_neg (i_nle hi (by omega)), r_cell w h hi]
    simp only [Option.bind_some]
    rw [r_ring _ (w.c hi)]
    simp only [Option.bind_some]
    rw [ifc (i_eq (by omega) (by omega))]
    by_cases q : ring (mC M i) = rg
    · rw [if_pos q, decide_eq_true q]
      show some (Sum.inl (nI k + 1, nI i + 1)) = _
      rw [i_inc, i_inc]; rfl
    · rw [if_neg q, decide_eq_false q]
      show some (Sum.inl (nI k + 0, nI i + 1)) = _
      rw [i_inc, i_p0]; rfl
  · intro k
    unfold tX8_ring_15
    rw [r_n h]
    simp (disch := omega) only [i_lit, i_add, i_mul, i_sub, i_lt, i_le, i_eq, i_cl, i_max, i_min, i_rem, i_div, i_neg, i_nn, i_n4, i_n4', Option.bind_some, Option.some.injEq, Sum.inl.injEq, Sum.inr.injEq, Prod.mk.injEq, gdn, if_pos, if_neg, Nat.add_zero, Nat.zero_add, and_true, true_and, and_self, ite_true, ite_false, if_true, if_false, reduceIte]
theorem r_shore {G : GX8} {M : GM} (w : WF M) (h : RepR (pX8_s G) M) : fX8_shore G = some (nI (shoreM M)) := by
  have h1 := w.n1
  unfold fX8_shore
  rw [i_0, lp_cnt (shoreB M) 0 121 (by omega) (by omega) rfl]
  · rfl
  · intro k i _ hi _
    have hb : bsd M i ≤ 4 := cnt_le _ _
    have j1 : ∀ b : Bool, jX8_shore_1 (nI k, nI i) (if b then 1 else 0) = some (.inl (nI (k + if b then 1 else 0), nI (i + 1))) := fun b => by
      unfold jX8_shore_1
      cases b
      · show some (Sum.inl (nI k + 0, nI i + 1)) = _
        rw [i_inc, i_p0]; rfl
      · show some (Sum.inl (nI k + 1, nI i + 1)) = _
        rw [i_inc, i_inc]; rfl
    rw [← j1 (shoreB M i)]
    unfold tX8_shore_4 jX8_shore_2 shoreB
    dsimp only
    rw [if_neg (show ¬ (121 : Int32) ≤ nI i from i_nle (a := 121) hi (by omega)), r_grainAt w h i hi, r_bsd w h hi]
    simp only [Option.bind_some]
    rw [fgb_none]
    cases ha : at_ M i with
    | some g =>
      have := at_lt ha
      rw [if_pos (show 0 ≤ oI (some g) from (oI_nn (fun j e => by cases e; omega)).mpr (fun e => by cases e))]
      rfl
    | none =>
      rw [if_neg (show ¬ 0 ≤ oI none by decide), ifc (show nI (bsd M i) ≤ 0 ↔ bsd M i ≤ 0 from i_le (b := 0) (by omega) (by omega))]
      by_cases q : bsd M i ≤ 0
      · rw [if_pos q, decide_eq_false (by omega)]; rfl
      · rw [if_neg q, decide_eq_true (by omega)]; rfl
  · intro k
    unfold tX8_shore_4
    simp (disch := omega) only [i_lit, i_add, i_mul, i_sub, i_lt, i_le, i_eq, i_cl, i_max, i_min, i_rem, i_div, i_neg, i_nn, i_n4, i_n4', Option.bind_some, Option.some.injEq, Sum.inl.injEq, Sum.inr.injEq, Prod.mk.injEq, gdn, if_pos, if_neg, Nat.add_zero, Nat.zero_add, and_true, true_and, and_self, ite_true, ite_false, if_true, if_false, reduceIte]
/-! ===== apart ===== -/
theorem dst_comm {H : Nat → Nat} : ∀ (f a b : Nat), dstF H f a b = dstF H f b a
  | 0, _, _ => rfl
  | f + 1, a, b => by
    rw [dstF, dstF]
    by_cases q : a = b
    · rw [if_pos q, if_pos q.symm]
    · rw [if_neg q, if_neg (show ¬ b = a from fun z => q z.symm), Nat.max_comm a b, Nat.min_comm a b]
theorem r_apart_go {G : GX8} {M : GM} (w : WF M) (h : RepR (pX8_s G) M) : ∀ (m k a b fu : Nat), max a b ≤ m → max a b < mN M → m + 1 < fu → ∃ o, lp (tX8_apart_26 G) fu (nI a, nI b, nI k) = some o ∧ (if o.1 = o.2.1 then some o.2.2 else some (-4)) = some (oK k (dstF (mH M) (m + 1) a b)) := by
  have h1 := w.n1
  intro m
  induction m with
  | zero =>
    intro k a b fu hm hn hf
    obtain rfl : a = 0 := by omega
    obtain rfl : b = 0 := by omega
    obtain ⟨fu, rfl⟩ : ∃ q, fu = q + 1 := ⟨fu - 1, by omega⟩
    refine ⟨(nI 0, nI 0, nI k), lp_r fu ?_, ?_⟩
    · unfold tX8_apart_26
      rw [if_pos rfl]
    · rw [if_pos rfl]; rfl
  | succ m ih =>
    intro k a b fu hm hn hf
    obtain ⟨fu, rfl⟩ : ∃ q, fu = q + 1 := ⟨fu - 1, by omega⟩
    by_cases hab : a = b
    · subst hab
      refine ⟨(nI a, nI a, nI k), lp_r fu ?_, ?_⟩
      · unfold tX8_apart_26
        rw [if_pos rfl]
      · rw [if_pos rfl, dstF, if_pos rfl]; rfl
    · have key : ∀ g c, max g c < mN M → max g c ≤ m + 1 → c < g → (∀ x, tX8_apart_26 G (nI a, nI b, nI k) = some (.inl x) → lp (tX8_apart_26 G) (fu + 1) (nI a, nI b, nI k) = lp (tX8_apart_26 G) fu x) := fun g c _ _ _ x e => lp_l fu e
      have hne : ¬ nI a = nI b := by rw [i_eq (by omega) (by omega)]; exact hab
      have ha0 : ¬ nI a < 0 := by rw [i_0, i_lt (by omega) (by omega)]; omega
      have hb0 : ¬ nI b < 0 := by rw [i_0, i_lt (by omega) (by omega)]; omega
      rw [dstF, if_neg hab]
      have oKs : ∀ o : Option Nat, oK (k + 1) o = oK k (o.map (· + 1)) := fun o => by
        cases o with
        | none => rfl
        | some d => show nI (k + 1 + d) = nI (k + (d + 1)); rw [show k + 1 + d = k + (d + 1) by omega]
      obtain ⟨fu, rfl⟩ : ∃ q, fu = q + 1 := ⟨fu - 1, by omega⟩
      rcases Nat.lt_or_ge b a with q | q
      · have hh := w.h (show a < mN M by omega)
        rw [Nat.max_eq_left (by omega), Nat.min_eq_right (by omega)]
        have e : tX8_apart_26 G (nI a, nI b, nI k) = some (.inl (hR (mH M a), nI b, nI (k + 1))) := by
          unfold tX8_apart_26
          rw [if_neg hne, if_neg ha0, if_neg hb0, if_neg (show ¬ nI a ≤ nI b by rw [i_le (by omega) (by omega)]; omega), r_holder w h (by omega)]
          show some (Sum.inl (_, _, nI k + 1)) = _
          rw [i_inc]
        rw [lp_l _ e]
        by_cases q2 : mH M a = 0
        · rw [if_pos q2, q2]
          have hm1 : ¬ (hR 0 : Int32) = nI b := by
            intro z
            have := (hR_eq (by omega) (by omega)).mp z
            omega
          refine ⟨(hR 0, nI b, nI (k + 1)), lp_r fu ?_, ?_⟩
          · unfold tX8_apart_26
            rw [if_neg hm1, if_pos (show hR 0 < 0 by decide)]
          · rw [if_neg hm1]; rfl
        · rw [if_neg q2, hR_s q2]
          obtain ⟨o, e1, e2⟩ := ih (k + 1) (mH M a - 1) b (fu + 1) (by omega) (by omega) (by omega)
          refine ⟨o, e1, ?_⟩
          rw [e2, oKs, dst_comm]
      · have hh := w.h (show b < mN M by omega)
        rw [Nat.max_eq_right (by omega), Nat.min_eq_left (by omega)]
        have e : tX8_apart_26 G (nI a, nI b, nI k) = some (.inl (nI a, hR (mH M b), nI (k + 1))) := by
          unfold tX8_apart_26
          rw [if_neg hne, if_neg ha0, if_neg hb0, if_pos (show nI a ≤ nI b by rw [i_le (by omega) (by omega)]; omega), r_holder w h (by omega)]
          show some (Sum.inl (_, _, nI k + 1)) = _
          rw [i_inc]
        rw [lp_l _ e]
        by_cases q2 : mH M b = 0
        · rw [if_pos q2, q2]
          have hm1 : ¬ nI a = (hR 0 : Int32) := by
            intro z
            have := (hR_eq (by omega) (by omega)).mp z.symm
            omega
          refine ⟨(nI a, hR 0, nI (k + 1)), lp_r fu ?_, ?_⟩
          · unfold tX8_apart_26
            rw [if_neg hm1, if_neg ha0, if_pos (show hR 0 < 0 by decide)]
          · rw [if_neg hm1]; rfl
        · rw [if_neg q2, hR_s q2]
          obtain ⟨o, e1, e2⟩ := ih (k + 1) a (mH M b - 1) (fu + 1) (by omega) (by omega) (by omega)
          refine ⟨o, e1, ?_⟩
          rw [e2, oKs]
