/-! ===== trees: the numbers as they grow ===== -/
theorem le_mxF {f : Nat → Nat} {i : Nat} : ∀ {n : Nat}, i < n → f i ≤ mxF f n
  | n + 1, h => by
    rw [mxF_s]
    by_cases q : i = n
    · rw [q]; omega
    · have := le_mxF (f := f) (show i < n by omega)
      omega
theorem mxF_at (f : Nat → Nat) : ∀ (n : Nat), mxF f n = 0 ∨ ∃ i, i < n ∧ f i = mxF f n
  | 0 => Or.inl rfl
  | n + 1 => by
    rw [mxF_s]
    rcases Nat.lt_or_ge (mxF f n) (f n) with q | q
    · exact Or.inr ⟨n, by omega, by omega⟩
    · rcases mxF_at f n with z | ⟨i, h1, h2⟩
      · exact Or.inl (by omega)
      · exact Or.inr ⟨i, by omega, by omega⟩
theorem mxF_ext {f g : Nat → Nat} : ∀ {n : Nat}, (∀ i, i < n → f i = g i) → mxF f n = mxF g n
  | 0, _ => rfl
  | n + 1, h => by rw [mxF_s, mxF_s, mxF_ext (fun i hi => h i (by omega)), h n (by omega)]
theorem mxF_max {f g k : Nat → Nat} : ∀ {n : Nat}, (∀ i, i < n → k i = max (f i) (g i)) → mxF k n = max (mxF f n) (mxF g n)
  | 0, _ => rfl
  | n + 1, h => by
    rw [mxF_s, mxF_s, mxF_s, mxF_max (fun i hi => h i (by omega)), h n (by omega)]
    omega
theorem cnt_or {p q r : Nat → Bool} : ∀ {n : Nat}, (∀ i, i < n → p i = (q i || r i) ∧ (q i = true → r i = true → False)) → cnt p n = cnt q n + cnt r n
  | 0, _ => rfl
  | n + 1, h => by
    rw [cnt_s, cnt_s, cnt_s, cnt_or (fun i hi => h i (by omega))]
    have ⟨h1, h2⟩ := h n (by omega)
    rw [h1]
    cases e1 : q n with
    | false => cases r n <;> simp <;> omega
    | true =>
      cases e2 : r n with
      | false => simp; omega
      | true => exact (h2 e1 e2).elim
theorem via_ne {M : GM} (w : WF M) {x i : Nat} (hne : mH M i ≠ x + 1) : ∀ (m g : Nat), g ≤ m → g < mN M → via M x i g = via M x (i + 1) g := by
  intro m
  induction m with
  | zero =>
    intro g h1 h2
    rw [via_eq w h2, via_eq w h2, if_pos (show g ≤ x by omega), if_pos (show g ≤ x by omega)]
  | succ m ih =>
    intro g h1 h2
    have hh := w.h h2
    rw [via_eq w h2, via_eq w h2]
    by_cases q : g ≤ x
    · rw [if_pos q, if_pos q]
    · rw [if_neg q, if_neg q]
      by_cases q2 : mH M g = x + 1
      · rw [if_pos q2, if_pos q2]
        have : g ≠ i := fun z => hne (z ▸ q2)
        exact decide_eq_decide.mpr (by omega)
      · rw [if_neg q2, if_neg q2]
        by_cases q3 : mH M g = 0
        · rw [if_pos q3, if_pos q3]
        · rw [if_neg q3, if_neg q3]
          exact ih _ (by omega) (by omega)
theorem via_st {M : GM} (w : WF M) {h i : Nat} (hi : i < mN M) (hh : mH M i = h + 1) : ∀ (m g : Nat), g ≤ m → g < mN M → via M h i g = (via M h (i + 1) g || inT M i g) ∧ (via M h (i + 1) g = true → inT M i g = true → False) := by
  have hi1 := w.h hi
  intro m
  induction m with
  | zero =>
    intro g h1 h2
    rw [via_eq w h2, via_eq w h2, if_pos (show g ≤ h by omega), if_pos (show g ≤ h by omega), inT_lt w h2 (by omega), Bool.or_false]
    exact ⟨rfl, fun _ z => by cases z⟩
  | succ m ih =>
    intro g h1 h2
    have hg := w.h h2
    rw [via_eq w h2, via_eq w h2]
    by_cases q : g ≤ h
    · rw [if_pos q, if_pos q, inT_lt w h2 (by omega), Bool.or_false]
      exact ⟨rfl, fun _ z => by cases z⟩
    · rw [if_neg q, if_neg q]
      by_cases q2 : mH M g = h + 1
      · rw [if_pos q2, if_pos q2]
        rcases Nat.lt_trichotomy g i with z | z | z
        · rw [inT_lt w h2 z, Bool.or_false, decide_eq_false (show ¬ i ≤ g by omega), decide_eq_false (show ¬ i + 1 ≤ g by omega)]
          exact ⟨rfl, fun _ z => by cases z⟩
        · subst z
          rw [inT_self w h2, decide_eq_true (Nat.le_refl _), decide_eq_false (show ¬ g + 1 ≤ g by omega)]
          exact ⟨rfl, fun z => by cases z⟩
        · rw [inT_eq w h2, if_neg (by omega), if_neg (by omega), q2, show h + 1 - 1 = h by omega, inT_lt w (show h < mN M by omega) (by omega), Bool.or_false, decide_eq_true (show i ≤ g by omega), decide_eq_true (show i + 1 ≤ g by omega)]
          exact ⟨rfl, fun _ z => by cases z⟩
      · rw [if_neg q2, if_neg q2]
        have hgi : g ≠ i := fun z => q2 (z ▸ hh)
        by_cases q3 : mH M g = 0
        · rw [if_pos q3, if_pos q3]
          have : inT M i g = false := by
            rcases Nat.lt_or_ge g i with z | z
            · exact inT_lt w h2 z
            · rw [inT_eq w h2, if_neg (by omega), if_pos q3]
          rw [this]
          exact ⟨rfl, fun _ z => by cases z⟩
        · rw [if_neg q3, if_neg q3]
          have : inT M i g = inT M i (mH M g - 1) := by
            rcases Nat.lt_or_ge g i with z | z
            · rw [inT_lt w h2 z, inT_lt w (by omega) (by omega)]
            · rw [inT_eq w h2, if_neg (by omega), if_neg q3]
          rw [this]
          exact ih _ (by omega) (by omega)
theorem via_top {M : GM} (w : WF M) {x : Nat} : ∀ (m g : Nat), g ≤ m → g < mN M → via M x (mN M) g = decide (g = x) := by
  intro m
  induction m with
  | zero =>
    intro g h1 h2
    rw [via_eq w h2, if_pos (show g ≤ x by omega)]
  | succ m ih =>
    intro g h1 h2
    have hg := w.h h2
    rw [via_eq w h2]
    by_cases q : g ≤ x
    · rw [if_pos q]
    · rw [if_neg q, decide_eq_false (show ¬ g = x by omega)]
      by_cases q2 : mH M g = x + 1
      · rw [if_pos q2]; exact decide_eq_false (by omega)
      · rw [if_neg q2]
        by_cases q3 : mH M g = 0
        · rw [if_pos q3]
        · rw [if_neg q3, ih _ (by omega) (by omega)]
          exact decide_eq_false (by omega)
theorem via_full {M : GM} (w : WF M) {x k : Nat} (hk : k ≤ x + 1) : ∀ (m g : Nat), g ≤ m → g < mN M → via M x k g = inT M x g := by
  intro m
  induction m with
  | zero =>
    intro g h1 h2
    rw [via_eq w h2, inT_eq w h2, if_pos (show g ≤ x by omega), if_pos (show g ≤ x by omega)]
  | succ m ih =>
    intro g h1 h2
    have hg := w.h h2
    rw [via_eq w h2, inT_eq w h2]
    by_cases q : g ≤ x
    · rw [if_pos q, if_pos q]
    · rw [if_neg q, if_neg q]
      by_cases q2 : mH M g = x + 1
      · rw [if_pos q2, if_neg (by omega), q2, show x + 1 - 1 = x by omega, inT_self w (by omega)]
        exact decide_eq_true (by omega)
      · rw [if_neg q2]
        by_cases q3 : mH M g = 0
        · rw [if_pos q3, if_pos q3]
        · rw [if_neg q3, if_neg q3]
          exact ih _ (by omega) (by omega)
theorem via_ge {M : GM} (w : WF M) {x k g : Nat} (hg : g < mN M) (h : via M x k g = true) : x ≤ g := by
  rcases Nat.lt_or_ge g x with q | q
  · rw [via_eq w hg, if_pos (by omega)] at h
    have := of_decide_eq_true h
    omega
  · exact q
theorem via_self {M : GM} (w : WF M) {x k : Nat} (hx : x < mN M) : via M x k x = true := by
  rw [via_eq w hx, if_pos (Nat.le_refl _)]
  exact decide_eq_true rfl
theorem via_dep {M : GM} (w : WF M) {x k : Nat} : ∀ (m g : Nat), g ≤ m → g < mN M → via M x k g = true → dep M x ≤ dep M g := by
  intro m
  induction m with
  | zero =>
    intro g h1 h2 h3
    have := via_ge w h2 h3
    rw [show x = g by omega]
    exact Nat.le_refl _
  | succ m ih =>
    intro g h1 h2 h3
    have hh := w.h h2
    rw [via_eq w h2] at h3
    by_cases q : g ≤ x
    · rw [if_pos q] at h3
      rw [of_decide_eq_true h3]
      exact Nat.le_refl _
    · rw [if_neg q] at h3
      by_cases q2 : mH M g = x + 1
      · rw [dep_eq w h2, if_neg (by omega), q2, show x + 1 - 1 = x by omega]
        omega
      · rw [if_neg q2] at h3
        by_cases q3 : mH M g = 0
        · rw [if_pos q3] at h3; cases h3
        · rw [if_neg q3] at h3
          have := ih _ (by omega) (by omega) h3
          rw [dep_eq w h2, if_neg q3]
          omega
/-- a smaller one reaches it only by itself -/
theorem via_low {M : GM} (w : WF M) {x k : Nat} : ∀ (m g : Nat), g ≤ m → g < mN M → g < k → via M x k g = true → g = x := by
  intro m
  induction m with
  | zero =>
    intro g h1 h2 h3 h4
    have := via_ge w h2 h4
    omega
  | succ m ih =>
    intro g h1 h2 h3 h4
    have hh := w.h h2
    rw [via_eq w h2] at h4
    by_cases q : g ≤ x
    · rw [if_pos q] at h4
      exact of_decide_eq_true h4
    · rw [if_neg q] at h4
      by_cases q2 : mH M g = x + 1
      · rw [if_pos q2] at h4
        have := of_decide_eq_true h4
        omega
      · rw [if_neg q2] at h4
        by_cases q3 : mH M g = 0
        · rw [if_pos q3] at h4; cases h4
        · rw [if_neg q3] at h4
          have := ih _ (by omega) (by omega) (by omega) h4
          omega
def hv (M : GM) (x k g : Nat) : Nat := if via M x k g then dep M g - dep M x else 0
/-- the height over x, of the grains that came through k or higher ones -/
def hi (M : GM) (k x : Nat) : Nat := mxF (hv M x k) (mN M)
theorem hv_le {M : GM} (w : WF M) {x k g : Nat} (hg : g < mN M) : hv M x k g ≤ 120 := by
  have := w.dep hg
  have := w.n1
  unfold hv
  split <;> omega
theorem hi_le {M : GM} (w : WF M) {k x : Nat} : hi M k x ≤ 120 := mxF_le (fun i hi => hv_le w hi)
theorem hi_top {M : GM} (w : WF M) {x : Nat} : hi M (mN M) x = 0 := mxF_0 (fun i hi => by
  unfold hv
  rw [via_top w i i (Nat.le_refl _) hi]
  by_cases q : i = x
  · rw [q, decide_eq_true rfl, if_pos rfl]; omega
  · rw [decide_eq_false q]; rfl)
theorem hi_full {M : GM} (w : WF M) {x k : Nat} (hk : k ≤ x + 1) : hi M k x = hgt M x := mxF_ext (fun i hi => by
  unfold hv
  rw [via_full w hk i i (Nat.le_refl _) hi])
theorem hi_ne {M : GM} (w : WF M) {x i : Nat} (hne : mH M i ≠ x + 1) : hi M i x = hi M (i + 1) x := mxF_ext (fun g hg => by
  unfold hv
  rw [via_ne w hne g g (Nat.le_refl _) hg])
theorem hgt_at {M : GM} (w : WF M) {i : Nat} (hi : i < mN M) : ∃ a, a < mN M ∧ inT M i a = true ∧ dep M a - dep M i = hgt M i := by
  rcases mxF_at (fun g => if inT M i g then dep M g - dep M i else 0) (mN M) with q | ⟨a, h1, h2⟩
  · exact ⟨i, hi, inT_self w hi, by
      show _ = mxF _ _
      rw [q]; omega⟩
  · by_cases q : inT M i a = true
    · refine ⟨a, h1, q, ?_⟩
      simp only [if_pos q] at h2
      exact h2
    · simp only [if_neg q] at h2
      exact ⟨i, hi, inT_self w hi, by
        show _ = mxF _ _
        rw [← h2]; omega⟩
theorem hi_at {M : GM} (w : WF M) {k x : Nat} (hx : x < mN M) : ∃ b, b < mN M ∧ via M x k b = true ∧ dep M b - dep M x = hi M k x := by
  rcases mxF_at (hv M x k) (mN M) with q | ⟨a, h1, h2⟩
  · exact ⟨x, hx, via_self w hx, by
      show _ = mxF _ _
      rw [q]; omega⟩
  · by_cases q : via M x k a = true
    · refine ⟨a, h1, q, ?_⟩
      unfold hv at h2
      rw [if_pos q] at h2
      exact h2
    · have h3 := h2
      unfold hv at h3
      rw [if_neg q] at h3
      exact ⟨x, hx, via_self w hx, by
        show _ = mxF _ _
        rw [← h2]
        unfold hv
        rw [if_neg q]; omega⟩
theorem hi_st {M : GM} (w : WF M) {h i : Nat} (hi' : i < mN M) (hh : mH M i = h + 1) : hi M i h = max (hi M (i + 1) h) (hgt M i + 1) := by
  have hd : dep M i = dep M h + 1 := by rw [dep_eq w hi', if_neg (by omega), hh]; rfl
  have e : mxF (fun g => if inT M i g then dep M g - dep M h else 0) (mN M) = hgt M i + 1 := by
    apply Nat.le_antisymm
    · refine mxF_le (fun g hg => ?_)
      have := le_mxF (f := fun g => if inT M i g then dep M g - dep M i else 0) hg
      show (if inT M i g = true then dep M g - dep M h else 0) ≤ hgt M i + 1
      have hg2 : (if inT M i g = true then dep M g - dep M i else 0) ≤ hgt M i := this
      by_cases q : inT M i g = true
      · rw [if_pos q] at hg2 ⊢
        omega
      · rw [if_neg q]; omega
    · obtain ⟨a, a1, a2, a3⟩ := hgt_at w hi'
      have := le_mxF (f := fun g => if inT M i g then dep M g - dep M h else 0) a1
      simp only [if_pos a2] at this
      have := inT_dep w a a (Nat.le_refl _) a1 a2
      omega
  rw [← e]
  refine mxF_max (fun g hg => ?_)
  have ⟨h1, h2⟩ := via_st w hi' hh g g (Nat.le_refl _) hg
  unfold hv
  rw [h1]
  cases e1 : via M h (i + 1) g with
  | true =>
    cases e2 : inT M i g with
    | true => exact (h2 e1 e2).elim
    | false => simp
  | false => cases inT M i g <;> simp
def cv (M : GM) (k x : Nat) : Nat := cnt (via M x k) (mN M)
theorem cv_top {M : GM} (w : WF M) {x : Nat} (hx : x < mN M) : cv M (mN M) x = 1 := by
  have h2 := cnt_upd (p := fun _ => false) (k := x) rfl hx
  have h0 : cnt (fun _ => false) (mN M) = 0 := cnt_0 (fun i hi => rfl)
  unfold cv
  rw [cnt_ext (q := fun c => decide (x = c) || false) (fun g hg => by
    show via M x (mN M) g = (decide (x = g) || false)
    rw [via_top w g g (Nat.le_refl _) hg, Bool.or_false]
    exact decide_eq_decide.mpr eq_comm), h2, h0]
theorem cv_full {M : GM} (w : WF M) {x k : Nat} (hk : k ≤ x + 1) : cv M k x = siz M x := cnt_ext (fun i hi => via_full w hk i i (Nat.le_refl _) hi)
theorem cv_ne {M : GM} (w : WF M) {x i : Nat} (hne : mH M i ≠ x + 1) : cv M i x = cv M (i + 1) x := cnt_ext (fun g hg => via_ne w hne g g (Nat.le_refl _) hg)
theorem cv_st {M : GM} (w : WF M) {h i : Nat} (hi' : i < mN M) (hh : mH M i = h + 1) : cv M i h = cv M (i + 1) h + siz M i := cnt_or (fun g hg => via_st w hi' hh g g (Nat.le_refl _) hg)
/-- the grains that x holds, of k and higher ones -/
def kv (M : GM) (k x : Nat) : Nat := cnt (fun g => decide (k ≤ g) && decide (mH M g = x + 1)) (mN M)
theorem kv_top {M : GM} {x : Nat} : kv M (mN M) x = 0 := cnt_0 (fun i hi => by rw [decide_eq_false (by omega)]; rfl)
theorem kv_0 {M : GM} {x : Nat} : kv M 0 x = chl M x := cnt_ext (fun i hi => by
  show (decide (0 ≤ i) && _) = _
  rw [decide_eq_true (Nat.zero_le i)]; rfl)
theorem kv_ne {M : GM} {x i : Nat} (hne : mH M i ≠ x + 1) : kv M i x = kv M (i + 1) x := cnt_ext (fun g hg => by
  show (decide (i ≤ g) && decide (mH M g = x + 1)) = (decide (i + 1 ≤ g) && decide (mH M g = x + 1))
  by_cases q : g = i
  · rw [q, decide_eq_false hne, Bool.and_false, Bool.and_false]
  · congr 1
    exact decide_eq_decide.mpr (by omega))
theorem kv_st {M : GM} {h i : Nat} (hi' : i < mN M) (hh : mH M i = h + 1) : kv M i h = kv M (i + 1) h + 1 := by
  have h2 := cnt_upd (p := fun g => decide (i + 1 ≤ g) && decide (mH M g = h + 1)) (k := i) (by
    show (decide (i + 1 ≤ i) && _) = false
    rw [decide_eq_false (by omega)]; rfl) hi'
  unfold kv
  rw [← h2]
  refine cnt_ext (fun g hg => ?_)
  show (decide (i ≤ g) && decide (mH M g = h + 1)) = (decide (i = g) || (decide (i + 1 ≤ g) && decide (mH M g = h + 1)))
  by_cases q : i = g
  · subst q
    rw [decide_eq_true (Nat.le_refl _), decide_eq_true hh, decide_eq_true rfl]; rfl
  · rw [decide_eq_false q, Bool.false_or]
    congr 1
    exact decide_eq_decide.mpr (by omega)
theorem kv_le {M : GM} {k x : Nat} : kv M k x ≤ mN M := cnt_le _ _
theorem cv_le {M : GM} {k x : Nat} : cv M k x ≤ mN M := cnt_le _ _
theorem siz_le {M : GM} {x : Nat} : siz M x ≤ mN M := cnt_le _ _
theorem hgt_le {M : GM} (w : WF M) {x : Nat} : hgt M x ≤ 120 := by rw [← hi_full w (k := 0) (Nat.zero_le _)]; exact hi_le w
/-! ===== the longest way ===== -/
/-- the way through the hold of i -/
def wv (M : GM) (i : Nat) : Nat := if mH M i = 0 then 0 else hi M (i + 1) (mH M i - 1) + (hgt M i + 1)
def lng (M : GM) : Nat := mxF (wv M) (mN M)
theorem dst_via {M : GM} (w : WF M) {h i : Nat} (hi' : i < mN M) (hh : mH M i = h + 1) : ∀ (m a b f : Nat), max a b ≤ m → m < f → a < mN M → b < mN M → inT M i a = true → via M h (i + 1) b = true → dstF (mH M) f a b = some (dep M a - dep M i + 1 + (dep M b - dep M h)) := by
  have hi1 := w.h hi'
  have hd : dep M i = dep M h + 1 := by rw [dep_eq w hi', if_neg (by omega), hh]; rfl
  intro m
  induction m with
  | zero =>
    intro a b f hm hf ha hb h1 h2
    have := inT_ge w ha h1
    have := via_ge w hb h2
    omega
  | succ m ih =>
    intro a b f hm hf ha hb h1 h2
    obtain ⟨f, rfl⟩ : ∃ q, f = q + 1 := ⟨f - 1, by omega⟩
    have ga := inT_ge w ha h1
    have gb := via_ge w hb h2
    have da := inT_dep w a a (Nat.le_refl _) ha h1
    have db := via_dep w b b (Nat.le_refl _) hb h2
    have hne : a ≠ b := fun z => (via_st w hi' hh a a (Nat.le_refl _) ha).2 (z ▸ h2) h1
    rw [dstF, if_neg hne]
    have hha := w.h ha
    have hhb := w.h hb
    rcases Nat.lt_or_ge b a with q | q
    · rw [Nat.max_eq_left (by omega), Nat.min_eq_right (by omega)]
      by_cases q2 : a = i
      · have := via_low w b b (Nat.le_refl _) hb (by omega) h2
        subst this
        obtain ⟨f, rfl⟩ : ∃ q, f = q + 1 := ⟨f - 1, by omega⟩
        rw [q2, if_neg (by omega), hh, show b + 1 - 1 = b by omega, dstF, if_pos rfl]
        show some (0 + 1) = _
        congr 1
        omega
      · rw [inT_eq w ha, if_neg (by omega)] at h1
        by_cases q3 : mH M a = 0
        · rw [if_pos q3] at h1; cases h1
        · rw [if_neg q3] at h1
          have d2 := inT_dep w _ (mH M a - 1) (Nat.le_refl _) (by omega) h1
          have d3 : dep M a = dep M (mH M a - 1) + 1 := by rw [dep_eq w ha, if_neg q3]
          rw [if_neg q3, dst_comm, ih _ _ _ (by omega) (by omega) (by omega) hb h1 h2]
          show some (_ + 1) = _
          congr 1
          omega
    · rw [Nat.max_eq_right (by omega), Nat.min_eq_left (by omega)]
      rw [via_eq w hb, if_neg (by omega)] at h2
      have key : mH M b ≠ 0 → via M h (i + 1) (mH M b - 1) = true → (if mH M b = 0 then none else (dstF (mH M) f a (mH M b - 1)).map (· + 1)) = some (dep M a - dep M i + 1 + (dep M b - dep M h)) := fun q3 h2 => by
        have d2 := via_dep w _ (mH M b - 1) (Nat.le_refl _) (by omega) h2
        have d3 : dep M b = dep M (mH M b - 1) + 1 := by rw [dep_eq w hb, if_neg q3]
        rw [if_neg q3, ih _ _ _ (by omega) (by omega) ha (by omega) h1 h2]
        show some (_ + 1) = _
        congr 1
        omega
      by_cases q2 : mH M b = h + 1
      · exact key (by omega) (by rw [q2]; exact via_self w (by omega))
      · rw [if_neg q2] at h2
        by_cases q3 : mH M b = 0
        · rw [if_pos q3] at h2; cases h2
        · rw [if_neg q3] at h2
          exact key q3 h2
theorem dst_ex {M : GM} (w : WF M) : ∀ (m a b f d : Nat), max a b ≤ m → m < f → a < mN M → b < mN M → a ≠ b → dstF (mH M) f a b = some d → ∃ i h p q, i < mN M ∧ mH M i = h + 1 ∧ ((p = a ∧ q = b) ∨ (p = b ∧ q = a)) ∧ inT M i p = true ∧ via M h (i + 1) q = true ∧ d = dep M p - dep M i + 1 + (dep M q - dep M h) := by
  intro m
  induction m with
  | zero =>
    intro a b f d hm hf ha hb hne h
    omega
  | succ m ih =>
    intro a b f d hm hf ha hb hne h
    obtain ⟨f, rfl⟩ : ∃ q, f = q + 1 := ⟨f - 1, by omega⟩
    have key : ∀ g l, g < mN M → l < g → g ≤ m + 1 → dstF (mH M) (f + 1) l g = some d → ∃ i h p q, i < mN M ∧ mH M i = h + 1 ∧ ((p = l ∧ q = g) ∨ (p = g ∧ q = l)) ∧ inT M i p = true ∧ via M h (i + 1) q = true ∧ d = dep M p - dep M i + 1 + (dep M q - dep M h) := by
      intro g l hg hl hgm e
      have hhg := w.h hg
      rw [dstF, if_neg (by omega), Nat.max_eq_right (by omega), Nat.min_eq_left (by omega)] at e
      by_cases q0 : mH M g = 0
      · rw [if_pos q0] at e; cases e
      · rw [if_neg q0] at e
        have dg : dep M g = dep M (mH M g - 1) + 1 := by rw [dep_eq w hg, if_neg q0]
        cases e2 : dstF (mH M) f l (mH M g - 1) with
        | none => rw [e2] at e; cases e
        | some d' =>
          rw [e2] at e
          have ed : d = d' + 1 := by
            simp only [Option.map_some, Option.some.injEq] at e
            exact e.symm
          by_cases q1 : l = mH M g - 1
          · obtain ⟨f, rfl⟩ : ∃ q, f = q + 1 := ⟨f - 1, by omega⟩
            rw [dstF, if_pos q1] at e2
            simp only [Option.some.injEq] at e2
            refine ⟨g, l, g, l, hg, by omega, Or.inr ⟨rfl, rfl⟩, inT_self w hg, via_self w (by omega), ?_⟩
            omega
          · obtain ⟨i, h, p, q, i1, i2, i3, i4, i5, i6⟩ := ih l (mH M g - 1) f d' (by omega) (by omega) (by omega) (by omega) q1 e2
            have hii := w.h i1
            rcases i3 with ⟨rfl, rfl⟩ | ⟨rfl, rfl⟩
            · have g1 := inT_ge w (show p < mN M by omega) i4
              have g2 := via_ge w (show mH M g - 1 < mN M by omega) i5
              have g3 := via_dep w _ (mH M g - 1) (Nat.le_refl _) (by omega) i5
              refine ⟨i, h, p, g, i1, i2, Or.inl ⟨rfl, rfl⟩, i4, ?_, by omega⟩
              rw [via_eq w hg, if_neg (by omega)]
              by_cases q5 : mH M g = h + 1
              · rw [if_pos q5]; exact decide_eq_true (by omega)
              · rw [if_neg q5, if_neg q0]; exact i5
            · have g1 := inT_ge w (show mH M g - 1 < mN M by omega) i4
              have g3 := inT_dep w _ (mH M g - 1) (Nat.le_refl _) (by omega) i4
              refine ⟨i, h, g, q, i1, i2, Or.inr ⟨rfl, rfl⟩, ?_, i5, by omega⟩
              rw [inT_eq w hg, if_neg (by omega), if_neg q0]; exact i4
    rcases Nat.lt_or_ge a b with q | q
    · exact key b a hb q (by omega) h
    · rw [dst_comm] at h
      obtain ⟨i, h, p, q', i1, i2, i3, i4⟩ := key a b ha (by omega) (by omega) h
      exact ⟨i, h, p, q', i1, i2, i3.symm, i4⟩
theorem inP_ge {M : GM} {one acc : Nat} : ∀ {i : Nat}, acc ≤ inP M one acc i
  | 0 => Nat.le_refl _
  | i + 1 => by
    have := inP_ge (M := M) (one := one) (acc := acc) (i := i)
    unfold inP
    omega
theorem inP_has {M : GM} {one acc j : Nat} : ∀ {i : Nat}, j < i → (dst M one (one + 1 + j)).getD 0 ≤ inP M one acc i
  | i + 1, h => by
    unfold inP
    by_cases q : j = i
    · rw [q]; omega
    · have := inP_has (M := M) (one := one) (acc := acc) (show j < i by omega)
      omega
theorem inP_up {M : GM} {one acc B : Nat} (ha : acc ≤ B) : ∀ {i : Nat}, (∀ j, j < i → (dst M one (one + 1 + j)).getD 0 ≤ B) → inP M one acc i ≤ B
  | 0, _ => ha
  | i + 1, h => by
    have h1 := inP_up ha (i := i) (fun j hj => h j (by omega))
    have h2 := h i (by omega)
    unfold inP
    omega
theorem outP_has {M : GM} {a b : Nat} (hab : a < b) (hb : b < mN M) : ∀ {k : Nat}, a < k → (dst M a b).getD 0 ≤ outP M k
  | k + 1, h => by
    unfold outP
    by_cases q : a = k
    · subst q
      have := inP_has (M := M) (one := a) (acc := outP M a) (j := b - (a + 1)) (i := mN M - (a + 1)) (by omega)
      rw [show a + 1 + (b - (a + 1)) = b by omega] at this
      exact this
    · have h1 := outP_has (M := M) hab hb (show a < k by omega)
      have h2 := inP_ge (M := M) (one := k) (acc := outP M k) (i := mN M - (k + 1))
      omega
theorem outP_up {M : GM} {B : Nat} (h : ∀ a b, a < b → b < mN M → (dst M a b).getD 0 ≤ B) : ∀ {k : Nat}, outP M k ≤ B
  | 0 => Nat.zero_le _
  | k + 1 => by
    unfold outP
    exact inP_up (outP_up h) (fun j hj => h _ _ (by omega) (by omega))
theorem longP_lng {M : GM} (w : WF M) : longP M = lng M := by
  apply Nat.le_antisymm
  · refine outP_up (fun a b hab hb => ?_)
    cases e : dst M a b with
    | none => exact Nat.zero_le _
    | some d =>
      obtain ⟨i, h, p, q, i1, i2, i3, i4, i5, i6⟩ := dst_ex w (max a b) a b (max a b + 1) d (Nat.le_refl _) (by omega) (by omega) hb (by omega) e
      have hp : p < mN M := by rcases i3 with ⟨z, _⟩ | ⟨z, _⟩ <;> omega
      have hq : q < mN M := by rcases i3 with ⟨_, z⟩ | ⟨_, z⟩ <;> omega
      have l1 := le_mxF (f := fun g => if inT M i g then dep M g - dep M i else 0) hp
      simp only [if_pos i4] at l1
      have l2 := le_mxF (f := hv M h (i + 1)) hq
      unfold hv at l2
      rw [if_pos i5] at l2
      have l3 := le_mxF (f := wv M) i1
      unfold wv at l3
      rw [if_neg (by omega), i2, show h + 1 - 1 = h by omega] at l3
      have l1' : dep M p - dep M i ≤ hgt M i := l1
      have l2' : dep M q - dep M h ≤ hi M (i + 1) h := l2
      show d ≤ lng M
      have l3' : hi M (i + 1) h + (hgt M i + 1) ≤ lng M := l3
      omega
  · refine mxF_le (fun i hi' => ?_)
    have hii := w.h hi'
    unfold wv
    by_cases q0 : mH M i = 0
    · rw [if_pos q0]; exact Nat.zero_le _
    · rw [if_neg q0]
      obtain ⟨a, a1, a2, a3⟩ := hgt_at w hi'
      obtain ⟨b, b1, b2, b3⟩ := hi_at w (k := i + 1) (x := mH M i - 1) (by omega)
      have hh : mH M i = mH M i - 1 + 1 := by omega
      have e := dst_via w hi' hh (max a b) a b (max a b + 1) (Nat.le_refl _) (by omega) a1 b1 a2 b2
      have hne : a ≠ b := fun z => (via_st w hi' hh a a (Nat.le_refl _) a1).2 (z ▸ b2) a2
      rw [a3, b3] at e
      rcases Nat.lt_or_ge a b with q | q
      · have := outP_has q b1 (k := mN M) (by omega)
        rw [show dst M a b = _ from e, Option.getD_some] at this
        show _ ≤ outP M (mN M)
        omega
      · have := outP_has (M := M) (show b < a by omega) a1 (k := mN M) (by omega)
        have e3 : dst M b a = some (hgt M i + 1 + hi M (i + 1) (mH M i - 1)) := by
          show dstF _ (max b a + 1) b a = _
          rw [Nat.max_comm, dst_comm]
          exact e
        rw [e3, Option.getD_some] at this
        show _ ≤ outP M (mN M)
        omega
