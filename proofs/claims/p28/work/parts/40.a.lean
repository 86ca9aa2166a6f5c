/-! ===== p28, pure (a draft, never compiled): sums ===== -/
def sumF (f : Nat → Nat) : Nat → Nat
  | 0 => 0
  | n + 1 => sumF f n + f n
theorem sumF_ext {f g : Nat → Nat} : ∀ {n : Nat}, (∀ i, i < n → f i = g i) → sumF f n = sumF g n
  | 0, _ => rfl
  | n + 1, h => by rw [sumF, sumF, sumF_ext (fun i hi => h i (by omega)), h n (by omega)]
theorem cnt_true : ∀ (n : Nat), cnt (fun _ => true) n = n
  | 0 => rfl
  | n + 1 => by
    rw [cnt_s, cnt_true n]
    rfl
theorem cnt_not {p : Nat → Bool} (n : Nat) : cnt p n + cnt (fun g => !p g) n = n := by
  have h := cnt_or (p := fun _ => true) (q := p) (r := fun g => !p g) (n := n) (fun i _ => ⟨by
    show true = (p i || !p i)
    cases p i <;> rfl, fun h1 h2 => by
    have h2 : (!p i) = true := h2
    rw [h1] at h2
    cases h2⟩)
  rw [cnt_true] at h
  exact h.symm
theorem sum_cnt {F : Nat → Nat} {n : Nat} : ∀ (K : Nat), sumF (fun k => cnt (fun g => decide (F g = k)) n) K = cnt (fun g => decide (F g < K)) n
  | 0 => (cnt_0 (fun _ _ => decide_eq_false (Nat.not_lt_zero _))).symm
  | K + 1 => by
    rw [sumF, sum_cnt K]
    refine (cnt_or (fun i _ => ⟨?_, fun h1 h2 => ?_⟩)).symm
    · show decide (F i < K + 1) = (decide (F i < K) || decide (F i = K))
      by_cases q : F i < K
      · rw [decide_eq_true q, decide_eq_true (show F i < K + 1 by omega)]; rfl
      · rw [decide_eq_false q, Bool.false_or]
        exact decide_eq_decide.mpr (by omega)
    · have h1 : F i < K := of_decide_eq_true h1
      have h2 : F i = K := of_decide_eq_true h2
      omega
theorem rings_sum {M : GM} (w : WF M) : sumF (rng M) 6 = mN M :=
  (sum_cnt (F := fun g => ring (mC M g)) 6).trans ((cnt_ext (fun _ hi => decide_eq_true (ring_le _ (w.c hi)))).trans (cnt_true _))
theorem held_sum {M : GM} (w : WF M) : sumF (chl M) (mN M) + knd M 1 = mN M := by
  have e : sumF (chl M) (mN M) = cnt (fun g => !kndB M 1 g) (mN M) := by
    refine (sumF_ext (g := fun k => cnt (fun g => decide ((if mH M g = 0 then mN M else mH M g - 1) = k)) (mN M)) (fun k hk => cnt_ext (fun g hg => ?_))).trans ((sum_cnt (F := fun g => if mH M g = 0 then mN M else mH M g - 1) (mN M)).trans (cnt_ext (fun g hg => ?_)))
    · show decide (mH M g = k + 1) = decide ((if mH M g = 0 then mN M else mH M g - 1) = k)
      refine decide_eq_decide.mpr ?_
      by_cases q : mH M g = 0
      · rw [if_pos q]; omega
      · rw [if_neg q]; omega
    · have hh := w.h hg
      show decide ((if mH M g = 0 then mN M else mH M g - 1) < mN M) = !kndB M 1 g
      unfold kndB
      rw [if_pos rfl]
      by_cases q : mH M g = 0
      · rw [if_pos q, decide_eq_true q]; exact decide_eq_false (Nat.lt_irrefl _)
      · rw [if_neg q, decide_eq_false q]; exact decide_eq_true (by omega)
  rw [e, Nat.add_comm]
  exact cnt_not (p := kndB M 1) (mN M)
/-- what stays, counted before and behind a drop -/
theorem cnt_rk {fl p q : Nat → Bool} : ∀ (n : Nat), (∀ g, g < n → fl g = false → q (rk fl g) = p g) → cnt q (rk fl n) = cnt (fun g => !fl g && p g) n
  | 0, _ => rfl
  | n + 1, h => by
    have ih := cnt_rk n (fun g hg => h g (by omega))
    rw [cnt_s]
    cases e : fl n with
    | true => rw [rk_t e, ih]; rfl
    | false =>
      rw [rk_f e, cnt_s, ih, h n (by omega) e]
      rfl
theorem knd1_drp {M : GM} (w : WF M) {fl : Nat → Bool} (hc : Cl M fl) (hr : ∀ g, g < mN M → mH M g = 0 → fl g = false) : knd (drpM M fl) 1 = knd M 1 := by
  refine (cnt_rk (fl := fl) (p := kndB M 1) (q := kndB (drpM M fl) 1) (mN M) (fun g hg hf => ?_)).trans (cnt_ext (fun g hg => ?_))
  · unfold kndB
    rw [if_pos rfl, if_pos rfl]
    refine decide_eq_decide.mpr ?_
    show (pkF M fl (mN M)).2.1 (rk fl g) = 0 ↔ _
    rw [(pk_lo hf hg).2.1]
    unfold nwH
    by_cases q : mH M g = 0
    · rw [if_pos q]; exact ⟨fun _ => q, fun _ => rfl⟩
    · rw [if_neg q]; exact ⟨fun z => absurd z (Nat.succ_ne_zero _), fun z => absurd z q⟩
  · show (!fl g && kndB M 1 g) = kndB M 1 g
    unfold kndB
    rw [if_pos rfl]
    by_cases q : mH M g = 0
    · rw [hr g hg q]; rfl
    · rw [decide_eq_false q, Bool.and_false]
/-- a state that p28 speaks of: good, steps of walks, the numbers agree -/
def PG (M : GM) : Prop := Good M ∧ (∀ g, g < mN M → ∃ k, k ≤ 200 ∧ mW M g = nI k ∧ (mH M g = 0 → k = 0)) ∧ nI (mN M) - nI (knd M 1) = mR M - mT M - mA M
/-! ===== how far apart ===== -/
theorem dst_0 {M : GM} (w : WF M) {a b : Nat} (ha : a < mN M) (hb : b < mN M) : dst M a b = some 0 ↔ a = b := by
  unfold dst
  rw [dstF]
  by_cases q : a = b
  · rw [if_pos q]; exact ⟨fun _ => q, fun _ => rfl⟩
  · rw [if_neg q]
    refine ⟨fun z => ?_, fun z => absurd z q⟩
    by_cases q2 : mH M (max a b) = 0
    · rw [if_pos q2] at z; cases z
    · rw [if_neg q2] at z
      cases e : dstF (mH M) (max a b) (min a b) (mH M (max a b) - 1) with
      | none => rw [e] at z; cases z
      | some d =>
        rw [e] at z
        have z2 : some (d + 1) = some 0 := z
        cases z2
theorem dst_rot {M : GM} (w : WF M) : ∀ (m a b f : Nat), max a b ≤ m → m < f → a < mN M → b < mN M → (dstF (mH M) f a b = none ↔ rot M a ≠ rot M b) := by
  intro m
  induction m with
  | zero =>
    intro a b f h1 h2 ha hb
    obtain ⟨f, rfl⟩ : ∃ q, f = q + 1 := ⟨f - 1, by omega⟩
    rw [dstF, if_pos (show a = b by omega), show a = b by omega]
    exact ⟨fun z => (by cases z), fun z => absurd rfl z⟩
  | succ m ih =>
    intro a b f h1 h2 ha hb
    obtain ⟨f, rfl⟩ : ∃ q, f = q + 1 := ⟨f - 1, by omega⟩
    rw [dstF]
    by_cases q : a = b
    · rw [if_pos q, q]
      exact ⟨fun z => (by cases z), fun z => absurd rfl z⟩
    · rw [if_neg q]
      have hg : max a b < mN M := by omega
      have hh := w.h hg
      have hs : rot M a ≠ rot M b ↔ rot M (min a b) ≠ rot M (max a b) := by
        rcases Nat.lt_or_ge a b with z | z
        · rw [show min a b = a by omega, show max a b = b by omega]
        · rw [show min a b = b by omega, show max a b = a by omega]
          exact ⟨fun x y => x y.symm, fun x y => x y.symm⟩
      rw [hs]
      by_cases q2 : mH M (max a b) = 0
      · rw [if_pos q2, rot_eq w hg, if_pos q2]
        have hr := w.rot (show min a b < mN M by omega)
        exact ⟨fun _ => by omega, fun _ => rfl⟩
      · rw [if_neg q2, rot_eq w hg, if_neg q2]
        have := ih (min a b) (mH M (max a b) - 1) f (by omega) (by omega) (by omega) (by omega)
        rw [← this]
        cases dstF (mH M) f (min a b) (mH M (max a b) - 1) with
        | none => exact ⟨fun _ => rfl, fun _ => rfl⟩
        | some d => exact ⟨fun z => (by cases z), fun z => (by cases z)⟩
/-! ===== the grains within the reach ===== -/
theorem cells_in : ∀ r, r < 6 → cnt (fun c => decide (ring c ≤ r)) 121 = (2 * r + 1) * (2 * r + 1) := by decide +kernel
theorem cnt_mono {p q : Nat → Bool} : ∀ {n : Nat}, (∀ i, i < n → p i = true → q i = true) → cnt p n ≤ cnt q n
  | 0, _ => Nat.le_refl _
  | n + 1, h => by
    have ih := cnt_mono (p := p) (q := q) (n := n) (fun i hi => h i (by omega))
    have hn := h n (by omega)
    rw [cnt_s, cnt_s]
    cases e : p n with
    | false => rw [if_neg (show ¬ false = true by decide)]; omega
    | true => rw [if_pos rfl, hn e, if_pos rfl]; omega
theorem n_in {M : GM} (w : WF M) : mN M ≤ (2 * reachM M + 1) * (2 * reachM M + 1) := by
  have hr : reachM M < 6 := Nat.lt_succ_of_le (mxF_le (fun i hi => Nat.le_of_lt_succ (ring_le _ (w.c hi))))
  rw [← cells_in _ hr, ← cnt_at (C := mC M) (n := mN M) (fun g hg => w.c hg) w.2.2.2.1]
  refine cnt_mono (fun c hc h => ?_)
  cases e : atF (mC M) (mN M) c with
  | none => rw [e] at h; cases h
  | some g =>
    have hg := atF_some e
    have := le_mxF (f := fun g => ring (mC M g)) hg.1
    exact decide_eq_true (by rw [← hg.2]; exact this)
