/-! ===== the class's looks at trees and screens ===== -/
theorem s_heights {M : GM} (w : WF M) {T : GX5} (h : RepT M T) : fX5_longestOfHeights T = some (nI (lng M)) := by
  have h1 := w.n1
  unfold fX5_longestOfHeights
  have hf : ∀ x, x < mN M → hgt M x + sec M (mN M) x ≤ 241 := fun x hx => by
    have a := hgt_le w (x := x)
    have b := sec_le w (x := x) (Nat.le_refl (mN M))
    rw [Nat.sub_self, hi_full w (Nat.zero_le _)] at b
    omega
  rw [i_0, lp_mx (fun x => hgt M x + sec M (mN M) x) 241 0 (mN M) (by omega) (by omega) rfl hf]
  · have := hws_lng w
    unfold hws at this
    simp only [Option.bind_some]
    rw [← this]
    congr 2
    exact mxF_ext (fun x hx => by
      show hgt M x + sec M (mN M) x = hi M (mN M - mN M) x + sec M (mN M) x
      rw [Nat.sub_self, hi_full w (Nat.zero_le _)])
  · intro k i _ hi hk
    have := hf i hi
    have hr := h.2 i hi
    unfold tX5_longestOfHeights_4
    dsimp only
    rw [h.1, if_neg (i_nle hi (by omega))]
    simp only [gI (i := i) (N := 121) (by omega) (by omega)]
    rw [i_cl (by omega), hr.2.2.2.2.1, hr.2.2.2.2.2, i_add, i_max (by omega) (by omega), i_inc]
  · intro k
    unfold tX5_longestOfHeights_4
    dsimp only
    rw [h.1, if_pos (i_ple (Nat.le_refl _) (by omega))]
theorem rot_root {M : GM} (w : WF M) {g : Nat} (hg : g < mN M) : rot M g = g ↔ mH M g = 0 := by
  have hh := w.h hg
  rw [rot_eq w hg]
  by_cases q : mH M g = 0
  · rw [if_pos q]; exact ⟨fun _ => q, fun _ => rfl⟩
  · rw [if_neg q]
    have := w.rot (show mH M g - 1 < mN M by omega)
    constructor
    · intro z; omega
    · intro z; exact absurd z q
theorem s_rootsOf {M : GM} (w : WF M) {T : GX5} (h : RepT M T) : fX5_rootGrains T = some (nI (knd M 1)) := by
  have h1 := w.n1
  unfold fX5_rootGrains
  rw [i_0, lp_cnt (kndB M 1) 0 (mN M) (by omega) (by omega) rfl]
  · rfl
  · intro k i _ hi _
    have hr := h.2 i hi
    have hro := w.rot hi
    unfold tX5_rootGrains_4 jX5_rootGrains_1 kndB
    dsimp only
    rw [h.1, if_neg (i_nle hi (by omega))]
    simp only [gI (i := i) (N := 121) (by omega) (by omega)]
    rw [i_cl (by omega), hr.2.1, ifc (i_eq (by omega) (by omega)), ifc (rot_root w hi), i_inc, i_inc, if_pos trivial]
    by_cases q : mH M i = 0
    · rw [if_pos q, decide_eq_true q]; rfl
    · rw [if_neg q, decide_eq_false q]; rfl
  · intro k
    unfold tX5_rootGrains_4
    dsimp only
    rw [h.1, if_pos (i_ple (Nat.le_refl _) (by omega))]
theorem s_heldBy {M : GM} (w : WF M) {T : GX5} (h : RepT M T) {a b : Nat} (ha : a < 1000) (hb : b < 1000) : fX5_grainsHeldBy (nI a) (nI b) T = some (nI (cnt (fun g => decide (a ≤ chl M g) && decide (chl M g ≤ b)) (mN M))) := by
  have h1 := w.n1
  unfold fX5_grainsHeldBy
  rw [i_0, lp_cnt (fun g => decide (a ≤ chl M g) && decide (chl M g ≤ b)) 0 (mN M) (by omega) (by omega) rfl]
  · rfl
  · intro k i _ hi _
    have hr := h.2 i hi
    have hc := chl_le M i
    unfold tX5_grainsHeldBy_5 jX5_grainsHeldBy_1
    dsimp only
    rw [h.1, if_neg (i_nle hi (by omega))]
    simp only [gI (i := i) (N := 121) (by omega) (by omega)]
    rw [i_cl (by omega), hr.2.2.1, ifc (i_lt (by omega) (by omega)), ifc (i_lt (by omega) (by omega)), i_inc, i_inc]
    by_cases q : chl M i < a
    · rw [if_pos q, decide_eq_false (p := a ≤ chl M i) (by omega)]; rfl
    · rw [if_neg q, decide_eq_true (p := a ≤ chl M i) (by omega)]
      by_cases q2 : b < chl M i
      · rw [if_pos q2, decide_eq_false (p := chl M i ≤ b) (by omega)]; rfl
      · rw [if_neg q2, decide_eq_true (p := chl M i ≤ b) (by omega)]; rfl
  · intro k
    unfold tX5_grainsHeldBy_5
    dsimp only
    rw [h.1, if_pos (i_ple (Nat.le_refl _) (by omega))]
/-- a hold goes to a grain in one of the four directions: no more than four hold on -/
theorem s_deepest {M : GM} (w : WF M) {T : GX5} (h : RepT M T) : fX5_deepest T = some (nI (dpt M)) := by
  have h1 := w.n1
  unfold fX5_deepest
  rw [i_0, lp_mx (dep M) 121 0 (mN M) (by omega) (by omega) rfl (fun i hi => by have := w.dep hi; omega)]
  · rfl
  · intro k i _ hi hk
    have hd := w.dep hi
    have hr := h.2 i hi
    unfold tX5_deepest_4
    dsimp only
    rw [h.1, if_neg (i_nle hi (by omega))]
    simp only [gI (i := i) (N := 121) (by omega) (by omega)]
    rw [i_cl (by omega), hr.1, i_max (by omega) (by omega), i_inc]
  · intro k
    unfold tX5_deepest_4
    dsimp only
    rw [h.1, if_pos (i_ple (Nat.le_refl _) (by omega))]
/-! ===== screens ===== -/
theorem fm_none {S : GX4} {d : Nat} (hd : d < 4) : ∀ (f k fu : Nat), f + k = 11 → f < fu → lp (tX3_firstMet_13 S (nI d)) fu (-4, nI k) = some (-4) := by
  intro f
  induction f with
  | zero =>
    intro k fu hk hf
    obtain ⟨fu, rfl⟩ : ∃ q, fu = q + 1 := ⟨fu - 1, by omega⟩
    refine lp_r fu ?_
    unfold tX3_firstMet_13
    rw [if_pos (show (11 : Int32) ≤ nI k from i_ple (a := 11) (by omega) (by omega))]
  | succ f ih =>
    intro k fu hk hf
    obtain ⟨fu, rfl⟩ : ∃ q, fu = q + 1 := ⟨fu - 1, by omega⟩
    have e : tX3_firstMet_13 S (nI d) (-4, nI k) = some (.inl (-4, nI (k + 1))) := by
      unfold tX3_firstMet_13
      dsimp only
      rw [if_neg (show ¬ (11 : Int32) ≤ nI k from i_nle (a := 11) (by omega) (by omega)), show fX4_grainAt (-4) S = some (-4) from rfl]
      simp only [Option.bind_some]
      rw [if_pos trivial, show fX2_neighbour (-4) (nI d) = some (-4) from rfl, i_inc]
      rfl
    rw [lp_l fu e]
    exact ih _ _ (by omega) (by omega)
theorem s_first_go {S : GX4} {M : GM} (w : WF M) (h : RepS S M) {d : Nat} (hd : d < 4) : ∀ (f k fu c : Nat), c < 121 → f + k = 11 → f < fu → lp (tX3_firstMet_13 S (nI d)) fu (nI c, nI k) = some (oI (scrF M d f (some c))) := by
  intro f
  induction f with
  | zero =>
    intro k fu c hc hk hf
    obtain ⟨fu, rfl⟩ : ∃ q, fu = q + 1 := ⟨fu - 1, by omega⟩
    refine lp_r fu ?_
    unfold tX3_firstMet_13
    rw [if_pos (show (11 : Int32) ≤ nI k from i_ple (a := 11) (by omega) (by omega))]
    rfl
  | succ f ih =>
    intro k fu c hc hk hf
    obtain ⟨fu, rfl⟩ : ∃ q, fu = q + 1 := ⟨fu - 1, by omega⟩
    rw [scrF]
    cases ha : at_ M c with
    | some g =>
      refine lp_r fu ?_
      unfold tX3_firstMet_13
      dsimp only
      rw [if_neg (show ¬ (11 : Int32) ≤ nI k from i_nle (a := 11) (by omega) (by omega)), s_grainAt h hc, ha]
      simp only [Option.bind_some]
      rw [if_neg (show ¬ oI (some g) = -4 from fun z => (i_n4 (at_31 w g ha)).mp z)]
    | none =>
      have e : tX3_firstMet_13 S (nI d) (nI c, nI k) = some (.inl (oI (nb c d), nI (k + 1))) := by
        unfold tX3_firstMet_13
        dsimp only
        rw [if_neg (show ¬ (11 : Int32) ≤ nI k from i_nle (a := 11) (by omega) (by omega)), s_grainAt h hc, ha]
        simp only [Option.bind_some]
        rw [if_pos (show oI none = -4 from rfl), p_nb c hc d hd, i_inc]
        rfl
      rw [lp_l fu e]
      cases hb : nb c d with
      | none =>
        rw [show oI none = -4 from rfl, fm_none hd f (k + 1) fu (by omega) (by omega)]
        cases f <;> rfl
      | some c' => exact ih _ _ _ (nb_lt c hc d hd c' hb) (by omega) (by omega)
theorem s_first {S : GX4} {M : GM} (w : WF M) (h : RepS S M) {r : Nat} (hr : r < 40) : fX3_firstMet (nI r) S = some (oI (scr M r)) := by
  unfold fX3_firstMet scr
  rw [p_rimC r hr]
  simp only [Option.bind_some]
  rw [p_rimD r hr]
  simp only [Option.bind_some]
  exact s_first_go w h (rimD_lt r hr) 11 0 FU _ (rimC_lt r hr) rfl (by rw [FU_eq]; omega)
def RepC (M : GM) (C : GX3) : Prop := pX3_grains C = nI (mN M) ∧ pX3_open C = nI (opn M) ∧ ∀ g, g < mN M → pX3_catches C g = nI (cth M g)
theorem s_screens {S : GX4} {M : GM} (w : WF M) (h : RepS S M) (C : GX3) : ∃ C', fX3_read C S = some C' ∧ RepC M C' := by
  have h1 := w.n1
  unfold fX3_read
  rw [h.1]
  obtain ⟨o, e, o1, o2, o3⟩ := lp_inv (step := tX3_read_15) (s := (0, ((pX3_catches C), nI (mN M), 0))) (fun i s => s.1 = nI i ∧ pX3_grains s.2 = nI (mN M) ∧ pX3_open s.2 = 0 ∧ ∀ x, x < i → pX3_catches s.2 x = 0) (fun o => pX3_grains o = nI (mN M) ∧ pX3_open o = 0 ∧ ∀ x, x < mN M → pX3_catches o x = 0) (mN M) (by omega) ⟨rfl, rfl, rfl, fun x hx => absurd hx (Nat.not_lt_zero _)⟩
    (fun i s hi ⟨a1, a2, a3, a4⟩ => by
      obtain ⟨x, K⟩ := s
      dsimp only at a1 a2 a3 a4
      subst a1
      unfold tX3_read_15
      dsimp only
      rw [a2, if_neg (i_nle hi (by omega))]
      simp only [gI (i := i) (N := 121) (by omega) (by omega)]
      rw [i_cl (by omega)]
      refine ⟨_, rfl, i_inc i, rfl, a3, fun y hy => ?_⟩
      by_cases q : y = i
      · rw [q]; exact pk_us
      · exact (pk_un q).trans (a4 y (by omega)))
    (fun s ⟨a1, a2, a3, a4⟩ => by
      refine ⟨s.2, ?_, a2, a3, a4⟩
      unfold tX3_read_15
      rw [a1, a2, if_pos (i_ple (Nat.le_refl _) (by omega))])
  rw [e]
  simp only [Option.bind_some]
  obtain ⟨p, e2, p1⟩ := lp_inv (step := tX3_read_38 S) (s := (0, o)) (fun i s => s.1 = nI i ∧ pX3_grains s.2 = nI (mN M) ∧ pX3_open s.2 = nI (cnt (fun r => (scr M r).isNone) i) ∧ ∀ x, x < mN M → pX3_catches s.2 x = nI (cnt (fun r => decide (scr M r = some x)) i)) (fun p => RepC M p) 40 (by omega) ⟨rfl, o1, o2, o3⟩
    (fun i s hi ⟨a1, a2, a3, a4⟩ => by
      obtain ⟨x, K⟩ := s
      dsimp only at a1 a2 a3 a4
      subst a1
      unfold tX3_read_38 jX3_read_1
      dsimp only
      rw [if_neg (show ¬ (40 : Int32) ≤ nI i from i_nle (a := 40) hi (by omega)), s_first w h hi]
      simp only [Option.bind_some]
      rw [igbO (N := mN M) h1 (fun g e => scr_lt e) h.1]
      cases es : scr M i with
      | none =>
        rw [if_pos rfl]
        refine ⟨_, rfl, i_inc i, a2, ?_, fun y hy => ?_⟩
        · show pX3_open K + 1 = _
          rw [a3, i_inc, cnt_s, es]; rfl
        · show pX3_catches K y = _
          rw [a4 y hy, cnt_s, es]; rfl
      | some g =>
        have hg := scr_lt es
        rw [if_neg (fun z => by cases z), oI_some]
        simp only [gI (i := g) (N := 121) (by omega) (by omega)]
        rw [i_cl (by omega), a4 g hg]
        refine ⟨_, rfl, i_inc i, a2, ?_, fun y hy => ?_⟩
        · show pX3_open K = _
          rw [a3, cnt_s, es]; rfl
        · rw [cnt_s, es]
          by_cases q : y = g
          · rw [q, decide_eq_true rfl]
            exact pk_us.trans (i_inc _)
          · rw [decide_eq_false (show ¬ some g = some y from fun z => by cases z; exact q rfl)]
            exact (pk_un q).trans (a4 y hy))
    (fun s ⟨a1, a2, a3, a4⟩ => by
      refine ⟨s.2, ?_, a2, a3, a4⟩
      unfold tX3_read_38
      rw [a1, if_pos (show (40 : Int32) ≤ nI 40 from i_ple (a := 40) (Nat.le_refl _) (by omega))])
  rw [e2]
  exact ⟨p, rfl, p1⟩
theorem s_best {M : GM} (w : WF M) (h0 : 0 < mN M) {C : GX3} (h : RepC M C) : fX3_bestGrain C = some (nI (bst M)) := by
  have h1 := w.n1
  unfold fX3_bestGrain
  refine lp_fub (o := nI (bst M)) (fun i => (nI (bstF (cth M) i), nI (i + 1))) (mN M - 1) (by omega) rfl (fun i hi => ?_) ?_ rfl
  · have hb := bstF_le (cth M) i
    have c1 := cth_le M (i + 1)
    have c2 := cth_le M (bstF (cth M) i)
    unfold tX3_bestGrain_4 jX3_bestGrain_1
    dsimp only
    rw [h.1, if_neg (i_nle (show i + 1 < mN M by omega) (by omega))]
    simp only [gI (i := i + 1) (N := 121) (by omega) (by omega), gI (i := bstF (cth M) i) (N := 121) (by omega) (by omega)]
    rw [i_cl (by omega), i_cl (by omega), h.2.2 _ (show i + 1 < mN M by omega), h.2.2 _ (show bstF (cth M) i < mN M by omega), ifc (i_le (by omega) (by omega)), bstF, i_inc]
    by_cases q : cth M (i + 1) ≤ cth M (bstF (cth M) i)
    · rw [if_pos q, if_pos q]
    · rw [if_neg q, if_neg q]
  · unfold tX3_bestGrain_4
    dsimp only
    rw [h.1, if_pos (i_ple (show mN M ≤ mN M - 1 + 1 by omega) (by omega))]
    rfl
theorem bst_lt {M : GM} (h0 : 0 < mN M) : bst M < mN M := by
  have := bstF_le (cth M) (mN M - 1)
  unfold bst
  omega
