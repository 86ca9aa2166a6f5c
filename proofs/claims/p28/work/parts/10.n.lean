/-! ===== the class's trees ===== -/
/-- the second height over x, of the grains of the k highest numbers -/
def sec (M : GM) : Nat → Nat → Nat
  | 0, _ => 0
  | j + 1, x => if mH M (mN M - (j + 1)) = x + 1 then (if hgt M (mN M - (j + 1)) + 1 ≤ hi M (mN M - j) x then max (sec M j x) (hgt M (mN M - (j + 1)) + 1) else hi M (mN M - j) x) else sec M j x
theorem sec_le {M : GM} (w : WF M) {x : Nat} : ∀ {j : Nat}, j ≤ mN M → sec M j x ≤ hi M (mN M - j) x
  | 0, _ => Nat.zero_le _
  | j + 1, h => by
    have ih := sec_le w (x := x) (show j ≤ mN M by omega)
    rw [sec]
    by_cases q : mH M (mN M - (j + 1)) = x + 1
    · rw [if_pos q, hi_st w (by omega) q, show mN M - (j + 1) + 1 = mN M - j by omega]
      by_cases q2 : hgt M (mN M - (j + 1)) + 1 ≤ hi M (mN M - j) x
      · rw [if_pos q2]; omega
      · rw [if_neg q2]; omega
    · rw [if_neg q, hi_ne w q, show mN M - (j + 1) + 1 = mN M - j by omega]
      exact ih
def hws (M : GM) (j : Nat) : Nat := mxF (fun x => hi M (mN M - j) x + sec M j x) (mN M)
theorem mxF_one {f f' : Nat → Nat} {h v : Nat} (hh : f' h = max (f h) v) (ho : ∀ x, x ≠ h → f' x = f x) : ∀ {n : Nat}, h < n → mxF f' n = max (mxF f n) v
  | n + 1, hn => by
    rw [mxF_s, mxF_s]
    by_cases q : h = n
    · subst q
      rw [hh, mxF_ext (f := f') (g := f) (fun i hi => ho i (by omega))]
      omega
    · rw [mxF_one hh ho (show h < n by omega), ho n (by omega)]
      omega
theorem hws_st {M : GM} (w : WF M) {j : Nat} (hj : j < mN M) : hws M (j + 1) = max (hws M j) (wv M (mN M - (j + 1))) := by
  have hin : mN M - (j + 1) < mN M := by omega
  have hii := w.h hin
  have e1 : mN M - (j + 1) + 1 = mN M - j := by omega
  unfold hws wv
  by_cases q : mH M (mN M - (j + 1)) = 0
  · rw [if_pos q]
    have : mxF (fun x => hi M (mN M - (j + 1)) x + sec M (j + 1) x) (mN M) = mxF (fun x => hi M (mN M - j) x + sec M j x) (mN M) := mxF_ext (fun x hx => by
      show hi M (mN M - (j + 1)) x + sec M (j + 1) x = hi M (mN M - j) x + sec M j x
      rw [hi_ne w (show mH M (mN M - (j + 1)) ≠ x + 1 by omega), e1, sec, if_neg (show ¬ mH M (mN M - (j + 1)) = x + 1 by omega)])
    rw [this]; omega
  · rw [if_neg q]
    refine mxF_one (h := mH M (mN M - (j + 1)) - 1) ?_ (fun x hx => ?_) (by omega)
    · have qh : mH M (mN M - (j + 1)) = mH M (mN M - (j + 1)) - 1 + 1 := by omega
      have hs := sec_le w (x := mH M (mN M - (j + 1)) - 1) (show j ≤ mN M by omega)
      show hi M (mN M - (j + 1)) (mH M (mN M - (j + 1)) - 1) + sec M (j + 1) (mH M (mN M - (j + 1)) - 1) = max (hi M (mN M - j) (mH M (mN M - (j + 1)) - 1) + sec M j (mH M (mN M - (j + 1)) - 1)) _
      rw [hi_st w hin qh, e1, sec, if_pos qh]
      by_cases q2 : hgt M (mN M - (j + 1)) + 1 ≤ hi M (mN M - j) (mH M (mN M - (j + 1)) - 1)
      · rw [if_pos q2]; omega
      · rw [if_neg q2]; omega
    · show hi M (mN M - (j + 1)) x + sec M (j + 1) x = hi M (mN M - j) x + sec M j x
      rw [hi_ne w (show mH M (mN M - (j + 1)) ≠ x + 1 by omega), e1, sec, if_neg (show ¬ mH M (mN M - (j + 1)) = x + 1 by omega)]
theorem hws_rev {M : GM} (w : WF M) : ∀ {j : Nat}, j ≤ mN M → hws M j = mxF (fun i => wv M (mN M - (i + 1))) j
  | 0, _ => mxF_0 (fun x hx => by
      show hi M (mN M - 0) x + 0 = 0
      rw [Nat.sub_zero, hi_top w])
  | j + 1, h => by
    rw [hws_st w (by omega), mxF_s, hws_rev w (by omega)]
theorem rev_lng {M : GM} : mxF (fun i => wv M (mN M - (i + 1))) (mN M) = lng M := by
  apply Nat.le_antisymm
  · exact mxF_le (fun i hi => le_mxF (f := wv M) (show mN M - (i + 1) < mN M by omega))
  · refine mxF_le (fun i hi => ?_)
    have := le_mxF (f := fun i => wv M (mN M - (i + 1))) (i := mN M - (i + 1)) (n := mN M) (by omega)
    simp only [show mN M - (mN M - (i + 1) + 1) = i by omega] at this
    exact this
theorem hws_lng {M : GM} (w : WF M) : hws M (mN M) = lng M := (hws_rev w (Nat.le_refl _)).trans rev_lng
theorem wv_le {M : GM} (w : WF M) (i : Nat) : wv M i ≤ 241 := by
  have h1 := hi_le w (k := i + 1) (x := mH M i - 1)
  have h2 := hgt_le w (x := i)
  unfold wv
  split <;> omega
/-- the first way, up the numbers -/
def TU (M : GM) (i : Nat) (T : GX5) : Prop := pX5_grains T = nI (mN M) ∧ ∀ x, x < i → pX5_depths T x = nI (dep M x) ∧ pX5_roots T x = nI (rot M x) ∧ pX5_holding T x = 0 ∧ pX5_members T x = 1 ∧ pX5_highest T x = 0 ∧ pX5_second T x = 0
/-- the way down -/
def TD (M : GM) (j : Nat) (T : GX5) : Prop := pX5_grains T = nI (mN M) ∧ ∀ x, x < mN M → pX5_depths T x = nI (dep M x) ∧ pX5_roots T x = nI (rot M x) ∧ pX5_holding T x = nI (kv M (mN M - j) x) ∧ pX5_members T x = nI (cv M (mN M - j) x) ∧ pX5_highest T x = nI (hi M (mN M - j) x) ∧ pX5_second T x = nI (sec M j x)
def RepT (M : GM) (T : GX5) : Prop := pX5_grains T = nI (mN M) ∧ ∀ x, x < mN M → pX5_depths T x = nI (dep M x) ∧ pX5_roots T x = nI (rot M x) ∧ pX5_holding T x = nI (chl M x) ∧ pX5_members T x = nI (siz M x) ∧ pX5_highest T x = nI (hgt M x) ∧ pX5_second T x = nI (sec M (mN M) x)
theorem s_readFrom {M : GM} (w : WF M) {i : Nat} (hi : i < mN M) {T : GX5} (h : TU M i T) : ∃ T', fX5_readFromHolder (nI i) (hI (mH M i)) T = some T' ∧ TU M (i + 1) T' := by
  have h1 := w.n1
  have hh := w.h hi
  have key : ∀ d r, d = nI (dep M i) → r = nI (rot M i) → ∃ T', jX5_readFromHolder_2 (nI i) T d r = some T' ∧ TU M (i + 1) T' := fun d r hd hr => by
    unfold jX5_readFromHolder_2
    simp only [gI (i := i) (N := 121) (by omega) (by omega)]
    rw [i_cl (by omega)]
    refine ⟨_, rfl, h.1, fun x hx => ?_⟩
    by_cases q : x = i
    · subst q
      exact ⟨pk_us.trans hd, pk_us.trans hr, pk_us, pk_us, pk_us, pk_us⟩
    · have := h.2 x (by omega)
      exact ⟨(pk_un q).trans this.1, (pk_un q).trans this.2.1, (pk_un q).trans this.2.2.1, (pk_un q).trans this.2.2.2.1, (pk_un q).trans this.2.2.2.2.1, (pk_un q).trans this.2.2.2.2.2⟩
  unfold fX5_readFromHolder jX5_readFromHolder_1
  simp only [gI (i := i) (N := 121) (by omega) (by omega)]
  rw [igb5 (S := T) (N := mN M) h1 (show mH M i ≤ mN M by omega) h.1]
  by_cases q : mH M i = 0
  · rw [if_pos q, igb5 (N := mN M) h1 (show mH M i ≤ mN M by omega)]
    rotate_left
    · exact h.1
    rw [if_pos q]
    exact key _ _ (by rw [dep_eq w hi, if_pos q]; rfl) (by rw [rot_eq w hi, if_pos q])
  · rw [if_neg q, igb5 (N := mN M) h1 (show mH M i ≤ mN M by omega)]
    rotate_left
    · exact h.1
    rw [if_neg q, hI_s q]
    simp only [gI (i := mH M i - 1) (N := 121) (by omega) (by omega)]
    rw [i_cl (by omega), (h.2 (mH M i - 1) (by omega)).1, (h.2 (mH M i - 1) (by omega)).2.1, i_inc]
    exact key _ _ (by rw [dep_eq w hi, if_neg q]) (by rw [rot_eq w hi, if_neg q])
theorem s_addTo {M : GM} (w : WF M) {j : Nat} (hj : j < mN M) {T : GX5} (h : TD M j T) (q : mH M (mN M - (j + 1)) ≠ 0) : ∃ T', fX5_addToHolder (nI (mN M - (j + 1))) (nI (mH M (mN M - (j + 1)) - 1)) T = some T' ∧ TD M (j + 1) T' := by
  have h1 := w.n1
  have hin : mN M - (j + 1) < mN M := by omega
  have hii := w.h hin
  have e1 : mN M - (j + 1) + 1 = mN M - j := by omega
  obtain ⟨p1, p2⟩ := h
  generalize hI' : mN M - (j + 1) = i at *
  have qh : mH M i = mH M i - 1 + 1 := by omega
  generalize hx' : mH M i - 1 = x at *
  have hx : x < mN M := by omega
  obtain ⟨a1, a2, a3, a4, a5, a6⟩ := p2 x hx
  obtain ⟨b1, b2, b3, b4, b5, b6⟩ := p2 i hin
  rw [← e1] at a3 a4 a5 b3 b4 b5
  rw [hi_full w (Nat.le_refl _)] at b5
  rw [cv_full w (Nat.le_refl _)] at b4
  have g1 := hi_le w (k := i + 1) (x := x)
  have g2 := hgt_le w (x := i)
  have g3 := sec_le w (x := x) (show j ≤ mN M by omega)
  rw [← e1] at g3
  have oth : ∀ y, y < mN M → y ≠ x → mH M i ≠ y + 1 := fun y _ hy => by omega
  have fin : ∀ T', pX5_grains T' = nI (mN M) → pX5_depths T' = pX5_depths T → pX5_roots T' = pX5_roots T → pX5_holding T' = upd (pX5_holding T) x (nI (kv M (i + 1) x) + 1) → pX5_members T' = upd (pX5_members T) x (nI (cv M (i + 1) x) + nI (siz M i)) → (∀ y, y < mN M → y ≠ x → pX5_highest T' y = pX5_highest T y ∧ pX5_second T' y = pX5_second T y) → pX5_highest T' x = nI (max (hi M (i + 1) x) (hgt M i + 1)) → pX5_second T' x = nI (if hgt M i + 1 ≤ hi M (i + 1) x then max (sec M j x) (hgt M i + 1) else hi M (i + 1) x) → TD M (j + 1) T' := fun T' c0 c1 c2 c3 c4 c5 c6 c7 => by
    refine ⟨c0, fun y hy => ?_⟩
    rw [hI', c1, c2, c3, c4]
    obtain ⟨d1, d2, d3, d4, d5, d6⟩ := p2 y hy
    rw [← e1] at d3 d4 d5
    by_cases qy : y = x
    · subst qy
      refine ⟨d1, d2, ?_, ?_, ?_, ?_⟩
      · rw [pk_us, i_inc, kv_st hin qh]
      · rw [pk_us, i_add, cv_st w hin qh]
      · rw [c6, hi_st w hin qh]
      · rw [c7, sec, hI', if_pos qh, ← e1]
    · have hne := oth y hy qy
      refine ⟨d1, d2, ?_, ?_, ?_, ?_⟩
      · rw [pk_un qy, d3, kv_ne hne]
      · rw [pk_un qy, d4, cv_ne w hne]
      · rw [(c5 y hy qy).1, d5, hi_ne w hne]
      · rw [(c5 y hy qy).2, d6, sec, hI', if_neg hne]
  unfold fX5_addToHolder
  simp only [gI (i := i) (N := 121) (by omega) (by omega), gI (i := x) (N := 121) (by omega) (by omega)]
  rw [i_cl (by omega), i_cl (by omega), a3, a4, a5, a6, b4, b5]
  rw [show nI (hgt M i) + 1 = nI (hgt M i + 1) from i_inc _, ifc (i_le (by omega) (by omega)), ifc (i_le (by omega) (by omega))]
  by_cases q2 : hgt M i + 1 ≤ hi M (i + 1) x
  · rw [if_pos q2]
    by_cases q3 : hgt M i + 1 ≤ sec M j x
    · rw [if_pos q3]
      exact ⟨_, rfl, fin _ p1 rfl rfl rfl rfl (fun y _ _ => ⟨rfl, rfl⟩) (by
        show pX5_highest T x = _
        rw [a5, Nat.max_eq_left q2]) (by
        show pX5_second T x = _
        rw [a6, if_pos q2, Nat.max_eq_left q3])⟩
    · rw [if_neg q3]
      exact ⟨_, rfl, fin _ p1 rfl rfl rfl rfl (fun y _ hy => ⟨rfl, pk_un hy⟩) (by
        show pX5_highest T x = _
        rw [a5, Nat.max_eq_left q2]) (pk_us.trans (by
        rw [if_pos q2, Nat.max_eq_right (by omega)]))⟩
  · rw [if_neg q2]
    exact ⟨_, rfl, fin _ p1 rfl rfl rfl rfl (fun y _ hy => ⟨pk_un hy, pk_un hy⟩) (pk_us.trans (by
      rw [Nat.max_eq_right (by omega)])) (pk_us.trans (by
      rw [if_neg q2]))⟩
theorem hR_of' {h : Nat} (hh : h < 2147483648) : nI h + (-1) = hR h := by
  rw [← hR_of hh, Int32.sub_eq_add_neg]
theorem s_trees {S : GX4} {M : GM} (w : WF M) (h : RepS S M) (T : GX5) : ∃ T', fX5_read T S = some T' ∧ RepT M T' := by
  have h1 := w.n1
  unfold fX5_read
  rw [h.1]
  obtain ⟨o, e, o1⟩ := lp_inv (step := tX5_read_10 S) (s := (0, ((pX5_depths T), (pX5_roots T), (pX5_holding T), (pX5_members T), (pX5_highest T), (pX5_second T), nI (mN M)))) (fun i s => s.1 = nI i ∧ TU M i s.2) (fun o => TU M (mN M) o) (mN M) (by omega) ⟨rfl, rfl, fun x hx => absurd hx (Nat.not_lt_zero _)⟩
    (fun i s hi ⟨a1, a2⟩ => by
      obtain ⟨x, K⟩ := s
      dsimp only at a1 a2
      subst a1
      obtain ⟨K', e, k⟩ := s_readFrom w hi a2
      unfold tX5_read_10
      dsimp only
      rw [a2.1, if_neg (i_nle hi (by omega)), s_holderOf w h hi]
      simp only [Option.bind_some]
      rw [e]
      exact ⟨_, rfl, i_inc i, k⟩)
    (fun s ⟨a1, a2⟩ => by
      refine ⟨s.2, ?_, a2⟩
      unfold tX5_read_10
      rw [a1, a2.1, if_pos (i_ple (Nat.le_refl _) (by omega))])
  rw [e]
  simp only [Option.bind_some]
  rw [o1.1]
  obtain ⟨p, e2, p1⟩ := lp_inv (step := tX5_read_41 S) (s := (nI (mN M) - 1, o)) (fun j s => s.1 = hR (mN M - j) ∧ TD M j s.2) (fun p => TD M (mN M) p) (mN M) (by omega) ⟨hR_of (by omega), o1.1, fun x hx => by
      have := o1.2 x hx
      refine ⟨this.1, this.2.1, ?_, ?_, ?_, ?_⟩
      · rw [this.2.2.1, Nat.sub_zero, kv_top]; rfl
      · rw [this.2.2.2.1, Nat.sub_zero, cv_top w hx]; rfl
      · rw [this.2.2.2.2.1, Nat.sub_zero, hi_top w]; rfl
      · rw [this.2.2.2.2.2]; rfl⟩
    (fun j s hj ⟨a1, a2⟩ => by
      obtain ⟨x, K⟩ := s
      dsimp only at a1 a2
      subst a1
      have hin : mN M - (j + 1) < mN M := by omega
      have hii := w.h hin
      unfold tX5_read_41 jX5_read_1
      dsimp only
      rw [ifc (hR_neg (by omega)), if_neg (by omega), hR_s (by omega), show mN M - j - 1 = mN M - (j + 1) by omega, s_holderOf w h hin]
      simp only [Option.bind_some]
      rw [igb5 (N := mN M) h1 (show mH M (mN M - (j + 1)) ≤ mN M by omega) a2.1, show nI (mN M - (j + 1)) + (-1) = hR (mN M - (j + 1)) from hR_of' (by omega)]
      by_cases q : mH M (mN M - (j + 1)) = 0
      · rw [if_pos q]
        refine ⟨_, rfl, rfl, a2.1, fun y hy => ?_⟩
        have hne : mH M (mN M - (j + 1)) ≠ y + 1 := by omega
        obtain ⟨d1, d2, d3, d4, d5, d6⟩ := a2.2 y hy
        have e1 : mN M - (j + 1) + 1 = mN M - j := by omega
        refine ⟨d1, d2, ?_, ?_, ?_, ?_⟩
        · rw [d3, kv_ne hne, e1]
        · rw [d4, cv_ne w hne, e1]
        · rw [d5, hi_ne w hne, e1]
        · rw [d6, sec, if_neg hne]
      · rw [if_neg q, hI_s q]
        obtain ⟨K', e, k⟩ := s_addTo w hj a2 q
        rw [e]
        exact ⟨_, rfl, rfl, k⟩)
    (fun s ⟨a1, a2⟩ => by
      refine ⟨s.2, ?_, a2⟩
      unfold tX5_read_41
      rw [a1, ifc (hR_neg (by omega)), if_pos (by omega)])
  rw [e2]
  refine ⟨p, rfl, p1.1, fun x hx => ?_⟩
  have := p1.2 x hx
  rw [Nat.sub_self] at this
  refine ⟨this.1, this.2.1, ?_, ?_, ?_, this.2.2.2.2.2⟩
  · rw [this.2.2.1, kv_0]
  · rw [this.2.2.2.1, cv_full w (Nat.zero_le _)]
  · rw [this.2.2.2.2.1, hi_full w (Nat.zero_le _)]
