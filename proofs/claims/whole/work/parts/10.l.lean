/-! ===== the reference: grains are taken off ===== -/
theorem r_adds_ex {f : Nat → Int32} {k : Nat} {a b d : Int32} (hk : f 0 = nI k) (h : k < 121) : ∃ U : Nat → Int32, (∀ R, fX8_adds a b d (f, R) = some (U, R)) ∧ U 0 = nI (k + 1) ∧ U (10 + 3 * k) = a ∧ U (10 + 3 * k + 1) = b + 1 ∧ U (10 + 3 * k + 2) = d ∧ ∀ j, j ≠ 0 → j ≠ 10 + 3 * k → j ≠ 10 + 3 * k + 1 → j ≠ 10 + 3 * k + 2 → U j = f j := by
  refine ⟨upd (upd (upd (upd f (10 + 3 * k) a) (10 + 3 * k + 1) (b + 1)) (10 + 3 * k + 2) d) 0 (nI (k + 1)), fun R => r_adds_raw (G := (f, R)) hk h, pk_us, ?_, ?_, ?_, fun j h0 h1 h2 h3 => ?_⟩
  · rw [pk_un (by omega), pk_un (by omega), pk_un (by omega), pk_us]
  · rw [pk_un (by omega), pk_un (by omega), pk_us]
  · rw [pk_un (by omega), pk_us]
  · rw [pk_un h0, pk_un h3, pk_un h2, pk_un h1]
def RJ (M : GM) (fl : Nat → Bool) (f0 : Nat → Int32) (i : Nat) (f : Nat → Int32) : Prop := (∀ x, x < mN M → f (10 + 3 * x) = nI ((pkF M fl i).1 x)) ∧ (∀ x, x < mN M → f (10 + 3 * x + 1) = nI ((pkF M fl i).2.1 x)) ∧ (∀ x, x < mN M → f (10 + 3 * x + 2) = (pkF M fl i).2.2 x) ∧ (∀ j, 0 < j → j < 10 → f j = f0 j)
theorem r_takes {G : GX8} {M : GM} (w : WF M) (h : RepR (pX8_s G) M) {fl : Nat → Bool} (hc : Cl M fl) (hg : ∀ i, i < mN M → pX8_goes G i = if fl i then 1 else 0) : ∃ G', fX8_takesAway G = some (nI (mN M - rk fl (mN M)), G') ∧ RepR (pX8_s G') (drpM M fl) ∧ Fr G G' := by
  have h1 := w.n1
  have hl := rk_le fl (mN M)
  unfold fX8_takesAway
  rw [n_cl0, h.1]
  obtain ⟨o, e, o1, o2, o3⟩ := lp_inv (step := tX8_takesAway_11 G) (s := (0, 0, G))
    (fun i s => s.1 = nI (rk fl i) ∧ s.2.1 = nI i ∧ RJ M fl (pX8_s G) i (pX8_s s.2.2) ∧ Fr G s.2.2 ∧ pX8_goes s.2.2 = pX8_goes G ∧ (∀ x, x < i → pX8_becomes s.2.2 x = nI (rk fl x)))
    (fun o => o.1 = nI (rk fl (mN M)) ∧ RJ M fl (pX8_s G) (mN M) (pX8_s o.2) ∧ Fr G o.2) (mN M) (by omega)
    ⟨rfl, rfl, ⟨h.2.1, h.2.2.1, h.2.2.2.1, fun j _ _ => rfl⟩, rfl, rfl, fun x hx => absurd hx (Nat.not_lt_zero _)⟩
    (fun i s hi ⟨a1, a2, ⟨b1, b2, b3, b4⟩, a4, a5, a6⟩ => by
      obtain ⟨x, y, T⟩ := s
      dsimp only at a1 a2 b1 b2 b3 b4 a4 a5 a6
      subst a1 a2
      have hri := rk_le fl i
      have hh := w.h hi
      have hci := w.c hi
      have phi := pk_hi (M := M) (fl := fl) (show rk fl i ≤ i from hri)
      have ci : pX8_s T (10 + 3 * i) = nI (mC M i) := by rw [b1 i hi, phi.1]
      have hi' : pX8_s T (10 + 3 * i + 1) = nI (mH M i) := by rw [b2 i hi, phi.2.1]
      have si : pX8_s T (10 + 3 * i + 2) = mW M i := by rw [b3 i hi, phi.2.2]
      have of0 : ∀ R, fX8_of (nI i) 0 (pX8_s T, R) = some (nI (mC M i)) := fun R => by
        rw [i_0, r_of (by omega) (by omega), Nat.add_zero]
        exact congrArg some ci
      have of2 : ∀ R, fX8_of (nI i) 2 (pX8_s T, R) = some (mW M i) := fun R => by
        rw [show (2 : Int32) = nI 2 from rfl, r_of (by omega) (by omega)]
        exact congrArg some si
      have ofh : ∀ R, fX8_holder (nI i) (pX8_s T, R) = some (hR (mH M i)) := fun R => by
        unfold fX8_holder
        rw [i_1, r_of (by omega) (by omega)]
        show some (pX8_s T (10 + 3 * i + 1) - 1) = _
        rw [hi', hR_of (by omega)]
      have bc : ∀ x, x < i + 1 → upd (pX8_becomes T) i (nI (rk fl i)) x = nI (rk fl x) := fun x hx => by
        by_cases q : x = i
        · rw [q, pk_us]
        · rw [pk_un q]; exact a6 x (by omega)
      unfold tX8_takesAway_11 jX8_takesAway_1
      dsimp only
      rw [n_cl0, h.1, if_neg (i_nle hi (by omega))]
      simp only [gI (i := i) (N := 121) (by omega) (by omega)]
      rw [i_cl (by omega), a5, hg i hi]
      cases ef : fl i with
      | true =>
        rw [if_neg (show ¬ (if true = true then (1 : Int32) else 0) = 0 by decide)]
        refine ⟨_, rfl, by rw [rk_t ef], i_inc i, ⟨?_, ?_, ?_, b4⟩, a4, rfl, bc⟩
        · intro x hx
          rw [pkF, if_pos ef]; exact b1 x hx
        · intro x hx
          rw [pkF, if_pos ef]; exact b2 x hx
        · intro x hx
          rw [pkF, if_pos ef]; exact b3 x hx
      | false =>
        rw [if_pos (show (if false = true then (1 : Int32) else 0) = 0 by decide)]
        have j2 : ∀ y, y = hR (nwH M fl i) → ∃ s', jX8_takesAway_2 (nI (rk fl i), nI i, T) y = some (.inl s') ∧ s'.1 = nI (rk fl (i + 1)) ∧ s'.2.1 = nI (i + 1) ∧ RJ M fl (pX8_s G) (i + 1) (pX8_s s'.2.2) ∧ Fr G s'.2.2 ∧ pX8_goes s'.2.2 = pX8_goes G ∧ (∀ x, x < i + 1 → pX8_becomes s'.2.2 x = nI (rk fl x)) := fun y hy => by
          unfold jX8_takesAway_2 jX8_takesAway_1
          dsimp only
          rw [of0]
          simp only [Option.bind_some]
          rw [of2]
          simp only [Option.bind_some]
          rw [hy, i_cl (by omega), n_cl0]
          have hnw : nwH M fl i < 2147483648 := by
            unfold nwH
            have := rk_le fl (mH M i - 1)
            split <;> omega
          obtain ⟨U, u0, u1, u2, u3, u4, u5⟩ := r_adds_ex (f := upd (pX8_s T) 0 (nI (rk fl i))) (k := rk fl i) (a := nI (mC M i)) (b := hR (nwH M fl i)) (d := mW M i) pk_us (by omega)
          rw [u0]
          rw [hR_inc hnw] at u3
          simp only [Option.bind_some]
          have v5 : ∀ j, j ≠ 0 → j ≠ 10 + 3 * rk fl i → j ≠ 10 + 3 * rk fl i + 1 → j ≠ 10 + 3 * rk fl i + 2 → U j = pX8_s T j := fun j h0 h1 h2 h3 => (u5 j h0 h1 h2 h3).trans (pk_un h0)
          refine ⟨_, rfl, by rw [rk_f ef]; exact i_inc _, i_inc i, ⟨?_, ?_, ?_, ?_⟩, a4, a5, bc⟩
          · intro x hx
            rw [pkF, if_neg (by rw [ef]; decide)]
            show U (10 + 3 * x) = nI (un _ _ _ x)
            by_cases q : x = rk fl i
            · rw [q, u2, un_s]
            · rw [un_n q, v5 _ (by omega) (by omega) (by omega) (by omega)]; exact b1 x hx
          · intro x hx
            rw [pkF, if_neg (by rw [ef]; decide)]
            show U (10 + 3 * x + 1) = nI (un _ _ _ x)
            by_cases q : x = rk fl i
            · rw [q, u3, un_s]
            · rw [un_n q, v5 _ (by omega) (by omega) (by omega) (by omega)]; exact b2 x hx
          · intro x hx
            rw [pkF, if_neg (by rw [ef]; decide)]
            show U (10 + 3 * x + 2) = un _ _ _ x
            by_cases q : x = rk fl i
            · rw [q, u4, un_s]
            · rw [un_n q, v5 _ (by omega) (by omega) (by omega) (by omega)]; exact b3 x hx
          · intro j j0 j1
            exact (v5 j (by omega) (by omega) (by omega) (by omega)).trans (b4 j j0 j1)
        rw [ofh]
        simp only [Option.bind_some]
        rw [ifc (hR_nn (by omega))]
        by_cases q : mH M i = 0
        · rw [if_neg (fun z => z q)]
          exact j2 (-1) (by unfold nwH; rw [if_pos q]; rfl)
        · rw [if_pos q, hR_s q]
          simp only [gI (i := mH M i - 1) (N := 121) (by omega) (by omega)]
          rw [i_cl (show mH M i - 1 < 2147483648 by omega), bc _ (by omega)]
          exact j2 _ (by unfold nwH; rw [if_neg q, hR_s (Nat.succ_ne_zero _)]; rfl))
    (fun s ⟨a1, a2, a3, a4, a5, a6⟩ => by
      refine ⟨(s.1, s.2.2), ?_, a1, a3, a4⟩
      unfold tX8_takesAway_11
      rw [n_cl0, a2, h.1, if_pos (i_ple (Nat.le_refl _) (by omega))])
  rw [e]
  simp only [Option.bind_some]
  have hk : (10 : Int32) + 3 * o.1 = nI (10 + 3 * rk fl (mN M)) := by rw [o1]; simp (disch := omega) only [i_lit, i_add, i_mul, i_sub, i_lt, i_le, i_eq, i_cl, i_max, i_min, i_rem, i_div, i_neg, i_nn, i_n4, i_n4', Option.bind_some, Option.some.injEq, Sum.inl.injEq, Sum.inr.injEq, Prod.mk.injEq, gdn, if_pos, if_neg, Nat.add_zero, Nat.zero_add, and_true, true_and, and_self, ite_true, ite_false, if_true, if_false, reduceIte]
  rw [hk]
  obtain ⟨p, e2, p1, p2⟩ := lp_inv (step := tX8_takesAway_112) (s := (nI (10 + 3 * rk fl (mN M)), ((upd (pX8_s o.2) 0 o.1), (pX8_aside o.2), (pX8_past o.2), (pX8_known o.2), (pX8_kept o.2), (pX8_isKept o.2), (pX8_pad o.2), (pX8_length o.2), (pX8_whyError o.2), (pX8_whyNumber o.2), (pX8_whySpot o.2), (pX8_lots o.2), (pX8_walker o.2), (pX8_steps o.2), (pX8_goes o.2), (pX8_becomes o.2), (pX8_spot o.2), (pX8_isForm o.2), (pX8_letter o.2), (pX8_told o.2), (pX8_highest o.2))))
    (fun i s => s.1 = nI (10 + 3 * rk fl (mN M) + i) ∧ (∀ j, j < 10 + 3 * rk fl (mN M) → pX8_s s.2 j = upd (pX8_s o.2) 0 o.1 j) ∧ Fr G s.2)
    (fun p => (∀ j, j < 10 + 3 * rk fl (mN M) → pX8_s p j = upd (pX8_s o.2) 0 o.1 j) ∧ Fr G p) (363 - 3 * rk fl (mN M)) (by omega)
    ⟨rfl, fun j hj => rfl, o3⟩
    (fun i s hi ⟨a1, a2, a3⟩ => by
      obtain ⟨y, T⟩ := s
      dsimp only at a1 a2 a3
      subst a1
      unfold tX8_takesAway_112
      dsimp only
      rw [if_neg (show ¬ (373 : Int32) ≤ nI (10 + 3 * rk fl (mN M) + i) from i_nle (a := 373) (by omega) (by omega)), gI (by omega) (by omega), i_cl (by omega)]
      refine ⟨_, rfl, i_inc _, fun j hj => ?_, a3⟩
      show upd _ _ _ _ = _
      rw [pk_un (by omega)]; exact a2 j hj)
    (fun s ⟨a1, a2, a3⟩ => by
      refine ⟨s.2, ?_, a2, a3⟩
      unfold tX8_takesAway_112
      rw [a1, show 10 + 3 * rk fl (mN M) + (363 - 3 * rk fl (mN M)) = 373 by omega, if_pos (show (373 : Int32) ≤ nI 373 from i_ple (a := 373) (Nat.le_refl _) (by omega))])
  rw [e2]
  simp only [Option.bind_some]
  rw [o1, i_sub hl, show (8 : Int32).toNatClampNeg = 8 from rfl]
  obtain ⟨c1, c2, c3, c4⟩ := o2
  have q0 : ∀ v j, j ≠ 8 → j < 10 + 3 * rk fl (mN M) → j ≠ 0 → upd (pX8_s p) 8 v j = pX8_s o.2 j := fun v j h8 hj h0 => by
    rw [pk_un h8, p1 j hj, pk_un h0]
  refine ⟨_, rfl, ⟨?_, fun x hx => ?_, fun x hx => ?_, fun x hx => ?_, ?_, fun k hk => ?_, ?_, ?_, ?_, ?_⟩, p2⟩
  · exact (p1 0 (by omega)).trans (pk_us.trans o1)
  · have hx' : x < rk fl (mN M) := hx
    exact (q0 _ _ (by omega) (by omega) (by omega)).trans (c1 x (by omega))
  · have hx' : x < rk fl (mN M) := hx
    exact (q0 _ _ (by omega) (by omega) (by omega)).trans (c2 x (by omega))
  · have hx' : x < rk fl (mN M) := hx
    exact (q0 _ _ (by omega) (by omega) (by omega)).trans (c3 x (by omega))
  · exact (q0 0 1 (by omega) (by omega) (by omega)).trans ((c4 _ (by omega) (by omega)).trans h.2.2.2.2.1)
  · exact (q0 _ (2 + k) (by omega) (by omega) (by omega)).trans ((c4 _ (by omega) (by omega)).trans (h.2.2.2.2.2.1 k hk))
  · exact (q0 0 6 (by omega) (by omega) (by omega)).trans ((c4 _ (by omega) (by omega)).trans h.2.2.2.2.2.2.1)
  · exact (q0 0 7 (by omega) (by omega) (by omega)).trans ((c4 _ (by omega) (by omega)).trans h.2.2.2.2.2.2.2.1)
  · refine Eq.trans (pk_us (f := pX8_s p) (k := 8)) ?_
    have e8 : pX8_s p 8 = mA M := (p1 8 (by omega)).trans ((pk_un (by omega)).trans ((c4 _ (by omega) (by omega)).trans h.2.2.2.2.2.2.2.2.1))
    rw [e8]
    rfl
  · exact (q0 0 9 (by omega) (by omega) (by omega)).trans ((c4 _ (by omega) (by omega)).trans h.2.2.2.2.2.2.2.2.2)
theorem r_break {G : GX8} {M : GM} (w : WF M) (h : RepR (pX8_s G) M) {t : Nat} (ht : t < mN M) : ∃ G', fX8_goBreak (nI t) G = some (nI (mN M - rk (inT M t) (mN M)), G') ∧ RepR (pX8_s G') (drpM M (inT M t)) ∧ Fr G G' := by
  have h1 := w.n1
  unfold fX8_goBreak
  obtain ⟨o, e, o1, o2, o3⟩ := lp_inv (step := tX8_goBreak_2 (nI t)) (s := (0, G)) (fun i s => s.1 = nI i ∧ (∀ x, x < i → pX8_goes s.2 x = if inT M t x then 1 else 0) ∧ pX8_s s.2 = pX8_s G ∧ Fr G s.2) (fun o => (∀ x, x < mN M → pX8_goes o x = if inT M t x then 1 else 0) ∧ pX8_s o = pX8_s G ∧ Fr G o) (mN M) (by omega) ⟨rfl, fun x hx => absurd hx (Nat.not_lt_zero _), rfl, rfl⟩
    (fun i s hi ⟨a1, a2, a3, a4⟩ => by
      obtain ⟨y, T⟩ := s
      dsimp only at a1 a2 a3 a4
      subst a1
      have hh := w.h hi
      have hT : RepR (pX8_s T) M := by rw [a3]; exact h
      have j1 : ∀ b : Bool, b = inT M t i → ∃ s', jX8_goBreak_1 (nI i, T) (if b then 1 else 0) = some (.inl s') ∧ s'.1 = nI (i + 1) ∧ (∀ x, x < i + 1 → pX8_goes s'.2 x = if inT M t x then 1 else 0) ∧ pX8_s s'.2 = pX8_s G ∧ Fr G s'.2 := fun b hb => by
        unfold jX8_goBreak_1
        dsimp only
        rw [gI (by omega) (by omega), i_cl (by omega)]
        refine ⟨_, rfl, i_inc i, fun x hx => ?_, a3, a4⟩
        show upd _ _ _ x = _
        by_cases q : x = i
        · rw [q, pk_us, ← hb]
          cases b <;> rfl
        · rw [pk_un q]; exact a2 x (by omega)
      have hor := inT_or w (t := t) hi
      unfold tX8_goBreak_2 jX8_goBreak_2 jX8_goBreak_3
      dsimp only
      rw [n_cl0, hT.1, if_neg (i_nle hi (by omega)), r_holder w hT hi]
      simp only [Option.bind_some]
      rw [ifc (i_eq (by omega) (by omega)), ifc (hR_neg (by omega))]
      by_cases q : i = t
      · rw [if_pos q]
        exact j1 true (by rw [hor, decide_eq_true q]; rfl)
      · rw [if_neg q]
        rw [decide_eq_false q, Bool.false_or] at hor
        by_cases q2 : mH M i = 0
        · rw [if_pos q2]
          exact j1 false (by rw [hor, decide_eq_false (by omega)]; rfl)
        · rw [if_neg q2, hR_s q2, gI (by omega) (by omega), i_cl (by omega), a2 _ (by omega)]
          rw [decide_eq_true q2, Bool.true_and] at hor
          cases e : inT M t (mH M i - 1) with
          | true =>
            rw [if_neg (show ¬ (if true = true then (1 : Int32) else 0) = 0 by decide)]
            exact j1 true (by rw [hor, e])
          | false =>
            rw [if_pos (show (if false = true then (1 : Int32) else 0) = 0 by decide)]
            exact j1 false (by rw [hor, e]))
    (fun s ⟨a1, a2, a3, a4⟩ => by
      refine ⟨s.2, ?_, a2, a3, a4⟩
      have hT : pX8_s s.2 0 = nI (mN M) := by rw [a3]; exact h.1
      unfold tX8_goBreak_2
      rw [n_cl0, a1, hT, if_pos (i_ple (Nat.le_refl _) (by omega))])
  rw [e]
  simp only [Option.bind_some]
  obtain ⟨G', e2, r2, f2⟩ := r_takes (G := o) w (by rw [o2]; exact h) (inT_cl w (t := t)) o1
  rw [e2]
  exact ⟨G', rfl, r2, o3.tr f2⟩
theorem r_wash {G : GX8} {M : GM} (w : WF M) (h : RepR (pX8_s G) M) : ∃ G', fX8_goWash G = some (nI (mN M - rk (tip M) (mN M)), G') ∧ RepR (pX8_s G') (drpM M (tip M)) ∧ Fr G G' := by
  have h1 := w.n1
  unfold fX8_goWash
  obtain ⟨o, e, o1, o2, o3⟩ := lp_inv (step := tX8_goWash_2) (s := (0, G)) (fun i s => s.1 = nI i ∧ (∀ x, x < i → pX8_goes s.2 x = if tip M x then 1 else 0) ∧ pX8_s s.2 = pX8_s G ∧ Fr G s.2) (fun o => (∀ x, x < mN M → pX8_goes o x = if tip M x then 1 else 0) ∧ pX8_s o = pX8_s G ∧ Fr G o) (mN M) (by omega) ⟨rfl, fun x hx => absurd hx (Nat.not_lt_zero _), rfl, rfl⟩
    (fun i s hi ⟨a1, a2, a3, a4⟩ => by
      obtain ⟨y, T⟩ := s
      dsimp only at a1 a2 a3 a4
      subst a1
      have hh := w.h hi
      have hl := chl_le M i
      have hT : RepR (pX8_s T) M := by rw [a3]; exact h
      have j1 : ∀ b : Bool, b = tip M i → ∃ s', jX8_goWash_1 (nI i, T) (if b then 1 else 0) = some (.inl s') ∧ s'.1 = nI (i + 1) ∧ (∀ x, x < i + 1 → pX8_goes s'.2 x = if tip M x then 1 else 0) ∧ pX8_s s'.2 = pX8_s G ∧ Fr G s'.2 := fun b hb => by
        unfold jX8_goWash_1
        dsimp only
        rw [gI (by omega) (by omega), i_cl (by omega)]
        refine ⟨_, rfl, i_inc i, fun x hx => ?_, a3, a4⟩
        show upd _ _ _ x = _
        by_cases q : x = i
        · rw [q, pk_us, ← hb]
          cases b <;> rfl
        · rw [pk_un q]; exact a2 x (by omega)
      unfold tX8_goWash_2 jX8_goWash_2
      dsimp only
      rw [n_cl0, hT.1, if_neg (i_nle hi (by omega)), r_holder w hT hi]
      simp only [Option.bind_some]
      rw [ifc (hR_neg (by omega))]
      by_cases q : mH M i = 0
      · rw [if_pos q]
        exact j1 false (by unfold tip; rw [decide_eq_false (by omega)]; rfl)
      · rw [if_neg q, r_children w hT hi]
        simp only [Option.bind_some]
        rw [ifc (show nI (chl M i) = 0 ↔ chl M i = 0 from i_eq (b := 0) (by omega) (by omega))]
        by_cases q2 : chl M i = 0
        · rw [if_pos q2]
          exact j1 true (by unfold tip; rw [decide_eq_true q, decide_eq_true q2]; rfl)
        · rw [if_neg q2]
          exact j1 false (by unfold tip; rw [decide_eq_false q2, Bool.and_false]))
    (fun s ⟨a1, a2, a3, a4⟩ => by
      refine ⟨s.2, ?_, a2, a3, a4⟩
      have hT : pX8_s s.2 0 = nI (mN M) := by rw [a3]; exact h.1
      unfold tX8_goWash_2
      rw [n_cl0, a1, hT, if_pos (i_ple (Nat.le_refl _) (by omega))])
  rw [e]
  simp only [Option.bind_some]
  obtain ⟨G', e2, r2, f2⟩ := r_takes (G := o) w (by rw [o2]; exact h) (tip_cl w) o1
  rw [e2]
  exact ⟨G', rfl, r2, o3.tr f2⟩
/-! ===== the reference: refusals, rain ===== -/
theorem r_blocked {G : GX8} {M : GM} (w : WF M) (h : RepR (pX8_s G) M) {r : Nat} (hr : r < 40) : fX8_isBlocked (nI r) G = some (if (at_ M (rimC r)).isSome then 1 else 0) := by
  unfold fX8_isBlocked
  rw [r_rimC r hr]
  simp only [Option.bind_some]
  rw [r_grainAt w h _ (rimC_lt r hr)]
  simp only [Option.bind_some]
  rw [ifc (oI_neg (at_31 w))]
  cases at_ M (rimC r) with
  | none => rfl
  | some g => rw [if_neg (fun z => by cases z)]; rfl
theorem r_draws0 {G : GX8} {M : GM} (h : RepR (pX8_s G) M) (hL : mL M < 10000) : ∃ G', fX8_draws G = some (nI (nxl (mL M)), G') ∧ RepR (pX8_s G') (lotM M (nxl (mL M))) ∧ Fr G G' := by
  have hk : jrem ((421 * (pX8_s G 1)) + 1663) 10000 = nI (nxl (mL M)) := by
    rw [show pX8_s G 1 = nI (mL M) from h.2.2.2.2.1]
    unfold nxl
    simp (disch := omega) only [i_lit, i_add, i_mul, i_sub, i_lt, i_le, i_eq, i_cl, i_max, i_min, i_rem, i_div, i_neg, i_nn, i_n4, i_n4', Option.bind_some, Option.some.injEq, Sum.inl.injEq, Sum.inr.injEq, Prod.mk.injEq, gdn, if_pos, if_neg, Nat.add_zero, Nat.zero_add, and_true, true_and, and_self, ite_true, ite_false, if_true, if_false, reduceIte]
  unfold fX8_draws
  rw [n_cl1, hk, pk_us]
  exact ⟨_, rfl, RepR_lot h (nxl (mL M)), rfl⟩
theorem r_rain1 {G : GX8} {M : GM} (w : WF M) (h : RepR (pX8_s G) M) {a k i : Nat} (hi : i < a) (ha : a < 100) : ∃ G', tX8_goRain_4 (nI a) (nI k, nI i, G) = some (.inl (nI (k + if rnS M then 1 else 0), nI (i + 1), G')) ∧ RepR (pX8_s G') (rnM M) ∧ Fr G G' := by
  have hL := nxl_lt (mL M)
  have h200 := w.2.2.2.2.2.2.1.2
  have hm : nxl (mL M) % 40 < 40 := Nat.mod_lt _ (by omega)
  have w1 := w.lot hL
  obtain ⟨G1, e1, b1, b2⟩ := r_draws0 h w.2.2.2.2.1
  unfold tX8_goRain_4 jX8_goRain_2 jX8_goRain_1
  dsimp only
  rw [if_neg (i_nle hi (by omega)), e1]
  simp only [Option.bind_some]
  rw [show jrem (nI (nxl (mL M))) 40 = nI (nxl (mL M) % 40) from i_rem (a := nxl (mL M)) (d := 40) (by omega) (by omega) (by omega), r_blocked w1 b1 hm]
  simp only [Option.bind_some]
  have hrn : rimC (nxl (mL M) % 40) = rnR M := by unfold rnR; rfl
  rw [at_lot, hrn]
  unfold rnS rnM
  cases e : at_ M (rnR M) with
  | some g =>
    rw [if_neg (show ¬ (if (some g).isSome = true then (1 : Int32) else 0) = 0 by simp)]
    have c6 : pX8_s G1 6 = mR M := b1.2.2.2.2.2.2.1
    have c7 : pX8_s G1 7 = mT M := b1.2.2.2.2.2.2.2.1
    have c8 : pX8_s G1 8 = mA M := b1.2.2.2.2.2.2.2.2.1
    have c9 : pX8_s G1 9 = mK M := b1.2.2.2.2.2.2.2.2.2
    rw [show (6 : Int32).toNatClampNeg = 6 from rfl, show (7 : Int32).toNatClampNeg = 7 from rfl, c6]
    rw [show (upd (pX8_s G1) 6 (mR M + 1)) 7 = mT M from by rw [pk_un (by omega), c7]]
    rw [i_inc]
    refine ⟨_, rfl, ?_, b2⟩
    have := RepR_cnt (f' := upd (upd (pX8_s G1) 6 (mR M + 1)) 7 (mT M + 1)) b1 (fun j hj => by rw [pk_un (by omega), pk_un (by omega)])
    rw [show upd (upd (pX8_s G1) 6 (mR M + 1)) 7 (mT M + 1) 6 = mR M + 1 from by rw [pk_un (by omega), pk_us],
      show upd (upd (pX8_s G1) 6 (mR M + 1)) 7 (mT M + 1) 7 = mT M + 1 from by rw [pk_us],
      show upd (upd (pX8_s G1) 6 (mR M + 1)) 7 (mT M + 1) 8 = mA M from by rw [pk_un (by omega), pk_un (by omega), c8],
      show upd (upd (pX8_s G1) 6 (mR M + 1)) 7 (mT M + 1) 9 = mK M from by rw [pk_un (by omega), pk_un (by omega), c9]] at this
    exact this
  | none =>
    rw [if_pos (show (if (none : Option Nat).isSome = true then (1 : Int32) else 0) = 0 by rfl)]
    have hz := wlk_ok w1 (rnR_lt M) ((at_lot M _ _).trans e)
    obtain ⟨G2, e2, r2, f2⟩ := r_go w1 b1 hm ((at_lot M _ _).trans (by rw [hrn]; exact e))
    rw [hrn] at e2 r2
    rw [e2]
    simp only [Option.bind_some]
    refine ⟨G2, ?_, r2, b2.tr f2⟩
    have hst : (wlk (lotM M (nxl (mL M))) (rnR M)).2.1 ≤ 200 := Nat.le_trans hz.2.2.2.1 h200
    have hpl := hz.1
    unfold ansW
    cases (wlk (lotM M (nxl (mL M))) (rnR M)).2.2.2.2 with
    | none =>
      rw [if_pos (show nI (wlk (lotM M (nxl (mL M))) (rnR M)).2.1 < 1000 from i_plt (b := 1000) (by omega) (by omega))]
      show some (Sum.inl (nI k + 0, nI i + 1, G2)) = _
      rw [i_inc, i_p0]; rfl
    | some g =>
      rw [if_neg (show ¬ nI (1000 + (wlk (lotM M (nxl (mL M))) (rnR M)).1) < 1000 from i_nlt (b := 1000) (by omega) (by omega))]
      show some (Sum.inl (nI k + 1, nI i + 1, G2)) = _
      rw [i_inc, i_inc]; rfl
theorem r_rain {G : GX8} {M : GM} (w : WF M) (h : RepR (pX8_s G) M) {a : Nat} (ha : a < 100) : ∃ G', fX8_goRain (nI a) G = some (nI (rnF M a).1, G') ∧ RepR (pX8_s G') (rnF M a).2 ∧ Fr G G' := by
  unfold fX8_goRain
  obtain ⟨o, e, o1, o2, o3⟩ := lp_inv (step := tX8_goRain_4 (nI a)) (s := (0, 0, G)) (fun i s => s.1 = nI (rnF M i).1 ∧ s.2.1 = nI i ∧ RepR (pX8_s s.2.2) (rnF M i).2 ∧ Fr G s.2.2) (fun o => o.1 = nI (rnF M a).1 ∧ RepR (pX8_s o.2) (rnF M a).2 ∧ Fr G o.2) a (by omega) ⟨rfl, rfl, h, rfl⟩
    (fun i s hi ⟨a1, a2, a3, a4⟩ => by
      obtain ⟨x, y, T⟩ := s
      dsimp only at a1 a2 a3 a4
      subst a1 a2
      obtain ⟨G', e, r, f⟩ := r_rain1 (w.rnF i) a3 hi ha (k := (rnF M i).1)
      exact ⟨_, e, rfl, rfl, r, a4.tr f⟩)
    (fun s ⟨a1, a2, a3, a4⟩ => by
      refine ⟨(s.1, s.2.2), ?_, a1, a3, a4⟩
      unfold tX8_goRain_4
      rw [a2, if_pos (i_ple (Nat.le_refl _) (by omega))])
  rw [e]
  refine ⟨o.2, ?_, o2, o3⟩
  simp only [Option.bind_some]
  rw [o1]
