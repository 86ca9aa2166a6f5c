/-! ===== looks ===== -/
theorem i_tri (x : Int32) {n : Nat} (hn : n + 1 < 2147483648) : (x < 0 ∨ nI (n + 1) ≤ x) ∨ ∃ j, j ≤ n ∧ x = nI j := by
  rcases i_any x (n := n + 1) hn with q | q | ⟨j, hj, rfl⟩
  · exact Or.inl (Or.inl q)
  · exact Or.inl (Or.inr q)
  · exact Or.inr ⟨j, by omega, rfl⟩
theorem pf_cell : st_cell Inv := by
  intro V G a1 a2 hI
  obtain ⟨M, gd, hS, hR⟩ := id hI.1
  unfold fX7_cell fX8_cell
  rcases b_isCell a1 with ⟨r, hr, rfl, e1, e2⟩ | ⟨e1, e2⟩
  · rw [e1, e2]
    simp only [Option.bind_some]
    rw [if_neg (show ¬ (1 : Int32) = 0 by decide), if_neg (show ¬ (1 : Int32) = 0 by decide)]
    rcases i_tri a2 (n := 3) (by omega) with q | ⟨j, hj, rfl⟩
    · have hb : ∀ {α : Type} {a b : α}, (if a2 < 0 then a else (if a2 ≤ 3 then b else a)) = a := i_out (n := 3) (by omega) q
      rw [hb, if_neg (show ¬ a2 = (0 : Int32) from i_ne (n := 3) (j := 0) (by omega) q (by omega)), if_neg (show ¬ a2 = (1 : Int32) from i_ne (n := 3) (j := 1) (by omega) q (by omega)), if_neg (show ¬ a2 = (2 : Int32) from i_ne (n := 3) (j := 2) (by omega) q (by omega)), if_neg (show ¬ a2 = (3 : Int32) from i_ne (n := 3) (j := 3) (by omega) q (by omega))]
      exact ⟨_, _, rfl, rfl, rfl, hI⟩
    · rcases (show j = 0 ∨ j = 1 ∨ j = 2 ∨ j = 3 by omega) with rfl | rfl | rfl | rfl
      · rw [if_neg (show ¬ nI 0 < 0 by decide), if_pos (show nI 0 ≤ 3 by decide), if_pos (show nI 0 = (0 : Int32) from rfl)]
        rw [if_pos (show nI 0 = (0 : Int32) from rfl)]
        rw [s_grainAt hS hr, r_grainAt gd.1 hR r hr]
        exact ⟨_, _, rfl, rfl, rfl, hI⟩
      · rw [if_neg (show ¬ nI 1 < 0 by decide), if_pos (show nI 1 ≤ 3 by decide), if_neg (show ¬ nI 1 = (0 : Int32) by decide), if_pos (show nI 1 = (1 : Int32) from rfl)]
        rw [if_neg (show ¬ nI 1 = (0 : Int32) by decide), if_pos (show nI 1 = (1 : Int32) from rfl)]
        rw [p_ring r hr, r_ring r hr]
        exact ⟨_, _, rfl, rfl, rfl, hI⟩
      · rw [if_neg (show ¬ nI 2 < 0 by decide), if_pos (show nI 2 ≤ 3 by decide), if_neg (show ¬ nI 2 = (0 : Int32) by decide), if_neg (show ¬ nI 2 = (1 : Int32) by decide), if_pos (show nI 2 = (2 : Int32) from rfl)]
        rw [if_neg (show ¬ nI 2 = (0 : Int32) by decide), if_neg (show ¬ nI 2 = (1 : Int32) by decide), if_pos (show nI 2 = (2 : Int32) from rfl)]
        rw [s_bsd gd.1 hS hr, r_bsd gd.1 hR hr]
        exact ⟨_, _, rfl, rfl, rfl, hI⟩
      · rw [if_neg (show ¬ nI 3 < 0 by decide), if_pos (show nI 3 ≤ 3 by decide), if_neg (show ¬ nI 3 = (0 : Int32) by decide), if_neg (show ¬ nI 3 = (1 : Int32) by decide), if_neg (show ¬ nI 3 = (2 : Int32) by decide)]
        rw [if_neg (show ¬ nI 3 = (0 : Int32) by decide), if_neg (show ¬ nI 3 = (1 : Int32) by decide), if_neg (show ¬ nI 3 = (2 : Int32) by decide), if_pos (show nI 3 = (3 : Int32) from rfl)]
        rw [p_rimN r hr, r_rimN r hr]
        exact ⟨_, _, rfl, rfl, rfl, hI⟩
  · rw [e1, e2]
    simp only [Option.bind_some]
    rw [if_pos trivial, if_pos trivial]
    exact ⟨_, _, rfl, rfl, rfl, hI⟩
theorem pf_grain : st_grain Inv := by
  intro V G a1 a2 hI
  obtain ⟨M, gd, hS, hR⟩ := id hI.1
  have h1 := gd.1.n1
  unfold fX7_grain fX8_grain
  rcases b_isGrain gd hS hR a1 with ⟨r, hr, rfl, e1, e2⟩ | ⟨e1, e2⟩
  · rw [e1, e2]
    simp only [Option.bind_some]
    rw [if_neg (show ¬ (1 : Int32) = 0 by decide), if_neg (show ¬ (1 : Int32) = 0 by decide)]
    obtain ⟨T', eT, rT⟩ := s_trees gd.1 hS V.2.2.2.2.2.2.2.1
    obtain ⟨C', eC, rC⟩ := s_screens gd.1 hS V.2.2.2.2.2.2.2.2.1
    have rr := rT.2 r hr
    have hh := gd.1.h hr
    rcases i_tri a2 (n := 8) (by omega) with q | ⟨j, hj, rfl⟩
    · have hb : ∀ {α : Type} {a b : α}, (if a2 < 0 then a else (if a2 ≤ 8 then b else a)) = a := i_out (n := 8) (by omega) q
      rw [hb, if_neg (show ¬ a2 = (0 : Int32) from i_ne (n := 8) (j := 0) (by omega) q (by omega)), if_neg (show ¬ a2 = (1 : Int32) from i_ne (n := 8) (j := 1) (by omega) q (by omega)), if_neg (show ¬ a2 = (2 : Int32) from i_ne (n := 8) (j := 2) (by omega) q (by omega)), if_neg (show ¬ a2 = (3 : Int32) from i_ne (n := 8) (j := 3) (by omega) q (by omega)), if_neg (show ¬ a2 = (4 : Int32) from i_ne (n := 8) (j := 4) (by omega) q (by omega)), if_neg (show ¬ a2 = (5 : Int32) from i_ne (n := 8) (j := 5) (by omega) q (by omega)), if_neg (show ¬ a2 = (6 : Int32) from i_ne (n := 8) (j := 6) (by omega) q (by omega)), if_neg (show ¬ a2 = (7 : Int32) from i_ne (n := 8) (j := 7) (by omega) q (by omega)), if_neg (show ¬ a2 = (8 : Int32) from i_ne (n := 8) (j := 8) (by omega) q (by omega))]
      exact ⟨_, _, rfl, rfl, rfl, hI⟩
    · rcases (show j = 0 ∨ j = 1 ∨ j = 2 ∨ j = 3 ∨ j = 4 ∨ j = 5 ∨ j = 6 ∨ j = 7 ∨ j = 8 by omega) with rfl | rfl | rfl | rfl | rfl | rfl | rfl | rfl | rfl
      · rw [if_neg (show ¬ nI 0 < 0 by decide), if_pos (show nI 0 ≤ 8 by decide), eT]
        simp only [Option.bind_some]
        rw [if_pos (show nI 0 = (0 : Int32) from rfl)]
        rw [if_pos (show nI 0 = (0 : Int32) from rfl)]
        rw [s_cellOf gd.1 hS hr, r_cell gd.1 hR hr]
        exact ⟨_, _, rfl, rfl, rfl, hI⟩
      · rw [if_neg (show ¬ nI 1 < 0 by decide), if_pos (show nI 1 ≤ 8 by decide), eT]
        simp only [Option.bind_some]
        rw [if_neg (show ¬ nI 1 = (0 : Int32) by decide), if_pos (show nI 1 = (1 : Int32) from rfl)]
        rw [if_neg (show ¬ nI 1 = (0 : Int32) by decide), if_pos (show nI 1 = (1 : Int32) from rfl)]
        rw [s_holderOf gd.1 hS hr, r_holder gd.1 hR hr]
        simp only [Option.bind_some]
        by_cases q : mH M r = 0
        · rw [q, if_neg (fun z => absurd rfl ((hR_nn (h := 0) (by omega)).mp z))]
          exact ⟨_, _, rfl, rfl, rfl, hI⟩
        · rw [if_pos ((hR_nn (by omega)).mpr q)]
          exact ⟨_, _, rfl, rfl, (hI_s q).trans (hR_s q).symm, hI⟩
      · rw [if_neg (show ¬ nI 2 < 0 by decide), if_pos (show nI 2 ≤ 8 by decide), eT]
        simp only [Option.bind_some]
        rw [if_neg (show ¬ nI 2 = (0 : Int32) by decide), if_neg (show ¬ nI 2 = (1 : Int32) by decide), if_pos (show nI 2 = (2 : Int32) from rfl)]
        rw [if_neg (show ¬ nI 2 = (0 : Int32) by decide), if_neg (show ¬ nI 2 = (1 : Int32) by decide), if_pos (show nI 2 = (2 : Int32) from rfl)]
        rw [gI (i := r) (N := 121) (by omega) (by omega), i_cl (show r < 2147483648 by omega), rr.1, r_depth gd.1 hR hr]
        exact ⟨_, _, rfl, rfl, rfl, hI⟩
      · rw [if_neg (show ¬ nI 3 < 0 by decide), if_pos (show nI 3 ≤ 8 by decide), eT]
        simp only [Option.bind_some]
        rw [if_neg (show ¬ nI 3 = (0 : Int32) by decide), if_neg (show ¬ nI 3 = (1 : Int32) by decide), if_neg (show ¬ nI 3 = (2 : Int32) by decide), if_pos (show nI 3 = (3 : Int32) from rfl)]
        rw [if_neg (show ¬ nI 3 = (0 : Int32) by decide), if_neg (show ¬ nI 3 = (1 : Int32) by decide), if_neg (show ¬ nI 3 = (2 : Int32) by decide), if_pos (show nI 3 = (3 : Int32) from rfl)]
        rw [gI (i := r) (N := 121) (by omega) (by omega), i_cl (show r < 2147483648 by omega), rr.2.2.1, r_children gd.1 hR hr]
        exact ⟨_, _, rfl, rfl, rfl, hI⟩
      · rw [if_neg (show ¬ nI 4 < 0 by decide), if_pos (show nI 4 ≤ 8 by decide), eT]
        simp only [Option.bind_some]
        rw [if_neg (show ¬ nI 4 = (0 : Int32) by decide), if_neg (show ¬ nI 4 = (1 : Int32) by decide), if_neg (show ¬ nI 4 = (2 : Int32) by decide), if_neg (show ¬ nI 4 = (3 : Int32) by decide), if_pos (show nI 4 = (4 : Int32) from rfl)]
        rw [if_neg (show ¬ nI 4 = (0 : Int32) by decide), if_neg (show ¬ nI 4 = (1 : Int32) by decide), if_neg (show ¬ nI 4 = (2 : Int32) by decide), if_neg (show ¬ nI 4 = (3 : Int32) by decide), if_pos (show nI 4 = (4 : Int32) from rfl)]
        rw [gI (i := r) (N := 121) (by omega) (by omega), i_cl (show r < 2147483648 by omega), rr.2.2.2.1, r_tree gd.1 hR hr]
        exact ⟨_, _, rfl, rfl, rfl, hI⟩
      · rw [if_neg (show ¬ nI 5 < 0 by decide), if_pos (show nI 5 ≤ 8 by decide), eT]
        simp only [Option.bind_some]
        rw [if_neg (show ¬ nI 5 = (0 : Int32) by decide), if_neg (show ¬ nI 5 = (1 : Int32) by decide), if_neg (show ¬ nI 5 = (2 : Int32) by decide), if_neg (show ¬ nI 5 = (3 : Int32) by decide), if_neg (show ¬ nI 5 = (4 : Int32) by decide), if_pos (show nI 5 = (5 : Int32) from rfl)]
        rw [if_neg (show ¬ nI 5 = (0 : Int32) by decide), if_neg (show ¬ nI 5 = (1 : Int32) by decide), if_neg (show ¬ nI 5 = (2 : Int32) by decide), if_neg (show ¬ nI 5 = (3 : Int32) by decide), if_neg (show ¬ nI 5 = (4 : Int32) by decide), if_pos (show nI 5 = (5 : Int32) from rfl)]
        rw [gI (i := r) (N := 121) (by omega) (by omega), i_cl (show r < 2147483648 by omega), rr.2.2.2.2.1, r_high gd.1 hR hr]
        exact ⟨_, _, rfl, rfl, rfl, hI⟩
      · rw [if_neg (show ¬ nI 6 < 0 by decide), if_pos (show nI 6 ≤ 8 by decide), eT]
        simp only [Option.bind_some]
        rw [if_neg (show ¬ nI 6 = (0 : Int32) by decide), if_neg (show ¬ nI 6 = (1 : Int32) by decide), if_neg (show ¬ nI 6 = (2 : Int32) by decide), if_neg (show ¬ nI 6 = (3 : Int32) by decide), if_neg (show ¬ nI 6 = (4 : Int32) by decide), if_neg (show ¬ nI 6 = (5 : Int32) by decide), if_pos (show nI 6 = (6 : Int32) from rfl)]
        rw [if_neg (show ¬ nI 6 = (0 : Int32) by decide), if_neg (show ¬ nI 6 = (1 : Int32) by decide), if_neg (show ¬ nI 6 = (2 : Int32) by decide), if_neg (show ¬ nI 6 = (3 : Int32) by decide), if_neg (show ¬ nI 6 = (4 : Int32) by decide), if_neg (show ¬ nI 6 = (5 : Int32) by decide), if_pos (show nI 6 = (6 : Int32) from rfl)]
        unfold fX7_catchOf
        rw [eC]
        simp only [Option.bind_some]
        rw [gI (i := r) (N := 121) (by omega) (by omega), i_cl (show r < 2147483648 by omega), rC.2.2 r hr, r_catch gd.1 hR hr]
        exact ⟨_, _, rfl, rfl, rfl, hI⟩
      · rw [if_neg (show ¬ nI 7 < 0 by decide), if_pos (show nI 7 ≤ 8 by decide), eT]
        simp only [Option.bind_some]
        rw [if_neg (show ¬ nI 7 = (0 : Int32) by decide), if_neg (show ¬ nI 7 = (1 : Int32) by decide), if_neg (show ¬ nI 7 = (2 : Int32) by decide), if_neg (show ¬ nI 7 = (3 : Int32) by decide), if_neg (show ¬ nI 7 = (4 : Int32) by decide), if_neg (show ¬ nI 7 = (5 : Int32) by decide), if_neg (show ¬ nI 7 = (6 : Int32) by decide), if_pos (show nI 7 = (7 : Int32) from rfl)]
        rw [if_neg (show ¬ nI 7 = (0 : Int32) by decide), if_neg (show ¬ nI 7 = (1 : Int32) by decide), if_neg (show ¬ nI 7 = (2 : Int32) by decide), if_neg (show ¬ nI 7 = (3 : Int32) by decide), if_neg (show ¬ nI 7 = (4 : Int32) by decide), if_neg (show ¬ nI 7 = (5 : Int32) by decide), if_neg (show ¬ nI 7 = (6 : Int32) by decide), if_pos (show nI 7 = (7 : Int32) from rfl)]
        rw [gI (i := r) (N := 121) (by omega) (by omega), i_cl (show r < 2147483648 by omega), rr.2.1, r_root gd.1 hR hr]
        exact ⟨_, _, rfl, rfl, rfl, hI⟩
      · rw [if_neg (show ¬ nI 8 < 0 by decide), if_pos (show nI 8 ≤ 8 by decide), eT]
        simp only [Option.bind_some]
        rw [if_neg (show ¬ nI 8 = (0 : Int32) by decide), if_neg (show ¬ nI 8 = (1 : Int32) by decide), if_neg (show ¬ nI 8 = (2 : Int32) by decide), if_neg (show ¬ nI 8 = (3 : Int32) by decide), if_neg (show ¬ nI 8 = (4 : Int32) by decide), if_neg (show ¬ nI 8 = (5 : Int32) by decide), if_neg (show ¬ nI 8 = (6 : Int32) by decide), if_neg (show ¬ nI 8 = (7 : Int32) by decide)]
        rw [if_neg (show ¬ nI 8 = (0 : Int32) by decide), if_neg (show ¬ nI 8 = (1 : Int32) by decide), if_neg (show ¬ nI 8 = (2 : Int32) by decide), if_neg (show ¬ nI 8 = (3 : Int32) by decide), if_neg (show ¬ nI 8 = (4 : Int32) by decide), if_neg (show ¬ nI 8 = (5 : Int32) by decide), if_neg (show ¬ nI 8 = (6 : Int32) by decide), if_neg (show ¬ nI 8 = (7 : Int32) by decide), if_pos (show nI 8 = (8 : Int32) from rfl)]
        rw [s_stepsOf gd.1 hS hr, r_steps gd.1 hR hr]
        exact ⟨_, _, rfl, rfl, rfl, hI⟩
  · rw [e1, e2]
    simp only [Option.bind_some]
    rw [if_pos trivial, if_pos trivial]
    exact ⟨_, _, rfl, rfl, rfl, hI⟩
theorem pf_screens : st_screens Inv := by
  intro V G a1 hI
  obtain ⟨M, gd, hS, hR⟩ := id hI.1
  unfold fX7_screens fX8_screens
  rcases b_isRim a1 with ⟨r, hr, rfl, e1, e2⟩ | ⟨e1, e2⟩
  · rw [e1, e2]
    simp only [Option.bind_some]
    rw [if_neg (show ¬ (1 : Int32) = 0 by decide), if_neg (show ¬ (1 : Int32) = 0 by decide), s_first gd.1 hS hr, r_screening gd.1 hR hr]
    exact ⟨_, _, rfl, rfl, rfl, hI⟩
  · rw [e1, e2]
    simp only [Option.bind_some]
    rw [if_pos trivial, if_pos trivial]
    exact ⟨_, _, rfl, rfl, rfl, hI⟩
theorem s_ringl {S : GX4} {M : GM} (w : WF M) (h : RepS S M) {rg : Nat} (hr : rg < 6) : lp (tX7_ring_16 (nI rg) S) FU (0, 0) = some (nI (rng M rg)) := by
  have h1 := w.n1
  rw [i_0, lp_cnt (fun g => decide (ring (mC M g) = rg)) 0 (mN M) (by omega) (by omega) rfl]
  · rfl
  · intro k i _ hi _
    have hc := ring_le _ (w.c hi)
    unfold tX7_ring_16 jX7_ring_1
    rw [h.1]
    dsimp only
    rw [if_neg (i_nle hi (by omega)), s_cellOf w h hi]
    simp only [Option.bind_some]
    rw [p_ring _ (w.c hi)]
    simp only [Option.bind_some]
    rw [ifc (i_eq (by omega) (by omega))]
    by_cases q : ring (mC M i) = rg
    · rw [if_pos q, decide_eq_true q]
      show some (Sum.inl (nI k + 1, nI i + 1)) = _
      rw [i_inc, i_inc]; rfl
    · rw [if_neg q, decide_eq_false q]
      show some (Sum.inl (nI k, nI i + 1)) = _
      rw [i_inc]; rfl
  · intro k
    unfold tX7_ring_16
    rw [h.1]
    dsimp only
    rw [if_pos (i_ple (Nat.le_refl _) (by omega))]
theorem pf_ring : st_ring Inv := by
  intro V G a1 hI
  obtain ⟨M, gd, hS, hR⟩ := id hI.1
  unfold fX7_ring fX8_ring
  rw [show (5 : Int32) = nI 5 from rfl]
  rcases r_in0 a1 (n := 5) (by omega) with ⟨b, hb, rfl, e⟩ | ⟨e, q⟩
  · rw [e, if_neg (i_nz (by omega)), if_pos (show nI b < 6 from i_plt (b := 6) (by omega) (by omega)), s_ringl gd.1 hS (by omega)]
    simp only [Option.bind_some]
    rw [if_neg (show ¬ (1 : Int32) = 0 by decide), r_ringl gd.1 hR (by omega)]
    exact ⟨_, _, rfl, rfl, rfl, hI⟩
  · have hb : ∀ {α : Type} {a b : α}, (if a1 < 0 then a else (if a1 < 6 then b else a)) = a := i_outl (n := 5) (by omega) q
    rw [hb, e]
    simp only [Option.bind_some]
    rw [if_pos trivial]
    exact ⟨_, _, rfl, rfl, rfl, hI⟩
theorem pf_apart : st_apart Inv := by
  intro V G a1 a2 hI
  obtain ⟨M, gd, hS, hR⟩ := id hI.1
  have h1 := gd.1.n1
  unfold fX7_apart fX8_apart
  rcases b_isGrain gd hS hR a1 with ⟨r, hr, rfl, e1, e2⟩ | ⟨e1, e2⟩
  · rw [e1, e2]
    simp only [Option.bind_some]
    rw [if_neg (show ¬ (1 : Int32) = 0 by decide), if_neg (show ¬ (1 : Int32) = 0 by decide)]
    rcases b_isGrain gd hS hR a2 with ⟨t, ht, rfl, e3, e4⟩ | ⟨e3, e4⟩
    · rw [e3, e4]
      simp only [Option.bind_some]
      rw [if_neg (show ¬ (1 : Int32) = 0 by decide), if_neg (show ¬ (1 : Int32) = 0 by decide), s_dst gd.1 hS hr ht]
      obtain ⟨o, eo, eo2⟩ := r_apart_go gd.1 hR (max r t) 0 r t FU (Nat.le_refl _) (by omega) (by rw [FU_eq]; omega)
      rw [show lp (tX8_apart_26 G) FU (nI r, nI t, 0) = some o from eo]
      simp only [Option.bind_some]
      rw [eo2]
      exact ⟨_, _, rfl, rfl, (oK_0 _).symm, hI⟩
    · rw [e3, e4]
      simp only [Option.bind_some]
      rw [if_pos trivial, if_pos trivial]
      exact ⟨_, _, rfl, rfl, rfl, hI⟩
  · rw [e1, e2]
    simp only [Option.bind_some]
    rw [if_pos trivial, if_pos trivial]
    exact ⟨_, _, rfl, rfl, rfl, hI⟩
theorem pf_longest : st_longest Inv := by
  intro V G a1 hI
  obtain ⟨hT, hH, hK, hX, hY⟩ := id hI
  obtain ⟨M, gd, hS, hR⟩ := id hT
  unfold fX7_longest
  rcases r_in0 a1 (n := 1) (by omega) with ⟨b, hb, rfl, e⟩ | ⟨e, q⟩
  · obtain ⟨G', e1, f1, f2⟩ := r_longest gd.1 hR (v := nI b) e
    have hi : Inv V G' := ⟨⟨M, gd, hS, by rw [f1]; exact hR⟩, hH.fq f2.fq, hK.fq f2.fq, hX.fq f2.fq, hY.wh f2.wh⟩
    rw [e1, if_neg (i_nz (by omega)), if_pos (show nI b ≤ 1 from i_ple (b := 1) hb (by omega))]
    rcases (show b = 0 ∨ b = 1 by omega) with rfl | rfl
    · rw [if_pos (show nI 0 = (0 : Int32) from rfl), s_longP gd.1 hS]
      exact ⟨_, _, rfl, rfl, congrArg nI (longP_lng gd.1), hi⟩
    · obtain ⟨T', eT, rT⟩ := s_trees gd.1 hS V.2.2.2.2.2.2.2.1
      rw [if_neg (show ¬ nI 1 = (0 : Int32) by decide), eT]
      simp only [Option.bind_some]
      rw [s_heights gd.1 rT]
      exact ⟨_, _, rfl, rfl, rfl, hi⟩
  · have hb : ∀ {α : Type} {a b : α}, (if a1 < 0 then a else (if a1 ≤ 1 then b else a)) = a := i_out (n := 1) (by omega) q
    unfold fX8_longest
    rw [hb, show fX8_in a1 0 1 = some 0 from e]
    simp only [Option.bind_some]
    rw [if_pos trivial]
    exact ⟨_, _, rfl, rfl, rfl, hI⟩
theorem knd_2 {M : GM} : cnt (fun g => decide (0 ≤ chl M g) && decide (chl M g ≤ 0)) (mN M) = knd M 2 := cnt_ext (fun g hg => by
  show (decide (0 ≤ chl M g) && decide (chl M g ≤ 0)) = kndB M 2 g
  unfold kndB
  rw [if_neg (by omega), if_pos rfl, decide_eq_true (Nat.zero_le _), Bool.true_and]
  exact decide_eq_decide.mpr (by omega))
theorem knd_3 {M : GM} (g : Good M) : cnt (fun g => decide (2 ≤ chl M g) && decide (chl M g ≤ 4)) (mN M) = knd M 3 := cnt_ext (fun x hx => by
  have h4 := chl_le4 g.1 g.2.2 x
  show (decide (2 ≤ chl M x) && decide (chl M x ≤ 4)) = kndB M 3 x
  unfold kndB
  rw [if_neg (by omega), if_neg (by omega), decide_eq_true h4, Bool.and_true]
  exact decide_eq_decide.mpr (by omega))
theorem pf_count : st_count Inv := by
  intro V G a1 hI
  obtain ⟨hT, hH, hK, hX, hY⟩ := id hI
  obtain ⟨M, gd, hS, hR⟩ := id hT
  have h1 := gd.1.n1
  have hb := bst_lt gd.2.1
  unfold fX7_count fX8_count
  obtain ⟨T', eT, rT⟩ := s_trees gd.1 hS V.2.2.2.2.2.2.2.1
  obtain ⟨C', eC, rC⟩ := s_screens gd.1 hS V.2.2.2.2.2.2.2.2.1
  rcases i_tri a1 (n := 19) (by omega) with q | ⟨j, hj, rfl⟩
  · have hb : ∀ {α : Type} {a b : α}, (if a1 < 0 then a else (if a1 ≤ 19 then b else a)) = a := i_out (n := 19) (by omega) q
    rw [hb]
    rw [if_neg (show ¬ a1 = (0 : Int32) from i_ne (n := 19) (j := 0) (by omega) q (by omega)), if_neg (show ¬ a1 = (1 : Int32) from i_ne (n := 19) (j := 1) (by omega) q (by omega)), if_neg (show ¬ a1 = (2 : Int32) from i_ne (n := 19) (j := 2) (by omega) q (by omega)), if_neg (show ¬ a1 = (3 : Int32) from i_ne (n := 19) (j := 3) (by omega) q (by omega)), if_neg (show ¬ a1 = (4 : Int32) from i_ne (n := 19) (j := 4) (by omega) q (by omega)), if_neg (show ¬ a1 = (5 : Int32) from i_ne (n := 19) (j := 5) (by omega) q (by omega)), if_neg (show ¬ a1 = (6 : Int32) from i_ne (n := 19) (j := 6) (by omega) q (by omega)), if_neg (show ¬ a1 = (7 : Int32) from i_ne (n := 19) (j := 7) (by omega) q (by omega)), if_neg (show ¬ a1 = (8 : Int32) from i_ne (n := 19) (j := 8) (by omega) q (by omega)), if_neg (show ¬ a1 = (9 : Int32) from i_ne (n := 19) (j := 9) (by omega) q (by omega)), if_neg (show ¬ a1 = (10 : Int32) from i_ne (n := 19) (j := 10) (by omega) q (by omega)), if_neg (show ¬ a1 = (11 : Int32) from i_ne (n := 19) (j := 11) (by omega) q (by omega)), if_neg (show ¬ a1 = (12 : Int32) from i_ne (n := 19) (j := 12) (by omega) q (by omega)), if_neg (show ¬ a1 = (13 : Int32) from i_ne (n := 19) (j := 13) (by omega) q (by omega)), if_neg (show ¬ a1 = (14 : Int32) from i_ne (n := 19) (j := 14) (by omega) q (by omega)), if_neg (show ¬ a1 = (15 : Int32) from i_ne (n := 19) (j := 15) (by omega) q (by omega)), if_neg (show ¬ a1 = (16 : Int32) from i_ne (n := 19) (j := 16) (by omega) q (by omega)), if_neg (show ¬ a1 = (17 : Int32) from i_ne (n := 19) (j := 17) (by omega) q (by omega)), if_neg (show ¬ a1 = (18 : Int32) from i_ne (n := 19) (j := 18) (by omega) q (by omega)), if_neg (show ¬ a1 = (19 : Int32) from i_ne (n := 19) (j := 19) (by omega) q (by omega))]
    exact ⟨_, _, rfl, rfl, rfl, hI⟩
  · rcases (show j = 0 ∨ j = 1 ∨ j = 2 ∨ j = 3 ∨ j = 4 ∨ j = 5 ∨ j = 6 ∨ j = 7 ∨ j = 8 ∨ j = 9 ∨ j = 10 ∨ j = 11 ∨ j = 12 ∨ j = 13 ∨ j = 14 ∨ j = 15 ∨ j = 16 ∨ j = 17 ∨ j = 18 ∨ j = 19 by omega) with rfl | rfl | rfl | rfl | rfl | rfl | rfl | rfl | rfl | rfl | rfl | rfl | rfl | rfl | rfl | rfl | rfl | rfl | rfl | rfl
    · rw [if_neg (show ¬ nI 0 < 0 by decide), if_pos (show nI 0 ≤ 19 by decide), if_pos (show nI 0 = (0 : Int32) from rfl)]
      rw [if_pos (show nI 0 = (0 : Int32) from rfl)]
      exact ⟨_, _, rfl, rfl, hS.1.trans (r_n hR).symm, hI⟩
    · rw [if_neg (show ¬ nI 1 < 0 by decide), if_pos (show nI 1 ≤ 19 by decide), if_neg (show ¬ nI 1 = (0 : Int32) by decide), if_pos (show nI 1 = (1 : Int32) from rfl)]
      rw [if_neg (show ¬ nI 1 = (0 : Int32) by decide), if_pos (show nI 1 = (1 : Int32) from rfl)]
      unfold fX7_countOfTrees
      rw [eT]
      simp only [Option.bind_some]
      rw [if_pos (show nI 1 = (1 : Int32) from rfl)]
      rw [s_rootsOf gd.1 rT, r_kind gd.1 hR (kd := 1) (by omega)]
      exact ⟨_, _, rfl, rfl, rfl, hI⟩
    · rw [if_neg (show ¬ nI 2 < 0 by decide), if_pos (show nI 2 ≤ 19 by decide), if_neg (show ¬ nI 2 = (0 : Int32) by decide), if_neg (show ¬ nI 2 = (1 : Int32) by decide), if_pos (show nI 2 = (2 : Int32) from rfl)]
      rw [if_neg (show ¬ nI 2 = (0 : Int32) by decide), if_neg (show ¬ nI 2 = (1 : Int32) by decide), if_pos (show nI 2 = (2 : Int32) from rfl)]
      unfold fX7_countOfTrees
      rw [eT]
      simp only [Option.bind_some]
      rw [if_neg (show ¬ nI 2 = (1 : Int32) by decide), if_pos (show nI 2 = (2 : Int32) from rfl)]
      rw [show fX5_grainsHeldBy 0 0 T' = _ from s_heldBy gd.1 rT (a := 0) (b := 0) (by omega) (by omega), r_kind gd.1 hR (kd := 2) (by omega), knd_2]
      exact ⟨_, _, rfl, rfl, rfl, hI⟩
    · rw [if_neg (show ¬ nI 3 < 0 by decide), if_pos (show nI 3 ≤ 19 by decide), if_neg (show ¬ nI 3 = (0 : Int32) by decide), if_neg (show ¬ nI 3 = (1 : Int32) by decide), if_neg (show ¬ nI 3 = (2 : Int32) by decide), if_pos (show nI 3 = (3 : Int32) from rfl)]
      rw [if_neg (show ¬ nI 3 = (0 : Int32) by decide), if_neg (show ¬ nI 3 = (1 : Int32) by decide), if_neg (show ¬ nI 3 = (2 : Int32) by decide), if_pos (show nI 3 = (3 : Int32) from rfl)]
      unfold fX7_countOfTrees
      rw [eT]
      simp only [Option.bind_some]
      rw [if_neg (show ¬ nI 3 = (1 : Int32) by decide), if_neg (show ¬ nI 3 = (2 : Int32) by decide), if_pos (show nI 3 = (3 : Int32) from rfl)]
      rw [show fX5_grainsHeldBy 2 4 T' = _ from s_heldBy gd.1 rT (a := 2) (b := 4) (by omega) (by omega), r_kind gd.1 hR (kd := 3) (by omega), knd_3 gd]
      exact ⟨_, _, rfl, rfl, rfl, hI⟩
    · rw [if_neg (show ¬ nI 4 < 0 by decide), if_pos (show nI 4 ≤ 19 by decide), if_neg (show ¬ nI 4 = (0 : Int32) by decide), if_neg (show ¬ nI 4 = (1 : Int32) by decide), if_neg (show ¬ nI 4 = (2 : Int32) by decide), if_neg (show ¬ nI 4 = (3 : Int32) by decide), if_pos (show nI 4 = (4 : Int32) from rfl)]
      rw [if_neg (show ¬ nI 4 = (0 : Int32) by decide), if_neg (show ¬ nI 4 = (1 : Int32) by decide), if_neg (show ¬ nI 4 = (2 : Int32) by decide), if_neg (show ¬ nI 4 = (3 : Int32) by decide), if_pos (show nI 4 = (4 : Int32) from rfl)]
      unfold fX7_countOfTrees
      rw [eT]
      simp only [Option.bind_some]
      rw [if_neg (show ¬ nI 4 = (1 : Int32) by decide), if_neg (show ¬ nI 4 = (2 : Int32) by decide), if_neg (show ¬ nI 4 = (3 : Int32) by decide)]
      rw [s_deepest gd.1 rT, r_deepest gd.1 hR]
      exact ⟨_, _, rfl, rfl, rfl, hI⟩
    · rw [if_neg (show ¬ nI 5 < 0 by decide), if_pos (show nI 5 ≤ 19 by decide), if_neg (show ¬ nI 5 = (0 : Int32) by decide), if_neg (show ¬ nI 5 = (1 : Int32) by decide), if_neg (show ¬ nI 5 = (2 : Int32) by decide), if_neg (show ¬ nI 5 = (3 : Int32) by decide), if_neg (show ¬ nI 5 = (4 : Int32) by decide), if_pos (show nI 5 = (5 : Int32) from rfl)]
      rw [if_neg (show ¬ nI 5 = (0 : Int32) by decide), if_neg (show ¬ nI 5 = (1 : Int32) by decide), if_neg (show ¬ nI 5 = (2 : Int32) by decide), if_neg (show ¬ nI 5 = (3 : Int32) by decide), if_neg (show ¬ nI 5 = (4 : Int32) by decide), if_pos (show nI 5 = (5 : Int32) from rfl)]
      rw [s_reach gd.1 hS, r_reach gd.1 hR]
      exact ⟨_, _, rfl, rfl, rfl, hI⟩
    · rw [if_neg (show ¬ nI 6 < 0 by decide), if_pos (show nI 6 ≤ 19 by decide), if_neg (show ¬ nI 6 = (0 : Int32) by decide), if_neg (show ¬ nI 6 = (1 : Int32) by decide), if_neg (show ¬ nI 6 = (2 : Int32) by decide), if_neg (show ¬ nI 6 = (3 : Int32) by decide), if_neg (show ¬ nI 6 = (4 : Int32) by decide), if_neg (show ¬ nI 6 = (5 : Int32) by decide), if_pos (show nI 6 = (6 : Int32) from rfl)]
      rw [if_neg (show ¬ nI 6 = (0 : Int32) by decide), if_neg (show ¬ nI 6 = (1 : Int32) by decide), if_neg (show ¬ nI 6 = (2 : Int32) by decide), if_neg (show ¬ nI 6 = (3 : Int32) by decide), if_neg (show ¬ nI 6 = (4 : Int32) by decide), if_neg (show ¬ nI 6 = (5 : Int32) by decide), if_pos (show nI 6 = (6 : Int32) from rfl)]
      rw [s_shore gd.1 hS, r_shore gd.1 hR]
      exact ⟨_, _, rfl, rfl, rfl, hI⟩
    · rw [if_neg (show ¬ nI 7 < 0 by decide), if_pos (show nI 7 ≤ 19 by decide), if_neg (show ¬ nI 7 = (0 : Int32) by decide), if_neg (show ¬ nI 7 = (1 : Int32) by decide), if_neg (show ¬ nI 7 = (2 : Int32) by decide), if_neg (show ¬ nI 7 = (3 : Int32) by decide), if_neg (show ¬ nI 7 = (4 : Int32) by decide), if_neg (show ¬ nI 7 = (5 : Int32) by decide), if_neg (show ¬ nI 7 = (6 : Int32) by decide), if_pos (show nI 7 = (7 : Int32) from rfl)]
      rw [if_neg (show ¬ nI 7 = (0 : Int32) by decide), if_neg (show ¬ nI 7 = (1 : Int32) by decide), if_neg (show ¬ nI 7 = (2 : Int32) by decide), if_neg (show ¬ nI 7 = (3 : Int32) by decide), if_neg (show ¬ nI 7 = (4 : Int32) by decide), if_neg (show ¬ nI 7 = (5 : Int32) by decide), if_neg (show ¬ nI 7 = (6 : Int32) by decide), if_pos (show nI 7 = (7 : Int32) from rfl)]
      rw [show (6 : Int32) + nI 7 - 7 = nI 6 from by decide, gI (i := 6) (N := 373) (by omega) (by omega), i_cl (show 6 < 2147483648 by omega)]
      exact ⟨_, _, rfl, rfl, (hS.2.2.2.2.2.2.2.1).trans (hR.2.2.2.2.2.2.1).symm, hI⟩
    · rw [if_neg (show ¬ nI 8 < 0 by decide), if_pos (show nI 8 ≤ 19 by decide), if_neg (show ¬ nI 8 = (0 : Int32) by decide), if_neg (show ¬ nI 8 = (1 : Int32) by decide), if_neg (show ¬ nI 8 = (2 : Int32) by decide), if_neg (show ¬ nI 8 = (3 : Int32) by decide), if_neg (show ¬ nI 8 = (4 : Int32) by decide), if_neg (show ¬ nI 8 = (5 : Int32) by decide), if_neg (show ¬ nI 8 = (6 : Int32) by decide), if_neg (show ¬ nI 8 = (7 : Int32) by decide), if_pos (show nI 8 = (8 : Int32) from rfl)]
      rw [if_neg (show ¬ nI 8 = (0 : Int32) by decide), if_neg (show ¬ nI 8 = (1 : Int32) by decide), if_neg (show ¬ nI 8 = (2 : Int32) by decide), if_neg (show ¬ nI 8 = (3 : Int32) by decide), if_neg (show ¬ nI 8 = (4 : Int32) by decide), if_neg (show ¬ nI 8 = (5 : Int32) by decide), if_neg (show ¬ nI 8 = (6 : Int32) by decide), if_neg (show ¬ nI 8 = (7 : Int32) by decide), if_pos (show nI 8 = (8 : Int32) from rfl)]
      rw [show (6 : Int32) + nI 8 - 7 = nI 7 from by decide, gI (i := 7) (N := 373) (by omega) (by omega), i_cl (show 7 < 2147483648 by omega)]
      exact ⟨_, _, rfl, rfl, (hS.2.2.2.2.2.2.2.2.1).trans (hR.2.2.2.2.2.2.2.1).symm, hI⟩
    · rw [if_neg (show ¬ nI 9 < 0 by decide), if_pos (show nI 9 ≤ 19 by decide), if_neg (show ¬ nI 9 = (0 : Int32) by decide), if_neg (show ¬ nI 9 = (1 : Int32) by decide), if_neg (show ¬ nI 9 = (2 : Int32) by decide), if_neg (show ¬ nI 9 = (3 : Int32) by decide), if_neg (show ¬ nI 9 = (4 : Int32) by decide), if_neg (show ¬ nI 9 = (5 : Int32) by decide), if_neg (show ¬ nI 9 = (6 : Int32) by decide), if_neg (show ¬ nI 9 = (7 : Int32) by decide), if_neg (show ¬ nI 9 = (8 : Int32) by decide), if_pos (show nI 9 = (9 : Int32) from rfl)]
      rw [if_neg (show ¬ nI 9 = (0 : Int32) by decide), if_neg (show ¬ nI 9 = (1 : Int32) by decide), if_neg (show ¬ nI 9 = (2 : Int32) by decide), if_neg (show ¬ nI 9 = (3 : Int32) by decide), if_neg (show ¬ nI 9 = (4 : Int32) by decide), if_neg (show ¬ nI 9 = (5 : Int32) by decide), if_neg (show ¬ nI 9 = (6 : Int32) by decide), if_neg (show ¬ nI 9 = (7 : Int32) by decide), if_neg (show ¬ nI 9 = (8 : Int32) by decide), if_pos (show nI 9 = (9 : Int32) from rfl)]
      rw [show (6 : Int32) + nI 9 - 7 = nI 8 from by decide, gI (i := 8) (N := 373) (by omega) (by omega), i_cl (show 8 < 2147483648 by omega)]
      exact ⟨_, _, rfl, rfl, (hS.2.2.2.2.2.2.2.2.2.1).trans (hR.2.2.2.2.2.2.2.2.1).symm, hI⟩
    · rw [if_neg (show ¬ nI 10 < 0 by decide), if_pos (show nI 10 ≤ 19 by decide), if_neg (show ¬ nI 10 = (0 : Int32) by decide), if_neg (show ¬ nI 10 = (1 : Int32) by decide), if_neg (show ¬ nI 10 = (2 : Int32) by decide), if_neg (show ¬ nI 10 = (3 : Int32) by decide), if_neg (show ¬ nI 10 = (4 : Int32) by decide), if_neg (show ¬ nI 10 = (5 : Int32) by decide), if_neg (show ¬ nI 10 = (6 : Int32) by decide), if_neg (show ¬ nI 10 = (7 : Int32) by decide), if_neg (show ¬ nI 10 = (8 : Int32) by decide), if_neg (show ¬ nI 10 = (9 : Int32) by decide), if_pos (show nI 10 = (10 : Int32) from rfl)]
      rw [if_neg (show ¬ nI 10 = (0 : Int32) by decide), if_neg (show ¬ nI 10 = (1 : Int32) by decide), if_neg (show ¬ nI 10 = (2 : Int32) by decide), if_neg (show ¬ nI 10 = (3 : Int32) by decide), if_neg (show ¬ nI 10 = (4 : Int32) by decide), if_neg (show ¬ nI 10 = (5 : Int32) by decide), if_neg (show ¬ nI 10 = (6 : Int32) by decide), if_neg (show ¬ nI 10 = (7 : Int32) by decide), if_neg (show ¬ nI 10 = (8 : Int32) by decide), if_neg (show ¬ nI 10 = (9 : Int32) by decide), if_pos (show nI 10 = (10 : Int32) from rfl)]
      rw [show (6 : Int32) + nI 10 - 7 = nI 9 from by decide, gI (i := 9) (N := 373) (by omega) (by omega), i_cl (show 9 < 2147483648 by omega)]
      exact ⟨_, _, rfl, rfl, (hS.2.2.2.2.2.2.2.2.2.2).trans (hR.2.2.2.2.2.2.2.2.2).symm, hI⟩
    · rw [if_neg (show ¬ nI 11 < 0 by decide), if_pos (show nI 11 ≤ 19 by decide), if_neg (show ¬ nI 11 = (0 : Int32) by decide), if_neg (show ¬ nI 11 = (1 : Int32) by decide), if_neg (show ¬ nI 11 = (2 : Int32) by decide), if_neg (show ¬ nI 11 = (3 : Int32) by decide), if_neg (show ¬ nI 11 = (4 : Int32) by decide), if_neg (show ¬ nI 11 = (5 : Int32) by decide), if_neg (show ¬ nI 11 = (6 : Int32) by decide), if_neg (show ¬ nI 11 = (7 : Int32) by decide), if_neg (show ¬ nI 11 = (8 : Int32) by decide), if_neg (show ¬ nI 11 = (9 : Int32) by decide), if_neg (show ¬ nI 11 = (10 : Int32) by decide), if_pos (show nI 11 = (11 : Int32) from rfl)]
      rw [if_neg (show ¬ nI 11 = (0 : Int32) by decide), if_neg (show ¬ nI 11 = (1 : Int32) by decide), if_neg (show ¬ nI 11 = (2 : Int32) by decide), if_neg (show ¬ nI 11 = (3 : Int32) by decide), if_neg (show ¬ nI 11 = (4 : Int32) by decide), if_neg (show ¬ nI 11 = (5 : Int32) by decide), if_neg (show ¬ nI 11 = (6 : Int32) by decide), if_neg (show ¬ nI 11 = (7 : Int32) by decide), if_neg (show ¬ nI 11 = (8 : Int32) by decide), if_neg (show ¬ nI 11 = (9 : Int32) by decide), if_neg (show ¬ nI 11 = (10 : Int32) by decide), if_pos (show nI 11 = (11 : Int32) from rfl)]
      unfold fX7_bestCatcher fX7_catchOf
      rw [eC]
      simp only [Option.bind_some]
      rw [s_best gd.1 gd.2.1 rC, r_best gd.1 hR gd.2.1]
      simp only [Option.bind_some]
      obtain ⟨C2, eC2, rC2⟩ := s_screens gd.1 hS C'
      rw [eC2, r_catch gd.1 hR hb]
      simp only [Option.bind_some]
      rw [gI (i := bst M) (N := 121) (by omega) (by omega), i_cl (show bst M < 2147483648 by omega), rC2.2.2 _ hb]
      exact ⟨_, _, rfl, rfl, rfl, hI⟩
    · rw [if_neg (show ¬ nI 12 < 0 by decide), if_pos (show nI 12 ≤ 19 by decide), if_neg (show ¬ nI 12 = (0 : Int32) by decide), if_neg (show ¬ nI 12 = (1 : Int32) by decide), if_neg (show ¬ nI 12 = (2 : Int32) by decide), if_neg (show ¬ nI 12 = (3 : Int32) by decide), if_neg (show ¬ nI 12 = (4 : Int32) by decide), if_neg (show ¬ nI 12 = (5 : Int32) by decide), if_neg (show ¬ nI 12 = (6 : Int32) by decide), if_neg (show ¬ nI 12 = (7 : Int32) by decide), if_neg (show ¬ nI 12 = (8 : Int32) by decide), if_neg (show ¬ nI 12 = (9 : Int32) by decide), if_neg (show ¬ nI 12 = (10 : Int32) by decide), if_neg (show ¬ nI 12 = (11 : Int32) by decide), if_pos (show nI 12 = (12 : Int32) from rfl)]
      rw [if_neg (show ¬ nI 12 = (0 : Int32) by decide), if_neg (show ¬ nI 12 = (1 : Int32) by decide), if_neg (show ¬ nI 12 = (2 : Int32) by decide), if_neg (show ¬ nI 12 = (3 : Int32) by decide), if_neg (show ¬ nI 12 = (4 : Int32) by decide), if_neg (show ¬ nI 12 = (5 : Int32) by decide), if_neg (show ¬ nI 12 = (6 : Int32) by decide), if_neg (show ¬ nI 12 = (7 : Int32) by decide), if_neg (show ¬ nI 12 = (8 : Int32) by decide), if_neg (show ¬ nI 12 = (9 : Int32) by decide), if_neg (show ¬ nI 12 = (10 : Int32) by decide), if_neg (show ¬ nI 12 = (11 : Int32) by decide), if_pos (show nI 12 = (12 : Int32) from rfl)]
      unfold fX7_bestCatcher
      rw [eC]
      simp only [Option.bind_some]
      rw [s_best gd.1 gd.2.1 rC, r_best gd.1 hR gd.2.1]
      exact ⟨_, _, rfl, rfl, rfl, hI⟩
    · rw [if_neg (show ¬ nI 13 < 0 by decide), if_pos (show nI 13 ≤ 19 by decide), if_neg (show ¬ nI 13 = (0 : Int32) by decide), if_neg (show ¬ nI 13 = (1 : Int32) by decide), if_neg (show ¬ nI 13 = (2 : Int32) by decide), if_neg (show ¬ nI 13 = (3 : Int32) by decide), if_neg (show ¬ nI 13 = (4 : Int32) by decide), if_neg (show ¬ nI 13 = (5 : Int32) by decide), if_neg (show ¬ nI 13 = (6 : Int32) by decide), if_neg (show ¬ nI 13 = (7 : Int32) by decide), if_neg (show ¬ nI 13 = (8 : Int32) by decide), if_neg (show ¬ nI 13 = (9 : Int32) by decide), if_neg (show ¬ nI 13 = (10 : Int32) by decide), if_neg (show ¬ nI 13 = (11 : Int32) by decide), if_neg (show ¬ nI 13 = (12 : Int32) by decide), if_pos (show nI 13 = (13 : Int32) from rfl)]
      rw [if_neg (show ¬ nI 13 = (0 : Int32) by decide), if_neg (show ¬ nI 13 = (1 : Int32) by decide), if_neg (show ¬ nI 13 = (2 : Int32) by decide), if_neg (show ¬ nI 13 = (3 : Int32) by decide), if_neg (show ¬ nI 13 = (4 : Int32) by decide), if_neg (show ¬ nI 13 = (5 : Int32) by decide), if_neg (show ¬ nI 13 = (6 : Int32) by decide), if_neg (show ¬ nI 13 = (7 : Int32) by decide), if_neg (show ¬ nI 13 = (8 : Int32) by decide), if_neg (show ¬ nI 13 = (9 : Int32) by decide), if_neg (show ¬ nI 13 = (10 : Int32) by decide), if_neg (show ¬ nI 13 = (11 : Int32) by decide), if_neg (show ¬ nI 13 = (12 : Int32) by decide), if_pos (show nI 13 = (13 : Int32) from rfl)]
      rw [show nI 13 - 13 = nI 0 from by decide, s_setting hS (k := 0) (by omega), show (2 : Int32) + nI 13 - 13 = nI 2 from by decide, gI (i := 2) (N := 373) (by omega) (by omega), i_cl (show 2 < 2147483648 by omega)]
      exact ⟨_, _, rfl, rfl, (hR.2.2.2.2.2.1 0 (by omega)).symm, hI⟩
    · rw [if_neg (show ¬ nI 14 < 0 by decide), if_pos (show nI 14 ≤ 19 by decide), if_neg (show ¬ nI 14 = (0 : Int32) by decide), if_neg (show ¬ nI 14 = (1 : Int32) by decide), if_neg (show ¬ nI 14 = (2 : Int32) by decide), if_neg (show ¬ nI 14 = (3 : Int32) by decide), if_neg (show ¬ nI 14 = (4 : Int32) by decide), if_neg (show ¬ nI 14 = (5 : Int32) by decide), if_neg (show ¬ nI 14 = (6 : Int32) by decide), if_neg (show ¬ nI 14 = (7 : Int32) by decide), if_neg (show ¬ nI 14 = (8 : Int32) by decide), if_neg (show ¬ nI 14 = (9 : Int32) by decide), if_neg (show ¬ nI 14 = (10 : Int32) by decide), if_neg (show ¬ nI 14 = (11 : Int32) by decide), if_neg (show ¬ nI 14 = (12 : Int32) by decide), if_neg (show ¬ nI 14 = (13 : Int32) by decide), if_pos (show nI 14 = (14 : Int32) from rfl)]
      rw [if_neg (show ¬ nI 14 = (0 : Int32) by decide), if_neg (show ¬ nI 14 = (1 : Int32) by decide), if_neg (show ¬ nI 14 = (2 : Int32) by decide), if_neg (show ¬ nI 14 = (3 : Int32) by decide), if_neg (show ¬ nI 14 = (4 : Int32) by decide), if_neg (show ¬ nI 14 = (5 : Int32) by decide), if_neg (show ¬ nI 14 = (6 : Int32) by decide), if_neg (show ¬ nI 14 = (7 : Int32) by decide), if_neg (show ¬ nI 14 = (8 : Int32) by decide), if_neg (show ¬ nI 14 = (9 : Int32) by decide), if_neg (show ¬ nI 14 = (10 : Int32) by decide), if_neg (show ¬ nI 14 = (11 : Int32) by decide), if_neg (show ¬ nI 14 = (12 : Int32) by decide), if_neg (show ¬ nI 14 = (13 : Int32) by decide), if_pos (show nI 14 = (14 : Int32) from rfl)]
      rw [show nI 14 - 13 = nI 1 from by decide, s_setting hS (k := 1) (by omega), show (2 : Int32) + nI 14 - 13 = nI 3 from by decide, gI (i := 3) (N := 373) (by omega) (by omega), i_cl (show 3 < 2147483648 by omega)]
      exact ⟨_, _, rfl, rfl, (hR.2.2.2.2.2.1 1 (by omega)).symm, hI⟩
    · rw [if_neg (show ¬ nI 15 < 0 by decide), if_pos (show nI 15 ≤ 19 by decide), if_neg (show ¬ nI 15 = (0 : Int32) by decide), if_neg (show ¬ nI 15 = (1 : Int32) by decide), if_neg (show ¬ nI 15 = (2 : Int32) by decide), if_neg (show ¬ nI 15 = (3 : Int32) by decide), if_neg (show ¬ nI 15 = (4 : Int32) by decide), if_neg (show ¬ nI 15 = (5 : Int32) by decide), if_neg (show ¬ nI 15 = (6 : Int32) by decide), if_neg (show ¬ nI 15 = (7 : Int32) by decide), if_neg (show ¬ nI 15 = (8 : Int32) by decide), if_neg (show ¬ nI 15 = (9 : Int32) by decide), if_neg (show ¬ nI 15 = (10 : Int32) by decide), if_neg (show ¬ nI 15 = (11 : Int32) by decide), if_neg (show ¬ nI 15 = (12 : Int32) by decide), if_neg (show ¬ nI 15 = (13 : Int32) by decide), if_neg (show ¬ nI 15 = (14 : Int32) by decide), if_pos (show nI 15 = (15 : Int32) from rfl)]
      rw [if_neg (show ¬ nI 15 = (0 : Int32) by decide), if_neg (show ¬ nI 15 = (1 : Int32) by decide), if_neg (show ¬ nI 15 = (2 : Int32) by decide), if_neg (show ¬ nI 15 = (3 : Int32) by decide), if_neg (show ¬ nI 15 = (4 : Int32) by decide), if_neg (show ¬ nI 15 = (5 : Int32) by decide), if_neg (show ¬ nI 15 = (6 : Int32) by decide), if_neg (show ¬ nI 15 = (7 : Int32) by decide), if_neg (show ¬ nI 15 = (8 : Int32) by decide), if_neg (show ¬ nI 15 = (9 : Int32) by decide), if_neg (show ¬ nI 15 = (10 : Int32) by decide), if_neg (show ¬ nI 15 = (11 : Int32) by decide), if_neg (show ¬ nI 15 = (12 : Int32) by decide), if_neg (show ¬ nI 15 = (13 : Int32) by decide), if_neg (show ¬ nI 15 = (14 : Int32) by decide), if_pos (show nI 15 = (15 : Int32) from rfl)]
      rw [show nI 15 - 13 = nI 2 from by decide, s_setting hS (k := 2) (by omega), show (2 : Int32) + nI 15 - 13 = nI 4 from by decide, gI (i := 4) (N := 373) (by omega) (by omega), i_cl (show 4 < 2147483648 by omega)]
      exact ⟨_, _, rfl, rfl, (hR.2.2.2.2.2.1 2 (by omega)).symm, hI⟩
    · rw [if_neg (show ¬ nI 16 < 0 by decide), if_pos (show nI 16 ≤ 19 by decide), if_neg (show ¬ nI 16 = (0 : Int32) by decide), if_neg (show ¬ nI 16 = (1 : Int32) by decide), if_neg (show ¬ nI 16 = (2 : Int32) by decide), if_neg (show ¬ nI 16 = (3 : Int32) by decide), if_neg (show ¬ nI 16 = (4 : Int32) by decide), if_neg (show ¬ nI 16 = (5 : Int32) by decide), if_neg (show ¬ nI 16 = (6 : Int32) by decide), if_neg (show ¬ nI 16 = (7 : Int32) by decide), if_neg (show ¬ nI 16 = (8 : Int32) by decide), if_neg (show ¬ nI 16 = (9 : Int32) by decide), if_neg (show ¬ nI 16 = (10 : Int32) by decide), if_neg (show ¬ nI 16 = (11 : Int32) by decide), if_neg (show ¬ nI 16 = (12 : Int32) by decide), if_neg (show ¬ nI 16 = (13 : Int32) by decide), if_neg (show ¬ nI 16 = (14 : Int32) by decide), if_neg (show ¬ nI 16 = (15 : Int32) by decide), if_pos (show nI 16 = (16 : Int32) from rfl)]
      rw [if_neg (show ¬ nI 16 = (0 : Int32) by decide), if_neg (show ¬ nI 16 = (1 : Int32) by decide), if_neg (show ¬ nI 16 = (2 : Int32) by decide), if_neg (show ¬ nI 16 = (3 : Int32) by decide), if_neg (show ¬ nI 16 = (4 : Int32) by decide), if_neg (show ¬ nI 16 = (5 : Int32) by decide), if_neg (show ¬ nI 16 = (6 : Int32) by decide), if_neg (show ¬ nI 16 = (7 : Int32) by decide), if_neg (show ¬ nI 16 = (8 : Int32) by decide), if_neg (show ¬ nI 16 = (9 : Int32) by decide), if_neg (show ¬ nI 16 = (10 : Int32) by decide), if_neg (show ¬ nI 16 = (11 : Int32) by decide), if_neg (show ¬ nI 16 = (12 : Int32) by decide), if_neg (show ¬ nI 16 = (13 : Int32) by decide), if_neg (show ¬ nI 16 = (14 : Int32) by decide), if_neg (show ¬ nI 16 = (15 : Int32) by decide), if_pos (show nI 16 = (16 : Int32) from rfl)]
      rw [show nI 16 - 13 = nI 3 from by decide, s_setting hS (k := 3) (by omega), show (2 : Int32) + nI 16 - 13 = nI 5 from by decide, gI (i := 5) (N := 373) (by omega) (by omega), i_cl (show 5 < 2147483648 by omega)]
      exact ⟨_, _, rfl, rfl, (hR.2.2.2.2.2.1 3 (by omega)).symm, hI⟩
    · rw [if_neg (show ¬ nI 17 < 0 by decide), if_pos (show nI 17 ≤ 19 by decide), if_neg (show ¬ nI 17 = (0 : Int32) by decide), if_neg (show ¬ nI 17 = (1 : Int32) by decide), if_neg (show ¬ nI 17 = (2 : Int32) by decide), if_neg (show ¬ nI 17 = (3 : Int32) by decide), if_neg (show ¬ nI 17 = (4 : Int32) by decide), if_neg (show ¬ nI 17 = (5 : Int32) by decide), if_neg (show ¬ nI 17 = (6 : Int32) by decide), if_neg (show ¬ nI 17 = (7 : Int32) by decide), if_neg (show ¬ nI 17 = (8 : Int32) by decide), if_neg (show ¬ nI 17 = (9 : Int32) by decide), if_neg (show ¬ nI 17 = (10 : Int32) by decide), if_neg (show ¬ nI 17 = (11 : Int32) by decide), if_neg (show ¬ nI 17 = (12 : Int32) by decide), if_neg (show ¬ nI 17 = (13 : Int32) by decide), if_neg (show ¬ nI 17 = (14 : Int32) by decide), if_neg (show ¬ nI 17 = (15 : Int32) by decide), if_neg (show ¬ nI 17 = (16 : Int32) by decide), if_pos (show nI 17 = (17 : Int32) from rfl)]
      rw [if_neg (show ¬ nI 17 = (0 : Int32) by decide), if_neg (show ¬ nI 17 = (1 : Int32) by decide), if_neg (show ¬ nI 17 = (2 : Int32) by decide), if_neg (show ¬ nI 17 = (3 : Int32) by decide), if_neg (show ¬ nI 17 = (4 : Int32) by decide), if_neg (show ¬ nI 17 = (5 : Int32) by decide), if_neg (show ¬ nI 17 = (6 : Int32) by decide), if_neg (show ¬ nI 17 = (7 : Int32) by decide), if_neg (show ¬ nI 17 = (8 : Int32) by decide), if_neg (show ¬ nI 17 = (9 : Int32) by decide), if_neg (show ¬ nI 17 = (10 : Int32) by decide), if_neg (show ¬ nI 17 = (11 : Int32) by decide), if_neg (show ¬ nI 17 = (12 : Int32) by decide), if_neg (show ¬ nI 17 = (13 : Int32) by decide), if_neg (show ¬ nI 17 = (14 : Int32) by decide), if_neg (show ¬ nI 17 = (15 : Int32) by decide), if_neg (show ¬ nI 17 = (16 : Int32) by decide), if_pos (show nI 17 = (17 : Int32) from rfl)]
      exact ⟨_, _, rfl, rfl, hS.2.2.2.2.2.1.trans hR.2.2.2.2.1.symm, hI⟩
    · rw [if_neg (show ¬ nI 18 < 0 by decide), if_pos (show nI 18 ≤ 19 by decide), if_neg (show ¬ nI 18 = (0 : Int32) by decide), if_neg (show ¬ nI 18 = (1 : Int32) by decide), if_neg (show ¬ nI 18 = (2 : Int32) by decide), if_neg (show ¬ nI 18 = (3 : Int32) by decide), if_neg (show ¬ nI 18 = (4 : Int32) by decide), if_neg (show ¬ nI 18 = (5 : Int32) by decide), if_neg (show ¬ nI 18 = (6 : Int32) by decide), if_neg (show ¬ nI 18 = (7 : Int32) by decide), if_neg (show ¬ nI 18 = (8 : Int32) by decide), if_neg (show ¬ nI 18 = (9 : Int32) by decide), if_neg (show ¬ nI 18 = (10 : Int32) by decide), if_neg (show ¬ nI 18 = (11 : Int32) by decide), if_neg (show ¬ nI 18 = (12 : Int32) by decide), if_neg (show ¬ nI 18 = (13 : Int32) by decide), if_neg (show ¬ nI 18 = (14 : Int32) by decide), if_neg (show ¬ nI 18 = (15 : Int32) by decide), if_neg (show ¬ nI 18 = (16 : Int32) by decide), if_neg (show ¬ nI 18 = (17 : Int32) by decide), if_pos (show nI 18 = (18 : Int32) from rfl)]
      rw [if_neg (show ¬ nI 18 = (0 : Int32) by decide), if_neg (show ¬ nI 18 = (1 : Int32) by decide), if_neg (show ¬ nI 18 = (2 : Int32) by decide), if_neg (show ¬ nI 18 = (3 : Int32) by decide), if_neg (show ¬ nI 18 = (4 : Int32) by decide), if_neg (show ¬ nI 18 = (5 : Int32) by decide), if_neg (show ¬ nI 18 = (6 : Int32) by decide), if_neg (show ¬ nI 18 = (7 : Int32) by decide), if_neg (show ¬ nI 18 = (8 : Int32) by decide), if_neg (show ¬ nI 18 = (9 : Int32) by decide), if_neg (show ¬ nI 18 = (10 : Int32) by decide), if_neg (show ¬ nI 18 = (11 : Int32) by decide), if_neg (show ¬ nI 18 = (12 : Int32) by decide), if_neg (show ¬ nI 18 = (13 : Int32) by decide), if_neg (show ¬ nI 18 = (14 : Int32) by decide), if_neg (show ¬ nI 18 = (15 : Int32) by decide), if_neg (show ¬ nI 18 = (16 : Int32) by decide), if_neg (show ¬ nI 18 = (17 : Int32) by decide), if_pos (show nI 18 = (18 : Int32) from rfl)]
      obtain ⟨c, n, hP, x1, _⟩ := hX
      exact ⟨_, _, rfl, rfl, hP.1.trans x1.symm, hI⟩
    · rw [if_neg (show ¬ nI 19 < 0 by decide), if_pos (show nI 19 ≤ 19 by decide), if_neg (show ¬ nI 19 = (0 : Int32) by decide), if_neg (show ¬ nI 19 = (1 : Int32) by decide), if_neg (show ¬ nI 19 = (2 : Int32) by decide), if_neg (show ¬ nI 19 = (3 : Int32) by decide), if_neg (show ¬ nI 19 = (4 : Int32) by decide), if_neg (show ¬ nI 19 = (5 : Int32) by decide), if_neg (show ¬ nI 19 = (6 : Int32) by decide), if_neg (show ¬ nI 19 = (7 : Int32) by decide), if_neg (show ¬ nI 19 = (8 : Int32) by decide), if_neg (show ¬ nI 19 = (9 : Int32) by decide), if_neg (show ¬ nI 19 = (10 : Int32) by decide), if_neg (show ¬ nI 19 = (11 : Int32) by decide), if_neg (show ¬ nI 19 = (12 : Int32) by decide), if_neg (show ¬ nI 19 = (13 : Int32) by decide), if_neg (show ¬ nI 19 = (14 : Int32) by decide), if_neg (show ¬ nI 19 = (15 : Int32) by decide), if_neg (show ¬ nI 19 = (16 : Int32) by decide), if_neg (show ¬ nI 19 = (17 : Int32) by decide), if_neg (show ¬ nI 19 = (18 : Int32) by decide), if_pos (show nI 19 = (19 : Int32) from rfl)]
      rw [if_neg (show ¬ nI 19 = (0 : Int32) by decide), if_neg (show ¬ nI 19 = (1 : Int32) by decide), if_neg (show ¬ nI 19 = (2 : Int32) by decide), if_neg (show ¬ nI 19 = (3 : Int32) by decide), if_neg (show ¬ nI 19 = (4 : Int32) by decide), if_neg (show ¬ nI 19 = (5 : Int32) by decide), if_neg (show ¬ nI 19 = (6 : Int32) by decide), if_neg (show ¬ nI 19 = (7 : Int32) by decide), if_neg (show ¬ nI 19 = (8 : Int32) by decide), if_neg (show ¬ nI 19 = (9 : Int32) by decide), if_neg (show ¬ nI 19 = (10 : Int32) by decide), if_neg (show ¬ nI 19 = (11 : Int32) by decide), if_neg (show ¬ nI 19 = (12 : Int32) by decide), if_neg (show ¬ nI 19 = (13 : Int32) by decide), if_neg (show ¬ nI 19 = (14 : Int32) by decide), if_neg (show ¬ nI 19 = (15 : Int32) by decide), if_neg (show ¬ nI 19 = (16 : Int32) by decide), if_neg (show ¬ nI 19 = (17 : Int32) by decide), if_neg (show ¬ nI 19 = (18 : Int32) by decide), if_pos (show nI 19 = (19 : Int32) from rfl)]
      obtain ⟨k, _, k1, k2, _⟩ := hH
      exact ⟨_, _, rfl, rfl, k1.trans k2.symm, hI⟩
theorem pf_density : st_density Inv := by
  intro V G hI
  obtain ⟨M, gd, hS, hR⟩ := hI.1
  unfold fX7_density fX8_density
  rw [s_reach gd.1 hS, r_reach gd.1 hR]
  simp only [Option.bind_some]
  rw [hS.1, r_n hR]
  exact ⟨_, rfl, rfl⟩
/-! ===== what would be ===== -/
theorem r_back {G : GX8} {M : GM} {L : Nat} (h : RepR (pX8_s G) (lotM M L)) : RepR (upd (pX8_s G) 1 (nI (mL M))) M := RepR_lot h (mL M)
theorem pf_ifGone : st_ifGone Inv := by
  intro V G a1 a2 hI
  obtain ⟨hT, hH, hK, hX, hY⟩ := id hI
  obtain ⟨M, gd, hS, hR⟩ := id hT
  have gL : pX8_s G (1 : Int32).toNatClampNeg = nI (mL M) := hR.2.2.2.2.1
  unfold fX7_ifGone fX8_ifGone
  rcases r_in0 a2 (n := 2) (by omega) with ⟨j, hj, rfl, e⟩ | ⟨e, q⟩
  · rw [if_neg (i_nz (show j < 2147483648 by omega)), if_pos (show nI j ≤ 2 from i_ple (b := 2) hj (by omega)), show fX8_in (nI j) 0 2 = some 1 from e]
    simp only [Option.bind_some]
    rw [if_neg (show ¬ (1 : Int32) = 0 by decide)]
    rcases b_isRim a1 with ⟨r, hr, rfl, e1, e2⟩ | ⟨e1, e2⟩
    · rw [e1, s_refGo gd.1 hS hr, r_blocked gd.1 hR hr]
      simp only [Option.bind_some]
      rw [if_neg (show ¬ (1 : Int32) = 0 by decide)]
      cases ha : at_ M (rimC r) with
      | some g =>
        rw [if_neg (show ¬ (if (some g : Option Nat).isSome = true then (-2 : Int32) else 0) = 0 by simp), if_neg (show ¬ (if (some g : Option Nat).isSome = true then (1 : Int32) else 0) = 0 by simp)]
        exact ⟨_, _, rfl, rfl, rfl, hI⟩
      | none =>
        rw [if_pos (show (if (none : Option Nat).isSome = true then (-2 : Int32) else 0) = 0 from rfl), if_pos (show (if (none : Option Nat).isSome = true then (1 : Int32) else 0) = 0 from rfl), p_rimC r hr, r_rimC r hr]
        simp only [Option.bind_some]
        have hz := wlk_ok gd.1 (rimC_lt r hr) ha
        obtain ⟨G', e3, w1, w2, w3, w4, w5⟩ := r_walks gd.1 hR (rimC_lt r hr) ha
        rw [s_walk gd.1 hS (rimC_lt r hr), e3]
        simp only [Option.bind_some]
        rw [gL]
        have hb := r_back w1
        have fin : ∀ (K : GX6) (x y : Int32), x = y → Inv (V.1, V.2.1, V.2.2.1, V.2.2.2.1, V.2.2.2.2.1, K, V.2.2.2.2.2.2.1, V.2.2.2.2.2.2.2.1, V.2.2.2.2.2.2.2.2.1, V.2.2.2.2.2.2.2.2.2) (upd (pX8_s G') (1 : Int32).toNatClampNeg (nI (mL M)), G'.2) := fun K x y _ => ⟨⟨M, gd, hS, hb⟩, hH.fq w2.fq, hK.fq w2.fq, hX.fq w2.fq, hY.wh w2.wh⟩
        rcases (show j = 0 ∨ j = 1 ∨ j = 2 by omega) with rfl | rfl | rfl
        · rw [if_pos (show nI 0 = (0 : Int32) from rfl), if_neg (show ¬ nI 0 = (1 : Int32) by decide), if_neg (show ¬ nI 0 = (2 : Int32) by decide), s_answer gd.1 hz]
          simp only [Option.bind_some]
          unfold ansW
          cases hq : (wlk M (rimC r)).2.2.2.2 with
          | none =>
            rw [if_pos (show (if (none : Option Nat).isSome = true then (1 : Int32) else 0) = 0 from rfl)]
            exact ⟨_, _, rfl, rfl, w4.symm, fin _ 0 0 rfl⟩
          | some g =>
            rw [if_neg (show ¬ (if (some g : Option Nat).isSome = true then (1 : Int32) else 0) = 0 by simp)]
            exact ⟨_, _, rfl, rfl, by rw [w3]; exact (i_add 1000 _).symm, fin _ 0 0 rfl⟩
        · rw [if_neg (show ¬ nI 1 = (0 : Int32) by decide), if_pos (show nI 1 = (1 : Int32) from rfl), if_pos (show nI 1 = (1 : Int32) from rfl)]
          exact ⟨_, _, rfl, rfl, w3.symm, fin _ 0 0 rfl⟩
        · rw [if_neg (show ¬ nI 2 = (0 : Int32) by decide), if_neg (show ¬ nI 2 = (1 : Int32) by decide), if_neg (show ¬ nI 2 = (1 : Int32) by decide), if_pos (show nI 2 = (2 : Int32) from rfl)]
          exact ⟨_, _, rfl, rfl, w5.symm, fin _ 0 0 rfl⟩
    · have er : fX4_refusalToGo a1 V.2.1 = some (-1) := by
        unfold fX4_refusalToGo
        rw [e2]; rfl
      rw [e1, er]
      simp only [Option.bind_some]
      rw [if_pos trivial, if_neg (show ¬ (-1 : Int32) = 0 by decide)]
      exact ⟨_, _, rfl, rfl, rfl, hI⟩
  · have hb : ∀ {α : Type} {a b : α}, (if a2 < 0 then a else (if a2 ≤ 2 then b else a)) = a := i_out (n := 2) (by omega) q
    rw [hb, show fX8_in a2 0 2 = some 0 from e]
    simp only [Option.bind_some]
    rw [if_pos trivial]
    rcases b_isRim a1 with ⟨r, hr, rfl, e1, e2⟩ | ⟨e1, e2⟩
    · rw [e1]
      simp only [Option.bind_some]
      rw [if_neg (show ¬ (1 : Int32) = 0 by decide)]
      exact ⟨_, _, rfl, rfl, rfl, hI⟩
    · rw [e1]
      simp only [Option.bind_some]
      rw [if_pos trivial]
      exact ⟨_, _, rfl, rfl, rfl, hI⟩
theorem Fr.as {G H : GX8} (a : Fr G H) : pX8_aside H = pX8_aside G := congrArg (fun x => x.2.2.2.2.2.2.2.2.2.2.2.2.2) a
theorem pf_ifBroken : st_ifBroken Inv := by
  intro V G a1 a2 hI
  obtain ⟨hT, hH, hK, hX, hY⟩ := id hI
  obtain ⟨M, gd, hS, hR⟩ := id hT
  have h1 := gd.1.n1
  unfold fX7_ifBroken fX8_ifBroken
  rcases r_in0 a2 (n := 3) (by omega) with ⟨j, hj, rfl, e⟩ | ⟨e, q⟩
  · rw [if_neg (i_nz (show j < 2147483648 by omega)), if_pos (show nI j ≤ 3 from i_ple (b := 3) hj (by omega)), show fX8_in (nI j) 0 3 = some 1 from e]
    simp only [Option.bind_some]
    rw [if_neg (show ¬ (1 : Int32) = 0 by decide)]
    rcases b_isGrain gd hS hR a1 with ⟨r, hr, rfl, e1, e2⟩ | ⟨e1, e2⟩
    · have hh := gd.1.h hr
      have er : fX4_refusalToBreak (nI r) V.2.1 = if mH M r = 0 then some (-2) else some 0 := by
        unfold fX4_refusalToBreak
        rw [e2]
        simp only [Option.bind_some]
        rw [if_neg (show ¬ (1 : Int32) = 0 by decide), s_holderOf gd.1 hS hr]
        simp only [Option.bind_some]
        rw [ifc (hI_n4 (by omega))]
      rw [er, e1]
      simp only [Option.bind_some]
      rw [if_neg (show ¬ (1 : Int32) = 0 by decide), r_holder gd.1 hR hr]
      simp only [Option.bind_some]
      rw [ifc (hR_nn (by omega))]
      by_cases q : mH M r = 0
      · rw [if_pos q, if_neg (fun z => z q)]
        simp only [Option.bind_some]
        rw [if_neg (show ¬ (-2 : Int32) = 0 by decide)]
        exact ⟨_, _, rfl, rfl, rfl, hI⟩
      · rw [if_neg q, if_pos q]
        simp only [Option.bind_some]
        rw [if_pos trivial]
        have et : fX4_takeOver V.2.2.2.1 V.2.1 = some V.2.1 := rfl
        obtain ⟨F', S', e5, r5⟩ := s_dropTree gd.1 hS hr V.2.2.2.2.2.2.1
        obtain ⟨h, e6, p1, _⟩ := r_copies (a := 0) (b := 0) (n0 := 373) (n2 := 373) (g := pX8_s G) (h := pX8_aside G) (by omega) (by omega) (by omega) (by omega)
        obtain ⟨G', e7, r7, f7⟩ := r_break (G := ((pX8_s G), h, (pX8_past G), (pX8_known G), (pX8_kept G), (pX8_isKept G), (pX8_pad G), (pX8_length G), (pX8_whyError G), (pX8_whyNumber G), (pX8_whySpot G), (pX8_lots G), (pX8_walker G), (pX8_steps G), (pX8_goes G), (pX8_becomes G), (pX8_spot G), (pX8_isForm G), (pX8_letter G), (pX8_told G), (pX8_highest G))) gd.1 hR hr
        have g' := gd.brk hr q
        rw [et, show fX8_copies 0 0 373 (pX8_s G) 373 (pX8_aside G) = some h from e6]
        simp only [Option.bind_some]
        rw [e5, e7]
        simp only [Option.bind_some]
        obtain ⟨k, e8, p2, _⟩ := r_copies (a := 0) (b := 0) (n0 := 373) (n2 := 373) (g := pX8_aside G') (h := pX8_s G') (by omega) (by omega) (by omega) (by omega)
        have ha : pX8_aside G' = h := f7.as
        have hk : ∀ i, i < 373 → k i = pX8_s G i := fun i hi => by
          have z1 := p2 i hi
          have z2 := p1 i hi
          rw [Nat.zero_add] at z1 z2
          rw [z1, ha, z2]
        have fj : ∀ (y : Int32), jX8_ifBroken_1 (nI (mN M - rk (inT M r) (mN M)), G') y = some (y, (k, G'.2)) := fun y => by
          unfold jX8_ifBroken_1
          dsimp only
          rw [show fX8_copies 0 0 373 (pX8_aside G') 373 (pX8_s G') = some k from e8]
          rfl
        have fin : ∀ (gt : GX4) (F : GX0) (T : GX5) (C : GX3), Inv (V.1, V.2.1, V.2.2.1, gt, V.2.2.2.2.1, V.2.2.2.2.2.1, F, T, C, V.2.2.2.2.2.2.2.2.2) (k, G'.2) := fun gt F T C => ⟨hT.ext hk, hH.fq (G := G) f7.fq, hK.fq (G := G) f7.fq, hX.fq (G := G) f7.fq, hY.wh (G := G) f7.wh⟩
        rcases (show j = 0 ∨ j = 1 ∨ j = 2 ∨ j = 3 by omega) with rfl | rfl | rfl | rfl
        · rw [if_pos (show nI 0 = (0 : Int32) from rfl), if_pos (show nI 0 = (0 : Int32) from rfl), fj]
          exact ⟨_, _, rfl, rfl, r5.1.trans (r_n r7).symm, fin _ _ _ _⟩
        · rw [if_neg (show ¬ nI 1 = (0 : Int32) by decide), if_neg (show ¬ nI 1 = (0 : Int32) by decide), if_pos (show nI 1 = (1 : Int32) from rfl), if_pos (show nI 1 = (1 : Int32) from rfl), s_reach g'.1 r5, r_reach g'.1 r7]
          simp only [Option.bind_some]
          rw [fj]
          exact ⟨_, _, rfl, rfl, rfl, fin _ _ _ _⟩
        · rw [if_neg (show ¬ nI 2 = (0 : Int32) by decide), if_neg (show ¬ nI 2 = (0 : Int32) by decide), if_neg (show ¬ nI 2 = (1 : Int32) by decide), if_neg (show ¬ nI 2 = (1 : Int32) by decide), if_pos (show nI 2 = (2 : Int32) from rfl), if_pos (show nI 2 = (2 : Int32) from rfl)]
          obtain ⟨T', eT, rT⟩ := s_trees g'.1 r5 V.2.2.2.2.2.2.2.1
          rw [eT, r_deepest g'.1 r7]
          simp only [Option.bind_some]
          rw [s_deepest g'.1 rT, fj]
          exact ⟨_, _, rfl, rfl, rfl, fin _ _ _ _⟩
        · rw [if_neg (show ¬ nI 3 = (0 : Int32) by decide), if_neg (show ¬ nI 3 = (0 : Int32) by decide), if_neg (show ¬ nI 3 = (1 : Int32) by decide), if_neg (show ¬ nI 3 = (1 : Int32) by decide), if_neg (show ¬ nI 3 = (2 : Int32) by decide), if_neg (show ¬ nI 3 = (2 : Int32) by decide)]
          obtain ⟨C', eC, rC⟩ := s_screens g'.1 r5 V.2.2.2.2.2.2.2.2.1
          rw [eC, r_unscreened g'.1 r7]
          simp only [Option.bind_some]
          rw [fj]
          exact ⟨_, _, rfl, rfl, rC.2.1, fin _ _ _ _⟩
    · have er : fX4_refusalToBreak a1 V.2.1 = some (-1) := by
        unfold fX4_refusalToBreak
        rw [e2]; rfl
      rw [e1, er]
      simp only [Option.bind_some]
      rw [if_pos trivial, if_neg (show ¬ (-1 : Int32) = 0 by decide)]
      exact ⟨_, _, rfl, rfl, rfl, hI⟩
  · have hb : ∀ {α : Type} {a b : α}, (if a2 < 0 then a else (if a2 ≤ 3 then b else a)) = a := i_out (n := 3) (by omega) q
    rw [hb, show fX8_in a2 0 3 = some 0 from e]
    simp only [Option.bind_some]
    rw [if_pos trivial]
    rcases b_isGrain gd hS hR a1 with ⟨r, hr, rfl, e1, e2⟩ | ⟨e1, e2⟩
    · rw [e1]
      simp only [Option.bind_some]
      rw [if_neg (show ¬ (1 : Int32) = 0 by decide)]
      exact ⟨_, _, rfl, rfl, rfl, hI⟩
    · rw [e1]
      simp only [Option.bind_some]
      rw [if_pos trivial]
      exact ⟨_, _, rfl, rfl, rfl, hI⟩
/-! ===== history, snapshot ===== -/
theorem c_undo {g0 : GX7} {gn : GX4} {gh : GH} {j : Nat} (hj : j < 4) (h : pX7_states g0 = nI (j + 1)) : fX7_undo g0 gn gh = some (nI j, (nI j, g0.2), hs gh j) := by
  unfold fX7_undo
  rw [h, if_pos (show (1 : Int32) ≤ nI (j + 1) from i_ple (a := 1) (by omega) (by omega)), i_dec' (by omega), Nat.add_sub_cancel]
  rcases (show j = 0 ∨ j = 1 ∨ j = 2 ∨ j = 3 by omega) with rfl | rfl | rfl | rfl
  · rw [if_pos (show nI 0 = (0 : Int32) from rfl)]
    rfl
  · rw [if_neg (show ¬ nI 1 = (0 : Int32) by decide), if_pos (show nI 1 = (1 : Int32) from rfl)]
    rfl
  · rw [if_neg (show ¬ nI 2 = (0 : Int32) by decide), if_neg (show ¬ nI 2 = (1 : Int32) by decide), if_pos (show nI 2 = (2 : Int32) from rfl)]
    rfl
  · rw [if_neg (show ¬ nI 3 = (0 : Int32) by decide), if_neg (show ¬ nI 3 = (1 : Int32) by decide), if_neg (show ¬ nI 3 = (2 : Int32) by decide), if_pos (show nI 3 = (3 : Int32) from rfl)]
    rfl
theorem pf_undo : st_undo Inv := by
  intro V G hI
  obtain ⟨hT, ⟨k, hk, k1, k2, k3⟩, hK, hX, hY⟩ := id hI
  rcases Nat.eq_zero_or_pos k with q | q
  · subst q
    unfold fX7_undo fX8_undo
    rw [k1, k2, if_neg (show ¬ (1 : Int32) ≤ nI 0 by decide), if_pos (show nI 0 = (0 : Int32) from rfl)]
    exact ⟨_, _, rfl, rfl, rfl, hI⟩
  · obtain ⟨j, rfl⟩ : ∃ j, k = j + 1 := ⟨k - 1, by omega⟩
    rw [c_undo (by omega) k1]
    unfold fX8_undo
    rw [k2, if_neg (show ¬ nI (j + 1) = 0 from fun z => by
      have := (i_eq (a := j + 1) (b := 0) (by omega) (by omega)).mp z
      omega), i_dec' (by omega), Nat.add_sub_cancel, show (373 : Int32) * nI j = nI (373 * j) from i_mul 373 j]
    obtain ⟨h, e, p1, _⟩ := r_copies (a := 373 * j) (b := 0) (n0 := 1492) (n2 := 373) (g := pX8_past G) (h := pX8_s G) (by omega) (by omega) (by omega) (by omega)
    rw [show fX8_copies (nI (373 * j)) 0 1492 (pX8_past G) 373 (pX8_s G) = some h from e]
    simp only [Option.bind_some]
    refine ⟨_, _, rfl, rfl, rfl, (k3 j (by omega)).ext (fun i hi => ?_), ⟨j, by omega, rfl, rfl, fun i hi => k3 i (by omega)⟩, hK, hX, hY⟩
    have := p1 i hi
    rw [Nat.zero_add] at this
    exact this
theorem pf_save : st_save Inv := by
  intro V G ⟨hT, hH, hK, hX, hY⟩
  obtain ⟨M, gd, hS, hR⟩ := id hT
  obtain ⟨h, e, p1, _⟩ := r_copies (a := 0) (b := 0) (n0 := 373) (n2 := 373) (g := pX8_s G) (h := pX8_kept G) (by omega) (by omega) (by omega) (by omega)
  unfold fX7_save fX8_save
  rw [show fX4_takeOver V.2.2.1 V.2.1 = some V.2.1 from rfl, show fX8_copies 0 0 373 (pX8_s G) 373 (pX8_kept G) = some h from e]
  simp only [Option.bind_some]
  refine ⟨_, _, rfl, rfl, hS.1.trans (r_n hR).symm, hT, hH, Or.inr ⟨rfl, rfl, hT.ext (fun i hi => ?_)⟩, hX, hY⟩
  have := p1 i hi
  rw [Nat.zero_add] at this
  exact this
theorem pf_restore : st_restore Inv := by
  intro V G hI
  obtain ⟨hT, hH, hK, hX, hY⟩ := id hI
  unfold fX7_restore fX8_restore
  rcases hK with ⟨s1, s2⟩ | ⟨s1, s2, s3⟩
  · rw [if_pos s1, if_pos s2]
    exact ⟨_, _, rfl, rfl, rfl, hI⟩
  · rw [if_neg (show ¬ pX7_saved V.1 = 0 by rw [s1]; decide), if_neg (show ¬ pX8_isKept G = 0 by rw [s2]; decide)]
    obtain ⟨st, gh', P, kn, e1, e2, hH'⟩ := rec_both (gh := V.2.2.2.2.1) hT hH
    obtain ⟨h, e, p1, _⟩ := r_copies (a := 0) (b := 0) (n0 := 373) (n2 := 373) (g := pX8_kept G) (h := pX8_s G) (by omega) (by omega) (by omega) (by omega)
    rw [e1, e2]
    simp only [Option.bind_some]
    rw [show fX4_takeOver V.2.1 V.2.2.1 = some V.2.2.1 from rfl, show fX8_copies 0 0 373 (pX8_kept G) 373 (pX8_s G) = some h from e]
    simp only [Option.bind_some]
    have hk : ∀ i, i < 373 → h i = pX8_kept G i := fun i hi => by
      have := p1 i hi
      rw [Nat.zero_add] at this
      exact this
    have hT' := s3.ext hk
    obtain ⟨M', gd', hS', hR'⟩ := id hT'
    exact ⟨_, _, rfl, rfl, hS'.1.trans hR'.1.symm, hT', hH', Or.inr ⟨s1, s2, s3⟩, hX, hY⟩
/-! ===== the start ===== -/
def M00 : GM := (0, (fun _ => 0), (fun _ => 0), (fun _ => 0), 1, (fun k => if k = 0 then 4 else if k = 1 then 60 else if k = 2 then 0 else 2), 0, 0, 0, 0)
theorem WF.m00 : WF M00 := ⟨by decide, fun g hg => absurd hg (Nat.not_lt_zero _), fun g hg => absurd hg (Nat.not_lt_zero _), fun a b hg => absurd hg (Nat.not_lt_zero _), by decide, by decide, by decide, by decide, by decide⟩
theorem pf_start : st_start Inv := by
  obtain ⟨S', e1, r1⟩ := s_plant (S := S0X4) (M := M00) (b := 0) (by omega) rfl (fun k hk => by
    rcases (show k = 0 ∨ k = 1 ∨ k = 2 ∨ k = 3 by omega) with rfl | rfl | rfl | rfl
    · rfl
    · rfl
    · rfl
    · rfl)
  obtain ⟨G', e2, r2, f2⟩ := r_roots (G := S0X8) (M := M00) (b := 0) (by omega) rfl (fun k hk => by
    rcases (show k = 0 ∨ k = 1 ∨ k = 2 ∨ k = 3 by omega) with rfl | rfl | rfl | rfl
    · rfl
    · rfl
    · rfl
    · rfl) rfl rfl rfl rfl
  obtain ⟨s2, R2⟩ := G'
  dsimp only at f2
  subst f2
  exact ⟨_, _, e1, e2, ⟨_, Good.beg WF.m00 (by omega), r1, r2⟩, ⟨0, by omega, rfl, rfl, fun i hi => absurd hi (Nat.not_lt_zero _)⟩, Or.inl ⟨rfl, rfl⟩, ⟨fun _ => 0, 0, ⟨rfl, by omega, fun i hi => absurd hi (Nat.not_lt_zero _)⟩, rfl, by omega, fun i hi => absurd hi (Nat.not_lt_zero _)⟩, rfl, fun z => absurd rfl z⟩
