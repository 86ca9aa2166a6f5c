/-! ===== p28: what would be, density ===== -/
def ifgA (M : GM) (x y : Int32) : Int32 := match ix y 3, ix x 40 with
  | some j, some r => if (at_ M (rimC r)).isSome then -2 else if j = 0 then ansW (wlk M (rimC r)) else if j = 1 then nI (wlk M (rimC r)).1 else nI (wlk M (rimC r)).2.2.1
  | _, _ => -1
theorem k_refGo {S : GX4} {x : Int32} (q : x < 0 ∨ nI 40 ≤ x) : fX4_refusalToGo x S = some (-1) := by
  unfold fX4_refusalToGo fX2_isRim
  rcases q with q | q
  · rw [if_pos q]; rfl
  · rw [if_neg (i_hi (n := 39) (by omega) q).1, if_pos (show (40 : Int32) ≤ x from q)]; rfl
theorem k_ifGone {V : GV} {a : AS} (h : RepA V a) (x y : Int32) : ∃ o, fX7_ifGone x y V.1 V.2.1 V.2.2.2.2.2.1 = some o ∧ o.1 = ifgA a.1 x y ∧ RepA (V.1, V.2.1, V.2.2.1, V.2.2.2.1, V.2.2.2.2.1, o.2, V.2.2.2.2.2.2.1, V.2.2.2.2.2.2.2.1, V.2.2.2.2.2.2.2.2.1, V.2.2.2.2.2.2.2.2.2) a := by
  obtain ⟨⟨gd, hS⟩, -⟩ := id h
  have gd := gd.1
  unfold fX7_ifGone ifgA
  rcases ix_cases y (n := 3) (by omega) with ⟨j, hj, rfl, e⟩ | ⟨e, q⟩
  · rw [if_neg (i_nz (show j < 2147483648 by omega)), if_pos (show nI j ≤ 2 from i_ple (b := 2) (by omega) (by omega)), e]
    rcases ix_cases x (n := 40) (by omega) with ⟨r, hr, rfl, e2⟩ | ⟨e2, q⟩
    · rw [e2, s_refGo gd.1 hS hr]
      simp only [Option.bind_some]
      cases ha : at_ a.1 (rimC r) with
      | some g =>
        rw [if_neg (show ¬ (if (some g : Option Nat).isSome = true then (-2 : Int32) else 0) = 0 by simp)]
        exact ⟨_, rfl, rfl, h⟩
      | none =>
        rw [if_pos (show (if (none : Option Nat).isSome = true then (-2 : Int32) else 0) = 0 from rfl), p_rimC r hr]
        simp only [Option.bind_some]
        have hz := wlk_ok gd.1 (rimC_lt r hr) ha
        rw [s_walk gd.1 hS (rimC_lt r hr)]
        simp only [Option.bind_some]
        rcases (show j = 0 ∨ j = 1 ∨ j = 2 by omega) with rfl | rfl | rfl
        · rw [if_pos (show nI 0 = (0 : Int32) from rfl), s_answer gd.1 hz]
          exact ⟨_, rfl, rfl, h⟩
        · rw [if_neg (show ¬ nI 1 = (0 : Int32) by decide), if_pos (show nI 1 = (1 : Int32) from rfl)]
          exact ⟨_, rfl, rfl, h⟩
        · rw [if_neg (show ¬ nI 2 = (0 : Int32) by decide), if_neg (show ¬ nI 2 = (1 : Int32) by decide)]
          exact ⟨_, rfl, rfl, h⟩
    · rw [e2, k_refGo q]
      simp only [Option.bind_some]
      rw [if_neg (show ¬ (-1 : Int32) = 0 by decide)]
      exact ⟨_, rfl, rfl, h⟩
  · have hb : ∀ {α : Type} {a b : α}, (if y < 0 then a else (if y ≤ 2 then b else a)) = a := i_out (n := 2) (by omega) q
    rw [hb, e]
    exact ⟨_, rfl, rfl, h⟩
def ifbA (M : GM) (x y : Int32) : Int32 := match ix y 4, ix x (mN M) with
  | some j, some r => if mH M r = 0 then -2 else if j = 0 then nI (mN (drpM M (inT M r))) else if j = 1 then nI (reachM (drpM M (inT M r))) else if j = 2 then nI (dpt (drpM M (inT M r))) else nI (opn (drpM M (inT M r)))
  | _, _ => -1
theorem k_refBreak {S : GX4} {M : GM} (g : Good M) (h : RepS S M) (x : Int32) : (∃ r, r < mN M ∧ x = nI r ∧ ix x (mN M) = some r ∧ fX4_refusalToBreak x S = if mH M r = 0 then some (-2) else some 0) ∨ (ix x (mN M) = none ∧ fX4_refusalToBreak x S = some (-1)) := by
  have h1 := g.1.n1
  unfold fX4_refusalToBreak
  rcases k_isGrain g h x with ⟨r, hr, rfl, e, e1⟩ | ⟨e, e1⟩
  · have hh := g.1.h hr
    refine Or.inl ⟨r, hr, rfl, e, ?_⟩
    rw [e1]
    simp only [Option.bind_some]
    rw [if_neg (show ¬ (1 : Int32) = 0 by decide), s_holderOf g.1 h hr]
    simp only [Option.bind_some]
    rw [ifc (hI_n4 (by omega))]
  · refine Or.inr ⟨e, ?_⟩
    rw [e1]
    rfl
theorem k_ifBroken {V : GV} {a : AS} (h : RepA V a) (x y : Int32) : ∃ o, fX7_ifBroken x y V.1 V.2.1 V.2.2.2.1 V.2.2.2.2.2.2.1 V.2.2.2.2.2.2.2.1 V.2.2.2.2.2.2.2.2.1 = some o ∧ o.1 = ifbA a.1 x y ∧ RepA (V.1, V.2.1, V.2.2.1, o.2.1, V.2.2.2.2.1, V.2.2.2.2.2.1, o.2.2.1, o.2.2.2.1, o.2.2.2.2, V.2.2.2.2.2.2.2.2.2) a := by
  obtain ⟨⟨pm, hS⟩, -⟩ := id h
  have gd := pm.1
  unfold fX7_ifBroken ifbA
  rcases ix_cases y (n := 4) (by omega) with ⟨j, hj, rfl, e⟩ | ⟨e, q⟩
  · rw [if_neg (i_nz (show j < 2147483648 by omega)), if_pos (show nI j ≤ 3 from i_ple (b := 3) (by omega) (by omega)), e]
    rcases k_refBreak gd hS x with ⟨r, hr, rfl, e2, er⟩ | ⟨e2, er⟩
    · rw [e2, er]
      by_cases q : mH a.1 r = 0
      · rw [if_pos q]
        simp only [Option.bind_some]
        rw [if_neg (show ¬ (-2 : Int32) = 0 by decide), if_pos q]
        exact ⟨_, rfl, rfl, h⟩
      · rw [if_neg q]
        simp only [Option.bind_some]
        rw [if_pos trivial, if_neg q]
        have et : fX4_takeOver V.2.2.2.1 V.2.1 = some V.2.1 := rfl
        obtain ⟨F', S', e5, r5⟩ := s_dropTree gd.1 hS hr V.2.2.2.2.2.2.1
        have g' := (pm.brk hr q).1
        rw [et]
        simp only [Option.bind_some]
        rw [e5]
        simp only [Option.bind_some]
        rcases (show j = 0 ∨ j = 1 ∨ j = 2 ∨ j = 3 by omega) with rfl | rfl | rfl | rfl
        · rw [if_pos (show nI 0 = (0 : Int32) from rfl)]
          exact ⟨_, rfl, r5.1, h⟩
        · rw [if_neg (show ¬ nI 1 = (0 : Int32) by decide), if_pos (show nI 1 = (1 : Int32) from rfl), s_reach g'.1 r5]
          exact ⟨_, rfl, rfl, h⟩
        · rw [if_neg (show ¬ nI 2 = (0 : Int32) by decide), if_neg (show ¬ nI 2 = (1 : Int32) by decide), if_pos (show nI 2 = (2 : Int32) from rfl)]
          obtain ⟨T', eT, rT⟩ := s_trees g'.1 r5 V.2.2.2.2.2.2.2.1
          rw [eT]
          simp only [Option.bind_some]
          rw [s_deepest g'.1 rT]
          exact ⟨_, rfl, rfl, h⟩
        · rw [if_neg (show ¬ nI 3 = (0 : Int32) by decide), if_neg (show ¬ nI 3 = (1 : Int32) by decide), if_neg (show ¬ nI 3 = (2 : Int32) by decide)]
          obtain ⟨C', eC, rC⟩ := s_screens g'.1 r5 V.2.2.2.2.2.2.2.2.1
          rw [eC]
          exact ⟨_, rfl, rC.2.1, h⟩
    · rw [e2, er]
      simp only [Option.bind_some]
      rw [if_neg (show ¬ (-1 : Int32) = 0 by decide)]
      exact ⟨_, rfl, rfl, h⟩
  · have hb : ∀ {α : Type} {a b : α}, (if y < 0 then a else (if y ≤ 3 then b else a)) = a := i_out (n := 3) (by omega) q
    rw [hb, e]
    exact ⟨_, rfl, rfl, h⟩
theorem k_density {V : GV} {a : AS} (h : RepA V a) : fX7_density V.1 V.2.1 = some (nI (mN a.1), nI ((2 * reachM a.1 + 1) * (2 * reachM a.1 + 1))) := by
  unfold fX7_density
  rw [s_reach h.1.1.1.1 h.1.2]
  simp only [Option.bind_some]
  rw [h.1.2.1, show (2 : Int32) * nI (reachM a.1) = nI (2 * reachM a.1) from i_mul 2 _, i_inc, i_mul]
