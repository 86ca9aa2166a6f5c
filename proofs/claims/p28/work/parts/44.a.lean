/-! ===== p28: the looks of the class alone ===== -/
theorem k_isCell (x : Int32) : (∃ r, r < 121 ∧ x = nI r ∧ ix x 121 = some r ∧ fX2_isCell x = some 1) ∨ (ix x 121 = none ∧ fX2_isCell x = some 0) := by
  unfold fX2_isCell
  rcases ix_cases x (n := 121) (by omega) with ⟨j, hj, rfl, e⟩ | ⟨e, q⟩
  · exact Or.inl ⟨j, hj, rfl, e, by rw [if_neg (i_nz (by omega)), if_neg (show ¬ (121 : Int32) ≤ nI j from i_nle (a := 121) hj (by omega))]⟩
  · refine Or.inr ⟨e, ?_⟩
    rcases q with q | q
    · rw [if_pos q]
    · by_cases q0 : x < 0
      · rw [if_pos q0]
      · rw [if_neg q0, if_pos (show (121 : Int32) ≤ x from q)]
theorem k_isRim (x : Int32) : (∃ r, r < 40 ∧ x = nI r ∧ ix x 40 = some r ∧ fX2_isRim x = some 1) ∨ (ix x 40 = none ∧ fX2_isRim x = some 0) := by
  unfold fX2_isRim
  rcases ix_cases x (n := 40) (by omega) with ⟨j, hj, rfl, e⟩ | ⟨e, q⟩
  · exact Or.inl ⟨j, hj, rfl, e, by rw [if_neg (i_nz (by omega)), if_neg (show ¬ (40 : Int32) ≤ nI j from i_nle (a := 40) hj (by omega))]⟩
  · refine Or.inr ⟨e, ?_⟩
    rcases q with q | q
    · rw [if_pos q]
    · by_cases q0 : x < 0
      · rw [if_pos q0]
      · rw [if_neg q0, if_pos (show (40 : Int32) ≤ x from q)]
def celL (M : GM) (c j : Nat) : Int32 := if j = 0 then oI (at_ M c) else if j = 1 then nI (ring c) else if j = 2 then nI (bsd M c) else oI (rimN c)
def celA (M : GM) (x y : Int32) : Int32 := match ix x 121, ix y 4 with
  | some c, some j => celL M c j
  | _, _ => -1
theorem k_cell {V : GV} {a : AS} (h : RepA V a) (x y : Int32) : fX7_cell x y V.1 V.2.1 = some (celA a.1 x y) := by
  obtain ⟨⟨gd, hS⟩, -⟩ := h
  have gd := gd.1
  unfold fX7_cell celA
  rcases k_isCell x with ⟨r, hr, rfl, e, e1⟩ | ⟨e, e1⟩
  · rw [e, e1]
    simp only [Option.bind_some]
    rw [if_neg (show ¬ (1 : Int32) = 0 by decide)]
    rcases ix_cases y (n := 4) (by omega) with ⟨j, hj, rfl, e2⟩ | ⟨e2, q⟩
    · rw [e2]
      rcases (show j = 0 ∨ j = 1 ∨ j = 2 ∨ j = 3 by omega) with rfl | rfl | rfl | rfl
      · rw [if_neg (show ¬ nI 0 < 0 by decide), if_pos (show nI 0 ≤ 3 by decide), if_pos (show nI 0 = (0 : Int32) from rfl), s_grainAt hS hr]
        rfl
      · rw [if_neg (show ¬ nI 1 < 0 by decide), if_pos (show nI 1 ≤ 3 by decide), if_neg (show ¬ nI 1 = (0 : Int32) by decide), if_pos (show nI 1 = (1 : Int32) from rfl), p_ring r hr]
        rfl
      · rw [if_neg (show ¬ nI 2 < 0 by decide), if_pos (show nI 2 ≤ 3 by decide), if_neg (show ¬ nI 2 = (0 : Int32) by decide), if_neg (show ¬ nI 2 = (1 : Int32) by decide), if_pos (show nI 2 = (2 : Int32) from rfl), s_bsd gd.1 hS hr]
        rfl
      · rw [if_neg (show ¬ nI 3 < 0 by decide), if_pos (show nI 3 ≤ 3 by decide), if_neg (show ¬ nI 3 = (0 : Int32) by decide), if_neg (show ¬ nI 3 = (1 : Int32) by decide), if_neg (show ¬ nI 3 = (2 : Int32) by decide), p_rimN r hr]
        rfl
    · have hb : ∀ {α : Type} {a b : α}, (if y < 0 then a else (if y ≤ 3 then b else a)) = a := i_out (n := 3) (by omega) q
      rw [e2, hb]
  · rw [e, e1]
    rfl
def grnL (M : GM) (g j : Nat) : Int32 := if j = 0 then nI (mC M g) else if j = 1 then hI (mH M g) else if j = 2 then nI (dep M g) else if j = 3 then nI (chl M g) else if j = 4 then nI (siz M g) else if j = 5 then nI (hgt M g) else if j = 6 then nI (cth M g) else if j = 7 then nI (rot M g) else mW M g
def grnA (M : GM) (x y : Int32) : Int32 := match ix x (mN M), ix y 9 with
  | some g, some j => grnL M g j
  | _, _ => -1
theorem k_grain {V : GV} {a : AS} (h : RepA V a) (x y : Int32) : ∃ o, fX7_grain x y V.1 V.2.1 V.2.2.2.2.2.2.2.1 V.2.2.2.2.2.2.2.2.1 = some o ∧ o.1 = grnA a.1 x y ∧ RepA (V.1, V.2.1, V.2.2.1, V.2.2.2.1, V.2.2.2.2.1, V.2.2.2.2.2.1, V.2.2.2.2.2.2.1, o.2.1, o.2.2, V.2.2.2.2.2.2.2.2.2) a := by
  obtain ⟨⟨gd, hS⟩, -⟩ := id h
  have gd := gd.1
  have h1 := gd.1.n1
  unfold fX7_grain grnA
  rcases k_isGrain gd hS x with ⟨r, hr, rfl, e, e1⟩ | ⟨e, e1⟩
  · rw [e, e1]
    simp only [Option.bind_some]
    rw [if_neg (show ¬ (1 : Int32) = 0 by decide)]
    obtain ⟨T', eT, rT⟩ := s_trees gd.1 hS V.2.2.2.2.2.2.2.1
    obtain ⟨C', eC, rC⟩ := s_screens gd.1 hS V.2.2.2.2.2.2.2.2.1
    have rr := rT.2 r hr
    rcases ix_cases y (n := 9) (by omega) with ⟨j, hj, rfl, e2⟩ | ⟨e2, q⟩
    · rw [e2]
      rcases (show j = 0 ∨ j = 1 ∨ j = 2 ∨ j = 3 ∨ j = 4 ∨ j = 5 ∨ j = 6 ∨ j = 7 ∨ j = 8 by omega) with rfl | rfl | rfl | rfl | rfl | rfl | rfl | rfl | rfl
      · rw [if_neg (show ¬ nI 0 < 0 by decide), if_pos (show nI 0 ≤ 8 by decide), eT]
        simp only [Option.bind_some]
        rw [if_pos (show nI 0 = (0 : Int32) from rfl)]
        rw [s_cellOf gd.1 hS hr]
        exact ⟨_, rfl, rfl, h⟩
      · rw [if_neg (show ¬ nI 1 < 0 by decide), if_pos (show nI 1 ≤ 8 by decide), eT]
        simp only [Option.bind_some]
        rw [if_neg (show ¬ nI 1 = (0 : Int32) by decide), if_pos (show nI 1 = (1 : Int32) from rfl)]
        rw [s_holderOf gd.1 hS hr]
        exact ⟨_, rfl, rfl, h⟩
      · rw [if_neg (show ¬ nI 2 < 0 by decide), if_pos (show nI 2 ≤ 8 by decide), eT]
        simp only [Option.bind_some]
        rw [if_neg (show ¬ nI 2 = (0 : Int32) by decide), if_neg (show ¬ nI 2 = (1 : Int32) by decide), if_pos (show nI 2 = (2 : Int32) from rfl)]
        rw [gI (i := r) (N := 121) (by omega) (by omega), i_cl (show r < 2147483648 by omega), rr.1]
        exact ⟨_, rfl, rfl, h⟩
      · rw [if_neg (show ¬ nI 3 < 0 by decide), if_pos (show nI 3 ≤ 8 by decide), eT]
        simp only [Option.bind_some]
        rw [if_neg (show ¬ nI 3 = (0 : Int32) by decide), if_neg (show ¬ nI 3 = (1 : Int32) by decide), if_neg (show ¬ nI 3 = (2 : Int32) by decide), if_pos (show nI 3 = (3 : Int32) from rfl)]
        rw [gI (i := r) (N := 121) (by omega) (by omega), i_cl (show r < 2147483648 by omega), rr.2.2.1]
        exact ⟨_, rfl, rfl, h⟩
      · rw [if_neg (show ¬ nI 4 < 0 by decide), if_pos (show nI 4 ≤ 8 by decide), eT]
        simp only [Option.bind_some]
        rw [if_neg (show ¬ nI 4 = (0 : Int32) by decide), if_neg (show ¬ nI 4 = (1 : Int32) by decide), if_neg (show ¬ nI 4 = (2 : Int32) by decide), if_neg (show ¬ nI 4 = (3 : Int32) by decide), if_pos (show nI 4 = (4 : Int32) from rfl)]
        rw [gI (i := r) (N := 121) (by omega) (by omega), i_cl (show r < 2147483648 by omega), rr.2.2.2.1]
        exact ⟨_, rfl, rfl, h⟩
      · rw [if_neg (show ¬ nI 5 < 0 by decide), if_pos (show nI 5 ≤ 8 by decide), eT]
        simp only [Option.bind_some]
        rw [if_neg (show ¬ nI 5 = (0 : Int32) by decide), if_neg (show ¬ nI 5 = (1 : Int32) by decide), if_neg (show ¬ nI 5 = (2 : Int32) by decide), if_neg (show ¬ nI 5 = (3 : Int32) by decide), if_neg (show ¬ nI 5 = (4 : Int32) by decide), if_pos (show nI 5 = (5 : Int32) from rfl)]
        rw [gI (i := r) (N := 121) (by omega) (by omega), i_cl (show r < 2147483648 by omega), rr.2.2.2.2.1]
        exact ⟨_, rfl, rfl, h⟩
      · rw [if_neg (show ¬ nI 6 < 0 by decide), if_pos (show nI 6 ≤ 8 by decide), eT]
        simp only [Option.bind_some]
        rw [if_neg (show ¬ nI 6 = (0 : Int32) by decide), if_neg (show ¬ nI 6 = (1 : Int32) by decide), if_neg (show ¬ nI 6 = (2 : Int32) by decide), if_neg (show ¬ nI 6 = (3 : Int32) by decide), if_neg (show ¬ nI 6 = (4 : Int32) by decide), if_neg (show ¬ nI 6 = (5 : Int32) by decide), if_pos (show nI 6 = (6 : Int32) from rfl)]
        unfold fX7_catchOf
        rw [eC]
        simp only [Option.bind_some]
        rw [gI (i := r) (N := 121) (by omega) (by omega), i_cl (show r < 2147483648 by omega), rC.2.2 r hr]
        exact ⟨_, rfl, rfl, h⟩
      · rw [if_neg (show ¬ nI 7 < 0 by decide), if_pos (show nI 7 ≤ 8 by decide), eT]
        simp only [Option.bind_some]
        rw [if_neg (show ¬ nI 7 = (0 : Int32) by decide), if_neg (show ¬ nI 7 = (1 : Int32) by decide), if_neg (show ¬ nI 7 = (2 : Int32) by decide), if_neg (show ¬ nI 7 = (3 : Int32) by decide), if_neg (show ¬ nI 7 = (4 : Int32) by decide), if_neg (show ¬ nI 7 = (5 : Int32) by decide), if_neg (show ¬ nI 7 = (6 : Int32) by decide), if_pos (show nI 7 = (7 : Int32) from rfl)]
        rw [gI (i := r) (N := 121) (by omega) (by omega), i_cl (show r < 2147483648 by omega), rr.2.1]
        exact ⟨_, rfl, rfl, h⟩
      · rw [if_neg (show ¬ nI 8 < 0 by decide), if_pos (show nI 8 ≤ 8 by decide), eT]
        simp only [Option.bind_some]
        rw [if_neg (show ¬ nI 8 = (0 : Int32) by decide), if_neg (show ¬ nI 8 = (1 : Int32) by decide), if_neg (show ¬ nI 8 = (2 : Int32) by decide), if_neg (show ¬ nI 8 = (3 : Int32) by decide), if_neg (show ¬ nI 8 = (4 : Int32) by decide), if_neg (show ¬ nI 8 = (5 : Int32) by decide), if_neg (show ¬ nI 8 = (6 : Int32) by decide), if_neg (show ¬ nI 8 = (7 : Int32) by decide)]
        rw [s_stepsOf gd.1 hS hr]
        exact ⟨_, rfl, rfl, h⟩
    · have hb : ∀ {α : Type} {a b : α}, (if y < 0 then a else (if y ≤ 8 then b else a)) = a := i_out (n := 8) (by omega) q
      rw [e2, hb]
      exact ⟨_, rfl, rfl, h⟩
  · rw [e, e1]
    exact ⟨_, rfl, rfl, h⟩
def scrA (M : GM) (x : Int32) : Int32 := match ix x 40 with
  | some r => oI (scr M r)
  | none => -1
theorem k_screens {V : GV} {a : AS} (h : RepA V a) (x : Int32) : fX7_screens x V.1 V.2.1 = some (scrA a.1 x) := by
  obtain ⟨⟨gd, hS⟩, -⟩ := h
  have gd := gd.1
  unfold fX7_screens scrA
  rcases k_isRim x with ⟨r, hr, rfl, e, e1⟩ | ⟨e, e1⟩
  · rw [e, e1]
    simp only [Option.bind_some]
    rw [if_neg (show ¬ (1 : Int32) = 0 by decide), s_first gd.1 hS hr]
    rfl
  · rw [e, e1]
    rfl
def rngA (M : GM) (x : Int32) : Int32 := match ix x 6 with
  | some r => nI (rng M r)
  | none => -1
theorem k_ring {V : GV} {a : AS} (h : RepA V a) (x : Int32) : fX7_ring x V.1 V.2.1 = some (rngA a.1 x) := by
  obtain ⟨⟨gd, hS⟩, -⟩ := h
  have gd := gd.1
  unfold fX7_ring rngA
  rcases ix_cases x (n := 6) (by omega) with ⟨b, hb, rfl, e⟩ | ⟨e, q⟩
  · rw [e, if_neg (i_nz (by omega)), if_pos (show nI b < 6 from i_plt (b := 6) (by omega) (by omega)), s_ringl gd.1 hS (by omega)]
    rfl
  · have hb : ∀ {α : Type} {a b : α}, (if x < 0 then a else (if x < 6 then b else a)) = a := i_outl (n := 5) (by omega) q
    rw [hb, e]
def aptA (M : GM) (x y : Int32) : Int32 := match ix x (mN M), ix y (mN M) with
  | some r, some t => oI (dst M r t)
  | _, _ => -1
theorem k_apart {V : GV} {a : AS} (h : RepA V a) (x y : Int32) : fX7_apart x y V.1 V.2.1 = some (aptA a.1 x y) := by
  obtain ⟨⟨gd, hS⟩, -⟩ := h
  have gd := gd.1
  unfold fX7_apart aptA
  rcases k_isGrain gd hS x with ⟨r, hr, rfl, e, e1⟩ | ⟨e, e1⟩
  · rw [e, e1]
    simp only [Option.bind_some]
    rw [if_neg (show ¬ (1 : Int32) = 0 by decide)]
    rcases k_isGrain gd hS y with ⟨t, ht, rfl, e2, e3⟩ | ⟨e2, e3⟩
    · rw [e2, e3]
      simp only [Option.bind_some]
      rw [if_neg (show ¬ (1 : Int32) = 0 by decide), s_dst gd.1 hS hr ht]
      rfl
    · rw [e2, e3]
      rfl
  · rw [e, e1]
    rfl
def lngA (M : GM) (x : Int32) : Int32 := match ix x 2 with
  | some _ => nI (lng M)
  | none => -1
theorem k_longest {V : GV} {a : AS} (h : RepA V a) (x : Int32) : ∃ o, fX7_longest x V.1 V.2.1 V.2.2.2.2.2.2.2.1 = some o ∧ o.1 = lngA a.1 x ∧ RepA (V.1, V.2.1, V.2.2.1, V.2.2.2.1, V.2.2.2.2.1, V.2.2.2.2.2.1, V.2.2.2.2.2.2.1, o.2, V.2.2.2.2.2.2.2.2.1, V.2.2.2.2.2.2.2.2.2) a := by
  obtain ⟨⟨gd, hS⟩, -⟩ := id h
  have gd := gd.1
  unfold fX7_longest lngA
  rcases ix_cases x (n := 2) (by omega) with ⟨b, hb, rfl, e⟩ | ⟨e, q⟩
  · rw [e, if_neg (i_nz (by omega)), if_pos (show nI b ≤ 1 from i_ple (b := 1) (by omega) (by omega))]
    rcases (show b = 0 ∨ b = 1 by omega) with rfl | rfl
    · rw [if_pos (show nI 0 = (0 : Int32) from rfl), s_longP gd.1 hS]
      exact ⟨_, rfl, congrArg nI (longP_lng gd.1), h⟩
    · obtain ⟨T', eT, rT⟩ := s_trees gd.1 hS V.2.2.2.2.2.2.2.1
      rw [if_neg (show ¬ nI 1 = (0 : Int32) by decide), eT]
      simp only [Option.bind_some]
      rw [s_heights gd.1 rT]
      exact ⟨_, rfl, rfl, h⟩
  · have hb : ∀ {α : Type} {a b : α}, (if x < 0 then a else (if x ≤ 1 then b else a)) = a := i_out (n := 1) (by omega) q
    rw [hb, e]
    exact ⟨_, rfl, rfl, h⟩
def cotL (a : AS) (j : Nat) : Int32 := if j = 0 then nI (mN a.1) else if j = 1 then nI (knd a.1 1) else if j = 2 then nI (knd a.1 2) else if j = 3 then nI (knd a.1 3) else if j = 4 then nI (dpt a.1) else if j = 5 then nI (reachM a.1) else if j = 6 then nI (shoreM a.1) else if j = 7 then mR a.1 else if j = 8 then mT a.1 else if j = 9 then mA a.1 else if j = 10 then mK a.1 else if j = 11 then nI (cth a.1 (bst a.1)) else if j = 12 then nI (bst a.1) else if j = 13 then nI (mS a.1 0) else if j = 14 then nI (mS a.1 1) else if j = 15 then nI (mS a.1 2) else if j = 16 then nI (mS a.1 3) else if j = 17 then nI (mL a.1) else if j = 18 then nI a.2.2.2.1.1 else nI a.2.1.length
def cotA (a : AS) (x : Int32) : Int32 := match ix x 20 with
  | some j => cotL a j
  | none => -1
theorem k_count {V : GV} {a : AS} (h : RepA V a) (x : Int32) : ∃ o, fX7_count x V.1 V.2.1 V.2.2.2.2.2.2.2.1 V.2.2.2.2.2.2.2.2.1 V.2.2.2.2.2.2.2.2.2 = some o ∧ o.1 = cotA a x ∧ RepA (V.1, V.2.1, V.2.2.1, V.2.2.2.1, V.2.2.2.2.1, V.2.2.2.2.2.1, V.2.2.2.2.2.2.1, o.2.1, o.2.2, V.2.2.2.2.2.2.2.2.2) a := by
  obtain ⟨⟨gd, hS⟩, hH, hK, hX, hY⟩ := id h
  have gd := gd.1
  have h1 := gd.1.n1
  have hb := bst_lt gd.2.1
  unfold fX7_count cotA
  obtain ⟨T', eT, rT⟩ := s_trees gd.1 hS V.2.2.2.2.2.2.2.1
  obtain ⟨C', eC, rC⟩ := s_screens gd.1 hS V.2.2.2.2.2.2.2.2.1
  rcases ix_cases x (n := 20) (by omega) with ⟨j, hj, rfl, e⟩ | ⟨e, q⟩
  · rw [e]
    rcases (show j = 0 ∨ j = 1 ∨ j = 2 ∨ j = 3 ∨ j = 4 ∨ j = 5 ∨ j = 6 ∨ j = 7 ∨ j = 8 ∨ j = 9 ∨ j = 10 ∨ j = 11 ∨ j = 12 ∨ j = 13 ∨ j = 14 ∨ j = 15 ∨ j = 16 ∨ j = 17 ∨ j = 18 ∨ j = 19 by omega) with rfl | rfl | rfl | rfl | rfl | rfl | rfl | rfl | rfl | rfl | rfl | rfl | rfl | rfl | rfl | rfl | rfl | rfl | rfl | rfl
    · rw [if_neg (show ¬ nI 0 < 0 by decide), if_pos (show nI 0 ≤ 19 by decide), if_pos (show nI 0 = (0 : Int32) from rfl)]
      exact ⟨_, rfl, hS.1, h⟩
    · rw [if_neg (show ¬ nI 1 < 0 by decide), if_pos (show nI 1 ≤ 19 by decide), if_neg (show ¬ nI 1 = (0 : Int32) by decide), if_pos (show nI 1 = (1 : Int32) from rfl)]
      unfold fX7_countOfTrees
      rw [eT]
      simp only [Option.bind_some]
      rw [if_pos (show nI 1 = (1 : Int32) from rfl), s_rootsOf gd.1 rT]
      exact ⟨_, rfl, rfl, h⟩
    · rw [if_neg (show ¬ nI 2 < 0 by decide), if_pos (show nI 2 ≤ 19 by decide), if_neg (show ¬ nI 2 = (0 : Int32) by decide), if_neg (show ¬ nI 2 = (1 : Int32) by decide), if_pos (show nI 2 = (2 : Int32) from rfl)]
      unfold fX7_countOfTrees
      rw [eT]
      simp only [Option.bind_some]
      rw [if_neg (show ¬ nI 2 = (1 : Int32) by decide), if_pos (show nI 2 = (2 : Int32) from rfl), show fX5_grainsHeldBy 0 0 T' = _ from s_heldBy gd.1 rT (a := 0) (b := 0) (by omega) (by omega), knd_2]
      exact ⟨_, rfl, rfl, h⟩
    · rw [if_neg (show ¬ nI 3 < 0 by decide), if_pos (show nI 3 ≤ 19 by decide), if_neg (show ¬ nI 3 = (0 : Int32) by decide), if_neg (show ¬ nI 3 = (1 : Int32) by decide), if_neg (show ¬ nI 3 = (2 : Int32) by decide), if_pos (show nI 3 = (3 : Int32) from rfl)]
      unfold fX7_countOfTrees
      rw [eT]
      simp only [Option.bind_some]
      rw [if_neg (show ¬ nI 3 = (1 : Int32) by decide), if_neg (show ¬ nI 3 = (2 : Int32) by decide), if_pos (show nI 3 = (3 : Int32) from rfl), show fX5_grainsHeldBy 2 4 T' = _ from s_heldBy gd.1 rT (a := 2) (b := 4) (by omega) (by omega), knd_3 gd]
      exact ⟨_, rfl, rfl, h⟩
    · rw [if_neg (show ¬ nI 4 < 0 by decide), if_pos (show nI 4 ≤ 19 by decide), if_neg (show ¬ nI 4 = (0 : Int32) by decide), if_neg (show ¬ nI 4 = (1 : Int32) by decide), if_neg (show ¬ nI 4 = (2 : Int32) by decide), if_neg (show ¬ nI 4 = (3 : Int32) by decide), if_pos (show nI 4 = (4 : Int32) from rfl)]
      unfold fX7_countOfTrees
      rw [eT]
      simp only [Option.bind_some]
      rw [if_neg (show ¬ nI 4 = (1 : Int32) by decide), if_neg (show ¬ nI 4 = (2 : Int32) by decide), if_neg (show ¬ nI 4 = (3 : Int32) by decide), s_deepest gd.1 rT]
      exact ⟨_, rfl, rfl, h⟩
    · rw [if_neg (show ¬ nI 5 < 0 by decide), if_pos (show nI 5 ≤ 19 by decide), if_neg (show ¬ nI 5 = (0 : Int32) by decide), if_neg (show ¬ nI 5 = (1 : Int32) by decide), if_neg (show ¬ nI 5 = (2 : Int32) by decide), if_neg (show ¬ nI 5 = (3 : Int32) by decide), if_neg (show ¬ nI 5 = (4 : Int32) by decide), if_pos (show nI 5 = (5 : Int32) from rfl)]
      rw [s_reach gd.1 hS]
      exact ⟨_, rfl, rfl, h⟩
    · rw [if_neg (show ¬ nI 6 < 0 by decide), if_pos (show nI 6 ≤ 19 by decide), if_neg (show ¬ nI 6 = (0 : Int32) by decide), if_neg (show ¬ nI 6 = (1 : Int32) by decide), if_neg (show ¬ nI 6 = (2 : Int32) by decide), if_neg (show ¬ nI 6 = (3 : Int32) by decide), if_neg (show ¬ nI 6 = (4 : Int32) by decide), if_neg (show ¬ nI 6 = (5 : Int32) by decide), if_pos (show nI 6 = (6 : Int32) from rfl)]
      rw [s_shore gd.1 hS]
      exact ⟨_, rfl, rfl, h⟩
    · rw [if_neg (show ¬ nI 7 < 0 by decide), if_pos (show nI 7 ≤ 19 by decide), if_neg (show ¬ nI 7 = (0 : Int32) by decide), if_neg (show ¬ nI 7 = (1 : Int32) by decide), if_neg (show ¬ nI 7 = (2 : Int32) by decide), if_neg (show ¬ nI 7 = (3 : Int32) by decide), if_neg (show ¬ nI 7 = (4 : Int32) by decide), if_neg (show ¬ nI 7 = (5 : Int32) by decide), if_neg (show ¬ nI 7 = (6 : Int32) by decide), if_pos (show nI 7 = (7 : Int32) from rfl)]
      exact ⟨_, rfl, hS.2.2.2.2.2.2.2.1, h⟩
    · rw [if_neg (show ¬ nI 8 < 0 by decide), if_pos (show nI 8 ≤ 19 by decide), if_neg (show ¬ nI 8 = (0 : Int32) by decide), if_neg (show ¬ nI 8 = (1 : Int32) by decide), if_neg (show ¬ nI 8 = (2 : Int32) by decide), if_neg (show ¬ nI 8 = (3 : Int32) by decide), if_neg (show ¬ nI 8 = (4 : Int32) by decide), if_neg (show ¬ nI 8 = (5 : Int32) by decide), if_neg (show ¬ nI 8 = (6 : Int32) by decide), if_neg (show ¬ nI 8 = (7 : Int32) by decide), if_pos (show nI 8 = (8 : Int32) from rfl)]
      exact ⟨_, rfl, hS.2.2.2.2.2.2.2.2.1, h⟩
    · rw [if_neg (show ¬ nI 9 < 0 by decide), if_pos (show nI 9 ≤ 19 by decide), if_neg (show ¬ nI 9 = (0 : Int32) by decide), if_neg (show ¬ nI 9 = (1 : Int32) by decide), if_neg (show ¬ nI 9 = (2 : Int32) by decide), if_neg (show ¬ nI 9 = (3 : Int32) by decide), if_neg (show ¬ nI 9 = (4 : Int32) by decide), if_neg (show ¬ nI 9 = (5 : Int32) by decide), if_neg (show ¬ nI 9 = (6 : Int32) by decide), if_neg (show ¬ nI 9 = (7 : Int32) by decide), if_neg (show ¬ nI 9 = (8 : Int32) by decide), if_pos (show nI 9 = (9 : Int32) from rfl)]
      exact ⟨_, rfl, hS.2.2.2.2.2.2.2.2.2.1, h⟩
    · rw [if_neg (show ¬ nI 10 < 0 by decide), if_pos (show nI 10 ≤ 19 by decide), if_neg (show ¬ nI 10 = (0 : Int32) by decide), if_neg (show ¬ nI 10 = (1 : Int32) by decide), if_neg (show ¬ nI 10 = (2 : Int32) by decide), if_neg (show ¬ nI 10 = (3 : Int32) by decide), if_neg (show ¬ nI 10 = (4 : Int32) by decide), if_neg (show ¬ nI 10 = (5 : Int32) by decide), if_neg (show ¬ nI 10 = (6 : Int32) by decide), if_neg (show ¬ nI 10 = (7 : Int32) by decide), if_neg (show ¬ nI 10 = (8 : Int32) by decide), if_neg (show ¬ nI 10 = (9 : Int32) by decide), if_pos (show nI 10 = (10 : Int32) from rfl)]
      exact ⟨_, rfl, hS.2.2.2.2.2.2.2.2.2.2, h⟩
    · rw [if_neg (show ¬ nI 11 < 0 by decide), if_pos (show nI 11 ≤ 19 by decide), if_neg (show ¬ nI 11 = (0 : Int32) by decide), if_neg (show ¬ nI 11 = (1 : Int32) by decide), if_neg (show ¬ nI 11 = (2 : Int32) by decide), if_neg (show ¬ nI 11 = (3 : Int32) by decide), if_neg (show ¬ nI 11 = (4 : Int32) by decide), if_neg (show ¬ nI 11 = (5 : Int32) by decide), if_neg (show ¬ nI 11 = (6 : Int32) by decide), if_neg (show ¬ nI 11 = (7 : Int32) by decide), if_neg (show ¬ nI 11 = (8 : Int32) by decide), if_neg (show ¬ nI 11 = (9 : Int32) by decide), if_neg (show ¬ nI 11 = (10 : Int32) by decide), if_pos (show nI 11 = (11 : Int32) from rfl)]
      unfold fX7_bestCatcher fX7_catchOf
      rw [eC]
      simp only [Option.bind_some]
      rw [s_best gd.1 gd.2.1 rC]
      simp only [Option.bind_some]
      obtain ⟨C2, eC2, rC2⟩ := s_screens gd.1 hS C'
      rw [eC2]
      simp only [Option.bind_some]
      rw [gI (i := bst a.1) (N := 121) (by omega) (by omega), i_cl (show bst a.1 < 2147483648 by omega), rC2.2.2 _ hb]
      exact ⟨_, rfl, rfl, h⟩
    · rw [if_neg (show ¬ nI 12 < 0 by decide), if_pos (show nI 12 ≤ 19 by decide), if_neg (show ¬ nI 12 = (0 : Int32) by decide), if_neg (show ¬ nI 12 = (1 : Int32) by decide), if_neg (show ¬ nI 12 = (2 : Int32) by decide), if_neg (show ¬ nI 12 = (3 : Int32) by decide), if_neg (show ¬ nI 12 = (4 : Int32) by decide), if_neg (show ¬ nI 12 = (5 : Int32) by decide), if_neg (show ¬ nI 12 = (6 : Int32) by decide), if_neg (show ¬ nI 12 = (7 : Int32) by decide), if_neg (show ¬ nI 12 = (8 : Int32) by decide), if_neg (show ¬ nI 12 = (9 : Int32) by decide), if_neg (show ¬ nI 12 = (10 : Int32) by decide), if_neg (show ¬ nI 12 = (11 : Int32) by decide), if_pos (show nI 12 = (12 : Int32) from rfl)]
      unfold fX7_bestCatcher
      rw [eC]
      simp only [Option.bind_some]
      rw [s_best gd.1 gd.2.1 rC]
      exact ⟨_, rfl, rfl, h⟩
    · rw [if_neg (show ¬ nI 13 < 0 by decide), if_pos (show nI 13 ≤ 19 by decide), if_neg (show ¬ nI 13 = (0 : Int32) by decide), if_neg (show ¬ nI 13 = (1 : Int32) by decide), if_neg (show ¬ nI 13 = (2 : Int32) by decide), if_neg (show ¬ nI 13 = (3 : Int32) by decide), if_neg (show ¬ nI 13 = (4 : Int32) by decide), if_neg (show ¬ nI 13 = (5 : Int32) by decide), if_neg (show ¬ nI 13 = (6 : Int32) by decide), if_neg (show ¬ nI 13 = (7 : Int32) by decide), if_neg (show ¬ nI 13 = (8 : Int32) by decide), if_neg (show ¬ nI 13 = (9 : Int32) by decide), if_neg (show ¬ nI 13 = (10 : Int32) by decide), if_neg (show ¬ nI 13 = (11 : Int32) by decide), if_neg (show ¬ nI 13 = (12 : Int32) by decide), if_pos (show nI 13 = (13 : Int32) from rfl)]
      rw [show nI 13 - 13 = nI 0 from by decide, s_setting hS (k := 0) (by omega)]
      exact ⟨_, rfl, rfl, h⟩
    · rw [if_neg (show ¬ nI 14 < 0 by decide), if_pos (show nI 14 ≤ 19 by decide), if_neg (show ¬ nI 14 = (0 : Int32) by decide), if_neg (show ¬ nI 14 = (1 : Int32) by decide), if_neg (show ¬ nI 14 = (2 : Int32) by decide), if_neg (show ¬ nI 14 = (3 : Int32) by decide), if_neg (show ¬ nI 14 = (4 : Int32) by decide), if_neg (show ¬ nI 14 = (5 : Int32) by decide), if_neg (show ¬ nI 14 = (6 : Int32) by decide), if_neg (show ¬ nI 14 = (7 : Int32) by decide), if_neg (show ¬ nI 14 = (8 : Int32) by decide), if_neg (show ¬ nI 14 = (9 : Int32) by decide), if_neg (show ¬ nI 14 = (10 : Int32) by decide), if_neg (show ¬ nI 14 = (11 : Int32) by decide), if_neg (show ¬ nI 14 = (12 : Int32) by decide), if_neg (show ¬ nI 14 = (13 : Int32) by decide), if_pos (show nI 14 = (14 : Int32) from rfl)]
      rw [show nI 14 - 13 = nI 1 from by decide, s_setting hS (k := 1) (by omega)]
      exact ⟨_, rfl, rfl, h⟩
    · rw [if_neg (show ¬ nI 15 < 0 by decide), if_pos (show nI 15 ≤ 19 by decide), if_neg (show ¬ nI 15 = (0 : Int32) by decide), if_neg (show ¬ nI 15 = (1 : Int32) by decide), if_neg (show ¬ nI 15 = (2 : Int32) by decide), if_neg (show ¬ nI 15 = (3 : Int32) by decide), if_neg (show ¬ nI 15 = (4 : Int32) by decide), if_neg (show ¬ nI 15 = (5 : Int32) by decide), if_neg (show ¬ nI 15 = (6 : Int32) by decide), if_neg (show ¬ nI 15 = (7 : Int32) by decide), if_neg (show ¬ nI 15 = (8 : Int32) by decide), if_neg (show ¬ nI 15 = (9 : Int32) by decide), if_neg (show ¬ nI 15 = (10 : Int32) by decide), if_neg (show ¬ nI 15 = (11 : Int32) by decide), if_neg (show ¬ nI 15 = (12 : Int32) by decide), if_neg (show ¬ nI 15 = (13 : Int32) by decide), if_neg (show ¬ nI 15 = (14 : Int32) by decide), if_pos (show nI 15 = (15 : Int32) from rfl)]
      rw [show nI 15 - 13 = nI 2 from by decide, s_setting hS (k := 2) (by omega)]
      exact ⟨_, rfl, rfl, h⟩
    · rw [if_neg (show ¬ nI 16 < 0 by decide), if_pos (show nI 16 ≤ 19 by decide), if_neg (show ¬ nI 16 = (0 : Int32) by decide), if_neg (show ¬ nI 16 = (1 : Int32) by decide), if_neg (show ¬ nI 16 = (2 : Int32) by decide), if_neg (show ¬ nI 16 = (3 : Int32) by decide), if_neg (show ¬ nI 16 = (4 : Int32) by decide), if_neg (show ¬ nI 16 = (5 : Int32) by decide), if_neg (show ¬ nI 16 = (6 : Int32) by decide), if_neg (show ¬ nI 16 = (7 : Int32) by decide), if_neg (show ¬ nI 16 = (8 : Int32) by decide), if_neg (show ¬ nI 16 = (9 : Int32) by decide), if_neg (show ¬ nI 16 = (10 : Int32) by decide), if_neg (show ¬ nI 16 = (11 : Int32) by decide), if_neg (show ¬ nI 16 = (12 : Int32) by decide), if_neg (show ¬ nI 16 = (13 : Int32) by decide), if_neg (show ¬ nI 16 = (14 : Int32) by decide), if_neg (show ¬ nI 16 = (15 : Int32) by decide), if_pos (show nI 16 = (16 : Int32) from rfl)]
      rw [show nI 16 - 13 = nI 3 from by decide, s_setting hS (k := 3) (by omega)]
      exact ⟨_, rfl, rfl, h⟩
    · rw [if_neg (show ¬ nI 17 < 0 by decide), if_pos (show nI 17 ≤ 19 by decide), if_neg (show ¬ nI 17 = (0 : Int32) by decide), if_neg (show ¬ nI 17 = (1 : Int32) by decide), if_neg (show ¬ nI 17 = (2 : Int32) by decide), if_neg (show ¬ nI 17 = (3 : Int32) by decide), if_neg (show ¬ nI 17 = (4 : Int32) by decide), if_neg (show ¬ nI 17 = (5 : Int32) by decide), if_neg (show ¬ nI 17 = (6 : Int32) by decide), if_neg (show ¬ nI 17 = (7 : Int32) by decide), if_neg (show ¬ nI 17 = (8 : Int32) by decide), if_neg (show ¬ nI 17 = (9 : Int32) by decide), if_neg (show ¬ nI 17 = (10 : Int32) by decide), if_neg (show ¬ nI 17 = (11 : Int32) by decide), if_neg (show ¬ nI 17 = (12 : Int32) by decide), if_neg (show ¬ nI 17 = (13 : Int32) by decide), if_neg (show ¬ nI 17 = (14 : Int32) by decide), if_neg (show ¬ nI 17 = (15 : Int32) by decide), if_neg (show ¬ nI 17 = (16 : Int32) by decide), if_pos (show nI 17 = (17 : Int32) from rfl)]
      exact ⟨_, rfl, hS.2.2.2.2.2.1, h⟩
    · rw [if_neg (show ¬ nI 18 < 0 by decide), if_pos (show nI 18 ≤ 19 by decide), if_neg (show ¬ nI 18 = (0 : Int32) by decide), if_neg (show ¬ nI 18 = (1 : Int32) by decide), if_neg (show ¬ nI 18 = (2 : Int32) by decide), if_neg (show ¬ nI 18 = (3 : Int32) by decide), if_neg (show ¬ nI 18 = (4 : Int32) by decide), if_neg (show ¬ nI 18 = (5 : Int32) by decide), if_neg (show ¬ nI 18 = (6 : Int32) by decide), if_neg (show ¬ nI 18 = (7 : Int32) by decide), if_neg (show ¬ nI 18 = (8 : Int32) by decide), if_neg (show ¬ nI 18 = (9 : Int32) by decide), if_neg (show ¬ nI 18 = (10 : Int32) by decide), if_neg (show ¬ nI 18 = (11 : Int32) by decide), if_neg (show ¬ nI 18 = (12 : Int32) by decide), if_neg (show ¬ nI 18 = (13 : Int32) by decide), if_neg (show ¬ nI 18 = (14 : Int32) by decide), if_neg (show ¬ nI 18 = (15 : Int32) by decide), if_neg (show ¬ nI 18 = (16 : Int32) by decide), if_neg (show ¬ nI 18 = (17 : Int32) by decide), if_pos (show nI 18 = (18 : Int32) from rfl)]
      exact ⟨_, rfl, hX.1, h⟩
    · rw [if_neg (show ¬ nI 19 < 0 by decide), if_pos (show nI 19 ≤ 19 by decide), if_neg (show ¬ nI 19 = (0 : Int32) by decide), if_neg (show ¬ nI 19 = (1 : Int32) by decide), if_neg (show ¬ nI 19 = (2 : Int32) by decide), if_neg (show ¬ nI 19 = (3 : Int32) by decide), if_neg (show ¬ nI 19 = (4 : Int32) by decide), if_neg (show ¬ nI 19 = (5 : Int32) by decide), if_neg (show ¬ nI 19 = (6 : Int32) by decide), if_neg (show ¬ nI 19 = (7 : Int32) by decide), if_neg (show ¬ nI 19 = (8 : Int32) by decide), if_neg (show ¬ nI 19 = (9 : Int32) by decide), if_neg (show ¬ nI 19 = (10 : Int32) by decide), if_neg (show ¬ nI 19 = (11 : Int32) by decide), if_neg (show ¬ nI 19 = (12 : Int32) by decide), if_neg (show ¬ nI 19 = (13 : Int32) by decide), if_neg (show ¬ nI 19 = (14 : Int32) by decide), if_neg (show ¬ nI 19 = (15 : Int32) by decide), if_neg (show ¬ nI 19 = (16 : Int32) by decide), if_neg (show ¬ nI 19 = (17 : Int32) by decide), if_neg (show ¬ nI 19 = (18 : Int32) by decide), if_pos (show nI 19 = (19 : Int32) from rfl)]
      exact ⟨_, rfl, hH.2.1, h⟩
  · have hb : ∀ {α : Type} {a b : α}, (if x < 0 then a else (if x ≤ 19 then b else a)) = a := i_out (n := 19) (by omega) q
    rw [hb, e]
    exact ⟨_, rfl, rfl, h⟩
