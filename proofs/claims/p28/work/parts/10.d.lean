/-! ===== walks ===== -/
def nxl (L : Nat) : Nat := (421 * L + 1663) % 10000
theorem nxl_lt (L : Nat) : nxl L < 10000 := Nat.mod_lt _ (by decide)
theorem s_nxl {L : Nat} (h : L < 10000) : fX7_nextLot (nI L) = some (nI (nxl L)) := by
  unfold fX7_nextLot nxl
  simp (disch := omega) only [i_lit, i_add, i_mul, i_sub, i_lt, i_le, i_eq, i_cl, i_max, i_min, i_rem, i_div, i_neg, i_nn, i_n4, i_n4', Option.bind_some, Option.some.injEq, Sum.inl.injEq, Sum.inr.injEq, Prod.mk.injEq, gdn, if_pos, if_neg, Nat.add_zero, Nat.zero_add, and_true, true_and, and_self, ite_true, ite_false, if_true, if_false, reduceIte]
/-- a step from a place with the lot L: the place then, or off the plate -/
def stepW (M : GM) (pl L : Nat) : Option Nat :=
  match nb pl (if L % (4 + mS M 2) < 4 then L % (4 + mS M 2) else mS M 3) with
  | none => none
  | some c => some (if (at_ M c).isNone then c else pl)
/-- what follows a look around that did not stick: place, steps, draws, lot; (a) on, (b) the end -/
def onW (M : GM) (pl st dr L : Nat) : (Nat × Nat × Nat × Nat) ⊕ (Nat × Nat × Nat × Nat × Option Nat) :=
  if st < mS M 1 then (match stepW M pl (nxl L) with
    | none => .inr (pl, st + 1, dr + 1, nxl L, none)
    | some c => .inl (c, st + 1, dr + 1, nxl L)) else .inr (pl, st, dr, L, none)
def turnW (M : GM) (x : Nat × Nat × Nat × Nat) : (Nat × Nat × Nat × Nat) ⊕ (Nat × Nat × Nat × Nat × Option Nat) :=
  match fgb M x.1 with
  | some g => if nxl x.2.2.2 % 4 < mS M 0 then .inr (x.1, x.2.1, x.2.2.1 + 1, nxl x.2.2.2, some g) else onW M x.1 x.2.1 (x.2.2.1 + 1) (nxl x.2.2.2)
  | none => onW M x.1 x.2.1 x.2.2.1 x.2.2.2
def wlkF (M : GM) : Nat → (Nat × Nat × Nat × Nat) → (Nat × Nat × Nat × Nat × Option Nat)
  | 0, x => (x.1, x.2.1, x.2.2.1, x.2.2.2, none)
  | f + 1, x => match turnW M x with
    | .inl y => wlkF M f y
    | .inr z => z
/-- a grain let go at a cell: where it ends, its steps, the lots drawn, the lot then, the grain that it holds on to -/
def wlk (M : GM) (c : Nat) : Nat × Nat × Nat × Nat × Option Nat := wlkF M 201 (c, 0, 0, mL M)
theorem stepW_lt {M : GM} (w : WF M) {pl L c : Nat} (hp : pl < 121) (h : stepW M pl L = some c) : c < 121 := by
  unfold stepW at h
  have hd : (if L % (4 + mS M 2) < 4 then L % (4 + mS M 2) else mS M 3) < 4 := by
    have := w.2.2.2.2.2.2.2.2
    split <;> omega
  cases e : nb pl (if L % (4 + mS M 2) < 4 then L % (4 + mS M 2) else mS M 3) with
  | none => rw [e] at h; cases h
  | some k =>
    rw [e] at h
    have := nb_lt pl hp _ hd k e
    simp only [Option.some.injEq] at h
    rw [← h]
    split <;> assumption
def wkI (x : Nat × Nat × Nat × Nat × Option Nat) : GX6 := (nI x.1, nI x.2.1, nI x.2.2.1, nI x.2.2.2.1, oI x.2.2.2.2)
theorem s_draw {a b d e : Int32} {L : Nat} (h : L < 10000) : fX6_draw (a, b, d, nI L, e) = some (nI (nxl L), (a, b, d + 1, nI (nxl L), e)) := by
  unfold fX6_draw
  show ((fX7_nextLot (nI L)).bind _) = _
  rw [s_nxl h]
  rfl
theorem s_catch {S : GX4} {M : GM} (w : WF M) (h : RepS S M) {pl st dr L : Nat} (hp : pl < 121) (hL : L < 10000) : fX6_catchesHold (nI pl, nI st, nI dr, nI L, -4) S = some (match fgb M pl with
    | some g => if nxl L % 4 < mS M 0 then (1, (nI pl, nI st, nI (dr + 1), nI (nxl L), nI g)) else (0, (nI pl, nI st, nI (dr + 1), nI (nxl L), -4))
    | none => (0, (nI pl, nI st, nI dr, nI L, -4))) := by
  have h1 := w.n1
  have h4 := w.2.2.2.2.2.1
  have hn := nxl_lt L
  unfold fX6_catchesHold
  show ((fX4_firstGrainBeside (nI pl) S).bind _) = _
  rw [s_fgb w h hp]
  cases hf : fgb M pl with
  | none => rfl
  | some g =>
    have := fgb_lt hf
    simp only [Option.bind_some]
    rw [if_neg (by rw [oI_some]; exact fun q => (i_n4 (by omega)).mp q), s_draw hL]
    simp only [Option.bind_some]
    rw [show fX4_setting 0 S = some (nI (mS M 0)) from s_setting h (k := 0) (by omega)]
    simp only [Option.bind_some]
    rw [show jrem (nI (nxl L)) 4 = nI (nxl L % 4) from i_rem (a := nxl L) (d := 4) (by omega) (by omega) (by omega), ifc (i_lt (by omega) (by omega))]
    by_cases q : nxl L % 4 < mS M 0
    · rw [if_pos q, if_pos q]
      show some ((1 : Int32), (nI pl, nI st, nI dr + 1, nI (nxl L), oI (some g))) = _
      rw [i_1, i_add]
      rfl
    · rw [if_neg q, if_neg q]
      show some ((0 : Int32), (nI pl, nI st, nI dr + 1, nI (nxl L), (-4 : Int32))) = _
      rw [i_1, i_add]
theorem s_makes {S : GX4} {M : GM} (w : WF M) (h : RepS S M) {pl st dr L : Nat} (hp : pl < 121) (hL : L < 10000) : fX6_makesStep (nI pl, nI st, nI dr, nI L, -4) S = some (match stepW M pl (nxl L) with
    | some c => (1, (nI c, nI (st + 1), nI (dr + 1), nI (nxl L), -4))
    | none => (0, (nI pl, nI (st + 1), nI (dr + 1), nI (nxl L), -4))) := by
  have h1 := w.n1
  have h2 := w.2.2.2.2.2.2.2.1
  have h3 := w.2.2.2.2.2.2.2.2
  have hn := nxl_lt L
  unfold fX6_makesStep
  rw [s_draw hL]
  simp only [Option.bind_some]
  rw [show fX4_setting 2 S = some (nI (mS M 2)) from s_setting h (k := 2) (by omega)]
  simp only [Option.bind_some]
  have hm : nxl L % (4 + mS M 2) < 4 + mS M 2 := Nat.mod_lt _ (by omega)
  rw [show (4 : Int32) + nI (mS M 2) = nI (4 + mS M 2) from i_add 4 _, i_rem (by omega) (by omega) (by omega)]
  rw [if_neg (show ¬ nI (4 + mS M 2) = 0 by rw [i_0, i_eq (by omega) (by omega)]; omega), ifc (show (4 : Int32) ≤ nI (nxl L % (4 + mS M 2)) ↔ 4 ≤ nxl L % (4 + mS M 2) from i_le (a := 4) (b := nxl L % (4 + mS M 2)) (by omega) (by omega))]
  have key : ∀ d, d < 4 → d = (if nxl L % (4 + mS M 2) < 4 then nxl L % (4 + mS M 2) else mS M 3) → jX6_makesStep_1 S (nI (nxl L), (nI pl, nI st, nI dr + 1, nI (nxl L), -4)) (nI d) = some (match stepW M pl (nxl L) with
      | some c => (1, (nI c, nI (st + 1), nI (dr + 1), nI (nxl L), -4))
      | none => (0, (nI pl, nI (st + 1), nI (dr + 1), nI (nxl L), -4))) := by
    intro d hd e
    unfold jX6_makesStep_1 stepW
    rw [← e]
    show ((fX2_neighbour (nI pl) (nI d)).bind _) = _
    rw [p_nb pl hp d hd]
    cases hb : nb pl d with
    | none =>
      show some ((0 : Int32), (nI pl, nI st + 1, nI dr + 1, nI (nxl L), (-4 : Int32))) = _
      rw [i_1, i_add, i_add]
    | some k =>
      have hk := nb_lt pl hp d hd k hb
      simp only [Option.bind_some]
      rw [if_neg (by rw [oI_some]; exact fun q => (i_n4 (by omega)).mp q), oI_some, s_grainAt h hk]
      simp only [Option.bind_some]
      cases ha : at_ M k with
      | none =>
        show some ((1 : Int32), (nI k, nI st + 1, nI dr + 1, nI (nxl L), (-4 : Int32))) = _
        rw [i_1, i_add, i_add]
        rfl
      | some g =>
        have := at_lt ha
        rw [if_neg (by rw [oI_some]; exact fun q => (i_n4 (by omega)).mp q)]
        show some ((1 : Int32), (nI pl, nI st + 1, nI dr + 1, nI (nxl L), (-4 : Int32))) = _
        rw [i_1, i_add, i_add]
        rfl
  by_cases q : nxl L % (4 + mS M 2) < 4
  · rw [if_neg (by omega)]
    exact key (nxl L % (4 + mS M 2)) q (by rw [if_pos q])
  · rw [if_pos (by omega), show fX4_setting 3 S = some (nI (mS M 3)) from s_setting h (k := 3) (by omega)]
    exact key (mS M 3) (by omega) (by rw [if_neg q])
/-- what a turn leads to, in the class's loop -/
def toI (t : Nat) : (Nat × Nat × Nat × Nat) ⊕ (Nat × Nat × Nat × Nat × Option Nat) → (Int32 × Int32 × GX6)
  | .inl y => (1, nI t, (nI y.1, nI y.2.1, nI y.2.2.1, nI y.2.2.2, -4))
  | .inr z => (0, nI t, wkI z)
theorem s_on {S : GX4} {M : GM} (w : WF M) (h : RepS S M) {pl st dr L t : Nat} {z : Int32} {k9 : GX6} (hp : pl < 121) (hL : L < 10000) (hst : st < 1000) : (if nI (mS M 1) ≤ nI st then jX6_walkFrom_2 (z, nI t, k9) (nI pl, nI st, nI dr, nI L, -4) else ((fX6_makesStep (nI pl, nI st, nI dr, nI L, -4) S).bind fun o70 => (if o70.1 = 0 then jX6_walkFrom_2 (z, nI t, k9) o70.2 else jX6_walkFrom_1 (z, nI t, k9) 1 o70.2))) = some (.inl (toI (t + 1) (onW M pl st dr L))) := by
  have h200 := w.2.2.2.2.2.2.1.2
  unfold jX6_walkFrom_2 jX6_walkFrom_1 onW
  rw [ifc (i_le (by omega) (by omega))]
  by_cases q : st < mS M 1
  · rw [if_neg (by omega), if_pos q, s_makes w h hp hL]
    cases e : stepW M pl (nxl L) with
    | none =>
      show some (Sum.inl ((0 : Int32), nI t + 1, _)) = _
      rw [i_1, i_add]
      rfl
    | some c =>
      show some (Sum.inl ((1 : Int32), nI t + 1, _)) = _
      rw [i_1, i_add]
      rfl
  · rw [if_pos (by omega), if_neg q]
    show some (Sum.inl ((0 : Int32), nI t + 1, _)) = _
    rw [i_1, i_add]
    rfl
theorem s_turn {S : GX4} {M : GM} (w : WF M) (h : RepS S M) {pl st dr L : Nat} (hp : pl < 121) (hL : L < 10000) (hst : st ≤ mS M 1) : tX6_walkFrom_41 S (nI (mS M 1)) (1, nI st, (nI pl, nI st, nI dr, nI L, -4)) = some (.inl (toI (st + 1) (turnW M (pl, st, dr, L)))) := by
  have h200 := w.2.2.2.2.2.2.1.2
  unfold tX6_walkFrom_41 turnW
  rw [if_neg (show ¬ nI (mS M 1) < nI st by rw [i_lt (by omega) (by omega)]; omega), if_neg (show ¬ (1 : Int32) = 0 by decide)]
  show ((fX6_catchesHold (nI pl, nI st, nI dr, nI L, -4) S).bind _) = _
  rw [s_catch w h hp hL]
  cases hf : fgb M pl with
  | none => exact s_on w h hp hL (by omega)
  | some g =>
    show (Option.bind (some (if nxl L % 4 < mS M 0 then _ else _)) _) = some (Sum.inl (toI (st + 1) (if nxl L % 4 < mS M 0 then _ else _)))
    by_cases q : nxl L % 4 < mS M 0
    · rw [if_pos q, if_pos q]
      show some (Sum.inl ((0 : Int32), nI st + 1, _)) = _
      rw [i_1, i_add]
      rfl
    · rw [if_neg q, if_neg q]
      exact s_on w h hp (nxl_lt L) (by omega)
theorem s_walk_end {S : GX4} {o t : Int32} {k : GX6} (fu : Nat) : lp (tX6_walkFrom_41 S o) (fu + 1) (0, t, k) = some k := by
  refine lp_r fu ?_
  unfold tX6_walkFrom_41
  by_cases q : o < t
  · rw [if_pos q]
  · rw [if_neg q, if_pos rfl]
theorem onW_st {M : GM} {pl st dr L : Nat} {y : Nat × Nat × Nat × Nat} (w : WF M) (hp : pl < 121) (h : onW M pl st dr L = .inl y) : y.1 < 121 ∧ y.2.1 = st + 1 ∧ y.2.2.2 < 10000 ∧ st < mS M 1 := by
  unfold onW at h
  by_cases q : st < mS M 1
  · rw [if_pos q] at h
    cases e : stepW M pl (nxl L) with
    | none => rw [e] at h; cases h
    | some c => rw [e] at h; cases h; exact ⟨stepW_lt w hp e, rfl, nxl_lt L, q⟩
  · rw [if_neg q] at h; cases h
theorem turnW_st {M : GM} {x y : Nat × Nat × Nat × Nat} (w : WF M) (hp : x.1 < 121) (h : turnW M x = .inl y) : y.1 < 121 ∧ y.2.1 = x.2.1 + 1 ∧ y.2.2.2 < 10000 ∧ x.2.1 < mS M 1 := by
  unfold turnW at h
  cases e : fgb M x.1 with
  | none => rw [e] at h; exact onW_st w hp h
  | some g =>
    rw [e] at h
    simp only at h
    by_cases q : nxl x.2.2.2 % 4 < mS M 0
    · rw [if_pos q] at h; cases h
    · rw [if_neg q] at h; exact onW_st w hp h
/-- the class's loop: from a state with st steps, at the turn st -/
theorem s_walk_go {S : GX4} {M : GM} (w : WF M) (h : RepS S M) : ∀ (m st pl dr L fu : Nat), st + m = mS M 1 → pl < 121 → L < 10000 → m + 2 < fu → lp (tX6_walkFrom_41 S (nI (mS M 1))) fu (1, nI st, (nI pl, nI st, nI dr, nI L, -4)) = some (wkI (wlkF M (m + 1) (pl, st, dr, L))) := by
  intro m
  induction m with
  | zero =>
    intro st pl dr L fu hm hp hL hf
    obtain ⟨fu, rfl⟩ : ∃ q, fu = q + 1 + 1 := ⟨fu - 2, by omega⟩
    rw [lp_l _ (s_turn w h hp hL (by omega))]
    unfold wlkF
    cases e : turnW M (pl, st, dr, L) with
    | inl y => obtain ⟨_, _, _, a⟩ := turnW_st w hp e; dsimp only at a; omega
    | inr z => exact s_walk_end fu
  | succ m ih =>
    intro st pl dr L fu hm hp hL hf
    obtain ⟨fu, rfl⟩ : ∃ q, fu = q + 1 + 1 := ⟨fu - 2, by omega⟩
    rw [lp_l _ (s_turn w h hp hL (by omega))]
    rw [wlkF]
    cases e : turnW M (pl, st, dr, L) with
    | inl y =>
      obtain ⟨a1, a2, a3, a4⟩ := turnW_st w hp e
      obtain ⟨y1, y2, y3, y4⟩ := y
      simp only at a1 a2 a3 a4
      subst a2
      exact ih (st + 1) y1 y3 y4 (fu + 1) (by omega) a1 a3 (by omega)
    | inr z => exact s_walk_end fu
/-- enough turns -/
theorem wlkF_enough {M : GM} (w : WF M) : ∀ (m f : Nat) (x : Nat × Nat × Nat × Nat), x.1 < 121 → x.2.1 + m = mS M 1 → m + 1 ≤ f → wlkF M f x = wlkF M (m + 1) x := by
  intro m
  induction m with
  | zero =>
    intro f x hp hm hf
    obtain ⟨f, rfl⟩ : ∃ q, f = q + 1 := ⟨f - 1, by omega⟩
    rw [wlkF, wlkF]
    cases e : turnW M x with
    | inl y => obtain ⟨_, _, _, a⟩ := turnW_st w hp e; omega
    | inr z => rfl
  | succ m ih =>
    intro f x hp hm hf
    obtain ⟨f, rfl⟩ : ∃ q, f = q + 1 := ⟨f - 1, by omega⟩
    rw [wlkF, wlkF]
    cases e : turnW M x with
    | inl y =>
      have a := turnW_st w hp e
      exact ih f y a.1 (by omega) (by omega)
    | inr z => rfl
theorem s_walk {S : GX4} {M : GM} (w : WF M) (h : RepS S M) {c : Nat} (hc : c < 121) (K : GX6) : fX6_walkFrom (nI c) K S = some (wkI (wlk M c)) := by
  have h200 := w.2.2.2.2.2.2.1.2
  unfold fX6_walkFrom
  rw [show fX4_setting 1 S = some (nI (mS M 1)) from s_setting h (k := 1) (by omega)]
  simp only [Option.bind_some]
  rw [show pX4_lot S = nI (mL M) from h.2.2.2.2.2.1]
  have e := s_walk_go w h (mS M 1) 0 c 0 (mL M) FU (by omega) hc w.2.2.2.2.1 (by rw [FU_eq]; omega)
  rw [show ((1 : Int32), (0 : Int32), (nI c, (0 : Int32), (0 : Int32), nI (mL M), (-4 : Int32))) = (1, nI 0, (nI c, nI 0, nI 0, nI (mL M), -4)) from rfl, e]
  rw [← wlkF_enough w (mS M 1) 201 (c, 0, 0, mL M) hc (by show 0 + mS M 1 = _; omega) (by omega)]
  rfl
