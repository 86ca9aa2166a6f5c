/-! ===== p28: the class alone: what a reader sees of an object ===== -/
/-- grains, history (the oldest first), snapshot, pad (length, signs), reasons of a stop -/
abbrev AS : Type := GM × List GM × Option GM × (Nat × (Nat → Nat)) × (Int32 × Int32 × Int32)
def HA (st : Int32) (gh : GH) (l : List GM) : Prop := l.length ≤ 4 ∧ st = nI l.length ∧ ∀ (i : Nat) (M : GM), l[i]? = some M → PM M ∧ RepS (hs gh i) M
def KA (sv : Int32) (gs : GX4) (o : Option GM) : Prop := (sv = 0 ∧ o = none) ∨ (sv = 1 ∧ ∃ M, o = some M ∧ PM M ∧ RepS gs M)
def RepA (V : GV) (a : AS) : Prop := (PM a.1 ∧ RepS V.2.1 a.1) ∧ HA (pX7_states V.1) V.2.2.2.2.1 a.2.1 ∧ KA (pX7_saved V.1) V.2.2.1 a.2.2.1 ∧ RepP V.2.2.2.2.2.2.2.2.2 a.2.2.2.1.2 a.2.2.2.1.1 ∧ V.1.2.2 = a.2.2.2.2
def recA (h : List GM) (M : GM) : List GM := (if h.length < 4 then h else h.tail) ++ [M]
theorem recA_len {h : List GM} {M : GM} (hl : h.length ≤ 4) : (recA h M).length = min h.length 3 + 1 := by
  unfold recA
  rw [List.length_append]
  by_cases q : h.length < 4
  · rw [if_pos q]
    show h.length + 1 = _
    omega
  · rw [if_neg q, List.length_tail]
    show h.length - 1 + 1 = _
    omega
theorem k_record {g0 : GX7} {gn : GX4} {gh : GH} {h : List GM} {M : GM} (hM : PM M ∧ RepS gn M) (hH : HA (pX7_states g0) gh h) : ∃ st gh', fX7_record g0 gn gh = some ((st, g0.2), gh') ∧ HA st gh' (recA h M) := by
  obtain ⟨h1, h2, h3⟩ := hH
  obtain ⟨gh', e, c1⟩ := c_record (gn := gn) (gh := gh) h1 h2
  have hl := recA_len (M := M) h1
  refine ⟨_, gh', e, by omega, by rw [hl], fun i N hi => ?_⟩
  have hlt : i < (recA h M).length := (List.getElem?_eq_some_iff.mp hi).1
  rw [hl] at hlt
  rw [c1 i (by omega)]
  unfold recA at hi
  by_cases q4 : h.length < 4
  · rw [if_pos q4] at hi ⊢
    by_cases q : i = min h.length 3
    · rw [if_pos q]
      rw [List.getElem?_append_right (by omega), show i - h.length = 0 by omega] at hi
      have e2 : some M = some N := hi
      cases e2
      exact hM
    · rw [if_neg q]
      rw [List.getElem?_append_left (by omega)] at hi
      exact h3 i N hi
  · rw [if_neg q4] at hi ⊢
    by_cases q : i = min h.length 3
    · rw [if_pos q]
      rw [List.getElem?_append_right (by rw [List.length_tail]; omega), List.length_tail, show i - (h.length - 1) = 0 by omega] at hi
      have e2 : some M = some N := hi
      cases e2
      exact hM
    · rw [if_neg q]
      rw [List.getElem?_append_left (by rw [List.length_tail]; omega), List.getElem?_tail] at hi
      exact h3 (i + 1) N hi
/-- a change, or a refusal -/
def chA (a : AS) (q : Int32 × Option GM) : Int32 × AS := match q.2 with
  | none => (q.1, a)
  | some M => (q.1, (M, recA a.2.1 a.1, a.2.2))
/-- a number of Java's that is below n -/
def ix (x : Int32) (n : Nat) : Option Nat := if 0 ≤ x ∧ x < nI n then some x.toNatClampNeg else none
theorem ix_nI {j n : Nat} (h : j < n) (hn : n < 2147483648) : ix (nI j) n = some j := by
  unfold ix
  rw [if_pos ⟨i_pz (by omega), i_plt h hn⟩, i_cl (by omega)]
theorem ix_cases (x : Int32) {n : Nat} (hn : n < 2147483648) : (∃ j, j < n ∧ x = nI j ∧ ix x n = some j) ∨ (ix x n = none ∧ (x < 0 ∨ nI n ≤ x)) := by
  rcases i_any x hn with q | q | ⟨j, hj, rfl⟩
  · refine Or.inr ⟨?_, Or.inl q⟩
    unfold ix
    rw [if_neg (fun z => Int32.lt_irrefl (Int32.lt_of_lt_of_le q z.1))]
  · refine Or.inr ⟨?_, Or.inr q⟩
    unfold ix
    rw [if_neg (fun z => Int32.lt_irrefl (Int32.lt_of_lt_of_le z.2 q))]
  · exact Or.inl ⟨j, hj, rfl, ix_nI hj hn⟩
def goA (M : GM) (x : Int32) : Int32 × Option GM := match ix x 40 with
  | none => (-1, none)
  | some r => if (at_ M (rimC r)).isSome then (-2, none) else (ansW (wlk M (rimC r)), some (setM M (wlk M (rimC r))))
theorem k_go {V : GV} {a : AS} (h : RepA V a) (x : Int32) : ∃ o, fX7_go x V.1 V.2.1 V.2.2.2.2.1 V.2.2.2.2.2.1 = some o ∧ o.1 = (chA a (goA a.1 x)).1 ∧ RepA (o.2.1, o.2.2.1, V.2.2.1, V.2.2.2.1, o.2.2.2.1, o.2.2.2.2, V.2.2.2.2.2.2.1, V.2.2.2.2.2.2.2.1, V.2.2.2.2.2.2.2.2.1, V.2.2.2.2.2.2.2.2.2) (chA a (goA a.1 x)).2 := by
  obtain ⟨hM, hH, hK, hX, hY⟩ := id h
  unfold fX7_go goA
  rcases ix_cases x (n := 40) (by omega) with ⟨r, hr, rfl, e⟩ | ⟨e, q⟩
  · rw [e, s_refGo hM.1.1.1 hM.2 hr]
    simp only [Option.bind_some]
    cases ha : at_ a.1 (rimC r) with
    | some g =>
      rw [if_neg (show ¬ (if (some g : Option Nat).isSome = true then (-2 : Int32) else 0) = 0 by simp)]
      exact ⟨_, rfl, rfl, h⟩
    | none =>
      rw [if_pos (show (if (none : Option Nat).isSome = true then (-2 : Int32) else 0) = 0 from rfl)]
      obtain ⟨st, gh', e3, hH'⟩ := k_record (gh := V.2.2.2.2.1) hM hH
      rw [e3]
      simp only [Option.bind_some]
      have hz := wlk_ok hM.1.1.1 (rimC_lt r hr) ha
      obtain ⟨S', e5, r5⟩ := s_letWalk hM.1.1.1 hM.2 hr ha (st, V.1.2) V.2.2.2.2.2.1
      rw [e5]
      exact ⟨_, rfl, rfl, ⟨hM.1.set hz, r5⟩, hH', hK, hX, hY⟩
  · rw [e]
    have er : fX4_refusalToGo x V.2.1 = some (-1) := by
      unfold fX4_refusalToGo fX2_isRim
      rcases q with q | q
      · rw [if_pos q]; rfl
      · rw [if_neg (i_hi (n := 39) (by omega) q).1, if_pos (show (40 : Int32) ≤ x from q)]; rfl
    rw [er]
    simp only [Option.bind_some]
    rw [if_neg (show ¬ (-1 : Int32) = 0 by decide)]
    exact ⟨_, rfl, rfl, h⟩
def begA (M : GM) (x : Int32) : Int32 × Option GM := match ix x 3 with
  | none => (-1, none)
  | some b => (nI (mN (begM b M)), some (begM b M))
theorem k_begin {V : GV} {a : AS} (h : RepA V a) (x : Int32) : ∃ o, fX7_begin x V.1 V.2.1 V.2.2.2.2.1 = some o ∧ o.1 = (chA a (begA a.1 x)).1 ∧ RepA (o.2.1, o.2.2.1, V.2.2.1, V.2.2.2.1, o.2.2.2, V.2.2.2.2.2.1, V.2.2.2.2.2.2.1, V.2.2.2.2.2.2.2.1, V.2.2.2.2.2.2.2.2.1, V.2.2.2.2.2.2.2.2.2) (chA a (begA a.1 x)).2 := by
  obtain ⟨hM, hH, hK, hX, hY⟩ := id h
  unfold fX7_begin begA
  rcases ix_cases x (n := 3) (by omega) with ⟨b, hb, rfl, e⟩ | ⟨e, q⟩
  · rw [e, if_neg (i_nz (by omega)), if_pos (show nI b ≤ 2 from i_ple (b := 2) (by omega) (by omega))]
    obtain ⟨st, gh', e3, hH'⟩ := k_record (gh := V.2.2.2.2.1) hM hH
    obtain ⟨S', e4, r4⟩ := s_plant (S := V.2.1) (M := a.1) (b := b) hb hM.2.2.2.2.2.2.1 hM.2.2.2.2.2.2.2.1
    rw [e3]
    simp only [Option.bind_some]
    rw [e4]
    exact ⟨_, rfl, rfl, ⟨PM.beg hM.1.1.1 hb, r4⟩, hH', hK, hX, hY⟩
  · have hb : ∀ {α : Type} {a b : α}, (if x < 0 then a else (if x ≤ 2 then b else a)) = a := i_out (n := 2) (by omega) q
    rw [e, hb]
    exact ⟨_, rfl, rfl, h⟩
def lotA (M : GM) (x : Int32) : Int32 × Option GM := match ix x 10000 with
  | none => (-1, none)
  | some L => (nI (mL M), some (lotM M L))
theorem k_lot {V : GV} {a : AS} (h : RepA V a) (x : Int32) : ∃ o, fX7_lot x V.1 V.2.1 V.2.2.2.2.1 = some o ∧ o.1 = (chA a (lotA a.1 x)).1 ∧ RepA (o.2.1, o.2.2.1, V.2.2.1, V.2.2.2.1, o.2.2.2, V.2.2.2.2.2.1, V.2.2.2.2.2.2.1, V.2.2.2.2.2.2.2.1, V.2.2.2.2.2.2.2.2.1, V.2.2.2.2.2.2.2.2.2) (chA a (lotA a.1 x)).2 := by
  obtain ⟨hM, hH, hK, hX, hY⟩ := id h
  unfold fX7_lot lotA
  rcases ix_cases x (n := 10000) (by omega) with ⟨b, hb, rfl, e⟩ | ⟨e, q⟩
  · rw [e, if_neg (i_nz (by omega)), if_pos (show nI b < 10000 from i_plt (b := 10000) hb (by omega))]
    obtain ⟨st, gh', e3, hH'⟩ := k_record (gh := V.2.2.2.2.1) hM hH
    rw [e3]
    exact ⟨_, rfl, hM.2.2.2.2.2.2.1, ⟨hM.1.lot hb, hM.2.lot b⟩, hH', hK, hX, hY⟩
  · have hb : ∀ {α : Type} {a b : α}, (if x < 0 then a else (if x < 10000 then b else a)) = a := i_outl (n := 9999) (by omega) q
    rw [e, hb]
    exact ⟨_, rfl, rfl, h⟩
def rainA (M : GM) (x : Int32) : Int32 × Option GM := match ix x 21 with
  | none => (-1, none)
  | some k => if k = 0 then (-1, none) else (nI (rnF M k).1, some (rnF M k).2)
theorem k_rain {V : GV} {a : AS} (h : RepA V a) (x : Int32) : ∃ o, fX7_rain x V.1 V.2.1 V.2.2.2.2.1 V.2.2.2.2.2.1 = some o ∧ o.1 = (chA a (rainA a.1 x)).1 ∧ RepA (o.2.1, o.2.2.1, V.2.2.1, V.2.2.2.1, o.2.2.2.1, o.2.2.2.2, V.2.2.2.2.2.2.1, V.2.2.2.2.2.2.2.1, V.2.2.2.2.2.2.2.2.1, V.2.2.2.2.2.2.2.2.2) (chA a (rainA a.1 x)).2 := by
  obtain ⟨hM, hH, hK, hX, hY⟩ := id h
  unfold fX7_rain rainA
  rcases ix_cases x (n := 21) (by omega) with ⟨k, hk, rfl, e⟩ | ⟨e, q⟩
  · rw [e]
    by_cases q0 : k = 0
    · subst q0
      rw [if_pos (show nI 0 < 1 by decide)]
      exact ⟨_, rfl, rfl, h⟩
    · rw [if_neg (show ¬ nI k < 1 from i_nlt (b := 1) (by omega) (by omega)), if_pos (show nI k ≤ 20 from i_ple (b := 20) (by omega) (by omega))]
      obtain ⟨st, gh', e3, hH'⟩ := k_record (gh := V.2.2.2.2.1) hM hH
      obtain ⟨S', K', e5, r5⟩ := s_rain hM.1.1.1 hM.2 ((st, V.1.2), gh') V.2.2.2.2.2.1 (a := k) (by omega)
      rw [e3]
      simp only [Option.bind_some]
      rw [e5]
      simp only [if_neg q0]
      exact ⟨_, rfl, rfl, ⟨hM.1.rnF k, r5⟩, hH', hK, hX, hY⟩
  · rw [e]
    rcases q with q | q
    · rw [if_pos (Int32.lt_trans q (show (0 : Int32) < 1 by decide))]
      exact ⟨_, rfl, rfl, h⟩
    · have hh := i_hi (n := 20) (by omega) q
      by_cases q1 : x < 1
      · rw [if_pos q1]
        exact ⟨_, rfl, rfl, h⟩
      · rw [if_neg q1, if_neg (show ¬ x ≤ 20 from hh.2.1)]
        exact ⟨_, rfl, rfl, h⟩
def brkA (M : GM) (x : Int32) : Int32 × Option GM := match ix x (mN M) with
  | none => (-1, none)
  | some t => if mH M t = 0 then (-2, none) else (nI (mN M - rk (inT M t) (mN M)), some (drpM M (inT M t)))
theorem k_isGrain {S : GX4} {M : GM} (g : Good M) (h : RepS S M) (x : Int32) : (∃ r, r < mN M ∧ x = nI r ∧ ix x (mN M) = some r ∧ fX4_isGrain x S = some 1) ∨ (ix x (mN M) = none ∧ fX4_isGrain x S = some 0) := by
  have h1 := g.1.n1
  unfold fX4_isGrain
  rw [h.1]
  rcases ix_cases x (n := mN M) (by omega) with ⟨j, hj, rfl, e⟩ | ⟨e, q⟩
  · exact Or.inl ⟨j, hj, rfl, e, by rw [if_neg (i_nz (by omega)), if_neg (i_nle hj (by omega))]⟩
  · refine Or.inr ⟨e, ?_⟩
    rcases q with q | q
    · rw [if_pos q]
    · by_cases q0 : x < 0
      · rw [if_pos q0]
      · rw [if_neg q0, if_pos q]
theorem k_breakOff {V : GV} {a : AS} (h : RepA V a) (x : Int32) : ∃ o, fX7_breakOff x V.1 V.2.1 V.2.2.2.2.1 V.2.2.2.2.2.2.1 = some o ∧ o.1 = (chA a (brkA a.1 x)).1 ∧ RepA (o.2.1, o.2.2.1, V.2.2.1, V.2.2.2.1, o.2.2.2.1, V.2.2.2.2.2.1, o.2.2.2.2, V.2.2.2.2.2.2.2.1, V.2.2.2.2.2.2.2.2.1, V.2.2.2.2.2.2.2.2.2) (chA a (brkA a.1 x)).2 := by
  obtain ⟨hM, hH, hK, hX, hY⟩ := id h
  have h1 := hM.1.1.1.n1
  unfold fX7_breakOff brkA fX4_refusalToBreak
  rcases k_isGrain hM.1.1 hM.2 x with ⟨r, hr, rfl, e, e1⟩ | ⟨e, e1⟩
  · have hh := hM.1.1.1.h hr
    rw [e, e1]
    simp only [Option.bind_some]
    rw [if_neg (show ¬ (1 : Int32) = 0 by decide), s_holderOf hM.1.1.1 hM.2 hr]
    simp only [Option.bind_some]
    rw [ifc (hI_n4 (by omega))]
    by_cases q : mH a.1 r = 0
    · rw [if_pos q]
      simp only [Option.bind_some]
      rw [if_neg (show ¬ (-2 : Int32) = 0 by decide), if_pos q]
      exact ⟨_, rfl, rfl, h⟩
    · rw [if_neg q]
      simp only [Option.bind_some]
      obtain ⟨st, gh', e3, hH'⟩ := k_record (gh := V.2.2.2.2.1) hM hH
      obtain ⟨F', S', e5, r5⟩ := s_dropTree hM.1.1.1 hM.2 hr V.2.2.2.2.2.2.1
      rw [if_pos trivial, e3]
      simp only [Option.bind_some]
      rw [e5, if_neg q]
      exact ⟨_, rfl, rfl, ⟨hM.1.brk hr q, r5⟩, hH', hK, hX, hY⟩
  · rw [e, e1]
    simp only [Option.bind_some]
    rw [if_pos trivial]
    simp only [Option.bind_some]
    rw [if_neg (show ¬ (-1 : Int32) = 0 by decide)]
    exact ⟨_, rfl, rfl, h⟩
def wshA (M : GM) : Int32 × Option GM := (nI (mN M - rk (tip M) (mN M)), some (drpM M (tip M)))
theorem k_wash {V : GV} {a : AS} (h : RepA V a) : ∃ o, fX7_wash V.1 V.2.1 V.2.2.2.2.1 V.2.2.2.2.2.2.1 = some o ∧ o.1 = (chA a (wshA a.1)).1 ∧ RepA (o.2.1, o.2.2.1, V.2.2.1, V.2.2.2.1, o.2.2.2.1, V.2.2.2.2.2.1, o.2.2.2.2, V.2.2.2.2.2.2.2.1, V.2.2.2.2.2.2.2.2.1, V.2.2.2.2.2.2.2.2.2) (chA a (wshA a.1)).2 := by
  obtain ⟨hM, hH, hK, hX, hY⟩ := id h
  unfold fX7_wash
  obtain ⟨st, gh', e3, hH'⟩ := k_record (gh := V.2.2.2.2.1) hM hH
  obtain ⟨F', S', e5, r5⟩ := s_dropTips hM.1.1.1 hM.2 V.2.2.2.2.2.2.1
  rw [e3]
  simp only [Option.bind_some]
  rw [e5]
  exact ⟨_, rfl, rfl, ⟨hM.1.wsh, r5⟩, hH', hK, hX, hY⟩
