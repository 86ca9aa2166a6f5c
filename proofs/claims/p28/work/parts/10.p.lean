/-! ===== texts ===== -/
/-- the place of the first fault, m signs before the end; o: the letter that is open (32: none); v: 0, or the number that is open and 1 -/
def fwA (c : Nat → Nat) (len : Nat) : Nat → Nat → Nat → Option Nat
  | 0, o, v => if o = 119 then none else if o = 32 then some len else if v = 0 then some len else none
  | m + 1, o, v =>
    if o = 32 then (if c (len - (m + 1)) = 103 ∨ c (len - (m + 1)) = 98 ∨ c (len - (m + 1)) = 119 then fwA c len m (c (len - (m + 1))) 0 else some (len - (m + 1)))
    else if c (len - (m + 1)) = 59 then (if o = 119 then fwA c len m 32 v else if v = 0 then some (len - (m + 1)) else fwA c len m 32 v)
    else if o = 119 ∨ c (len - (m + 1)) < 48 ∨ 57 < c (len - (m + 1)) ∨ v = 1 then some (len - (m + 1))
    else if (if v = 0 then c (len - (m + 1)) - 48 else 10 * (v - 1) + (c (len - (m + 1)) - 48)) ≤ (if o = 103 then 39 else 120) then fwA c len m o ((if v = 0 then c (len - (m + 1)) - 48 else 10 * (v - 1) + (c (len - (m + 1)) - 48)) + 1) else some (len - (m + 1))
def RepP (P : GX1) (c : Nat → Nat) (len : Nat) : Prop := pX1_length P = nI len ∧ len ≤ 60 ∧ ∀ i, i < len → pX1_signs P i = nI (c i) ∧ 33 ≤ c i ∧ c i ≤ 126
def okO (o : Nat) : Prop := o = 32 ∨ o = 103 ∨ o = 98 ∨ o = 119
theorem w_whole {o v : Nat} (ho : okO o) (hv : v < 1000) : fX1_isWhole (nI o) (hR v) = some (if o = 119 then 1 else if o = 32 then 0 else if v = 0 then 0 else 1) := by
  have h31 : o < 2147483648 := by rcases ho with rfl | rfl | rfl | rfl <;> omega
  unfold fX1_isWhole jX1_isWhole_1
  rw [ifc (show nI o = 119 ↔ o = 119 from i_eq (b := 119) h31 (by omega)), ifc (show nI o = 32 ↔ o = 32 from i_eq (b := 32) h31 (by omega))]
  have hm : hR v = -1 ↔ v = 0 := by
    by_cases q : v = 0
    · subst q; exact ⟨fun _ => rfl, fun _ => rfl⟩
    · rw [hR_s q]
      constructor
      · intro e
        have h1 := congrArg Int32.toInt e
        rw [nI_toInt (by omega), show (-1 : Int32).toInt = -1 from by decide] at h1
        omega
      · intro e; exact absurd e q
  rw [ifc hm]
  by_cases q1 : o = 119
  · rw [if_pos q1, if_pos q1]
  · rw [if_neg q1, if_neg q1]
    by_cases q2 : o = 32
    · rw [if_pos q2, if_pos q2]
    · rw [if_neg q2, if_neg q2]
      by_cases q3 : v = 0
      · rw [if_pos q3, if_pos q3]
      · rw [if_neg q3, if_neg q3]
theorem w_letter {s : Nat} (hs : s < 1000) : fX1_isLetter (nI s) = some (if s = 103 ∨ s = 98 ∨ s = 119 then 1 else 0) := by
  unfold fX1_isLetter jX1_isLetter_1
  rw [ifc (show nI s = 103 ↔ s = 103 from i_eq (b := 103) (by omega) (by omega)), ifc (show nI s = 98 ↔ s = 98 from i_eq (b := 98) (by omega) (by omega)), ifc (show nI s = 119 ↔ s = 119 from i_eq (b := 119) (by omega) (by omega))]
  by_cases q1 : s = 103
  · rw [if_pos q1, if_pos (Or.inl q1)]
  · rw [if_neg q1]
    by_cases q2 : s = 98
    · rw [if_pos q2, if_pos (Or.inr (Or.inl q2))]
    · rw [if_neg q2]
      by_cases q3 : s = 119
      · rw [if_pos q3, if_pos (Or.inr (Or.inr q3))]
      · rw [if_neg q3, if_neg (by omega)]
/-- the number with one sign more; 0: wrong -/
def wdA (o v s : Nat) : Nat := if o = 119 ∨ s < 48 ∨ 57 < s ∨ v = 1 then 0 else if (if v = 0 then s - 48 else 10 * (v - 1) + (s - 48)) ≤ (if o = 103 then 39 else 120) then (if v = 0 then s - 48 else 10 * (v - 1) + (s - 48)) + 1 else 0
theorem wdA_le {o v s : Nat} : wdA o v s ≤ 121 := by
  unfold wdA
  by_cases q1 : o = 119 ∨ s < 48 ∨ 57 < s ∨ v = 1
  · rw [if_pos q1]; omega
  · rw [if_neg q1]
    have hm : (if o = 103 then 39 else 120) ≤ 120 := by split <;> omega
    generalize (if o = 103 then 39 else 120) = mm at *
    generalize (if v = 0 then s - 48 else 10 * (v - 1) + (s - 48)) = tt at *
    by_cases q2 : tt ≤ mm
    · rw [if_pos q2]; omega
    · rw [if_neg q2]; omega
theorem hR_m1 {v : Nat} (hv : v < 1000) : hR v = -1 ↔ v = 0 := by
  by_cases q : v = 0
  · subst q; exact ⟨fun _ => rfl, fun _ => rfl⟩
  · rw [hR_s q]
    constructor
    · intro e
      have h1 := congrArg Int32.toInt e
      rw [nI_toInt (by omega), show (-1 : Int32).toInt = -1 from by decide] at h1
      omega
    · intro e; exact absurd e q
theorem w_digit {o v s : Nat} (ho : okO o) (ho2 : o ≠ 32) (hv : v ≤ 121) (hs : s < 1000) : ∃ x, fX1_withDigit (nI o) (hR v) (nI s) = some x ∧ (x = -2 ↔ wdA o v s = 0) ∧ (wdA o v s ≠ 0 → x = hR (wdA o v s)) := by
  have h31 : o < 2147483648 := by rcases ho with rfl | rfl | rfl | rfl <;> omega
  have n2 : ∀ k, k < 2147483648 → ¬ nI k = -2 := fun k hk e => by
    have h1 := congrArg Int32.toInt e
    rw [nI_toInt hk, show (-2 : Int32).toInt = -2 from by decide] at h1
    omega
  unfold fX1_withDigit
  rw [ifc (show nI o = 119 ↔ o = 119 from i_eq (b := 119) h31 (by omega)), ifc (show nI s < 48 ↔ s < 48 from i_lt (b := 48) (by omega) (by omega)), ifc (show 57 < nI s ↔ 57 < s from i_lt (a := 57) (by omega) (by omega)), ifc (show hR v = 0 ↔ v = 1 from hR_eq (g := 0) (by omega) (by omega)), ifc (hR_m1 (by omega))]
  by_cases q1 : o = 119
  · rw [if_pos q1]
    have e : wdA o v s = 0 := by unfold wdA; rw [if_pos (Or.inl q1)]
    exact ⟨_, rfl, ⟨fun _ => e, fun _ => rfl⟩, fun z => absurd e z⟩
  · rw [if_neg q1]
    by_cases q2 : s < 48
    · rw [if_pos q2]
      have e : wdA o v s = 0 := by unfold wdA; rw [if_pos (Or.inr (Or.inl q2))]
      exact ⟨_, rfl, ⟨fun _ => e, fun _ => rfl⟩, fun z => absurd e z⟩
    · rw [if_neg q2]
      by_cases q3 : 57 < s
      · rw [if_pos q3]
        have e : wdA o v s = 0 := by unfold wdA; rw [if_pos (Or.inr (Or.inr (Or.inl q3)))]
        exact ⟨_, rfl, ⟨fun _ => e, fun _ => rfl⟩, fun z => absurd e z⟩
      · rw [if_neg q3]
        by_cases q4 : v = 1
        · rw [if_pos q4]
          have e : wdA o v s = 0 := by unfold wdA; rw [if_pos (Or.inr (Or.inr (Or.inr q4)))]
          exact ⟨_, rfl, ⟨fun _ => e, fun _ => rfl⟩, fun z => absurd e z⟩
        · rw [if_neg q4]
          have key : ∀ t, t < 10000 → (t = if v = 0 then s - 48 else 10 * (v - 1) + (s - 48)) → ∃ x, jX1_withDigit_1 (nI o) (nI t) = some x ∧ (x = -2 ↔ wdA o v s = 0) ∧ (wdA o v s ≠ 0 → x = hR (wdA o v s)) := fun t ht e => by
            have hw : wdA o v s = if t ≤ (if o = 103 then 39 else 120) then t + 1 else 0 := by
              unfold wdA
              rw [if_neg (by omega), ← e]
            have key2 : ∀ k, k < 1000 → (k = if o = 103 then 39 else 120) → ∃ x, jX1_withDigit_2 (nI t) (nI k) = some x ∧ (x = -2 ↔ wdA o v s = 0) ∧ (wdA o v s ≠ 0 → x = hR (wdA o v s)) := fun k hk ek => by
              rw [hw, ← ek]
              unfold jX1_withDigit_2
              rw [ifc (i_lt (by omega) (by omega))]
              by_cases q : t ≤ k
              · rw [if_neg (by omega), if_pos q]
                exact ⟨_, rfl, ⟨fun z => absurd z (n2 t (by omega)), fun z => absurd z (Nat.succ_ne_zero t)⟩, fun _ => (hR_s (Nat.succ_ne_zero t)).symm⟩
              · rw [if_pos (by omega), if_neg q]
                exact ⟨_, rfl, ⟨fun _ => rfl, fun _ => rfl⟩, fun z => absurd rfl z⟩
            unfold jX1_withDigit_1
            rw [ifc (show nI o = 103 ↔ o = 103 from i_eq (b := 103) h31 (by omega))]
            by_cases q : o = 103
            · rw [if_pos q]; exact key2 39 (by omega) (by rw [if_pos q])
            · rw [if_neg q]; exact key2 120 (by omega) (by rw [if_neg q])
          rw [show nI s - 48 = nI (s - 48) from i_sub (b := 48) (by omega)]
          by_cases q5 : v = 0
          · rw [if_pos q5]
            exact key _ (by omega) (by rw [if_pos q5])
          · rw [if_neg q5, hR_s q5, show (10 : Int32) * nI (v - 1) + nI (s - 48) = nI (10 * (v - 1) + (s - 48)) from by
              rw [show (10 : Int32) = nI 10 from rfl, i_mul, i_add]]
            exact key _ (by omega) (by rw [if_neg q5])
theorem s_fw {P : GX1} {c : Nat → Nat} {len : Nat} (h : RepP P c len) : ∀ (m o v fu : Nat), m ≤ len → okO o → v ≤ 121 → m < fu → lp (tX1_firstWrong_7 P) fu (nI o, hR v, nI (len - m)) = some (oI (fwA c len m o v)) := by
  have hl := h.2.1
  intro m
  induction m with
  | zero =>
    intro o v fu hm ho hv hf
    obtain ⟨fu, rfl⟩ : ∃ q, fu = q + 1 := ⟨fu - 1, by omega⟩
    refine lp_r fu ?_
    unfold tX1_firstWrong_7 fwA
    dsimp only
    rw [h.1, if_pos (i_ple (by omega) (by omega)), w_whole ho (by omega)]
    simp only [Option.bind_some]
    by_cases q1 : o = 119
    · rw [if_pos q1, if_pos q1, if_neg (show ¬ (1 : Int32) = 0 by decide)]; rfl
    · rw [if_neg q1, if_neg q1]
      by_cases q2 : o = 32
      · rw [if_pos q2, if_pos q2, if_pos rfl]; rfl
      · rw [if_neg q2, if_neg q2]
        by_cases q3 : v = 0
        · rw [if_pos q3, if_pos q3, if_pos rfl]; rfl
        · rw [if_neg q3, if_neg q3, if_neg (show ¬ (1 : Int32) = 0 by decide)]; rfl
  | succ m ih =>
    intro o v fu hm ho hv hf
    obtain ⟨fu, rfl⟩ : ∃ q, fu = q + 1 := ⟨fu - 1, by omega⟩
    have hi : len - (m + 1) < len := by omega
    obtain ⟨c1, c2, c3⟩ := h.2.2 _ hi
    have h31 : o < 2147483648 := by rcases ho with rfl | rfl | rfl | rfl <;> omega
    have nx : nI (len - (m + 1)) + 1 = nI (len - m) := by rw [i_inc, show len - (m + 1) + 1 = len - m by omega]
    have go : ∀ x y, tX1_firstWrong_7 P (nI o, hR v, nI (len - (m + 1))) = some (.inl (x, y, nI (len - m))) → ∀ o' v', x = nI o' → y = hR v' → okO o' → v' ≤ 121 → fwA c len (m + 1) o v = fwA c len m o' v' → lp (tX1_firstWrong_7 P) (fu + 1) (nI o, hR v, nI (len - (m + 1))) = some (oI (fwA c len (m + 1) o v)) := fun x y e o' v' hx hy ho' hv' hfw => by
      rw [lp_l fu e, hfw, hx, hy]
      exact ih o' v' fu (by omega) ho' hv' (by omega)
    have st : tX1_firstWrong_7 P (nI o, hR v, nI (len - (m + 1))) = (if o = 32 then (if c (len - (m + 1)) = 103 ∨ c (len - (m + 1)) = 98 ∨ c (len - (m + 1)) = 119 then some (.inl (nI (c (len - (m + 1))), -1, nI (len - m))) else some (.inr (nI (len - (m + 1))))) else if c (len - (m + 1)) = 59 then (if o = 119 then some (.inl (32, hR v, nI (len - m))) else if v = 0 then some (.inr (nI (len - (m + 1)))) else some (.inl (32, hR v, nI (len - m)))) else ((fX1_withDigit (nI o) (hR v) (nI (c (len - (m + 1))))).bind fun o74 => (if o74 = (-2) then some (.inr (nI (len - (m + 1)))) else some (.inl (nI o, o74, nI (len - m)))))) := by
      unfold tX1_firstWrong_7 jX1_firstWrong_1
      dsimp only
      rw [h.1, if_neg (i_nle hi (by omega))]
      simp only [gI (i := len - (m + 1)) (N := 60) (by omega) (by omega)]
      rw [i_cl (by omega), c1, ifc (show nI o = 32 ↔ o = 32 from i_eq (b := 32) h31 (by omega)), ifc (show nI (c (len - (m + 1))) = 59 ↔ c (len - (m + 1)) = 59 from i_eq (b := 59) (by omega) (by omega)), nx]
      by_cases q1 : o = 32
      · rw [if_pos q1, if_pos q1, w_letter (by omega)]
        simp only [Option.bind_some]
        by_cases q2 : c (len - (m + 1)) = 103 ∨ c (len - (m + 1)) = 98 ∨ c (len - (m + 1)) = 119
        · rw [if_pos q2, if_pos q2, if_neg (show ¬ (1 : Int32) = 0 by decide)]
        · rw [if_neg q2, if_neg q2, if_pos rfl]
      · rw [if_neg q1, if_neg q1]
        by_cases q2 : c (len - (m + 1)) = 59
        · rw [if_pos q2, if_pos q2, w_whole ho (by omega), if_neg q1]
          simp only [Option.bind_some]
          by_cases q3 : o = 119
          · rw [if_pos q3, if_pos q3, if_neg (show ¬ (1 : Int32) = 0 by decide)]
          · rw [if_neg q3, if_neg q3]
            by_cases q4 : v = 0
            · rw [if_pos q4, if_pos q4, if_pos rfl]
            · rw [if_neg q4, if_neg q4, if_neg (show ¬ (1 : Int32) = 0 by decide)]
        · rw [if_neg q2, if_neg q2]
    by_cases q1 : o = 32
    · rw [if_pos q1] at st
      by_cases q2 : c (len - (m + 1)) = 103 ∨ c (len - (m + 1)) = 98 ∨ c (len - (m + 1)) = 119
      · rw [if_pos q2] at st
        exact go _ _ st _ 0 rfl rfl (by unfold okO; omega) (by omega) (by rw [fwA, if_pos q1, if_pos q2])
      · rw [if_neg q2] at st
        rw [lp_r fu st, fwA, if_pos q1, if_neg q2]; rfl
    · rw [if_neg q1] at st
      by_cases q2 : c (len - (m + 1)) = 59
      · rw [if_pos q2] at st
        by_cases q3 : o = 119
        · rw [if_pos q3] at st
          exact go _ _ st 32 v rfl rfl (Or.inl rfl) hv (by rw [fwA, if_neg q1, if_pos q2, if_pos q3])
        · rw [if_neg q3] at st
          by_cases q4 : v = 0
          · rw [if_pos q4] at st
            rw [lp_r fu st, fwA, if_neg q1, if_pos q2, if_neg q3, if_pos q4]; rfl
          · rw [if_neg q4] at st
            exact go _ _ st 32 v rfl rfl (Or.inl rfl) hv (by rw [fwA, if_neg q1, if_pos q2, if_neg q3, if_neg q4])
      · rw [if_neg q2] at st
        obtain ⟨x, e, x1, x2⟩ := w_digit ho q1 hv (show c (len - (m + 1)) < 1000 by omega)
        rw [e] at st
        simp only [Option.bind_some] at st
        have hw : fwA c len (m + 1) o v = if wdA o v (c (len - (m + 1))) = 0 then some (len - (m + 1)) else fwA c len m o (wdA o v (c (len - (m + 1)))) := by
          rw [fwA, if_neg q1, if_neg q2]
          unfold wdA
          by_cases q5 : o = 119 ∨ c (len - (m + 1)) < 48 ∨ 57 < c (len - (m + 1)) ∨ v = 1
          · rw [if_pos q5, if_pos q5, if_pos rfl]
          · rw [if_neg q5, if_neg q5]
            by_cases q6 : (if v = 0 then c (len - (m + 1)) - 48 else 10 * (v - 1) + (c (len - (m + 1)) - 48)) ≤ (if o = 103 then 39 else 120)
            · rw [if_pos q6, if_pos q6, if_neg (Nat.succ_ne_zero _)]
            · rw [if_neg q6, if_neg q6, if_pos rfl]
        by_cases q5 : wdA o v (c (len - (m + 1))) = 0
        · rw [if_pos (x1.mpr q5)] at st
          rw [lp_r fu st, hw, if_pos q5]; rfl
        · rw [if_neg (fun z => q5 (x1.mp z))] at st
          exact go _ _ st o _ rfl (x2 q5) ho wdA_le (by rw [hw, if_neg q5])
/-- the first fault of a text -/
def fwT (c : Nat → Nat) (len : Nat) : Option Nat := fwA c len len 32 0
theorem s_firstWrong {P : GX1} {c : Nat → Nat} {len : Nat} (h : RepP P c len) : fX1_firstWrong P = some (oI (fwT c len)) := by
  have hl := h.2.1
  unfold fX1_firstWrong fwT
  have := s_fw h len 32 0 FU (Nat.le_refl _) (Or.inl rfl) (by omega) (by rw [FU_eq]; omega)
  rw [Nat.sub_self] at this
  exact this
