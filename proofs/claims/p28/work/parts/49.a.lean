/-! ===== p28: the start ===== -/
def A0 : AS := (begM 0 M00, [], none, (0, fun _ => 0), (0, 0, 0))
theorem k_start : ∃ (o7 : Int32 × GX4), fX4_plant 0 S0X4 = some o7 ∧ RepA ((0, 0, 0, 0, 0), o7.2, S0X4, S0X4, (S0X4, S0X4, S0X4, S0X4), S0X6, S0X0, S0X5, S0X3, S0X1) A0 := by
  obtain ⟨S', e1, r1⟩ := s_plant (S := S0X4) (M := M00) (b := 0) (by omega) rfl (fun k hk => by
    rcases (show k = 0 ∨ k = 1 ∨ k = 2 ∨ k = 3 by omega) with rfl | rfl | rfl | rfl
    · rfl
    · rfl
    · rfl
    · rfl)
  exact ⟨_, e1, ⟨PM.beg WF.m00 (by omega), r1⟩, ⟨Nat.zero_le _, rfl, fun i M hi => by cases hi⟩, Or.inl ⟨rfl, rfl⟩, ⟨rfl, Nat.zero_le _, fun i hi => absurd hi (Nat.not_lt_zero _)⟩, rfl⟩
/-! ===== p28: walks ===== -/
theorem onW_b {M : GM} {pl st dr L : Nat} (h : dr ≤ 2 * st + 1) : match onW M pl st dr L with
    | .inl y => y.2.2.1 ≤ 2 * y.2.1 ∧ st + 1 = y.2.1 ∧ dr + 1 = y.2.2.1
    | .inr z => z.2.2.1 ≤ 2 * z.2.1 + 1 ∧ st ≤ z.2.1 ∧ dr ≤ z.2.2.1 ∧ (st < mS M 1 → st + 1 ≤ z.2.1 ∧ dr + 1 ≤ z.2.2.1) := by
  unfold onW
  by_cases q : st < mS M 1
  · rw [if_pos q]
    cases e : stepW M pl (nxl L) with
    | none => exact ⟨show dr + 1 ≤ 2 * (st + 1) + 1 by omega, Nat.le_succ _, Nat.le_succ _, fun _ => ⟨Nat.le_refl _, Nat.le_refl _⟩⟩
    | some c => exact ⟨show dr + 1 ≤ 2 * (st + 1) by omega, rfl, rfl⟩
  · rw [if_neg q]
    exact ⟨h, Nat.le_refl _, Nat.le_refl _, fun z => absurd z q⟩
theorem turnW_b {M : GM} {x : Nat × Nat × Nat × Nat} (h : x.2.2.1 ≤ 2 * x.2.1) : match turnW M x with
    | .inl y => y.2.2.1 ≤ 2 * y.2.1 ∧ x.2.1 + 1 = y.2.1 ∧ x.2.2.1 + 1 ≤ y.2.2.1
    | .inr z => z.2.2.1 ≤ 2 * z.2.1 + 1 ∧ x.2.1 ≤ z.2.1 ∧ x.2.2.1 ≤ z.2.2.1 ∧ (x.2.1 < mS M 1 → x.2.2.1 + 1 ≤ z.2.2.1 ∧ (z.2.2.2.2 = none → x.2.1 + 1 ≤ z.2.1)) := by
  have on : ∀ dr L, x.2.2.1 ≤ dr → dr ≤ 2 * x.2.1 + 1 → match onW M x.1 x.2.1 dr L with
    | .inl y => y.2.2.1 ≤ 2 * y.2.1 ∧ x.2.1 + 1 = y.2.1 ∧ x.2.2.1 + 1 ≤ y.2.2.1
    | .inr z => z.2.2.1 ≤ 2 * z.2.1 + 1 ∧ x.2.1 ≤ z.2.1 ∧ x.2.2.1 ≤ z.2.2.1 ∧ (x.2.1 < mS M 1 → x.2.2.1 + 1 ≤ z.2.2.1 ∧ (z.2.2.2.2 = none → x.2.1 + 1 ≤ z.2.1)) := by
    intro dr L h1 h2
    have := onW_b (M := M) (pl := x.1) (L := L) h2
    cases e : onW M x.1 x.2.1 dr L with
    | inl y =>
      rw [e] at this
      exact ⟨this.1, this.2.1, by have := this.2.2; omega⟩
    | inr z =>
      rw [e] at this
      exact ⟨this.1, this.2.1, by have := this.2.2.1; omega, fun q => ⟨by have := (this.2.2.2 q).2; omega, fun _ => (this.2.2.2 q).1⟩⟩
  unfold turnW
  cases e : fgb M x.1 with
  | none => exact on _ _ (Nat.le_refl _) (by omega)
  | some g =>
    simp only
    by_cases q : nxl x.2.2.2 % 4 < mS M 0
    · rw [if_pos q]
      exact ⟨show x.2.2.1 + 1 ≤ 2 * x.2.1 + 1 by omega, Nat.le_refl _, Nat.le_succ _, fun _ => ⟨Nat.le_refl _, fun z => by cases z⟩⟩
    · rw [if_neg q]
      exact on _ _ (Nat.le_succ _) (by omega)
theorem wlkF_b {M : GM} : ∀ (f : Nat) (x : Nat × Nat × Nat × Nat), x.2.2.1 ≤ 2 * x.2.1 → (wlkF M f x).2.2.1 ≤ 2 * (wlkF M f x).2.1 + 1 ∧ x.2.1 ≤ (wlkF M f x).2.1 ∧ x.2.2.1 ≤ (wlkF M f x).2.2.1
  | 0, x, h => ⟨show x.2.2.1 ≤ 2 * x.2.1 + 1 by omega, Nat.le_refl _, Nat.le_refl _⟩
  | f + 1, x, h => by
    have ht := turnW_b (M := M) h
    rw [wlkF]
    cases e : turnW M x with
    | inl y =>
      rw [e] at ht
      have := wlkF_b (M := M) f y ht.1
      have h2 := ht.2.1
      have h3 := ht.2.2
      exact ⟨this.1, Nat.le_trans (show x.2.1 ≤ y.2.1 by omega) this.2.1, Nat.le_trans (show x.2.2.1 ≤ y.2.2.1 by omega) this.2.2⟩
    | inr z =>
      rw [e] at ht
      exact ⟨ht.1, ht.2.1, ht.2.2.1⟩
/-- a walk draws a lot at least, two a step and one more at most; who is lost has taken a step -/
theorem wlk_b {M : GM} (h0 : 0 < mS M 1) (c : Nat) : 1 ≤ (wlk M c).2.2.1 ∧ (wlk M c).2.2.1 ≤ 2 * (wlk M c).2.1 + 1 ∧ ((wlk M c).2.2.2.2 = none → 1 ≤ (wlk M c).2.1) := by
  have ht := turnW_b (M := M) (x := (c, 0, 0, mL M)) (Nat.le_refl _)
  unfold wlk
  rw [wlkF]
  cases e : turnW M (c, 0, 0, mL M) with
  | inl y =>
    rw [e] at ht
    have := wlkF_b (M := M) 200 y ht.1
    have h2 : 0 + 1 = y.2.1 := ht.2.1
    have h3 : 0 + 1 ≤ y.2.2.1 := ht.2.2
    exact ⟨Nat.le_trans (show 1 ≤ y.2.2.1 by omega) this.2.2, this.1, fun _ => Nat.le_trans (show 1 ≤ y.2.1 by omega) this.2.1⟩
  | inr z =>
    rw [e] at ht
    have h4 := ht.2.2.2 h0
    exact ⟨h4.1, ht.1, h4.2⟩
