/-! ===== p28: carryOut ===== -/
/-- the places of ';' -/
def sc (c : Nat → Nat) (i : Nat) : Bool := decide (c i = 59)
theorem sc_seg {c : Nat → Nat} {p : Nat} : ∀ (n : Nat), (∀ i, p ≤ i → i < p + n → c i ≠ 59) → cnt (sc c) (p + n) = cnt (sc c) p
  | 0, _ => rfl
  | n + 1, h => by
    have ih := sc_seg (c := c) (p := p) n (fun i h1 h2 => h i h1 (by omega))
    rw [← Nat.add_assoc, cnt_s, show sc c (p + n) = false from decide_eq_false (h (p + n) (by omega) (by omega)), ih]
    rfl
theorem Dd.ne {c : Nat → Nat} {len p L n t : Nat} (d : Dd c len p L n t) : ∀ i, p ≤ i → i < p + (1 + n) → c i ≠ 59 := fun i h1 h2 => by
  by_cases q : i = p
  · rw [q, d.2.1]
    rcases d.2.2.2 with ⟨z, _⟩ | ⟨z, _⟩ <;> omega
  · rcases d.2.2.2 with ⟨_, z⟩ | ⟨_, _, z, _⟩
    · omega
    · have := z (i - (p + 1)) (by omega)
      rw [show p + 1 + (i - (p + 1)) = i by omega] at this
      omega
/-- where the reading stands before a deed, and behind the last -/
def atD (c : Nat → Nat) (len p k : Nat) : Prop := (p < len ∧ fwA c len (len - p) 32 0 = none ∧ k = cnt (sc c) p) ∨ (p = len + 1 ∧ k = cnt (sc c) len + 1)
theorem atD_nx {c : Nat → Nat} {len p L n t k : Nat} (d : Dd c len p L n t) (h : nxt c len (p + 1 + n) = none) (hk : k = cnt (sc c) p) : atD c len (p + 1 + n + 1) (k + 1) := by
  have e := sc_seg (1 + n) d.ne
  rw [show p + (1 + n) = p + 1 + n by omega] at e
  have hle := d.2.2.1
  unfold nxt at h
  by_cases q : p + 1 + n = len
  · refine Or.inr ⟨by omega, ?_⟩
    rw [← q, e, hk]
  · rw [if_neg q] at h
    by_cases q2 : c (p + 1 + n) = 59
    · rw [if_pos q2] at h
      have hlt : p + 1 + n + 1 < len := by
        by_cases q3 : p + 1 + n + 1 = len
        · rw [show len - (p + 1 + n + 1) = 0 by omega, fwA, if_neg (by omega), if_pos rfl] at h
          cases h
        · omega
      refine Or.inl ⟨hlt, h, ?_⟩
      rw [cnt_s, show sc c (p + 1 + n) = true from decide_eq_true q2, e, hk]
      rfl
    · rw [if_neg q2] at h; cases h
theorem sc_mono {c : Nat → Nat} {p : Nat} : ∀ (n : Nat), cnt (sc c) p ≤ cnt (sc c) (p + n)
  | 0 => Nat.le_refl _
  | n + 1 => by
    have ih := sc_mono (c := c) (p := p) n
    rw [← Nat.add_assoc, cnt_s]
    omega
/-- how the carrying out ends -/
def endD (c : Nat → Nat) (len : Nat) (k : Nat) (g y : GX7) : Prop := (y = g ∧ k = cnt (sc c) len + 1) ∨ (∃ e p, y = (pX7_states g, pX7_saved g, e, nI k, nI p) ∧ (e = -1 ∨ e = -2) ∧ 2 * k ≤ p ∧ p < len ∧ k ≤ cnt (sc c) len)
theorem k_carry_go {c : Nat → Nat} {len : Nat} : ∀ (m p k fu : Nat) (g0 : GX7) (S : GX4) (K : GX6) (F : GX0) (P : GX1) (M : GM), PM M → RepS S M → RepP P c len → pX1_next P = nI p → pX7_stopError g0 = 0 → atD c len p k → 2 * k ≤ p → len + 1 - p ≤ m → m + 1 < fu → ∃ o M' k', lp tX7_carryOut_33 fu (nI k, g0, S, K, F, P) = some o ∧ o.1 = nI k' ∧ PM M' ∧ RepS o.2.2.1 M' ∧ endD c len k' g0 o.2.1 := by
  intro m
  induction m with
  | zero =>
    intro p k fu g0 S K F P M pm hS hP hn hg hv hk hm hfu
    have hl := hP.2.1
    obtain ⟨fu, rfl⟩ : ∃ q, fu = q + 1 := ⟨fu - 1, by omega⟩
    rcases hv with ⟨v, _⟩ | ⟨v1, v2⟩
    · omega
    · refine ⟨_, M, k, lp_r fu (o := (nI k, g0, S, K, F, P)) ?_, rfl, pm, hS, Or.inl ⟨rfl, v2⟩⟩
      rw [t33_eq, if_neg (show ¬ (60 : Int32) ≤ nI k from i_nle (a := 60) (by omega) (by omega)), if_pos hg, s_readEnd hP hn (by omega) (by omega)]
      rfl
  | succ m ih =>
    intro p k fu g0 S K F P M pm hS hP hn hg hv hk hm hfu
    have hl := hP.2.1
    obtain ⟨fu, rfl⟩ : ∃ q, fu = q + 1 + 1 := ⟨fu - 2, by omega⟩
    rcases hv with ⟨v1, v2, v3⟩ | ⟨v1, v2⟩
    · obtain ⟨L, n, t, d, hx⟩ := dd_ex v1 v2
      obtain ⟨P', e3, p1, p2, p3, p4, p5⟩ := s_readDeed hP hn d hx
      have hL : L = 103 ∨ L = 98 ∨ L = 119 := by
        rcases d.2.2.2 with ⟨z, _⟩ | ⟨z, _⟩ <;> omega
      obtain ⟨S', K', F', e4, yz⟩ := k_deed pm hS g0 K F (x := pX1_number P') hL
      have c33 : tX7_carryOut_33 (nI k, g0, S, K, F, P) = if 0 ≤ (dedA M L (pX1_number P')).1 then some (Sum.inl (nI k + 1, g0, S', K', F', P')) else some (Sum.inl (nI k, (pX7_states g0, pX7_saved g0, (dedA M L (pX1_number P')).1, nI k, pX1_place P'), S', K', F', P')) := by
        rw [t33_eq, if_neg (show ¬ (60 : Int32) ≤ nI k from i_nle (a := 60) (by omega) (by omega)), if_pos hg, e3]
        simp only [Option.bind_some]
        rw [if_neg (show ¬ (1 : Int32) = 0 by decide), p3, e4]
        simp only [Option.bind_some]
      rcases yz with ⟨y1, M', _, y3, y4⟩ | ⟨y1, _, y3⟩
      · rw [if_pos y1, i_inc] at c33
        rw [lp_l _ c33]
        exact ih (p + 1 + n + 1) (k + 1) (fu + 1) g0 S' K' F' P' M' y3 y4 p1 p2 hg (atD_nx d hx v3) (by omega) (by omega) (by omega)
      · have y2 : ¬ 0 ≤ (dedA M L (pX1_number P')).1 ∧ ¬ (dedA M L (pX1_number P')).1 = 0 := by
          rcases y1 with z | z
          · rw [z]; decide
          · rw [z]; decide
        rw [if_neg y2.1] at c33
        rw [lp_l _ c33]
        refine ⟨_, M, k, lp_r fu (o := (nI k, (pX7_states g0, pX7_saved g0, (dedA M L (pX1_number P')).1, nI k, pX1_place P'), S', K', F', P')) ?_, rfl, pm, y3, Or.inr ⟨_, p, ?_, y1, hk, v1, ?_⟩⟩
        · rw [t33_eq, if_neg (show ¬ (60 : Int32) ≤ nI k from i_nle (a := 60) (by omega) (by omega))]
          exact if_neg y2.2
        · show (pX7_states g0, pX7_saved g0, (dedA M L (pX1_number P')).1, nI k, pX1_place P') = _
          rw [p4]
        · have := sc_mono (c := c) (p := p) (len - p)
          rw [show p + (len - p) = len by omega] at this
          omega
    · refine ⟨_, M, k, lp_r (fu + 1) (o := (nI k, g0, S, K, F, P)) ?_, rfl, pm, hS, Or.inl ⟨rfl, v2⟩⟩
      rw [t33_eq, if_neg (show ¬ (60 : Int32) ≤ nI k from i_nle (a := 60) (by omega) (by omega)), if_pos hg, s_readEnd hP hn (by omega) (by omega)]
      rfl
