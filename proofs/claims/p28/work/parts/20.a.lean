def TI (gp : GX1) (pad : Nat → Int32) (len : Int32) : Prop := ∃ (c : Nat → Nat) (n : Nat), RepP gp c n ∧ len = nI n ∧ n ≤ 60 ∧ ∀ i, i < n → pad i = nI (c i) ∧ 33 ≤ c i ∧ c i ≤ 126
theorem i_out {α : Sort _} {x : Int32} {n : Nat} (hn : n + 1 < 2147483648) (q : x < 0 ∨ nI (n + 1) ≤ x) {a b : α} : (if x < 0 then a else (if x ≤ nI n then b else a)) = a := by
  rcases q with q | q
  · rw [if_pos q]
  · have h := i_hi hn q
    rw [if_neg h.1, if_neg h.2.1]
theorem i_outl {α : Sort _} {x : Int32} {n : Nat} (hn : n + 1 < 2147483648) (q : x < 0 ∨ nI (n + 1) ≤ x) {a b : α} : (if x < 0 then a else (if x < nI (n + 1) then b else a)) = a := by
  rcases q with q | q
  · rw [if_pos q]
  · have h := i_hi hn q
    rw [if_neg h.1, if_neg h.2.2.2]
theorem i_ne {x : Int32} {n j : Nat} (hn : n + 1 < 2147483648) (q : x < 0 ∨ nI (n + 1) ≤ x) (hj : j ≤ n) : ¬ x = nI j := by
  intro e
  subst e
  rcases q with q | q
  · exact i_nz (by omega) q
  · exact i_nle (show j < n + 1 by omega) (by omega) q
theorem s_rain {S : GX4} {M : GM} (w : WF M) (h : RepS S M) (o14 : GX7 × GH) (K : GX6) {a : Nat} (ha : a < 100) : ∃ S' K', lp (tX7_rain_21 (nI a) o14) FU (0, 0, S, K) = some (nI (rnF M a).1, S', K') ∧ RepS S' (rnF M a).2 := by
  obtain ⟨o, e, o1, o2⟩ := lp_inv (step := tX7_rain_21 (nI a) o14) (s := (0, 0, S, K)) (fun i s => s.1 = nI (rnF M i).1 ∧ s.2.1 = nI i ∧ RepS s.2.2.1 (rnF M i).2) (fun o => o.1 = nI (rnF M a).1 ∧ RepS o.2.1 (rnF M a).2) a (by omega) ⟨rfl, rfl, h⟩
    (fun i s hi ⟨a1, a2, a3⟩ => by
      obtain ⟨x, y, T, J⟩ := s
      dsimp only at a1 a2 a3
      subst a1 a2
      obtain ⟨T', J', e, r⟩ := s_drops (w.rnF i) a3 o14.1 J
      unfold tX7_rain_21 jX7_rain_1
      dsimp only
      rw [if_neg (i_nle hi (by omega)), e]
      simp only [Option.bind_some]
      have es : (rnF M (i + 1)).1 = (rnF M i).1 + (if rnS (rnF M i).2 then 1 else 0) := rfl
      rw [es]
      cases rnS (rnF M i).2 with
      | true =>
        rw [if_neg (show ¬ (if true = true then (1 : Int32) else 0) = 0 by decide)]
        exact ⟨_, rfl, i_inc _, i_inc _, r⟩
      | false =>
        rw [if_pos (show (if false = true then (1 : Int32) else 0) = 0 by decide)]
        exact ⟨_, rfl, rfl, i_inc _, r⟩)
    (fun s ⟨a1, a2, a3⟩ => by
      refine ⟨(s.1, s.2.2.1, s.2.2.2), ?_, a1, a3⟩
      unfold tX7_rain_21
      rw [a2, if_pos (i_ple (Nat.le_refl _) (by omega))])
  obtain ⟨x, S', K'⟩ := o
  dsimp only at o1 o2
  subst o1
  exact ⟨S', K', e, o2⟩
