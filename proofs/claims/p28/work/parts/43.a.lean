/-! ===== p28: set, the pad, why, history, snapshot of the class alone ===== -/
theorem set_ok0 : ∀ v, v < 201 → (1 ≤ v ∧ v ≤ 4) → fX7_isSettingValue (nI 0) (nI v) = some 1 := by decide +kernel
theorem set_ok1 : ∀ v, v < 201 → (10 ≤ v ∧ v ≤ 200) → fX7_isSettingValue (nI 1) (nI v) = some 1 := by decide +kernel
theorem set_ok2 : ∀ v, v < 201 → v ≤ 4 → fX7_isSettingValue (nI 2) (nI v) = some 1 := by decide +kernel
theorem set_ok3 : ∀ v, v < 201 → v ≤ 3 → fX7_isSettingValue (nI 3) (nI v) = some 1 := by decide +kernel
theorem set_ok (k : Nat) (v : Nat) (h : v < 201) (z : okSet k v) : fX7_isSettingValue (nI k) (nI v) = some 1 := by
  rcases z with ⟨rfl, z⟩ | ⟨rfl, z⟩ | ⟨rfl, z⟩ | ⟨rfl, z⟩
  · exact set_ok0 v h z
  · exact set_ok1 v h z
  · exact set_ok2 v h z
  · exact set_ok3 v h z
def setA (M : GM) (x y : Int32) : Int32 × Option GM := match ix x 4, ix y 201 with
  | some k, some v => if (k = 0 ∧ 1 ≤ v ∧ v ≤ 4) ∨ (k = 1 ∧ 10 ≤ v ∧ v ≤ 200) ∨ (k = 2 ∧ v ≤ 4) ∨ (k = 3 ∧ v ≤ 3) then (nI (mS M k), some (stgM M k v)) else (-1, none)
  | _, _ => (-1, none)
theorem setA_ok {M : GM} {k v : Nat} (hk : k < 4) (hv : okSet k v) : setA M (nI k) (nI v) = (nI (mS M k), some (stgM M k v)) := by
  have h2 : v < 201 := by
    unfold okSet at hv
    omega
  unfold setA
  rw [ix_nI hk (by omega), ix_nI h2 (by omega)]
  exact if_pos hv
theorem setA_no {M : GM} {x y : Int32} (h : fX7_isSettingValue x y = some 0) : setA M x y = (-1, none) := by
  unfold setA
  rcases ix_cases x (n := 4) (by omega) with ⟨k, hk, rfl, e⟩ | ⟨e, q⟩
  · rcases ix_cases y (n := 201) (by omega) with ⟨v, hv, rfl, e2⟩ | ⟨e2, q2⟩
    · rw [e, e2]
      refine if_neg (fun z => ?_)
      rw [set_ok k v hv z] at h
      exact absurd (Option.some.inj h) (by decide)
    · rw [e, e2]
  · rw [e]
theorem k_set {V : GV} {a : AS} (h : RepA V a) (x y : Int32) : ∃ o, fX7_set x y V.1 V.2.1 V.2.2.2.2.1 = some o ∧ o.1 = (chA a (setA a.1 x y)).1 ∧ RepA (o.2.1, o.2.2.1, V.2.2.1, V.2.2.2.1, o.2.2.2, V.2.2.2.2.2.1, V.2.2.2.2.2.2.1, V.2.2.2.2.2.2.2.1, V.2.2.2.2.2.2.2.2.1, V.2.2.2.2.2.2.2.2.2) (chA a (setA a.1 x y)).2 := by
  obtain ⟨hM, hH, hK, hX, hY⟩ := id h
  unfold fX7_set
  rcases b_set x y with ⟨k, v, lo, hi, hk, hv, rfl, rfl, e1, -⟩ | ⟨e1, -⟩
  · rw [setA_ok hk hv, e1]
    simp only [Option.bind_some]
    rw [if_neg (show ¬ (1 : Int32) = 0 by decide)]
    obtain ⟨st, gh', e6, hH'⟩ := k_record (gh := V.2.2.2.2.1) hM hH
    obtain ⟨S', e8, r8⟩ := s_change hM.2 hk (v := v)
    rw [e6]
    simp only [Option.bind_some]
    rw [e8]
    exact ⟨_, rfl, rfl, ⟨hM.1.stg hv, r8⟩, hH', hK, hX, hY⟩
  · rw [setA_no e1, e1]
    simp only [Option.bind_some]
    rw [if_pos trivial]
    exact ⟨_, rfl, rfl, h⟩
def appA (p : Nat × (Nat → Nat)) (x : Int32) : Int32 × (Nat × (Nat → Nat)) := match ix x 127 with
  | none => (-1, p)
  | some v => if v < 33 then (-1, p) else if p.1 < 60 then (nI (p.1 + 1), (p.1 + 1, un p.2 p.1 v)) else (-3, p)
def padA (a : AS) (q : Int32 × (Nat × (Nat → Nat))) : Int32 × AS := (q.1, (a.1, a.2.1, a.2.2.1, q.2, a.2.2.2.2))
theorem k_append {V : GV} {a : AS} (h : RepA V a) (x : Int32) : ∃ o, fX7_append x V.1 V.2.2.2.2.2.2.2.2.2 = some o ∧ o.1 = (padA a (appA a.2.2.2.1 x)).1 ∧ RepA (V.1, V.2.1, V.2.2.1, V.2.2.2.1, V.2.2.2.2.1, V.2.2.2.2.2.1, V.2.2.2.2.2.2.1, V.2.2.2.2.2.2.2.1, V.2.2.2.2.2.2.2.2.1, o.2) (padA a (appA a.2.2.2.1 x)).2 := by
  obtain ⟨hM, hH, hK, hX, hY⟩ := id h
  unfold fX7_append appA
  rcases ix_cases x (n := 127) (by omega) with ⟨v, hv, rfl, e⟩ | ⟨e, q⟩
  · rw [e]
    have hc := chr_jc v hv
    by_cases q0 : v < 33
    · rw [if_pos (show nI v < 33 from i_plt (b := 33) q0 (by omega))]
      simp only [if_pos q0]
      exact ⟨_, rfl, rfl, h⟩
    · rw [if_neg (show ¬ nI v < 33 from i_nlt (b := 33) (by omega) (by omega)), if_pos (show nI v ≤ 126 from i_ple (b := 126) (by omega) (by omega))]
      simp only [if_neg q0]
      have x1 : pX1_length V.2.2.2.2.2.2.2.2.2 = nI a.2.2.2.1.1 := hX.1
      have x2 := hX.2.1
      have x3 := hX.2.2
      rw [x1]
      generalize a.2.2.2.1.1 = n at *
      generalize a.2.2.2.1.2 = c at *
      by_cases q : n < 60
      · have ew : fX1_write (nI v) V.2.2.2.2.2.2.2.2.2 = some ((upd (pX1_signs V.2.2.2.2.2.2.2.2.2) n (nI v)), nI n + 1, (pX1_next V.2.2.2.2.2.2.2.2.2), (pX1_place V.2.2.2.2.2.2.2.2.2), (pX1_letter V.2.2.2.2.2.2.2.2.2), (pX1_number V.2.2.2.2.2.2.2.2.2)) := by
          unfold fX1_write
          rw [x1, if_neg (show ¬ (60 : Int32) ≤ nI n from i_nle (a := 60) q (by omega)), gI q (by omega), i_cl (by omega), hc.2]
        rw [if_pos (show nI n < 60 from i_plt (b := 60) q (by omega)), hc.1, ew]
        simp only [Option.bind_some, if_pos q]
        refine ⟨_, rfl, i_inc n, hM, hH, hK, ⟨i_inc n, ?_, fun i hi => ?_⟩, hY⟩
        · show n + 1 ≤ 60
          omega
        · have hi' : i < n + 1 := hi
          show upd (pX1_signs V.2.2.2.2.2.2.2.2.2) n (nI v) i = nI (un c n v i) ∧ 33 ≤ un c n v i ∧ un c n v i ≤ 126
          by_cases z : i = n
          · rw [z, pk_us, un_s]; exact ⟨rfl, by omega, by omega⟩
          · rw [pk_un z, un_n z]; exact x3 i (by omega)
      · rw [if_neg (show ¬ nI n < 60 from i_nlt (b := 60) (by omega) (by omega))]
        simp only [if_neg q]
        exact ⟨_, rfl, rfl, h⟩
  · rw [e]
    rcases q with q | q
    · rw [if_pos (Int32.lt_trans q (show (0 : Int32) < 33 by decide))]
      exact ⟨_, rfl, rfl, h⟩
    · have hh := i_hi (n := 126) (by omega) q
      by_cases q1 : x < 33
      · rw [if_pos q1]
        exact ⟨_, rfl, rfl, h⟩
      · rw [if_neg q1, if_neg (show ¬ x ≤ 126 from hh.2.1)]
        exact ⟨_, rfl, rfl, h⟩
def clrA (p : Nat × (Nat → Nat)) : Int32 × (Nat × (Nat → Nat)) := (nI p.1, (0, p.2))
theorem k_clear {V : GV} {a : AS} (h : RepA V a) : ∃ o, fX7_clear V.1 V.2.2.2.2.2.2.2.2.2 = some o ∧ o.1 = (padA a (clrA a.2.2.2.1)).1 ∧ RepA (V.1, V.2.1, V.2.2.1, V.2.2.2.1, V.2.2.2.2.1, V.2.2.2.2.2.1, V.2.2.2.2.2.2.1, V.2.2.2.2.2.2.2.1, V.2.2.2.2.2.2.2.2.1, o.2) (padA a (clrA a.2.2.2.1)).2 := by
  obtain ⟨hM, hH, hK, hX, hY⟩ := id h
  exact ⟨_, rfl, hX.1, hM, hH, hK, ⟨rfl, Nat.zero_le _, fun i hi => absurd hi (Nat.not_lt_zero _)⟩, hY⟩
theorem k_fault {V : GV} {a : AS} (h : RepA V a) : fX7_fault V.1 V.2.2.2.2.2.2.2.2.2 = some (oI (fwT a.2.2.2.1.2 a.2.2.2.1.1)) := by
  unfold fX7_fault
  rw [s_firstWrong h.2.2.2.1]
  rfl
def whyA (y : Int32 × Int32 × Int32) (x : Int32) : Int32 := match ix x 3 with
  | none => -1
  | some b => if y.1 = 0 then -4 else if b = 0 then y.1 else if b = 1 then y.2.1 else y.2.2
theorem k_why {V : GV} {a : AS} (h : RepA V a) (x : Int32) : fX7_why x V.1 = some (whyA a.2.2.2.2 x) := by
  rw [← h.2.2.2.2]
  unfold fX7_why whyA
  rcases ix_cases x (n := 3) (by omega) with ⟨b, hb, rfl, e⟩ | ⟨e, q⟩
  · rw [e, if_neg (i_nz (by omega)), if_pos (show nI b ≤ 2 from i_ple (b := 2) (by omega) (by omega))]
    by_cases q : pX7_stopError V.1 = 0
    · rw [if_pos q]
      exact congrArg some (if_pos (show V.1.2.2.1 = 0 from q)).symm
    · rw [if_neg q]
      have q' : ¬ V.1.2.2.1 = 0 := q
      simp only [if_neg q']
      rcases (show b = 0 ∨ b = 1 ∨ b = 2 by omega) with rfl | rfl | rfl
      · rfl
      · rfl
      · rfl
  · have hb : ∀ {α : Type} {a b : α}, (if x < 0 then a else (if x ≤ 2 then b else a)) = a := i_out (n := 2) (by omega) q
    rw [e, hb]
/-- the newest state of the history comes back -/
def undA (a : AS) : Int32 × AS := match a.2.1.getLast? with
  | none => (-2, a)
  | some M => (nI (a.2.1.length - 1), (M, a.2.1.dropLast, a.2.2))
theorem k_undo {V : GV} {a : AS} (h : RepA V a) : ∃ o, fX7_undo V.1 V.2.1 V.2.2.2.2.1 = some o ∧ o.1 = (undA a).1 ∧ RepA (o.2.1, o.2.2, V.2.2.1, V.2.2.2.1, V.2.2.2.2.1, V.2.2.2.2.2.1, V.2.2.2.2.2.2.1, V.2.2.2.2.2.2.2.1, V.2.2.2.2.2.2.2.2.1, V.2.2.2.2.2.2.2.2.2) (undA a).2 := by
  obtain ⟨hM, ⟨h1, h2, h3⟩, hK, hX, hY⟩ := id h
  unfold undA
  rw [List.getLast?_eq_getElem?]
  rcases Nat.eq_zero_or_pos a.2.1.length with q | q
  · rw [List.getElem?_eq_none (by omega)]
    unfold fX7_undo
    rw [h2, q, if_neg (show ¬ (1 : Int32) ≤ nI 0 by decide)]
    exact ⟨_, rfl, rfl, h⟩
  · obtain ⟨j, hj⟩ : ∃ j, a.2.1.length = j + 1 := ⟨a.2.1.length - 1, by omega⟩
    rw [hj] at h2
    rw [c_undo (by omega) h2, hj, Nat.add_sub_cancel]
    have hlt : j < a.2.1.length := by omega
    have e := List.getElem?_eq_getElem hlt
    have hm := h3 j _ e
    rw [e]
    have hl : a.2.1.dropLast.length = j := by rw [List.length_dropLast, hj, Nat.add_sub_cancel]
    have hA : HA (nI j) V.2.2.2.2.1 a.2.1.dropLast := by
      refine ⟨by omega, by rw [hl], fun i M hi => ?_⟩
      rw [List.getElem?_dropLast] at hi
      split at hi
      · exact h3 i M hi
      · cases hi
    exact ⟨_, rfl, rfl, hm, hA, hK, hX, hY⟩
def savA (a : AS) : Int32 × AS := (nI (mN a.1), (a.1, a.2.1, some a.1, a.2.2.2))
theorem k_save {V : GV} {a : AS} (h : RepA V a) : ∃ o, fX7_save V.1 V.2.1 V.2.2.1 = some o ∧ o.1 = (savA a).1 ∧ RepA (o.2.1, V.2.1, o.2.2, V.2.2.2.1, V.2.2.2.2.1, V.2.2.2.2.2.1, V.2.2.2.2.2.2.1, V.2.2.2.2.2.2.2.1, V.2.2.2.2.2.2.2.2.1, V.2.2.2.2.2.2.2.2.2) (savA a).2 := by
  obtain ⟨hM, hH, hK, hX, hY⟩ := id h
  unfold fX7_save
  rw [show fX4_takeOver V.2.2.1 V.2.1 = some V.2.1 from rfl]
  exact ⟨_, rfl, hM.2.1, hM, hH, Or.inr ⟨rfl, a.1, rfl, hM⟩, hX, hY⟩
def rstA (a : AS) : Int32 × AS := match a.2.2.1 with
  | none => (-2, a)
  | some M => (nI (mN M), (M, recA a.2.1 a.1, a.2.2))
theorem k_restore {V : GV} {a : AS} (h : RepA V a) : ∃ o, fX7_restore V.1 V.2.1 V.2.2.1 V.2.2.2.2.1 = some o ∧ o.1 = (rstA a).1 ∧ RepA (o.2.1, o.2.2.1, V.2.2.1, V.2.2.2.1, o.2.2.2, V.2.2.2.2.2.1, V.2.2.2.2.2.2.1, V.2.2.2.2.2.2.2.1, V.2.2.2.2.2.2.2.2.1, V.2.2.2.2.2.2.2.2.2) (rstA a).2 := by
  obtain ⟨hM, hH, hK, hX, hY⟩ := id h
  unfold fX7_restore rstA
  rcases hK with ⟨s1, s2⟩ | ⟨s1, M, s2, s3⟩
  · rw [if_pos s1, s2]
    exact ⟨_, rfl, rfl, h⟩
  · rw [if_neg (show ¬ pX7_saved V.1 = 0 by rw [s1]; decide)]
    obtain ⟨st, gh', e1, hH'⟩ := k_record (gh := V.2.2.2.2.1) hM hH
    rw [e1]
    simp only [Option.bind_some]
    rw [show fX4_takeOver V.2.1 V.2.2.1 = some V.2.2.1 from rfl]
    simp only [s2]
    exact ⟨_, rfl, s3.2.1, s3, hH', Or.inr ⟨s1, M, s2, s3⟩, hX, hY⟩
