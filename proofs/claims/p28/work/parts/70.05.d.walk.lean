set_option maxHeartbeats 4000000 in
set_option maxRecDepth 100000 in
theorem mX6_draw (l : Launch) (dC : Nat → ClassId) (dI : Nat → Nat → Nat) (cI cZ cC cO : ClassId) (q0 : Nat → Nat) (g0 : GX6) (sz : Nat) (out : Int32 × GX6) (hf : fX6_draw g0 = some out) : Met l yX6_draw wsX6_draw rmX6_draw (va_Pc [.ref (q0 0)] (pcW (dC, dI) (wTys cI cZ cC cO) sz (wX6 cI cZ cC q0 g0))) (va_Qi (fun r (_ : Unit) => r = out.1) (fun _ => poW (dC, dI) (va_A (wX6 cI cZ cC q0 g0) sz) (wX6 cI cZ cC q0 out.2)) (va_A (wX6 cI cZ cC q0 g0) sz)) 0 0 (va_A (wX6 cI cZ cC q0 g0) sz) := by
  refine Met.ofW (cc := cX6_draw) (maxL := 1) (ret := (some .int)) (by decide) rfl ?_
  intro p e s m args below meth c s₁ B hml hv
  obtain ⟨hargs, hsz, hP, hK, hN, hD0⟩ := hv
  have hx := B.exec
  have hb := B.bytes
  have hr := B.returns
  have hts := atoms_spec (ws := wsX6_draw) B.pre
  have hown : s.vm.findClass RX6 = some m.cls := findClass_of_methodNamed B.named
  have hlocks := B.notSynchronized
  have hk0 := hts (.fieldLink RX6 21 "RimGrains$Walk" "lot" "I") (by decide +kernel)
  have hk1 := hts (.fieldLink RX6 18 "RimGrains$Walk" "draws" "I") (by decide +kernel)
  have hin6 : ∀ w ∈ wsX60, w ∈ wsX6_draw := by decide +kernel
  subst hsz
  have hD := hD0.self (sz := s.heap.size)
  generalize hAe : va_A (wX6 cI cZ cC q0 g0) s.heap.size = A at hD ⊢
  have hA : ∀ q : Nat, s.heap.size ≤ q → A q := fun q h => by rw [← hAe]; exact Or.inr h
  have hS : va_S A s.heap s.heap [] := va_S.rf
  have hE := lg_entry_eq m [.ref (q0 0)] 1
  rw [← hargs] at hE
  rw [hE]
  have hl := lv_entry [.ref (q0 0)] (n := 1) (Nat.le_of_ble_eq_true rfl)
  generalize (lg_sl [.ref (q0 0)] ++ List.replicate (1 - (lg_sl [.ref (q0 0)]).length) Slot.unset).toArray = ls at hl ⊢
  have hl : lv_has ls 1 [(0, .ref (q0 0))] := hl
  have hP : va_P (dC, dI) vwCl (wX6 cI cZ cC q0 g0) s.heap := hP
  unfold fX6_draw at hf
  refine lv_aload_n hx hb dX6_draw_0 rfl (lv_at hl 0 rfl) ?_
  refine lv_aload_n hx hb dX6_draw_1 rfl (lv_at hl 0 rfl) ?_
  refine va_get (D := (dC, dI)) (ci := 5) (v := .int (pX6_lot g0)) (C := RX6) (T := TX6) (N := 5) hx hb hts hin6 hown hK hP 0 rfl rfl 3 (by decide) hk0 (fun _ h9 => h9) rfl dX6_draw_2 ?_
  obtain ⟨o5, ho5, hf⟩ := ob hf
  refine rSN (rest := [.ref (q0 0)]) (As := [.int (pX6_lot g0)]) ⟨hx, hb, hml, hown, hts⟩ (mX7_nextLot l dC dI cI cZ cC cO  _ _ ho5) ⟨va_cnB 1 hts gX6_draw_X7_nextLot_n57 rfl rfl rfl (hN.m 6 rfl) (hts (.initialized RX7) (by decide +kernel)) (by decide +kernel) ⟨Nat.le_of_ble_eq_true rfl, Nat.le_of_ble_eq_true rfl⟩, hts (.static yX7_nextLot) (by decide +kernel), trivial⟩ hK hN hP [] rfl rfl hl.1 rfl (Nat.le_of_ble_eq_true rfl) dX6_draw_5 ⟨Nat.zero_le _, Nat.zero_le _⟩ ?_
  refine va_put (D := (dC, dI)) (ci := 5) (v := .int o5) (ty := .int) (C := RX6) (T := TX6) (N := 5) hx hb hts hin6 tyX6 tyX6_ok nmX6 hown hK hP hD hS 0 rfl rfl 3 (by decide) hk0 (fun _ h9 => h9) rfl (by decide +kernel) rfl rfl (Nat.le_of_ble_eq_true rfl) dX6_draw_8 (fun H locs hP hD hS => ?_)
  have hP : va_P (dC, dI) vwCl (wX6 cI cZ cC q0 ((pX6_place g0), (pX6_steps g0), (pX6_draws g0), o5, (pX6_holder g0))) H := hP
  have hD : va_D A (wX6 cI cZ cC q0 ((pX6_place g0), (pX6_steps g0), (pX6_draws g0), o5, (pX6_holder g0))) := hD
  refine lv_aload_n hx hb dX6_draw_11 rfl (lv_at hl 0 rfl) ?_
  refine lv_dup hx hb dX6_draw_12 rfl ?_
  refine va_get (D := (dC, dI)) (ci := 5) (v := .int (pX6_draws g0)) (C := RX6) (T := TX6) (N := 5) hx hb hts hin6 hown hK hP 0 rfl rfl 2 (by decide) hk1 (fun _ h9 => h9) rfl dX6_draw_13 ?_
  refine lv_iconst (v := 1) hx hb dX6_draw_16 (by decide) ?_
  refine lv_iadd hx hb dX6_draw_17 ?_
  refine va_put (D := (dC, dI)) (ci := 5) (v := .int ((pX6_draws g0) + 1)) (ty := .int) (C := RX6) (T := TX6) (N := 5) hx hb hts hin6 tyX6 tyX6_ok nmX6 hown hK hP hD hS 0 rfl rfl 2 (by decide) hk1 (fun _ h9 => h9) rfl (by decide +kernel) rfl rfl (Nat.le_of_ble_eq_true rfl) dX6_draw_18 (fun H locs hP hD hS => ?_)
  have hP : va_P (dC, dI) vwCl (wX6 cI cZ cC q0 ((pX6_place g0), (pX6_steps g0), ((pX6_draws g0) + 1), o5, (pX6_holder g0))) H := hP
  have hD : va_D A (wX6 cI cZ cC q0 ((pX6_place g0), (pX6_steps g0), ((pX6_draws g0) + 1), o5, (pX6_holder g0))) := hD
  refine lv_aload_n hx hb dX6_draw_21 rfl (lv_at hl 0 rfl) ?_
  refine va_get (D := (dC, dI)) (ci := 5) (v := .int o5) (C := RX6) (T := TX6) (N := 5) hx hb hts hin6 hown hK hP 0 rfl rfl 3 (by decide) hk0 (fun _ h9 => h9) rfl dX6_draw_22 ?_
  obtain rfl := Option.some.inj hf
  exact W.iret (v := o5) hx hb hr (fun t ht hW => ⟨⟨_, (), rfl, rfl, by rw [ht]; exact hP, hD⟩, hS.F ht⟩) hS.2.2 dX6_draw_25
set_option maxHeartbeats 4000000 in
set_option maxRecDepth 100000 in
theorem mX6_catchesHold (l : Launch) (dC : Nat → ClassId) (dI : Nat → Nat → Nat) (cI cZ cC cO : ClassId) (q0 : Nat → Nat) (q1 : Nat → Nat) (g0 : GX6) (g1 : GX4) (sz : Nat) (out : Int32 × GX6) (hf : fX6_catchesHold g0 g1 = some out) : Met l yX6_catchesHold wsX6_catchesHold rmX6_catchesHold (va_Pc [.ref (q0 0), .ref (q1 0)] (pcW (dC, dI) (wTys cI cZ cC cO) sz (wX6 cI cZ cC q0 g0 ++ wX4 cI cZ cC q1 g1))) (va_Qi (fun r (_ : Unit) => r = out.1) (fun _ => poW (dC, dI) (va_A (wX6 cI cZ cC q0 g0 ++ wX4 cI cZ cC q1 g1) sz) (wX6 cI cZ cC q0 out.2 ++ wX4 cI cZ cC q1 g1)) (va_A (wX6 cI cZ cC q0 g0 ++ wX4 cI cZ cC q1 g1) sz)) 0 0 (va_A (wX6 cI cZ cC q0 g0 ++ wX4 cI cZ cC q1 g1) sz) := by
  refine Met.ofW (cc := cX6_catchesHold) (maxL := 3) (ret := (some .boolean)) (by decide) rfl ?_
  intro p e s m args below meth c s₁ B hml hv
  obtain ⟨hargs, hsz, hP, hK, hN, hD0⟩ := hv
  have hx := B.exec
  have hb := B.bytes
  have hr := B.returns
  have hts := atoms_spec (ws := wsX6_catchesHold) B.pre
  have hown : s.vm.findClass RX6 = some m.cls := findClass_of_methodNamed B.named
  have hlocks := B.notSynchronized
  have hk0 := hts (.fieldLink RX6 9 "RimGrains$Walk" "place" "I") (by decide +kernel)
  have hk1 := hts (.fieldLink RX6 24 "RimGrains$Walk" "holder" "I") (by decide +kernel)
  have hin6 : ∀ w ∈ wsX60, w ∈ wsX6_catchesHold := by decide +kernel
  subst hsz
  have hD := hD0.self (sz := s.heap.size)
  generalize hAe : va_A (wX6 cI cZ cC q0 g0 ++ wX4 cI cZ cC q1 g1) s.heap.size = A at hD ⊢
  have hA : ∀ q : Nat, s.heap.size ≤ q → A q := fun q h => by rw [← hAe]; exact Or.inr h
  have hS : va_S A s.heap s.heap [] := va_S.rf
  have hE := lg_entry_eq m [.ref (q0 0), .ref (q1 0)] 3
  rw [← hargs] at hE
  rw [hE]
  have hl := lv_entry [.ref (q0 0), .ref (q1 0)] (n := 3) (Nat.le_of_ble_eq_true rfl)
  generalize (lg_sl [.ref (q0 0), .ref (q1 0)] ++ List.replicate (3 - (lg_sl [.ref (q0 0), .ref (q1 0)]).length) Slot.unset).toArray = ls at hl ⊢
  have hl : lv_has ls 3 [(0, .ref (q0 0)), (1, .ref (q1 0))] := hl
  have hP : va_P (dC, dI) vwCl (wX6 cI cZ cC q0 g0 ++ wX4 cI cZ cC q1 g1) s.heap := hP
  unfold fX6_catchesHold at hf
  refine lv_aload_n hx hb dX6_catchesHold_0 rfl (lv_at hl 1 rfl) ?_
  refine lv_aload_n hx hb dX6_catchesHold_1 rfl (lv_at hl 0 rfl) ?_
  refine va_get (D := (dC, dI)) (ci := 5) (v := .int (pX6_place g0)) (C := RX6) (T := TX6) (N := 5) hx hb hts hin6 hown hK hP 0 rfl rfl 0 (by decide) hk0 (fun _ h9 => h9) rfl dX6_catchesHold_2 ?_
  obtain ⟨o5, ho5, hf⟩ := ob hf
  refine rV (rest := []) (As := [.int (pX6_place g0)]) ⟨hx, hb, hml, hown, hts⟩ (mX4_firstGrainBeside l dC dI cI cZ cC cO q1 _ _ _ ho5) (cwV 1 hts gX6_catchesHold_X4_firstGrainBeside rfl rfl rfl (by decide +kernel) ⟨Nat.le_of_ble_eq_true rfl, Nat.le_of_ble_eq_true rfl⟩) hK hN hP [1, 2, 3, 4, 5, 6] rfl 3 rfl rfl rfl rfl hl.1 rfl (Nat.le_of_ble_eq_true rfl) dX6_catchesHold_5 ⟨Nat.zero_le _, Nat.zero_le _⟩ ?_
  refine lv_istore_n (lv' := [(2, .int o5), (0, .ref (q0 0)), (1, .ref (q1 0))]) hx hb dX6_catchesHold_8 rfl hl (by decide) rfl (fun ls hl => ?_)
  refine lv_iload_n hx hb dX6_catchesHold_9 rfl (lv_at hl 0 rfl) ?_
  refine lv_bipush (v := (-4)) hx hb dX6_catchesHold_10 (by decide) ?_
  refine lv_icmp_eq (tgt := 29) hx hb dX6_catchesHold_12 (by decide) (fun hc => ?_) (fun hc => ?_)
  · have hf := ot hc hf
    refine lv_iconst (v := 0) hx hb dX6_catchesHold_29 (by decide) ?_
    obtain rfl := Option.some.inj hf
    exact W.zret (v := 0) (ty := .boolean) hx hb hr rfl (fun t ht hW => ⟨⟨_, (), rfl, rfl, by rw [ht]; exact hP, hD⟩, hS.F ht⟩) hS.2.2 dX6_catchesHold_30
  · have hf := oe hc hf
    refine lv_aload_n hx hb dX6_catchesHold_15 rfl (lv_at hl 1 rfl) ?_
    obtain ⟨o16, ho16, hf⟩ := ob hf
    refine wVi (W1 := (fun _ : Unit => (wX6 cI cZ cC q0 o16.2 ++ wX4 cI cZ cC q1 g1))) (rest := []) (As := []) ⟨hx, hb, hml, hown, hts⟩ (mX6_draw l dC dI cI cZ cC cO q0 _ _ _ ho16) (cwV 0 hts gX6_catchesHold_X6_draw rfl rfl rfl (by decide +kernel) ⟨Nat.le_of_ble_eq_true rfl, Nat.le_of_ble_eq_true rfl⟩) hK hN hP hD hS hA [0] [1, 2, 3, 4, 5, 6] [6, 0, 1, 2, 3, 4, 5] rfl rfl (by decide) (by decide) (fun _ => rfl) 5 rfl rfl rfl rfl hl.1 rfl (Nat.le_of_ble_eq_true rfl) dX6_catchesHold_16 ⟨Nat.zero_le _, Nat.zero_le _⟩ (fun _ H locs hP hD hS => ?_)
    have hP : va_P (dC, dI) vwCl (wX6 cI cZ cC q0 o16.2 ++ wX4 cI cZ cC q1 g1) H := hP
    have hD : va_D A (wX6 cI cZ cC q0 o16.2 ++ wX4 cI cZ cC q1 g1) := hD
    refine lv_iconst (v := 4) hx hb dX6_catchesHold_19 (by decide) ?_
    refine jirem hx hb dX6_catchesHold_20 (by decide) ?_
    refine lv_aload_n hx hb dX6_catchesHold_21 rfl (lv_at hl 2 rfl) ?_
    refine lv_iconst (v := 0) hx hb dX6_catchesHold_22 (by decide) ?_
    obtain ⟨o23, ho23, hf⟩ := ob hf
    refine rV (rest := [.int (jrem o16.1 4)]) (As := [.int 0]) ⟨hx, hb, hml, hown, hts⟩ (mX4_setting l dC dI cI cZ cC cO q1 _ _ _ ho23) (cwV 1 hts gX6_catchesHold_X4_setting rfl rfl rfl (by decide +kernel) ⟨Nat.le_of_ble_eq_true rfl, Nat.le_of_ble_eq_true rfl⟩) hK hN hP [1, 2, 3, 4, 5, 6] rfl 3 rfl rfl rfl rfl hl.1 rfl (Nat.le_of_ble_eq_true rfl) dX6_catchesHold_23 ⟨Nat.zero_le _, Nat.zero_le _⟩ ?_
    refine lv_icmp_lt (tgt := 31) hx hb dX6_catchesHold_26 (by decide) (fun hc => ?_) (fun hc => ?_)
    · have hf := ot hc hf
      refine lv_aload_n hx hb dX6_catchesHold_31 rfl (lv_at hl 1 rfl) ?_
      refine lv_iload_n hx hb dX6_catchesHold_32 rfl (lv_at hl 0 rfl) ?_
      refine va_put (D := (dC, dI)) (ci := 5) (v := .int o5) (ty := .int) (C := RX6) (T := TX6) (N := 5) hx hb hts hin6 tyX6 tyX6_ok nmX6 hown hK hP hD hS 0 rfl rfl 4 (by decide) hk1 (fun _ h9 => h9) rfl (by decide +kernel) rfl rfl (Nat.le_of_ble_eq_true rfl) dX6_catchesHold_33 (fun H locs hP hD hS => ?_)
      have hP : va_P (dC, dI) vwCl (wX6 cI cZ cC q0 ((pX6_place o16.2), (pX6_steps o16.2), (pX6_draws o16.2), (pX6_lot o16.2), o5) ++ wX4 cI cZ cC q1 g1) H := hP
      have hD : va_D A (wX6 cI cZ cC q0 ((pX6_place o16.2), (pX6_steps o16.2), (pX6_draws o16.2), (pX6_lot o16.2), o5) ++ wX4 cI cZ cC q1 g1) := hD
      refine lv_iconst (v := 1) hx hb dX6_catchesHold_36 (by decide) ?_
      obtain rfl := Option.some.inj hf
      exact W.zret (v := 1) (ty := .boolean) hx hb hr rfl (fun t ht hW => ⟨⟨_, (), rfl, rfl, by rw [ht]; exact hP, hD⟩, hS.F ht⟩) hS.2.2 dX6_catchesHold_37
    · have hf := oe hc hf
      refine lv_iconst (v := 0) hx hb dX6_catchesHold_29 (by decide) ?_
      obtain rfl := Option.some.inj hf
      exact W.zret (v := 0) (ty := .boolean) hx hb hr rfl (fun t ht hW => ⟨⟨_, (), rfl, rfl, by rw [ht]; exact hP, hD⟩, hS.F ht⟩) hS.2.2 dX6_catchesHold_30
set_option maxHeartbeats 4000000 in
set_option maxRecDepth 100000 in
theorem mX6_makesStep (l : Launch) (dC : Nat → ClassId) (dI : Nat → Nat → Nat) (cI cZ cC cO : ClassId) (q0 : Nat → Nat) (q1 : Nat → Nat) (g0 : GX6) (g1 : GX4) (sz : Nat) (out : Int32 × GX6) (hf : fX6_makesStep g0 g1 = some out) : Met l yX6_makesStep wsX6_makesStep rmX6_makesStep (va_Pc [.ref (q0 0), .ref (q1 0)] (pcW (dC, dI) (wTys cI cZ cC cO) sz (wX6 cI cZ cC q0 g0 ++ wX4 cI cZ cC q1 g1))) (va_Qi (fun r (_ : Unit) => r = out.1) (fun _ => poW (dC, dI) (va_A (wX6 cI cZ cC q0 g0 ++ wX4 cI cZ cC q1 g1) sz) (wX6 cI cZ cC q0 out.2 ++ wX4 cI cZ cC q1 g1)) (va_A (wX6 cI cZ cC q0 g0 ++ wX4 cI cZ cC q1 g1) sz)) 0 0 (va_A (wX6 cI cZ cC q0 g0 ++ wX4 cI cZ cC q1 g1) sz) := by
  refine Met.ofW (cc := cX6_makesStep) (maxL := 4) (ret := (some .boolean)) (by decide) rfl ?_
  intro p e s m args below meth c s₁ B hml hv
  obtain ⟨hargs, hsz, hP, hK, hN, hD0⟩ := hv
  have hx := B.exec
  have hb := B.bytes
  have hr := B.returns
  have hts := atoms_spec (ws := wsX6_makesStep) B.pre
  have hown : s.vm.findClass RX6 = some m.cls := findClass_of_methodNamed B.named
  have hlocks := B.notSynchronized
  have hk0 := hts (.fieldLink RX6 9 "RimGrains$Walk" "place" "I") (by decide +kernel)
  have hk1 := hts (.fieldLink RX6 15 "RimGrains$Walk" "steps" "I") (by decide +kernel)
  have hin6 : ∀ w ∈ wsX60, w ∈ wsX6_makesStep := by decide +kernel
  subst hsz
  have hD := hD0.self (sz := s.heap.size)
  generalize hAe : va_A (wX6 cI cZ cC q0 g0 ++ wX4 cI cZ cC q1 g1) s.heap.size = A at hD ⊢
  have hA : ∀ q : Nat, s.heap.size ≤ q → A q := fun q h => by rw [← hAe]; exact Or.inr h
  have hS : va_S A s.heap s.heap [] := va_S.rf
  have hE := lg_entry_eq m [.ref (q0 0), .ref (q1 0)] 4
  rw [← hargs] at hE
  rw [hE]
  have hl := lv_entry [.ref (q0 0), .ref (q1 0)] (n := 4) (Nat.le_of_ble_eq_true rfl)
  generalize (lg_sl [.ref (q0 0), .ref (q1 0)] ++ List.replicate (4 - (lg_sl [.ref (q0 0), .ref (q1 0)]).length) Slot.unset).toArray = ls at hl ⊢
  have hl : lv_has ls 4 [(0, .ref (q0 0)), (1, .ref (q1 0))] := hl
  have hP : va_P (dC, dI) vwCl (wX6 cI cZ cC q0 g0 ++ wX4 cI cZ cC q1 g1) s.heap := hP
  unfold fX6_makesStep at hf
  refine lv_aload_n hx hb dX6_makesStep_0 rfl (lv_at hl 0 rfl) ?_
  obtain ⟨o1, ho1, hf⟩ := ob hf
  refine wVi (W1 := (fun _ : Unit => (wX6 cI cZ cC q0 o1.2 ++ wX4 cI cZ cC q1 g1))) (rest := []) (As := []) ⟨hx, hb, hml, hown, hts⟩ (mX6_draw l dC dI cI cZ cC cO q0 _ _ _ ho1) (cwV 0 hts gX6_makesStep_X6_draw rfl rfl rfl (by decide +kernel) ⟨Nat.le_of_ble_eq_true rfl, Nat.le_of_ble_eq_true rfl⟩) hK hN hP hD hS hA [0] [1, 2, 3, 4, 5, 6] [6, 0, 1, 2, 3, 4, 5] rfl rfl (by decide) (by decide) (fun _ => rfl) 5 rfl rfl rfl rfl hl.1 rfl (Nat.le_of_ble_eq_true rfl) dX6_makesStep_1 ⟨Nat.zero_le _, Nat.zero_le _⟩ (fun _ H locs hP hD hS => ?_)
  have hP : va_P (dC, dI) vwCl (wX6 cI cZ cC q0 o1.2 ++ wX4 cI cZ cC q1 g1) H := hP
  have hD : va_D A (wX6 cI cZ cC q0 o1.2 ++ wX4 cI cZ cC q1 g1) := hD
  refine lv_iconst (v := 4) hx hb dX6_makesStep_4 (by decide) ?_
  refine lv_aload_n hx hb dX6_makesStep_5 rfl (lv_at hl 1 rfl) ?_
  refine lv_iconst (v := 2) hx hb dX6_makesStep_6 (by decide) ?_
  obtain ⟨o7, ho7, hf⟩ := ob hf
  refine rV (rest := [.int 4, .int o1.1]) (As := [.int 2]) ⟨hx, hb, hml, hown, hts⟩ (mX4_setting l dC dI cI cZ cC cO q1 _ _ _ ho7) (cwV 1 hts gX6_makesStep_X4_setting rfl rfl rfl (by decide +kernel) ⟨Nat.le_of_ble_eq_true rfl, Nat.le_of_ble_eq_true rfl⟩) hK hN hP [1, 2, 3, 4, 5, 6] rfl 3 rfl rfl rfl rfl hl.1 rfl (Nat.le_of_ble_eq_true rfl) dX6_makesStep_7 ⟨Nat.zero_le _, Nat.zero_le _⟩ ?_
  refine lv_iadd hx hb dX6_makesStep_10 ?_
  obtain ⟨hne, hf⟩ := og hf
  refine jirem hx hb dX6_makesStep_11 hne ?_
  refine lv_istore_n (lv' := [(2, .int (jrem o1.1 (4 + o7))), (0, .ref (q0 0)), (1, .ref (q1 0))]) hx hb dX6_makesStep_12 rfl hl (by decide) rfl (fun ls hl => ?_)
  refine lv_aload_n hx hb dX6_makesStep_13 rfl (lv_at hl 1 rfl) ?_
  refine va_get (D := (dC, dI)) (ci := 5) (v := .int (pX6_place o1.2)) (C := RX6) (T := TX6) (N := 5) hx hb hts hin6 hown hK hP 0 rfl rfl 0 (by decide) hk0 (fun _ h9 => h9) rfl dX6_makesStep_14 ?_
  refine lv_iload_n hx hb dX6_makesStep_17 rfl (lv_at hl 0 rfl) ?_
  refine lv_iconst (v := 4) hx hb dX6_makesStep_18 (by decide) ?_
  have hJ1 : ∀ (y0_1 : Int32), jX6_makesStep_1 g1 o1 y0_1 = some out → ∀ (H : Heap) (locs : List Loc) (ls : Array Slot), va_P (dC, dI) vwCl (wX6 cI cZ cC q0 o1.2 ++ wX4 cI cZ cC q1 g1) H → va_D A (wX6 cI cZ cC q0 o1.2 ++ wX4 cI cZ cC q1 g1) → va_S A s.heap H locs → lv_has ls 4 [(0, .ref (q0 0)), (1, .ref (q1 0))] → W p l e (headSpec wsX6_makesStep rmX6_makesStep).room s m args below meth c H locs 0 0 (MQ below (va_Qi (fun r (_ : Unit) => r = out.1) (fun _ => poW (dC, dI) A (wX6 cI cZ cC q0 out.2 ++ wX4 cI cZ cC q1 g1)) A) args s 0 0 A) (F0 m 31 ls [.int y0_1, .int (pX6_place o1.2)]) := by
    intro y0_1 hf H locs ls hP hD hS hl
    unfold jX6_makesStep_1 at hf
    obtain ⟨o31, ho31, hf⟩ := ob hf
    refine rS (rest := []) (As := [.int (pX6_place o1.2), .int y0_1]) ⟨hx, hb, hml, hown, hts⟩ (mX2_neighbour l dC dI cI cZ cC cO  _ _ _ ho31) (va_cwS 2 hts gX6_makesStep_X2_neighbour rfl rfl rfl (by decide +kernel) ⟨Nat.le_of_ble_eq_true rfl, Nat.le_of_ble_eq_true rfl⟩) hK hN hP [] rfl rfl hl.1 rfl (Nat.le_of_ble_eq_true rfl) dX6_makesStep_31 ⟨Nat.zero_le _, Nat.zero_le _⟩ ?_
    refine lv_istore_n (lv' := [(3, .int o31), (0, .ref (q0 0)), (1, .ref (q1 0))]) hx hb dX6_makesStep_34 rfl hl (by decide) rfl (fun ls hl => ?_)
    refine lv_aload_n hx hb dX6_makesStep_35 rfl (lv_at hl 1 rfl) ?_
    refine lv_dup hx hb dX6_makesStep_36 rfl ?_
    refine va_get (D := (dC, dI)) (ci := 5) (v := .int (pX6_steps o1.2)) (C := RX6) (T := TX6) (N := 5) hx hb hts hin6 hown hK hP 0 rfl rfl 1 (by decide) hk1 (fun _ h9 => h9) rfl dX6_makesStep_37 ?_
    refine lv_iconst (v := 1) hx hb dX6_makesStep_40 (by decide) ?_
    refine lv_iadd hx hb dX6_makesStep_41 ?_
    refine va_put (D := (dC, dI)) (ci := 5) (v := .int ((pX6_steps o1.2) + 1)) (ty := .int) (C := RX6) (T := TX6) (N := 5) hx hb hts hin6 tyX6 tyX6_ok nmX6 hown hK hP hD hS 0 rfl rfl 1 (by decide) hk1 (fun _ h9 => h9) rfl (by decide +kernel) rfl rfl (Nat.le_of_ble_eq_true rfl) dX6_makesStep_42 (fun H locs hP hD hS => ?_)
    have hP : va_P (dC, dI) vwCl (wX6 cI cZ cC q0 ((pX6_place o1.2), ((pX6_steps o1.2) + 1), (pX6_draws o1.2), (pX6_lot o1.2), (pX6_holder o1.2)) ++ wX4 cI cZ cC q1 g1) H := hP
    have hD : va_D A (wX6 cI cZ cC q0 ((pX6_place o1.2), ((pX6_steps o1.2) + 1), (pX6_draws o1.2), (pX6_lot o1.2), (pX6_holder o1.2)) ++ wX4 cI cZ cC q1 g1) := hD
    refine lv_iload_n hx hb dX6_makesStep_45 rfl (lv_at hl 0 rfl) ?_
    refine lv_bipush (v := (-4)) hx hb dX6_makesStep_46 (by decide) ?_
    refine lv_icmp_ne (tgt := 53) hx hb dX6_makesStep_48 (by decide) (fun hc => ?_) (fun hc => ?_)
    · have hf := oe hc hf
      refine lv_aload_n hx hb dX6_makesStep_53 rfl (lv_at hl 2 rfl) ?_
      refine lv_iload_n hx hb dX6_makesStep_54 rfl (lv_at hl 0 rfl) ?_
      obtain ⟨o55, ho55, hf⟩ := ob hf
      refine rV (rest := []) (As := [.int o31]) ⟨hx, hb, hml, hown, hts⟩ (mX4_grainAt l dC dI cI cZ cC cO q1 _ _ _ ho55) (cwV 1 hts gX6_makesStep_X4_grainAt rfl rfl rfl (by decide +kernel) ⟨Nat.le_of_ble_eq_true rfl, Nat.le_of_ble_eq_true rfl⟩) hK hN hP [1, 2, 3, 4, 5, 6] rfl 3 rfl rfl rfl rfl hl.1 rfl (Nat.le_of_ble_eq_true rfl) dX6_makesStep_55 ⟨Nat.zero_le _, Nat.zero_le _⟩ ?_
      refine lv_bipush (v := (-4)) hx hb dX6_makesStep_58 (by decide) ?_
      refine lv_icmp_ne (tgt := 68) hx hb dX6_makesStep_60 (by decide) (fun hc => ?_) (fun hc => ?_)
      · have hf := oe hc hf
        refine lv_iconst (v := 1) hx hb dX6_makesStep_68 (by decide) ?_
        obtain rfl := Option.some.inj hf
        exact W.zret (v := 1) (ty := .boolean) hx hb hr rfl (fun t ht hW => ⟨⟨_, (), rfl, rfl, by rw [ht]; exact hP, hD⟩, hS.F ht⟩) hS.2.2 dX6_makesStep_69
      · have hf := ot hc hf
        refine lv_aload_n hx hb dX6_makesStep_63 rfl (lv_at hl 1 rfl) ?_
        refine lv_iload_n hx hb dX6_makesStep_64 rfl (lv_at hl 0 rfl) ?_
        refine va_put (D := (dC, dI)) (ci := 5) (v := .int o31) (ty := .int) (C := RX6) (T := TX6) (N := 5) hx hb hts hin6 tyX6 tyX6_ok nmX6 hown hK hP hD hS 0 rfl rfl 0 (by decide) hk0 (fun _ h9 => h9) rfl (by decide +kernel) rfl rfl (Nat.le_of_ble_eq_true rfl) dX6_makesStep_65 (fun H locs hP hD hS => ?_)
        have hP : va_P (dC, dI) vwCl (wX6 cI cZ cC q0 (o31, ((pX6_steps o1.2) + 1), (pX6_draws o1.2), (pX6_lot o1.2), (pX6_holder o1.2)) ++ wX4 cI cZ cC q1 g1) H := hP
        have hD : va_D A (wX6 cI cZ cC q0 (o31, ((pX6_steps o1.2) + 1), (pX6_draws o1.2), (pX6_lot o1.2), (pX6_holder o1.2)) ++ wX4 cI cZ cC q1 g1) := hD
        refine lv_iconst (v := 1) hx hb dX6_makesStep_68 (by decide) ?_
        obtain rfl := Option.some.inj hf
        exact W.zret (v := 1) (ty := .boolean) hx hb hr rfl (fun t ht hW => ⟨⟨_, (), rfl, rfl, by rw [ht]; exact hP, hD⟩, hS.F ht⟩) hS.2.2 dX6_makesStep_69
    · have hf := ot hc hf
      refine lv_iconst (v := 0) hx hb dX6_makesStep_51 (by decide) ?_
      obtain rfl := Option.some.inj hf
      exact W.zret (v := 0) (ty := .boolean) hx hb hr rfl (fun t ht hW => ⟨⟨_, (), rfl, rfl, by rw [ht]; exact hP, hD⟩, hS.F ht⟩) hS.2.2 dX6_makesStep_52
  refine lv_icmp_ge (tgt := 26) hx hb dX6_makesStep_19 (by decide) (fun hc => ?_) (fun hc => ?_)
  · have hf := ot hc hf
    refine lv_aload_n hx hb dX6_makesStep_26 rfl (lv_at hl 2 rfl) ?_
    refine lv_iconst (v := 3) hx hb dX6_makesStep_27 (by decide) ?_
    obtain ⟨o28, ho28, hf⟩ := ob hf
    refine rV (rest := [.int (pX6_place o1.2)]) (As := [.int 3]) ⟨hx, hb, hml, hown, hts⟩ (mX4_setting l dC dI cI cZ cC cO q1 _ _ _ ho28) (cwV 1 hts gX6_makesStep_X4_setting rfl rfl rfl (by decide +kernel) ⟨Nat.le_of_ble_eq_true rfl, Nat.le_of_ble_eq_true rfl⟩) hK hN hP [1, 2, 3, 4, 5, 6] rfl 3 rfl rfl rfl rfl hl.1 rfl (Nat.le_of_ble_eq_true rfl) dX6_makesStep_28 ⟨Nat.zero_le _, Nat.zero_le _⟩ ?_
    exact hJ1 _ hf _ _ ls hP hD hS (lv_sub hl [1, 2] rfl)
  · have hf := oe hc hf
    refine lv_iload_n hx hb dX6_makesStep_22 rfl (lv_at hl 0 rfl) ?_
    refine lv_goto (tgt := 31) hx hb dX6_makesStep_23 (by decide) ?_
    exact hJ1 _ hf _ _ ls hP hD hS (lv_sub hl [1, 2] rfl)
set_option maxHeartbeats 4000000 in
set_option maxRecDepth 100000 in
theorem mX6_walkFrom (l : Launch) (dC : Nat → ClassId) (dI : Nat → Nat → Nat) (cI cZ cC cO : ClassId) (q0 : Nat → Nat) (q1 : Nat → Nat) (a2 : Int32) (g0 : GX6) (g1 : GX4) (sz : Nat) (out : GX6) (hf : fX6_walkFrom a2 g0 g1 = some out) : Met l yX6_walkFrom wsX6_walkFrom rmX6_walkFrom (va_Pc [.ref (q0 0), .ref (q1 0), .int a2] (pcW (dC, dI) (wTys cI cZ cC cO) sz (wX6 cI cZ cC q0 g0 ++ wX4 cI cZ cC q1 g1))) (va_Qv (fun (_ : Unit) => True) (fun _ => poW (dC, dI) (va_A (wX6 cI cZ cC q0 g0 ++ wX4 cI cZ cC q1 g1) sz) (wX6 cI cZ cC q0 out ++ wX4 cI cZ cC q1 g1)) (va_A (wX6 cI cZ cC q0 g0 ++ wX4 cI cZ cC q1 g1) sz)) 0 0 (va_A (wX6 cI cZ cC q0 g0 ++ wX4 cI cZ cC q1 g1) sz) := by
  refine Met.ofW (cc := cX6_walkFrom) (maxL := 6) (ret := none) (by decide) rfl ?_
  intro p e s m args below meth c s₁ B hml hv
  obtain ⟨hargs, hsz, hP, hK, hN, hD0⟩ := hv
  have hx := B.exec
  have hb := B.bytes
  have hr := B.returns
  have hts := atoms_spec (ws := wsX6_walkFrom) B.pre
  have hown : s.vm.findClass RX6 = some m.cls := findClass_of_methodNamed B.named
  have hlocks := B.notSynchronized
  have hk0 := hts (.fieldLink RX6 9 "RimGrains$Walk" "place" "I") (by decide +kernel)
  have hk1 := hts (.fieldLink RX6 15 "RimGrains$Walk" "steps" "I") (by decide +kernel)
  have hk2 := hts (.fieldLink RX6 18 "RimGrains$Walk" "draws" "I") (by decide +kernel)
  have hk3 := hN.f (args := args) 4 rfl
  have hk4 := hts (.fieldLink RX6 21 "RimGrains$Walk" "lot" "I") (by decide +kernel)
  have hk5 := hts (.fieldLink RX6 24 "RimGrains$Walk" "holder" "I") (by decide +kernel)
  have hin6 : ∀ w ∈ wsX60, w ∈ wsX6_walkFrom := by decide +kernel
  have hin4 : ∀ w ∈ wsX40, w ∈ wsX6_walkFrom := by decide +kernel
  subst hsz
  have hD := hD0.self (sz := s.heap.size)
  generalize hAe : va_A (wX6 cI cZ cC q0 g0 ++ wX4 cI cZ cC q1 g1) s.heap.size = A at hD ⊢
  have hA : ∀ q : Nat, s.heap.size ≤ q → A q := fun q h => by rw [← hAe]; exact Or.inr h
  have hS : va_S A s.heap s.heap [] := va_S.rf
  have hE := lg_entry_eq m [.ref (q0 0), .ref (q1 0), .int a2] 6
  rw [← hargs] at hE
  rw [hE]
  have hl := lv_entry [.ref (q0 0), .ref (q1 0), .int a2] (n := 6) (Nat.le_of_ble_eq_true rfl)
  generalize (lg_sl [.ref (q0 0), .ref (q1 0), .int a2] ++ List.replicate (6 - (lg_sl [.ref (q0 0), .ref (q1 0), .int a2]).length) Slot.unset).toArray = ls at hl ⊢
  have hl : lv_has ls 6 [(0, .ref (q0 0)), (1, .ref (q1 0)), (2, .int a2)] := hl
  have hP : va_P (dC, dI) vwCl (wX6 cI cZ cC q0 g0 ++ wX4 cI cZ cC q1 g1) s.heap := hP
  unfold fX6_walkFrom at hf
  refine lv_aload_n hx hb dX6_walkFrom_0 rfl (lv_at hl 0 rfl) ?_
  refine lv_iload_n hx hb dX6_walkFrom_1 rfl (lv_at hl 2 rfl) ?_
  refine va_put (D := (dC, dI)) (ci := 5) (v := .int a2) (ty := .int) (C := RX6) (T := TX6) (N := 5) hx hb hts hin6 tyX6 tyX6_ok nmX6 hown hK hP hD hS 0 rfl rfl 0 (by decide) hk0 (fun _ h9 => h9) rfl (by decide +kernel) rfl rfl (Nat.le_of_ble_eq_true rfl) dX6_walkFrom_2 (fun H locs hP hD hS => ?_)
  have hP : va_P (dC, dI) vwCl (wX6 cI cZ cC q0 (a2, (pX6_steps g0), (pX6_draws g0), (pX6_lot g0), (pX6_holder g0)) ++ wX4 cI cZ cC q1 g1) H := hP
  have hD : va_D A (wX6 cI cZ cC q0 (a2, (pX6_steps g0), (pX6_draws g0), (pX6_lot g0), (pX6_holder g0)) ++ wX4 cI cZ cC q1 g1) := hD
  refine lv_aload_n hx hb dX6_walkFrom_5 rfl (lv_at hl 0 rfl) ?_
  refine lv_iconst (v := 0) hx hb dX6_walkFrom_6 (by decide) ?_
  refine va_put (D := (dC, dI)) (ci := 5) (v := .int 0) (ty := .int) (C := RX6) (T := TX6) (N := 5) hx hb hts hin6 tyX6 tyX6_ok nmX6 hown hK hP hD hS 0 rfl rfl 1 (by decide) hk1 (fun _ h9 => h9) rfl (by decide +kernel) rfl rfl (Nat.le_of_ble_eq_true rfl) dX6_walkFrom_7 (fun H locs hP hD hS => ?_)
  have hP : va_P (dC, dI) vwCl (wX6 cI cZ cC q0 (a2, 0, (pX6_draws g0), (pX6_lot g0), (pX6_holder g0)) ++ wX4 cI cZ cC q1 g1) H := hP
  have hD : va_D A (wX6 cI cZ cC q0 (a2, 0, (pX6_draws g0), (pX6_lot g0), (pX6_holder g0)) ++ wX4 cI cZ cC q1 g1) := hD
  refine lv_aload_n hx hb dX6_walkFrom_10 rfl (lv_at hl 0 rfl) ?_
  refine lv_iconst (v := 0) hx hb dX6_walkFrom_11 (by decide) ?_
  refine va_put (D := (dC, dI)) (ci := 5) (v := .int 0) (ty := .int) (C := RX6) (T := TX6) (N := 5) hx hb hts hin6 tyX6 tyX6_ok nmX6 hown hK hP hD hS 0 rfl rfl 2 (by decide) hk2 (fun _ h9 => h9) rfl (by decide +kernel) rfl rfl (Nat.le_of_ble_eq_true rfl) dX6_walkFrom_12 (fun H locs hP hD hS => ?_)
  have hP : va_P (dC, dI) vwCl (wX6 cI cZ cC q0 (a2, 0, 0, (pX6_lot g0), (pX6_holder g0)) ++ wX4 cI cZ cC q1 g1) H := hP
  have hD : va_D A (wX6 cI cZ cC q0 (a2, 0, 0, (pX6_lot g0), (pX6_holder g0)) ++ wX4 cI cZ cC q1 g1) := hD
  refine lv_aload_n hx hb dX6_walkFrom_15 rfl (lv_at hl 0 rfl) ?_
  refine lv_aload_n hx hb dX6_walkFrom_16 rfl (lv_at hl 1 rfl) ?_
  refine va_getN (D := (dC, dI)) (ci := 3) (v := .int (pX4_lot g1)) (C := RX4) (T := TX4) (N := 11) hx hb hts hin4 hown hK hP 1 rfl rfl 6 (by decide) hk3 (fun _ h9 => h9) rfl dX6_walkFrom_17 ?_
  refine va_put (D := (dC, dI)) (ci := 5) (v := .int (pX4_lot g1)) (ty := .int) (C := RX6) (T := TX6) (N := 5) hx hb hts hin6 tyX6 tyX6_ok nmX6 hown hK hP hD hS 0 rfl rfl 3 (by decide) hk4 (fun _ h9 => h9) rfl (by decide +kernel) rfl rfl (Nat.le_of_ble_eq_true rfl) dX6_walkFrom_20 (fun H locs hP hD hS => ?_)
  have hP : va_P (dC, dI) vwCl (wX6 cI cZ cC q0 (a2, 0, 0, (pX4_lot g1), (pX6_holder g0)) ++ wX4 cI cZ cC q1 g1) H := hP
  have hD : va_D A (wX6 cI cZ cC q0 (a2, 0, 0, (pX4_lot g1), (pX6_holder g0)) ++ wX4 cI cZ cC q1 g1) := hD
  refine lv_aload_n hx hb dX6_walkFrom_23 rfl (lv_at hl 0 rfl) ?_
  refine lv_bipush (v := (-4)) hx hb dX6_walkFrom_24 (by decide) ?_
  refine va_put (D := (dC, dI)) (ci := 5) (v := .int (-4)) (ty := .int) (C := RX6) (T := TX6) (N := 5) hx hb hts hin6 tyX6 tyX6_ok nmX6 hown hK hP hD hS 0 rfl rfl 4 (by decide) hk5 (fun _ h9 => h9) rfl (by decide +kernel) rfl rfl (Nat.le_of_ble_eq_true rfl) dX6_walkFrom_26 (fun H locs hP hD hS => ?_)
  have hP : va_P (dC, dI) vwCl (wX6 cI cZ cC q0 (a2, 0, 0, (pX4_lot g1), (-4)) ++ wX4 cI cZ cC q1 g1) H := hP
  have hD : va_D A (wX6 cI cZ cC q0 (a2, 0, 0, (pX4_lot g1), (-4)) ++ wX4 cI cZ cC q1 g1) := hD
  refine lv_aload_n hx hb dX6_walkFrom_29 rfl (lv_at hl 1 rfl) ?_
  refine lv_iconst (v := 1) hx hb dX6_walkFrom_30 (by decide) ?_
  obtain ⟨o31, ho31, hf⟩ := ob hf
  refine rV (rest := []) (As := [.int 1]) ⟨hx, hb, hml, hown, hts⟩ (mX4_setting l dC dI cI cZ cC cO q1 _ _ _ ho31) (cwV 1 hts gX6_walkFrom_X4_setting rfl rfl rfl (by decide +kernel) ⟨Nat.le_of_ble_eq_true rfl, Nat.le_of_ble_eq_true rfl⟩) hK hN hP [1, 2, 3, 4, 5, 6] rfl 3 rfl rfl rfl rfl hl.1 rfl (Nat.le_of_ble_eq_true rfl) dX6_walkFrom_31 ⟨Nat.zero_le _, Nat.zero_le _⟩ ?_
  refine lv_istore_n (lv' := [(3, .int o31), (0, .ref (q0 0)), (1, .ref (q1 0)), (2, .int a2)]) hx hb dX6_walkFrom_34 rfl hl (by decide) rfl (fun ls hl => ?_)
  refine lv_iconst (v := 1) hx hb dX6_walkFrom_35 (by decide) ?_
  refine lv_istore (lv' := [(4, .int 1), (3, .int o31), (0, .ref (q0 0)), (1, .ref (q1 0)), (2, .int a2)]) hx hb dX6_walkFrom_36 hl (by decide) rfl (fun ls hl => ?_)
  refine lv_iconst (v := 0) hx hb dX6_walkFrom_38 (by decide) ?_
  refine lv_istore (lv' := [(5, .int 0), (4, .int 1), (3, .int o31), (0, .ref (q0 0)), (1, .ref (q1 0)), (2, .int a2)]) hx hb dX6_walkFrom_39 hl (by decide) rfl (fun ls hl => ?_)
  have hL41 : ∀ (n : Nat) (s41 : Int32 × Int32 × GX6) (o41 : GX6), lp (tX6_walkFrom_41 g1 o31) n s41 = some o41 → ∀ (H : Heap) (locs : List Loc) (ls : Array Slot), va_P (dC, dI) vwCl (wX6 cI cZ cC q0 s41.2.2 ++ wX4 cI cZ cC q1 g1) H → va_D A (wX6 cI cZ cC q0 s41.2.2 ++ wX4 cI cZ cC q1 g1) → va_S A s.heap H locs → lv_has ls 6 [(0, .ref (q0 0)), (1, .ref (q1 0)), (3, .int o31), (4, .int s41.1), (5, .int s41.2.1)] → (∀ (H : Heap) (locs : List Loc) (ls : Array Slot), va_P (dC, dI) vwCl (wX6 cI cZ cC q0 o41 ++ wX4 cI cZ cC q1 g1) H → va_D A (wX6 cI cZ cC q0 o41 ++ wX4 cI cZ cC q1 g1) → va_S A s.heap H locs → lv_has ls 6 [] → W p l e (headSpec wsX6_walkFrom rmX6_walkFrom).room s m args below meth c H locs 0 0 (MQ below (va_Qv (fun (_ : Unit) => True) (fun _ => poW (dC, dI) A (wX6 cI cZ cC q0 out ++ wX4 cI cZ cC q1 g1)) A) args s 0 0 A) (F0 m 89 ls [])) → W p l e (headSpec wsX6_walkFrom rmX6_walkFrom).room s m args below meth c H locs 0 0 (MQ below (va_Qv (fun (_ : Unit) => True) (fun _ => poW (dC, dI) A (wX6 cI cZ cC q0 out ++ wX4 cI cZ cC q1 g1)) A) args s 0 0 A) (F0 m 41 ls []) := by
    intro n
    induction n with
    | zero => intro s41 o41 hf; exact (lp0 hf).elim
    | succ n ih41 =>
      intro s41 o41 hf H locs ls hP hD hS hl kx
      obtain ⟨r41, hf, hn⟩ := lps hf
      unfold tX6_walkFrom_41 at hf
      refine lv_iload hx hb dX6_walkFrom_41 (lv_at hl 4 rfl) ?_
      refine lv_iload_n hx hb dX6_walkFrom_43 rfl (lv_at hl 2 rfl) ?_
      refine lv_icmp_gt (tgt := 89) hx hb dX6_walkFrom_44 (by decide) (fun hc => ?_) (fun hc => ?_)
      · have hf := ot hc hf
        obtain rfl := Option.some.inj hf
        obtain rfl := Option.some.inj hn
        exact kx _ _ ls hP hD hS (lv_sub hl [] rfl)
      · have hf := oe hc hf
        refine lv_iload hx hb dX6_walkFrom_47 (lv_at hl 3 rfl) ?_
        refine lv_if_eq (tgt := 89) hx hb dX6_walkFrom_49 (by decide) (fun hc => ?_) (fun hc => ?_)
        · have hf := ot hc hf
          obtain rfl := Option.some.inj hf
          obtain rfl := Option.some.inj hn
          exact kx _ _ ls hP hD hS (lv_sub hl [] rfl)
        · have hf := oe hc hf
          refine lv_aload_n hx hb dX6_walkFrom_52 rfl (lv_at hl 0 rfl) ?_
          refine lv_aload_n hx hb dX6_walkFrom_53 rfl (lv_at hl 1 rfl) ?_
          obtain ⟨o54, ho54, hf⟩ := ob hf
          refine wVi (W1 := (fun _ : Unit => (wX6 cI cZ cC q0 o54.2 ++ wX4 cI cZ cC q1 g1))) (rest := []) (As := [.ref (q1 0)]) ⟨hx, hb, hml, hown, hts⟩ (mX6_catchesHold l dC dI cI cZ cC cO q0 q1 _ _ _ _ ho54) (cwV 1 hts gX6_walkFrom_X6_catchesHold rfl rfl rfl (by decide +kernel) ⟨Nat.le_of_ble_eq_true rfl, Nat.le_of_ble_eq_true rfl⟩) hK hN hP hD hS hA [0, 1, 2, 3, 4, 5, 6] [] [0, 1, 2, 3, 4, 5, 6] rfl rfl (by decide) (by decide) (fun _ => rfl) 5 rfl rfl rfl rfl hl.1 rfl (Nat.le_of_ble_eq_true rfl) dX6_walkFrom_54 ⟨Nat.zero_le _, Nat.zero_le _⟩ (fun _ H locs hP hD hS => ?_)
          have hP : va_P (dC, dI) vwCl (wX6 cI cZ cC q0 o54.2 ++ wX4 cI cZ cC q1 g1) H := hP
          have hD : va_D A (wX6 cI cZ cC q0 o54.2 ++ wX4 cI cZ cC q1 g1) := hD
          have hJ1 : ∀ (y0_1 : Int32) (g0_1 : GX6), jX6_walkFrom_1 s41 y0_1 g0_1 = some r41 → ∀ (H : Heap) (locs : List Loc) (ls : Array Slot), va_P (dC, dI) vwCl (wX6 cI cZ cC q0 g0_1 ++ wX4 cI cZ cC q1 g1) H → va_D A (wX6 cI cZ cC q0 g0_1 ++ wX4 cI cZ cC q1 g1) → va_S A s.heap H locs → lv_has ls 6 [(0, .ref (q0 0)), (1, .ref (q1 0)), (3, .int o31), (5, .int s41.2.1)] → W p l e (headSpec wsX6_walkFrom rmX6_walkFrom).room s m args below meth c H locs 0 0 (MQ below (va_Qv (fun (_ : Unit) => True) (fun _ => poW (dC, dI) A (wX6 cI cZ cC q0 out ++ wX4 cI cZ cC q1 g1)) A) args s 0 0 A) (F0 m 81 ls [.int y0_1]) := by
            intro y0_1 g0_1 hf H locs ls hP hD hS hl
            unfold jX6_walkFrom_1 at hf
            refine lv_istore (lv' := [(4, .int y0_1), (0, .ref (q0 0)), (1, .ref (q1 0)), (3, .int o31), (5, .int s41.2.1)]) hx hb dX6_walkFrom_81 hl (by decide) rfl (fun ls hl => ?_)
            refine lv_iinc (v := (s41.2.1 + 1)) (lv' := [(5, .int (s41.2.1 + 1)), (4, .int y0_1), (0, .ref (q0 0)), (1, .ref (q1 0)), (3, .int o31)]) hx hb dX6_walkFrom_83 hl (k := 4) rfl rfl (by decide) rfl (fun ls hl => ?_)
            refine lv_goto (tgt := 41) hx hb dX6_walkFrom_86 (by decide) ?_
            obtain rfl := Option.some.inj hf
            exact ih41 _ _ hn _ _ ls hP hD hS (lv_sub hl [2, 3, 4, 1, 0] rfl) kx
          have hJ2 : ∀ (g0_2 : GX6), jX6_walkFrom_2 s41 g0_2 = some r41 → ∀ (H : Heap) (locs : List Loc) (ls : Array Slot), va_P (dC, dI) vwCl (wX6 cI cZ cC q0 g0_2 ++ wX4 cI cZ cC q1 g1) H → va_D A (wX6 cI cZ cC q0 g0_2 ++ wX4 cI cZ cC q1 g1) → va_S A s.heap H locs → lv_has ls 6 [(0, .ref (q0 0)), (1, .ref (q1 0)), (3, .int o31), (5, .int s41.2.1)] → W p l e (headSpec wsX6_walkFrom rmX6_walkFrom).room s m args below meth c H locs 0 0 (MQ below (va_Qv (fun (_ : Unit) => True) (fun _ => poW (dC, dI) A (wX6 cI cZ cC q0 out ++ wX4 cI cZ cC q1 g1)) A) args s 0 0 A) (F0 m 80 ls []) := by
            intro g0_2 hf H locs ls hP hD hS hl
            unfold jX6_walkFrom_2 at hf
            refine lv_iconst (v := 0) hx hb dX6_walkFrom_80 (by decide) ?_
            exact hJ1 _ _ hf _ _ ls hP hD hS (lv_sub hl [0, 1, 2, 3] rfl)
          refine lv_if_ne (tgt := 80) hx hb dX6_walkFrom_57 (by decide) (fun hc => ?_) (fun hc => ?_)
          · have hf := oe hc hf
            exact hJ2 _ hf _ _ ls hP hD hS (lv_sub hl [0, 1, 2, 4] rfl)
          · have hf := ot hc hf
            refine lv_aload_n hx hb dX6_walkFrom_60 rfl (lv_at hl 0 rfl) ?_
            refine va_get (D := (dC, dI)) (ci := 5) (v := .int (pX6_steps o54.2)) (C := RX6) (T := TX6) (N := 5) hx hb hts hin6 hown hK hP 0 rfl rfl 1 (by decide) hk1 (fun _ h9 => h9) rfl dX6_walkFrom_61 ?_
            refine lv_iload_n hx hb dX6_walkFrom_64 rfl (lv_at hl 2 rfl) ?_
            refine lv_icmp_ge (tgt := 80) hx hb dX6_walkFrom_65 (by decide) (fun hc => ?_) (fun hc => ?_)
            · have hf := ot hc hf
              exact hJ2 _ hf _ _ ls hP hD hS (lv_sub hl [0, 1, 2, 4] rfl)
            · have hf := oe hc hf
              refine lv_aload_n hx hb dX6_walkFrom_68 rfl (lv_at hl 0 rfl) ?_
              refine lv_aload_n hx hb dX6_walkFrom_69 rfl (lv_at hl 1 rfl) ?_
              obtain ⟨o70, ho70, hf⟩ := ob hf
              refine wVi (W1 := (fun _ : Unit => (wX6 cI cZ cC q0 o70.2 ++ wX4 cI cZ cC q1 g1))) (rest := []) (As := [.ref (q1 0)]) ⟨hx, hb, hml, hown, hts⟩ (mX6_makesStep l dC dI cI cZ cC cO q0 q1 _ _ _ _ ho70) (cwV 1 hts gX6_walkFrom_X6_makesStep rfl rfl rfl (by decide +kernel) ⟨Nat.le_of_ble_eq_true rfl, Nat.le_of_ble_eq_true rfl⟩) hK hN hP hD hS hA [0, 1, 2, 3, 4, 5, 6] [] [0, 1, 2, 3, 4, 5, 6] rfl rfl (by decide) (by decide) (fun _ => rfl) 5 rfl rfl rfl rfl hl.1 rfl (Nat.le_of_ble_eq_true rfl) dX6_walkFrom_70 ⟨Nat.zero_le _, Nat.zero_le _⟩ (fun _ H locs hP hD hS => ?_)
              have hP : va_P (dC, dI) vwCl (wX6 cI cZ cC q0 o70.2 ++ wX4 cI cZ cC q1 g1) H := hP
              have hD : va_D A (wX6 cI cZ cC q0 o70.2 ++ wX4 cI cZ cC q1 g1) := hD
              refine lv_if_eq (tgt := 80) hx hb dX6_walkFrom_73 (by decide) (fun hc => ?_) (fun hc => ?_)
              · have hf := ot hc hf
                exact hJ2 _ hf _ _ ls hP hD hS (lv_sub hl [0, 1, 2, 4] rfl)
              · have hf := oe hc hf
                refine lv_iconst (v := 1) hx hb dX6_walkFrom_76 (by decide) ?_
                refine lv_goto (tgt := 81) hx hb dX6_walkFrom_77 (by decide) ?_
                exact hJ1 _ _ hf _ _ ls hP hD hS (lv_sub hl [0, 1, 2, 4] rfl)
  obtain ⟨o41, ho41, hf⟩ := ob hf
  refine hL41 FU _ _ ho41 _ _ ls hP hD hS (lv_sub hl [3, 4, 2, 1, 0] rfl) (fun H locs ls hP hD hS hl => ?_)
  obtain rfl := Option.some.inj hf
  exact W.vret hx hb hr (fun t ht hW => ⟨⟨(), rfl, trivial, by rw [ht]; exact hP, hD⟩, hS.F ht⟩) hS.2.2 dX6_walkFrom_89
set_option maxHeartbeats 4000000 in
set_option maxRecDepth 100000 in
theorem mX6_answer (l : Launch) (dC : Nat → ClassId) (dI : Nat → Nat → Nat) (cI cZ cC cO : ClassId) (q0 : Nat → Nat) (g0 : GX6) (out : Int32) (hf : fX6_answer g0 = some out) : Met l yX6_answer wsX6_answer rmX6_answer (va_Pc [.ref (q0 0)] (pcR (dC, dI) (wTys cI cZ cC cO) (wX6 cI cZ cC q0 g0))) (vp_Si (fun r => r = out)) 0 0 (fun _ => False) := by
  refine Met.ofW (cc := cX6_answer) (maxL := 1) (ret := (some .int)) (by decide) rfl ?_
  intro p e s m args below meth c s₁ B hml hv
  obtain ⟨hargs, hP, hK, hN⟩ := hv
  have hx := B.exec
  have hb := B.bytes
  have hr := B.returns
  have hts := atoms_spec (ws := wsX6_answer) B.pre
  have hown : s.vm.findClass RX6 = some m.cls := findClass_of_methodNamed B.named
  have hlocks := B.notSynchronized
  have hk0 := hts (.fieldLink RX6 15 "RimGrains$Walk" "steps" "I") (by decide +kernel)
  have hk1 := hts (.fieldLink RX6 9 "RimGrains$Walk" "place" "I") (by decide +kernel)
  have hin6 : ∀ w ∈ wsX60, w ∈ wsX6_answer := by decide +kernel
  have hE := lg_entry_eq m [.ref (q0 0)] 1
  rw [← hargs] at hE
  rw [hE]
  have hl := lv_entry [.ref (q0 0)] (n := 1) (Nat.le_of_ble_eq_true rfl)
  generalize (lg_sl [.ref (q0 0)] ++ List.replicate (1 - (lg_sl [.ref (q0 0)]).length) Slot.unset).toArray = ls at hl ⊢
  have hl : lv_has ls 1 [(0, .ref (q0 0))] := hl
  unfold fX6_answer at hf
  refine lv_aload_n hx hb dX6_answer_0 rfl (lv_at hl 0 rfl) ?_
  obtain ⟨o1, ho1, hf⟩ := ob hf
  refine rV (rest := []) (As := []) ⟨hx, hb, hml, hown, hts⟩ (mX6_sticks l dC dI cI cZ cC cO q0 _ _ ho1) (cwV 0 hts gX6_answer_X6_sticks rfl rfl rfl (by decide +kernel) ⟨Nat.le_of_ble_eq_true rfl, Nat.le_of_ble_eq_true rfl⟩) hK hN hP [0] rfl 5 rfl rfl rfl rfl hl.1 rfl (Nat.le_of_ble_eq_true rfl) dX6_answer_1 ⟨Nat.zero_le _, Nat.zero_le _⟩ ?_
  refine lv_if_eq (tgt := 18) hx hb dX6_answer_4 (by decide) (fun hc => ?_) (fun hc => ?_)
  · have hf := ot hc hf
    refine lv_aload_n hx hb dX6_answer_18 rfl (lv_at hl 0 rfl) ?_
    refine va_get (D := (dC, dI)) (ci := 5) (v := .int (pX6_steps g0)) (C := RX6) (T := TX6) (N := 5) hx hb hts hin6 hown hK hP 0 rfl rfl 1 (by decide) hk0 (fun _ h9 => h9) rfl dX6_answer_19 ?_
    obtain rfl := Option.some.inj hf
    exact W.iret (v := (pX6_steps g0)) hx hb hr (fun t ht hW => ⟨_, rfl, rfl, ht⟩) (fun _ h => by cases h) dX6_answer_22
  · have hf := oe hc hf
    refine lv_sipush (v := 1000) hx hb dX6_answer_7 (by decide) ?_
    refine lv_aload_n hx hb dX6_answer_10 rfl (lv_at hl 0 rfl) ?_
    refine va_get (D := (dC, dI)) (ci := 5) (v := .int (pX6_place g0)) (C := RX6) (T := TX6) (N := 5) hx hb hts hin6 hown hK hP 0 rfl rfl 0 (by decide) hk1 (fun _ h9 => h9) rfl dX6_answer_11 ?_
    refine lv_iadd hx hb dX6_answer_14 ?_
    refine lv_goto (tgt := 22) hx hb dX6_answer_15 (by decide) ?_
    obtain rfl := Option.some.inj hf
    exact W.iret (v := (1000 + (pX6_place g0))) hx hb hr (fun t ht hW => ⟨_, rfl, rfl, ht⟩) (fun _ h => by cases h) dX6_answer_22
