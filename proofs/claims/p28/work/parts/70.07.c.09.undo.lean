set_option maxHeartbeats 4000000 in
set_option maxRecDepth 100000 in
theorem mX7_undo (l : Launch) (dC : Nat → ClassId) (dI : Nat → Nat → Nat) (cI cZ cC cO : ClassId) (q0 : Nat → Nat) (qn : Nat → Nat) (qs : Nat → Nat) (qt : Nat → Nat) (qh : Nat → Nat) (qw : Nat → Nat) (qf : Nat → Nat) (qr : Nat → Nat) (qc : Nat → Nat) (qp : Nat → Nat) (uh : QH) (g0 : GX7) (gn : GX4) (gh : GH) (sz : Nat) (out : Int32 × GX7 × GX4) (hf : fX7_undo g0 gn gh = some out) : Met l yX7_undo wsX7_undo rmX7_undo (va_Pc [.ref (q0 0)] (pcW (dC, dI) (wTys cI cZ cC cO) sz (wX7 cI cZ cC q0 qn qs qt qh qw qf qr qc qp g0 ++ wX4 cI cZ cC qn gn ++ wH cI cZ cC cO qh uh gh))) (va_Qi (fun r (_ : Unit) => r = out.1) (fun _ => poW (dC, dI) (va_A (wX7 cI cZ cC q0 qn qs qt qh qw qf qr qc qp g0 ++ wX4 cI cZ cC qn gn ++ wH cI cZ cC cO qh uh gh) sz) (wX7 cI cZ cC q0 qn qs qt qh qw qf qr qc qp out.2.1 ++ wX4 cI cZ cC qn out.2.2 ++ wH cI cZ cC cO qh uh gh)) (va_A (wX7 cI cZ cC q0 qn qs qt qh qw qf qr qc qp g0 ++ wX4 cI cZ cC qn gn ++ wH cI cZ cC cO qh uh gh) sz)) 0 0 (va_A (wX7 cI cZ cC q0 qn qs qt qh qw qf qr qc qp g0 ++ wX4 cI cZ cC qn gn ++ wH cI cZ cC cO qh uh gh) sz) := by
  refine Met.ofW (cc := cX7_undo) (maxL := 1) (ret := (some .int)) (by decide) rfl ?_
  intro p e s m args below meth c s₁ B hml hv
  obtain ⟨hargs, hsz, hP, hK, hN, hD0⟩ := hv
  have hx := B.exec
  have hb := B.bytes
  have hr := B.returns
  have hts := atoms_spec (ws := wsX7_undo) B.pre
  have hown : s.vm.findClass RX7 = some m.cls := findClass_of_methodNamed B.named
  have hlocks := B.notSynchronized
  have hk0 := hts (.fieldLink RX7 61 "RimGrains" "states" "I") (by decide +kernel)
  have hk1 := hts (.fieldLink RX7 12 "RimGrains" "now" "LRimGrains$State;") (by decide +kernel)
  have hk2 := hts (.fieldLink RX7 22 "RimGrains" "history" "[LRimGrains$State;") (by decide +kernel)
  have hin7 : ∀ w ∈ wsX70, w ∈ wsX7_undo := by decide +kernel
  subst hsz
  have hD := hD0.self (sz := s.heap.size)
  generalize hAe : va_A (wX7 cI cZ cC q0 qn qs qt qh qw qf qr qc qp g0 ++ wX4 cI cZ cC qn gn ++ wH cI cZ cC cO qh uh gh) s.heap.size = A at hD ⊢
  have hA : ∀ q : Nat, s.heap.size ≤ q → A q := fun q h => by rw [← hAe]; exact Or.inr h
  have hS : va_S A s.heap s.heap [] := va_S.rf
  have hE := lg_entry_eq m [.ref (q0 0)] 1
  rw [← hargs] at hE
  rw [hE]
  have hl := lv_entry [.ref (q0 0)] (n := 1) (Nat.le_of_ble_eq_true rfl)
  generalize (lg_sl [.ref (q0 0)] ++ List.replicate (1 - (lg_sl [.ref (q0 0)]).length) Slot.unset).toArray = ls at hl ⊢
  have hl : lv_has ls 1 [(0, .ref (q0 0))] := hl
  have hP : va_P (dC, dI) vwCl (wX7 cI cZ cC q0 qn qs qt qh qw qf qr qc qp g0 ++ wX4 cI cZ cC qn gn ++ wH cI cZ cC cO qh uh gh) s.heap := hP
  unfold fX7_undo at hf
  refine lv_aload_n hx hb dX7_undo_0 rfl (lv_at hl 0 rfl) ?_
  refine va_get (D := (dC, dI)) (ci := 6) (v := .int (pX7_states g0)) (C := RX7) (T := TX7) (N := 14) hx hb hts hin7 hown hK hP 0 rfl rfl 9 (by decide) hk0 (fun _ h9 => h9) rfl dX7_undo_1 ?_
  refine lv_iconst (v := 1) hx hb dX7_undo_4 (by decide) ?_
  refine lv_icmp_ge (tgt := 11) hx hb dX7_undo_5 (by decide) (fun hc => ?_) (fun hc => ?_)
  · have hf := ot hc hf
    refine lv_aload_n hx hb dX7_undo_11 rfl (lv_at hl 0 rfl) ?_
    refine lv_dup hx hb dX7_undo_12 rfl ?_
    refine va_get (D := (dC, dI)) (ci := 6) (v := .int (pX7_states g0)) (C := RX7) (T := TX7) (N := 14) hx hb hts hin7 hown hK hP 0 rfl rfl 9 (by decide) hk0 (fun _ h9 => h9) rfl dX7_undo_13 ?_
    refine lv_iconst (v := 1) hx hb dX7_undo_16 (by decide) ?_
    refine lv_isub hx hb dX7_undo_17 ?_
    refine va_put (D := (dC, dI)) (ci := 6) (v := .int ((pX7_states g0) - 1)) (ty := .int) (C := RX7) (T := TX7) (N := 14) hx hb hts hin7 tyX7 tyX7_ok nmX7 hown hK hP hD hS 0 rfl rfl 9 (by decide) hk0 (fun _ h9 => h9) rfl (by decide +kernel) rfl rfl (Nat.le_of_ble_eq_true rfl) dX7_undo_18 (fun H locs hP hD hS => ?_)
    have hP : va_P (dC, dI) vwCl (wX7 cI cZ cC q0 qn qs qt qh qw qf qr qc qp (((pX7_states g0) - 1), (pX7_saved g0), (pX7_stopError g0), (pX7_stopDeed g0), (pX7_stopPlace g0)) ++ wX4 cI cZ cC qn gn ++ wH cI cZ cC cO qh uh gh) H := hP
    have hD : va_D A (wX7 cI cZ cC q0 qn qs qt qh qw qf qr qc qp (((pX7_states g0) - 1), (pX7_saved g0), (pX7_stopError g0), (pX7_stopDeed g0), (pX7_stopPlace g0)) ++ wX4 cI cZ cC qn gn ++ wH cI cZ cC cO qh uh gh) := hD
    refine lv_aload_n hx hb dX7_undo_21 rfl (lv_at hl 0 rfl) ?_
    refine va_get (D := (dC, dI)) (ci := 6) (v := .ref (qn 0)) (C := RX7) (T := TX7) (N := 14) hx hb hts hin7 hown hK hP 0 rfl rfl 0 (by decide) hk1 (fun _ h9 => h9) rfl dX7_undo_22 ?_
    refine lv_aload_n hx hb dX7_undo_25 rfl (lv_at hl 0 rfl) ?_
    refine va_get (D := (dC, dI)) (ci := 6) (v := .ref (qh 0)) (C := RX7) (T := TX7) (N := 14) hx hb hts hin7 hown hK hP 0 rfl rfl 3 (by decide) hk2 (fun _ h9 => h9) rfl dX7_undo_26 ?_
    refine lv_aload_n hx hb dX7_undo_29 rfl (lv_at hl 0 rfl) ?_
    refine va_get (D := (dC, dI)) (ci := 6) (v := .int ((pX7_states g0) - 1)) (C := RX7) (T := TX7) (N := 14) hx hb hts hin7 hown hK hP 0 rfl rfl 9 (by decide) hk0 (fun _ h9 => h9) rfl dX7_undo_30 ?_
    by_cases hh33_0 : ((pX7_states g0) - 1) = 0
    · have hf := ot hh33_0 hf
      refine va_aldq hx hb hK hP 7 3 rfl rfl (by rw [hh33_0]; unfold vp_in; decide) dX7_undo_33 ?_
      rw [show va_rf ((fun j => [some (uh.1 0), some (uh.2.1 0), some (uh.2.2.1 0), some (uh.2.2.2 0)].getD j none) (((pX7_states g0) - 1) : Int32).toNatClampNeg) = .ref (uh.1 0) from by rw [hh33_0]; rfl]
      obtain ⟨o34, ho34, hf⟩ := ob hf
      refine wVv (W1 := (fun _ : Unit => (wX7 cI cZ cC q0 qn qs qt qh qw qf qr qc qp (((pX7_states g0) - 1), (pX7_saved g0), (pX7_stopError g0), (pX7_stopDeed g0), (pX7_stopPlace g0)) ++ wX4 cI cZ cC qn o34 ++ wH cI cZ cC cO qh uh gh))) (rest := []) (As := [.ref (uh.1 0)]) ⟨hx, hb, hml, hown, hts⟩ (mX4_takeOver l dC dI cI cZ cC cO qn uh.1 _ _ _ _ ho34) (cwV 1 hts gX7_undo_X4_takeOver rfl rfl rfl (by decide +kernel) ⟨Nat.le_of_ble_eq_true rfl, Nat.le_of_ble_eq_true rfl⟩) hK hN hP hD hS hA [1, 2, 3, 4, 5, 6, 8, 9, 10, 11, 12, 13] [0, 7, 14, 15, 16, 17, 18, 19, 20, 21, 22, 23, 24, 25, 26, 27, 28, 29, 30, 31] [0, 20, 21, 22, 23, 24, 25, 1, 26, 27, 28, 29, 30, 31, 2, 3, 4, 5, 6, 7, 8, 9, 10, 11, 12, 13, 14, 15, 16, 17, 18, 19] rfl rfl (by decide +kernel) (by decide +kernel) (fun _ => rfl) 3 rfl rfl rfl rfl hl.1 rfl (Nat.le_of_ble_eq_true rfl) dX7_undo_34 ⟨Nat.zero_le _, Nat.zero_le _⟩ (fun _ H locs hP hD hS => ?_)
      have hP : va_P (dC, dI) vwCl (wX7 cI cZ cC q0 qn qs qt qh qw qf qr qc qp (((pX7_states g0) - 1), (pX7_saved g0), (pX7_stopError g0), (pX7_stopDeed g0), (pX7_stopPlace g0)) ++ wX4 cI cZ cC qn o34 ++ wH cI cZ cC cO qh uh gh) H := hP
      have hD : va_D A (wX7 cI cZ cC q0 qn qs qt qh qw qf qr qc qp (((pX7_states g0) - 1), (pX7_saved g0), (pX7_stopError g0), (pX7_stopDeed g0), (pX7_stopPlace g0)) ++ wX4 cI cZ cC qn o34 ++ wH cI cZ cC cO qh uh gh) := hD
      refine lv_aload_n hx hb dX7_undo_37 rfl (lv_at hl 0 rfl) ?_
      refine va_get (D := (dC, dI)) (ci := 6) (v := .int ((pX7_states g0) - 1)) (C := RX7) (T := TX7) (N := 14) hx hb hts hin7 hown hK hP 0 rfl rfl 9 (by decide) hk0 (fun _ h9 => h9) rfl dX7_undo_38 ?_
      obtain rfl := Option.some.inj hf
      exact W.iret (v := ((pX7_states g0) - 1)) hx hb hr (fun t ht hW => ⟨⟨_, (), rfl, rfl, by rw [ht]; exact hP, hD⟩, hS.F ht⟩) hS.2.2 dX7_undo_41
    have hf := oe hh33_0 hf
    by_cases hh33_1 : ((pX7_states g0) - 1) = 1
    · have hf := ot hh33_1 hf
      refine va_aldq hx hb hK hP 7 3 rfl rfl (by rw [hh33_1]; unfold vp_in; decide) dX7_undo_33 ?_
      rw [show va_rf ((fun j => [some (uh.1 0), some (uh.2.1 0), some (uh.2.2.1 0), some (uh.2.2.2 0)].getD j none) (((pX7_states g0) - 1) : Int32).toNatClampNeg) = .ref (uh.2.1 0) from by rw [hh33_1]; rfl]
      obtain ⟨o34, ho34, hf⟩ := ob hf
      refine wVv (W1 := (fun _ : Unit => (wX7 cI cZ cC q0 qn qs qt qh qw qf qr qc qp (((pX7_states g0) - 1), (pX7_saved g0), (pX7_stopError g0), (pX7_stopDeed g0), (pX7_stopPlace g0)) ++ wX4 cI cZ cC qn o34 ++ wH cI cZ cC cO qh uh gh))) (rest := []) (As := [.ref (uh.2.1 0)]) ⟨hx, hb, hml, hown, hts⟩ (mX4_takeOver l dC dI cI cZ cC cO qn uh.2.1 _ _ _ _ ho34) (cwV 1 hts gX7_undo_X4_takeOver rfl rfl rfl (by decide +kernel) ⟨Nat.le_of_ble_eq_true rfl, Nat.le_of_ble_eq_true rfl⟩) hK hN hP hD hS hA [1, 2, 3, 4, 5, 6, 14, 15, 16, 17, 18, 19] [0, 7, 8, 9, 10, 11, 12, 13, 20, 21, 22, 23, 24, 25, 26, 27, 28, 29, 30, 31] [0, 20, 21, 22, 23, 24, 25, 1, 2, 3, 4, 5, 6, 7, 26, 27, 28, 29, 30, 31, 8, 9, 10, 11, 12, 13, 14, 15, 16, 17, 18, 19] rfl rfl (by decide +kernel) (by decide +kernel) (fun _ => rfl) 3 rfl rfl rfl rfl hl.1 rfl (Nat.le_of_ble_eq_true rfl) dX7_undo_34 ⟨Nat.zero_le _, Nat.zero_le _⟩ (fun _ H locs hP hD hS => ?_)
      have hP : va_P (dC, dI) vwCl (wX7 cI cZ cC q0 qn qs qt qh qw qf qr qc qp (((pX7_states g0) - 1), (pX7_saved g0), (pX7_stopError g0), (pX7_stopDeed g0), (pX7_stopPlace g0)) ++ wX4 cI cZ cC qn o34 ++ wH cI cZ cC cO qh uh gh) H := hP
      have hD : va_D A (wX7 cI cZ cC q0 qn qs qt qh qw qf qr qc qp (((pX7_states g0) - 1), (pX7_saved g0), (pX7_stopError g0), (pX7_stopDeed g0), (pX7_stopPlace g0)) ++ wX4 cI cZ cC qn o34 ++ wH cI cZ cC cO qh uh gh) := hD
      refine lv_aload_n hx hb dX7_undo_37 rfl (lv_at hl 0 rfl) ?_
      refine va_get (D := (dC, dI)) (ci := 6) (v := .int ((pX7_states g0) - 1)) (C := RX7) (T := TX7) (N := 14) hx hb hts hin7 hown hK hP 0 rfl rfl 9 (by decide) hk0 (fun _ h9 => h9) rfl dX7_undo_38 ?_
      obtain rfl := Option.some.inj hf
      exact W.iret (v := ((pX7_states g0) - 1)) hx hb hr (fun t ht hW => ⟨⟨_, (), rfl, rfl, by rw [ht]; exact hP, hD⟩, hS.F ht⟩) hS.2.2 dX7_undo_41
    have hf := oe hh33_1 hf
    by_cases hh33_2 : ((pX7_states g0) - 1) = 2
    · have hf := ot hh33_2 hf
      refine va_aldq hx hb hK hP 7 3 rfl rfl (by rw [hh33_2]; unfold vp_in; decide) dX7_undo_33 ?_
      rw [show va_rf ((fun j => [some (uh.1 0), some (uh.2.1 0), some (uh.2.2.1 0), some (uh.2.2.2 0)].getD j none) (((pX7_states g0) - 1) : Int32).toNatClampNeg) = .ref (uh.2.2.1 0) from by rw [hh33_2]; rfl]
      obtain ⟨o34, ho34, hf⟩ := ob hf
      refine wVv (W1 := (fun _ : Unit => (wX7 cI cZ cC q0 qn qs qt qh qw qf qr qc qp (((pX7_states g0) - 1), (pX7_saved g0), (pX7_stopError g0), (pX7_stopDeed g0), (pX7_stopPlace g0)) ++ wX4 cI cZ cC qn o34 ++ wH cI cZ cC cO qh uh gh))) (rest := []) (As := [.ref (uh.2.2.1 0)]) ⟨hx, hb, hml, hown, hts⟩ (mX4_takeOver l dC dI cI cZ cC cO qn uh.2.2.1 _ _ _ _ ho34) (cwV 1 hts gX7_undo_X4_takeOver rfl rfl rfl (by decide +kernel) ⟨Nat.le_of_ble_eq_true rfl, Nat.le_of_ble_eq_true rfl⟩) hK hN hP hD hS hA [1, 2, 3, 4, 5, 6, 20, 21, 22, 23, 24, 25] [0, 7, 8, 9, 10, 11, 12, 13, 14, 15, 16, 17, 18, 19, 26, 27, 28, 29, 30, 31] [0, 20, 21, 22, 23, 24, 25, 1, 2, 3, 4, 5, 6, 7, 8, 9, 10, 11, 12, 13, 26, 27, 28, 29, 30, 31, 14, 15, 16, 17, 18, 19] rfl rfl (by decide +kernel) (by decide +kernel) (fun _ => rfl) 3 rfl rfl rfl rfl hl.1 rfl (Nat.le_of_ble_eq_true rfl) dX7_undo_34 ⟨Nat.zero_le _, Nat.zero_le _⟩ (fun _ H locs hP hD hS => ?_)
      have hP : va_P (dC, dI) vwCl (wX7 cI cZ cC q0 qn qs qt qh qw qf qr qc qp (((pX7_states g0) - 1), (pX7_saved g0), (pX7_stopError g0), (pX7_stopDeed g0), (pX7_stopPlace g0)) ++ wX4 cI cZ cC qn o34 ++ wH cI cZ cC cO qh uh gh) H := hP
      have hD : va_D A (wX7 cI cZ cC q0 qn qs qt qh qw qf qr qc qp (((pX7_states g0) - 1), (pX7_saved g0), (pX7_stopError g0), (pX7_stopDeed g0), (pX7_stopPlace g0)) ++ wX4 cI cZ cC qn o34 ++ wH cI cZ cC cO qh uh gh) := hD
      refine lv_aload_n hx hb dX7_undo_37 rfl (lv_at hl 0 rfl) ?_
      refine va_get (D := (dC, dI)) (ci := 6) (v := .int ((pX7_states g0) - 1)) (C := RX7) (T := TX7) (N := 14) hx hb hts hin7 hown hK hP 0 rfl rfl 9 (by decide) hk0 (fun _ h9 => h9) rfl dX7_undo_38 ?_
      obtain rfl := Option.some.inj hf
      exact W.iret (v := ((pX7_states g0) - 1)) hx hb hr (fun t ht hW => ⟨⟨_, (), rfl, rfl, by rw [ht]; exact hP, hD⟩, hS.F ht⟩) hS.2.2 dX7_undo_41
    have hf := oe hh33_2 hf
    by_cases hh33_3 : ((pX7_states g0) - 1) = 3
    · have hf := ot hh33_3 hf
      refine va_aldq hx hb hK hP 7 3 rfl rfl (by rw [hh33_3]; unfold vp_in; decide) dX7_undo_33 ?_
      rw [show va_rf ((fun j => [some (uh.1 0), some (uh.2.1 0), some (uh.2.2.1 0), some (uh.2.2.2 0)].getD j none) (((pX7_states g0) - 1) : Int32).toNatClampNeg) = .ref (uh.2.2.2 0) from by rw [hh33_3]; rfl]
      obtain ⟨o34, ho34, hf⟩ := ob hf
      refine wVv (W1 := (fun _ : Unit => (wX7 cI cZ cC q0 qn qs qt qh qw qf qr qc qp (((pX7_states g0) - 1), (pX7_saved g0), (pX7_stopError g0), (pX7_stopDeed g0), (pX7_stopPlace g0)) ++ wX4 cI cZ cC qn o34 ++ wH cI cZ cC cO qh uh gh))) (rest := []) (As := [.ref (uh.2.2.2 0)]) ⟨hx, hb, hml, hown, hts⟩ (mX4_takeOver l dC dI cI cZ cC cO qn uh.2.2.2 _ _ _ _ ho34) (cwV 1 hts gX7_undo_X4_takeOver rfl rfl rfl (by decide +kernel) ⟨Nat.le_of_ble_eq_true rfl, Nat.le_of_ble_eq_true rfl⟩) hK hN hP hD hS hA [1, 2, 3, 4, 5, 6, 26, 27, 28, 29, 30, 31] [0, 7, 8, 9, 10, 11, 12, 13, 14, 15, 16, 17, 18, 19, 20, 21, 22, 23, 24, 25] [0, 20, 21, 22, 23, 24, 25, 1, 2, 3, 4, 5, 6, 7, 8, 9, 10, 11, 12, 13, 14, 15, 16, 17, 18, 19, 26, 27, 28, 29, 30, 31] rfl rfl (by decide +kernel) (by decide +kernel) (fun _ => rfl) 3 rfl rfl rfl rfl hl.1 rfl (Nat.le_of_ble_eq_true rfl) dX7_undo_34 ⟨Nat.zero_le _, Nat.zero_le _⟩ (fun _ H locs hP hD hS => ?_)
      have hP : va_P (dC, dI) vwCl (wX7 cI cZ cC q0 qn qs qt qh qw qf qr qc qp (((pX7_states g0) - 1), (pX7_saved g0), (pX7_stopError g0), (pX7_stopDeed g0), (pX7_stopPlace g0)) ++ wX4 cI cZ cC qn o34 ++ wH cI cZ cC cO qh uh gh) H := hP
      have hD : va_D A (wX7 cI cZ cC q0 qn qs qt qh qw qf qr qc qp (((pX7_states g0) - 1), (pX7_saved g0), (pX7_stopError g0), (pX7_stopDeed g0), (pX7_stopPlace g0)) ++ wX4 cI cZ cC qn o34 ++ wH cI cZ cC cO qh uh gh) := hD
      refine lv_aload_n hx hb dX7_undo_37 rfl (lv_at hl 0 rfl) ?_
      refine va_get (D := (dC, dI)) (ci := 6) (v := .int ((pX7_states g0) - 1)) (C := RX7) (T := TX7) (N := 14) hx hb hts hin7 hown hK hP 0 rfl rfl 9 (by decide) hk0 (fun _ h9 => h9) rfl dX7_undo_38 ?_
      obtain rfl := Option.some.inj hf
      exact W.iret (v := ((pX7_states g0) - 1)) hx hb hr (fun t ht hW => ⟨⟨_, (), rfl, rfl, by rw [ht]; exact hP, hD⟩, hS.F ht⟩) hS.2.2 dX7_undo_41
    have hf := oe hh33_3 hf
    cases hf
  · have hf := oe hc hf
    refine lv_bipush (v := (-2)) hx hb dX7_undo_8 (by decide) ?_
    obtain rfl := Option.some.inj hf
    exact W.iret (v := (-2)) hx hb hr (fun t ht hW => ⟨⟨_, (), rfl, rfl, by rw [ht]; exact hP, hD⟩, hS.F ht⟩) hS.2.2 dX7_undo_10
