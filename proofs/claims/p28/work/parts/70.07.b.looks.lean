set_option maxHeartbeats 4000000 in
set_option maxRecDepth 100000 in
theorem mX7_letWalk (l : Launch) (dC : Nat → ClassId) (dI : Nat → Nat → Nat) (cI cZ cC cO : ClassId) (q0 : Nat → Nat) (qn : Nat → Nat) (qs : Nat → Nat) (qt : Nat → Nat) (qh : Nat → Nat) (qw : Nat → Nat) (qf : Nat → Nat) (qr : Nat → Nat) (qc : Nat → Nat) (qp : Nat → Nat) (a1 : Int32) (g0 : GX7) (gn : GX4) (gw : GX6) (sz : Nat) (out : Int32 × GX4 × GX6) (hf : fX7_letWalk a1 g0 gn gw = some out) : Met l yX7_letWalk wsX7_letWalk rmX7_letWalk (va_Pc [.ref (q0 0), .int a1] (pcW (dC, dI) (wTys cI cZ cC cO) sz (wX7 cI cZ cC q0 qn qs qt qh qw qf qr qc qp g0 ++ wX4 cI cZ cC qn gn ++ wX6 cI cZ cC qw gw))) (va_Qi (fun r (_ : Unit) => r = out.1) (fun _ => poW (dC, dI) (va_A (wX7 cI cZ cC q0 qn qs qt qh qw qf qr qc qp g0 ++ wX4 cI cZ cC qn gn ++ wX6 cI cZ cC qw gw) sz) (wX7 cI cZ cC q0 qn qs qt qh qw qf qr qc qp g0 ++ wX4 cI cZ cC qn out.2.1 ++ wX6 cI cZ cC qw out.2.2)) (va_A (wX7 cI cZ cC q0 qn qs qt qh qw qf qr qc qp g0 ++ wX4 cI cZ cC qn gn ++ wX6 cI cZ cC qw gw) sz)) 0 0 (va_A (wX7 cI cZ cC q0 qn qs qt qh qw qf qr qc qp g0 ++ wX4 cI cZ cC qn gn ++ wX6 cI cZ cC qw gw) sz) := by
  refine Met.ofW (cc := cX7_letWalk) (maxL := 2) (ret := (some .int)) (by decide) rfl ?_
  intro p e s m args below meth c s₁ B hml hv
  obtain ⟨hargs, hsz, hP, hK, hN, hD0⟩ := hv
  have hx := B.exec
  have hb := B.bytes
  have hr := B.returns
  have hts := atoms_spec (ws := wsX7_letWalk) B.pre
  have hown : s.vm.findClass RX7 = some m.cls := findClass_of_methodNamed B.named
  have hlocks := B.notSynchronized
  have hk0 := hts (.fieldLink RX7 29 "RimGrains" "walk" "LRimGrains$Walk;") (by decide +kernel)
  have hk1 := hts (.fieldLink RX7 12 "RimGrains" "now" "LRimGrains$State;") (by decide +kernel)
  have hin7 : ∀ w ∈ wsX70, w ∈ wsX7_letWalk := by decide +kernel
  subst hsz
  have hD := hD0.self (sz := s.heap.size)
  generalize hAe : va_A (wX7 cI cZ cC q0 qn qs qt qh qw qf qr qc qp g0 ++ wX4 cI cZ cC qn gn ++ wX6 cI cZ cC qw gw) s.heap.size = A at hD ⊢
  have hA : ∀ q : Nat, s.heap.size ≤ q → A q := fun q h => by rw [← hAe]; exact Or.inr h
  have hS : va_S A s.heap s.heap [] := va_S.rf
  have hE := lg_entry_eq m [.ref (q0 0), .int a1] 2
  rw [← hargs] at hE
  rw [hE]
  have hl := lv_entry [.ref (q0 0), .int a1] (n := 2) (Nat.le_of_ble_eq_true rfl)
  generalize (lg_sl [.ref (q0 0), .int a1] ++ List.replicate (2 - (lg_sl [.ref (q0 0), .int a1]).length) Slot.unset).toArray = ls at hl ⊢
  have hl : lv_has ls 2 [(0, .ref (q0 0)), (1, .int a1)] := hl
  have hP : va_P (dC, dI) vwCl (wX7 cI cZ cC q0 qn qs qt qh qw qf qr qc qp g0 ++ wX4 cI cZ cC qn gn ++ wX6 cI cZ cC qw gw) s.heap := hP
  unfold fX7_letWalk at hf
  refine lv_aload_n hx hb dX7_letWalk_0 rfl (lv_at hl 0 rfl) ?_
  refine va_get (D := (dC, dI)) (ci := 6) (v := .ref (qw 0)) (C := RX7) (T := TX7) (N := 14) hx hb hts hin7 hown hK hP 0 rfl rfl 4 (by decide) hk0 (fun _ h9 => h9) rfl dX7_letWalk_1 ?_
  refine lv_aload_n hx hb dX7_letWalk_4 rfl (lv_at hl 0 rfl) ?_
  refine va_get (D := (dC, dI)) (ci := 6) (v := .ref (qn 0)) (C := RX7) (T := TX7) (N := 14) hx hb hts hin7 hown hK hP 0 rfl rfl 0 (by decide) hk1 (fun _ h9 => h9) rfl dX7_letWalk_5 ?_
  refine lv_iload_n hx hb dX7_letWalk_8 rfl (lv_at hl 1 rfl) ?_
  obtain ⟨o9, ho9, hf⟩ := ob hf
  refine rS (rest := [.ref (qn 0), .ref (qw 0)]) (As := [.int a1]) ⟨hx, hb, hml, hown, hts⟩ (mX2_cellOfRim l dC dI cI cZ cC cO  _ _ ho9) (va_cwS 1 hts gX7_letWalk_X2_cellOfRim rfl rfl rfl (by decide +kernel) ⟨Nat.le_of_ble_eq_true rfl, Nat.le_of_ble_eq_true rfl⟩) hK hN hP [] rfl rfl hl.1 rfl (Nat.le_of_ble_eq_true rfl) dX7_letWalk_9 ⟨Nat.zero_le _, Nat.zero_le _⟩ ?_
  obtain ⟨o12, ho12, hf⟩ := ob hf
  refine wVv (W1 := (fun _ : Unit => (wX7 cI cZ cC q0 qn qs qt qh qw qf qr qc qp g0 ++ wX4 cI cZ cC qn gn ++ wX6 cI cZ cC qw o12))) (rest := []) (As := [.ref (qn 0), .int o9]) ⟨hx, hb, hml, hown, hts⟩ (mX6_walkFrom l dC dI cI cZ cC cO qw qn _ _ _ _ _ ho12) (cwV 2 hts gX7_letWalk_X6_walkFrom rfl rfl rfl (by decide +kernel) ⟨Nat.le_of_ble_eq_true rfl, Nat.le_of_ble_eq_true rfl⟩) hK hN hP hD hS hA [7, 1, 2, 3, 4, 5, 6] [0] [0, 2, 3, 4, 5, 6, 7, 1] rfl rfl (by decide) (by decide) (fun _ => rfl) 5 rfl rfl rfl rfl hl.1 rfl (Nat.le_of_ble_eq_true rfl) dX7_letWalk_12 ⟨Nat.zero_le _, Nat.zero_le _⟩ (fun _ H locs hP hD hS => ?_)
  have hP : va_P (dC, dI) vwCl (wX7 cI cZ cC q0 qn qs qt qh qw qf qr qc qp g0 ++ wX4 cI cZ cC qn gn ++ wX6 cI cZ cC qw o12) H := hP
  have hD : va_D A (wX7 cI cZ cC q0 qn qs qt qh qw qf qr qc qp g0 ++ wX4 cI cZ cC qn gn ++ wX6 cI cZ cC qw o12) := hD
  refine lv_aload_n hx hb dX7_letWalk_15 rfl (lv_at hl 0 rfl) ?_
  refine va_get (D := (dC, dI)) (ci := 6) (v := .ref (qn 0)) (C := RX7) (T := TX7) (N := 14) hx hb hts hin7 hown hK hP 0 rfl rfl 0 (by decide) hk1 (fun _ h9 => h9) rfl dX7_letWalk_16 ?_
  refine lv_aload_n hx hb dX7_letWalk_19 rfl (lv_at hl 0 rfl) ?_
  refine va_get (D := (dC, dI)) (ci := 6) (v := .ref (qw 0)) (C := RX7) (T := TX7) (N := 14) hx hb hts hin7 hown hK hP 0 rfl rfl 4 (by decide) hk0 (fun _ h9 => h9) rfl dX7_letWalk_20 ?_
  obtain ⟨o23, ho23, hf⟩ := ob hf
  refine wVv (W1 := (fun _ : Unit => (wX7 cI cZ cC q0 qn qs qt qh qw qf qr qc qp g0 ++ wX4 cI cZ cC qn o23 ++ wX6 cI cZ cC qw o12))) (rest := []) (As := [.ref (qw 0)]) ⟨hx, hb, hml, hown, hts⟩ (mX4_settle l dC dI cI cZ cC cO qn qw _ _ _ _ ho23) (cwV 1 hts gX7_letWalk_X4_settle rfl rfl rfl (by decide +kernel) ⟨Nat.le_of_ble_eq_true rfl, Nat.le_of_ble_eq_true rfl⟩) hK hN hP hD hS hA [1, 2, 3, 4, 5, 6, 7] [0] [0, 1, 2, 3, 4, 5, 6, 7] rfl rfl (by decide) (by decide) (fun _ => rfl) 3 rfl rfl rfl rfl hl.1 rfl (Nat.le_of_ble_eq_true rfl) dX7_letWalk_23 ⟨Nat.zero_le _, Nat.zero_le _⟩ (fun _ H locs hP hD hS => ?_)
  have hP : va_P (dC, dI) vwCl (wX7 cI cZ cC q0 qn qs qt qh qw qf qr qc qp g0 ++ wX4 cI cZ cC qn o23 ++ wX6 cI cZ cC qw o12) H := hP
  have hD : va_D A (wX7 cI cZ cC q0 qn qs qt qh qw qf qr qc qp g0 ++ wX4 cI cZ cC qn o23 ++ wX6 cI cZ cC qw o12) := hD
  refine lv_aload_n hx hb dX7_letWalk_26 rfl (lv_at hl 0 rfl) ?_
  refine va_get (D := (dC, dI)) (ci := 6) (v := .ref (qw 0)) (C := RX7) (T := TX7) (N := 14) hx hb hts hin7 hown hK hP 0 rfl rfl 4 (by decide) hk0 (fun _ h9 => h9) rfl dX7_letWalk_27 ?_
  obtain ⟨o30, ho30, hf⟩ := ob hf
  refine rV (rest := []) (As := []) ⟨hx, hb, hml, hown, hts⟩ (mX6_answer l dC dI cI cZ cC cO qw _ _ ho30) (cwV 0 hts gX7_letWalk_X6_answer rfl rfl rfl (by decide +kernel) ⟨Nat.le_of_ble_eq_true rfl, Nat.le_of_ble_eq_true rfl⟩) hK hN hP [7] rfl 5 rfl rfl rfl rfl hl.1 rfl (Nat.le_of_ble_eq_true rfl) dX7_letWalk_30 ⟨Nat.zero_le _, Nat.zero_le _⟩ ?_
  obtain rfl := Option.some.inj hf
  exact W.iret (v := o30) hx hb hr (fun t ht hW => ⟨⟨_, (), rfl, rfl, by rw [ht]; exact hP, hD⟩, hS.F ht⟩) hS.2.2 dX7_letWalk_33
set_option maxHeartbeats 4000000 in
set_option maxRecDepth 100000 in
theorem mX7_dropSticks (l : Launch) (dC : Nat → ClassId) (dI : Nat → Nat → Nat) (cI cZ cC cO : ClassId) (q0 : Nat → Nat) (qn : Nat → Nat) (qs : Nat → Nat) (qt : Nat → Nat) (qh : Nat → Nat) (qw : Nat → Nat) (qf : Nat → Nat) (qr : Nat → Nat) (qc : Nat → Nat) (qp : Nat → Nat) (g0 : GX7) (gn : GX4) (gw : GX6) (sz : Nat) (out : Int32 × GX4 × GX6) (hf : fX7_dropSticks g0 gn gw = some out) : Met l yX7_dropSticks wsX7_dropSticks rmX7_dropSticks (va_Pc [.ref (q0 0)] (pcW (dC, dI) (wTys cI cZ cC cO) sz (wX7 cI cZ cC q0 qn qs qt qh qw qf qr qc qp g0 ++ wX4 cI cZ cC qn gn ++ wX6 cI cZ cC qw gw))) (va_Qi (fun r (_ : Unit) => r = out.1) (fun _ => poW (dC, dI) (va_A (wX7 cI cZ cC q0 qn qs qt qh qw qf qr qc qp g0 ++ wX4 cI cZ cC qn gn ++ wX6 cI cZ cC qw gw) sz) (wX7 cI cZ cC q0 qn qs qt qh qw qf qr qc qp g0 ++ wX4 cI cZ cC qn out.2.1 ++ wX6 cI cZ cC qw out.2.2)) (va_A (wX7 cI cZ cC q0 qn qs qt qh qw qf qr qc qp g0 ++ wX4 cI cZ cC qn gn ++ wX6 cI cZ cC qw gw) sz)) 0 0 (va_A (wX7 cI cZ cC q0 qn qs qt qh qw qf qr qc qp g0 ++ wX4 cI cZ cC qn gn ++ wX6 cI cZ cC qw gw) sz) := by
  refine Met.ofW (cc := cX7_dropSticks) (maxL := 2) (ret := (some .boolean)) (by decide) rfl ?_
  intro p e s m args below meth c s₁ B hml hv
  obtain ⟨hargs, hsz, hP, hK, hN, hD0⟩ := hv
  have hx := B.exec
  have hb := B.bytes
  have hr := B.returns
  have hts := atoms_spec (ws := wsX7_dropSticks) B.pre
  have hown : s.vm.findClass RX7 = some m.cls := findClass_of_methodNamed B.named
  have hlocks := B.notSynchronized
  have hk0 := hts (.fieldLink RX7 12 "RimGrains" "now" "LRimGrains$State;") (by decide +kernel)
  have hk1 := hN.f (args := args) 5 rfl
  have hk2 := hts (.fieldLink RX7 29 "RimGrains" "walk" "LRimGrains$Walk;") (by decide +kernel)
  have hin7 : ∀ w ∈ wsX70, w ∈ wsX7_dropSticks := by decide +kernel
  have hin4 : ∀ w ∈ wsX40, w ∈ wsX7_dropSticks := by decide +kernel
  subst hsz
  have hD := hD0.self (sz := s.heap.size)
  generalize hAe : va_A (wX7 cI cZ cC q0 qn qs qt qh qw qf qr qc qp g0 ++ wX4 cI cZ cC qn gn ++ wX6 cI cZ cC qw gw) s.heap.size = A at hD ⊢
  have hA : ∀ q : Nat, s.heap.size ≤ q → A q := fun q h => by rw [← hAe]; exact Or.inr h
  have hS : va_S A s.heap s.heap [] := va_S.rf
  have hE := lg_entry_eq m [.ref (q0 0)] 2
  rw [← hargs] at hE
  rw [hE]
  have hl := lv_entry [.ref (q0 0)] (n := 2) (Nat.le_of_ble_eq_true rfl)
  generalize (lg_sl [.ref (q0 0)] ++ List.replicate (2 - (lg_sl [.ref (q0 0)]).length) Slot.unset).toArray = ls at hl ⊢
  have hl : lv_has ls 2 [(0, .ref (q0 0))] := hl
  have hP : va_P (dC, dI) vwCl (wX7 cI cZ cC q0 qn qs qt qh qw qf qr qc qp g0 ++ wX4 cI cZ cC qn gn ++ wX6 cI cZ cC qw gw) s.heap := hP
  unfold fX7_dropSticks at hf
  refine lv_aload_n hx hb dX7_dropSticks_0 rfl (lv_at hl 0 rfl) ?_
  refine va_get (D := (dC, dI)) (ci := 6) (v := .ref (qn 0)) (C := RX7) (T := TX7) (N := 14) hx hb hts hin7 hown hK hP 0 rfl rfl 0 (by decide) hk0 (fun _ h9 => h9) rfl dX7_dropSticks_1 ?_
  refine lv_aload_n hx hb dX7_dropSticks_4 rfl (lv_at hl 0 rfl) ?_
  refine va_get (D := (dC, dI)) (ci := 6) (v := .ref (qn 0)) (C := RX7) (T := TX7) (N := 14) hx hb hts hin7 hown hK hP 0 rfl rfl 0 (by decide) hk0 (fun _ h9 => h9) rfl dX7_dropSticks_5 ?_
  refine va_getN (D := (dC, dI)) (ci := 3) (v := .int (pX4_lot gn)) (C := RX4) (T := TX4) (N := 11) hx hb hts hin4 hown hK hP 1 rfl rfl 6 (by decide) hk1 (fun _ h9 => h9) rfl dX7_dropSticks_8 ?_
  obtain ⟨o11, ho11, hf⟩ := ob hf
  refine rS (rest := [.ref (qn 0)]) (As := [.int (pX4_lot gn)]) ⟨hx, hb, hml, hown, hts⟩ (mX7_nextLot l dC dI cI cZ cC cO  _ _ ho11) (va_cwS 1 hts gX7_dropSticks_X7_nextLot rfl rfl rfl (by decide +kernel) ⟨Nat.le_of_ble_eq_true rfl, Nat.le_of_ble_eq_true rfl⟩) hK hN hP [] rfl rfl hl.1 rfl (Nat.le_of_ble_eq_true rfl) dX7_dropSticks_11 ⟨Nat.zero_le _, Nat.zero_le _⟩ ?_
  refine va_putN (D := (dC, dI)) (ci := 3) (v := .int o11) (ty := .int) (C := RX4) (T := TX4) (N := 11) hx hb hts hin4 tyX4 tyX4_ok nmX4 hown hK hP hD hS 1 rfl rfl 6 (by decide) hk1 (fun _ h9 => h9) rfl (by decide +kernel) rfl rfl (Nat.le_of_ble_eq_true rfl) dX7_dropSticks_14 (fun H locs hP hD hS => ?_)
  have hP : va_P (dC, dI) vwCl (wX7 cI cZ cC q0 qn qs qt qh qw qf qr qc qp g0 ++ wX4 cI cZ cC qn ((pX4_cells gn), (pX4_holders gn), (pX4_steps gn), (pX4_grainsByCell gn), (pX4_settings gn), (pX4_grains gn), o11, (pX4_released gn), (pX4_lost gn), (pX4_gone gn), (pX4_walked gn)) ++ wX6 cI cZ cC qw gw) H := hP
  have hD : va_D A (wX7 cI cZ cC q0 qn qs qt qh qw qf qr qc qp g0 ++ wX4 cI cZ cC qn ((pX4_cells gn), (pX4_holders gn), (pX4_steps gn), (pX4_grainsByCell gn), (pX4_settings gn), (pX4_grains gn), o11, (pX4_released gn), (pX4_lost gn), (pX4_gone gn), (pX4_walked gn)) ++ wX6 cI cZ cC qw gw) := hD
  refine lv_aload_n hx hb dX7_dropSticks_17 rfl (lv_at hl 0 rfl) ?_
  refine va_get (D := (dC, dI)) (ci := 6) (v := .ref (qn 0)) (C := RX7) (T := TX7) (N := 14) hx hb hts hin7 hown hK hP 0 rfl rfl 0 (by decide) hk0 (fun _ h9 => h9) rfl dX7_dropSticks_18 ?_
  refine va_getN (D := (dC, dI)) (ci := 3) (v := .int o11) (C := RX4) (T := TX4) (N := 11) hx hb hts hin4 hown hK hP 1 rfl rfl 6 (by decide) hk1 (fun _ h9 => h9) rfl dX7_dropSticks_21 ?_
  refine lv_bipush (v := 40) hx hb dX7_dropSticks_24 (by decide) ?_
  refine jirem hx hb dX7_dropSticks_26 (by decide) ?_
  refine lv_istore_n (lv' := [(1, .int (jrem o11 40)), (0, .ref (q0 0))]) hx hb dX7_dropSticks_27 rfl hl (by decide) rfl (fun ls hl => ?_)
  refine lv_aload_n hx hb dX7_dropSticks_28 rfl (lv_at hl 1 rfl) ?_
  refine va_get (D := (dC, dI)) (ci := 6) (v := .ref (qn 0)) (C := RX7) (T := TX7) (N := 14) hx hb hts hin7 hown hK hP 0 rfl rfl 0 (by decide) hk0 (fun _ h9 => h9) rfl dX7_dropSticks_29 ?_
  refine lv_iload_n hx hb dX7_dropSticks_32 rfl (lv_at hl 0 rfl) ?_
  obtain ⟨o33, ho33, hf⟩ := ob hf
  refine rV (rest := []) (As := [.int (jrem o11 40)]) ⟨hx, hb, hml, hown, hts⟩ (mX4_refusalToGo l dC dI cI cZ cC cO qn _ _ _ ho33) (cwV 1 hts gX7_dropSticks_X4_refusalToGo rfl rfl rfl (by decide +kernel) ⟨Nat.le_of_ble_eq_true rfl, Nat.le_of_ble_eq_true rfl⟩) hK hN hP [1, 2, 3, 4, 5, 6] rfl 3 rfl rfl rfl rfl hl.1 rfl (Nat.le_of_ble_eq_true rfl) dX7_dropSticks_33 ⟨Nat.zero_le _, Nat.zero_le _⟩ ?_
  refine lv_if_eq (tgt := 48) hx hb dX7_dropSticks_36 (by decide) (fun hc => ?_) (fun hc => ?_)
  · have hf := ot hc hf
    refine lv_aload_n hx hb dX7_dropSticks_48 rfl (lv_at hl 1 rfl) ?_
    refine lv_iload_n hx hb dX7_dropSticks_49 rfl (lv_at hl 0 rfl) ?_
    obtain ⟨o50, ho50, hf⟩ := ob hf
    refine wVi (W1 := (fun _ : Unit => (wX7 cI cZ cC q0 qn qs qt qh qw qf qr qc qp g0 ++ wX4 cI cZ cC qn o50.2.1 ++ wX6 cI cZ cC qw o50.2.2))) (rest := []) (As := [.int (jrem o11 40)]) ⟨hx, hb, hml, hown, hts⟩ (mX7_letWalk l dC dI cI cZ cC cO q0 qn qs qt qh qw qf qr qc qp _ _ _ _ _ _ ho50) (cwV 1 hts gX7_dropSticks_X7_letWalk rfl rfl rfl (by decide +kernel) ⟨Nat.le_of_ble_eq_true rfl, Nat.le_of_ble_eq_true rfl⟩) hK hN hP hD hS hA [0, 1, 2, 3, 4, 5, 6, 7] [] [0, 1, 2, 3, 4, 5, 6, 7] rfl rfl (by decide) (by decide) (fun _ => rfl) 6 rfl rfl rfl rfl hl.1 rfl (Nat.le_of_ble_eq_true rfl) dX7_dropSticks_50 ⟨Nat.zero_le _, Nat.zero_le _⟩ (fun _ H locs hP hD hS => ?_)
    have hP : va_P (dC, dI) vwCl (wX7 cI cZ cC q0 qn qs qt qh qw qf qr qc qp g0 ++ wX4 cI cZ cC qn o50.2.1 ++ wX6 cI cZ cC qw o50.2.2) H := hP
    have hD : va_D A (wX7 cI cZ cC q0 qn qs qt qh qw qf qr qc qp g0 ++ wX4 cI cZ cC qn o50.2.1 ++ wX6 cI cZ cC qw o50.2.2) := hD
    refine lv_pop hx hb dX7_dropSticks_53 rfl ?_
    refine lv_aload_n hx hb dX7_dropSticks_54 rfl (lv_at hl 1 rfl) ?_
    refine va_get (D := (dC, dI)) (ci := 6) (v := .ref (qw 0)) (C := RX7) (T := TX7) (N := 14) hx hb hts hin7 hown hK hP 0 rfl rfl 4 (by decide) hk2 (fun _ h9 => h9) rfl dX7_dropSticks_55 ?_
    obtain ⟨o58, ho58, hf⟩ := ob hf
    refine rV (rest := []) (As := []) ⟨hx, hb, hml, hown, hts⟩ (mX6_sticks l dC dI cI cZ cC cO qw _ _ ho58) (cwV 0 hts gX7_dropSticks_X6_sticks rfl rfl rfl (by decide +kernel) ⟨Nat.le_of_ble_eq_true rfl, Nat.le_of_ble_eq_true rfl⟩) hK hN hP [7] rfl 5 rfl rfl rfl rfl hl.1 rfl (Nat.le_of_ble_eq_true rfl) dX7_dropSticks_58 ⟨Nat.zero_le _, Nat.zero_le _⟩ ?_
    obtain ⟨hz, hf⟩ := ogz hf
    obtain rfl := Option.some.inj hf
    exact W.zret (v := o58) (ty := .boolean) hx hb hr (jz_n hz) (fun t ht hW => ⟨⟨_, (), rfl, rfl, by rw [ht]; exact hP, hD⟩, hS.F ht⟩) hS.2.2 dX7_dropSticks_61
  · have hf := oe hc hf
    refine lv_aload_n hx hb dX7_dropSticks_39 rfl (lv_at hl 1 rfl) ?_
    refine va_get (D := (dC, dI)) (ci := 6) (v := .ref (qn 0)) (C := RX7) (T := TX7) (N := 14) hx hb hts hin7 hown hK hP 0 rfl rfl 0 (by decide) hk0 (fun _ h9 => h9) rfl dX7_dropSticks_40 ?_
    obtain ⟨o43, ho43, hf⟩ := ob hf
    refine wVv (W1 := (fun _ : Unit => (wX7 cI cZ cC q0 qn qs qt qh qw qf qr qc qp g0 ++ wX4 cI cZ cC qn o43 ++ wX6 cI cZ cC qw gw))) (rest := []) (As := []) ⟨hx, hb, hml, hown, hts⟩ (mX4_loseAtOnce l dC dI cI cZ cC cO qn _ _ _ ho43) (cwV 0 hts gX7_dropSticks_X4_loseAtOnce rfl rfl rfl (by decide +kernel) ⟨Nat.le_of_ble_eq_true rfl, Nat.le_of_ble_eq_true rfl⟩) hK hN hP hD hS hA [1, 2, 3, 4, 5, 6] [0, 7] [0, 2, 3, 4, 5, 6, 7, 1] rfl rfl (by decide) (by decide) (fun _ => rfl) 3 rfl rfl rfl rfl hl.1 rfl (Nat.le_of_ble_eq_true rfl) dX7_dropSticks_43 ⟨Nat.zero_le _, Nat.zero_le _⟩ (fun _ H locs hP hD hS => ?_)
    have hP : va_P (dC, dI) vwCl (wX7 cI cZ cC q0 qn qs qt qh qw qf qr qc qp g0 ++ wX4 cI cZ cC qn o43 ++ wX6 cI cZ cC qw gw) H := hP
    have hD : va_D A (wX7 cI cZ cC q0 qn qs qt qh qw qf qr qc qp g0 ++ wX4 cI cZ cC qn o43 ++ wX6 cI cZ cC qw gw) := hD
    refine lv_iconst (v := 0) hx hb dX7_dropSticks_46 (by decide) ?_
    obtain rfl := Option.some.inj hf
    exact W.zret (v := 0) (ty := .boolean) hx hb hr rfl (fun t ht hW => ⟨⟨_, (), rfl, rfl, by rw [ht]; exact hP, hD⟩, hS.F ht⟩) hS.2.2 dX7_dropSticks_47
set_option maxHeartbeats 4000000 in
set_option maxRecDepth 100000 in
theorem mX7_append (l : Launch) (dC : Nat → ClassId) (dI : Nat → Nat → Nat) (cI cZ cC cO : ClassId) (q0 : Nat → Nat) (qn : Nat → Nat) (qs : Nat → Nat) (qt : Nat → Nat) (qh : Nat → Nat) (qw : Nat → Nat) (qf : Nat → Nat) (qr : Nat → Nat) (qc : Nat → Nat) (qp : Nat → Nat) (a1 : Int32) (g0 : GX7) (gp : GX1) (sz : Nat) (out : Int32 × GX1) (hf : fX7_append a1 g0 gp = some out) : Met l yX7_append wsX7_append rmX7_append (va_Pc [.ref (q0 0), .int a1] (pcW (dC, dI) (wTys cI cZ cC cO) sz (wX7 cI cZ cC q0 qn qs qt qh qw qf qr qc qp g0 ++ wX1 cI cZ cC qp gp))) (va_Qi (fun r (_ : Unit) => r = out.1) (fun _ => poW (dC, dI) (va_A (wX7 cI cZ cC q0 qn qs qt qh qw qf qr qc qp g0 ++ wX1 cI cZ cC qp gp) sz) (wX7 cI cZ cC q0 qn qs qt qh qw qf qr qc qp g0 ++ wX1 cI cZ cC qp out.2)) (va_A (wX7 cI cZ cC q0 qn qs qt qh qw qf qr qc qp g0 ++ wX1 cI cZ cC qp gp) sz)) 0 0 (va_A (wX7 cI cZ cC q0 qn qs qt qh qw qf qr qc qp g0 ++ wX1 cI cZ cC qp gp) sz) := by
  refine Met.ofW (cc := cX7_append) (maxL := 2) (ret := (some .int)) (by decide) rfl ?_
  intro p e s m args below meth c s₁ B hml hv
  obtain ⟨hargs, hsz, hP, hK, hN, hD0⟩ := hv
  have hx := B.exec
  have hb := B.bytes
  have hr := B.returns
  have hts := atoms_spec (ws := wsX7_append) B.pre
  have hown : s.vm.findClass RX7 = some m.cls := findClass_of_methodNamed B.named
  have hlocks := B.notSynchronized
  have hk0 := hts (.fieldLink RX7 57 "RimGrains" "pad" "LRimGrains$Pad;") (by decide +kernel)
  have hk1 := hN.f (args := args) 23 rfl
  have hin7 : ∀ w ∈ wsX70, w ∈ wsX7_append := by decide +kernel
  have hin1 : ∀ w ∈ wsX10, w ∈ wsX7_append := by decide +kernel
  subst hsz
  have hD := hD0.self (sz := s.heap.size)
  generalize hAe : va_A (wX7 cI cZ cC q0 qn qs qt qh qw qf qr qc qp g0 ++ wX1 cI cZ cC qp gp) s.heap.size = A at hD ⊢
  have hA : ∀ q : Nat, s.heap.size ≤ q → A q := fun q h => by rw [← hAe]; exact Or.inr h
  have hS : va_S A s.heap s.heap [] := va_S.rf
  have hE := lg_entry_eq m [.ref (q0 0), .int a1] 2
  rw [← hargs] at hE
  rw [hE]
  have hl := lv_entry [.ref (q0 0), .int a1] (n := 2) (Nat.le_of_ble_eq_true rfl)
  generalize (lg_sl [.ref (q0 0), .int a1] ++ List.replicate (2 - (lg_sl [.ref (q0 0), .int a1]).length) Slot.unset).toArray = ls at hl ⊢
  have hl : lv_has ls 2 [(0, .ref (q0 0)), (1, .int a1)] := hl
  have hP : va_P (dC, dI) vwCl (wX7 cI cZ cC q0 qn qs qt qh qw qf qr qc qp g0 ++ wX1 cI cZ cC qp gp) s.heap := hP
  unfold fX7_append at hf
  refine lv_iload_n hx hb dX7_append_0 rfl (lv_at hl 1 rfl) ?_
  refine lv_bipush (v := 33) hx hb dX7_append_1 (by decide) ?_
  refine lv_icmp_lt (tgt := 12) hx hb dX7_append_3 (by decide) (fun hc => ?_) (fun hc => ?_)
  · have hf := ot hc hf
    refine lv_iconst (v := (-1)) hx hb dX7_append_12 (by decide) ?_
    obtain rfl := Option.some.inj hf
    exact W.iret (v := (-1)) hx hb hr (fun t ht hW => ⟨⟨_, (), rfl, rfl, by rw [ht]; exact hP, hD⟩, hS.F ht⟩) hS.2.2 dX7_append_13
  · have hf := oe hc hf
    refine lv_iload_n hx hb dX7_append_6 rfl (lv_at hl 1 rfl) ?_
    refine lv_bipush (v := 126) hx hb dX7_append_7 (by decide) ?_
    refine lv_icmp_le (tgt := 14) hx hb dX7_append_9 (by decide) (fun hc => ?_) (fun hc => ?_)
    · have hf := ot hc hf
      refine lv_aload_n hx hb dX7_append_14 rfl (lv_at hl 0 rfl) ?_
      refine va_get (D := (dC, dI)) (ci := 6) (v := .ref (qp 0)) (C := RX7) (T := TX7) (N := 14) hx hb hts hin7 hown hK hP 0 rfl rfl 8 (by decide) hk0 (fun _ h9 => h9) rfl dX7_append_15 ?_
      refine va_getN (D := (dC, dI)) (ci := 1) (v := .int (pX1_length gp)) (C := RX1) (T := TX1) (N := 6) hx hb hts hin1 hown hK hP 1 rfl rfl 1 (by decide) hk1 (fun _ h9 => h9) rfl dX7_append_18 ?_
      refine lv_bipush (v := 60) hx hb dX7_append_21 (by decide) ?_
      refine lv_icmp_lt (tgt := 29) hx hb dX7_append_23 (by decide) (fun hc => ?_) (fun hc => ?_)
      · have hf := ot hc hf
        refine lv_aload_n hx hb dX7_append_29 rfl (lv_at hl 0 rfl) ?_
        refine va_get (D := (dC, dI)) (ci := 6) (v := .ref (qp 0)) (C := RX7) (T := TX7) (N := 14) hx hb hts hin7 hown hK hP 0 rfl rfl 8 (by decide) hk0 (fun _ h9 => h9) rfl dX7_append_30 ?_
        refine lv_iload_n hx hb dX7_append_33 rfl (lv_at hl 1 rfl) ?_
        refine lv_i2c (v := jchr a1) hx hb dX7_append_34 rfl ?_
        obtain ⟨o35, ho35, hf⟩ := ob hf
        refine wVv (W1 := (fun _ : Unit => (wX7 cI cZ cC q0 qn qs qt qh qw qf qr qc qp g0 ++ wX1 cI cZ cC qp o35))) (rest := []) (As := [.int (jchr a1)]) ⟨hx, hb, hml, hown, hts⟩ (mX1_write l dC dI cI cZ cC cO qp _ _ _ _ ho35) (cwV 1 hts gX7_append_X1_write rfl rfl rfl (by decide +kernel) ⟨Nat.le_of_ble_eq_true rfl, Nat.le_of_ble_eq_true rfl⟩) hK hN hP hD hS hA [1, 2] [0] [0, 1, 2] rfl rfl (by decide) (by decide) (fun _ => rfl) 1 rfl rfl rfl rfl hl.1 rfl (Nat.le_of_ble_eq_true rfl) dX7_append_35 ⟨Nat.zero_le _, Nat.zero_le _⟩ (fun _ H locs hP hD hS => ?_)
        have hP : va_P (dC, dI) vwCl (wX7 cI cZ cC q0 qn qs qt qh qw qf qr qc qp g0 ++ wX1 cI cZ cC qp o35) H := hP
        have hD : va_D A (wX7 cI cZ cC q0 qn qs qt qh qw qf qr qc qp g0 ++ wX1 cI cZ cC qp o35) := hD
        refine lv_aload_n hx hb dX7_append_38 rfl (lv_at hl 0 rfl) ?_
        refine va_get (D := (dC, dI)) (ci := 6) (v := .ref (qp 0)) (C := RX7) (T := TX7) (N := 14) hx hb hts hin7 hown hK hP 0 rfl rfl 8 (by decide) hk0 (fun _ h9 => h9) rfl dX7_append_39 ?_
        refine va_getN (D := (dC, dI)) (ci := 1) (v := .int (pX1_length o35)) (C := RX1) (T := TX1) (N := 6) hx hb hts hin1 hown hK hP 1 rfl rfl 1 (by decide) hk1 (fun _ h9 => h9) rfl dX7_append_42 ?_
        obtain rfl := Option.some.inj hf
        exact W.iret (v := (pX1_length o35)) hx hb hr (fun t ht hW => ⟨⟨_, (), rfl, rfl, by rw [ht]; exact hP, hD⟩, hS.F ht⟩) hS.2.2 dX7_append_45
      · have hf := oe hc hf
        refine lv_bipush (v := (-3)) hx hb dX7_append_26 (by decide) ?_
        obtain rfl := Option.some.inj hf
        exact W.iret (v := (-3)) hx hb hr (fun t ht hW => ⟨⟨_, (), rfl, rfl, by rw [ht]; exact hP, hD⟩, hS.F ht⟩) hS.2.2 dX7_append_28
    · have hf := oe hc hf
      refine lv_iconst (v := (-1)) hx hb dX7_append_12 (by decide) ?_
      obtain rfl := Option.some.inj hf
      exact W.iret (v := (-1)) hx hb hr (fun t ht hW => ⟨⟨_, (), rfl, rfl, by rw [ht]; exact hP, hD⟩, hS.F ht⟩) hS.2.2 dX7_append_13
set_option maxHeartbeats 4000000 in
set_option maxRecDepth 100000 in
theorem mX7_clear (l : Launch) (dC : Nat → ClassId) (dI : Nat → Nat → Nat) (cI cZ cC cO : ClassId) (q0 : Nat → Nat) (qn : Nat → Nat) (qs : Nat → Nat) (qt : Nat → Nat) (qh : Nat → Nat) (qw : Nat → Nat) (qf : Nat → Nat) (qr : Nat → Nat) (qc : Nat → Nat) (qp : Nat → Nat) (g0 : GX7) (gp : GX1) (sz : Nat) (out : Int32 × GX1) (hf : fX7_clear g0 gp = some out) : Met l yX7_clear wsX7_clear rmX7_clear (va_Pc [.ref (q0 0)] (pcW (dC, dI) (wTys cI cZ cC cO) sz (wX7 cI cZ cC q0 qn qs qt qh qw qf qr qc qp g0 ++ wX1 cI cZ cC qp gp))) (va_Qi (fun r (_ : Unit) => r = out.1) (fun _ => poW (dC, dI) (va_A (wX7 cI cZ cC q0 qn qs qt qh qw qf qr qc qp g0 ++ wX1 cI cZ cC qp gp) sz) (wX7 cI cZ cC q0 qn qs qt qh qw qf qr qc qp g0 ++ wX1 cI cZ cC qp out.2)) (va_A (wX7 cI cZ cC q0 qn qs qt qh qw qf qr qc qp g0 ++ wX1 cI cZ cC qp gp) sz)) 0 0 (va_A (wX7 cI cZ cC q0 qn qs qt qh qw qf qr qc qp g0 ++ wX1 cI cZ cC qp gp) sz) := by
  refine Met.ofW (cc := cX7_clear) (maxL := 2) (ret := (some .int)) (by decide) rfl ?_
  intro p e s m args below meth c s₁ B hml hv
  obtain ⟨hargs, hsz, hP, hK, hN, hD0⟩ := hv
  have hx := B.exec
  have hb := B.bytes
  have hr := B.returns
  have hts := atoms_spec (ws := wsX7_clear) B.pre
  have hown : s.vm.findClass RX7 = some m.cls := findClass_of_methodNamed B.named
  have hlocks := B.notSynchronized
  have hk0 := hts (.fieldLink RX7 57 "RimGrains" "pad" "LRimGrains$Pad;") (by decide +kernel)
  have hk1 := hN.f (args := args) 23 rfl
  have hin7 : ∀ w ∈ wsX70, w ∈ wsX7_clear := by decide +kernel
  have hin1 : ∀ w ∈ wsX10, w ∈ wsX7_clear := by decide +kernel
  subst hsz
  have hD := hD0.self (sz := s.heap.size)
  generalize hAe : va_A (wX7 cI cZ cC q0 qn qs qt qh qw qf qr qc qp g0 ++ wX1 cI cZ cC qp gp) s.heap.size = A at hD ⊢
  have hA : ∀ q : Nat, s.heap.size ≤ q → A q := fun q h => by rw [← hAe]; exact Or.inr h
  have hS : va_S A s.heap s.heap [] := va_S.rf
  have hE := lg_entry_eq m [.ref (q0 0)] 2
  rw [← hargs] at hE
  rw [hE]
  have hl := lv_entry [.ref (q0 0)] (n := 2) (Nat.le_of_ble_eq_true rfl)
  generalize (lg_sl [.ref (q0 0)] ++ List.replicate (2 - (lg_sl [.ref (q0 0)]).length) Slot.unset).toArray = ls at hl ⊢
  have hl : lv_has ls 2 [(0, .ref (q0 0))] := hl
  have hP : va_P (dC, dI) vwCl (wX7 cI cZ cC q0 qn qs qt qh qw qf qr qc qp g0 ++ wX1 cI cZ cC qp gp) s.heap := hP
  unfold fX7_clear at hf
  refine lv_aload_n hx hb dX7_clear_0 rfl (lv_at hl 0 rfl) ?_
  refine va_get (D := (dC, dI)) (ci := 6) (v := .ref (qp 0)) (C := RX7) (T := TX7) (N := 14) hx hb hts hin7 hown hK hP 0 rfl rfl 8 (by decide) hk0 (fun _ h9 => h9) rfl dX7_clear_1 ?_
  refine va_getN (D := (dC, dI)) (ci := 1) (v := .int (pX1_length gp)) (C := RX1) (T := TX1) (N := 6) hx hb hts hin1 hown hK hP 1 rfl rfl 1 (by decide) hk1 (fun _ h9 => h9) rfl dX7_clear_4 ?_
  refine lv_istore_n (lv' := [(1, .int (pX1_length gp)), (0, .ref (q0 0))]) hx hb dX7_clear_7 rfl hl (by decide) rfl (fun ls hl => ?_)
  refine lv_aload_n hx hb dX7_clear_8 rfl (lv_at hl 1 rfl) ?_
  refine va_get (D := (dC, dI)) (ci := 6) (v := .ref (qp 0)) (C := RX7) (T := TX7) (N := 14) hx hb hts hin7 hown hK hP 0 rfl rfl 8 (by decide) hk0 (fun _ h9 => h9) rfl dX7_clear_9 ?_
  obtain ⟨o12, ho12, hf⟩ := ob hf
  refine wVv (W1 := (fun _ : Unit => (wX7 cI cZ cC q0 qn qs qt qh qw qf qr qc qp g0 ++ wX1 cI cZ cC qp o12))) (rest := []) (As := []) ⟨hx, hb, hml, hown, hts⟩ (mX1_wipe l dC dI cI cZ cC cO qp _ _ _ ho12) (cwV 0 hts gX7_clear_X1_wipe rfl rfl rfl (by decide +kernel) ⟨Nat.le_of_ble_eq_true rfl, Nat.le_of_ble_eq_true rfl⟩) hK hN hP hD hS hA [1, 2] [0] [0, 1, 2] rfl rfl (by decide) (by decide) (fun _ => rfl) 1 rfl rfl rfl rfl hl.1 rfl (Nat.le_of_ble_eq_true rfl) dX7_clear_12 ⟨Nat.zero_le _, Nat.zero_le _⟩ (fun _ H locs hP hD hS => ?_)
  have hP : va_P (dC, dI) vwCl (wX7 cI cZ cC q0 qn qs qt qh qw qf qr qc qp g0 ++ wX1 cI cZ cC qp o12) H := hP
  have hD : va_D A (wX7 cI cZ cC q0 qn qs qt qh qw qf qr qc qp g0 ++ wX1 cI cZ cC qp o12) := hD
  refine lv_iload_n hx hb dX7_clear_15 rfl (lv_at hl 0 rfl) ?_
  obtain rfl := Option.some.inj hf
  exact W.iret (v := (pX1_length gp)) hx hb hr (fun t ht hW => ⟨⟨_, (), rfl, rfl, by rw [ht]; exact hP, hD⟩, hS.F ht⟩) hS.2.2 dX7_clear_16
set_option maxHeartbeats 4000000 in
set_option maxRecDepth 100000 in
theorem mX7_fault (l : Launch) (dC : Nat → ClassId) (dI : Nat → Nat → Nat) (cI cZ cC cO : ClassId) (q0 : Nat → Nat) (qn : Nat → Nat) (qs : Nat → Nat) (qt : Nat → Nat) (qh : Nat → Nat) (qw : Nat → Nat) (qf : Nat → Nat) (qr : Nat → Nat) (qc : Nat → Nat) (qp : Nat → Nat) (g0 : GX7) (gp : GX1) (out : Int32) (hf : fX7_fault g0 gp = some out) : Met l yX7_fault wsX7_fault rmX7_fault (va_Pc [.ref (q0 0)] (pcR (dC, dI) (wTys cI cZ cC cO) (wX7 cI cZ cC q0 qn qs qt qh qw qf qr qc qp g0 ++ wX1 cI cZ cC qp gp))) (vp_Si (fun r => r = out)) 0 0 (fun _ => False) := by
  refine Met.ofW (cc := cX7_fault) (maxL := 1) (ret := (some .int)) (by decide) rfl ?_
  intro p e s m args below meth c s₁ B hml hv
  obtain ⟨hargs, hP, hK, hN⟩ := hv
  have hx := B.exec
  have hb := B.bytes
  have hr := B.returns
  have hts := atoms_spec (ws := wsX7_fault) B.pre
  have hown : s.vm.findClass RX7 = some m.cls := findClass_of_methodNamed B.named
  have hlocks := B.notSynchronized
  have hk0 := hts (.fieldLink RX7 57 "RimGrains" "pad" "LRimGrains$Pad;") (by decide +kernel)
  have hin7 : ∀ w ∈ wsX70, w ∈ wsX7_fault := by decide +kernel
  have hE := lg_entry_eq m [.ref (q0 0)] 1
  rw [← hargs] at hE
  rw [hE]
  have hl := lv_entry [.ref (q0 0)] (n := 1) (Nat.le_of_ble_eq_true rfl)
  generalize (lg_sl [.ref (q0 0)] ++ List.replicate (1 - (lg_sl [.ref (q0 0)]).length) Slot.unset).toArray = ls at hl ⊢
  have hl : lv_has ls 1 [(0, .ref (q0 0))] := hl
  unfold fX7_fault at hf
  refine lv_aload_n hx hb dX7_fault_0 rfl (lv_at hl 0 rfl) ?_
  refine va_get (D := (dC, dI)) (ci := 6) (v := .ref (qp 0)) (C := RX7) (T := TX7) (N := 14) hx hb hts hin7 hown hK hP 0 rfl rfl 8 (by decide) hk0 (fun _ h9 => h9) rfl dX7_fault_1 ?_
  obtain ⟨o4, ho4, hf⟩ := ob hf
  refine rV (rest := []) (As := []) ⟨hx, hb, hml, hown, hts⟩ (mX1_firstWrong l dC dI cI cZ cC cO qp _ _ ho4) (cwV 0 hts gX7_fault_X1_firstWrong rfl rfl rfl (by decide +kernel) ⟨Nat.le_of_ble_eq_true rfl, Nat.le_of_ble_eq_true rfl⟩) hK hN hP [1, 2] rfl 1 rfl rfl rfl rfl hl.1 rfl (Nat.le_of_ble_eq_true rfl) dX7_fault_4 ⟨Nat.zero_le _, Nat.zero_le _⟩ ?_
  obtain rfl := Option.some.inj hf
  exact W.iret (v := o4) hx hb hr (fun t ht hW => ⟨_, rfl, rfl, ht⟩) (fun _ h => by cases h) dX7_fault_7
set_option maxHeartbeats 4000000 in
set_option maxRecDepth 100000 in
theorem mX7_answerOfDeed (l : Launch) (dC : Nat → ClassId) (dI : Nat → Nat → Nat) (cI cZ cC cO : ClassId) (q0 : Nat → Nat) (qn : Nat → Nat) (qs : Nat → Nat) (qt : Nat → Nat) (qh : Nat → Nat) (qw : Nat → Nat) (qf : Nat → Nat) (qr : Nat → Nat) (qc : Nat → Nat) (qp : Nat → Nat) (a1 : Int32) (a2 : Int32) (g0 : GX7) (gn : GX4) (gw : GX6) (gf : GX0) (sz : Nat) (out : Int32 × GX4 × GX6 × GX0) (hf : fX7_answerOfDeed a1 a2 g0 gn gw gf = some out) : Met l yX7_answerOfDeed wsX7_answerOfDeed rmX7_answerOfDeed (va_Pc [.ref (q0 0), .int a1, .int a2] (pcW (dC, dI) (wTys cI cZ cC cO) sz (wX7 cI cZ cC q0 qn qs qt qh qw qf qr qc qp g0 ++ wX4 cI cZ cC qn gn ++ wX6 cI cZ cC qw gw ++ wX0 cI cZ cC qf gf))) (va_Qi (fun r (_ : Unit) => r = out.1) (fun _ => poW (dC, dI) (va_A (wX7 cI cZ cC q0 qn qs qt qh qw qf qr qc qp g0 ++ wX4 cI cZ cC qn gn ++ wX6 cI cZ cC qw gw ++ wX0 cI cZ cC qf gf) sz) (wX7 cI cZ cC q0 qn qs qt qh qw qf qr qc qp g0 ++ wX4 cI cZ cC qn out.2.1 ++ wX6 cI cZ cC qw out.2.2.1 ++ wX0 cI cZ cC qf out.2.2.2)) (va_A (wX7 cI cZ cC q0 qn qs qt qh qw qf qr qc qp g0 ++ wX4 cI cZ cC qn gn ++ wX6 cI cZ cC qw gw ++ wX0 cI cZ cC qf gf) sz)) 0 0 (va_A (wX7 cI cZ cC q0 qn qs qt qh qw qf qr qc qp g0 ++ wX4 cI cZ cC qn gn ++ wX6 cI cZ cC qw gw ++ wX0 cI cZ cC qf gf) sz) := by
  refine Met.ofW (cc := cX7_answerOfDeed) (maxL := 4) (ret := (some .int)) (by decide) rfl ?_
  intro p e s m args below meth c s₁ B hml hv
  obtain ⟨hargs, hsz, hP, hK, hN, hD0⟩ := hv
  have hx := B.exec
  have hb := B.bytes
  have hr := B.returns
  have hts := atoms_spec (ws := wsX7_answerOfDeed) B.pre
  have hown : s.vm.findClass RX7 = some m.cls := findClass_of_methodNamed B.named
  have hlocks := B.notSynchronized
  have hk0 := hts (.fieldLink RX7 36 "RimGrains" "fall" "LRimGrains$Fall;") (by decide +kernel)
  have hk1 := hts (.fieldLink RX7 12 "RimGrains" "now" "LRimGrains$State;") (by decide +kernel)
  have hin7 : ∀ w ∈ wsX70, w ∈ wsX7_answerOfDeed := by decide +kernel
  subst hsz
  have hD := hD0.self (sz := s.heap.size)
  generalize hAe : va_A (wX7 cI cZ cC q0 qn qs qt qh qw qf qr qc qp g0 ++ wX4 cI cZ cC qn gn ++ wX6 cI cZ cC qw gw ++ wX0 cI cZ cC qf gf) s.heap.size = A at hD ⊢
  have hA : ∀ q : Nat, s.heap.size ≤ q → A q := fun q h => by rw [← hAe]; exact Or.inr h
  have hS : va_S A s.heap s.heap [] := va_S.rf
  have hE := lg_entry_eq m [.ref (q0 0), .int a1, .int a2] 4
  rw [← hargs] at hE
  rw [hE]
  have hl := lv_entry [.ref (q0 0), .int a1, .int a2] (n := 4) (Nat.le_of_ble_eq_true rfl)
  generalize (lg_sl [.ref (q0 0), .int a1, .int a2] ++ List.replicate (4 - (lg_sl [.ref (q0 0), .int a1, .int a2]).length) Slot.unset).toArray = ls at hl ⊢
  have hl : lv_has ls 4 [(0, .ref (q0 0)), (1, .int a1), (2, .int a2)] := hl
  have hP : va_P (dC, dI) vwCl (wX7 cI cZ cC q0 qn qs qt qh qw qf qr qc qp g0 ++ wX4 cI cZ cC qn gn ++ wX6 cI cZ cC qw gw ++ wX0 cI cZ cC qf gf) s.heap := hP
  unfold fX7_answerOfDeed at hf
  refine lv_iload_n hx hb dX7_answerOfDeed_0 rfl (lv_at hl 1 rfl) ?_
  refine lv_bipush (v := 119) hx hb dX7_answerOfDeed_1 (by decide) ?_
  refine lv_icmp_ne (tgt := 18) hx hb dX7_answerOfDeed_3 (by decide) (fun hc => ?_) (fun hc => ?_)
  · have hf := oe hc hf
    refine lv_iload_n hx hb dX7_answerOfDeed_18 rfl (lv_at hl 1 rfl) ?_
    refine lv_bipush (v := 103) hx hb dX7_answerOfDeed_19 (by decide) ?_
    have hJ1 : ∀ (y0_1 : Int32), jX7_answerOfDeed_1 a1 a2 g0 gn gw gf y0_1 = some out → ∀ (H : Heap) (locs : List Loc) (ls : Array Slot), va_P (dC, dI) vwCl (wX7 cI cZ cC q0 qn qs qt qh qw qf qr qc qp g0 ++ wX4 cI cZ cC qn gn ++ wX6 cI cZ cC qw gw ++ wX0 cI cZ cC qf gf) H → va_D A (wX7 cI cZ cC q0 qn qs qt qh qw qf qr qc qp g0 ++ wX4 cI cZ cC qn gn ++ wX6 cI cZ cC qw gw ++ wX0 cI cZ cC qf gf) → va_S A s.heap H locs → lv_has ls 4 [(0, .ref (q0 0)), (1, .int a1), (2, .int a2)] → W p l e (headSpec wsX7_answerOfDeed rmX7_answerOfDeed).room s m args below meth c H locs 0 0 (MQ below (va_Qi (fun r (_ : Unit) => r = out.1) (fun _ => poW (dC, dI) A (wX7 cI cZ cC q0 qn qs qt qh qw qf qr qc qp g0 ++ wX4 cI cZ cC qn out.2.1 ++ wX6 cI cZ cC qw out.2.2.1 ++ wX0 cI cZ cC qf out.2.2.2)) A) args s 0 0 A) (F0 m 43 ls [.int y0_1]) := by
      intro y0_1 hf H locs ls hP hD hS hl
      unfold jX7_answerOfDeed_1 at hf
      refine lv_istore_n (lv' := [(3, .int y0_1), (0, .ref (q0 0)), (1, .int a1), (2, .int a2)]) hx hb dX7_answerOfDeed_43 rfl hl (by decide) rfl (fun ls hl => ?_)
      refine lv_iload_n hx hb dX7_answerOfDeed_44 rfl (lv_at hl 0 rfl) ?_
      refine lv_if_eq (tgt := 50) hx hb dX7_answerOfDeed_45 (by decide) (fun hc => ?_) (fun hc => ?_)
      · have hf := ot hc hf
        refine lv_iload_n hx hb dX7_answerOfDeed_50 rfl (lv_at hl 2 rfl) ?_
        refine lv_bipush (v := 103) hx hb dX7_answerOfDeed_51 (by decide) ?_
        refine lv_icmp_ne (tgt := 64) hx hb dX7_answerOfDeed_53 (by decide) (fun hc => ?_) (fun hc => ?_)
        · have hf := oe hc hf
          refine lv_aload_n hx hb dX7_answerOfDeed_64 rfl (lv_at hl 1 rfl) ?_
          refine va_get (D := (dC, dI)) (ci := 6) (v := .ref (qf 0)) (C := RX7) (T := TX7) (N := 14) hx hb hts hin7 hown hK hP 0 rfl rfl 5 (by decide) hk0 (fun _ h9 => h9) rfl dX7_answerOfDeed_65 ?_
          refine lv_aload_n hx hb dX7_answerOfDeed_68 rfl (lv_at hl 1 rfl) ?_
          refine va_get (D := (dC, dI)) (ci := 6) (v := .ref (qn 0)) (C := RX7) (T := TX7) (N := 14) hx hb hts hin7 hown hK hP 0 rfl rfl 0 (by decide) hk1 (fun _ h9 => h9) rfl dX7_answerOfDeed_69 ?_
          refine lv_iload_n hx hb dX7_answerOfDeed_72 rfl (lv_at hl 3 rfl) ?_
          obtain ⟨o73, ho73, hf⟩ := ob hf
          refine wVi (W1 := (fun _ : Unit => (wX7 cI cZ cC q0 qn qs qt qh qw qf qr qc qp g0 ++ wX4 cI cZ cC qn o73.2.2 ++ wX6 cI cZ cC qw gw ++ wX0 cI cZ cC qf o73.2.1))) (rest := []) (As := [.ref (qn 0), .int a2]) ⟨hx, hb, hml, hown, hts⟩ (mX0_dropTree l dC dI cI cZ cC cO qf qn _ _ _ _ _ ho73) (cwV 2 hts gX7_answerOfDeed_X0_dropTree rfl rfl rfl (by decide +kernel) ⟨Nat.le_of_ble_eq_true rfl, Nat.le_of_ble_eq_true rfl⟩) hK hN hP hD hS hA [8, 9, 10, 1, 2, 3, 4, 5, 6] [0, 7] [0, 5, 6, 7, 8, 9, 10, 1, 2, 3, 4] rfl rfl (by decide) (by decide) (fun _ => rfl) 0 rfl rfl rfl rfl hl.1 rfl (Nat.le_of_ble_eq_true rfl) dX7_answerOfDeed_73 ⟨Nat.zero_le _, Nat.zero_le _⟩ (fun _ H locs hP hD hS => ?_)
          have hP : va_P (dC, dI) vwCl (wX7 cI cZ cC q0 qn qs qt qh qw qf qr qc qp g0 ++ wX4 cI cZ cC qn o73.2.2 ++ wX6 cI cZ cC qw gw ++ wX0 cI cZ cC qf o73.2.1) H := hP
          have hD : va_D A (wX7 cI cZ cC q0 qn qs qt qh qw qf qr qc qp g0 ++ wX4 cI cZ cC qn o73.2.2 ++ wX6 cI cZ cC qw gw ++ wX0 cI cZ cC qf o73.2.1) := hD
          obtain rfl := Option.some.inj hf
          exact W.iret (v := o73.1) hx hb hr (fun t ht hW => ⟨⟨_, (), rfl, rfl, by rw [ht]; exact hP, hD⟩, hS.F ht⟩) hS.2.2 dX7_answerOfDeed_76
        · have hf := ot hc hf
          refine lv_aload_n hx hb dX7_answerOfDeed_56 rfl (lv_at hl 1 rfl) ?_
          refine lv_iload_n hx hb dX7_answerOfDeed_57 rfl (lv_at hl 3 rfl) ?_
          obtain ⟨o58, ho58, hf⟩ := ob hf
          refine wVi (W1 := (fun _ : Unit => (wX7 cI cZ cC q0 qn qs qt qh qw qf qr qc qp g0 ++ wX4 cI cZ cC qn o58.2.1 ++ wX6 cI cZ cC qw o58.2.2 ++ wX0 cI cZ cC qf gf))) (rest := []) (As := [.int a2]) ⟨hx, hb, hml, hown, hts⟩ (mX7_letWalk l dC dI cI cZ cC cO q0 qn qs qt qh qw qf qr qc qp _ _ _ _ _ _ ho58) (cwV 1 hts gX7_answerOfDeed_X7_letWalk rfl rfl rfl (by decide +kernel) ⟨Nat.le_of_ble_eq_true rfl, Nat.le_of_ble_eq_true rfl⟩) hK hN hP hD hS hA [0, 1, 2, 3, 4, 5, 6, 7] [8, 9, 10] [3, 4, 5, 6, 7, 8, 9, 10, 0, 1, 2] rfl rfl (by decide) (by decide) (fun _ => rfl) 6 rfl rfl rfl rfl hl.1 rfl (Nat.le_of_ble_eq_true rfl) dX7_answerOfDeed_58 ⟨Nat.zero_le _, Nat.zero_le _⟩ (fun _ H locs hP hD hS => ?_)
          have hP : va_P (dC, dI) vwCl (wX7 cI cZ cC q0 qn qs qt qh qw qf qr qc qp g0 ++ wX4 cI cZ cC qn o58.2.1 ++ wX6 cI cZ cC qw o58.2.2 ++ wX0 cI cZ cC qf gf) H := hP
          have hD : va_D A (wX7 cI cZ cC q0 qn qs qt qh qw qf qr qc qp g0 ++ wX4 cI cZ cC qn o58.2.1 ++ wX6 cI cZ cC qw o58.2.2 ++ wX0 cI cZ cC qf gf) := hD
          refine lv_goto (tgt := 76) hx hb dX7_answerOfDeed_61 (by decide) ?_
          obtain rfl := Option.some.inj hf
          exact W.iret (v := o58.1) hx hb hr (fun t ht hW => ⟨⟨_, (), rfl, rfl, by rw [ht]; exact hP, hD⟩, hS.F ht⟩) hS.2.2 dX7_answerOfDeed_76
      · have hf := oe hc hf
        refine lv_iload_n hx hb dX7_answerOfDeed_48 rfl (lv_at hl 0 rfl) ?_
        obtain rfl := Option.some.inj hf
        exact W.iret (v := y0_1) hx hb hr (fun t ht hW => ⟨⟨_, (), rfl, rfl, by rw [ht]; exact hP, hD⟩, hS.F ht⟩) hS.2.2 dX7_answerOfDeed_49
    refine lv_icmp_ne (tgt := 35) hx hb dX7_answerOfDeed_21 (by decide) (fun hc => ?_) (fun hc => ?_)
    · have hf := oe hc hf
      refine lv_aload_n hx hb dX7_answerOfDeed_35 rfl (lv_at hl 0 rfl) ?_
      refine va_get (D := (dC, dI)) (ci := 6) (v := .ref (qn 0)) (C := RX7) (T := TX7) (N := 14) hx hb hts hin7 hown hK hP 0 rfl rfl 0 (by decide) hk1 (fun _ h9 => h9) rfl dX7_answerOfDeed_36 ?_
      refine lv_iload_n hx hb dX7_answerOfDeed_39 rfl (lv_at hl 2 rfl) ?_
      obtain ⟨o40, ho40, hf⟩ := ob hf
      refine rV (rest := []) (As := [.int a2]) ⟨hx, hb, hml, hown, hts⟩ (mX4_refusalToBreak l dC dI cI cZ cC cO qn _ _ _ ho40) (cwV 1 hts gX7_answerOfDeed_X4_refusalToBreak rfl rfl rfl (by decide +kernel) ⟨Nat.le_of_ble_eq_true rfl, Nat.le_of_ble_eq_true rfl⟩) hK hN hP [1, 2, 3, 4, 5, 6] rfl 3 rfl rfl rfl rfl hl.1 rfl (Nat.le_of_ble_eq_true rfl) dX7_answerOfDeed_40 ⟨Nat.zero_le _, Nat.zero_le _⟩ ?_
      exact hJ1 _ hf _ _ ls hP hD hS (lv_sub hl [0, 1, 2] rfl)
    · have hf := ot hc hf
      refine lv_aload_n hx hb dX7_answerOfDeed_24 rfl (lv_at hl 0 rfl) ?_
      refine va_get (D := (dC, dI)) (ci := 6) (v := .ref (qn 0)) (C := RX7) (T := TX7) (N := 14) hx hb hts hin7 hown hK hP 0 rfl rfl 0 (by decide) hk1 (fun _ h9 => h9) rfl dX7_answerOfDeed_25 ?_
      refine lv_iload_n hx hb dX7_answerOfDeed_28 rfl (lv_at hl 2 rfl) ?_
      obtain ⟨o29, ho29, hf⟩ := ob hf
      refine rV (rest := []) (As := [.int a2]) ⟨hx, hb, hml, hown, hts⟩ (mX4_refusalToGo l dC dI cI cZ cC cO qn _ _ _ ho29) (cwV 1 hts gX7_answerOfDeed_X4_refusalToGo rfl rfl rfl (by decide +kernel) ⟨Nat.le_of_ble_eq_true rfl, Nat.le_of_ble_eq_true rfl⟩) hK hN hP [1, 2, 3, 4, 5, 6] rfl 3 rfl rfl rfl rfl hl.1 rfl (Nat.le_of_ble_eq_true rfl) dX7_answerOfDeed_29 ⟨Nat.zero_le _, Nat.zero_le _⟩ ?_
      refine lv_goto (tgt := 43) hx hb dX7_answerOfDeed_32 (by decide) ?_
      exact hJ1 _ hf _ _ ls hP hD hS (lv_sub hl [0, 1, 2] rfl)
  · have hf := ot hc hf
    refine lv_aload_n hx hb dX7_answerOfDeed_6 rfl (lv_at hl 0 rfl) ?_
    refine va_get (D := (dC, dI)) (ci := 6) (v := .ref (qf 0)) (C := RX7) (T := TX7) (N := 14) hx hb hts hin7 hown hK hP 0 rfl rfl 5 (by decide) hk0 (fun _ h9 => h9) rfl dX7_answerOfDeed_7 ?_
    refine lv_aload_n hx hb dX7_answerOfDeed_10 rfl (lv_at hl 0 rfl) ?_
    refine va_get (D := (dC, dI)) (ci := 6) (v := .ref (qn 0)) (C := RX7) (T := TX7) (N := 14) hx hb hts hin7 hown hK hP 0 rfl rfl 0 (by decide) hk1 (fun _ h9 => h9) rfl dX7_answerOfDeed_11 ?_
    obtain ⟨o14, ho14, hf⟩ := ob hf
    refine wVi (W1 := (fun _ : Unit => (wX7 cI cZ cC q0 qn qs qt qh qw qf qr qc qp g0 ++ wX4 cI cZ cC qn o14.2.2 ++ wX6 cI cZ cC qw gw ++ wX0 cI cZ cC qf o14.2.1))) (rest := []) (As := [.ref (qn 0)]) ⟨hx, hb, hml, hown, hts⟩ (mX0_dropTips l dC dI cI cZ cC cO qf qn _ _ _ _ ho14) (cwV 1 hts gX7_answerOfDeed_X0_dropTips rfl rfl rfl (by decide +kernel) ⟨Nat.le_of_ble_eq_true rfl, Nat.le_of_ble_eq_true rfl⟩) hK hN hP hD hS hA [8, 9, 10, 1, 2, 3, 4, 5, 6] [0, 7] [0, 5, 6, 7, 8, 9, 10, 1, 2, 3, 4] rfl rfl (by decide) (by decide) (fun _ => rfl) 0 rfl rfl rfl rfl hl.1 rfl (Nat.le_of_ble_eq_true rfl) dX7_answerOfDeed_14 ⟨Nat.zero_le _, Nat.zero_le _⟩ (fun _ H locs hP hD hS => ?_)
    have hP : va_P (dC, dI) vwCl (wX7 cI cZ cC q0 qn qs qt qh qw qf qr qc qp g0 ++ wX4 cI cZ cC qn o14.2.2 ++ wX6 cI cZ cC qw gw ++ wX0 cI cZ cC qf o14.2.1) H := hP
    have hD : va_D A (wX7 cI cZ cC q0 qn qs qt qh qw qf qr qc qp g0 ++ wX4 cI cZ cC qn o14.2.2 ++ wX6 cI cZ cC qw gw ++ wX0 cI cZ cC qf o14.2.1) := hD
    obtain rfl := Option.some.inj hf
    exact W.iret (v := o14.1) hx hb hr (fun t ht hW => ⟨⟨_, (), rfl, rfl, by rw [ht]; exact hP, hD⟩, hS.F ht⟩) hS.2.2 dX7_answerOfDeed_17
set_option maxHeartbeats 4000000 in
set_option maxRecDepth 100000 in
theorem mX7_why (l : Launch) (dC : Nat → ClassId) (dI : Nat → Nat → Nat) (cI cZ cC cO : ClassId) (q0 : Nat → Nat) (qn : Nat → Nat) (qs : Nat → Nat) (qt : Nat → Nat) (qh : Nat → Nat) (qw : Nat → Nat) (qf : Nat → Nat) (qr : Nat → Nat) (qc : Nat → Nat) (qp : Nat → Nat) (a1 : Int32) (g0 : GX7) (out : Int32) (hf : fX7_why a1 g0 = some out) : Met l yX7_why wsX7_why rmX7_why (va_Pc [.ref (q0 0), .int a1] (pcR (dC, dI) (wTys cI cZ cC cO) (wX7 cI cZ cC q0 qn qs qt qh qw qf qr qc qp g0))) (vp_Si (fun r => r = out)) 0 0 (fun _ => False) := by
  refine Met.ofW (cc := cX7_why) (maxL := 2) (ret := (some .int)) (by decide) rfl ?_
  intro p e s m args below meth c s₁ B hml hv
  obtain ⟨hargs, hP, hK, hN⟩ := hv
  have hx := B.exec
  have hb := B.bytes
  have hr := B.returns
  have hts := atoms_spec (ws := wsX7_why) B.pre
  have hown : s.vm.findClass RX7 = some m.cls := findClass_of_methodNamed B.named
  have hlocks := B.notSynchronized
  have hk0 := hts (.fieldLink RX7 69 "RimGrains" "stopError" "I") (by decide +kernel)
  have hk1 := hts (.fieldLink RX7 72 "RimGrains" "stopDeed" "I") (by decide +kernel)
  have hk2 := hts (.fieldLink RX7 75 "RimGrains" "stopPlace" "I") (by decide +kernel)
  have hin7 : ∀ w ∈ wsX70, w ∈ wsX7_why := by decide +kernel
  have hE := lg_entry_eq m [.ref (q0 0), .int a1] 2
  rw [← hargs] at hE
  rw [hE]
  have hl := lv_entry [.ref (q0 0), .int a1] (n := 2) (Nat.le_of_ble_eq_true rfl)
  generalize (lg_sl [.ref (q0 0), .int a1] ++ List.replicate (2 - (lg_sl [.ref (q0 0), .int a1]).length) Slot.unset).toArray = ls at hl ⊢
  have hl : lv_has ls 2 [(0, .ref (q0 0)), (1, .int a1)] := hl
  unfold fX7_why at hf
  refine lv_iload_n hx hb dX7_why_0 rfl (lv_at hl 1 rfl) ?_
  refine lv_if_lt (tgt := 9) hx hb dX7_why_1 (by decide) (fun hc => ?_) (fun hc => ?_)
  · have hf := ot hc hf
    refine lv_iconst (v := (-1)) hx hb dX7_why_9 (by decide) ?_
    obtain rfl := Option.some.inj hf
    exact W.iret (v := (-1)) hx hb hr (fun t ht hW => ⟨_, rfl, rfl, ht⟩) (fun _ h => by cases h) dX7_why_10
  · have hf := oe hc hf
    refine lv_iload_n hx hb dX7_why_4 rfl (lv_at hl 1 rfl) ?_
    refine lv_iconst (v := 2) hx hb dX7_why_5 (by decide) ?_
    refine lv_icmp_le (tgt := 11) hx hb dX7_why_6 (by decide) (fun hc => ?_) (fun hc => ?_)
    · have hf := ot hc hf
      refine lv_aload_n hx hb dX7_why_11 rfl (lv_at hl 0 rfl) ?_
      refine va_get (D := (dC, dI)) (ci := 6) (v := .int (pX7_stopError g0)) (C := RX7) (T := TX7) (N := 14) hx hb hts hin7 hown hK hP 0 rfl rfl 11 (by decide) hk0 (fun _ h9 => h9) rfl dX7_why_12 ?_
      refine lv_if_ne (tgt := 21) hx hb dX7_why_15 (by decide) (fun hc => ?_) (fun hc => ?_)
      · have hf := oe hc hf
        refine lv_iload_n hx hb dX7_why_21 rfl (lv_at hl 1 rfl) ?_
        by_cases hs22_0 : a1 = 0
        · have hf := ot hs22_0 hf
          refine lv_lookup (off := 26) (tgt := 48) hx hb dX7_why_22 (by decide) (by rw [hs22_0]; decide) (by decide) ?_
          refine lv_aload_n hx hb dX7_why_48 rfl (lv_at hl 0 rfl) ?_
          refine va_get (D := (dC, dI)) (ci := 6) (v := .int (pX7_stopError g0)) (C := RX7) (T := TX7) (N := 14) hx hb hts hin7 hown hK hP 0 rfl rfl 11 (by decide) hk0 (fun _ h9 => h9) rfl dX7_why_49 ?_
          obtain rfl := Option.some.inj hf
          exact W.iret (v := (pX7_stopError g0)) hx hb hr (fun t ht hW => ⟨_, rfl, rfl, ht⟩) (fun _ h => by cases h) dX7_why_52
        have hf := oe hs22_0 hf
        by_cases hs22_1 : a1 = 1
        · have hf := ot hs22_1 hf
          refine lv_lookup (off := 31) (tgt := 53) hx hb dX7_why_22 (by decide) (by rw [hs22_1]; decide) (by decide) ?_
          refine lv_aload_n hx hb dX7_why_53 rfl (lv_at hl 0 rfl) ?_
          refine va_get (D := (dC, dI)) (ci := 6) (v := .int (pX7_stopDeed g0)) (C := RX7) (T := TX7) (N := 14) hx hb hts hin7 hown hK hP 0 rfl rfl 12 (by decide) hk1 (fun _ h9 => h9) rfl dX7_why_54 ?_
          obtain rfl := Option.some.inj hf
          exact W.iret (v := (pX7_stopDeed g0)) hx hb hr (fun t ht hW => ⟨_, rfl, rfl, ht⟩) (fun _ h => by cases h) dX7_why_57
        have hf := oe hs22_1 hf
        refine lv_lookup (off := 36) (tgt := 58) hx hb dX7_why_22 (by decide) (by show Op.lookupswitch.offset [(0, 26), (1, 31)] _ _ = _; rw [lv_osw (a := 0) hs22_0 rfl, lv_osw (a := 1) hs22_1 rfl]; rfl) (by decide) ?_
        refine lv_aload_n hx hb dX7_why_58 rfl (lv_at hl 0 rfl) ?_
        refine va_get (D := (dC, dI)) (ci := 6) (v := .int (pX7_stopPlace g0)) (C := RX7) (T := TX7) (N := 14) hx hb hts hin7 hown hK hP 0 rfl rfl 13 (by decide) hk2 (fun _ h9 => h9) rfl dX7_why_59 ?_
        obtain rfl := Option.some.inj hf
        exact W.iret (v := (pX7_stopPlace g0)) hx hb hr (fun t ht hW => ⟨_, rfl, rfl, ht⟩) (fun _ h => by cases h) dX7_why_62
      · have hf := ot hc hf
        refine lv_bipush (v := (-4)) hx hb dX7_why_18 (by decide) ?_
        obtain rfl := Option.some.inj hf
        exact W.iret (v := (-4)) hx hb hr (fun t ht hW => ⟨_, rfl, rfl, ht⟩) (fun _ h => by cases h) dX7_why_20
    · have hf := oe hc hf
      refine lv_iconst (v := (-1)) hx hb dX7_why_9 (by decide) ?_
      obtain rfl := Option.some.inj hf
      exact W.iret (v := (-1)) hx hb hr (fun t ht hW => ⟨_, rfl, rfl, ht⟩) (fun _ h => by cases h) dX7_why_10
set_option maxHeartbeats 4000000 in
set_option maxRecDepth 100000 in
theorem mX7_cell (l : Launch) (dC : Nat → ClassId) (dI : Nat → Nat → Nat) (cI cZ cC cO : ClassId) (q0 : Nat → Nat) (qn : Nat → Nat) (qs : Nat → Nat) (qt : Nat → Nat) (qh : Nat → Nat) (qw : Nat → Nat) (qf : Nat → Nat) (qr : Nat → Nat) (qc : Nat → Nat) (qp : Nat → Nat) (a1 : Int32) (a2 : Int32) (g0 : GX7) (gn : GX4) (out : Int32) (hf : fX7_cell a1 a2 g0 gn = some out) : Met l yX7_cell wsX7_cell rmX7_cell (va_Pc [.ref (q0 0), .int a1, .int a2] (pcR (dC, dI) (wTys cI cZ cC cO) (wX7 cI cZ cC q0 qn qs qt qh qw qf qr qc qp g0 ++ wX4 cI cZ cC qn gn))) (vp_Si (fun r => r = out)) 0 0 (fun _ => False) := by
  refine Met.ofW (cc := cX7_cell) (maxL := 3) (ret := (some .int)) (by decide) rfl ?_
  intro p e s m args below meth c s₁ B hml hv
  obtain ⟨hargs, hP, hK, hN⟩ := hv
  have hx := B.exec
  have hb := B.bytes
  have hr := B.returns
  have hts := atoms_spec (ws := wsX7_cell) B.pre
  have hown : s.vm.findClass RX7 = some m.cls := findClass_of_methodNamed B.named
  have hlocks := B.notSynchronized
  have hk0 := hts (.fieldLink RX7 12 "RimGrains" "now" "LRimGrains$State;") (by decide +kernel)
  have hin7 : ∀ w ∈ wsX70, w ∈ wsX7_cell := by decide +kernel
  have hE := lg_entry_eq m [.ref (q0 0), .int a1, .int a2] 3
  rw [← hargs] at hE
  rw [hE]
  have hl := lv_entry [.ref (q0 0), .int a1, .int a2] (n := 3) (Nat.le_of_ble_eq_true rfl)
  generalize (lg_sl [.ref (q0 0), .int a1, .int a2] ++ List.replicate (3 - (lg_sl [.ref (q0 0), .int a1, .int a2]).length) Slot.unset).toArray = ls at hl ⊢
  have hl : lv_has ls 3 [(0, .ref (q0 0)), (1, .int a1), (2, .int a2)] := hl
  unfold fX7_cell at hf
  refine lv_iload_n hx hb dX7_cell_0 rfl (lv_at hl 1 rfl) ?_
  obtain ⟨o1, ho1, hf⟩ := ob hf
  refine rS (rest := []) (As := [.int a1]) ⟨hx, hb, hml, hown, hts⟩ (mX2_isCell l dC dI cI cZ cC cO  _ _ ho1) (va_cwS 1 hts gX7_cell_X2_isCell rfl rfl rfl (by decide +kernel) ⟨Nat.le_of_ble_eq_true rfl, Nat.le_of_ble_eq_true rfl⟩) hK hN hP [] rfl rfl hl.1 rfl (Nat.le_of_ble_eq_true rfl) dX7_cell_1 ⟨Nat.zero_le _, Nat.zero_le _⟩ ?_
  refine lv_if_eq (tgt := 16) hx hb dX7_cell_4 (by decide) (fun hc => ?_) (fun hc => ?_)
  · have hf := ot hc hf
    refine lv_iconst (v := (-1)) hx hb dX7_cell_16 (by decide) ?_
    obtain rfl := Option.some.inj hf
    exact W.iret (v := (-1)) hx hb hr (fun t ht hW => ⟨_, rfl, rfl, ht⟩) (fun _ h => by cases h) dX7_cell_17
  · have hf := oe hc hf
    refine lv_iload_n hx hb dX7_cell_7 rfl (lv_at hl 2 rfl) ?_
    refine lv_if_lt (tgt := 16) hx hb dX7_cell_8 (by decide) (fun hc => ?_) (fun hc => ?_)
    · have hf := ot hc hf
      refine lv_iconst (v := (-1)) hx hb dX7_cell_16 (by decide) ?_
      obtain rfl := Option.some.inj hf
      exact W.iret (v := (-1)) hx hb hr (fun t ht hW => ⟨_, rfl, rfl, ht⟩) (fun _ h => by cases h) dX7_cell_17
    · have hf := oe hc hf
      refine lv_iload_n hx hb dX7_cell_11 rfl (lv_at hl 2 rfl) ?_
      refine lv_iconst (v := 3) hx hb dX7_cell_12 (by decide) ?_
      refine lv_icmp_le (tgt := 18) hx hb dX7_cell_13 (by decide) (fun hc => ?_) (fun hc => ?_)
      · have hf := ot hc hf
        refine lv_iload_n hx hb dX7_cell_18 rfl (lv_at hl 2 rfl) ?_
        by_cases hs19_0 : a2 = 0
        · have hf := ot hs19_0 hf
          refine lv_tableIn (off := 25) (tgt := 44) hx hb dX7_cell_19 (by rw [hs19_0]; decide) (by rw [hs19_0]; decide) (by rw [hs19_0]; rfl) (by decide) ?_
          refine lv_aload_n hx hb dX7_cell_44 rfl (lv_at hl 0 rfl) ?_
          refine va_get (D := (dC, dI)) (ci := 6) (v := .ref (qn 0)) (C := RX7) (T := TX7) (N := 14) hx hb hts hin7 hown hK hP 0 rfl rfl 0 (by decide) hk0 (fun _ h9 => h9) rfl dX7_cell_45 ?_
          refine lv_iload_n hx hb dX7_cell_48 rfl (lv_at hl 1 rfl) ?_
          obtain ⟨o49, ho49, hf⟩ := ob hf
          refine rV (rest := []) (As := [.int a1]) ⟨hx, hb, hml, hown, hts⟩ (mX4_grainAt l dC dI cI cZ cC cO qn _ _ _ ho49) (cwV 1 hts gX7_cell_X4_grainAt rfl rfl rfl (by decide +kernel) ⟨Nat.le_of_ble_eq_true rfl, Nat.le_of_ble_eq_true rfl⟩) hK hN hP [1, 2, 3, 4, 5, 6] rfl 3 rfl rfl rfl rfl hl.1 rfl (Nat.le_of_ble_eq_true rfl) dX7_cell_49 ⟨Nat.zero_le _, Nat.zero_le _⟩ ?_
          obtain rfl := Option.some.inj hf
          exact W.iret (v := o49) hx hb hr (fun t ht hW => ⟨_, rfl, rfl, ht⟩) (fun _ h => by cases h) dX7_cell_52
        have hf := oe hs19_0 hf
        by_cases hs19_1 : a2 = 1
        · have hf := ot hs19_1 hf
          refine lv_tableIn (off := 34) (tgt := 53) hx hb dX7_cell_19 (by rw [hs19_1]; decide) (by rw [hs19_1]; decide) (by rw [hs19_1]; rfl) (by decide) ?_
          refine lv_iload_n hx hb dX7_cell_53 rfl (lv_at hl 1 rfl) ?_
          obtain ⟨o54, ho54, hf⟩ := ob hf
          refine rS (rest := []) (As := [.int a1]) ⟨hx, hb, hml, hown, hts⟩ (mX2_ringOf l dC dI cI cZ cC cO  _ _ ho54) (va_cwS 1 hts gX7_cell_X2_ringOf rfl rfl rfl (by decide +kernel) ⟨Nat.le_of_ble_eq_true rfl, Nat.le_of_ble_eq_true rfl⟩) hK hN hP [] rfl rfl hl.1 rfl (Nat.le_of_ble_eq_true rfl) dX7_cell_54 ⟨Nat.zero_le _, Nat.zero_le _⟩ ?_
          obtain rfl := Option.some.inj hf
          exact W.iret (v := o54) hx hb hr (fun t ht hW => ⟨_, rfl, rfl, ht⟩) (fun _ h => by cases h) dX7_cell_57
        have hf := oe hs19_1 hf
        by_cases hs19_2 : a2 = 2
        · have hf := ot hs19_2 hf
          refine lv_tableIn (off := 39) (tgt := 58) hx hb dX7_cell_19 (by rw [hs19_2]; decide) (by rw [hs19_2]; decide) (by rw [hs19_2]; rfl) (by decide) ?_
          refine lv_aload_n hx hb dX7_cell_58 rfl (lv_at hl 0 rfl) ?_
          refine va_get (D := (dC, dI)) (ci := 6) (v := .ref (qn 0)) (C := RX7) (T := TX7) (N := 14) hx hb hts hin7 hown hK hP 0 rfl rfl 0 (by decide) hk0 (fun _ h9 => h9) rfl dX7_cell_59 ?_
          refine lv_iload_n hx hb dX7_cell_62 rfl (lv_at hl 1 rfl) ?_
          obtain ⟨o63, ho63, hf⟩ := ob hf
          refine rV (rest := []) (As := [.int a1]) ⟨hx, hb, hml, hown, hts⟩ (mX4_grainsAround l dC dI cI cZ cC cO qn _ _ _ ho63) (cwV 1 hts gX7_cell_X4_grainsAround rfl rfl rfl (by decide +kernel) ⟨Nat.le_of_ble_eq_true rfl, Nat.le_of_ble_eq_true rfl⟩) hK hN hP [1, 2, 3, 4, 5, 6] rfl 3 rfl rfl rfl rfl hl.1 rfl (Nat.le_of_ble_eq_true rfl) dX7_cell_63 ⟨Nat.zero_le _, Nat.zero_le _⟩ ?_
          obtain rfl := Option.some.inj hf
          exact W.iret (v := o63) hx hb hr (fun t ht hW => ⟨_, rfl, rfl, ht⟩) (fun _ h => by cases h) dX7_cell_66
        have hf := oe hs19_2 hf
        have hs19_0T := lv_neT (a := 0) hs19_0 rfl
        have hs19_1T := lv_neT (a := 1) hs19_1 rfl
        have hs19_2T := lv_neT (a := 2) hs19_2 rfl
        refine lv_tableOut (tgt := 67) hx hb dX7_cell_19 (by omega) (by decide) ?_
        refine lv_iload_n hx hb dX7_cell_67 rfl (lv_at hl 1 rfl) ?_
        obtain ⟨o68, ho68, hf⟩ := ob hf
        refine rS (rest := []) (As := [.int a1]) ⟨hx, hb, hml, hown, hts⟩ (mX2_rimOf l dC dI cI cZ cC cO  _ _ ho68) (va_cwS 1 hts gX7_cell_X2_rimOf rfl rfl rfl (by decide +kernel) ⟨Nat.le_of_ble_eq_true rfl, Nat.le_of_ble_eq_true rfl⟩) hK hN hP [] rfl rfl hl.1 rfl (Nat.le_of_ble_eq_true rfl) dX7_cell_68 ⟨Nat.zero_le _, Nat.zero_le _⟩ ?_
        obtain rfl := Option.some.inj hf
        exact W.iret (v := o68) hx hb hr (fun t ht hW => ⟨_, rfl, rfl, ht⟩) (fun _ h => by cases h) dX7_cell_71
      · have hf := oe hc hf
        refine lv_iconst (v := (-1)) hx hb dX7_cell_16 (by decide) ?_
        obtain rfl := Option.some.inj hf
        exact W.iret (v := (-1)) hx hb hr (fun t ht hW => ⟨_, rfl, rfl, ht⟩) (fun _ h => by cases h) dX7_cell_17
set_option maxHeartbeats 4000000 in
set_option maxRecDepth 100000 in
theorem mX7_catchOf (l : Launch) (dC : Nat → ClassId) (dI : Nat → Nat → Nat) (cI cZ cC cO : ClassId) (q0 : Nat → Nat) (qn : Nat → Nat) (qs : Nat → Nat) (qt : Nat → Nat) (qh : Nat → Nat) (qw : Nat → Nat) (qf : Nat → Nat) (qr : Nat → Nat) (qc : Nat → Nat) (qp : Nat → Nat) (a1 : Int32) (g0 : GX7) (gn : GX4) (gc : GX3) (sz : Nat) (out : Int32 × GX3) (hf : fX7_catchOf a1 g0 gn gc = some out) : Met l yX7_catchOf wsX7_catchOf rmX7_catchOf (va_Pc [.ref (q0 0), .int a1] (pcW (dC, dI) (wTys cI cZ cC cO) sz (wX7 cI cZ cC q0 qn qs qt qh qw qf qr qc qp g0 ++ wX4 cI cZ cC qn gn ++ wX3 cI cZ cC qc gc))) (va_Qi (fun r (_ : Unit) => r = out.1) (fun _ => poW (dC, dI) (va_A (wX7 cI cZ cC q0 qn qs qt qh qw qf qr qc qp g0 ++ wX4 cI cZ cC qn gn ++ wX3 cI cZ cC qc gc) sz) (wX7 cI cZ cC q0 qn qs qt qh qw qf qr qc qp g0 ++ wX4 cI cZ cC qn gn ++ wX3 cI cZ cC qc out.2)) (va_A (wX7 cI cZ cC q0 qn qs qt qh qw qf qr qc qp g0 ++ wX4 cI cZ cC qn gn ++ wX3 cI cZ cC qc gc) sz)) 0 0 (va_A (wX7 cI cZ cC q0 qn qs qt qh qw qf qr qc qp g0 ++ wX4 cI cZ cC qn gn ++ wX3 cI cZ cC qc gc) sz) := by
  refine Met.ofW (cc := cX7_catchOf) (maxL := 2) (ret := (some .int)) (by decide) rfl ?_
  intro p e s m args below meth c s₁ B hml hv
  obtain ⟨hargs, hsz, hP, hK, hN, hD0⟩ := hv
  have hx := B.exec
  have hb := B.bytes
  have hr := B.returns
  have hts := atoms_spec (ws := wsX7_catchOf) B.pre
  have hown : s.vm.findClass RX7 = some m.cls := findClass_of_methodNamed B.named
  have hlocks := B.notSynchronized
  have hk0 := hts (.fieldLink RX7 50 "RimGrains" "screening" "LRimGrains$Screens;") (by decide +kernel)
  have hk1 := hts (.fieldLink RX7 12 "RimGrains" "now" "LRimGrains$State;") (by decide +kernel)
  have hk2 := hN.f (args := args) 21 rfl
  have hin7 : ∀ w ∈ wsX70, w ∈ wsX7_catchOf := by decide +kernel
  have hin3 : ∀ w ∈ wsX30, w ∈ wsX7_catchOf := by decide +kernel
  subst hsz
  have hD := hD0.self (sz := s.heap.size)
  generalize hAe : va_A (wX7 cI cZ cC q0 qn qs qt qh qw qf qr qc qp g0 ++ wX4 cI cZ cC qn gn ++ wX3 cI cZ cC qc gc) s.heap.size = A at hD ⊢
  have hA : ∀ q : Nat, s.heap.size ≤ q → A q := fun q h => by rw [← hAe]; exact Or.inr h
  have hS : va_S A s.heap s.heap [] := va_S.rf
  have hE := lg_entry_eq m [.ref (q0 0), .int a1] 2
  rw [← hargs] at hE
  rw [hE]
  have hl := lv_entry [.ref (q0 0), .int a1] (n := 2) (Nat.le_of_ble_eq_true rfl)
  generalize (lg_sl [.ref (q0 0), .int a1] ++ List.replicate (2 - (lg_sl [.ref (q0 0), .int a1]).length) Slot.unset).toArray = ls at hl ⊢
  have hl : lv_has ls 2 [(0, .ref (q0 0)), (1, .int a1)] := hl
  have hP : va_P (dC, dI) vwCl (wX7 cI cZ cC q0 qn qs qt qh qw qf qr qc qp g0 ++ wX4 cI cZ cC qn gn ++ wX3 cI cZ cC qc gc) s.heap := hP
  unfold fX7_catchOf at hf
  refine lv_aload_n hx hb dX7_catchOf_0 rfl (lv_at hl 0 rfl) ?_
  refine va_get (D := (dC, dI)) (ci := 6) (v := .ref (qc 0)) (C := RX7) (T := TX7) (N := 14) hx hb hts hin7 hown hK hP 0 rfl rfl 7 (by decide) hk0 (fun _ h9 => h9) rfl dX7_catchOf_1 ?_
  refine lv_aload_n hx hb dX7_catchOf_4 rfl (lv_at hl 0 rfl) ?_
  refine va_get (D := (dC, dI)) (ci := 6) (v := .ref (qn 0)) (C := RX7) (T := TX7) (N := 14) hx hb hts hin7 hown hK hP 0 rfl rfl 0 (by decide) hk1 (fun _ h9 => h9) rfl dX7_catchOf_5 ?_
  obtain ⟨o8, ho8, hf⟩ := ob hf
  refine wVv (W1 := (fun _ : Unit => (wX7 cI cZ cC q0 qn qs qt qh qw qf qr qc qp g0 ++ wX4 cI cZ cC qn gn ++ wX3 cI cZ cC qc o8))) (rest := []) (As := [.ref (qn 0)]) ⟨hx, hb, hml, hown, hts⟩ (mX3_read l dC dI cI cZ cC cO qc qn _ _ _ _ ho8) (cwV 1 hts gX7_catchOf_X3_read rfl rfl rfl (by decide +kernel) ⟨Nat.le_of_ble_eq_true rfl, Nat.le_of_ble_eq_true rfl⟩) hK hN hP hD hS hA [7, 8, 1, 2, 3, 4, 5, 6] [0] [0, 3, 4, 5, 6, 7, 8, 1, 2] rfl rfl (by decide) (by decide) (fun _ => rfl) 2 rfl rfl rfl rfl hl.1 rfl (Nat.le_of_ble_eq_true rfl) dX7_catchOf_8 ⟨Nat.zero_le _, Nat.zero_le _⟩ (fun _ H locs hP hD hS => ?_)
  have hP : va_P (dC, dI) vwCl (wX7 cI cZ cC q0 qn qs qt qh qw qf qr qc qp g0 ++ wX4 cI cZ cC qn gn ++ wX3 cI cZ cC qc o8) H := hP
  have hD : va_D A (wX7 cI cZ cC q0 qn qs qt qh qw qf qr qc qp g0 ++ wX4 cI cZ cC qn gn ++ wX3 cI cZ cC qc o8) := hD
  refine lv_aload_n hx hb dX7_catchOf_11 rfl (lv_at hl 0 rfl) ?_
  refine va_get (D := (dC, dI)) (ci := 6) (v := .ref (qc 0)) (C := RX7) (T := TX7) (N := 14) hx hb hts hin7 hown hK hP 0 rfl rfl 7 (by decide) hk0 (fun _ h9 => h9) rfl dX7_catchOf_12 ?_
  refine va_getN (D := (dC, dI)) (ci := 2) (v := .ref (qc 1)) (C := RX3) (T := TX3) (N := 3) hx hb hts hin3 hown hK hP 7 rfl rfl 0 (by decide) hk2 (fun _ h9 => h9) rfl dX7_catchOf_15 ?_
  refine lv_iload_n hx hb dX7_catchOf_18 rfl (lv_at hl 1 rfl) ?_
  obtain ⟨hin, hf⟩ := og hf
  refine va_iald hx hb hK hP 8 0 rfl rfl hin dX7_catchOf_19 ?_
  obtain rfl := Option.some.inj hf
  exact W.iret (v := ((pX3_catches o8) a1.toNatClampNeg)) hx hb hr (fun t ht hW => ⟨⟨_, (), rfl, rfl, by rw [ht]; exact hP, hD⟩, hS.F ht⟩) hS.2.2 dX7_catchOf_20
set_option maxHeartbeats 4000000 in
set_option maxRecDepth 100000 in
theorem mX7_grain (l : Launch) (dC : Nat → ClassId) (dI : Nat → Nat → Nat) (cI cZ cC cO : ClassId) (q0 : Nat → Nat) (qn : Nat → Nat) (qs : Nat → Nat) (qt : Nat → Nat) (qh : Nat → Nat) (qw : Nat → Nat) (qf : Nat → Nat) (qr : Nat → Nat) (qc : Nat → Nat) (qp : Nat → Nat) (a1 : Int32) (a2 : Int32) (g0 : GX7) (gn : GX4) (gr : GX5) (gc : GX3) (sz : Nat) (out : Int32 × GX5 × GX3) (hf : fX7_grain a1 a2 g0 gn gr gc = some out) : Met l yX7_grain wsX7_grain rmX7_grain (va_Pc [.ref (q0 0), .int a1, .int a2] (pcW (dC, dI) (wTys cI cZ cC cO) sz (wX7 cI cZ cC q0 qn qs qt qh qw qf qr qc qp g0 ++ wX4 cI cZ cC qn gn ++ wX5 cI cZ cC qr gr ++ wX3 cI cZ cC qc gc))) (va_Qi (fun r (_ : Unit) => r = out.1) (fun _ => poW (dC, dI) (va_A (wX7 cI cZ cC q0 qn qs qt qh qw qf qr qc qp g0 ++ wX4 cI cZ cC qn gn ++ wX5 cI cZ cC qr gr ++ wX3 cI cZ cC qc gc) sz) (wX7 cI cZ cC q0 qn qs qt qh qw qf qr qc qp g0 ++ wX4 cI cZ cC qn gn ++ wX5 cI cZ cC qr out.2.1 ++ wX3 cI cZ cC qc out.2.2)) (va_A (wX7 cI cZ cC q0 qn qs qt qh qw qf qr qc qp g0 ++ wX4 cI cZ cC qn gn ++ wX5 cI cZ cC qr gr ++ wX3 cI cZ cC qc gc) sz)) 0 0 (va_A (wX7 cI cZ cC q0 qn qs qt qh qw qf qr qc qp g0 ++ wX4 cI cZ cC qn gn ++ wX5 cI cZ cC qr gr ++ wX3 cI cZ cC qc gc) sz) := by
  refine Met.ofW (cc := cX7_grain) (maxL := 3) (ret := (some .int)) (by decide) rfl ?_
  intro p e s m args below meth c s₁ B hml hv
  obtain ⟨hargs, hsz, hP, hK, hN, hD0⟩ := hv
  have hx := B.exec
  have hb := B.bytes
  have hr := B.returns
  have hts := atoms_spec (ws := wsX7_grain) B.pre
  have hown : s.vm.findClass RX7 = some m.cls := findClass_of_methodNamed B.named
  have hlocks := B.notSynchronized
  have hk0 := hts (.fieldLink RX7 12 "RimGrains" "now" "LRimGrains$State;") (by decide +kernel)
  have hk1 := hts (.fieldLink RX7 43 "RimGrains" "trees" "LRimGrains$Trees;") (by decide +kernel)
  have hk2 := hN.f (args := args) 16 rfl
  have hk3 := hN.f (args := args) 18 rfl
  have hk4 := hN.f (args := args) 19 rfl
  have hk5 := hN.f (args := args) 20 rfl
  have hk6 := hN.f (args := args) 17 rfl
  have hin7 : ∀ w ∈ wsX70, w ∈ wsX7_grain := by decide +kernel
  have hin5 : ∀ w ∈ wsX50, w ∈ wsX7_grain := by decide +kernel
  subst hsz
  have hD := hD0.self (sz := s.heap.size)
  generalize hAe : va_A (wX7 cI cZ cC q0 qn qs qt qh qw qf qr qc qp g0 ++ wX4 cI cZ cC qn gn ++ wX5 cI cZ cC qr gr ++ wX3 cI cZ cC qc gc) s.heap.size = A at hD ⊢
  have hA : ∀ q : Nat, s.heap.size ≤ q → A q := fun q h => by rw [← hAe]; exact Or.inr h
  have hS : va_S A s.heap s.heap [] := va_S.rf
  have hE := lg_entry_eq m [.ref (q0 0), .int a1, .int a2] 3
  rw [← hargs] at hE
  rw [hE]
  have hl := lv_entry [.ref (q0 0), .int a1, .int a2] (n := 3) (Nat.le_of_ble_eq_true rfl)
  generalize (lg_sl [.ref (q0 0), .int a1, .int a2] ++ List.replicate (3 - (lg_sl [.ref (q0 0), .int a1, .int a2]).length) Slot.unset).toArray = ls at hl ⊢
  have hl : lv_has ls 3 [(0, .ref (q0 0)), (1, .int a1), (2, .int a2)] := hl
  have hP : va_P (dC, dI) vwCl (wX7 cI cZ cC q0 qn qs qt qh qw qf qr qc qp g0 ++ wX4 cI cZ cC qn gn ++ wX5 cI cZ cC qr gr ++ wX3 cI cZ cC qc gc) s.heap := hP
  unfold fX7_grain at hf
  refine lv_aload_n hx hb dX7_grain_0 rfl (lv_at hl 0 rfl) ?_
  refine va_get (D := (dC, dI)) (ci := 6) (v := .ref (qn 0)) (C := RX7) (T := TX7) (N := 14) hx hb hts hin7 hown hK hP 0 rfl rfl 0 (by decide) hk0 (fun _ h9 => h9) rfl dX7_grain_1 ?_
  refine lv_iload_n hx hb dX7_grain_4 rfl (lv_at hl 1 rfl) ?_
  obtain ⟨o5, ho5, hf⟩ := ob hf
  refine rV (rest := []) (As := [.int a1]) ⟨hx, hb, hml, hown, hts⟩ (mX4_isGrain l dC dI cI cZ cC cO qn _ _ _ ho5) (cwV 1 hts gX7_grain_X4_isGrain rfl rfl rfl (by decide +kernel) ⟨Nat.le_of_ble_eq_true rfl, Nat.le_of_ble_eq_true rfl⟩) hK hN hP [1, 2, 3, 4, 5, 6] rfl 3 rfl rfl rfl rfl hl.1 rfl (Nat.le_of_ble_eq_true rfl) dX7_grain_5 ⟨Nat.zero_le _, Nat.zero_le _⟩ ?_
  refine lv_if_eq (tgt := 21) hx hb dX7_grain_8 (by decide) (fun hc => ?_) (fun hc => ?_)
  · have hf := ot hc hf
    refine lv_iconst (v := (-1)) hx hb dX7_grain_21 (by decide) ?_
    obtain rfl := Option.some.inj hf
    exact W.iret (v := (-1)) hx hb hr (fun t ht hW => ⟨⟨_, (), rfl, rfl, by rw [ht]; exact hP, hD⟩, hS.F ht⟩) hS.2.2 dX7_grain_22
  · have hf := oe hc hf
    refine lv_iload_n hx hb dX7_grain_11 rfl (lv_at hl 2 rfl) ?_
    refine lv_if_lt (tgt := 21) hx hb dX7_grain_12 (by decide) (fun hc => ?_) (fun hc => ?_)
    · have hf := ot hc hf
      refine lv_iconst (v := (-1)) hx hb dX7_grain_21 (by decide) ?_
      obtain rfl := Option.some.inj hf
      exact W.iret (v := (-1)) hx hb hr (fun t ht hW => ⟨⟨_, (), rfl, rfl, by rw [ht]; exact hP, hD⟩, hS.F ht⟩) hS.2.2 dX7_grain_22
    · have hf := oe hc hf
      refine lv_iload_n hx hb dX7_grain_15 rfl (lv_at hl 2 rfl) ?_
      refine lv_bipush (v := 8) hx hb dX7_grain_16 (by decide) ?_
      refine lv_icmp_le (tgt := 23) hx hb dX7_grain_18 (by decide) (fun hc => ?_) (fun hc => ?_)
      · have hf := ot hc hf
        refine lv_aload_n hx hb dX7_grain_23 rfl (lv_at hl 0 rfl) ?_
        refine va_get (D := (dC, dI)) (ci := 6) (v := .ref (qr 0)) (C := RX7) (T := TX7) (N := 14) hx hb hts hin7 hown hK hP 0 rfl rfl 6 (by decide) hk1 (fun _ h9 => h9) rfl dX7_grain_24 ?_
        refine lv_aload_n hx hb dX7_grain_27 rfl (lv_at hl 0 rfl) ?_
        refine va_get (D := (dC, dI)) (ci := 6) (v := .ref (qn 0)) (C := RX7) (T := TX7) (N := 14) hx hb hts hin7 hown hK hP 0 rfl rfl 0 (by decide) hk0 (fun _ h9 => h9) rfl dX7_grain_28 ?_
        obtain ⟨o31, ho31, hf⟩ := ob hf
        refine wVv (W1 := (fun _ : Unit => (wX7 cI cZ cC q0 qn qs qt qh qw qf qr qc qp g0 ++ wX4 cI cZ cC qn gn ++ wX5 cI cZ cC qr o31 ++ wX3 cI cZ cC qc gc))) (rest := []) (As := [.ref (qn 0)]) ⟨hx, hb, hml, hown, hts⟩ (mX5_read l dC dI cI cZ cC cO qr qn _ _ _ _ ho31) (cwV 1 hts gX7_grain_X5_read rfl rfl rfl (by decide +kernel) ⟨Nat.le_of_ble_eq_true rfl, Nat.le_of_ble_eq_true rfl⟩) hK hN hP hD hS hA [7, 8, 9, 10, 11, 12, 13, 1, 2, 3, 4, 5, 6] [0, 14, 15] [0, 10, 11, 12, 13, 14, 15, 3, 4, 5, 6, 7, 8, 9, 1, 2] rfl rfl (by decide) (by decide) (fun _ => rfl) 4 rfl rfl rfl rfl hl.1 rfl (Nat.le_of_ble_eq_true rfl) dX7_grain_31 ⟨Nat.zero_le _, Nat.zero_le _⟩ (fun _ H locs hP hD hS => ?_)
        have hP : va_P (dC, dI) vwCl (wX7 cI cZ cC q0 qn qs qt qh qw qf qr qc qp g0 ++ wX4 cI cZ cC qn gn ++ wX5 cI cZ cC qr o31 ++ wX3 cI cZ cC qc gc) H := hP
        have hD : va_D A (wX7 cI cZ cC q0 qn qs qt qh qw qf qr qc qp g0 ++ wX4 cI cZ cC qn gn ++ wX5 cI cZ cC qr o31 ++ wX3 cI cZ cC qc gc) := hD
        refine lv_iload_n hx hb dX7_grain_34 rfl (lv_at hl 2 rfl) ?_
        by_cases hs35_0 : a2 = 0
        · have hf := ot hs35_0 hf
          refine lv_tableIn (off := 45) (tgt := 80) hx hb dX7_grain_35 (by rw [hs35_0]; decide) (by rw [hs35_0]; decide) (by rw [hs35_0]; rfl) (by decide) ?_
          refine lv_aload_n hx hb dX7_grain_80 rfl (lv_at hl 0 rfl) ?_
          refine va_get (D := (dC, dI)) (ci := 6) (v := .ref (qn 0)) (C := RX7) (T := TX7) (N := 14) hx hb hts hin7 hown hK hP 0 rfl rfl 0 (by decide) hk0 (fun _ h9 => h9) rfl dX7_grain_81 ?_
          refine lv_iload_n hx hb dX7_grain_84 rfl (lv_at hl 1 rfl) ?_
          obtain ⟨o85, ho85, hf⟩ := ob hf
          refine rV (rest := []) (As := [.int a1]) ⟨hx, hb, hml, hown, hts⟩ (mX4_cellOf l dC dI cI cZ cC cO qn _ _ _ ho85) (cwV 1 hts gX7_grain_X4_cellOf rfl rfl rfl (by decide +kernel) ⟨Nat.le_of_ble_eq_true rfl, Nat.le_of_ble_eq_true rfl⟩) hK hN hP [1, 2, 3, 4, 5, 6] rfl 3 rfl rfl rfl rfl hl.1 rfl (Nat.le_of_ble_eq_true rfl) dX7_grain_85 ⟨Nat.zero_le _, Nat.zero_le _⟩ ?_
          obtain rfl := Option.some.inj hf
          exact W.iret (v := o85) hx hb hr (fun t ht hW => ⟨⟨_, (), rfl, rfl, by rw [ht]; exact hP, hD⟩, hS.F ht⟩) hS.2.2 dX7_grain_88
        have hf := oe hs35_0 hf
        by_cases hs35_1 : a2 = 1
        · have hf := ot hs35_1 hf
          refine lv_tableIn (off := 54) (tgt := 89) hx hb dX7_grain_35 (by rw [hs35_1]; decide) (by rw [hs35_1]; decide) (by rw [hs35_1]; rfl) (by decide) ?_
          refine lv_aload_n hx hb dX7_grain_89 rfl (lv_at hl 0 rfl) ?_
          refine va_get (D := (dC, dI)) (ci := 6) (v := .ref (qn 0)) (C := RX7) (T := TX7) (N := 14) hx hb hts hin7 hown hK hP 0 rfl rfl 0 (by decide) hk0 (fun _ h9 => h9) rfl dX7_grain_90 ?_
          refine lv_iload_n hx hb dX7_grain_93 rfl (lv_at hl 1 rfl) ?_
          obtain ⟨o94, ho94, hf⟩ := ob hf
          refine rV (rest := []) (As := [.int a1]) ⟨hx, hb, hml, hown, hts⟩ (mX4_holderOf l dC dI cI cZ cC cO qn _ _ _ ho94) (cwV 1 hts gX7_grain_X4_holderOf rfl rfl rfl (by decide +kernel) ⟨Nat.le_of_ble_eq_true rfl, Nat.le_of_ble_eq_true rfl⟩) hK hN hP [1, 2, 3, 4, 5, 6] rfl 3 rfl rfl rfl rfl hl.1 rfl (Nat.le_of_ble_eq_true rfl) dX7_grain_94 ⟨Nat.zero_le _, Nat.zero_le _⟩ ?_
          obtain rfl := Option.some.inj hf
          exact W.iret (v := o94) hx hb hr (fun t ht hW => ⟨⟨_, (), rfl, rfl, by rw [ht]; exact hP, hD⟩, hS.F ht⟩) hS.2.2 dX7_grain_97
        have hf := oe hs35_1 hf
        by_cases hs35_2 : a2 = 2
        · have hf := ot hs35_2 hf
          refine lv_tableIn (off := 63) (tgt := 98) hx hb dX7_grain_35 (by rw [hs35_2]; decide) (by rw [hs35_2]; decide) (by rw [hs35_2]; rfl) (by decide) ?_
          refine lv_aload_n hx hb dX7_grain_98 rfl (lv_at hl 0 rfl) ?_
          refine va_get (D := (dC, dI)) (ci := 6) (v := .ref (qr 0)) (C := RX7) (T := TX7) (N := 14) hx hb hts hin7 hown hK hP 0 rfl rfl 6 (by decide) hk1 (fun _ h9 => h9) rfl dX7_grain_99 ?_
          refine va_getN (D := (dC, dI)) (ci := 4) (v := .ref (qr 1)) (C := RX5) (T := TX5) (N := 7) hx hb hts hin5 hown hK hP 7 rfl rfl 0 (by decide) hk2 (fun _ h9 => h9) rfl dX7_grain_102 ?_
          refine lv_iload_n hx hb dX7_grain_105 rfl (lv_at hl 1 rfl) ?_
          obtain ⟨hin, hf⟩ := og hf
          refine va_iald hx hb hK hP 8 0 rfl rfl hin dX7_grain_106 ?_
          obtain rfl := Option.some.inj hf
          exact W.iret (v := ((pX5_depths o31) a1.toNatClampNeg)) hx hb hr (fun t ht hW => ⟨⟨_, (), rfl, rfl, by rw [ht]; exact hP, hD⟩, hS.F ht⟩) hS.2.2 dX7_grain_107
        have hf := oe hs35_2 hf
        by_cases hs35_3 : a2 = 3
        · have hf := ot hs35_3 hf
          refine lv_tableIn (off := 73) (tgt := 108) hx hb dX7_grain_35 (by rw [hs35_3]; decide) (by rw [hs35_3]; decide) (by rw [hs35_3]; rfl) (by decide) ?_
          refine lv_aload_n hx hb dX7_grain_108 rfl (lv_at hl 0 rfl) ?_
          refine va_get (D := (dC, dI)) (ci := 6) (v := .ref (qr 0)) (C := RX7) (T := TX7) (N := 14) hx hb hts hin7 hown hK hP 0 rfl rfl 6 (by decide) hk1 (fun _ h9 => h9) rfl dX7_grain_109 ?_
          refine va_getN (D := (dC, dI)) (ci := 4) (v := .ref (qr 3)) (C := RX5) (T := TX5) (N := 7) hx hb hts hin5 hown hK hP 7 rfl rfl 2 (by decide) hk3 (fun _ h9 => h9) rfl dX7_grain_112 ?_
          refine lv_iload_n hx hb dX7_grain_115 rfl (lv_at hl 1 rfl) ?_
          obtain ⟨hin, hf⟩ := og hf
          refine va_iald hx hb hK hP 10 0 rfl rfl hin dX7_grain_116 ?_
          obtain rfl := Option.some.inj hf
          exact W.iret (v := ((pX5_holding o31) a1.toNatClampNeg)) hx hb hr (fun t ht hW => ⟨⟨_, (), rfl, rfl, by rw [ht]; exact hP, hD⟩, hS.F ht⟩) hS.2.2 dX7_grain_117
        have hf := oe hs35_3 hf
        by_cases hs35_4 : a2 = 4
        · have hf := ot hs35_4 hf
          refine lv_tableIn (off := 83) (tgt := 118) hx hb dX7_grain_35 (by rw [hs35_4]; decide) (by rw [hs35_4]; decide) (by rw [hs35_4]; rfl) (by decide) ?_
          refine lv_aload_n hx hb dX7_grain_118 rfl (lv_at hl 0 rfl) ?_
          refine va_get (D := (dC, dI)) (ci := 6) (v := .ref (qr 0)) (C := RX7) (T := TX7) (N := 14) hx hb hts hin7 hown hK hP 0 rfl rfl 6 (by decide) hk1 (fun _ h9 => h9) rfl dX7_grain_119 ?_
          refine va_getN (D := (dC, dI)) (ci := 4) (v := .ref (qr 4)) (C := RX5) (T := TX5) (N := 7) hx hb hts hin5 hown hK hP 7 rfl rfl 3 (by decide) hk4 (fun _ h9 => h9) rfl dX7_grain_122 ?_
          refine lv_iload_n hx hb dX7_grain_125 rfl (lv_at hl 1 rfl) ?_
          obtain ⟨hin, hf⟩ := og hf
          refine va_iald hx hb hK hP 11 0 rfl rfl hin dX7_grain_126 ?_
          obtain rfl := Option.some.inj hf
          exact W.iret (v := ((pX5_members o31) a1.toNatClampNeg)) hx hb hr (fun t ht hW => ⟨⟨_, (), rfl, rfl, by rw [ht]; exact hP, hD⟩, hS.F ht⟩) hS.2.2 dX7_grain_127
        have hf := oe hs35_4 hf
        by_cases hs35_5 : a2 = 5
        · have hf := ot hs35_5 hf
          refine lv_tableIn (off := 93) (tgt := 128) hx hb dX7_grain_35 (by rw [hs35_5]; decide) (by rw [hs35_5]; decide) (by rw [hs35_5]; rfl) (by decide) ?_
          refine lv_aload_n hx hb dX7_grain_128 rfl (lv_at hl 0 rfl) ?_
          refine va_get (D := (dC, dI)) (ci := 6) (v := .ref (qr 0)) (C := RX7) (T := TX7) (N := 14) hx hb hts hin7 hown hK hP 0 rfl rfl 6 (by decide) hk1 (fun _ h9 => h9) rfl dX7_grain_129 ?_
          refine va_getN (D := (dC, dI)) (ci := 4) (v := .ref (qr 5)) (C := RX5) (T := TX5) (N := 7) hx hb hts hin5 hown hK hP 7 rfl rfl 4 (by decide) hk5 (fun _ h9 => h9) rfl dX7_grain_132 ?_
          refine lv_iload_n hx hb dX7_grain_135 rfl (lv_at hl 1 rfl) ?_
          obtain ⟨hin, hf⟩ := og hf
          refine va_iald hx hb hK hP 12 0 rfl rfl hin dX7_grain_136 ?_
          obtain rfl := Option.some.inj hf
          exact W.iret (v := ((pX5_highest o31) a1.toNatClampNeg)) hx hb hr (fun t ht hW => ⟨⟨_, (), rfl, rfl, by rw [ht]; exact hP, hD⟩, hS.F ht⟩) hS.2.2 dX7_grain_137
        have hf := oe hs35_5 hf
        by_cases hs35_6 : a2 = 6
        · have hf := ot hs35_6 hf
          refine lv_tableIn (off := 103) (tgt := 138) hx hb dX7_grain_35 (by rw [hs35_6]; decide) (by rw [hs35_6]; decide) (by rw [hs35_6]; rfl) (by decide) ?_
          refine lv_aload_n hx hb dX7_grain_138 rfl (lv_at hl 0 rfl) ?_
          refine lv_iload_n hx hb dX7_grain_139 rfl (lv_at hl 1 rfl) ?_
          obtain ⟨o140, ho140, hf⟩ := ob hf
          refine wVi (W1 := (fun _ : Unit => (wX7 cI cZ cC q0 qn qs qt qh qw qf qr qc qp g0 ++ wX4 cI cZ cC qn gn ++ wX5 cI cZ cC qr o31 ++ wX3 cI cZ cC qc o140.2))) (rest := []) (As := [.int a1]) ⟨hx, hb, hml, hown, hts⟩ (mX7_catchOf l dC dI cI cZ cC cO q0 qn qs qt qh qw qf qr qc qp _ _ _ _ _ _ ho140) (cwV 1 hts gX7_grain_X7_catchOf rfl rfl rfl (by decide +kernel) ⟨Nat.le_of_ble_eq_true rfl, Nat.le_of_ble_eq_true rfl⟩) hK hN hP hD hS hA [0, 1, 2, 3, 4, 5, 6, 14, 15] [7, 8, 9, 10, 11, 12, 13] [7, 8, 9, 10, 11, 12, 13, 0, 1, 2, 3, 4, 5, 6, 14, 15] rfl rfl (by decide) (by decide) (fun _ => rfl) 6 rfl rfl rfl rfl hl.1 rfl (Nat.le_of_ble_eq_true rfl) dX7_grain_140 ⟨Nat.zero_le _, Nat.zero_le _⟩ (fun _ H locs hP hD hS => ?_)
          have hP : va_P (dC, dI) vwCl (wX7 cI cZ cC q0 qn qs qt qh qw qf qr qc qp g0 ++ wX4 cI cZ cC qn gn ++ wX5 cI cZ cC qr o31 ++ wX3 cI cZ cC qc o140.2) H := hP
          have hD : va_D A (wX7 cI cZ cC q0 qn qs qt qh qw qf qr qc qp g0 ++ wX4 cI cZ cC qn gn ++ wX5 cI cZ cC qr o31 ++ wX3 cI cZ cC qc o140.2) := hD
          obtain rfl := Option.some.inj hf
          exact W.iret (v := o140.1) hx hb hr (fun t ht hW => ⟨⟨_, (), rfl, rfl, by rw [ht]; exact hP, hD⟩, hS.F ht⟩) hS.2.2 dX7_grain_143
        have hf := oe hs35_6 hf
        by_cases hs35_7 : a2 = 7
        · have hf := ot hs35_7 hf
          refine lv_tableIn (off := 109) (tgt := 144) hx hb dX7_grain_35 (by rw [hs35_7]; decide) (by rw [hs35_7]; decide) (by rw [hs35_7]; rfl) (by decide) ?_
          refine lv_aload_n hx hb dX7_grain_144 rfl (lv_at hl 0 rfl) ?_
          refine va_get (D := (dC, dI)) (ci := 6) (v := .ref (qr 0)) (C := RX7) (T := TX7) (N := 14) hx hb hts hin7 hown hK hP 0 rfl rfl 6 (by decide) hk1 (fun _ h9 => h9) rfl dX7_grain_145 ?_
          refine va_getN (D := (dC, dI)) (ci := 4) (v := .ref (qr 2)) (C := RX5) (T := TX5) (N := 7) hx hb hts hin5 hown hK hP 7 rfl rfl 1 (by decide) hk6 (fun _ h9 => h9) rfl dX7_grain_148 ?_
          refine lv_iload_n hx hb dX7_grain_151 rfl (lv_at hl 1 rfl) ?_
          obtain ⟨hin, hf⟩ := og hf
          refine va_iald hx hb hK hP 9 0 rfl rfl hin dX7_grain_152 ?_
          obtain rfl := Option.some.inj hf
          exact W.iret (v := ((pX5_roots o31) a1.toNatClampNeg)) hx hb hr (fun t ht hW => ⟨⟨_, (), rfl, rfl, by rw [ht]; exact hP, hD⟩, hS.F ht⟩) hS.2.2 dX7_grain_153
        have hf := oe hs35_7 hf
        have hs35_0T := lv_neT (a := 0) hs35_0 rfl
        have hs35_1T := lv_neT (a := 1) hs35_1 rfl
        have hs35_2T := lv_neT (a := 2) hs35_2 rfl
        have hs35_3T := lv_neT (a := 3) hs35_3 rfl
        have hs35_4T := lv_neT (a := 4) hs35_4 rfl
        have hs35_5T := lv_neT (a := 5) hs35_5 rfl
        have hs35_6T := lv_neT (a := 6) hs35_6 rfl
        have hs35_7T := lv_neT (a := 7) hs35_7 rfl
        refine lv_tableOut (tgt := 154) hx hb dX7_grain_35 (by omega) (by decide) ?_
        refine lv_aload_n hx hb dX7_grain_154 rfl (lv_at hl 0 rfl) ?_
        refine va_get (D := (dC, dI)) (ci := 6) (v := .ref (qn 0)) (C := RX7) (T := TX7) (N := 14) hx hb hts hin7 hown hK hP 0 rfl rfl 0 (by decide) hk0 (fun _ h9 => h9) rfl dX7_grain_155 ?_
        refine lv_iload_n hx hb dX7_grain_158 rfl (lv_at hl 1 rfl) ?_
        obtain ⟨o159, ho159, hf⟩ := ob hf
        refine rV (rest := []) (As := [.int a1]) ⟨hx, hb, hml, hown, hts⟩ (mX4_stepsOf l dC dI cI cZ cC cO qn _ _ _ ho159) (cwV 1 hts gX7_grain_X4_stepsOf rfl rfl rfl (by decide +kernel) ⟨Nat.le_of_ble_eq_true rfl, Nat.le_of_ble_eq_true rfl⟩) hK hN hP [1, 2, 3, 4, 5, 6] rfl 3 rfl rfl rfl rfl hl.1 rfl (Nat.le_of_ble_eq_true rfl) dX7_grain_159 ⟨Nat.zero_le _, Nat.zero_le _⟩ ?_
        obtain rfl := Option.some.inj hf
        exact W.iret (v := o159) hx hb hr (fun t ht hW => ⟨⟨_, (), rfl, rfl, by rw [ht]; exact hP, hD⟩, hS.F ht⟩) hS.2.2 dX7_grain_162
      · have hf := oe hc hf
        refine lv_iconst (v := (-1)) hx hb dX7_grain_21 (by decide) ?_
        obtain rfl := Option.some.inj hf
        exact W.iret (v := (-1)) hx hb hr (fun t ht hW => ⟨⟨_, (), rfl, rfl, by rw [ht]; exact hP, hD⟩, hS.F ht⟩) hS.2.2 dX7_grain_22
set_option maxHeartbeats 4000000 in
set_option maxRecDepth 100000 in
theorem mX7_screens (l : Launch) (dC : Nat → ClassId) (dI : Nat → Nat → Nat) (cI cZ cC cO : ClassId) (q0 : Nat → Nat) (qn : Nat → Nat) (qs : Nat → Nat) (qt : Nat → Nat) (qh : Nat → Nat) (qw : Nat → Nat) (qf : Nat → Nat) (qr : Nat → Nat) (qc : Nat → Nat) (qp : Nat → Nat) (a1 : Int32) (g0 : GX7) (gn : GX4) (out : Int32) (hf : fX7_screens a1 g0 gn = some out) : Met l yX7_screens wsX7_screens rmX7_screens (va_Pc [.ref (q0 0), .int a1] (pcR (dC, dI) (wTys cI cZ cC cO) (wX7 cI cZ cC q0 qn qs qt qh qw qf qr qc qp g0 ++ wX4 cI cZ cC qn gn))) (vp_Si (fun r => r = out)) 0 0 (fun _ => False) := by
  refine Met.ofW (cc := cX7_screens) (maxL := 2) (ret := (some .int)) (by decide) rfl ?_
  intro p e s m args below meth c s₁ B hml hv
  obtain ⟨hargs, hP, hK, hN⟩ := hv
  have hx := B.exec
  have hb := B.bytes
  have hr := B.returns
  have hts := atoms_spec (ws := wsX7_screens) B.pre
  have hown : s.vm.findClass RX7 = some m.cls := findClass_of_methodNamed B.named
  have hlocks := B.notSynchronized
  have hk0 := hts (.fieldLink RX7 12 "RimGrains" "now" "LRimGrains$State;") (by decide +kernel)
  have hin7 : ∀ w ∈ wsX70, w ∈ wsX7_screens := by decide +kernel
  have hE := lg_entry_eq m [.ref (q0 0), .int a1] 2
  rw [← hargs] at hE
  rw [hE]
  have hl := lv_entry [.ref (q0 0), .int a1] (n := 2) (Nat.le_of_ble_eq_true rfl)
  generalize (lg_sl [.ref (q0 0), .int a1] ++ List.replicate (2 - (lg_sl [.ref (q0 0), .int a1]).length) Slot.unset).toArray = ls at hl ⊢
  have hl : lv_has ls 2 [(0, .ref (q0 0)), (1, .int a1)] := hl
  unfold fX7_screens at hf
  refine lv_iload_n hx hb dX7_screens_0 rfl (lv_at hl 1 rfl) ?_
  obtain ⟨o1, ho1, hf⟩ := ob hf
  refine rS (rest := []) (As := [.int a1]) ⟨hx, hb, hml, hown, hts⟩ (mX2_isRim l dC dI cI cZ cC cO  _ _ ho1) (va_cwS 1 hts gX7_screens_X2_isRim rfl rfl rfl (by decide +kernel) ⟨Nat.le_of_ble_eq_true rfl, Nat.le_of_ble_eq_true rfl⟩) hK hN hP [] rfl rfl hl.1 rfl (Nat.le_of_ble_eq_true rfl) dX7_screens_1 ⟨Nat.zero_le _, Nat.zero_le _⟩ ?_
  refine lv_if_ne (tgt := 9) hx hb dX7_screens_4 (by decide) (fun hc => ?_) (fun hc => ?_)
  · have hf := oe hc hf
    refine lv_aload_n hx hb dX7_screens_9 rfl (lv_at hl 0 rfl) ?_
    refine va_get (D := (dC, dI)) (ci := 6) (v := .ref (qn 0)) (C := RX7) (T := TX7) (N := 14) hx hb hts hin7 hown hK hP 0 rfl rfl 0 (by decide) hk0 (fun _ h9 => h9) rfl dX7_screens_10 ?_
    refine lv_iload_n hx hb dX7_screens_13 rfl (lv_at hl 1 rfl) ?_
    obtain ⟨o14, ho14, hf⟩ := ob hf
    refine rS (rest := []) (As := [.ref (qn 0), .int a1]) ⟨hx, hb, hml, hown, hts⟩ (mX3_firstMet l dC dI cI cZ cC cO qn _ _ _ ho14) (va_cwS 2 hts gX7_screens_X3_firstMet rfl rfl rfl (by decide +kernel) ⟨Nat.le_of_ble_eq_true rfl, Nat.le_of_ble_eq_true rfl⟩) hK hN hP [1, 2, 3, 4, 5, 6] rfl rfl hl.1 rfl (Nat.le_of_ble_eq_true rfl) dX7_screens_14 ⟨Nat.zero_le _, Nat.zero_le _⟩ ?_
    obtain rfl := Option.some.inj hf
    exact W.iret (v := o14) hx hb hr (fun t ht hW => ⟨_, rfl, rfl, ht⟩) (fun _ h => by cases h) dX7_screens_17
  · have hf := ot hc hf
    refine lv_iconst (v := (-1)) hx hb dX7_screens_7 (by decide) ?_
    obtain rfl := Option.some.inj hf
    exact W.iret (v := (-1)) hx hb hr (fun t ht hW => ⟨_, rfl, rfl, ht⟩) (fun _ h => by cases h) dX7_screens_8
set_option maxHeartbeats 4000000 in
set_option maxRecDepth 100000 in
theorem mX7_ring (l : Launch) (dC : Nat → ClassId) (dI : Nat → Nat → Nat) (cI cZ cC cO : ClassId) (q0 : Nat → Nat) (qn : Nat → Nat) (qs : Nat → Nat) (qt : Nat → Nat) (qh : Nat → Nat) (qw : Nat → Nat) (qf : Nat → Nat) (qr : Nat → Nat) (qc : Nat → Nat) (qp : Nat → Nat) (a1 : Int32) (g0 : GX7) (gn : GX4) (out : Int32) (hf : fX7_ring a1 g0 gn = some out) : Met l yX7_ring wsX7_ring rmX7_ring (va_Pc [.ref (q0 0), .int a1] (pcR (dC, dI) (wTys cI cZ cC cO) (wX7 cI cZ cC q0 qn qs qt qh qw qf qr qc qp g0 ++ wX4 cI cZ cC qn gn))) (vp_Si (fun r => r = out)) 0 0 (fun _ => False) := by
  refine Met.ofW (cc := cX7_ring) (maxL := 4) (ret := (some .int)) (by decide) rfl ?_
  intro p e s m args below meth c s₁ B hml hv
  obtain ⟨hargs, hP, hK, hN⟩ := hv
  have hx := B.exec
  have hb := B.bytes
  have hr := B.returns
  have hts := atoms_spec (ws := wsX7_ring) B.pre
  have hown : s.vm.findClass RX7 = some m.cls := findClass_of_methodNamed B.named
  have hlocks := B.notSynchronized
  have hk0 := hts (.fieldLink RX7 12 "RimGrains" "now" "LRimGrains$State;") (by decide +kernel)
  have hk1 := hN.f (args := args) 3 rfl
  have hin7 : ∀ w ∈ wsX70, w ∈ wsX7_ring := by decide +kernel
  have hin4 : ∀ w ∈ wsX40, w ∈ wsX7_ring := by decide +kernel
  have hE := lg_entry_eq m [.ref (q0 0), .int a1] 4
  rw [← hargs] at hE
  rw [hE]
  have hl := lv_entry [.ref (q0 0), .int a1] (n := 4) (Nat.le_of_ble_eq_true rfl)
  generalize (lg_sl [.ref (q0 0), .int a1] ++ List.replicate (4 - (lg_sl [.ref (q0 0), .int a1]).length) Slot.unset).toArray = ls at hl ⊢
  have hl : lv_has ls 4 [(0, .ref (q0 0)), (1, .int a1)] := hl
  unfold fX7_ring at hf
  refine lv_iload_n hx hb dX7_ring_0 rfl (lv_at hl 1 rfl) ?_
  refine lv_if_lt (tgt := 10) hx hb dX7_ring_1 (by decide) (fun hc => ?_) (fun hc => ?_)
  · have hf := ot hc hf
    refine lv_iconst (v := (-1)) hx hb dX7_ring_10 (by decide) ?_
    obtain rfl := Option.some.inj hf
    exact W.iret (v := (-1)) hx hb hr (fun t ht hW => ⟨_, rfl, rfl, ht⟩) (fun _ h => by cases h) dX7_ring_11
  · have hf := oe hc hf
    refine lv_iload_n hx hb dX7_ring_4 rfl (lv_at hl 1 rfl) ?_
    refine lv_bipush (v := 6) hx hb dX7_ring_5 (by decide) ?_
    refine lv_icmp_lt (tgt := 12) hx hb dX7_ring_7 (by decide) (fun hc => ?_) (fun hc => ?_)
    · have hf := ot hc hf
      refine lv_iconst (v := 0) hx hb dX7_ring_12 (by decide) ?_
      refine lv_istore_n (lv' := [(2, .int 0), (0, .ref (q0 0)), (1, .int a1)]) hx hb dX7_ring_13 rfl hl (by decide) rfl (fun ls hl => ?_)
      refine lv_iconst (v := 0) hx hb dX7_ring_14 (by decide) ?_
      refine lv_istore_n (lv' := [(3, .int 0), (2, .int 0), (0, .ref (q0 0)), (1, .int a1)]) hx hb dX7_ring_15 rfl hl (by decide) rfl (fun ls hl => ?_)
      have hL16 : ∀ (n : Nat) (s16 : Int32 × Int32) (o16 : Int32), lp (tX7_ring_16 a1 gn) n s16 = some o16 → ∀ (ls : Array Slot), lv_has ls 4 [(0, .ref (q0 0)), (1, .int a1), (2, .int s16.1), (3, .int s16.2)] → (∀ (ls : Array Slot), lv_has ls 4 [(2, .int o16)] → W p l e (headSpec wsX7_ring rmX7_ring).room s m args below meth c s.heap [] 0 0 (MQ below (vp_Si (fun r => r = out)) args s 0 0 (fun _ => False)) (F0 m 51 ls [])) → W p l e (headSpec wsX7_ring rmX7_ring).room s m args below meth c s.heap [] 0 0 (MQ below (vp_Si (fun r => r = out)) args s 0 0 (fun _ => False)) (F0 m 16 ls []) := by
        intro n
        induction n with
        | zero => intro s16 o16 hf; exact (lp0 hf).elim
        | succ n ih16 =>
          intro s16 o16 hf ls hl kx
          obtain ⟨r16, hf, hn⟩ := lps hf
          unfold tX7_ring_16 at hf
          refine lv_iload_n hx hb dX7_ring_16 rfl (lv_at hl 3 rfl) ?_
          refine lv_aload_n hx hb dX7_ring_17 rfl (lv_at hl 0 rfl) ?_
          refine va_get (D := (dC, dI)) (ci := 6) (v := .ref (qn 0)) (C := RX7) (T := TX7) (N := 14) hx hb hts hin7 hown hK hP 0 rfl rfl 0 (by decide) hk0 (fun _ h9 => h9) rfl dX7_ring_18 ?_
          refine va_getN (D := (dC, dI)) (ci := 3) (v := .int (pX4_grains gn)) (C := RX4) (T := TX4) (N := 11) hx hb hts hin4 hown hK hP 1 rfl rfl 5 (by decide) hk1 (fun _ h9 => h9) rfl dX7_ring_21 ?_
          refine lv_icmp_ge (tgt := 51) hx hb dX7_ring_24 (by decide) (fun hc => ?_) (fun hc => ?_)
          · have hf := ot hc hf
            obtain rfl := Option.some.inj hf
            obtain rfl := Option.some.inj hn
            exact kx ls (lv_sub hl [2] rfl)
          · have hf := oe hc hf
            refine lv_aload_n hx hb dX7_ring_27 rfl (lv_at hl 0 rfl) ?_
            refine va_get (D := (dC, dI)) (ci := 6) (v := .ref (qn 0)) (C := RX7) (T := TX7) (N := 14) hx hb hts hin7 hown hK hP 0 rfl rfl 0 (by decide) hk0 (fun _ h9 => h9) rfl dX7_ring_28 ?_
            refine lv_iload_n hx hb dX7_ring_31 rfl (lv_at hl 3 rfl) ?_
            obtain ⟨o32, ho32, hf⟩ := ob hf
            refine rV (rest := []) (As := [.int s16.2]) ⟨hx, hb, hml, hown, hts⟩ (mX4_cellOf l dC dI cI cZ cC cO qn _ _ _ ho32) (cwV 1 hts gX7_ring_X4_cellOf rfl rfl rfl (by decide +kernel) ⟨Nat.le_of_ble_eq_true rfl, Nat.le_of_ble_eq_true rfl⟩) hK hN hP [1, 2, 3, 4, 5, 6] rfl 3 rfl rfl rfl rfl hl.1 rfl (Nat.le_of_ble_eq_true rfl) dX7_ring_32 ⟨Nat.zero_le _, Nat.zero_le _⟩ ?_
            obtain ⟨o35, ho35, hf⟩ := ob hf
            refine rS (rest := []) (As := [.int o32]) ⟨hx, hb, hml, hown, hts⟩ (mX2_ringOf l dC dI cI cZ cC cO  _ _ ho35) (va_cwS 1 hts gX7_ring_X2_ringOf rfl rfl rfl (by decide +kernel) ⟨Nat.le_of_ble_eq_true rfl, Nat.le_of_ble_eq_true rfl⟩) hK hN hP [] rfl rfl hl.1 rfl (Nat.le_of_ble_eq_true rfl) dX7_ring_35 ⟨Nat.zero_le _, Nat.zero_le _⟩ ?_
            refine lv_iload_n hx hb dX7_ring_38 rfl (lv_at hl 1 rfl) ?_
            have hJ1 : ∀ (x2_1 : Int32), jX7_ring_1 s16 x2_1 = some r16 → ∀ ls : Array Slot, lv_has ls 4 [(0, .ref (q0 0)), (1, .int a1), (2, .int x2_1), (3, .int s16.2)] → W p l e (headSpec wsX7_ring rmX7_ring).room s m args below meth c s.heap [] 0 0 (MQ below (vp_Si (fun r => r = out)) args s 0 0 (fun _ => False)) (F0 m 45 ls []) := by
              intro x2_1 hf ls hl
              unfold jX7_ring_1 at hf
              refine lv_iinc (v := (s16.2 + 1)) (lv' := [(3, .int (s16.2 + 1)), (0, .ref (q0 0)), (1, .int a1), (2, .int x2_1)]) hx hb dX7_ring_45 hl (k := 3) rfl rfl (by decide) rfl (fun ls hl => ?_)
              refine lv_goto (tgt := 16) hx hb dX7_ring_48 (by decide) ?_
              obtain rfl := Option.some.inj hf
              exact ih16 _ _ hn ls (lv_sub hl [1, 2, 3, 0] rfl) kx
            refine lv_icmp_ne (tgt := 45) hx hb dX7_ring_39 (by decide) (fun hc => ?_) (fun hc => ?_)
            · have hf := oe hc hf
              exact hJ1 _ hf ls (lv_sub hl [0, 1, 2, 3] rfl)
            · have hf := ot hc hf
              refine lv_iinc (v := (s16.1 + 1)) (lv' := [(2, .int (s16.1 + 1)), (0, .ref (q0 0)), (1, .int a1), (3, .int s16.2)]) hx hb dX7_ring_42 hl (k := 2) rfl rfl (by decide) rfl (fun ls hl => ?_)
              exact hJ1 _ hf ls (lv_sub hl [1, 2, 0, 3] rfl)
      obtain ⟨o16, ho16, hf⟩ := ob hf
      refine hL16 FU _ _ ho16 ls (lv_sub hl [2, 3, 1, 0] rfl) (fun ls hl => ?_)
      refine lv_iload_n hx hb dX7_ring_51 rfl (lv_at hl 0 rfl) ?_
      obtain rfl := Option.some.inj hf
      exact W.iret (v := o16) hx hb hr (fun t ht hW => ⟨_, rfl, rfl, ht⟩) (fun _ h => by cases h) dX7_ring_52
    · have hf := oe hc hf
      refine lv_iconst (v := (-1)) hx hb dX7_ring_10 (by decide) ?_
      obtain rfl := Option.some.inj hf
      exact W.iret (v := (-1)) hx hb hr (fun t ht hW => ⟨_, rfl, rfl, ht⟩) (fun _ h => by cases h) dX7_ring_11
set_option maxHeartbeats 4000000 in
set_option maxRecDepth 100000 in
theorem mX7_apart (l : Launch) (dC : Nat → ClassId) (dI : Nat → Nat → Nat) (cI cZ cC cO : ClassId) (q0 : Nat → Nat) (qn : Nat → Nat) (qs : Nat → Nat) (qt : Nat → Nat) (qh : Nat → Nat) (qw : Nat → Nat) (qf : Nat → Nat) (qr : Nat → Nat) (qc : Nat → Nat) (qp : Nat → Nat) (a1 : Int32) (a2 : Int32) (g0 : GX7) (gn : GX4) (out : Int32) (hf : fX7_apart a1 a2 g0 gn = some out) : Met l yX7_apart wsX7_apart rmX7_apart (va_Pc [.ref (q0 0), .int a1, .int a2] (pcR (dC, dI) (wTys cI cZ cC cO) (wX7 cI cZ cC q0 qn qs qt qh qw qf qr qc qp g0 ++ wX4 cI cZ cC qn gn))) (vp_Si (fun r => r = out)) 0 0 (fun _ => False) := by
  refine Met.ofW (cc := cX7_apart) (maxL := 3) (ret := (some .int)) (by decide) rfl ?_
  intro p e s m args below meth c s₁ B hml hv
  obtain ⟨hargs, hP, hK, hN⟩ := hv
  have hx := B.exec
  have hb := B.bytes
  have hr := B.returns
  have hts := atoms_spec (ws := wsX7_apart) B.pre
  have hown : s.vm.findClass RX7 = some m.cls := findClass_of_methodNamed B.named
  have hlocks := B.notSynchronized
  have hk0 := hts (.fieldLink RX7 12 "RimGrains" "now" "LRimGrains$State;") (by decide +kernel)
  have hin7 : ∀ w ∈ wsX70, w ∈ wsX7_apart := by decide +kernel
  have hE := lg_entry_eq m [.ref (q0 0), .int a1, .int a2] 3
  rw [← hargs] at hE
  rw [hE]
  have hl := lv_entry [.ref (q0 0), .int a1, .int a2] (n := 3) (Nat.le_of_ble_eq_true rfl)
  generalize (lg_sl [.ref (q0 0), .int a1, .int a2] ++ List.replicate (3 - (lg_sl [.ref (q0 0), .int a1, .int a2]).length) Slot.unset).toArray = ls at hl ⊢
  have hl : lv_has ls 3 [(0, .ref (q0 0)), (1, .int a1), (2, .int a2)] := hl
  unfold fX7_apart at hf
  refine lv_aload_n hx hb dX7_apart_0 rfl (lv_at hl 0 rfl) ?_
  refine va_get (D := (dC, dI)) (ci := 6) (v := .ref (qn 0)) (C := RX7) (T := TX7) (N := 14) hx hb hts hin7 hown hK hP 0 rfl rfl 0 (by decide) hk0 (fun _ h9 => h9) rfl dX7_apart_1 ?_
  refine lv_iload_n hx hb dX7_apart_4 rfl (lv_at hl 1 rfl) ?_
  obtain ⟨o5, ho5, hf⟩ := ob hf
  refine rV (rest := []) (As := [.int a1]) ⟨hx, hb, hml, hown, hts⟩ (mX4_isGrain l dC dI cI cZ cC cO qn _ _ _ ho5) (cwV 1 hts gX7_apart_X4_isGrain rfl rfl rfl (by decide +kernel) ⟨Nat.le_of_ble_eq_true rfl, Nat.le_of_ble_eq_true rfl⟩) hK hN hP [1, 2, 3, 4, 5, 6] rfl 3 rfl rfl rfl rfl hl.1 rfl (Nat.le_of_ble_eq_true rfl) dX7_apart_5 ⟨Nat.zero_le _, Nat.zero_le _⟩ ?_
  refine lv_if_eq (tgt := 22) hx hb dX7_apart_8 (by decide) (fun hc => ?_) (fun hc => ?_)
  · have hf := ot hc hf
    refine lv_iconst (v := (-1)) hx hb dX7_apart_22 (by decide) ?_
    obtain rfl := Option.some.inj hf
    exact W.iret (v := (-1)) hx hb hr (fun t ht hW => ⟨_, rfl, rfl, ht⟩) (fun _ h => by cases h) dX7_apart_23
  · have hf := oe hc hf
    refine lv_aload_n hx hb dX7_apart_11 rfl (lv_at hl 0 rfl) ?_
    refine va_get (D := (dC, dI)) (ci := 6) (v := .ref (qn 0)) (C := RX7) (T := TX7) (N := 14) hx hb hts hin7 hown hK hP 0 rfl rfl 0 (by decide) hk0 (fun _ h9 => h9) rfl dX7_apart_12 ?_
    refine lv_iload_n hx hb dX7_apart_15 rfl (lv_at hl 2 rfl) ?_
    obtain ⟨o16, ho16, hf⟩ := ob hf
    refine rV (rest := []) (As := [.int a2]) ⟨hx, hb, hml, hown, hts⟩ (mX4_isGrain l dC dI cI cZ cC cO qn _ _ _ ho16) (cwV 1 hts gX7_apart_X4_isGrain rfl rfl rfl (by decide +kernel) ⟨Nat.le_of_ble_eq_true rfl, Nat.le_of_ble_eq_true rfl⟩) hK hN hP [1, 2, 3, 4, 5, 6] rfl 3 rfl rfl rfl rfl hl.1 rfl (Nat.le_of_ble_eq_true rfl) dX7_apart_16 ⟨Nat.zero_le _, Nat.zero_le _⟩ ?_
    refine lv_if_ne (tgt := 24) hx hb dX7_apart_19 (by decide) (fun hc => ?_) (fun hc => ?_)
    · have hf := oe hc hf
      refine lv_aload_n hx hb dX7_apart_24 rfl (lv_at hl 0 rfl) ?_
      refine va_get (D := (dC, dI)) (ci := 6) (v := .ref (qn 0)) (C := RX7) (T := TX7) (N := 14) hx hb hts hin7 hown hK hP 0 rfl rfl 0 (by decide) hk0 (fun _ h9 => h9) rfl dX7_apart_25 ?_
      refine lv_iload_n hx hb dX7_apart_28 rfl (lv_at hl 1 rfl) ?_
      refine lv_iload_n hx hb dX7_apart_29 rfl (lv_at hl 2 rfl) ?_
      obtain ⟨o30, ho30, hf⟩ := ob hf
      refine rV (rest := []) (As := [.int a1, .int a2]) ⟨hx, hb, hml, hown, hts⟩ (mX4_holdsBetween l dC dI cI cZ cC cO qn _ _ _ _ ho30) (cwV 2 hts gX7_apart_X4_holdsBetween rfl rfl rfl (by decide +kernel) ⟨Nat.le_of_ble_eq_true rfl, Nat.le_of_ble_eq_true rfl⟩) hK hN hP [1, 2, 3, 4, 5, 6] rfl 3 rfl rfl rfl rfl hl.1 rfl (Nat.le_of_ble_eq_true rfl) dX7_apart_30 ⟨Nat.zero_le _, Nat.zero_le _⟩ ?_
      obtain rfl := Option.some.inj hf
      exact W.iret (v := o30) hx hb hr (fun t ht hW => ⟨_, rfl, rfl, ht⟩) (fun _ h => by cases h) dX7_apart_33
    · have hf := ot hc hf
      refine lv_iconst (v := (-1)) hx hb dX7_apart_22 (by decide) ?_
      obtain rfl := Option.some.inj hf
      exact W.iret (v := (-1)) hx hb hr (fun t ht hW => ⟨_, rfl, rfl, ht⟩) (fun _ h => by cases h) dX7_apart_23
set_option maxHeartbeats 4000000 in
set_option maxRecDepth 100000 in
theorem mX7_longest (l : Launch) (dC : Nat → ClassId) (dI : Nat → Nat → Nat) (cI cZ cC cO : ClassId) (q0 : Nat → Nat) (qn : Nat → Nat) (qs : Nat → Nat) (qt : Nat → Nat) (qh : Nat → Nat) (qw : Nat → Nat) (qf : Nat → Nat) (qr : Nat → Nat) (qc : Nat → Nat) (qp : Nat → Nat) (a1 : Int32) (g0 : GX7) (gn : GX4) (gr : GX5) (sz : Nat) (out : Int32 × GX5) (hf : fX7_longest a1 g0 gn gr = some out) : Met l yX7_longest wsX7_longest rmX7_longest (va_Pc [.ref (q0 0), .int a1] (pcW (dC, dI) (wTys cI cZ cC cO) sz (wX7 cI cZ cC q0 qn qs qt qh qw qf qr qc qp g0 ++ wX4 cI cZ cC qn gn ++ wX5 cI cZ cC qr gr))) (va_Qi (fun r (_ : Unit) => r = out.1) (fun _ => poW (dC, dI) (va_A (wX7 cI cZ cC q0 qn qs qt qh qw qf qr qc qp g0 ++ wX4 cI cZ cC qn gn ++ wX5 cI cZ cC qr gr) sz) (wX7 cI cZ cC q0 qn qs qt qh qw qf qr qc qp g0 ++ wX4 cI cZ cC qn gn ++ wX5 cI cZ cC qr out.2)) (va_A (wX7 cI cZ cC q0 qn qs qt qh qw qf qr qc qp g0 ++ wX4 cI cZ cC qn gn ++ wX5 cI cZ cC qr gr) sz)) 0 0 (va_A (wX7 cI cZ cC q0 qn qs qt qh qw qf qr qc qp g0 ++ wX4 cI cZ cC qn gn ++ wX5 cI cZ cC qr gr) sz) := by
  refine Met.ofW (cc := cX7_longest) (maxL := 2) (ret := (some .int)) (by decide) rfl ?_
  intro p e s m args below meth c s₁ B hml hv
  obtain ⟨hargs, hsz, hP, hK, hN, hD0⟩ := hv
  have hx := B.exec
  have hb := B.bytes
  have hr := B.returns
  have hts := atoms_spec (ws := wsX7_longest) B.pre
  have hown : s.vm.findClass RX7 = some m.cls := findClass_of_methodNamed B.named
  have hlocks := B.notSynchronized
  have hk0 := hts (.fieldLink RX7 43 "RimGrains" "trees" "LRimGrains$Trees;") (by decide +kernel)
  have hk1 := hts (.fieldLink RX7 12 "RimGrains" "now" "LRimGrains$State;") (by decide +kernel)
  have hin7 : ∀ w ∈ wsX70, w ∈ wsX7_longest := by decide +kernel
  subst hsz
  have hD := hD0.self (sz := s.heap.size)
  generalize hAe : va_A (wX7 cI cZ cC q0 qn qs qt qh qw qf qr qc qp g0 ++ wX4 cI cZ cC qn gn ++ wX5 cI cZ cC qr gr) s.heap.size = A at hD ⊢
  have hA : ∀ q : Nat, s.heap.size ≤ q → A q := fun q h => by rw [← hAe]; exact Or.inr h
  have hS : va_S A s.heap s.heap [] := va_S.rf
  have hE := lg_entry_eq m [.ref (q0 0), .int a1] 2
  rw [← hargs] at hE
  rw [hE]
  have hl := lv_entry [.ref (q0 0), .int a1] (n := 2) (Nat.le_of_ble_eq_true rfl)
  generalize (lg_sl [.ref (q0 0), .int a1] ++ List.replicate (2 - (lg_sl [.ref (q0 0), .int a1]).length) Slot.unset).toArray = ls at hl ⊢
  have hl : lv_has ls 2 [(0, .ref (q0 0)), (1, .int a1)] := hl
  have hP : va_P (dC, dI) vwCl (wX7 cI cZ cC q0 qn qs qt qh qw qf qr qc qp g0 ++ wX4 cI cZ cC qn gn ++ wX5 cI cZ cC qr gr) s.heap := hP
  unfold fX7_longest at hf
  refine lv_iload_n hx hb dX7_longest_0 rfl (lv_at hl 1 rfl) ?_
  refine lv_if_lt (tgt := 9) hx hb dX7_longest_1 (by decide) (fun hc => ?_) (fun hc => ?_)
  · have hf := ot hc hf
    refine lv_iconst (v := (-1)) hx hb dX7_longest_9 (by decide) ?_
    obtain rfl := Option.some.inj hf
    exact W.iret (v := (-1)) hx hb hr (fun t ht hW => ⟨⟨_, (), rfl, rfl, by rw [ht]; exact hP, hD⟩, hS.F ht⟩) hS.2.2 dX7_longest_10
  · have hf := oe hc hf
    refine lv_iload_n hx hb dX7_longest_4 rfl (lv_at hl 1 rfl) ?_
    refine lv_iconst (v := 1) hx hb dX7_longest_5 (by decide) ?_
    refine lv_icmp_le (tgt := 11) hx hb dX7_longest_6 (by decide) (fun hc => ?_) (fun hc => ?_)
    · have hf := ot hc hf
      refine lv_iload_n hx hb dX7_longest_11 rfl (lv_at hl 1 rfl) ?_
      refine lv_if_ne (tgt := 23) hx hb dX7_longest_12 (by decide) (fun hc => ?_) (fun hc => ?_)
      · have hf := oe hc hf
        refine lv_aload_n hx hb dX7_longest_23 rfl (lv_at hl 0 rfl) ?_
        refine va_get (D := (dC, dI)) (ci := 6) (v := .ref (qr 0)) (C := RX7) (T := TX7) (N := 14) hx hb hts hin7 hown hK hP 0 rfl rfl 6 (by decide) hk0 (fun _ h9 => h9) rfl dX7_longest_24 ?_
        refine lv_aload_n hx hb dX7_longest_27 rfl (lv_at hl 0 rfl) ?_
        refine va_get (D := (dC, dI)) (ci := 6) (v := .ref (qn 0)) (C := RX7) (T := TX7) (N := 14) hx hb hts hin7 hown hK hP 0 rfl rfl 0 (by decide) hk1 (fun _ h9 => h9) rfl dX7_longest_28 ?_
        obtain ⟨o31, ho31, hf⟩ := ob hf
        refine wVv (W1 := (fun _ : Unit => (wX7 cI cZ cC q0 qn qs qt qh qw qf qr qc qp g0 ++ wX4 cI cZ cC qn gn ++ wX5 cI cZ cC qr o31))) (rest := []) (As := [.ref (qn 0)]) ⟨hx, hb, hml, hown, hts⟩ (mX5_read l dC dI cI cZ cC cO qr qn _ _ _ _ ho31) (cwV 1 hts gX7_longest_X5_read rfl rfl rfl (by decide +kernel) ⟨Nat.le_of_ble_eq_true rfl, Nat.le_of_ble_eq_true rfl⟩) hK hN hP hD hS hA [7, 8, 9, 10, 11, 12, 13, 1, 2, 3, 4, 5, 6] [0] [0, 8, 9, 10, 11, 12, 13, 1, 2, 3, 4, 5, 6, 7] rfl rfl (by decide) (by decide) (fun _ => rfl) 4 rfl rfl rfl rfl hl.1 rfl (Nat.le_of_ble_eq_true rfl) dX7_longest_31 ⟨Nat.zero_le _, Nat.zero_le _⟩ (fun _ H locs hP hD hS => ?_)
        have hP : va_P (dC, dI) vwCl (wX7 cI cZ cC q0 qn qs qt qh qw qf qr qc qp g0 ++ wX4 cI cZ cC qn gn ++ wX5 cI cZ cC qr o31) H := hP
        have hD : va_D A (wX7 cI cZ cC q0 qn qs qt qh qw qf qr qc qp g0 ++ wX4 cI cZ cC qn gn ++ wX5 cI cZ cC qr o31) := hD
        refine lv_aload_n hx hb dX7_longest_34 rfl (lv_at hl 0 rfl) ?_
        refine va_get (D := (dC, dI)) (ci := 6) (v := .ref (qr 0)) (C := RX7) (T := TX7) (N := 14) hx hb hts hin7 hown hK hP 0 rfl rfl 6 (by decide) hk0 (fun _ h9 => h9) rfl dX7_longest_35 ?_
        obtain ⟨o38, ho38, hf⟩ := ob hf
        refine rV (rest := []) (As := []) ⟨hx, hb, hml, hown, hts⟩ (mX5_longestOfHeights l dC dI cI cZ cC cO qr _ _ ho38) (cwV 0 hts gX7_longest_X5_longestOfHeights rfl rfl rfl (by decide +kernel) ⟨Nat.le_of_ble_eq_true rfl, Nat.le_of_ble_eq_true rfl⟩) hK hN hP [7, 8, 9, 10, 11, 12, 13] rfl 4 rfl rfl rfl rfl hl.1 rfl (Nat.le_of_ble_eq_true rfl) dX7_longest_38 ⟨Nat.zero_le _, Nat.zero_le _⟩ ?_
        obtain rfl := Option.some.inj hf
        exact W.iret (v := o38) hx hb hr (fun t ht hW => ⟨⟨_, (), rfl, rfl, by rw [ht]; exact hP, hD⟩, hS.F ht⟩) hS.2.2 dX7_longest_41
      · have hf := ot hc hf
        refine lv_aload_n hx hb dX7_longest_15 rfl (lv_at hl 0 rfl) ?_
        refine va_get (D := (dC, dI)) (ci := 6) (v := .ref (qn 0)) (C := RX7) (T := TX7) (N := 14) hx hb hts hin7 hown hK hP 0 rfl rfl 0 (by decide) hk1 (fun _ h9 => h9) rfl dX7_longest_16 ?_
        obtain ⟨o19, ho19, hf⟩ := ob hf
        refine rV (rest := []) (As := []) ⟨hx, hb, hml, hown, hts⟩ (mX4_longestOfPairs l dC dI cI cZ cC cO qn _ _ ho19) (cwV 0 hts gX7_longest_X4_longestOfPairs rfl rfl rfl (by decide +kernel) ⟨Nat.le_of_ble_eq_true rfl, Nat.le_of_ble_eq_true rfl⟩) hK hN hP [1, 2, 3, 4, 5, 6] rfl 3 rfl rfl rfl rfl hl.1 rfl (Nat.le_of_ble_eq_true rfl) dX7_longest_19 ⟨Nat.zero_le _, Nat.zero_le _⟩ ?_
        obtain rfl := Option.some.inj hf
        exact W.iret (v := o19) hx hb hr (fun t ht hW => ⟨⟨_, (), rfl, rfl, by rw [ht]; exact hP, hD⟩, hS.F ht⟩) hS.2.2 dX7_longest_22
    · have hf := oe hc hf
      refine lv_iconst (v := (-1)) hx hb dX7_longest_9 (by decide) ?_
      obtain rfl := Option.some.inj hf
      exact W.iret (v := (-1)) hx hb hr (fun t ht hW => ⟨⟨_, (), rfl, rfl, by rw [ht]; exact hP, hD⟩, hS.F ht⟩) hS.2.2 dX7_longest_10
set_option maxHeartbeats 4000000 in
set_option maxRecDepth 100000 in
theorem mX7_bestCatcher (l : Launch) (dC : Nat → ClassId) (dI : Nat → Nat → Nat) (cI cZ cC cO : ClassId) (q0 : Nat → Nat) (qn : Nat → Nat) (qs : Nat → Nat) (qt : Nat → Nat) (qh : Nat → Nat) (qw : Nat → Nat) (qf : Nat → Nat) (qr : Nat → Nat) (qc : Nat → Nat) (qp : Nat → Nat) (g0 : GX7) (gn : GX4) (gc : GX3) (sz : Nat) (out : Int32 × GX3) (hf : fX7_bestCatcher g0 gn gc = some out) : Met l yX7_bestCatcher wsX7_bestCatcher rmX7_bestCatcher (va_Pc [.ref (q0 0)] (pcW (dC, dI) (wTys cI cZ cC cO) sz (wX7 cI cZ cC q0 qn qs qt qh qw qf qr qc qp g0 ++ wX4 cI cZ cC qn gn ++ wX3 cI cZ cC qc gc))) (va_Qi (fun r (_ : Unit) => r = out.1) (fun _ => poW (dC, dI) (va_A (wX7 cI cZ cC q0 qn qs qt qh qw qf qr qc qp g0 ++ wX4 cI cZ cC qn gn ++ wX3 cI cZ cC qc gc) sz) (wX7 cI cZ cC q0 qn qs qt qh qw qf qr qc qp g0 ++ wX4 cI cZ cC qn gn ++ wX3 cI cZ cC qc out.2)) (va_A (wX7 cI cZ cC q0 qn qs qt qh qw qf qr qc qp g0 ++ wX4 cI cZ cC qn gn ++ wX3 cI cZ cC qc gc) sz)) 0 0 (va_A (wX7 cI cZ cC q0 qn qs qt qh qw qf qr qc qp g0 ++ wX4 cI cZ cC qn gn ++ wX3 cI cZ cC qc gc) sz) := by
  refine Met.ofW (cc := cX7_bestCatcher) (maxL := 1) (ret := (some .int)) (by decide) rfl ?_
  intro p e s m args below meth c s₁ B hml hv
  obtain ⟨hargs, hsz, hP, hK, hN, hD0⟩ := hv
  have hx := B.exec
  have hb := B.bytes
  have hr := B.returns
  have hts := atoms_spec (ws := wsX7_bestCatcher) B.pre
  have hown : s.vm.findClass RX7 = some m.cls := findClass_of_methodNamed B.named
  have hlocks := B.notSynchronized
  have hk0 := hts (.fieldLink RX7 50 "RimGrains" "screening" "LRimGrains$Screens;") (by decide +kernel)
  have hk1 := hts (.fieldLink RX7 12 "RimGrains" "now" "LRimGrains$State;") (by decide +kernel)
  have hin7 : ∀ w ∈ wsX70, w ∈ wsX7_bestCatcher := by decide +kernel
  subst hsz
  have hD := hD0.self (sz := s.heap.size)
  generalize hAe : va_A (wX7 cI cZ cC q0 qn qs qt qh qw qf qr qc qp g0 ++ wX4 cI cZ cC qn gn ++ wX3 cI cZ cC qc gc) s.heap.size = A at hD ⊢
  have hA : ∀ q : Nat, s.heap.size ≤ q → A q := fun q h => by rw [← hAe]; exact Or.inr h
  have hS : va_S A s.heap s.heap [] := va_S.rf
  have hE := lg_entry_eq m [.ref (q0 0)] 1
  rw [← hargs] at hE
  rw [hE]
  have hl := lv_entry [.ref (q0 0)] (n := 1) (Nat.le_of_ble_eq_true rfl)
  generalize (lg_sl [.ref (q0 0)] ++ List.replicate (1 - (lg_sl [.ref (q0 0)]).length) Slot.unset).toArray = ls at hl ⊢
  have hl : lv_has ls 1 [(0, .ref (q0 0))] := hl
  have hP : va_P (dC, dI) vwCl (wX7 cI cZ cC q0 qn qs qt qh qw qf qr qc qp g0 ++ wX4 cI cZ cC qn gn ++ wX3 cI cZ cC qc gc) s.heap := hP
  unfold fX7_bestCatcher at hf
  refine lv_aload_n hx hb dX7_bestCatcher_0 rfl (lv_at hl 0 rfl) ?_
  refine va_get (D := (dC, dI)) (ci := 6) (v := .ref (qc 0)) (C := RX7) (T := TX7) (N := 14) hx hb hts hin7 hown hK hP 0 rfl rfl 7 (by decide) hk0 (fun _ h9 => h9) rfl dX7_bestCatcher_1 ?_
  refine lv_aload_n hx hb dX7_bestCatcher_4 rfl (lv_at hl 0 rfl) ?_
  refine va_get (D := (dC, dI)) (ci := 6) (v := .ref (qn 0)) (C := RX7) (T := TX7) (N := 14) hx hb hts hin7 hown hK hP 0 rfl rfl 0 (by decide) hk1 (fun _ h9 => h9) rfl dX7_bestCatcher_5 ?_
  obtain ⟨o8, ho8, hf⟩ := ob hf
  refine wVv (W1 := (fun _ : Unit => (wX7 cI cZ cC q0 qn qs qt qh qw qf qr qc qp g0 ++ wX4 cI cZ cC qn gn ++ wX3 cI cZ cC qc o8))) (rest := []) (As := [.ref (qn 0)]) ⟨hx, hb, hml, hown, hts⟩ (mX3_read l dC dI cI cZ cC cO qc qn _ _ _ _ ho8) (cwV 1 hts gX7_bestCatcher_X3_read rfl rfl rfl (by decide +kernel) ⟨Nat.le_of_ble_eq_true rfl, Nat.le_of_ble_eq_true rfl⟩) hK hN hP hD hS hA [7, 8, 1, 2, 3, 4, 5, 6] [0] [0, 3, 4, 5, 6, 7, 8, 1, 2] rfl rfl (by decide) (by decide) (fun _ => rfl) 2 rfl rfl rfl rfl hl.1 rfl (Nat.le_of_ble_eq_true rfl) dX7_bestCatcher_8 ⟨Nat.zero_le _, Nat.zero_le _⟩ (fun _ H locs hP hD hS => ?_)
  have hP : va_P (dC, dI) vwCl (wX7 cI cZ cC q0 qn qs qt qh qw qf qr qc qp g0 ++ wX4 cI cZ cC qn gn ++ wX3 cI cZ cC qc o8) H := hP
  have hD : va_D A (wX7 cI cZ cC q0 qn qs qt qh qw qf qr qc qp g0 ++ wX4 cI cZ cC qn gn ++ wX3 cI cZ cC qc o8) := hD
  refine lv_aload_n hx hb dX7_bestCatcher_11 rfl (lv_at hl 0 rfl) ?_
  refine va_get (D := (dC, dI)) (ci := 6) (v := .ref (qc 0)) (C := RX7) (T := TX7) (N := 14) hx hb hts hin7 hown hK hP 0 rfl rfl 7 (by decide) hk0 (fun _ h9 => h9) rfl dX7_bestCatcher_12 ?_
  obtain ⟨o15, ho15, hf⟩ := ob hf
  refine rV (rest := []) (As := []) ⟨hx, hb, hml, hown, hts⟩ (mX3_bestGrain l dC dI cI cZ cC cO qc _ _ ho15) (cwV 0 hts gX7_bestCatcher_X3_bestGrain rfl rfl rfl (by decide +kernel) ⟨Nat.le_of_ble_eq_true rfl, Nat.le_of_ble_eq_true rfl⟩) hK hN hP [7, 8] rfl 2 rfl rfl rfl rfl hl.1 rfl (Nat.le_of_ble_eq_true rfl) dX7_bestCatcher_15 ⟨Nat.zero_le _, Nat.zero_le _⟩ ?_
  obtain rfl := Option.some.inj hf
  exact W.iret (v := o15) hx hb hr (fun t ht hW => ⟨⟨_, (), rfl, rfl, by rw [ht]; exact hP, hD⟩, hS.F ht⟩) hS.2.2 dX7_bestCatcher_18
set_option maxHeartbeats 4000000 in
set_option maxRecDepth 100000 in
theorem mX7_countOfTrees (l : Launch) (dC : Nat → ClassId) (dI : Nat → Nat → Nat) (cI cZ cC cO : ClassId) (q0 : Nat → Nat) (qn : Nat → Nat) (qs : Nat → Nat) (qt : Nat → Nat) (qh : Nat → Nat) (qw : Nat → Nat) (qf : Nat → Nat) (qr : Nat → Nat) (qc : Nat → Nat) (qp : Nat → Nat) (a1 : Int32) (g0 : GX7) (gn : GX4) (gr : GX5) (sz : Nat) (out : Int32 × GX5) (hf : fX7_countOfTrees a1 g0 gn gr = some out) : Met l yX7_countOfTrees wsX7_countOfTrees rmX7_countOfTrees (va_Pc [.ref (q0 0), .int a1] (pcW (dC, dI) (wTys cI cZ cC cO) sz (wX7 cI cZ cC q0 qn qs qt qh qw qf qr qc qp g0 ++ wX4 cI cZ cC qn gn ++ wX5 cI cZ cC qr gr))) (va_Qi (fun r (_ : Unit) => r = out.1) (fun _ => poW (dC, dI) (va_A (wX7 cI cZ cC q0 qn qs qt qh qw qf qr qc qp g0 ++ wX4 cI cZ cC qn gn ++ wX5 cI cZ cC qr gr) sz) (wX7 cI cZ cC q0 qn qs qt qh qw qf qr qc qp g0 ++ wX4 cI cZ cC qn gn ++ wX5 cI cZ cC qr out.2)) (va_A (wX7 cI cZ cC q0 qn qs qt qh qw qf qr qc qp g0 ++ wX4 cI cZ cC qn gn ++ wX5 cI cZ cC qr gr) sz)) 0 0 (va_A (wX7 cI cZ cC q0 qn qs qt qh qw qf qr qc qp g0 ++ wX4 cI cZ cC qn gn ++ wX5 cI cZ cC qr gr) sz) := by
  refine Met.ofW (cc := cX7_countOfTrees) (maxL := 2) (ret := (some .int)) (by decide) rfl ?_
  intro p e s m args below meth c s₁ B hml hv
  obtain ⟨hargs, hsz, hP, hK, hN, hD0⟩ := hv
  have hx := B.exec
  have hb := B.bytes
  have hr := B.returns
  have hts := atoms_spec (ws := wsX7_countOfTrees) B.pre
  have hown : s.vm.findClass RX7 = some m.cls := findClass_of_methodNamed B.named
  have hlocks := B.notSynchronized
  have hk0 := hts (.fieldLink RX7 43 "RimGrains" "trees" "LRimGrains$Trees;") (by decide +kernel)
  have hk1 := hts (.fieldLink RX7 12 "RimGrains" "now" "LRimGrains$State;") (by decide +kernel)
  have hin7 : ∀ w ∈ wsX70, w ∈ wsX7_countOfTrees := by decide +kernel
  subst hsz
  have hD := hD0.self (sz := s.heap.size)
  generalize hAe : va_A (wX7 cI cZ cC q0 qn qs qt qh qw qf qr qc qp g0 ++ wX4 cI cZ cC qn gn ++ wX5 cI cZ cC qr gr) s.heap.size = A at hD ⊢
  have hA : ∀ q : Nat, s.heap.size ≤ q → A q := fun q h => by rw [← hAe]; exact Or.inr h
  have hS : va_S A s.heap s.heap [] := va_S.rf
  have hE := lg_entry_eq m [.ref (q0 0), .int a1] 2
  rw [← hargs] at hE
  rw [hE]
  have hl := lv_entry [.ref (q0 0), .int a1] (n := 2) (Nat.le_of_ble_eq_true rfl)
  generalize (lg_sl [.ref (q0 0), .int a1] ++ List.replicate (2 - (lg_sl [.ref (q0 0), .int a1]).length) Slot.unset).toArray = ls at hl ⊢
  have hl : lv_has ls 2 [(0, .ref (q0 0)), (1, .int a1)] := hl
  have hP : va_P (dC, dI) vwCl (wX7 cI cZ cC q0 qn qs qt qh qw qf qr qc qp g0 ++ wX4 cI cZ cC qn gn ++ wX5 cI cZ cC qr gr) s.heap := hP
  unfold fX7_countOfTrees at hf
  refine lv_aload_n hx hb dX7_countOfTrees_0 rfl (lv_at hl 0 rfl) ?_
  refine va_get (D := (dC, dI)) (ci := 6) (v := .ref (qr 0)) (C := RX7) (T := TX7) (N := 14) hx hb hts hin7 hown hK hP 0 rfl rfl 6 (by decide) hk0 (fun _ h9 => h9) rfl dX7_countOfTrees_1 ?_
  refine lv_aload_n hx hb dX7_countOfTrees_4 rfl (lv_at hl 0 rfl) ?_
  refine va_get (D := (dC, dI)) (ci := 6) (v := .ref (qn 0)) (C := RX7) (T := TX7) (N := 14) hx hb hts hin7 hown hK hP 0 rfl rfl 0 (by decide) hk1 (fun _ h9 => h9) rfl dX7_countOfTrees_5 ?_
  obtain ⟨o8, ho8, hf⟩ := ob hf
  refine wVv (W1 := (fun _ : Unit => (wX7 cI cZ cC q0 qn qs qt qh qw qf qr qc qp g0 ++ wX4 cI cZ cC qn gn ++ wX5 cI cZ cC qr o8))) (rest := []) (As := [.ref (qn 0)]) ⟨hx, hb, hml, hown, hts⟩ (mX5_read l dC dI cI cZ cC cO qr qn _ _ _ _ ho8) (cwV 1 hts gX7_countOfTrees_X5_read rfl rfl rfl (by decide +kernel) ⟨Nat.le_of_ble_eq_true rfl, Nat.le_of_ble_eq_true rfl⟩) hK hN hP hD hS hA [7, 8, 9, 10, 11, 12, 13, 1, 2, 3, 4, 5, 6] [0] [0, 8, 9, 10, 11, 12, 13, 1, 2, 3, 4, 5, 6, 7] rfl rfl (by decide) (by decide) (fun _ => rfl) 4 rfl rfl rfl rfl hl.1 rfl (Nat.le_of_ble_eq_true rfl) dX7_countOfTrees_8 ⟨Nat.zero_le _, Nat.zero_le _⟩ (fun _ H locs hP hD hS => ?_)
  have hP : va_P (dC, dI) vwCl (wX7 cI cZ cC q0 qn qs qt qh qw qf qr qc qp g0 ++ wX4 cI cZ cC qn gn ++ wX5 cI cZ cC qr o8) H := hP
  have hD : va_D A (wX7 cI cZ cC q0 qn qs qt qh qw qf qr qc qp g0 ++ wX4 cI cZ cC qn gn ++ wX5 cI cZ cC qr o8) := hD
  refine lv_iload_n hx hb dX7_countOfTrees_11 rfl (lv_at hl 1 rfl) ?_
  by_cases hs12_1 : a1 = 1
  · have hf := ot hs12_1 hf
    refine lv_tableIn (off := 28) (tgt := 40) hx hb dX7_countOfTrees_12 (by rw [hs12_1]; decide) (by rw [hs12_1]; decide) (by rw [hs12_1]; rfl) (by decide) ?_
    refine lv_aload_n hx hb dX7_countOfTrees_40 rfl (lv_at hl 0 rfl) ?_
    refine va_get (D := (dC, dI)) (ci := 6) (v := .ref (qr 0)) (C := RX7) (T := TX7) (N := 14) hx hb hts hin7 hown hK hP 0 rfl rfl 6 (by decide) hk0 (fun _ h9 => h9) rfl dX7_countOfTrees_41 ?_
    obtain ⟨o44, ho44, hf⟩ := ob hf
    refine rV (rest := []) (As := []) ⟨hx, hb, hml, hown, hts⟩ (mX5_rootGrains l dC dI cI cZ cC cO qr _ _ ho44) (cwV 0 hts gX7_countOfTrees_X5_rootGrains rfl rfl rfl (by decide +kernel) ⟨Nat.le_of_ble_eq_true rfl, Nat.le_of_ble_eq_true rfl⟩) hK hN hP [7, 8, 9, 10, 11, 12, 13] rfl 4 rfl rfl rfl rfl hl.1 rfl (Nat.le_of_ble_eq_true rfl) dX7_countOfTrees_44 ⟨Nat.zero_le _, Nat.zero_le _⟩ ?_
    obtain rfl := Option.some.inj hf
    exact W.iret (v := o44) hx hb hr (fun t ht hW => ⟨⟨_, (), rfl, rfl, by rw [ht]; exact hP, hD⟩, hS.F ht⟩) hS.2.2 dX7_countOfTrees_47
  have hf := oe hs12_1 hf
  by_cases hs12_2 : a1 = 2
  · have hf := ot hs12_2 hf
    refine lv_tableIn (off := 36) (tgt := 48) hx hb dX7_countOfTrees_12 (by rw [hs12_2]; decide) (by rw [hs12_2]; decide) (by rw [hs12_2]; rfl) (by decide) ?_
    refine lv_aload_n hx hb dX7_countOfTrees_48 rfl (lv_at hl 0 rfl) ?_
    refine va_get (D := (dC, dI)) (ci := 6) (v := .ref (qr 0)) (C := RX7) (T := TX7) (N := 14) hx hb hts hin7 hown hK hP 0 rfl rfl 6 (by decide) hk0 (fun _ h9 => h9) rfl dX7_countOfTrees_49 ?_
    refine lv_iconst (v := 0) hx hb dX7_countOfTrees_52 (by decide) ?_
    refine lv_iconst (v := 0) hx hb dX7_countOfTrees_53 (by decide) ?_
    obtain ⟨o54, ho54, hf⟩ := ob hf
    refine rV (rest := []) (As := [.int 0, .int 0]) ⟨hx, hb, hml, hown, hts⟩ (mX5_grainsHeldBy l dC dI cI cZ cC cO qr _ _ _ _ ho54) (cwV 2 hts gX7_countOfTrees_X5_grainsHeldBy rfl rfl rfl (by decide +kernel) ⟨Nat.le_of_ble_eq_true rfl, Nat.le_of_ble_eq_true rfl⟩) hK hN hP [7, 8, 9, 10, 11, 12, 13] rfl 4 rfl rfl rfl rfl hl.1 rfl (Nat.le_of_ble_eq_true rfl) dX7_countOfTrees_54 ⟨Nat.zero_le _, Nat.zero_le _⟩ ?_
    obtain rfl := Option.some.inj hf
    exact W.iret (v := o54) hx hb hr (fun t ht hW => ⟨⟨_, (), rfl, rfl, by rw [ht]; exact hP, hD⟩, hS.F ht⟩) hS.2.2 dX7_countOfTrees_57
  have hf := oe hs12_2 hf
  by_cases hs12_3 : a1 = 3
  · have hf := ot hs12_3 hf
    refine lv_tableIn (off := 46) (tgt := 58) hx hb dX7_countOfTrees_12 (by rw [hs12_3]; decide) (by rw [hs12_3]; decide) (by rw [hs12_3]; rfl) (by decide) ?_
    refine lv_aload_n hx hb dX7_countOfTrees_58 rfl (lv_at hl 0 rfl) ?_
    refine va_get (D := (dC, dI)) (ci := 6) (v := .ref (qr 0)) (C := RX7) (T := TX7) (N := 14) hx hb hts hin7 hown hK hP 0 rfl rfl 6 (by decide) hk0 (fun _ h9 => h9) rfl dX7_countOfTrees_59 ?_
    refine lv_iconst (v := 2) hx hb dX7_countOfTrees_62 (by decide) ?_
    refine lv_iconst (v := 4) hx hb dX7_countOfTrees_63 (by decide) ?_
    obtain ⟨o64, ho64, hf⟩ := ob hf
    refine rV (rest := []) (As := [.int 2, .int 4]) ⟨hx, hb, hml, hown, hts⟩ (mX5_grainsHeldBy l dC dI cI cZ cC cO qr _ _ _ _ ho64) (cwV 2 hts gX7_countOfTrees_X5_grainsHeldBy rfl rfl rfl (by decide +kernel) ⟨Nat.le_of_ble_eq_true rfl, Nat.le_of_ble_eq_true rfl⟩) hK hN hP [7, 8, 9, 10, 11, 12, 13] rfl 4 rfl rfl rfl rfl hl.1 rfl (Nat.le_of_ble_eq_true rfl) dX7_countOfTrees_64 ⟨Nat.zero_le _, Nat.zero_le _⟩ ?_
    obtain rfl := Option.some.inj hf
    exact W.iret (v := o64) hx hb hr (fun t ht hW => ⟨⟨_, (), rfl, rfl, by rw [ht]; exact hP, hD⟩, hS.F ht⟩) hS.2.2 dX7_countOfTrees_67
  have hf := oe hs12_3 hf
  have hs12_1T := lv_neT (a := 1) hs12_1 rfl
  have hs12_2T := lv_neT (a := 2) hs12_2 rfl
  have hs12_3T := lv_neT (a := 3) hs12_3 rfl
  refine lv_tableOut (tgt := 68) hx hb dX7_countOfTrees_12 (by omega) (by decide) ?_
  refine lv_aload_n hx hb dX7_countOfTrees_68 rfl (lv_at hl 0 rfl) ?_
  refine va_get (D := (dC, dI)) (ci := 6) (v := .ref (qr 0)) (C := RX7) (T := TX7) (N := 14) hx hb hts hin7 hown hK hP 0 rfl rfl 6 (by decide) hk0 (fun _ h9 => h9) rfl dX7_countOfTrees_69 ?_
  obtain ⟨o72, ho72, hf⟩ := ob hf
  refine rV (rest := []) (As := []) ⟨hx, hb, hml, hown, hts⟩ (mX5_deepest l dC dI cI cZ cC cO qr _ _ ho72) (cwV 0 hts gX7_countOfTrees_X5_deepest rfl rfl rfl (by decide +kernel) ⟨Nat.le_of_ble_eq_true rfl, Nat.le_of_ble_eq_true rfl⟩) hK hN hP [7, 8, 9, 10, 11, 12, 13] rfl 4 rfl rfl rfl rfl hl.1 rfl (Nat.le_of_ble_eq_true rfl) dX7_countOfTrees_72 ⟨Nat.zero_le _, Nat.zero_le _⟩ ?_
  obtain rfl := Option.some.inj hf
  exact W.iret (v := o72) hx hb hr (fun t ht hW => ⟨⟨_, (), rfl, rfl, by rw [ht]; exact hP, hD⟩, hS.F ht⟩) hS.2.2 dX7_countOfTrees_75
set_option maxHeartbeats 4000000 in
set_option maxRecDepth 100000 in
theorem mX7_count (l : Launch) (dC : Nat → ClassId) (dI : Nat → Nat → Nat) (cI cZ cC cO : ClassId) (q0 : Nat → Nat) (qn : Nat → Nat) (qs : Nat → Nat) (qt : Nat → Nat) (qh : Nat → Nat) (qw : Nat → Nat) (qf : Nat → Nat) (qr : Nat → Nat) (qc : Nat → Nat) (qp : Nat → Nat) (a1 : Int32) (g0 : GX7) (gn : GX4) (gr : GX5) (gc : GX3) (gp : GX1) (sz : Nat) (out : Int32 × GX5 × GX3) (hf : fX7_count a1 g0 gn gr gc gp = some out) : Met l yX7_count wsX7_count rmX7_count (va_Pc [.ref (q0 0), .int a1] (pcW (dC, dI) (wTys cI cZ cC cO) sz (wX7 cI cZ cC q0 qn qs qt qh qw qf qr qc qp g0 ++ wX4 cI cZ cC qn gn ++ wX5 cI cZ cC qr gr ++ wX3 cI cZ cC qc gc ++ wX1 cI cZ cC qp gp))) (va_Qi (fun r (_ : Unit) => r = out.1) (fun _ => poW (dC, dI) (va_A (wX7 cI cZ cC q0 qn qs qt qh qw qf qr qc qp g0 ++ wX4 cI cZ cC qn gn ++ wX5 cI cZ cC qr gr ++ wX3 cI cZ cC qc gc ++ wX1 cI cZ cC qp gp) sz) (wX7 cI cZ cC q0 qn qs qt qh qw qf qr qc qp g0 ++ wX4 cI cZ cC qn gn ++ wX5 cI cZ cC qr out.2.1 ++ wX3 cI cZ cC qc out.2.2 ++ wX1 cI cZ cC qp gp)) (va_A (wX7 cI cZ cC q0 qn qs qt qh qw qf qr qc qp g0 ++ wX4 cI cZ cC qn gn ++ wX5 cI cZ cC qr gr ++ wX3 cI cZ cC qc gc ++ wX1 cI cZ cC qp gp) sz)) 0 0 (va_A (wX7 cI cZ cC q0 qn qs qt qh qw qf qr qc qp g0 ++ wX4 cI cZ cC qn gn ++ wX5 cI cZ cC qr gr ++ wX3 cI cZ cC qc gc ++ wX1 cI cZ cC qp gp) sz) := by
  refine Met.ofW (cc := cX7_count) (maxL := 2) (ret := (some .int)) (by decide) rfl ?_
  intro p e s m args below meth c s₁ B hml hv
  obtain ⟨hargs, hsz, hP, hK, hN, hD0⟩ := hv
  have hx := B.exec
  have hb := B.bytes
  have hr := B.returns
  have hts := atoms_spec (ws := wsX7_count) B.pre
  have hown : s.vm.findClass RX7 = some m.cls := findClass_of_methodNamed B.named
  have hlocks := B.notSynchronized
  have hk0 := hts (.fieldLink RX7 12 "RimGrains" "now" "LRimGrains$State;") (by decide +kernel)
  have hk1 := hN.f (args := args) 3 rfl
  have hk2 := hN.f (args := args) 6 rfl
  have hk3 := hN.f (args := args) 7 rfl
  have hk4 := hN.f (args := args) 8 rfl
  have hk5 := hN.f (args := args) 9 rfl
  have hk6 := hN.f (args := args) 5 rfl
  have hk7 := hts (.fieldLink RX7 57 "RimGrains" "pad" "LRimGrains$Pad;") (by decide +kernel)
  have hk8 := hN.f (args := args) 23 rfl
  have hk9 := hts (.fieldLink RX7 61 "RimGrains" "states" "I") (by decide +kernel)
  have hin7 : ∀ w ∈ wsX70, w ∈ wsX7_count := by decide +kernel
  have hin4 : ∀ w ∈ wsX40, w ∈ wsX7_count := by decide +kernel
  have hin1 : ∀ w ∈ wsX10, w ∈ wsX7_count := by decide +kernel
  subst hsz
  have hD := hD0.self (sz := s.heap.size)
  generalize hAe : va_A (wX7 cI cZ cC q0 qn qs qt qh qw qf qr qc qp g0 ++ wX4 cI cZ cC qn gn ++ wX5 cI cZ cC qr gr ++ wX3 cI cZ cC qc gc ++ wX1 cI cZ cC qp gp) s.heap.size = A at hD ⊢
  have hA : ∀ q : Nat, s.heap.size ≤ q → A q := fun q h => by rw [← hAe]; exact Or.inr h
  have hS : va_S A s.heap s.heap [] := va_S.rf
  have hE := lg_entry_eq m [.ref (q0 0), .int a1] 2
  rw [← hargs] at hE
  rw [hE]
  have hl := lv_entry [.ref (q0 0), .int a1] (n := 2) (Nat.le_of_ble_eq_true rfl)
  generalize (lg_sl [.ref (q0 0), .int a1] ++ List.replicate (2 - (lg_sl [.ref (q0 0), .int a1]).length) Slot.unset).toArray = ls at hl ⊢
  have hl : lv_has ls 2 [(0, .ref (q0 0)), (1, .int a1)] := hl
  have hP : va_P (dC, dI) vwCl (wX7 cI cZ cC q0 qn qs qt qh qw qf qr qc qp g0 ++ wX4 cI cZ cC qn gn ++ wX5 cI cZ cC qr gr ++ wX3 cI cZ cC qc gc ++ wX1 cI cZ cC qp gp) s.heap := hP
  unfold fX7_count at hf
  refine lv_iload_n hx hb dX7_count_0 rfl (lv_at hl 1 rfl) ?_
  refine lv_if_lt (tgt := 10) hx hb dX7_count_1 (by decide) (fun hc => ?_) (fun hc => ?_)
  · have hf := ot hc hf
    refine lv_iconst (v := (-1)) hx hb dX7_count_10 (by decide) ?_
    obtain rfl := Option.some.inj hf
    exact W.iret (v := (-1)) hx hb hr (fun t ht hW => ⟨⟨_, (), rfl, rfl, by rw [ht]; exact hP, hD⟩, hS.F ht⟩) hS.2.2 dX7_count_11
  · have hf := oe hc hf
    refine lv_iload_n hx hb dX7_count_4 rfl (lv_at hl 1 rfl) ?_
    refine lv_bipush (v := 19) hx hb dX7_count_5 (by decide) ?_
    refine lv_icmp_le (tgt := 12) hx hb dX7_count_7 (by decide) (fun hc => ?_) (fun hc => ?_)
    · have hf := ot hc hf
      refine lv_iload_n hx hb dX7_count_12 rfl (lv_at hl 1 rfl) ?_
      by_cases hs13_0 : a1 = 0
      · have hf := ot hs13_0 hf
        refine lv_tableIn (off := 95) (tgt := 108) hx hb dX7_count_13 (by rw [hs13_0]; decide) (by rw [hs13_0]; decide) (by rw [hs13_0]; rfl) (by decide) ?_
        refine lv_aload_n hx hb dX7_count_108 rfl (lv_at hl 0 rfl) ?_
        refine va_get (D := (dC, dI)) (ci := 6) (v := .ref (qn 0)) (C := RX7) (T := TX7) (N := 14) hx hb hts hin7 hown hK hP 0 rfl rfl 0 (by decide) hk0 (fun _ h9 => h9) rfl dX7_count_109 ?_
        refine va_getN (D := (dC, dI)) (ci := 3) (v := .int (pX4_grains gn)) (C := RX4) (T := TX4) (N := 11) hx hb hts hin4 hown hK hP 1 rfl rfl 5 (by decide) hk1 (fun _ h9 => h9) rfl dX7_count_112 ?_
        obtain rfl := Option.some.inj hf
        exact W.iret (v := (pX4_grains gn)) hx hb hr (fun t ht hW => ⟨⟨_, (), rfl, rfl, by rw [ht]; exact hP, hD⟩, hS.F ht⟩) hS.2.2 dX7_count_115
      have hf := oe hs13_0 hf
      by_cases hs13_1 : a1 = 1
      · have hf := ot hs13_1 hf
        refine lv_tableIn (off := 198) (tgt := 211) hx hb dX7_count_13 (by rw [hs13_1]; decide) (by rw [hs13_1]; decide) (by rw [hs13_1]; rfl) (by decide) ?_
        refine lv_aload_n hx hb dX7_count_211 rfl (lv_at hl 0 rfl) ?_
        refine lv_iload_n hx hb dX7_count_212 rfl (lv_at hl 1 rfl) ?_
        obtain ⟨o213, ho213, hf⟩ := ob hf
        refine wVi (W1 := (fun _ : Unit => (wX7 cI cZ cC q0 qn qs qt qh qw qf qr qc qp g0 ++ wX4 cI cZ cC qn gn ++ wX5 cI cZ cC qr o213.2 ++ wX3 cI cZ cC qc gc ++ wX1 cI cZ cC qp gp))) (rest := []) (As := [.int a1]) ⟨hx, hb, hml, hown, hts⟩ (mX7_countOfTrees l dC dI cI cZ cC cO q0 qn qs qt qh qw qf qr qc qp _ _ _ _ _ _ ho213) (cwV 1 hts gX7_count_X7_countOfTrees rfl rfl rfl (by decide +kernel) ⟨Nat.le_of_ble_eq_true rfl, Nat.le_of_ble_eq_true rfl⟩) hK hN hP hD hS hA [0, 1, 2, 3, 4, 5, 6, 7, 8, 9, 10, 11, 12, 13] [14, 15, 16, 17] [4, 5, 6, 7, 8, 9, 10, 11, 12, 13, 14, 15, 16, 17, 0, 1, 2, 3] rfl rfl (by decide) (by decide) (fun _ => rfl) 6 rfl rfl rfl rfl hl.1 rfl (Nat.le_of_ble_eq_true rfl) dX7_count_213 ⟨Nat.zero_le _, Nat.zero_le _⟩ (fun _ H locs hP hD hS => ?_)
        have hP : va_P (dC, dI) vwCl (wX7 cI cZ cC q0 qn qs qt qh qw qf qr qc qp g0 ++ wX4 cI cZ cC qn gn ++ wX5 cI cZ cC qr o213.2 ++ wX3 cI cZ cC qc gc ++ wX1 cI cZ cC qp gp) H := hP
        have hD : va_D A (wX7 cI cZ cC q0 qn qs qt qh qw qf qr qc qp g0 ++ wX4 cI cZ cC qn gn ++ wX5 cI cZ cC qr o213.2 ++ wX3 cI cZ cC qc gc ++ wX1 cI cZ cC qp gp) := hD
        obtain rfl := Option.some.inj hf
        exact W.iret (v := o213.1) hx hb hr (fun t ht hW => ⟨⟨_, (), rfl, rfl, by rw [ht]; exact hP, hD⟩, hS.F ht⟩) hS.2.2 dX7_count_216
      have hf := oe hs13_1 hf
      by_cases hs13_2 : a1 = 2
      · have hf := ot hs13_2 hf
        refine lv_tableIn (off := 198) (tgt := 211) hx hb dX7_count_13 (by rw [hs13_2]; decide) (by rw [hs13_2]; decide) (by rw [hs13_2]; rfl) (by decide) ?_
        refine lv_aload_n hx hb dX7_count_211 rfl (lv_at hl 0 rfl) ?_
        refine lv_iload_n hx hb dX7_count_212 rfl (lv_at hl 1 rfl) ?_
        obtain ⟨o213, ho213, hf⟩ := ob hf
        refine wVi (W1 := (fun _ : Unit => (wX7 cI cZ cC q0 qn qs qt qh qw qf qr qc qp g0 ++ wX4 cI cZ cC qn gn ++ wX5 cI cZ cC qr o213.2 ++ wX3 cI cZ cC qc gc ++ wX1 cI cZ cC qp gp))) (rest := []) (As := [.int a1]) ⟨hx, hb, hml, hown, hts⟩ (mX7_countOfTrees l dC dI cI cZ cC cO q0 qn qs qt qh qw qf qr qc qp _ _ _ _ _ _ ho213) (cwV 1 hts gX7_count_X7_countOfTrees rfl rfl rfl (by decide +kernel) ⟨Nat.le_of_ble_eq_true rfl, Nat.le_of_ble_eq_true rfl⟩) hK hN hP hD hS hA [0, 1, 2, 3, 4, 5, 6, 7, 8, 9, 10, 11, 12, 13] [14, 15, 16, 17] [4, 5, 6, 7, 8, 9, 10, 11, 12, 13, 14, 15, 16, 17, 0, 1, 2, 3] rfl rfl (by decide) (by decide) (fun _ => rfl) 6 rfl rfl rfl rfl hl.1 rfl (Nat.le_of_ble_eq_true rfl) dX7_count_213 ⟨Nat.zero_le _, Nat.zero_le _⟩ (fun _ H locs hP hD hS => ?_)
        have hP : va_P (dC, dI) vwCl (wX7 cI cZ cC q0 qn qs qt qh qw qf qr qc qp g0 ++ wX4 cI cZ cC qn gn ++ wX5 cI cZ cC qr o213.2 ++ wX3 cI cZ cC qc gc ++ wX1 cI cZ cC qp gp) H := hP
        have hD : va_D A (wX7 cI cZ cC q0 qn qs qt qh qw qf qr qc qp g0 ++ wX4 cI cZ cC qn gn ++ wX5 cI cZ cC qr o213.2 ++ wX3 cI cZ cC qc gc ++ wX1 cI cZ cC qp gp) := hD
        obtain rfl := Option.some.inj hf
        exact W.iret (v := o213.1) hx hb hr (fun t ht hW => ⟨⟨_, (), rfl, rfl, by rw [ht]; exact hP, hD⟩, hS.F ht⟩) hS.2.2 dX7_count_216
      have hf := oe hs13_2 hf
      by_cases hs13_3 : a1 = 3
      · have hf := ot hs13_3 hf
        refine lv_tableIn (off := 198) (tgt := 211) hx hb dX7_count_13 (by rw [hs13_3]; decide) (by rw [hs13_3]; decide) (by rw [hs13_3]; rfl) (by decide) ?_
        refine lv_aload_n hx hb dX7_count_211 rfl (lv_at hl 0 rfl) ?_
        refine lv_iload_n hx hb dX7_count_212 rfl (lv_at hl 1 rfl) ?_
        obtain ⟨o213, ho213, hf⟩ := ob hf
        refine wVi (W1 := (fun _ : Unit => (wX7 cI cZ cC q0 qn qs qt qh qw qf qr qc qp g0 ++ wX4 cI cZ cC qn gn ++ wX5 cI cZ cC qr o213.2 ++ wX3 cI cZ cC qc gc ++ wX1 cI cZ cC qp gp))) (rest := []) (As := [.int a1]) ⟨hx, hb, hml, hown, hts⟩ (mX7_countOfTrees l dC dI cI cZ cC cO q0 qn qs qt qh qw qf qr qc qp _ _ _ _ _ _ ho213) (cwV 1 hts gX7_count_X7_countOfTrees rfl rfl rfl (by decide +kernel) ⟨Nat.le_of_ble_eq_true rfl, Nat.le_of_ble_eq_true rfl⟩) hK hN hP hD hS hA [0, 1, 2, 3, 4, 5, 6, 7, 8, 9, 10, 11, 12, 13] [14, 15, 16, 17] [4, 5, 6, 7, 8, 9, 10, 11, 12, 13, 14, 15, 16, 17, 0, 1, 2, 3] rfl rfl (by decide) (by decide) (fun _ => rfl) 6 rfl rfl rfl rfl hl.1 rfl (Nat.le_of_ble_eq_true rfl) dX7_count_213 ⟨Nat.zero_le _, Nat.zero_le _⟩ (fun _ H locs hP hD hS => ?_)
        have hP : va_P (dC, dI) vwCl (wX7 cI cZ cC q0 qn qs qt qh qw qf qr qc qp g0 ++ wX4 cI cZ cC qn gn ++ wX5 cI cZ cC qr o213.2 ++ wX3 cI cZ cC qc gc ++ wX1 cI cZ cC qp gp) H := hP
        have hD : va_D A (wX7 cI cZ cC q0 qn qs qt qh qw qf qr qc qp g0 ++ wX4 cI cZ cC qn gn ++ wX5 cI cZ cC qr o213.2 ++ wX3 cI cZ cC qc gc ++ wX1 cI cZ cC qp gp) := hD
        obtain rfl := Option.some.inj hf
        exact W.iret (v := o213.1) hx hb hr (fun t ht hW => ⟨⟨_, (), rfl, rfl, by rw [ht]; exact hP, hD⟩, hS.F ht⟩) hS.2.2 dX7_count_216
      have hf := oe hs13_3 hf
      by_cases hs13_4 : a1 = 4
      · have hf := ot hs13_4 hf
        refine lv_tableIn (off := 198) (tgt := 211) hx hb dX7_count_13 (by rw [hs13_4]; decide) (by rw [hs13_4]; decide) (by rw [hs13_4]; rfl) (by decide) ?_
        refine lv_aload_n hx hb dX7_count_211 rfl (lv_at hl 0 rfl) ?_
        refine lv_iload_n hx hb dX7_count_212 rfl (lv_at hl 1 rfl) ?_
        obtain ⟨o213, ho213, hf⟩ := ob hf
        refine wVi (W1 := (fun _ : Unit => (wX7 cI cZ cC q0 qn qs qt qh qw qf qr qc qp g0 ++ wX4 cI cZ cC qn gn ++ wX5 cI cZ cC qr o213.2 ++ wX3 cI cZ cC qc gc ++ wX1 cI cZ cC qp gp))) (rest := []) (As := [.int a1]) ⟨hx, hb, hml, hown, hts⟩ (mX7_countOfTrees l dC dI cI cZ cC cO q0 qn qs qt qh qw qf qr qc qp _ _ _ _ _ _ ho213) (cwV 1 hts gX7_count_X7_countOfTrees rfl rfl rfl (by decide +kernel) ⟨Nat.le_of_ble_eq_true rfl, Nat.le_of_ble_eq_true rfl⟩) hK hN hP hD hS hA [0, 1, 2, 3, 4, 5, 6, 7, 8, 9, 10, 11, 12, 13] [14, 15, 16, 17] [4, 5, 6, 7, 8, 9, 10, 11, 12, 13, 14, 15, 16, 17, 0, 1, 2, 3] rfl rfl (by decide) (by decide) (fun _ => rfl) 6 rfl rfl rfl rfl hl.1 rfl (Nat.le_of_ble_eq_true rfl) dX7_count_213 ⟨Nat.zero_le _, Nat.zero_le _⟩ (fun _ H locs hP hD hS => ?_)
        have hP : va_P (dC, dI) vwCl (wX7 cI cZ cC q0 qn qs qt qh qw qf qr qc qp g0 ++ wX4 cI cZ cC qn gn ++ wX5 cI cZ cC qr o213.2 ++ wX3 cI cZ cC qc gc ++ wX1 cI cZ cC qp gp) H := hP
        have hD : va_D A (wX7 cI cZ cC q0 qn qs qt qh qw qf qr qc qp g0 ++ wX4 cI cZ cC qn gn ++ wX5 cI cZ cC qr o213.2 ++ wX3 cI cZ cC qc gc ++ wX1 cI cZ cC qp gp) := hD
        obtain rfl := Option.some.inj hf
        exact W.iret (v := o213.1) hx hb hr (fun t ht hW => ⟨⟨_, (), rfl, rfl, by rw [ht]; exact hP, hD⟩, hS.F ht⟩) hS.2.2 dX7_count_216
      have hf := oe hs13_4 hf
      by_cases hs13_5 : a1 = 5
      · have hf := ot hs13_5 hf
        refine lv_tableIn (off := 103) (tgt := 116) hx hb dX7_count_13 (by rw [hs13_5]; decide) (by rw [hs13_5]; decide) (by rw [hs13_5]; rfl) (by decide) ?_
        refine lv_aload_n hx hb dX7_count_116 rfl (lv_at hl 0 rfl) ?_
        refine va_get (D := (dC, dI)) (ci := 6) (v := .ref (qn 0)) (C := RX7) (T := TX7) (N := 14) hx hb hts hin7 hown hK hP 0 rfl rfl 0 (by decide) hk0 (fun _ h9 => h9) rfl dX7_count_117 ?_
        obtain ⟨o120, ho120, hf⟩ := ob hf
        refine rV (rest := []) (As := []) ⟨hx, hb, hml, hown, hts⟩ (mX4_reach l dC dI cI cZ cC cO qn _ _ ho120) (cwV 0 hts gX7_count_X4_reach rfl rfl rfl (by decide +kernel) ⟨Nat.le_of_ble_eq_true rfl, Nat.le_of_ble_eq_true rfl⟩) hK hN hP [1, 2, 3, 4, 5, 6] rfl 3 rfl rfl rfl rfl hl.1 rfl (Nat.le_of_ble_eq_true rfl) dX7_count_120 ⟨Nat.zero_le _, Nat.zero_le _⟩ ?_
        obtain rfl := Option.some.inj hf
        exact W.iret (v := o120) hx hb hr (fun t ht hW => ⟨⟨_, (), rfl, rfl, by rw [ht]; exact hP, hD⟩, hS.F ht⟩) hS.2.2 dX7_count_123
      have hf := oe hs13_5 hf
      by_cases hs13_6 : a1 = 6
      · have hf := ot hs13_6 hf
        refine lv_tableIn (off := 111) (tgt := 124) hx hb dX7_count_13 (by rw [hs13_6]; decide) (by rw [hs13_6]; decide) (by rw [hs13_6]; rfl) (by decide) ?_
        refine lv_aload_n hx hb dX7_count_124 rfl (lv_at hl 0 rfl) ?_
        refine va_get (D := (dC, dI)) (ci := 6) (v := .ref (qn 0)) (C := RX7) (T := TX7) (N := 14) hx hb hts hin7 hown hK hP 0 rfl rfl 0 (by decide) hk0 (fun _ h9 => h9) rfl dX7_count_125 ?_
        obtain ⟨o128, ho128, hf⟩ := ob hf
        refine rV (rest := []) (As := []) ⟨hx, hb, hml, hown, hts⟩ (mX4_freeCellsBeside l dC dI cI cZ cC cO qn _ _ ho128) (cwV 0 hts gX7_count_X4_freeCellsBeside rfl rfl rfl (by decide +kernel) ⟨Nat.le_of_ble_eq_true rfl, Nat.le_of_ble_eq_true rfl⟩) hK hN hP [1, 2, 3, 4, 5, 6] rfl 3 rfl rfl rfl rfl hl.1 rfl (Nat.le_of_ble_eq_true rfl) dX7_count_128 ⟨Nat.zero_le _, Nat.zero_le _⟩ ?_
        obtain rfl := Option.some.inj hf
        exact W.iret (v := o128) hx hb hr (fun t ht hW => ⟨⟨_, (), rfl, rfl, by rw [ht]; exact hP, hD⟩, hS.F ht⟩) hS.2.2 dX7_count_131
      have hf := oe hs13_6 hf
      by_cases hs13_7 : a1 = 7
      · have hf := ot hs13_7 hf
        refine lv_tableIn (off := 119) (tgt := 132) hx hb dX7_count_13 (by rw [hs13_7]; decide) (by rw [hs13_7]; decide) (by rw [hs13_7]; rfl) (by decide) ?_
        refine lv_aload_n hx hb dX7_count_132 rfl (lv_at hl 0 rfl) ?_
        refine va_get (D := (dC, dI)) (ci := 6) (v := .ref (qn 0)) (C := RX7) (T := TX7) (N := 14) hx hb hts hin7 hown hK hP 0 rfl rfl 0 (by decide) hk0 (fun _ h9 => h9) rfl dX7_count_133 ?_
        refine va_getN (D := (dC, dI)) (ci := 3) (v := .int (pX4_released gn)) (C := RX4) (T := TX4) (N := 11) hx hb hts hin4 hown hK hP 1 rfl rfl 7 (by decide) hk2 (fun _ h9 => h9) rfl dX7_count_136 ?_
        obtain rfl := Option.some.inj hf
        exact W.iret (v := (pX4_released gn)) hx hb hr (fun t ht hW => ⟨⟨_, (), rfl, rfl, by rw [ht]; exact hP, hD⟩, hS.F ht⟩) hS.2.2 dX7_count_139
      have hf := oe hs13_7 hf
      by_cases hs13_8 : a1 = 8
      · have hf := ot hs13_8 hf
        refine lv_tableIn (off := 127) (tgt := 140) hx hb dX7_count_13 (by rw [hs13_8]; decide) (by rw [hs13_8]; decide) (by rw [hs13_8]; rfl) (by decide) ?_
        refine lv_aload_n hx hb dX7_count_140 rfl (lv_at hl 0 rfl) ?_
        refine va_get (D := (dC, dI)) (ci := 6) (v := .ref (qn 0)) (C := RX7) (T := TX7) (N := 14) hx hb hts hin7 hown hK hP 0 rfl rfl 0 (by decide) hk0 (fun _ h9 => h9) rfl dX7_count_141 ?_
        refine va_getN (D := (dC, dI)) (ci := 3) (v := .int (pX4_lost gn)) (C := RX4) (T := TX4) (N := 11) hx hb hts hin4 hown hK hP 1 rfl rfl 8 (by decide) hk3 (fun _ h9 => h9) rfl dX7_count_144 ?_
        obtain rfl := Option.some.inj hf
        exact W.iret (v := (pX4_lost gn)) hx hb hr (fun t ht hW => ⟨⟨_, (), rfl, rfl, by rw [ht]; exact hP, hD⟩, hS.F ht⟩) hS.2.2 dX7_count_147
      have hf := oe hs13_8 hf
      by_cases hs13_9 : a1 = 9
      · have hf := ot hs13_9 hf
        refine lv_tableIn (off := 135) (tgt := 148) hx hb dX7_count_13 (by rw [hs13_9]; decide) (by rw [hs13_9]; decide) (by rw [hs13_9]; rfl) (by decide) ?_
        refine lv_aload_n hx hb dX7_count_148 rfl (lv_at hl 0 rfl) ?_
        refine va_get (D := (dC, dI)) (ci := 6) (v := .ref (qn 0)) (C := RX7) (T := TX7) (N := 14) hx hb hts hin7 hown hK hP 0 rfl rfl 0 (by decide) hk0 (fun _ h9 => h9) rfl dX7_count_149 ?_
        refine va_getN (D := (dC, dI)) (ci := 3) (v := .int (pX4_gone gn)) (C := RX4) (T := TX4) (N := 11) hx hb hts hin4 hown hK hP 1 rfl rfl 9 (by decide) hk4 (fun _ h9 => h9) rfl dX7_count_152 ?_
        obtain rfl := Option.some.inj hf
        exact W.iret (v := (pX4_gone gn)) hx hb hr (fun t ht hW => ⟨⟨_, (), rfl, rfl, by rw [ht]; exact hP, hD⟩, hS.F ht⟩) hS.2.2 dX7_count_155
      have hf := oe hs13_9 hf
      by_cases hs13_10 : a1 = 10
      · have hf := ot hs13_10 hf
        refine lv_tableIn (off := 143) (tgt := 156) hx hb dX7_count_13 (by rw [hs13_10]; decide) (by rw [hs13_10]; decide) (by rw [hs13_10]; rfl) (by decide) ?_
        refine lv_aload_n hx hb dX7_count_156 rfl (lv_at hl 0 rfl) ?_
        refine va_get (D := (dC, dI)) (ci := 6) (v := .ref (qn 0)) (C := RX7) (T := TX7) (N := 14) hx hb hts hin7 hown hK hP 0 rfl rfl 0 (by decide) hk0 (fun _ h9 => h9) rfl dX7_count_157 ?_
        refine va_getN (D := (dC, dI)) (ci := 3) (v := .int (pX4_walked gn)) (C := RX4) (T := TX4) (N := 11) hx hb hts hin4 hown hK hP 1 rfl rfl 10 (by decide) hk5 (fun _ h9 => h9) rfl dX7_count_160 ?_
        obtain rfl := Option.some.inj hf
        exact W.iret (v := (pX4_walked gn)) hx hb hr (fun t ht hW => ⟨⟨_, (), rfl, rfl, by rw [ht]; exact hP, hD⟩, hS.F ht⟩) hS.2.2 dX7_count_163
      have hf := oe hs13_10 hf
      by_cases hs13_11 : a1 = 11
      · have hf := ot hs13_11 hf
        refine lv_tableIn (off := 151) (tgt := 164) hx hb dX7_count_13 (by rw [hs13_11]; decide) (by rw [hs13_11]; decide) (by rw [hs13_11]; rfl) (by decide) ?_
        refine lv_aload_n hx hb dX7_count_164 rfl (lv_at hl 0 rfl) ?_
        refine lv_aload_n hx hb dX7_count_165 rfl (lv_at hl 0 rfl) ?_
        obtain ⟨o166, ho166, hf⟩ := ob hf
        refine wVi (W1 := (fun _ : Unit => (wX7 cI cZ cC q0 qn qs qt qh qw qf qr qc qp g0 ++ wX4 cI cZ cC qn gn ++ wX5 cI cZ cC qr gr ++ wX3 cI cZ cC qc o166.2 ++ wX1 cI cZ cC qp gp))) (rest := [.ref (q0 0)]) (As := []) ⟨hx, hb, hml, hown, hts⟩ (mX7_bestCatcher l dC dI cI cZ cC cO q0 qn qs qt qh qw qf qr qc qp _ _ _ _ _ ho166) (cwV 0 hts gX7_count_X7_bestCatcher rfl rfl rfl (by decide +kernel) ⟨Nat.le_of_ble_eq_true rfl, Nat.le_of_ble_eq_true rfl⟩) hK hN hP hD hS hA [0, 1, 2, 3, 4, 5, 6, 14, 15] [7, 8, 9, 10, 11, 12, 13, 16, 17] [9, 10, 11, 12, 13, 14, 15, 0, 1, 2, 3, 4, 5, 6, 16, 17, 7, 8] rfl rfl (by decide) (by decide) (fun _ => rfl) 6 rfl rfl rfl rfl hl.1 rfl (Nat.le_of_ble_eq_true rfl) dX7_count_166 ⟨Nat.zero_le _, Nat.zero_le _⟩ (fun _ H locs hP hD hS => ?_)
        have hP : va_P (dC, dI) vwCl (wX7 cI cZ cC q0 qn qs qt qh qw qf qr qc qp g0 ++ wX4 cI cZ cC qn gn ++ wX5 cI cZ cC qr gr ++ wX3 cI cZ cC qc o166.2 ++ wX1 cI cZ cC qp gp) H := hP
        have hD : va_D A (wX7 cI cZ cC q0 qn qs qt qh qw qf qr qc qp g0 ++ wX4 cI cZ cC qn gn ++ wX5 cI cZ cC qr gr ++ wX3 cI cZ cC qc o166.2 ++ wX1 cI cZ cC qp gp) := hD
        obtain ⟨o169, ho169, hf⟩ := ob hf
        refine wVi (W1 := (fun _ : Unit => (wX7 cI cZ cC q0 qn qs qt qh qw qf qr qc qp g0 ++ wX4 cI cZ cC qn gn ++ wX5 cI cZ cC qr gr ++ wX3 cI cZ cC qc o169.2 ++ wX1 cI cZ cC qp gp))) (rest := []) (As := [.int o166.1]) ⟨hx, hb, hml, hown, hts⟩ (mX7_catchOf l dC dI cI cZ cC cO q0 qn qs qt qh qw qf qr qc qp _ _ _ _ _ _ ho169) (cwV 1 hts gX7_count_X7_catchOf rfl rfl rfl (by decide +kernel) ⟨Nat.le_of_ble_eq_true rfl, Nat.le_of_ble_eq_true rfl⟩) hK hN hP hD hS hA [0, 1, 2, 3, 4, 5, 6, 14, 15] [7, 8, 9, 10, 11, 12, 13, 16, 17] [9, 10, 11, 12, 13, 14, 15, 0, 1, 2, 3, 4, 5, 6, 16, 17, 7, 8] rfl rfl (by decide) (by decide) (fun _ => rfl) 6 rfl rfl rfl rfl hl.1 rfl (Nat.le_of_ble_eq_true rfl) dX7_count_169 ⟨Nat.zero_le _, Nat.zero_le _⟩ (fun _ H locs hP hD hS => ?_)
        have hP : va_P (dC, dI) vwCl (wX7 cI cZ cC q0 qn qs qt qh qw qf qr qc qp g0 ++ wX4 cI cZ cC qn gn ++ wX5 cI cZ cC qr gr ++ wX3 cI cZ cC qc o169.2 ++ wX1 cI cZ cC qp gp) H := hP
        have hD : va_D A (wX7 cI cZ cC q0 qn qs qt qh qw qf qr qc qp g0 ++ wX4 cI cZ cC qn gn ++ wX5 cI cZ cC qr gr ++ wX3 cI cZ cC qc o169.2 ++ wX1 cI cZ cC qp gp) := hD
        obtain rfl := Option.some.inj hf
        exact W.iret (v := o169.1) hx hb hr (fun t ht hW => ⟨⟨_, (), rfl, rfl, by rw [ht]; exact hP, hD⟩, hS.F ht⟩) hS.2.2 dX7_count_172
      have hf := oe hs13_11 hf
      by_cases hs13_12 : a1 = 12
      · have hf := ot hs13_12 hf
        refine lv_tableIn (off := 160) (tgt := 173) hx hb dX7_count_13 (by rw [hs13_12]; decide) (by rw [hs13_12]; decide) (by rw [hs13_12]; rfl) (by decide) ?_
        refine lv_aload_n hx hb dX7_count_173 rfl (lv_at hl 0 rfl) ?_
        obtain ⟨o174, ho174, hf⟩ := ob hf
        refine wVi (W1 := (fun _ : Unit => (wX7 cI cZ cC q0 qn qs qt qh qw qf qr qc qp g0 ++ wX4 cI cZ cC qn gn ++ wX5 cI cZ cC qr gr ++ wX3 cI cZ cC qc o174.2 ++ wX1 cI cZ cC qp gp))) (rest := []) (As := []) ⟨hx, hb, hml, hown, hts⟩ (mX7_bestCatcher l dC dI cI cZ cC cO q0 qn qs qt qh qw qf qr qc qp _ _ _ _ _ ho174) (cwV 0 hts gX7_count_X7_bestCatcher rfl rfl rfl (by decide +kernel) ⟨Nat.le_of_ble_eq_true rfl, Nat.le_of_ble_eq_true rfl⟩) hK hN hP hD hS hA [0, 1, 2, 3, 4, 5, 6, 14, 15] [7, 8, 9, 10, 11, 12, 13, 16, 17] [9, 10, 11, 12, 13, 14, 15, 0, 1, 2, 3, 4, 5, 6, 16, 17, 7, 8] rfl rfl (by decide) (by decide) (fun _ => rfl) 6 rfl rfl rfl rfl hl.1 rfl (Nat.le_of_ble_eq_true rfl) dX7_count_174 ⟨Nat.zero_le _, Nat.zero_le _⟩ (fun _ H locs hP hD hS => ?_)
        have hP : va_P (dC, dI) vwCl (wX7 cI cZ cC q0 qn qs qt qh qw qf qr qc qp g0 ++ wX4 cI cZ cC qn gn ++ wX5 cI cZ cC qr gr ++ wX3 cI cZ cC qc o174.2 ++ wX1 cI cZ cC qp gp) H := hP
        have hD : va_D A (wX7 cI cZ cC q0 qn qs qt qh qw qf qr qc qp g0 ++ wX4 cI cZ cC qn gn ++ wX5 cI cZ cC qr gr ++ wX3 cI cZ cC qc o174.2 ++ wX1 cI cZ cC qp gp) := hD
        obtain rfl := Option.some.inj hf
        exact W.iret (v := o174.1) hx hb hr (fun t ht hW => ⟨⟨_, (), rfl, rfl, by rw [ht]; exact hP, hD⟩, hS.F ht⟩) hS.2.2 dX7_count_177
      have hf := oe hs13_12 hf
      by_cases hs13_13 : a1 = 13
      · have hf := ot hs13_13 hf
        refine lv_tableIn (off := 165) (tgt := 178) hx hb dX7_count_13 (by rw [hs13_13]; decide) (by rw [hs13_13]; decide) (by rw [hs13_13]; rfl) (by decide) ?_
        refine lv_aload_n hx hb dX7_count_178 rfl (lv_at hl 0 rfl) ?_
        refine va_get (D := (dC, dI)) (ci := 6) (v := .ref (qn 0)) (C := RX7) (T := TX7) (N := 14) hx hb hts hin7 hown hK hP 0 rfl rfl 0 (by decide) hk0 (fun _ h9 => h9) rfl dX7_count_179 ?_
        refine lv_iload_n hx hb dX7_count_182 rfl (lv_at hl 1 rfl) ?_
        refine lv_bipush (v := 13) hx hb dX7_count_183 (by decide) ?_
        refine lv_isub hx hb dX7_count_185 ?_
        obtain ⟨o186, ho186, hf⟩ := ob hf
        refine rV (rest := []) (As := [.int (a1 - 13)]) ⟨hx, hb, hml, hown, hts⟩ (mX4_setting l dC dI cI cZ cC cO qn _ _ _ ho186) (cwV 1 hts gX7_count_X4_setting rfl rfl rfl (by decide +kernel) ⟨Nat.le_of_ble_eq_true rfl, Nat.le_of_ble_eq_true rfl⟩) hK hN hP [1, 2, 3, 4, 5, 6] rfl 3 rfl rfl rfl rfl hl.1 rfl (Nat.le_of_ble_eq_true rfl) dX7_count_186 ⟨Nat.zero_le _, Nat.zero_le _⟩ ?_
        obtain rfl := Option.some.inj hf
        exact W.iret (v := o186) hx hb hr (fun t ht hW => ⟨⟨_, (), rfl, rfl, by rw [ht]; exact hP, hD⟩, hS.F ht⟩) hS.2.2 dX7_count_189
      have hf := oe hs13_13 hf
      by_cases hs13_14 : a1 = 14
      · have hf := ot hs13_14 hf
        refine lv_tableIn (off := 165) (tgt := 178) hx hb dX7_count_13 (by rw [hs13_14]; decide) (by rw [hs13_14]; decide) (by rw [hs13_14]; rfl) (by decide) ?_
        refine lv_aload_n hx hb dX7_count_178 rfl (lv_at hl 0 rfl) ?_
        refine va_get (D := (dC, dI)) (ci := 6) (v := .ref (qn 0)) (C := RX7) (T := TX7) (N := 14) hx hb hts hin7 hown hK hP 0 rfl rfl 0 (by decide) hk0 (fun _ h9 => h9) rfl dX7_count_179 ?_
        refine lv_iload_n hx hb dX7_count_182 rfl (lv_at hl 1 rfl) ?_
        refine lv_bipush (v := 13) hx hb dX7_count_183 (by decide) ?_
        refine lv_isub hx hb dX7_count_185 ?_
        obtain ⟨o186, ho186, hf⟩ := ob hf
        refine rV (rest := []) (As := [.int (a1 - 13)]) ⟨hx, hb, hml, hown, hts⟩ (mX4_setting l dC dI cI cZ cC cO qn _ _ _ ho186) (cwV 1 hts gX7_count_X4_setting rfl rfl rfl (by decide +kernel) ⟨Nat.le_of_ble_eq_true rfl, Nat.le_of_ble_eq_true rfl⟩) hK hN hP [1, 2, 3, 4, 5, 6] rfl 3 rfl rfl rfl rfl hl.1 rfl (Nat.le_of_ble_eq_true rfl) dX7_count_186 ⟨Nat.zero_le _, Nat.zero_le _⟩ ?_
        obtain rfl := Option.some.inj hf
        exact W.iret (v := o186) hx hb hr (fun t ht hW => ⟨⟨_, (), rfl, rfl, by rw [ht]; exact hP, hD⟩, hS.F ht⟩) hS.2.2 dX7_count_189
      have hf := oe hs13_14 hf
      by_cases hs13_15 : a1 = 15
      · have hf := ot hs13_15 hf
        refine lv_tableIn (off := 165) (tgt := 178) hx hb dX7_count_13 (by rw [hs13_15]; decide) (by rw [hs13_15]; decide) (by rw [hs13_15]; rfl) (by decide) ?_
        refine lv_aload_n hx hb dX7_count_178 rfl (lv_at hl 0 rfl) ?_
        refine va_get (D := (dC, dI)) (ci := 6) (v := .ref (qn 0)) (C := RX7) (T := TX7) (N := 14) hx hb hts hin7 hown hK hP 0 rfl rfl 0 (by decide) hk0 (fun _ h9 => h9) rfl dX7_count_179 ?_
        refine lv_iload_n hx hb dX7_count_182 rfl (lv_at hl 1 rfl) ?_
        refine lv_bipush (v := 13) hx hb dX7_count_183 (by decide) ?_
        refine lv_isub hx hb dX7_count_185 ?_
        obtain ⟨o186, ho186, hf⟩ := ob hf
        refine rV (rest := []) (As := [.int (a1 - 13)]) ⟨hx, hb, hml, hown, hts⟩ (mX4_setting l dC dI cI cZ cC cO qn _ _ _ ho186) (cwV 1 hts gX7_count_X4_setting rfl rfl rfl (by decide +kernel) ⟨Nat.le_of_ble_eq_true rfl, Nat.le_of_ble_eq_true rfl⟩) hK hN hP [1, 2, 3, 4, 5, 6] rfl 3 rfl rfl rfl rfl hl.1 rfl (Nat.le_of_ble_eq_true rfl) dX7_count_186 ⟨Nat.zero_le _, Nat.zero_le _⟩ ?_
        obtain rfl := Option.some.inj hf
        exact W.iret (v := o186) hx hb hr (fun t ht hW => ⟨⟨_, (), rfl, rfl, by rw [ht]; exact hP, hD⟩, hS.F ht⟩) hS.2.2 dX7_count_189
      have hf := oe hs13_15 hf
      by_cases hs13_16 : a1 = 16
      · have hf := ot hs13_16 hf
        refine lv_tableIn (off := 165) (tgt := 178) hx hb dX7_count_13 (by rw [hs13_16]; decide) (by rw [hs13_16]; decide) (by rw [hs13_16]; rfl) (by decide) ?_
        refine lv_aload_n hx hb dX7_count_178 rfl (lv_at hl 0 rfl) ?_
        refine va_get (D := (dC, dI)) (ci := 6) (v := .ref (qn 0)) (C := RX7) (T := TX7) (N := 14) hx hb hts hin7 hown hK hP 0 rfl rfl 0 (by decide) hk0 (fun _ h9 => h9) rfl dX7_count_179 ?_
        refine lv_iload_n hx hb dX7_count_182 rfl (lv_at hl 1 rfl) ?_
        refine lv_bipush (v := 13) hx hb dX7_count_183 (by decide) ?_
        refine lv_isub hx hb dX7_count_185 ?_
        obtain ⟨o186, ho186, hf⟩ := ob hf
        refine rV (rest := []) (As := [.int (a1 - 13)]) ⟨hx, hb, hml, hown, hts⟩ (mX4_setting l dC dI cI cZ cC cO qn _ _ _ ho186) (cwV 1 hts gX7_count_X4_setting rfl rfl rfl (by decide +kernel) ⟨Nat.le_of_ble_eq_true rfl, Nat.le_of_ble_eq_true rfl⟩) hK hN hP [1, 2, 3, 4, 5, 6] rfl 3 rfl rfl rfl rfl hl.1 rfl (Nat.le_of_ble_eq_true rfl) dX7_count_186 ⟨Nat.zero_le _, Nat.zero_le _⟩ ?_
        obtain rfl := Option.some.inj hf
        exact W.iret (v := o186) hx hb hr (fun t ht hW => ⟨⟨_, (), rfl, rfl, by rw [ht]; exact hP, hD⟩, hS.F ht⟩) hS.2.2 dX7_count_189
      have hf := oe hs13_16 hf
      by_cases hs13_17 : a1 = 17
      · have hf := ot hs13_17 hf
        refine lv_tableIn (off := 177) (tgt := 190) hx hb dX7_count_13 (by rw [hs13_17]; decide) (by rw [hs13_17]; decide) (by rw [hs13_17]; rfl) (by decide) ?_
        refine lv_aload_n hx hb dX7_count_190 rfl (lv_at hl 0 rfl) ?_
        refine va_get (D := (dC, dI)) (ci := 6) (v := .ref (qn 0)) (C := RX7) (T := TX7) (N := 14) hx hb hts hin7 hown hK hP 0 rfl rfl 0 (by decide) hk0 (fun _ h9 => h9) rfl dX7_count_191 ?_
        refine va_getN (D := (dC, dI)) (ci := 3) (v := .int (pX4_lot gn)) (C := RX4) (T := TX4) (N := 11) hx hb hts hin4 hown hK hP 1 rfl rfl 6 (by decide) hk6 (fun _ h9 => h9) rfl dX7_count_194 ?_
        obtain rfl := Option.some.inj hf
        exact W.iret (v := (pX4_lot gn)) hx hb hr (fun t ht hW => ⟨⟨_, (), rfl, rfl, by rw [ht]; exact hP, hD⟩, hS.F ht⟩) hS.2.2 dX7_count_197
      have hf := oe hs13_17 hf
      by_cases hs13_18 : a1 = 18
      · have hf := ot hs13_18 hf
        refine lv_tableIn (off := 185) (tgt := 198) hx hb dX7_count_13 (by rw [hs13_18]; decide) (by rw [hs13_18]; decide) (by rw [hs13_18]; rfl) (by decide) ?_
        refine lv_aload_n hx hb dX7_count_198 rfl (lv_at hl 0 rfl) ?_
        refine va_get (D := (dC, dI)) (ci := 6) (v := .ref (qp 0)) (C := RX7) (T := TX7) (N := 14) hx hb hts hin7 hown hK hP 0 rfl rfl 8 (by decide) hk7 (fun _ h9 => h9) rfl dX7_count_199 ?_
        refine va_getN (D := (dC, dI)) (ci := 1) (v := .int (pX1_length gp)) (C := RX1) (T := TX1) (N := 6) hx hb hts hin1 hown hK hP 16 rfl rfl 1 (by decide) hk8 (fun _ h9 => h9) rfl dX7_count_202 ?_
        obtain rfl := Option.some.inj hf
        exact W.iret (v := (pX1_length gp)) hx hb hr (fun t ht hW => ⟨⟨_, (), rfl, rfl, by rw [ht]; exact hP, hD⟩, hS.F ht⟩) hS.2.2 dX7_count_205
      have hf := oe hs13_18 hf
      by_cases hs13_19 : a1 = 19
      · have hf := ot hs13_19 hf
        refine lv_tableIn (off := 193) (tgt := 206) hx hb dX7_count_13 (by rw [hs13_19]; decide) (by rw [hs13_19]; decide) (by rw [hs13_19]; rfl) (by decide) ?_
        refine lv_aload_n hx hb dX7_count_206 rfl (lv_at hl 0 rfl) ?_
        refine va_get (D := (dC, dI)) (ci := 6) (v := .int (pX7_states g0)) (C := RX7) (T := TX7) (N := 14) hx hb hts hin7 hown hK hP 0 rfl rfl 9 (by decide) hk9 (fun _ h9 => h9) rfl dX7_count_207 ?_
        obtain rfl := Option.some.inj hf
        exact W.iret (v := (pX7_states g0)) hx hb hr (fun t ht hW => ⟨⟨_, (), rfl, rfl, by rw [ht]; exact hP, hD⟩, hS.F ht⟩) hS.2.2 dX7_count_210
      have hf := oe hs13_19 hf
      have hs13_0T := lv_neT (a := 0) hs13_0 rfl
      have hs13_1T := lv_neT (a := 1) hs13_1 rfl
      have hs13_2T := lv_neT (a := 2) hs13_2 rfl
      have hs13_3T := lv_neT (a := 3) hs13_3 rfl
      have hs13_4T := lv_neT (a := 4) hs13_4 rfl
      have hs13_5T := lv_neT (a := 5) hs13_5 rfl
      have hs13_6T := lv_neT (a := 6) hs13_6 rfl
      have hs13_7T := lv_neT (a := 7) hs13_7 rfl
      have hs13_8T := lv_neT (a := 8) hs13_8 rfl
      have hs13_9T := lv_neT (a := 9) hs13_9 rfl
      have hs13_10T := lv_neT (a := 10) hs13_10 rfl
      have hs13_11T := lv_neT (a := 11) hs13_11 rfl
      have hs13_12T := lv_neT (a := 12) hs13_12 rfl
      have hs13_13T := lv_neT (a := 13) hs13_13 rfl
      have hs13_14T := lv_neT (a := 14) hs13_14 rfl
      have hs13_15T := lv_neT (a := 15) hs13_15 rfl
      have hs13_16T := lv_neT (a := 16) hs13_16 rfl
      have hs13_17T := lv_neT (a := 17) hs13_17 rfl
      have hs13_18T := lv_neT (a := 18) hs13_18 rfl
      have hs13_19T := lv_neT (a := 19) hs13_19 rfl
      refine lv_tableOut (tgt := 211) hx hb dX7_count_13 (by omega) (by decide) ?_
      refine lv_aload_n hx hb dX7_count_211 rfl (lv_at hl 0 rfl) ?_
      refine lv_iload_n hx hb dX7_count_212 rfl (lv_at hl 1 rfl) ?_
      obtain ⟨o213, ho213, hf⟩ := ob hf
      refine wVi (W1 := (fun _ : Unit => (wX7 cI cZ cC q0 qn qs qt qh qw qf qr qc qp g0 ++ wX4 cI cZ cC qn gn ++ wX5 cI cZ cC qr o213.2 ++ wX3 cI cZ cC qc gc ++ wX1 cI cZ cC qp gp))) (rest := []) (As := [.int a1]) ⟨hx, hb, hml, hown, hts⟩ (mX7_countOfTrees l dC dI cI cZ cC cO q0 qn qs qt qh qw qf qr qc qp _ _ _ _ _ _ ho213) (cwV 1 hts gX7_count_X7_countOfTrees rfl rfl rfl (by decide +kernel) ⟨Nat.le_of_ble_eq_true rfl, Nat.le_of_ble_eq_true rfl⟩) hK hN hP hD hS hA [0, 1, 2, 3, 4, 5, 6, 7, 8, 9, 10, 11, 12, 13] [14, 15, 16, 17] [4, 5, 6, 7, 8, 9, 10, 11, 12, 13, 14, 15, 16, 17, 0, 1, 2, 3] rfl rfl (by decide) (by decide) (fun _ => rfl) 6 rfl rfl rfl rfl hl.1 rfl (Nat.le_of_ble_eq_true rfl) dX7_count_213 ⟨Nat.zero_le _, Nat.zero_le _⟩ (fun _ H locs hP hD hS => ?_)
      have hP : va_P (dC, dI) vwCl (wX7 cI cZ cC q0 qn qs qt qh qw qf qr qc qp g0 ++ wX4 cI cZ cC qn gn ++ wX5 cI cZ cC qr o213.2 ++ wX3 cI cZ cC qc gc ++ wX1 cI cZ cC qp gp) H := hP
      have hD : va_D A (wX7 cI cZ cC q0 qn qs qt qh qw qf qr qc qp g0 ++ wX4 cI cZ cC qn gn ++ wX5 cI cZ cC qr o213.2 ++ wX3 cI cZ cC qc gc ++ wX1 cI cZ cC qp gp) := hD
      obtain rfl := Option.some.inj hf
      exact W.iret (v := o213.1) hx hb hr (fun t ht hW => ⟨⟨_, (), rfl, rfl, by rw [ht]; exact hP, hD⟩, hS.F ht⟩) hS.2.2 dX7_count_216
    · have hf := oe hc hf
      refine lv_iconst (v := (-1)) hx hb dX7_count_10 (by decide) ?_
      obtain rfl := Option.some.inj hf
      exact W.iret (v := (-1)) hx hb hr (fun t ht hW => ⟨⟨_, (), rfl, rfl, by rw [ht]; exact hP, hD⟩, hS.F ht⟩) hS.2.2 dX7_count_11
set_option maxHeartbeats 4000000 in
set_option maxRecDepth 100000 in
theorem mX7_ifGone (l : Launch) (dC : Nat → ClassId) (dI : Nat → Nat → Nat) (cI cZ cC cO : ClassId) (q0 : Nat → Nat) (qn : Nat → Nat) (qs : Nat → Nat) (qt : Nat → Nat) (qh : Nat → Nat) (qw : Nat → Nat) (qf : Nat → Nat) (qr : Nat → Nat) (qc : Nat → Nat) (qp : Nat → Nat) (a1 : Int32) (a2 : Int32) (g0 : GX7) (gn : GX4) (gw : GX6) (sz : Nat) (out : Int32 × GX6) (hf : fX7_ifGone a1 a2 g0 gn gw = some out) : Met l yX7_ifGone wsX7_ifGone rmX7_ifGone (va_Pc [.ref (q0 0), .int a1, .int a2] (pcW (dC, dI) (wTys cI cZ cC cO) sz (wX7 cI cZ cC q0 qn qs qt qh qw qf qr qc qp g0 ++ wX4 cI cZ cC qn gn ++ wX6 cI cZ cC qw gw))) (va_Qi (fun r (_ : Unit) => r = out.1) (fun _ => poW (dC, dI) (va_A (wX7 cI cZ cC q0 qn qs qt qh qw qf qr qc qp g0 ++ wX4 cI cZ cC qn gn ++ wX6 cI cZ cC qw gw) sz) (wX7 cI cZ cC q0 qn qs qt qh qw qf qr qc qp g0 ++ wX4 cI cZ cC qn gn ++ wX6 cI cZ cC qw out.2)) (va_A (wX7 cI cZ cC q0 qn qs qt qh qw qf qr qc qp g0 ++ wX4 cI cZ cC qn gn ++ wX6 cI cZ cC qw gw) sz)) 0 0 (va_A (wX7 cI cZ cC q0 qn qs qt qh qw qf qr qc qp g0 ++ wX4 cI cZ cC qn gn ++ wX6 cI cZ cC qw gw) sz) := by
  refine Met.ofW (cc := cX7_ifGone) (maxL := 4) (ret := (some .int)) (by decide) rfl ?_
  intro p e s m args below meth c s₁ B hml hv
  obtain ⟨hargs, hsz, hP, hK, hN, hD0⟩ := hv
  have hx := B.exec
  have hb := B.bytes
  have hr := B.returns
  have hts := atoms_spec (ws := wsX7_ifGone) B.pre
  have hown : s.vm.findClass RX7 = some m.cls := findClass_of_methodNamed B.named
  have hlocks := B.notSynchronized
  have hk0 := hts (.fieldLink RX7 12 "RimGrains" "now" "LRimGrains$State;") (by decide +kernel)
  have hk1 := hts (.fieldLink RX7 29 "RimGrains" "walk" "LRimGrains$Walk;") (by decide +kernel)
  have hk2 := hN.f (args := args) 11 rfl
  have hk3 := hN.f (args := args) 13 rfl
  have hin7 : ∀ w ∈ wsX70, w ∈ wsX7_ifGone := by decide +kernel
  have hin6 : ∀ w ∈ wsX60, w ∈ wsX7_ifGone := by decide +kernel
  subst hsz
  have hD := hD0.self (sz := s.heap.size)
  generalize hAe : va_A (wX7 cI cZ cC q0 qn qs qt qh qw qf qr qc qp g0 ++ wX4 cI cZ cC qn gn ++ wX6 cI cZ cC qw gw) s.heap.size = A at hD ⊢
  have hA : ∀ q : Nat, s.heap.size ≤ q → A q := fun q h => by rw [← hAe]; exact Or.inr h
  have hS : va_S A s.heap s.heap [] := va_S.rf
  have hE := lg_entry_eq m [.ref (q0 0), .int a1, .int a2] 4
  rw [← hargs] at hE
  rw [hE]
  have hl := lv_entry [.ref (q0 0), .int a1, .int a2] (n := 4) (Nat.le_of_ble_eq_true rfl)
  generalize (lg_sl [.ref (q0 0), .int a1, .int a2] ++ List.replicate (4 - (lg_sl [.ref (q0 0), .int a1, .int a2]).length) Slot.unset).toArray = ls at hl ⊢
  have hl : lv_has ls 4 [(0, .ref (q0 0)), (1, .int a1), (2, .int a2)] := hl
  have hP : va_P (dC, dI) vwCl (wX7 cI cZ cC q0 qn qs qt qh qw qf qr qc qp g0 ++ wX4 cI cZ cC qn gn ++ wX6 cI cZ cC qw gw) s.heap := hP
  unfold fX7_ifGone at hf
  refine lv_iload_n hx hb dX7_ifGone_0 rfl (lv_at hl 2 rfl) ?_
  refine lv_if_lt (tgt := 9) hx hb dX7_ifGone_1 (by decide) (fun hc => ?_) (fun hc => ?_)
  · have hf := ot hc hf
    refine lv_iconst (v := (-1)) hx hb dX7_ifGone_9 (by decide) ?_
    obtain rfl := Option.some.inj hf
    exact W.iret (v := (-1)) hx hb hr (fun t ht hW => ⟨⟨_, (), rfl, rfl, by rw [ht]; exact hP, hD⟩, hS.F ht⟩) hS.2.2 dX7_ifGone_10
  · have hf := oe hc hf
    refine lv_iload_n hx hb dX7_ifGone_4 rfl (lv_at hl 2 rfl) ?_
    refine lv_iconst (v := 2) hx hb dX7_ifGone_5 (by decide) ?_
    refine lv_icmp_le (tgt := 11) hx hb dX7_ifGone_6 (by decide) (fun hc => ?_) (fun hc => ?_)
    · have hf := ot hc hf
      refine lv_aload_n hx hb dX7_ifGone_11 rfl (lv_at hl 0 rfl) ?_
      refine va_get (D := (dC, dI)) (ci := 6) (v := .ref (qn 0)) (C := RX7) (T := TX7) (N := 14) hx hb hts hin7 hown hK hP 0 rfl rfl 0 (by decide) hk0 (fun _ h9 => h9) rfl dX7_ifGone_12 ?_
      refine lv_iload_n hx hb dX7_ifGone_15 rfl (lv_at hl 1 rfl) ?_
      obtain ⟨o16, ho16, hf⟩ := ob hf
      refine rV (rest := []) (As := [.int a1]) ⟨hx, hb, hml, hown, hts⟩ (mX4_refusalToGo l dC dI cI cZ cC cO qn _ _ _ ho16) (cwV 1 hts gX7_ifGone_X4_refusalToGo rfl rfl rfl (by decide +kernel) ⟨Nat.le_of_ble_eq_true rfl, Nat.le_of_ble_eq_true rfl⟩) hK hN hP [1, 2, 3, 4, 5, 6] rfl 3 rfl rfl rfl rfl hl.1 rfl (Nat.le_of_ble_eq_true rfl) dX7_ifGone_16 ⟨Nat.zero_le _, Nat.zero_le _⟩ ?_
      refine lv_istore_n (lv' := [(3, .int o16), (0, .ref (q0 0)), (1, .int a1), (2, .int a2)]) hx hb dX7_ifGone_19 rfl hl (by decide) rfl (fun ls hl => ?_)
      refine lv_iload_n hx hb dX7_ifGone_20 rfl (lv_at hl 0 rfl) ?_
      refine lv_if_eq (tgt := 26) hx hb dX7_ifGone_21 (by decide) (fun hc => ?_) (fun hc => ?_)
      · have hf := ot hc hf
        refine lv_aload_n hx hb dX7_ifGone_26 rfl (lv_at hl 1 rfl) ?_
        refine va_get (D := (dC, dI)) (ci := 6) (v := .ref (qw 0)) (C := RX7) (T := TX7) (N := 14) hx hb hts hin7 hown hK hP 0 rfl rfl 4 (by decide) hk1 (fun _ h9 => h9) rfl dX7_ifGone_27 ?_
        refine lv_aload_n hx hb dX7_ifGone_30 rfl (lv_at hl 1 rfl) ?_
        refine va_get (D := (dC, dI)) (ci := 6) (v := .ref (qn 0)) (C := RX7) (T := TX7) (N := 14) hx hb hts hin7 hown hK hP 0 rfl rfl 0 (by decide) hk0 (fun _ h9 => h9) rfl dX7_ifGone_31 ?_
        refine lv_iload_n hx hb dX7_ifGone_34 rfl (lv_at hl 2 rfl) ?_
        obtain ⟨o35, ho35, hf⟩ := ob hf
        refine rS (rest := [.ref (qn 0), .ref (qw 0)]) (As := [.int a1]) ⟨hx, hb, hml, hown, hts⟩ (mX2_cellOfRim l dC dI cI cZ cC cO  _ _ ho35) (va_cwS 1 hts gX7_ifGone_X2_cellOfRim rfl rfl rfl (by decide +kernel) ⟨Nat.le_of_ble_eq_true rfl, Nat.le_of_ble_eq_true rfl⟩) hK hN hP [] rfl rfl hl.1 rfl (Nat.le_of_ble_eq_true rfl) dX7_ifGone_35 ⟨Nat.zero_le _, Nat.zero_le _⟩ ?_
        obtain ⟨o38, ho38, hf⟩ := ob hf
        refine wVv (W1 := (fun _ : Unit => (wX7 cI cZ cC q0 qn qs qt qh qw qf qr qc qp g0 ++ wX4 cI cZ cC qn gn ++ wX6 cI cZ cC qw o38))) (rest := []) (As := [.ref (qn 0), .int o35]) ⟨hx, hb, hml, hown, hts⟩ (mX6_walkFrom l dC dI cI cZ cC cO qw qn _ _ _ _ _ ho38) (cwV 2 hts gX7_ifGone_X6_walkFrom rfl rfl rfl (by decide +kernel) ⟨Nat.le_of_ble_eq_true rfl, Nat.le_of_ble_eq_true rfl⟩) hK hN hP hD hS hA [7, 1, 2, 3, 4, 5, 6] [0] [0, 2, 3, 4, 5, 6, 7, 1] rfl rfl (by decide) (by decide) (fun _ => rfl) 5 rfl rfl rfl rfl hl.1 rfl (Nat.le_of_ble_eq_true rfl) dX7_ifGone_38 ⟨Nat.zero_le _, Nat.zero_le _⟩ (fun _ H locs hP hD hS => ?_)
        have hP : va_P (dC, dI) vwCl (wX7 cI cZ cC q0 qn qs qt qh qw qf qr qc qp g0 ++ wX4 cI cZ cC qn gn ++ wX6 cI cZ cC qw o38) H := hP
        have hD : va_D A (wX7 cI cZ cC q0 qn qs qt qh qw qf qr qc qp g0 ++ wX4 cI cZ cC qn gn ++ wX6 cI cZ cC qw o38) := hD
        refine lv_iload_n hx hb dX7_ifGone_41 rfl (lv_at hl 3 rfl) ?_
        by_cases hs42_0 : a2 = 0
        · have hf := ot hs42_0 hf
          refine lv_lookup (off := 26) (tgt := 68) hx hb dX7_ifGone_42 (by decide) (by rw [hs42_0]; decide) (by decide) ?_
          refine lv_aload_n hx hb dX7_ifGone_68 rfl (lv_at hl 1 rfl) ?_
          refine va_get (D := (dC, dI)) (ci := 6) (v := .ref (qw 0)) (C := RX7) (T := TX7) (N := 14) hx hb hts hin7 hown hK hP 0 rfl rfl 4 (by decide) hk1 (fun _ h9 => h9) rfl dX7_ifGone_69 ?_
          obtain ⟨o72, ho72, hf⟩ := ob hf
          refine rV (rest := []) (As := []) ⟨hx, hb, hml, hown, hts⟩ (mX6_answer l dC dI cI cZ cC cO qw _ _ ho72) (cwV 0 hts gX7_ifGone_X6_answer rfl rfl rfl (by decide +kernel) ⟨Nat.le_of_ble_eq_true rfl, Nat.le_of_ble_eq_true rfl⟩) hK hN hP [7] rfl 5 rfl rfl rfl rfl hl.1 rfl (Nat.le_of_ble_eq_true rfl) dX7_ifGone_72 ⟨Nat.zero_le _, Nat.zero_le _⟩ ?_
          obtain rfl := Option.some.inj hf
          exact W.iret (v := o72) hx hb hr (fun t ht hW => ⟨⟨_, (), rfl, rfl, by rw [ht]; exact hP, hD⟩, hS.F ht⟩) hS.2.2 dX7_ifGone_75
        have hf := oe hs42_0 hf
        by_cases hs42_1 : a2 = 1
        · have hf := ot hs42_1 hf
          refine lv_lookup (off := 34) (tgt := 76) hx hb dX7_ifGone_42 (by decide) (by rw [hs42_1]; decide) (by decide) ?_
          refine lv_aload_n hx hb dX7_ifGone_76 rfl (lv_at hl 1 rfl) ?_
          refine va_get (D := (dC, dI)) (ci := 6) (v := .ref (qw 0)) (C := RX7) (T := TX7) (N := 14) hx hb hts hin7 hown hK hP 0 rfl rfl 4 (by decide) hk1 (fun _ h9 => h9) rfl dX7_ifGone_77 ?_
          refine va_getN (D := (dC, dI)) (ci := 5) (v := .int (pX6_place o38)) (C := RX6) (T := TX6) (N := 5) hx hb hts hin6 hown hK hP 7 rfl rfl 0 (by decide) hk2 (fun _ h9 => h9) rfl dX7_ifGone_80 ?_
          obtain rfl := Option.some.inj hf
          exact W.iret (v := (pX6_place o38)) hx hb hr (fun t ht hW => ⟨⟨_, (), rfl, rfl, by rw [ht]; exact hP, hD⟩, hS.F ht⟩) hS.2.2 dX7_ifGone_83
        have hf := oe hs42_1 hf
        refine lv_lookup (off := 42) (tgt := 84) hx hb dX7_ifGone_42 (by decide) (by show Op.lookupswitch.offset [(0, 26), (1, 34)] _ _ = _; rw [lv_osw (a := 0) hs42_0 rfl, lv_osw (a := 1) hs42_1 rfl]; rfl) (by decide) ?_
        refine lv_aload_n hx hb dX7_ifGone_84 rfl (lv_at hl 1 rfl) ?_
        refine va_get (D := (dC, dI)) (ci := 6) (v := .ref (qw 0)) (C := RX7) (T := TX7) (N := 14) hx hb hts hin7 hown hK hP 0 rfl rfl 4 (by decide) hk1 (fun _ h9 => h9) rfl dX7_ifGone_85 ?_
        refine va_getN (D := (dC, dI)) (ci := 5) (v := .int (pX6_draws o38)) (C := RX6) (T := TX6) (N := 5) hx hb hts hin6 hown hK hP 7 rfl rfl 2 (by decide) hk3 (fun _ h9 => h9) rfl dX7_ifGone_88 ?_
        obtain rfl := Option.some.inj hf
        exact W.iret (v := (pX6_draws o38)) hx hb hr (fun t ht hW => ⟨⟨_, (), rfl, rfl, by rw [ht]; exact hP, hD⟩, hS.F ht⟩) hS.2.2 dX7_ifGone_91
      · have hf := oe hc hf
        refine lv_iload_n hx hb dX7_ifGone_24 rfl (lv_at hl 0 rfl) ?_
        obtain rfl := Option.some.inj hf
        exact W.iret (v := o16) hx hb hr (fun t ht hW => ⟨⟨_, (), rfl, rfl, by rw [ht]; exact hP, hD⟩, hS.F ht⟩) hS.2.2 dX7_ifGone_25
    · have hf := oe hc hf
      refine lv_iconst (v := (-1)) hx hb dX7_ifGone_9 (by decide) ?_
      obtain rfl := Option.some.inj hf
      exact W.iret (v := (-1)) hx hb hr (fun t ht hW => ⟨⟨_, (), rfl, rfl, by rw [ht]; exact hP, hD⟩, hS.F ht⟩) hS.2.2 dX7_ifGone_10
set_option maxHeartbeats 4000000 in
set_option maxRecDepth 100000 in
theorem mX7_ifBroken (l : Launch) (dC : Nat → ClassId) (dI : Nat → Nat → Nat) (cI cZ cC cO : ClassId) (q0 : Nat → Nat) (qn : Nat → Nat) (qs : Nat → Nat) (qt : Nat → Nat) (qh : Nat → Nat) (qw : Nat → Nat) (qf : Nat → Nat) (qr : Nat → Nat) (qc : Nat → Nat) (qp : Nat → Nat) (a1 : Int32) (a2 : Int32) (g0 : GX7) (gn : GX4) (gt : GX4) (gf : GX0) (gr : GX5) (gc : GX3) (sz : Nat) (out : Int32 × GX4 × GX0 × GX5 × GX3) (hf : fX7_ifBroken a1 a2 g0 gn gt gf gr gc = some out) : Met l yX7_ifBroken wsX7_ifBroken rmX7_ifBroken (va_Pc [.ref (q0 0), .int a1, .int a2] (pcW (dC, dI) (wTys cI cZ cC cO) sz (wX7 cI cZ cC q0 qn qs qt qh qw qf qr qc qp g0 ++ wX4 cI cZ cC qn gn ++ wX4 cI cZ cC qt gt ++ wX0 cI cZ cC qf gf ++ wX5 cI cZ cC qr gr ++ wX3 cI cZ cC qc gc))) (va_Qi (fun r (_ : Unit) => r = out.1) (fun _ => poW (dC, dI) (va_A (wX7 cI cZ cC q0 qn qs qt qh qw qf qr qc qp g0 ++ wX4 cI cZ cC qn gn ++ wX4 cI cZ cC qt gt ++ wX0 cI cZ cC qf gf ++ wX5 cI cZ cC qr gr ++ wX3 cI cZ cC qc gc) sz) (wX7 cI cZ cC q0 qn qs qt qh qw qf qr qc qp g0 ++ wX4 cI cZ cC qn gn ++ wX4 cI cZ cC qt out.2.1 ++ wX0 cI cZ cC qf out.2.2.1 ++ wX5 cI cZ cC qr out.2.2.2.1 ++ wX3 cI cZ cC qc out.2.2.2.2)) (va_A (wX7 cI cZ cC q0 qn qs qt qh qw qf qr qc qp g0 ++ wX4 cI cZ cC qn gn ++ wX4 cI cZ cC qt gt ++ wX0 cI cZ cC qf gf ++ wX5 cI cZ cC qr gr ++ wX3 cI cZ cC qc gc) sz)) 0 0 (va_A (wX7 cI cZ cC q0 qn qs qt qh qw qf qr qc qp g0 ++ wX4 cI cZ cC qn gn ++ wX4 cI cZ cC qt gt ++ wX0 cI cZ cC qf gf ++ wX5 cI cZ cC qr gr ++ wX3 cI cZ cC qc gc) sz) := by
  refine Met.ofW (cc := cX7_ifBroken) (maxL := 4) (ret := (some .int)) (by decide) rfl ?_
  intro p e s m args below meth c s₁ B hml hv
  obtain ⟨hargs, hsz, hP, hK, hN, hD0⟩ := hv
  have hx := B.exec
  have hb := B.bytes
  have hr := B.returns
  have hts := atoms_spec (ws := wsX7_ifBroken) B.pre
  have hown : s.vm.findClass RX7 = some m.cls := findClass_of_methodNamed B.named
  have hlocks := B.notSynchronized
  have hk0 := hts (.fieldLink RX7 12 "RimGrains" "now" "LRimGrains$State;") (by decide +kernel)
  have hk1 := hts (.fieldLink RX7 19 "RimGrains" "trial" "LRimGrains$State;") (by decide +kernel)
  have hk2 := hts (.fieldLink RX7 36 "RimGrains" "fall" "LRimGrains$Fall;") (by decide +kernel)
  have hk3 := hN.f (args := args) 3 rfl
  have hk4 := hts (.fieldLink RX7 43 "RimGrains" "trees" "LRimGrains$Trees;") (by decide +kernel)
  have hk5 := hts (.fieldLink RX7 50 "RimGrains" "screening" "LRimGrains$Screens;") (by decide +kernel)
  have hk6 := hN.f (args := args) 22 rfl
  have hin7 : ∀ w ∈ wsX70, w ∈ wsX7_ifBroken := by decide +kernel
  have hin4 : ∀ w ∈ wsX40, w ∈ wsX7_ifBroken := by decide +kernel
  have hin3 : ∀ w ∈ wsX30, w ∈ wsX7_ifBroken := by decide +kernel
  subst hsz
  have hD := hD0.self (sz := s.heap.size)
  generalize hAe : va_A (wX7 cI cZ cC q0 qn qs qt qh qw qf qr qc qp g0 ++ wX4 cI cZ cC qn gn ++ wX4 cI cZ cC qt gt ++ wX0 cI cZ cC qf gf ++ wX5 cI cZ cC qr gr ++ wX3 cI cZ cC qc gc) s.heap.size = A at hD ⊢
  have hA : ∀ q : Nat, s.heap.size ≤ q → A q := fun q h => by rw [← hAe]; exact Or.inr h
  have hS : va_S A s.heap s.heap [] := va_S.rf
  have hE := lg_entry_eq m [.ref (q0 0), .int a1, .int a2] 4
  rw [← hargs] at hE
  rw [hE]
  have hl := lv_entry [.ref (q0 0), .int a1, .int a2] (n := 4) (Nat.le_of_ble_eq_true rfl)
  generalize (lg_sl [.ref (q0 0), .int a1, .int a2] ++ List.replicate (4 - (lg_sl [.ref (q0 0), .int a1, .int a2]).length) Slot.unset).toArray = ls at hl ⊢
  have hl : lv_has ls 4 [(0, .ref (q0 0)), (1, .int a1), (2, .int a2)] := hl
  have hP : va_P (dC, dI) vwCl (wX7 cI cZ cC q0 qn qs qt qh qw qf qr qc qp g0 ++ wX4 cI cZ cC qn gn ++ wX4 cI cZ cC qt gt ++ wX0 cI cZ cC qf gf ++ wX5 cI cZ cC qr gr ++ wX3 cI cZ cC qc gc) s.heap := hP
  unfold fX7_ifBroken at hf
  refine lv_iload_n hx hb dX7_ifBroken_0 rfl (lv_at hl 2 rfl) ?_
  refine lv_if_lt (tgt := 9) hx hb dX7_ifBroken_1 (by decide) (fun hc => ?_) (fun hc => ?_)
  · have hf := ot hc hf
    refine lv_iconst (v := (-1)) hx hb dX7_ifBroken_9 (by decide) ?_
    obtain rfl := Option.some.inj hf
    exact W.iret (v := (-1)) hx hb hr (fun t ht hW => ⟨⟨_, (), rfl, rfl, by rw [ht]; exact hP, hD⟩, hS.F ht⟩) hS.2.2 dX7_ifBroken_10
  · have hf := oe hc hf
    refine lv_iload_n hx hb dX7_ifBroken_4 rfl (lv_at hl 2 rfl) ?_
    refine lv_iconst (v := 3) hx hb dX7_ifBroken_5 (by decide) ?_
    refine lv_icmp_le (tgt := 11) hx hb dX7_ifBroken_6 (by decide) (fun hc => ?_) (fun hc => ?_)
    · have hf := ot hc hf
      refine lv_aload_n hx hb dX7_ifBroken_11 rfl (lv_at hl 0 rfl) ?_
      refine va_get (D := (dC, dI)) (ci := 6) (v := .ref (qn 0)) (C := RX7) (T := TX7) (N := 14) hx hb hts hin7 hown hK hP 0 rfl rfl 0 (by decide) hk0 (fun _ h9 => h9) rfl dX7_ifBroken_12 ?_
      refine lv_iload_n hx hb dX7_ifBroken_15 rfl (lv_at hl 1 rfl) ?_
      obtain ⟨o16, ho16, hf⟩ := ob hf
      refine rV (rest := []) (As := [.int a1]) ⟨hx, hb, hml, hown, hts⟩ (mX4_refusalToBreak l dC dI cI cZ cC cO qn _ _ _ ho16) (cwV 1 hts gX7_ifBroken_X4_refusalToBreak rfl rfl rfl (by decide +kernel) ⟨Nat.le_of_ble_eq_true rfl, Nat.le_of_ble_eq_true rfl⟩) hK hN hP [1, 2, 3, 4, 5, 6] rfl 3 rfl rfl rfl rfl hl.1 rfl (Nat.le_of_ble_eq_true rfl) dX7_ifBroken_16 ⟨Nat.zero_le _, Nat.zero_le _⟩ ?_
      refine lv_istore_n (lv' := [(3, .int o16), (0, .ref (q0 0)), (1, .int a1), (2, .int a2)]) hx hb dX7_ifBroken_19 rfl hl (by decide) rfl (fun ls hl => ?_)
      refine lv_iload_n hx hb dX7_ifBroken_20 rfl (lv_at hl 0 rfl) ?_
      refine lv_if_eq (tgt := 26) hx hb dX7_ifBroken_21 (by decide) (fun hc => ?_) (fun hc => ?_)
      · have hf := ot hc hf
        refine lv_aload_n hx hb dX7_ifBroken_26 rfl (lv_at hl 1 rfl) ?_
        refine va_get (D := (dC, dI)) (ci := 6) (v := .ref (qt 0)) (C := RX7) (T := TX7) (N := 14) hx hb hts hin7 hown hK hP 0 rfl rfl 2 (by decide) hk1 (fun _ h9 => h9) rfl dX7_ifBroken_27 ?_
        refine lv_aload_n hx hb dX7_ifBroken_30 rfl (lv_at hl 1 rfl) ?_
        refine va_get (D := (dC, dI)) (ci := 6) (v := .ref (qn 0)) (C := RX7) (T := TX7) (N := 14) hx hb hts hin7 hown hK hP 0 rfl rfl 0 (by decide) hk0 (fun _ h9 => h9) rfl dX7_ifBroken_31 ?_
        obtain ⟨o34, ho34, hf⟩ := ob hf
        refine wVv (W1 := (fun _ : Unit => (wX7 cI cZ cC q0 qn qs qt qh qw qf qr qc qp g0 ++ wX4 cI cZ cC qn gn ++ wX4 cI cZ cC qt o34 ++ wX0 cI cZ cC qf gf ++ wX5 cI cZ cC qr gr ++ wX3 cI cZ cC qc gc))) (rest := []) (As := [.ref (qn 0)]) ⟨hx, hb, hml, hown, hts⟩ (mX4_takeOver l dC dI cI cZ cC cO qt qn _ _ _ _ ho34) (cwV 1 hts gX7_ifBroken_X4_takeOver rfl rfl rfl (by decide +kernel) ⟨Nat.le_of_ble_eq_true rfl, Nat.le_of_ble_eq_true rfl⟩) hK hN hP hD hS hA [7, 8, 9, 10, 11, 12, 1, 2, 3, 4, 5, 6] [0, 13, 14, 15, 16, 17, 18, 19, 20, 21, 22, 23, 24] [0, 19, 20, 21, 22, 23, 24, 13, 14, 15, 16, 17, 18, 1, 2, 3, 4, 5, 6, 7, 8, 9, 10, 11, 12] rfl rfl (by decide) (by decide) (fun _ => rfl) 3 rfl rfl rfl rfl hl.1 rfl (Nat.le_of_ble_eq_true rfl) dX7_ifBroken_34 ⟨Nat.zero_le _, Nat.zero_le _⟩ (fun _ H locs hP hD hS => ?_)
        have hP : va_P (dC, dI) vwCl (wX7 cI cZ cC q0 qn qs qt qh qw qf qr qc qp g0 ++ wX4 cI cZ cC qn gn ++ wX4 cI cZ cC qt o34 ++ wX0 cI cZ cC qf gf ++ wX5 cI cZ cC qr gr ++ wX3 cI cZ cC qc gc) H := hP
        have hD : va_D A (wX7 cI cZ cC q0 qn qs qt qh qw qf qr qc qp g0 ++ wX4 cI cZ cC qn gn ++ wX4 cI cZ cC qt o34 ++ wX0 cI cZ cC qf gf ++ wX5 cI cZ cC qr gr ++ wX3 cI cZ cC qc gc) := hD
        refine lv_aload_n hx hb dX7_ifBroken_37 rfl (lv_at hl 1 rfl) ?_
        refine va_get (D := (dC, dI)) (ci := 6) (v := .ref (qf 0)) (C := RX7) (T := TX7) (N := 14) hx hb hts hin7 hown hK hP 0 rfl rfl 5 (by decide) hk2 (fun _ h9 => h9) rfl dX7_ifBroken_38 ?_
        refine lv_aload_n hx hb dX7_ifBroken_41 rfl (lv_at hl 1 rfl) ?_
        refine va_get (D := (dC, dI)) (ci := 6) (v := .ref (qt 0)) (C := RX7) (T := TX7) (N := 14) hx hb hts hin7 hown hK hP 0 rfl rfl 2 (by decide) hk1 (fun _ h9 => h9) rfl dX7_ifBroken_42 ?_
        refine lv_iload_n hx hb dX7_ifBroken_45 rfl (lv_at hl 2 rfl) ?_
        obtain ⟨o46, ho46, hf⟩ := ob hf
        refine wVi (W1 := (fun _ : Unit => (wX7 cI cZ cC q0 qn qs qt qh qw qf qr qc qp g0 ++ wX4 cI cZ cC qn gn ++ wX4 cI cZ cC qt o46.2.2 ++ wX0 cI cZ cC qf o46.2.1 ++ wX5 cI cZ cC qr gr ++ wX3 cI cZ cC qc gc))) (rest := []) (As := [.ref (qt 0), .int a1]) ⟨hx, hb, hml, hown, hts⟩ (mX0_dropTree l dC dI cI cZ cC cO qf qt _ _ _ _ _ ho46) (cwV 2 hts gX7_ifBroken_X0_dropTree rfl rfl rfl (by decide +kernel) ⟨Nat.le_of_ble_eq_true rfl, Nat.le_of_ble_eq_true rfl⟩) hK hN hP hD hS hA [13, 14, 15, 7, 8, 9, 10, 11, 12] [0, 1, 2, 3, 4, 5, 6, 16, 17, 18, 19, 20, 21, 22, 23, 24] [0, 1, 2, 3, 4, 5, 6, 19, 20, 21, 22, 23, 24, 16, 17, 18, 7, 8, 9, 10, 11, 12, 13, 14, 15] rfl rfl (by decide) (by decide) (fun _ => rfl) 0 rfl rfl rfl rfl hl.1 rfl (Nat.le_of_ble_eq_true rfl) dX7_ifBroken_46 ⟨Nat.zero_le _, Nat.zero_le _⟩ (fun _ H locs hP hD hS => ?_)
        have hP : va_P (dC, dI) vwCl (wX7 cI cZ cC q0 qn qs qt qh qw qf qr qc qp g0 ++ wX4 cI cZ cC qn gn ++ wX4 cI cZ cC qt o46.2.2 ++ wX0 cI cZ cC qf o46.2.1 ++ wX5 cI cZ cC qr gr ++ wX3 cI cZ cC qc gc) H := hP
        have hD : va_D A (wX7 cI cZ cC q0 qn qs qt qh qw qf qr qc qp g0 ++ wX4 cI cZ cC qn gn ++ wX4 cI cZ cC qt o46.2.2 ++ wX0 cI cZ cC qf o46.2.1 ++ wX5 cI cZ cC qr gr ++ wX3 cI cZ cC qc gc) := hD
        refine lv_pop hx hb dX7_ifBroken_49 rfl ?_
        refine lv_iload_n hx hb dX7_ifBroken_50 rfl (lv_at hl 3 rfl) ?_
        by_cases hs51_0 : a2 = 0
        · have hf := ot hs51_0 hf
          refine lv_tableIn (off := 25) (tgt := 76) hx hb dX7_ifBroken_51 (by rw [hs51_0]; decide) (by rw [hs51_0]; decide) (by rw [hs51_0]; rfl) (by decide) ?_
          refine lv_aload_n hx hb dX7_ifBroken_76 rfl (lv_at hl 1 rfl) ?_
          refine va_get (D := (dC, dI)) (ci := 6) (v := .ref (qt 0)) (C := RX7) (T := TX7) (N := 14) hx hb hts hin7 hown hK hP 0 rfl rfl 2 (by decide) hk1 (fun _ h9 => h9) rfl dX7_ifBroken_77 ?_
          refine va_getN (D := (dC, dI)) (ci := 3) (v := .int (pX4_grains o46.2.2)) (C := RX4) (T := TX4) (N := 11) hx hb hts hin4 hown hK hP 7 rfl rfl 5 (by decide) hk3 (fun _ h9 => h9) rfl dX7_ifBroken_80 ?_
          obtain rfl := Option.some.inj hf
          exact W.iret (v := (pX4_grains o46.2.2)) hx hb hr (fun t ht hW => ⟨⟨_, (), rfl, rfl, by rw [ht]; exact hP, hD⟩, hS.F ht⟩) hS.2.2 dX7_ifBroken_83
        have hf := oe hs51_0 hf
        by_cases hs51_1 : a2 = 1
        · have hf := ot hs51_1 hf
          refine lv_tableIn (off := 33) (tgt := 84) hx hb dX7_ifBroken_51 (by rw [hs51_1]; decide) (by rw [hs51_1]; decide) (by rw [hs51_1]; rfl) (by decide) ?_
          refine lv_aload_n hx hb dX7_ifBroken_84 rfl (lv_at hl 1 rfl) ?_
          refine va_get (D := (dC, dI)) (ci := 6) (v := .ref (qt 0)) (C := RX7) (T := TX7) (N := 14) hx hb hts hin7 hown hK hP 0 rfl rfl 2 (by decide) hk1 (fun _ h9 => h9) rfl dX7_ifBroken_85 ?_
          obtain ⟨o88, ho88, hf⟩ := ob hf
          refine rV (rest := []) (As := []) ⟨hx, hb, hml, hown, hts⟩ (mX4_reach l dC dI cI cZ cC cO qt _ _ ho88) (cwV 0 hts gX7_ifBroken_X4_reach rfl rfl rfl (by decide +kernel) ⟨Nat.le_of_ble_eq_true rfl, Nat.le_of_ble_eq_true rfl⟩) hK hN hP [7, 8, 9, 10, 11, 12] rfl 3 rfl rfl rfl rfl hl.1 rfl (Nat.le_of_ble_eq_true rfl) dX7_ifBroken_88 ⟨Nat.zero_le _, Nat.zero_le _⟩ ?_
          obtain rfl := Option.some.inj hf
          exact W.iret (v := o88) hx hb hr (fun t ht hW => ⟨⟨_, (), rfl, rfl, by rw [ht]; exact hP, hD⟩, hS.F ht⟩) hS.2.2 dX7_ifBroken_91
        have hf := oe hs51_1 hf
        by_cases hs51_2 : a2 = 2
        · have hf := ot hs51_2 hf
          refine lv_tableIn (off := 41) (tgt := 92) hx hb dX7_ifBroken_51 (by rw [hs51_2]; decide) (by rw [hs51_2]; decide) (by rw [hs51_2]; rfl) (by decide) ?_
          refine lv_aload_n hx hb dX7_ifBroken_92 rfl (lv_at hl 1 rfl) ?_
          refine va_get (D := (dC, dI)) (ci := 6) (v := .ref (qr 0)) (C := RX7) (T := TX7) (N := 14) hx hb hts hin7 hown hK hP 0 rfl rfl 6 (by decide) hk4 (fun _ h9 => h9) rfl dX7_ifBroken_93 ?_
          refine lv_aload_n hx hb dX7_ifBroken_96 rfl (lv_at hl 1 rfl) ?_
          refine va_get (D := (dC, dI)) (ci := 6) (v := .ref (qt 0)) (C := RX7) (T := TX7) (N := 14) hx hb hts hin7 hown hK hP 0 rfl rfl 2 (by decide) hk1 (fun _ h9 => h9) rfl dX7_ifBroken_97 ?_
          obtain ⟨o100, ho100, hf⟩ := ob hf
          refine wVv (W1 := (fun _ : Unit => (wX7 cI cZ cC q0 qn qs qt qh qw qf qr qc qp g0 ++ wX4 cI cZ cC qn gn ++ wX4 cI cZ cC qt o46.2.2 ++ wX0 cI cZ cC qf o46.2.1 ++ wX5 cI cZ cC qr o100 ++ wX3 cI cZ cC qc gc))) (rest := []) (As := [.ref (qt 0)]) ⟨hx, hb, hml, hown, hts⟩ (mX5_read l dC dI cI cZ cC cO qr qt _ _ _ _ ho100) (cwV 1 hts gX7_ifBroken_X5_read rfl rfl rfl (by decide +kernel) ⟨Nat.le_of_ble_eq_true rfl, Nat.le_of_ble_eq_true rfl⟩) hK hN hP hD hS hA [16, 17, 18, 19, 20, 21, 22, 7, 8, 9, 10, 11, 12] [0, 1, 2, 3, 4, 5, 6, 13, 14, 15, 23, 24] [0, 1, 2, 3, 4, 5, 6, 19, 20, 21, 22, 23, 24, 7, 8, 9, 12, 13, 14, 15, 16, 17, 18, 10, 11] rfl rfl (by decide) (by decide) (fun _ => rfl) 4 rfl rfl rfl rfl hl.1 rfl (Nat.le_of_ble_eq_true rfl) dX7_ifBroken_100 ⟨Nat.zero_le _, Nat.zero_le _⟩ (fun _ H locs hP hD hS => ?_)
          have hP : va_P (dC, dI) vwCl (wX7 cI cZ cC q0 qn qs qt qh qw qf qr qc qp g0 ++ wX4 cI cZ cC qn gn ++ wX4 cI cZ cC qt o46.2.2 ++ wX0 cI cZ cC qf o46.2.1 ++ wX5 cI cZ cC qr o100 ++ wX3 cI cZ cC qc gc) H := hP
          have hD : va_D A (wX7 cI cZ cC q0 qn qs qt qh qw qf qr qc qp g0 ++ wX4 cI cZ cC qn gn ++ wX4 cI cZ cC qt o46.2.2 ++ wX0 cI cZ cC qf o46.2.1 ++ wX5 cI cZ cC qr o100 ++ wX3 cI cZ cC qc gc) := hD
          refine lv_aload_n hx hb dX7_ifBroken_103 rfl (lv_at hl 1 rfl) ?_
          refine va_get (D := (dC, dI)) (ci := 6) (v := .ref (qr 0)) (C := RX7) (T := TX7) (N := 14) hx hb hts hin7 hown hK hP 0 rfl rfl 6 (by decide) hk4 (fun _ h9 => h9) rfl dX7_ifBroken_104 ?_
          obtain ⟨o107, ho107, hf⟩ := ob hf
          refine rV (rest := []) (As := []) ⟨hx, hb, hml, hown, hts⟩ (mX5_deepest l dC dI cI cZ cC cO qr _ _ ho107) (cwV 0 hts gX7_ifBroken_X5_deepest rfl rfl rfl (by decide +kernel) ⟨Nat.le_of_ble_eq_true rfl, Nat.le_of_ble_eq_true rfl⟩) hK hN hP [16, 17, 18, 19, 20, 21, 22] rfl 4 rfl rfl rfl rfl hl.1 rfl (Nat.le_of_ble_eq_true rfl) dX7_ifBroken_107 ⟨Nat.zero_le _, Nat.zero_le _⟩ ?_
          obtain rfl := Option.some.inj hf
          exact W.iret (v := o107) hx hb hr (fun t ht hW => ⟨⟨_, (), rfl, rfl, by rw [ht]; exact hP, hD⟩, hS.F ht⟩) hS.2.2 dX7_ifBroken_110
        have hf := oe hs51_2 hf
        have hs51_0T := lv_neT (a := 0) hs51_0 rfl
        have hs51_1T := lv_neT (a := 1) hs51_1 rfl
        have hs51_2T := lv_neT (a := 2) hs51_2 rfl
        refine lv_tableOut (tgt := 111) hx hb dX7_ifBroken_51 (by omega) (by decide) ?_
        refine lv_aload_n hx hb dX7_ifBroken_111 rfl (lv_at hl 1 rfl) ?_
        refine va_get (D := (dC, dI)) (ci := 6) (v := .ref (qc 0)) (C := RX7) (T := TX7) (N := 14) hx hb hts hin7 hown hK hP 0 rfl rfl 7 (by decide) hk5 (fun _ h9 => h9) rfl dX7_ifBroken_112 ?_
        refine lv_aload_n hx hb dX7_ifBroken_115 rfl (lv_at hl 1 rfl) ?_
        refine va_get (D := (dC, dI)) (ci := 6) (v := .ref (qt 0)) (C := RX7) (T := TX7) (N := 14) hx hb hts hin7 hown hK hP 0 rfl rfl 2 (by decide) hk1 (fun _ h9 => h9) rfl dX7_ifBroken_116 ?_
        obtain ⟨o119, ho119, hf⟩ := ob hf
        refine wVv (W1 := (fun _ : Unit => (wX7 cI cZ cC q0 qn qs qt qh qw qf qr qc qp g0 ++ wX4 cI cZ cC qn gn ++ wX4 cI cZ cC qt o46.2.2 ++ wX0 cI cZ cC qf o46.2.1 ++ wX5 cI cZ cC qr gr ++ wX3 cI cZ cC qc o119))) (rest := []) (As := [.ref (qt 0)]) ⟨hx, hb, hml, hown, hts⟩ (mX3_read l dC dI cI cZ cC cO qc qt _ _ _ _ ho119) (cwV 1 hts gX7_ifBroken_X3_read rfl rfl rfl (by decide +kernel) ⟨Nat.le_of_ble_eq_true rfl, Nat.le_of_ble_eq_true rfl⟩) hK hN hP hD hS hA [23, 24, 7, 8, 9, 10, 11, 12] [0, 1, 2, 3, 4, 5, 6, 13, 14, 15, 16, 17, 18, 19, 20, 21, 22] [0, 1, 2, 3, 4, 5, 6, 19, 20, 21, 22, 23, 24, 7, 8, 9, 10, 11, 12, 13, 14, 15, 16, 17, 18] rfl rfl (by decide) (by decide) (fun _ => rfl) 2 rfl rfl rfl rfl hl.1 rfl (Nat.le_of_ble_eq_true rfl) dX7_ifBroken_119 ⟨Nat.zero_le _, Nat.zero_le _⟩ (fun _ H locs hP hD hS => ?_)
        have hP : va_P (dC, dI) vwCl (wX7 cI cZ cC q0 qn qs qt qh qw qf qr qc qp g0 ++ wX4 cI cZ cC qn gn ++ wX4 cI cZ cC qt o46.2.2 ++ wX0 cI cZ cC qf o46.2.1 ++ wX5 cI cZ cC qr gr ++ wX3 cI cZ cC qc o119) H := hP
        have hD : va_D A (wX7 cI cZ cC q0 qn qs qt qh qw qf qr qc qp g0 ++ wX4 cI cZ cC qn gn ++ wX4 cI cZ cC qt o46.2.2 ++ wX0 cI cZ cC qf o46.2.1 ++ wX5 cI cZ cC qr gr ++ wX3 cI cZ cC qc o119) := hD
        refine lv_aload_n hx hb dX7_ifBroken_122 rfl (lv_at hl 1 rfl) ?_
        refine va_get (D := (dC, dI)) (ci := 6) (v := .ref (qc 0)) (C := RX7) (T := TX7) (N := 14) hx hb hts hin7 hown hK hP 0 rfl rfl 7 (by decide) hk5 (fun _ h9 => h9) rfl dX7_ifBroken_123 ?_
        refine va_getN (D := (dC, dI)) (ci := 2) (v := .int (pX3_open o119)) (C := RX3) (T := TX3) (N := 3) hx hb hts hin3 hown hK hP 23 rfl rfl 2 (by decide) hk6 (fun _ h9 => h9) rfl dX7_ifBroken_126 ?_
        obtain rfl := Option.some.inj hf
        exact W.iret (v := (pX3_open o119)) hx hb hr (fun t ht hW => ⟨⟨_, (), rfl, rfl, by rw [ht]; exact hP, hD⟩, hS.F ht⟩) hS.2.2 dX7_ifBroken_129
      · have hf := oe hc hf
        refine lv_iload_n hx hb dX7_ifBroken_24 rfl (lv_at hl 0 rfl) ?_
        obtain rfl := Option.some.inj hf
        exact W.iret (v := o16) hx hb hr (fun t ht hW => ⟨⟨_, (), rfl, rfl, by rw [ht]; exact hP, hD⟩, hS.F ht⟩) hS.2.2 dX7_ifBroken_25
    · have hf := oe hc hf
      refine lv_iconst (v := (-1)) hx hb dX7_ifBroken_9 (by decide) ?_
      obtain rfl := Option.some.inj hf
      exact W.iret (v := (-1)) hx hb hr (fun t ht hW => ⟨⟨_, (), rfl, rfl, by rw [ht]; exact hP, hD⟩, hS.F ht⟩) hS.2.2 dX7_ifBroken_10
set_option maxHeartbeats 4000000 in
set_option maxRecDepth 100000 in
theorem mX7_save (l : Launch) (dC : Nat → ClassId) (dI : Nat → Nat → Nat) (cI cZ cC cO : ClassId) (q0 : Nat → Nat) (qn : Nat → Nat) (qs : Nat → Nat) (qt : Nat → Nat) (qh : Nat → Nat) (qw : Nat → Nat) (qf : Nat → Nat) (qr : Nat → Nat) (qc : Nat → Nat) (qp : Nat → Nat) (g0 : GX7) (gn : GX4) (gs : GX4) (sz : Nat) (out : Int32 × GX7 × GX4) (hf : fX7_save g0 gn gs = some out) : Met l yX7_save wsX7_save rmX7_save (va_Pc [.ref (q0 0)] (pcW (dC, dI) (wTys cI cZ cC cO) sz (wX7 cI cZ cC q0 qn qs qt qh qw qf qr qc qp g0 ++ wX4 cI cZ cC qn gn ++ wX4 cI cZ cC qs gs))) (va_Qi (fun r (_ : Unit) => r = out.1) (fun _ => poW (dC, dI) (va_A (wX7 cI cZ cC q0 qn qs qt qh qw qf qr qc qp g0 ++ wX4 cI cZ cC qn gn ++ wX4 cI cZ cC qs gs) sz) (wX7 cI cZ cC q0 qn qs qt qh qw qf qr qc qp out.2.1 ++ wX4 cI cZ cC qn gn ++ wX4 cI cZ cC qs out.2.2)) (va_A (wX7 cI cZ cC q0 qn qs qt qh qw qf qr qc qp g0 ++ wX4 cI cZ cC qn gn ++ wX4 cI cZ cC qs gs) sz)) 0 0 (va_A (wX7 cI cZ cC q0 qn qs qt qh qw qf qr qc qp g0 ++ wX4 cI cZ cC qn gn ++ wX4 cI cZ cC qs gs) sz) := by
  refine Met.ofW (cc := cX7_save) (maxL := 1) (ret := (some .int)) (by decide) rfl ?_
  intro p e s m args below meth c s₁ B hml hv
  obtain ⟨hargs, hsz, hP, hK, hN, hD0⟩ := hv
  have hx := B.exec
  have hb := B.bytes
  have hr := B.returns
  have hts := atoms_spec (ws := wsX7_save) B.pre
  have hown : s.vm.findClass RX7 = some m.cls := findClass_of_methodNamed B.named
  have hlocks := B.notSynchronized
  have hk0 := hts (.fieldLink RX7 16 "RimGrains" "snapshot" "LRimGrains$State;") (by decide +kernel)
  have hk1 := hts (.fieldLink RX7 12 "RimGrains" "now" "LRimGrains$State;") (by decide +kernel)
  have hk2 := hts (.fieldLink RX7 65 "RimGrains" "saved" "Z") (by decide +kernel)
  have hk3 := hN.f (args := args) 3 rfl
  have hin7 : ∀ w ∈ wsX70, w ∈ wsX7_save := by decide +kernel
  have hin4 : ∀ w ∈ wsX40, w ∈ wsX7_save := by decide +kernel
  subst hsz
  have hD := hD0.self (sz := s.heap.size)
  generalize hAe : va_A (wX7 cI cZ cC q0 qn qs qt qh qw qf qr qc qp g0 ++ wX4 cI cZ cC qn gn ++ wX4 cI cZ cC qs gs) s.heap.size = A at hD ⊢
  have hA : ∀ q : Nat, s.heap.size ≤ q → A q := fun q h => by rw [← hAe]; exact Or.inr h
  have hS : va_S A s.heap s.heap [] := va_S.rf
  have hE := lg_entry_eq m [.ref (q0 0)] 1
  rw [← hargs] at hE
  rw [hE]
  have hl := lv_entry [.ref (q0 0)] (n := 1) (Nat.le_of_ble_eq_true rfl)
  generalize (lg_sl [.ref (q0 0)] ++ List.replicate (1 - (lg_sl [.ref (q0 0)]).length) Slot.unset).toArray = ls at hl ⊢
  have hl : lv_has ls 1 [(0, .ref (q0 0))] := hl
  have hP : va_P (dC, dI) vwCl (wX7 cI cZ cC q0 qn qs qt qh qw qf qr qc qp g0 ++ wX4 cI cZ cC qn gn ++ wX4 cI cZ cC qs gs) s.heap := hP
  unfold fX7_save at hf
  refine lv_aload_n hx hb dX7_save_0 rfl (lv_at hl 0 rfl) ?_
  refine va_get (D := (dC, dI)) (ci := 6) (v := .ref (qs 0)) (C := RX7) (T := TX7) (N := 14) hx hb hts hin7 hown hK hP 0 rfl rfl 1 (by decide) hk0 (fun _ h9 => h9) rfl dX7_save_1 ?_
  refine lv_aload_n hx hb dX7_save_4 rfl (lv_at hl 0 rfl) ?_
  refine va_get (D := (dC, dI)) (ci := 6) (v := .ref (qn 0)) (C := RX7) (T := TX7) (N := 14) hx hb hts hin7 hown hK hP 0 rfl rfl 0 (by decide) hk1 (fun _ h9 => h9) rfl dX7_save_5 ?_
  obtain ⟨o8, ho8, hf⟩ := ob hf
  refine wVv (W1 := (fun _ : Unit => (wX7 cI cZ cC q0 qn qs qt qh qw qf qr qc qp g0 ++ wX4 cI cZ cC qn gn ++ wX4 cI cZ cC qs o8))) (rest := []) (As := [.ref (qn 0)]) ⟨hx, hb, hml, hown, hts⟩ (mX4_takeOver l dC dI cI cZ cC cO qs qn _ _ _ _ ho8) (cwV 1 hts gX7_save_X4_takeOver rfl rfl rfl (by decide +kernel) ⟨Nat.le_of_ble_eq_true rfl, Nat.le_of_ble_eq_true rfl⟩) hK hN hP hD hS hA [7, 8, 9, 10, 11, 12, 1, 2, 3, 4, 5, 6] [0] [0, 7, 8, 9, 10, 11, 12, 1, 2, 3, 4, 5, 6] rfl rfl (by decide) (by decide) (fun _ => rfl) 3 rfl rfl rfl rfl hl.1 rfl (Nat.le_of_ble_eq_true rfl) dX7_save_8 ⟨Nat.zero_le _, Nat.zero_le _⟩ (fun _ H locs hP hD hS => ?_)
  have hP : va_P (dC, dI) vwCl (wX7 cI cZ cC q0 qn qs qt qh qw qf qr qc qp g0 ++ wX4 cI cZ cC qn gn ++ wX4 cI cZ cC qs o8) H := hP
  have hD : va_D A (wX7 cI cZ cC q0 qn qs qt qh qw qf qr qc qp g0 ++ wX4 cI cZ cC qn gn ++ wX4 cI cZ cC qs o8) := hD
  refine lv_aload_n hx hb dX7_save_11 rfl (lv_at hl 0 rfl) ?_
  refine lv_iconst (v := 1) hx hb dX7_save_12 (by decide) ?_
  refine va_put (D := (dC, dI)) (ci := 6) (v := .int 1) (ty := .boolean) (C := RX7) (T := TX7) (N := 14) hx hb hts hin7 tyX7 tyX7_ok nmX7 hown hK hP hD hS 0 rfl rfl 10 (by decide) hk2 (fun _ h9 => h9) rfl (by decide +kernel) rfl rfl (Nat.le_of_ble_eq_true rfl) dX7_save_13 (fun H locs hP hD hS => ?_)
  have hP : va_P (dC, dI) vwCl (wX7 cI cZ cC q0 qn qs qt qh qw qf qr qc qp ((pX7_states g0), 1, (pX7_stopError g0), (pX7_stopDeed g0), (pX7_stopPlace g0)) ++ wX4 cI cZ cC qn gn ++ wX4 cI cZ cC qs o8) H := hP
  have hD : va_D A (wX7 cI cZ cC q0 qn qs qt qh qw qf qr qc qp ((pX7_states g0), 1, (pX7_stopError g0), (pX7_stopDeed g0), (pX7_stopPlace g0)) ++ wX4 cI cZ cC qn gn ++ wX4 cI cZ cC qs o8) := hD
  refine lv_aload_n hx hb dX7_save_16 rfl (lv_at hl 0 rfl) ?_
  refine va_get (D := (dC, dI)) (ci := 6) (v := .ref (qn 0)) (C := RX7) (T := TX7) (N := 14) hx hb hts hin7 hown hK hP 0 rfl rfl 0 (by decide) hk1 (fun _ h9 => h9) rfl dX7_save_17 ?_
  refine va_getN (D := (dC, dI)) (ci := 3) (v := .int (pX4_grains gn)) (C := RX4) (T := TX4) (N := 11) hx hb hts hin4 hown hK hP 1 rfl rfl 5 (by decide) hk3 (fun _ h9 => h9) rfl dX7_save_20 ?_
  obtain rfl := Option.some.inj hf
  exact W.iret (v := (pX4_grains gn)) hx hb hr (fun t ht hW => ⟨⟨_, (), rfl, rfl, by rw [ht]; exact hP, hD⟩, hS.F ht⟩) hS.2.2 dX7_save_23
