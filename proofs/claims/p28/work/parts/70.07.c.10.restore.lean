set_option maxHeartbeats 4000000 in
set_option maxRecDepth 100000 in
theorem mX7_restore (l : Launch) (dC : Nat → ClassId) (dI : Nat → Nat → Nat) (cI cZ cC cO : ClassId) (q0 : Nat → Nat) (qn : Nat → Nat) (qs : Nat → Nat) (qt : Nat → Nat) (qh : Nat → Nat) (qw : Nat → Nat) (qf : Nat → Nat) (qr : Nat → Nat) (qc : Nat → Nat) (qp : Nat → Nat) (uh : QH) (g0 : GX7) (gn : GX4) (gs : GX4) (gh : GH) (sz : Nat) (out : Int32 × GX7 × GX4 × GH) (hf : fX7_restore g0 gn gs gh = some out) : Met l yX7_restore wsX7_restore rmX7_restore (va_Pc [.ref (q0 0)] (pcW (dC, dI) (wTys cI cZ cC cO) sz (wX7 cI cZ cC q0 qn qs qt qh qw qf qr qc qp g0 ++ wX4 cI cZ cC qn gn ++ wX4 cI cZ cC qs gs ++ wH cI cZ cC cO qh uh gh))) (va_Qi (fun r (_ : QH) => r = out.1) (fun u => poW (dC, dI) (va_A (wX7 cI cZ cC q0 qn qs qt qh qw qf qr qc qp g0 ++ wX4 cI cZ cC qn gn ++ wX4 cI cZ cC qs gs ++ wH cI cZ cC cO qh uh gh) sz) (wX7 cI cZ cC q0 qn qs qt qh qw qf qr qc qp out.2.1 ++ wX4 cI cZ cC qn out.2.2.1 ++ wX4 cI cZ cC qs gs ++ wH cI cZ cC cO qh u out.2.2.2)) (va_A (wX7 cI cZ cC q0 qn qs qt qh qw qf qr qc qp g0 ++ wX4 cI cZ cC qn gn ++ wX4 cI cZ cC qs gs ++ wH cI cZ cC cO qh uh gh) sz)) 0 0 (va_A (wX7 cI cZ cC q0 qn qs qt qh qw qf qr qc qp g0 ++ wX4 cI cZ cC qn gn ++ wX4 cI cZ cC qs gs ++ wH cI cZ cC cO qh uh gh) sz) := by
  refine Met.ofW (cc := cX7_restore) (maxL := 1) (ret := (some .int)) (by decide) rfl ?_
  intro p e s m args below meth c s₁ B hml hv
  obtain ⟨hargs, hsz, hP, hK, hN, hD0⟩ := hv
  have hx := B.exec
  have hb := B.bytes
  have hr := B.returns
  have hts := atoms_spec (ws := wsX7_restore) B.pre
  have hown : s.vm.findClass RX7 = some m.cls := findClass_of_methodNamed B.named
  have hlocks := B.notSynchronized
  have hk0 := hts (.fieldLink RX7 65 "RimGrains" "saved" "Z") (by decide +kernel)
  have hk1 := hts (.fieldLink RX7 12 "RimGrains" "now" "LRimGrains$State;") (by decide +kernel)
  have hk2 := hts (.fieldLink RX7 16 "RimGrains" "snapshot" "LRimGrains$State;") (by decide +kernel)
  have hk3 := hN.f (args := args) 3 rfl
  have hin7 : ∀ w ∈ wsX70, w ∈ wsX7_restore := by decide +kernel
  have hin4 : ∀ w ∈ wsX40, w ∈ wsX7_restore := by decide +kernel
  subst hsz
  have hD := hD0.self (sz := s.heap.size)
  generalize hAe : va_A (wX7 cI cZ cC q0 qn qs qt qh qw qf qr qc qp g0 ++ wX4 cI cZ cC qn gn ++ wX4 cI cZ cC qs gs ++ wH cI cZ cC cO qh uh gh) s.heap.size = A at hD ⊢
  have hA : ∀ q : Nat, s.heap.size ≤ q → A q := fun q h => by rw [← hAe]; exact Or.inr h
  have hS : va_S A s.heap s.heap [] := va_S.rf
  have hE := lg_entry_eq m [.ref (q0 0)] 1
  rw [← hargs] at hE
  rw [hE]
  have hl := lv_entry [.ref (q0 0)] (n := 1) (Nat.le_of_ble_eq_true rfl)
  generalize (lg_sl [.ref (q0 0)] ++ List.replicate (1 - (lg_sl [.ref (q0 0)]).length) Slot.unset).toArray = ls at hl ⊢
  have hl : lv_has ls 1 [(0, .ref (q0 0))] := hl
  have hP : va_P (dC, dI) vwCl (wX7 cI cZ cC q0 qn qs qt qh qw qf qr qc qp g0 ++ wX4 cI cZ cC qn gn ++ wX4 cI cZ cC qs gs ++ wH cI cZ cC cO qh uh gh) s.heap := hP
  unfold fX7_restore at hf
  refine lv_aload_n hx hb dX7_restore_0 rfl (lv_at hl 0 rfl) ?_
  refine va_get (D := (dC, dI)) (ci := 6) (v := .int (pX7_saved g0)) (C := RX7) (T := TX7) (N := 14) hx hb hts hin7 hown hK hP 0 rfl rfl 10 (by decide) hk0 (fun _ h9 => h9) rfl dX7_restore_1 ?_
  refine lv_if_ne (tgt := 10) hx hb dX7_restore_4 (by decide) (fun hc => ?_) (fun hc => ?_)
  · have hf := oe hc hf
    refine lv_aload_n hx hb dX7_restore_10 rfl (lv_at hl 0 rfl) ?_
    obtain ⟨o11, ho11, hf⟩ := ob hf
    refine wVv (W1 := (fun u11 : QH => (wX7 cI cZ cC q0 qn qs qt qh qw qf qr qc qp o11.1 ++ wX4 cI cZ cC qn gn ++ wX4 cI cZ cC qs gs ++ wH cI cZ cC cO qh u11 o11.2))) (rest := []) (As := []) ⟨hx, hb, hml, hown, hts⟩ (mX7_record l dC dI cI cZ cC cO q0 qn qs qt qh qw qf qr qc qp uh _ _ _ _ _ ho11) (cwV 0 hts gX7_restore_X7_record rfl rfl rfl (by decide +kernel) ⟨Nat.le_of_ble_eq_true rfl, Nat.le_of_ble_eq_true rfl⟩) hK hN hP hD hS hA [0, 1, 2, 3, 4, 5, 6, 13, 14, 15, 16, 17, 18, 19, 20, 21, 22, 23, 24, 25, 26, 27, 28, 29, 30, 31, 32, 33, 34, 35, 36, 37] [7, 8, 9, 10, 11, 12] [6, 7, 8, 9, 10, 11, 12, 0, 1, 2, 3, 4, 5, 13, 14, 15, 16, 17, 18, 19, 20, 21, 22, 23, 24, 25, 26, 27, 28, 29, 30, 31, 32, 33, 34, 35, 36, 37] rfl rfl (by decide +kernel) (by decide +kernel) (fun _ => rfl) 6 rfl rfl rfl rfl hl.1 rfl (Nat.le_of_ble_eq_true rfl) dX7_restore_11 ⟨Nat.zero_le _, Nat.zero_le _⟩ (fun u11 H locs hP hD hS => ?_)
    have hP : va_P (dC, dI) vwCl (wX7 cI cZ cC q0 qn qs qt qh qw qf qr qc qp o11.1 ++ wX4 cI cZ cC qn gn ++ wX4 cI cZ cC qs gs ++ wH cI cZ cC cO qh u11 o11.2) H := hP
    have hD : va_D A (wX7 cI cZ cC q0 qn qs qt qh qw qf qr qc qp o11.1 ++ wX4 cI cZ cC qn gn ++ wX4 cI cZ cC qs gs ++ wH cI cZ cC cO qh u11 o11.2) := hD
    refine lv_aload_n hx hb dX7_restore_14 rfl (lv_at hl 0 rfl) ?_
    refine va_get (D := (dC, dI)) (ci := 6) (v := .ref (qn 0)) (C := RX7) (T := TX7) (N := 14) hx hb hts hin7 hown hK hP 0 rfl rfl 0 (by decide) hk1 (fun _ h9 => h9) rfl dX7_restore_15 ?_
    refine lv_aload_n hx hb dX7_restore_18 rfl (lv_at hl 0 rfl) ?_
    refine va_get (D := (dC, dI)) (ci := 6) (v := .ref (qs 0)) (C := RX7) (T := TX7) (N := 14) hx hb hts hin7 hown hK hP 0 rfl rfl 1 (by decide) hk2 (fun _ h9 => h9) rfl dX7_restore_19 ?_
    obtain ⟨o22, ho22, hf⟩ := ob hf
    refine wVv (W1 := (fun _ : Unit => (wX7 cI cZ cC q0 qn qs qt qh qw qf qr qc qp o11.1 ++ wX4 cI cZ cC qn o22 ++ wX4 cI cZ cC qs gs ++ wH cI cZ cC cO qh u11 o11.2))) (rest := []) (As := [.ref (qs 0)]) ⟨hx, hb, hml, hown, hts⟩ (mX4_takeOver l dC dI cI cZ cC cO qn qs _ _ _ _ ho22) (cwV 1 hts gX7_restore_X4_takeOver rfl rfl rfl (by decide +kernel) ⟨Nat.le_of_ble_eq_true rfl, Nat.le_of_ble_eq_true rfl⟩) hK hN hP hD hS hA [1, 2, 3, 4, 5, 6, 7, 8, 9, 10, 11, 12] [0, 13, 14, 15, 16, 17, 18, 19, 20, 21, 22, 23, 24, 25, 26, 27, 28, 29, 30, 31, 32, 33, 34, 35, 36, 37] [0, 26, 27, 28, 29, 30, 31, 32, 33, 34, 35, 36, 37, 1, 2, 3, 4, 5, 6, 7, 8, 9, 10, 11, 12, 13, 14, 15, 16, 17, 18, 19, 20, 21, 22, 23, 24, 25] rfl rfl (by decide +kernel) (by decide +kernel) (fun _ => rfl) 3 rfl rfl rfl rfl hl.1 rfl (Nat.le_of_ble_eq_true rfl) dX7_restore_22 ⟨Nat.zero_le _, Nat.zero_le _⟩ (fun _ H locs hP hD hS => ?_)
    have hP : va_P (dC, dI) vwCl (wX7 cI cZ cC q0 qn qs qt qh qw qf qr qc qp o11.1 ++ wX4 cI cZ cC qn o22 ++ wX4 cI cZ cC qs gs ++ wH cI cZ cC cO qh u11 o11.2) H := hP
    have hD : va_D A (wX7 cI cZ cC q0 qn qs qt qh qw qf qr qc qp o11.1 ++ wX4 cI cZ cC qn o22 ++ wX4 cI cZ cC qs gs ++ wH cI cZ cC cO qh u11 o11.2) := hD
    refine lv_aload_n hx hb dX7_restore_25 rfl (lv_at hl 0 rfl) ?_
    refine va_get (D := (dC, dI)) (ci := 6) (v := .ref (qn 0)) (C := RX7) (T := TX7) (N := 14) hx hb hts hin7 hown hK hP 0 rfl rfl 0 (by decide) hk1 (fun _ h9 => h9) rfl dX7_restore_26 ?_
    refine va_getN (D := (dC, dI)) (ci := 3) (v := .int (pX4_grains o22)) (C := RX4) (T := TX4) (N := 11) hx hb hts hin4 hown hK hP 1 rfl rfl 5 (by decide) hk3 (fun _ h9 => h9) rfl dX7_restore_29 ?_
    obtain rfl := Option.some.inj hf
    exact W.iret (v := (pX4_grains o22)) hx hb hr (fun t ht hW => ⟨⟨_, u11, rfl, rfl, by rw [ht]; exact hP, hD⟩, hS.F ht⟩) hS.2.2 dX7_restore_32
  · have hf := ot hc hf
    refine lv_bipush (v := (-2)) hx hb dX7_restore_7 (by decide) ?_
    obtain rfl := Option.some.inj hf
    exact W.iret (v := (-2)) hx hb hr (fun t ht hW => ⟨⟨_, uh, rfl, rfl, by rw [ht]; exact hP, hD⟩, hS.F ht⟩) hS.2.2 dX7_restore_9
