set_option maxHeartbeats 4000000 in
set_option maxRecDepth 100000 in
theorem mX7_breakOff (l : Launch) (dC : Nat → ClassId) (dI : Nat → Nat → Nat) (cI cZ cC cO : ClassId) (q0 : Nat → Nat) (qn : Nat → Nat) (qs : Nat → Nat) (qt : Nat → Nat) (qh : Nat → Nat) (qw : Nat → Nat) (qf : Nat → Nat) (qr : Nat → Nat) (qc : Nat → Nat) (qp : Nat → Nat) (uh : QH) (a1 : Int32) (g0 : GX7) (gn : GX4) (gh : GH) (gf : GX0) (sz : Nat) (out : Int32 × GX7 × GX4 × GH × GX0) (hf : fX7_breakOff a1 g0 gn gh gf = some out) : Met l yX7_breakOff wsX7_breakOff rmX7_breakOff (va_Pc [.ref (q0 0), .int a1] (pcW (dC, dI) (wTys cI cZ cC cO) sz (wX7 cI cZ cC q0 qn qs qt qh qw qf qr qc qp g0 ++ wX4 cI cZ cC qn gn ++ wH cI cZ cC cO qh uh gh ++ wX0 cI cZ cC qf gf))) (va_Qi (fun r (_ : QH) => r = out.1) (fun u => poW (dC, dI) (va_A (wX7 cI cZ cC q0 qn qs qt qh qw qf qr qc qp g0 ++ wX4 cI cZ cC qn gn ++ wH cI cZ cC cO qh uh gh ++ wX0 cI cZ cC qf gf) sz) (wX7 cI cZ cC q0 qn qs qt qh qw qf qr qc qp out.2.1 ++ wX4 cI cZ cC qn out.2.2.1 ++ wH cI cZ cC cO qh u out.2.2.2.1 ++ wX0 cI cZ cC qf out.2.2.2.2)) (va_A (wX7 cI cZ cC q0 qn qs qt qh qw qf qr qc qp g0 ++ wX4 cI cZ cC qn gn ++ wH cI cZ cC cO qh uh gh ++ wX0 cI cZ cC qf gf) sz)) 0 0 (va_A (wX7 cI cZ cC q0 qn qs qt qh qw qf qr qc qp g0 ++ wX4 cI cZ cC qn gn ++ wH cI cZ cC cO qh uh gh ++ wX0 cI cZ cC qf gf) sz) := by
  refine Met.ofW (cc := cX7_breakOff) (maxL := 3) (ret := (some .int)) (by decide) rfl ?_
  intro p e s m args below meth c s₁ B hml hv
  obtain ⟨hargs, hsz, hP, hK, hN, hD0⟩ := hv
  have hx := B.exec
  have hb := B.bytes
  have hr := B.returns
  have hts := atoms_spec (ws := wsX7_breakOff) B.pre
  have hown : s.vm.findClass RX7 = some m.cls := findClass_of_methodNamed B.named
  have hlocks := B.notSynchronized
  have hk0 := hts (.fieldLink RX7 12 "RimGrains" "now" "LRimGrains$State;") (by decide +kernel)
  have hk1 := hts (.fieldLink RX7 36 "RimGrains" "fall" "LRimGrains$Fall;") (by decide +kernel)
  have hin7 : ∀ w ∈ wsX70, w ∈ wsX7_breakOff := by decide +kernel
  subst hsz
  have hD := hD0.self (sz := s.heap.size)
  generalize hAe : va_A (wX7 cI cZ cC q0 qn qs qt qh qw qf qr qc qp g0 ++ wX4 cI cZ cC qn gn ++ wH cI cZ cC cO qh uh gh ++ wX0 cI cZ cC qf gf) s.heap.size = A at hD ⊢
  have hA : ∀ q : Nat, s.heap.size ≤ q → A q := fun q h => by rw [← hAe]; exact Or.inr h
  have hS : va_S A s.heap s.heap [] := va_S.rf
  have hE := lg_entry_eq m [.ref (q0 0), .int a1] 3
  rw [← hargs] at hE
  rw [hE]
  have hl := lv_entry [.ref (q0 0), .int a1] (n := 3) (Nat.le_of_ble_eq_true rfl)
  generalize (lg_sl [.ref (q0 0), .int a1] ++ List.replicate (3 - (lg_sl [.ref (q0 0), .int a1]).length) Slot.unset).toArray = ls at hl ⊢
  have hl : lv_has ls 3 [(0, .ref (q0 0)), (1, .int a1)] := hl
  have hP : va_P (dC, dI) vwCl (wX7 cI cZ cC q0 qn qs qt qh qw qf qr qc qp g0 ++ wX4 cI cZ cC qn gn ++ wH cI cZ cC cO qh uh gh ++ wX0 cI cZ cC qf gf) s.heap := hP
  unfold fX7_breakOff at hf
  refine lv_aload_n hx hb dX7_breakOff_0 rfl (lv_at hl 0 rfl) ?_
  refine va_get (D := (dC, dI)) (ci := 6) (v := .ref (qn 0)) (C := RX7) (T := TX7) (N := 14) hx hb hts hin7 hown hK hP 0 rfl rfl 0 (by decide) hk0 (fun _ h9 => h9) rfl dX7_breakOff_1 ?_
  refine lv_iload_n hx hb dX7_breakOff_4 rfl (lv_at hl 1 rfl) ?_
  obtain ⟨o5, ho5, hf⟩ := ob hf
  refine rV (rest := []) (As := [.int a1]) ⟨hx, hb, hml, hown, hts⟩ (mX4_refusalToBreak l dC dI cI cZ cC cO qn _ _ _ ho5) (cwV 1 hts gX7_breakOff_X4_refusalToBreak rfl rfl rfl (by decide +kernel) ⟨Nat.le_of_ble_eq_true rfl, Nat.le_of_ble_eq_true rfl⟩) hK hN hP [1, 2, 3, 4, 5, 6] rfl 3 rfl rfl rfl rfl hl.1 rfl (Nat.le_of_ble_eq_true rfl) dX7_breakOff_5 ⟨Nat.zero_le _, Nat.zero_le _⟩ ?_
  refine lv_istore_n (lv' := [(2, .int o5), (0, .ref (q0 0)), (1, .int a1)]) hx hb dX7_breakOff_8 rfl hl (by decide) rfl (fun ls hl => ?_)
  refine lv_iload_n hx hb dX7_breakOff_9 rfl (lv_at hl 0 rfl) ?_
  refine lv_if_eq (tgt := 15) hx hb dX7_breakOff_10 (by decide) (fun hc => ?_) (fun hc => ?_)
  · have hf := ot hc hf
    refine lv_aload_n hx hb dX7_breakOff_15 rfl (lv_at hl 1 rfl) ?_
    obtain ⟨o16, ho16, hf⟩ := ob hf
    refine wVv (W1 := (fun u16 : QH => (wX7 cI cZ cC q0 qn qs qt qh qw qf qr qc qp o16.1 ++ wX4 cI cZ cC qn gn ++ wH cI cZ cC cO qh u16 o16.2 ++ wX0 cI cZ cC qf gf))) (rest := []) (As := []) ⟨hx, hb, hml, hown, hts⟩ (mX7_record l dC dI cI cZ cC cO q0 qn qs qt qh qw qf qr qc qp uh _ _ _ _ _ ho16) (cwV 0 hts gX7_breakOff_X7_record rfl rfl rfl (by decide +kernel) ⟨Nat.le_of_ble_eq_true rfl, Nat.le_of_ble_eq_true rfl⟩) hK hN hP hD hS hA [0, 1, 2, 3, 4, 5, 6, 7, 8, 9, 10, 11, 12, 13, 14, 15, 16, 17, 18, 19, 20, 21, 22, 23, 24, 25, 26, 27, 28, 29, 30, 31] [32, 33, 34] [3, 4, 5, 6, 7, 8, 9, 10, 11, 12, 13, 14, 15, 16, 17, 18, 19, 20, 21, 22, 23, 24, 25, 26, 27, 28, 29, 30, 31, 32, 33, 34, 0, 1, 2] rfl rfl (by decide +kernel) (by decide +kernel) (fun _ => rfl) 6 rfl rfl rfl rfl hl.1 rfl (Nat.le_of_ble_eq_true rfl) dX7_breakOff_16 ⟨Nat.zero_le _, Nat.zero_le _⟩ (fun u16 H locs hP hD hS => ?_)
    have hP : va_P (dC, dI) vwCl (wX7 cI cZ cC q0 qn qs qt qh qw qf qr qc qp o16.1 ++ wX4 cI cZ cC qn gn ++ wH cI cZ cC cO qh u16 o16.2 ++ wX0 cI cZ cC qf gf) H := hP
    have hD : va_D A (wX7 cI cZ cC q0 qn qs qt qh qw qf qr qc qp o16.1 ++ wX4 cI cZ cC qn gn ++ wH cI cZ cC cO qh u16 o16.2 ++ wX0 cI cZ cC qf gf) := hD
    refine lv_aload_n hx hb dX7_breakOff_19 rfl (lv_at hl 1 rfl) ?_
    refine va_get (D := (dC, dI)) (ci := 6) (v := .ref (qf 0)) (C := RX7) (T := TX7) (N := 14) hx hb hts hin7 hown hK hP 0 rfl rfl 5 (by decide) hk1 (fun _ h9 => h9) rfl dX7_breakOff_20 ?_
    refine lv_aload_n hx hb dX7_breakOff_23 rfl (lv_at hl 1 rfl) ?_
    refine va_get (D := (dC, dI)) (ci := 6) (v := .ref (qn 0)) (C := RX7) (T := TX7) (N := 14) hx hb hts hin7 hown hK hP 0 rfl rfl 0 (by decide) hk0 (fun _ h9 => h9) rfl dX7_breakOff_24 ?_
    refine lv_iload_n hx hb dX7_breakOff_27 rfl (lv_at hl 2 rfl) ?_
    obtain ⟨o28, ho28, hf⟩ := ob hf
    refine wVi (W1 := (fun _ : Unit => (wX7 cI cZ cC q0 qn qs qt qh qw qf qr qc qp o16.1 ++ wX4 cI cZ cC qn o28.2.2 ++ wH cI cZ cC cO qh u16 o16.2 ++ wX0 cI cZ cC qf o28.2.1))) (rest := []) (As := [.ref (qn 0), .int a1]) ⟨hx, hb, hml, hown, hts⟩ (mX0_dropTree l dC dI cI cZ cC cO qf qn _ _ _ _ _ ho28) (cwV 2 hts gX7_breakOff_X0_dropTree rfl rfl rfl (by decide +kernel) ⟨Nat.le_of_ble_eq_true rfl, Nat.le_of_ble_eq_true rfl⟩) hK hN hP hD hS hA [32, 33, 34, 1, 2, 3, 4, 5, 6] [0, 7, 8, 9, 10, 11, 12, 13, 14, 15, 16, 17, 18, 19, 20, 21, 22, 23, 24, 25, 26, 27, 28, 29, 30, 31] [0, 29, 30, 31, 32, 33, 34, 1, 2, 3, 4, 5, 6, 7, 8, 9, 10, 11, 12, 13, 14, 15, 16, 17, 18, 19, 20, 21, 22, 23, 24, 25, 26, 27, 28] rfl rfl (by decide +kernel) (by decide +kernel) (fun _ => rfl) 0 rfl rfl rfl rfl hl.1 rfl (Nat.le_of_ble_eq_true rfl) dX7_breakOff_28 ⟨Nat.zero_le _, Nat.zero_le _⟩ (fun _ H locs hP hD hS => ?_)
    have hP : va_P (dC, dI) vwCl (wX7 cI cZ cC q0 qn qs qt qh qw qf qr qc qp o16.1 ++ wX4 cI cZ cC qn o28.2.2 ++ wH cI cZ cC cO qh u16 o16.2 ++ wX0 cI cZ cC qf o28.2.1) H := hP
    have hD : va_D A (wX7 cI cZ cC q0 qn qs qt qh qw qf qr qc qp o16.1 ++ wX4 cI cZ cC qn o28.2.2 ++ wH cI cZ cC cO qh u16 o16.2 ++ wX0 cI cZ cC qf o28.2.1) := hD
    obtain rfl := Option.some.inj hf
    exact W.iret (v := o28.1) hx hb hr (fun t ht hW => ⟨⟨_, u16, rfl, rfl, by rw [ht]; exact hP, hD⟩, hS.F ht⟩) hS.2.2 dX7_breakOff_31
  · have hf := oe hc hf
    refine lv_iload_n hx hb dX7_breakOff_13 rfl (lv_at hl 0 rfl) ?_
    obtain rfl := Option.some.inj hf
    exact W.iret (v := o5) hx hb hr (fun t ht hW => ⟨⟨_, uh, rfl, rfl, by rw [ht]; exact hP, hD⟩, hS.F ht⟩) hS.2.2 dX7_breakOff_14
