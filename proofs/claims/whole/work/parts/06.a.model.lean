/-- RimGrainsModel.private static int size(int); -/
def fX8_size (a0 : Int32) : Option (Int32) :=
  (if 0 ≤ a0 then some a0 else some (-a0))
abbrev rmX8_size : Room := { frames := 0, cells := 0, slots := 0, locals := 0 }
set_option maxHeartbeats 4000000 in
set_option maxRecDepth 100000 in
theorem mX8_size (l : Launch) (dC : Nat → ClassId) (dI : Nat → Nat → Nat) (cI cZ cC cO : ClassId) (a0 : Int32) (out : Int32) (hf : fX8_size a0 = some out) : Met l yX8_size wsX8_size rmX8_size (va_Pc [.int a0] (pcR (dC, dI) (wTys cI cZ cC cO) ([] : va_W))) (vp_Si (fun r => r = out)) 0 0 (fun _ => False) := by
  refine Met.ofW (cc := cX8_size) (maxL := 1) (ret := (some .int)) (by decide) rfl ?_
  intro p e s m args below meth c s₁ B hml hv
  obtain ⟨hargs, hP, hK, hN⟩ := hv
  have hx := B.exec
  have hb := B.bytes
  have hr := B.returns
  have hts := atoms_spec (ws := wsX8_size) B.pre
  have hown : s.vm.findClass RX8 = some m.cls := findClass_of_methodNamed B.named
  have hlocks := B.notSynchronized
  have hE := lg_entry_eq m [.int a0] 1
  rw [← hargs] at hE
  rw [hE]
  have hl := lv_entry [.int a0] (n := 1) (Nat.le_of_ble_eq_true rfl)
  generalize (lg_sl [.int a0] ++ List.replicate (1 - (lg_sl [.int a0]).length) Slot.unset).toArray = ls at hl ⊢
  have hl : lv_has ls 1 [(0, .int a0)] := hl
  unfold fX8_size at hf
  refine lv_iload_n hx hb dX8_size_0 rfl (lv_at hl 0 rfl) ?_
  refine lv_if_ge (tgt := 9) hx hb dX8_size_1 (by decide) (fun hc => ?_) (fun hc => ?_)
  · have hf := ot hc hf
    refine lv_iload_n hx hb dX8_size_9 rfl (lv_at hl 0 rfl) ?_
    obtain rfl := Option.some.inj hf
    exact W.iret (v := a0) hx hb hr (fun t ht hW => ⟨_, rfl, rfl, ht⟩) (fun _ h => by cases h) dX8_size_10
  · have hf := oe hc hf
    refine lv_iload_n hx hb dX8_size_4 rfl (lv_at hl 0 rfl) ?_
    refine lv_ineg hx hb dX8_size_5 ?_
    refine lv_goto (tgt := 10) hx hb dX8_size_6 (by decide) ?_
    obtain rfl := Option.some.inj hf
    exact W.iret (v := (-a0)) hx hb hr (fun t ht hW => ⟨_, rfl, rfl, ht⟩) (fun _ h => by cases h) dX8_size_10
/-- RimGrainsModel.private static int ringOf(int); -/
def fX8_ringOf (a0 : Int32) : Option (Int32) :=
  ((fX8_size ((a0 / 11) - 5)).bind fun o6 => ((fX8_size ((jrem a0 11) - 5)).bind fun o16 => (if o6 ≤ o16 then some o16 else some o6)))
abbrev rmX8_ringOf : Room := { frames := 1, cells := 0, slots := 0, locals := 20 }
set_option maxHeartbeats 4000000 in
set_option maxRecDepth 100000 in
theorem mX8_ringOf (l : Launch) (dC : Nat → ClassId) (dI : Nat → Nat → Nat) (cI cZ cC cO : ClassId) (a0 : Int32) (out : Int32) (hf : fX8_ringOf a0 = some out) : Met l yX8_ringOf wsX8_ringOf rmX8_ringOf (va_Pc [.int a0] (pcR (dC, dI) (wTys cI cZ cC cO) ([] : va_W))) (vp_Si (fun r => r = out)) 0 0 (fun _ => False) := by
  refine Met.ofW (cc := cX8_ringOf) (maxL := 3) (ret := (some .int)) (by decide) rfl ?_
  intro p e s m args below meth c s₁ B hml hv
  obtain ⟨hargs, hP, hK, hN⟩ := hv
  have hx := B.exec
  have hb := B.bytes
  have hr := B.returns
  have hts := atoms_spec (ws := wsX8_ringOf) B.pre
  have hown : s.vm.findClass RX8 = some m.cls := findClass_of_methodNamed B.named
  have hlocks := B.notSynchronized
  have hE := lg_entry_eq m [.int a0] 3
  rw [← hargs] at hE
  rw [hE]
  have hl := lv_entry [.int a0] (n := 3) (Nat.le_of_ble_eq_true rfl)
  generalize (lg_sl [.int a0] ++ List.replicate (3 - (lg_sl [.int a0]).length) Slot.unset).toArray = ls at hl ⊢
  have hl : lv_has ls 3 [(0, .int a0)] := hl
  unfold fX8_ringOf at hf
  refine lv_iload_n hx hb dX8_ringOf_0 rfl (lv_at hl 0 rfl) ?_
  refine lv_bipush (v := 11) hx hb dX8_ringOf_1 (by decide) ?_
  refine lv_idiv hx hb dX8_ringOf_3 (by decide) ?_
  refine lv_iconst (v := 5) hx hb dX8_ringOf_4 (by decide) ?_
  refine lv_isub hx hb dX8_ringOf_5 ?_
  obtain ⟨o6, ho6, hf⟩ := ob hf
  refine rS (rest := []) (As := [.int ((a0 / 11) - 5)]) ⟨hx, hb, hml, hown, hts⟩ (mX8_size l dC dI cI cZ cC cO  _ _ ho6) (va_cwS 1 hts gX8_ringOf_X8_size rfl rfl rfl (by decide +kernel) ⟨Nat.le_of_ble_eq_true rfl, Nat.le_of_ble_eq_true rfl⟩) hK hN hP [] rfl rfl hl.1 rfl (Nat.le_of_ble_eq_true rfl) dX8_ringOf_6 ⟨Nat.zero_le _, Nat.zero_le _⟩ ?_
  refine lv_istore_n (lv' := [(1, .int o6), (0, .int a0)]) hx hb dX8_ringOf_9 rfl hl (by decide) rfl (fun ls hl => ?_)
  refine lv_iload_n hx hb dX8_ringOf_10 rfl (lv_at hl 1 rfl) ?_
  refine lv_bipush (v := 11) hx hb dX8_ringOf_11 (by decide) ?_
  refine jirem hx hb dX8_ringOf_13 (by decide) ?_
  refine lv_iconst (v := 5) hx hb dX8_ringOf_14 (by decide) ?_
  refine lv_isub hx hb dX8_ringOf_15 ?_
  obtain ⟨o16, ho16, hf⟩ := ob hf
  refine rS (rest := []) (As := [.int ((jrem a0 11) - 5)]) ⟨hx, hb, hml, hown, hts⟩ (mX8_size l dC dI cI cZ cC cO  _ _ ho16) (va_cwS 1 hts gX8_ringOf_X8_size rfl rfl rfl (by decide +kernel) ⟨Nat.le_of_ble_eq_true rfl, Nat.le_of_ble_eq_true rfl⟩) hK hN hP [] rfl rfl hl.1 rfl (Nat.le_of_ble_eq_true rfl) dX8_ringOf_16 ⟨Nat.zero_le _, Nat.zero_le _⟩ ?_
  refine lv_istore_n (lv' := [(2, .int o16), (1, .int o6), (0, .int a0)]) hx hb dX8_ringOf_19 rfl hl (by decide) rfl (fun ls hl => ?_)
  refine lv_iload_n hx hb dX8_ringOf_20 rfl (lv_at hl 1 rfl) ?_
  refine lv_iload_n hx hb dX8_ringOf_21 rfl (lv_at hl 0 rfl) ?_
  refine lv_icmp_le (tgt := 29) hx hb dX8_ringOf_22 (by decide) (fun hc => ?_) (fun hc => ?_)
  · have hf := ot hc hf
    refine lv_iload_n hx hb dX8_ringOf_29 rfl (lv_at hl 0 rfl) ?_
    obtain rfl := Option.some.inj hf
    exact W.iret (v := o16) hx hb hr (fun t ht hW => ⟨_, rfl, rfl, ht⟩) (fun _ h => by cases h) dX8_ringOf_30
  · have hf := oe hc hf
    refine lv_iload_n hx hb dX8_ringOf_25 rfl (lv_at hl 1 rfl) ?_
    refine lv_goto (tgt := 30) hx hb dX8_ringOf_26 (by decide) ?_
    obtain rfl := Option.some.inj hf
    exact W.iret (v := o6) hx hb hr (fun t ht hW => ⟨_, rfl, rfl, ht⟩) (fun _ h => by cases h) dX8_ringOf_30
/-- RimGrainsModel.private void adds(int, int, int); -/
def fX8_adds (a1 : Int32) (a2 : Int32) (a3 : Int32) (g0 : GX8) : Option (GX8) :=
  (if ((10 + (3 * ((pX8_s g0) (0 : Int32).toNatClampNeg))) + 0) < 0 ∨ 373 ≤ ((10 + (3 * ((pX8_s g0) (0 : Int32).toNatClampNeg))) + 0).toNatClampNeg then none else (if ((10 + (3 * ((pX8_s g0) (0 : Int32).toNatClampNeg))) + 1) < 0 ∨ 373 ≤ ((10 + (3 * ((pX8_s g0) (0 : Int32).toNatClampNeg))) + 1).toNatClampNeg then none else (if ((10 + (3 * ((pX8_s g0) (0 : Int32).toNatClampNeg))) + 2) < 0 ∨ 373 ≤ ((10 + (3 * ((pX8_s g0) (0 : Int32).toNatClampNeg))) + 2).toNatClampNeg then none else some ((upd (upd (upd (upd (pX8_s g0) ((10 + (3 * ((pX8_s g0) (0 : Int32).toNatClampNeg))) + 0).toNatClampNeg a1) ((10 + (3 * ((pX8_s g0) (0 : Int32).toNatClampNeg))) + 1).toNatClampNeg (a2 + 1)) ((10 + (3 * ((pX8_s g0) (0 : Int32).toNatClampNeg))) + 2).toNatClampNeg a3) (0 : Int32).toNatClampNeg (((upd (upd (upd (pX8_s g0) ((10 + (3 * ((pX8_s g0) (0 : Int32).toNatClampNeg))) + 0).toNatClampNeg a1) ((10 + (3 * ((pX8_s g0) (0 : Int32).toNatClampNeg))) + 1).toNatClampNeg (a2 + 1)) ((10 + (3 * ((pX8_s g0) (0 : Int32).toNatClampNeg))) + 2).toNatClampNeg a3) (0 : Int32).toNatClampNeg) + 1)), (pX8_aside g0), (pX8_past g0), (pX8_known g0), (pX8_kept g0), (pX8_isKept g0), (pX8_pad g0), (pX8_length g0), (pX8_whyError g0), (pX8_whyNumber g0), (pX8_whySpot g0), (pX8_lots g0), (pX8_walker g0), (pX8_steps g0), (pX8_goes g0), (pX8_becomes g0), (pX8_spot g0), (pX8_isForm g0), (pX8_letter g0), (pX8_told g0), (pX8_highest g0)))))
abbrev rmX8_adds : Room := { frames := 0, cells := 0, slots := 0, locals := 0 }
set_option maxHeartbeats 4000000 in
set_option maxRecDepth 100000 in
theorem mX8_adds (l : Launch) (dC : Nat → ClassId) (dI : Nat → Nat → Nat) (cI cZ cC cO : ClassId) (q0 : Nat → Nat) (a1 : Int32) (a2 : Int32) (a3 : Int32) (g0 : GX8) (sz : Nat) (out : GX8) (hf : fX8_adds a1 a2 a3 g0 = some out) : Met l yX8_adds wsX8_adds rmX8_adds (va_Pc [.ref (q0 0), .int a1, .int a2, .int a3] (pcW (dC, dI) (wTys cI cZ cC cO) sz (wX8 cI cZ cC q0 g0))) (va_Qv (fun (_ : Unit) => True) (fun _ => poW (dC, dI) (va_A (wX8 cI cZ cC q0 g0) sz) (wX8 cI cZ cC q0 out)) (va_A (wX8 cI cZ cC q0 g0) sz)) 0 0 (va_A (wX8 cI cZ cC q0 g0) sz) := by
  refine Met.ofW (cc := cX8_adds) (maxL := 5) (ret := none) (by decide) rfl ?_
  intro p e s m args below meth c s₁ B hml hv
  obtain ⟨hargs, hsz, hP, hK, hN, hD0⟩ := hv
  have hx := B.exec
  have hb := B.bytes
  have hr := B.returns
  have hts := atoms_spec (ws := wsX8_adds) B.pre
  have hown : s.vm.findClass RX8 = some m.cls := findClass_of_methodNamed B.named
  have hlocks := B.notSynchronized
  have hk0 := hts (.fieldLink RX8 7 "RimGrainsModel" "s" "[I") (by decide +kernel)
  have hin8 : ∀ w ∈ wsX80, w ∈ wsX8_adds := by decide +kernel
  subst hsz
  have hD := hD0.self (sz := s.heap.size)
  generalize hAe : va_A (wX8 cI cZ cC q0 g0) s.heap.size = A at hD ⊢
  have hA : ∀ q : Nat, s.heap.size ≤ q → A q := fun q h => by rw [← hAe]; exact Or.inr h
  have hS : va_S A s.heap s.heap [] := va_S.rf
  have hE := lg_entry_eq m [.ref (q0 0), .int a1, .int a2, .int a3] 5
  rw [← hargs] at hE
  rw [hE]
  have hl := lv_entry [.ref (q0 0), .int a1, .int a2, .int a3] (n := 5) (Nat.le_of_ble_eq_true rfl)
  generalize (lg_sl [.ref (q0 0), .int a1, .int a2, .int a3] ++ List.replicate (5 - (lg_sl [.ref (q0 0), .int a1, .int a2, .int a3]).length) Slot.unset).toArray = ls at hl ⊢
  have hl : lv_has ls 5 [(0, .ref (q0 0)), (1, .int a1), (2, .int a2), (3, .int a3)] := hl
  have hP : va_P (dC, dI) vwCl (wX8 cI cZ cC q0 g0) s.heap := hP
  unfold fX8_adds at hf
  refine lv_bipush (v := 10) hx hb dX8_adds_0 (by decide) ?_
  refine lv_iconst (v := 3) hx hb dX8_adds_2 (by decide) ?_
  refine lv_aload_n hx hb dX8_adds_3 rfl (lv_at hl 0 rfl) ?_
  refine va_get (D := (dC, dI)) (ci := 7) (v := .ref (q0 1)) (C := RX8) (T := TX8) (N := 21) hx hb hts hin8 hown hK hP 0 rfl rfl 0 (by decide) hk0 (fun _ h9 => h9) rfl dX8_adds_4 ?_
  refine lv_iconst (v := 0) hx hb dX8_adds_7 (by decide) ?_
  have hin : vp_in (0 : Int32) 373 := by unfold vp_in; decide
  refine va_iald hx hb hK hP 1 0 rfl rfl hin dX8_adds_8 ?_
  refine lv_imul hx hb dX8_adds_9 ?_
  refine lv_iadd hx hb dX8_adds_10 ?_
  refine lv_istore (lv' := [(4, .int (10 + (3 * ((pX8_s g0) (0 : Int32).toNatClampNeg)))), (0, .ref (q0 0)), (1, .int a1), (2, .int a2), (3, .int a3)]) hx hb dX8_adds_11 hl (by decide) rfl (fun ls hl => ?_)
  refine lv_aload_n hx hb dX8_adds_13 rfl (lv_at hl 1 rfl) ?_
  refine va_get (D := (dC, dI)) (ci := 7) (v := .ref (q0 1)) (C := RX8) (T := TX8) (N := 21) hx hb hts hin8 hown hK hP 0 rfl rfl 0 (by decide) hk0 (fun _ h9 => h9) rfl dX8_adds_14 ?_
  refine lv_iload hx hb dX8_adds_17 (lv_at hl 0 rfl) ?_
  refine lv_iconst (v := 0) hx hb dX8_adds_19 (by decide) ?_
  refine lv_iadd hx hb dX8_adds_20 ?_
  refine lv_iload_n hx hb dX8_adds_21 rfl (lv_at hl 2 rfl) ?_
  obtain ⟨hin, hf⟩ := og hf
  refine va_iast hx hb hK hP hD hS 1 0 rfl rfl hin dX8_adds_22 (fun H locs hP hD hS => ?_)
  have hP : va_P (dC, dI) vwCl (wX8 cI cZ cC q0 ((upd (pX8_s g0) ((10 + (3 * ((pX8_s g0) (0 : Int32).toNatClampNeg))) + 0).toNatClampNeg a1), (pX8_aside g0), (pX8_past g0), (pX8_known g0), (pX8_kept g0), (pX8_isKept g0), (pX8_pad g0), (pX8_length g0), (pX8_whyError g0), (pX8_whyNumber g0), (pX8_whySpot g0), (pX8_lots g0), (pX8_walker g0), (pX8_steps g0), (pX8_goes g0), (pX8_becomes g0), (pX8_spot g0), (pX8_isForm g0), (pX8_letter g0), (pX8_told g0), (pX8_highest g0))) H := hP
  have hD : va_D A (wX8 cI cZ cC q0 ((upd (pX8_s g0) ((10 + (3 * ((pX8_s g0) (0 : Int32).toNatClampNeg))) + 0).toNatClampNeg a1), (pX8_aside g0), (pX8_past g0), (pX8_known g0), (pX8_kept g0), (pX8_isKept g0), (pX8_pad g0), (pX8_length g0), (pX8_whyError g0), (pX8_whyNumber g0), (pX8_whySpot g0), (pX8_lots g0), (pX8_walker g0), (pX8_steps g0), (pX8_goes g0), (pX8_becomes g0), (pX8_spot g0), (pX8_isForm g0), (pX8_letter g0), (pX8_told g0), (pX8_highest g0))) := hD
  refine lv_aload_n hx hb dX8_adds_23 rfl (lv_at hl 1 rfl) ?_
  refine va_get (D := (dC, dI)) (ci := 7) (v := .ref (q0 1)) (C := RX8) (T := TX8) (N := 21) hx hb hts hin8 hown hK hP 0 rfl rfl 0 (by decide) hk0 (fun _ h9 => h9) rfl dX8_adds_24 ?_
  refine lv_iload hx hb dX8_adds_27 (lv_at hl 0 rfl) ?_
  refine lv_iconst (v := 1) hx hb dX8_adds_29 (by decide) ?_
  refine lv_iadd hx hb dX8_adds_30 ?_
  refine lv_iload_n hx hb dX8_adds_31 rfl (lv_at hl 3 rfl) ?_
  refine lv_iconst (v := 1) hx hb dX8_adds_32 (by decide) ?_
  refine lv_iadd hx hb dX8_adds_33 ?_
  obtain ⟨hin, hf⟩ := og hf
  refine va_iast hx hb hK hP hD hS 1 0 rfl rfl hin dX8_adds_34 (fun H locs hP hD hS => ?_)
  have hP : va_P (dC, dI) vwCl (wX8 cI cZ cC q0 ((upd (upd (pX8_s g0) ((10 + (3 * ((pX8_s g0) (0 : Int32).toNatClampNeg))) + 0).toNatClampNeg a1) ((10 + (3 * ((pX8_s g0) (0 : Int32).toNatClampNeg))) + 1).toNatClampNeg (a2 + 1)), (pX8_aside g0), (pX8_past g0), (pX8_known g0), (pX8_kept g0), (pX8_isKept g0), (pX8_pad g0), (pX8_length g0), (pX8_whyError g0), (pX8_whyNumber g0), (pX8_whySpot g0), (pX8_lots g0), (pX8_walker g0), (pX8_steps g0), (pX8_goes g0), (pX8_becomes g0), (pX8_spot g0), (pX8_isForm g0), (pX8_letter g0), (pX8_told g0), (pX8_highest g0))) H := hP
  have hD : va_D A (wX8 cI cZ cC q0 ((upd (upd (pX8_s g0) ((10 + (3 * ((pX8_s g0) (0 : Int32).toNatClampNeg))) + 0).toNatClampNeg a1) ((10 + (3 * ((pX8_s g0) (0 : Int32).toNatClampNeg))) + 1).toNatClampNeg (a2 + 1)), (pX8_aside g0), (pX8_past g0), (pX8_known g0), (pX8_kept g0), (pX8_isKept g0), (pX8_pad g0), (pX8_length g0), (pX8_whyError g0), (pX8_whyNumber g0), (pX8_whySpot g0), (pX8_lots g0), (pX8_walker g0), (pX8_steps g0), (pX8_goes g0), (pX8_becomes g0), (pX8_spot g0), (pX8_isForm g0), (pX8_letter g0), (pX8_told g0), (pX8_highest g0))) := hD
  refine lv_aload_n hx hb dX8_adds_35 rfl (lv_at hl 1 rfl) ?_
  refine va_get (D := (dC, dI)) (ci := 7) (v := .ref (q0 1)) (C := RX8) (T := TX8) (N := 21) hx hb hts hin8 hown hK hP 0 rfl rfl 0 (by decide) hk0 (fun _ h9 => h9) rfl dX8_adds_36 ?_
  refine lv_iload hx hb dX8_adds_39 (lv_at hl 0 rfl) ?_
  refine lv_iconst (v := 2) hx hb dX8_adds_41 (by decide) ?_
  refine lv_iadd hx hb dX8_adds_42 ?_
  refine lv_iload_n hx hb dX8_adds_43 rfl (lv_at hl 4 rfl) ?_
  obtain ⟨hin, hf⟩ := og hf
  refine va_iast hx hb hK hP hD hS 1 0 rfl rfl hin dX8_adds_44 (fun H locs hP hD hS => ?_)
  have hP : va_P (dC, dI) vwCl (wX8 cI cZ cC q0 ((upd (upd (upd (pX8_s g0) ((10 + (3 * ((pX8_s g0) (0 : Int32).toNatClampNeg))) + 0).toNatClampNeg a1) ((10 + (3 * ((pX8_s g0) (0 : Int32).toNatClampNeg))) + 1).toNatClampNeg (a2 + 1)) ((10 + (3 * ((pX8_s g0) (0 : Int32).toNatClampNeg))) + 2).toNatClampNeg a3), (pX8_aside g0), (pX8_past g0), (pX8_known g0), (pX8_kept g0), (pX8_isKept g0), (pX8_pad g0), (pX8_length g0), (pX8_whyError g0), (pX8_whyNumber g0), (pX8_whySpot g0), (pX8_lots g0), (pX8_walker g0), (pX8_steps g0), (pX8_goes g0), (pX8_becomes g0), (pX8_spot g0), (pX8_isForm g0), (pX8_letter g0), (pX8_told g0), (pX8_highest g0))) H := hP
  have hD : va_D A (wX8 cI cZ cC q0 ((upd (upd (upd (pX8_s g0) ((10 + (3 * ((pX8_s g0) (0 : Int32).toNatClampNeg))) + 0).toNatClampNeg a1) ((10 + (3 * ((pX8_s g0) (0 : Int32).toNatClampNeg))) + 1).toNatClampNeg (a2 + 1)) ((10 + (3 * ((pX8_s g0) (0 : Int32).toNatClampNeg))) + 2).toNatClampNeg a3), (pX8_aside g0), (pX8_past g0), (pX8_known g0), (pX8_kept g0), (pX8_isKept g0), (pX8_pad g0), (pX8_length g0), (pX8_whyError g0), (pX8_whyNumber g0), (pX8_whySpot g0), (pX8_lots g0), (pX8_walker g0), (pX8_steps g0), (pX8_goes g0), (pX8_becomes g0), (pX8_spot g0), (pX8_isForm g0), (pX8_letter g0), (pX8_told g0), (pX8_highest g0))) := hD
  refine lv_aload_n hx hb dX8_adds_45 rfl (lv_at hl 1 rfl) ?_
  refine va_get (D := (dC, dI)) (ci := 7) (v := .ref (q0 1)) (C := RX8) (T := TX8) (N := 21) hx hb hts hin8 hown hK hP 0 rfl rfl 0 (by decide) hk0 (fun _ h9 => h9) rfl dX8_adds_46 ?_
  refine lv_iconst (v := 0) hx hb dX8_adds_49 (by decide) ?_
  refine lv_dup2_11 hx hb dX8_adds_50 rfl rfl ?_
  have hin : vp_in (0 : Int32) 373 := by unfold vp_in; decide
  refine va_iald hx hb hK hP 1 0 rfl rfl hin dX8_adds_51 ?_
  refine lv_iconst (v := 1) hx hb dX8_adds_52 (by decide) ?_
  refine lv_iadd hx hb dX8_adds_53 ?_
  have hin : vp_in (0 : Int32) 373 := by unfold vp_in; decide
  refine va_iast hx hb hK hP hD hS 1 0 rfl rfl hin dX8_adds_54 (fun H locs hP hD hS => ?_)
  have hP : va_P (dC, dI) vwCl (wX8 cI cZ cC q0 ((upd (upd (upd (upd (pX8_s g0) ((10 + (3 * ((pX8_s g0) (0 : Int32).toNatClampNeg))) + 0).toNatClampNeg a1) ((10 + (3 * ((pX8_s g0) (0 : Int32).toNatClampNeg))) + 1).toNatClampNeg (a2 + 1)) ((10 + (3 * ((pX8_s g0) (0 : Int32).toNatClampNeg))) + 2).toNatClampNeg a3) (0 : Int32).toNatClampNeg (((upd (upd (upd (pX8_s g0) ((10 + (3 * ((pX8_s g0) (0 : Int32).toNatClampNeg))) + 0).toNatClampNeg a1) ((10 + (3 * ((pX8_s g0) (0 : Int32).toNatClampNeg))) + 1).toNatClampNeg (a2 + 1)) ((10 + (3 * ((pX8_s g0) (0 : Int32).toNatClampNeg))) + 2).toNatClampNeg a3) (0 : Int32).toNatClampNeg) + 1)), (pX8_aside g0), (pX8_past g0), (pX8_known g0), (pX8_kept g0), (pX8_isKept g0), (pX8_pad g0), (pX8_length g0), (pX8_whyError g0), (pX8_whyNumber g0), (pX8_whySpot g0), (pX8_lots g0), (pX8_walker g0), (pX8_steps g0), (pX8_goes g0), (pX8_becomes g0), (pX8_spot g0), (pX8_isForm g0), (pX8_letter g0), (pX8_told g0), (pX8_highest g0))) H := hP
  have hD : va_D A (wX8 cI cZ cC q0 ((upd (upd (upd (upd (pX8_s g0) ((10 + (3 * ((pX8_s g0) (0 : Int32).toNatClampNeg))) + 0).toNatClampNeg a1) ((10 + (3 * ((pX8_s g0) (0 : Int32).toNatClampNeg))) + 1).toNatClampNeg (a2 + 1)) ((10 + (3 * ((pX8_s g0) (0 : Int32).toNatClampNeg))) + 2).toNatClampNeg a3) (0 : Int32).toNatClampNeg (((upd (upd (upd (pX8_s g0) ((10 + (3 * ((pX8_s g0) (0 : Int32).toNatClampNeg))) + 0).toNatClampNeg a1) ((10 + (3 * ((pX8_s g0) (0 : Int32).toNatClampNeg))) + 1).toNatClampNeg (a2 + 1)) ((10 + (3 * ((pX8_s g0) (0 : Int32).toNatClampNeg))) + 2).toNatClampNeg a3) (0 : Int32).toNatClampNeg) + 1)), (pX8_aside g0), (pX8_past g0), (pX8_known g0), (pX8_kept g0), (pX8_isKept g0), (pX8_pad g0), (pX8_length g0), (pX8_whyError g0), (pX8_whyNumber g0), (pX8_whySpot g0), (pX8_lots g0), (pX8_walker g0), (pX8_steps g0), (pX8_goes g0), (pX8_becomes g0), (pX8_spot g0), (pX8_isForm g0), (pX8_letter g0), (pX8_told g0), (pX8_highest g0))) := hD
  obtain rfl := Option.some.inj hf
  exact W.vret hx hb hr (fun t ht hW => ⟨⟨(), rfl, trivial, by rw [ht]; exact hP, hD⟩, hS.F ht⟩) hS.2.2 dX8_adds_55
/-- RimGrainsModel.private void roots(int); -/
def jX8_roots_2 (s9 : (Int32 × GX8)) (g0_2 : GX8) : Option ((Int32 × GX8) ⊕ (GX8)) :=
  some (.inl ((s9.1 + 1), g0_2))
def jX8_roots_1 (s9 : (Int32 × GX8)) (y0_1 : Int32) : Option ((Int32 × GX8) ⊕ (GX8)) :=
  (if y0_1 = 0 then jX8_roots_2 s9 s9.2 else ((fX8_adds s9.1 (-1) 0 s9.2).bind fun o74 => jX8_roots_2 s9 o74))
def tX8_roots_9 (a1 : Int32) (s9 : (Int32 × GX8)) : Option ((Int32 × GX8) ⊕ (GX8)) :=
  (if 121 ≤ s9.1 then some (.inr s9.2) else (if a1 = 0 then (if s9.1 = 60 then jX8_roots_1 s9 1 else jX8_roots_1 s9 0) else (if a1 = 1 then (if s9.1 < 110 then jX8_roots_1 s9 0 else jX8_roots_1 s9 1) else ((fX8_ringOf s9.1).bind fun o53 => (if o53 = 2 then jX8_roots_1 s9 1 else jX8_roots_1 s9 0)))))
def fX8_roots (a1 : Int32) (g0 : GX8) : Option (GX8) :=
  ((lp (tX8_roots_9 a1) FU (0, ((upd (pX8_s g0) (0 : Int32).toNatClampNeg 0), (pX8_aside g0), (pX8_past g0), (pX8_known g0), (pX8_kept g0), (pX8_isKept g0), (pX8_pad g0), (pX8_length g0), (pX8_whyError g0), (pX8_whyNumber g0), (pX8_whySpot g0), (pX8_lots g0), (pX8_walker g0), (pX8_steps g0), (pX8_goes g0), (pX8_becomes g0), (pX8_spot g0), (pX8_isForm g0), (pX8_letter g0), (pX8_told g0), (pX8_highest g0)))).bind fun o9 => some o9)
abbrev rmX8_roots : Room := { frames := 2, cells := 0, slots := 0, locals := 42 }
set_option maxHeartbeats 4000000 in
set_option maxRecDepth 100000 in
theorem mX8_roots (l : Launch) (dC : Nat → ClassId) (dI : Nat → Nat → Nat) (cI cZ cC cO : ClassId) (q0 : Nat → Nat) (a1 : Int32) (g0 : GX8) (sz : Nat) (out : GX8) (hf : fX8_roots a1 g0 = some out) : Met l yX8_roots wsX8_roots rmX8_roots (va_Pc [.ref (q0 0), .int a1] (pcW (dC, dI) (wTys cI cZ cC cO) sz (wX8 cI cZ cC q0 g0))) (va_Qv (fun (_ : Unit) => True) (fun _ => poW (dC, dI) (va_A (wX8 cI cZ cC q0 g0) sz) (wX8 cI cZ cC q0 out)) (va_A (wX8 cI cZ cC q0 g0) sz)) 0 0 (va_A (wX8 cI cZ cC q0 g0) sz) := by
  refine Met.ofW (cc := cX8_roots) (maxL := 4) (ret := none) (by decide) rfl ?_
  intro p e s m args below meth c s₁ B hml hv
  obtain ⟨hargs, hsz, hP, hK, hN, hD0⟩ := hv
  have hx := B.exec
  have hb := B.bytes
  have hr := B.returns
  have hts := atoms_spec (ws := wsX8_roots) B.pre
  have hown : s.vm.findClass RX8 = some m.cls := findClass_of_methodNamed B.named
  have hlocks := B.notSynchronized
  have hk0 := hts (.fieldLink RX8 7 "RimGrainsModel" "s" "[I") (by decide +kernel)
  have hin8 : ∀ w ∈ wsX80, w ∈ wsX8_roots := by decide +kernel
  subst hsz
  have hD := hD0.self (sz := s.heap.size)
  generalize hAe : va_A (wX8 cI cZ cC q0 g0) s.heap.size = A at hD ⊢
  have hA : ∀ q : Nat, s.heap.size ≤ q → A q := fun q h => by rw [← hAe]; exact Or.inr h
  have hS : va_S A s.heap s.heap [] := va_S.rf
  have hE := lg_entry_eq m [.ref (q0 0), .int a1] 4
  rw [← hargs] at hE
  rw [hE]
  have hl := lv_entry [.ref (q0 0), .int a1] (n := 4) (Nat.le_of_ble_eq_true rfl)
  generalize (lg_sl [.ref (q0 0), .int a1] ++ List.replicate (4 - (lg_sl [.ref (q0 0), .int a1]).length) Slot.unset).toArray = ls at hl ⊢
  have hl : lv_has ls 4 [(0, .ref (q0 0)), (1, .int a1)] := hl
  have hP : va_P (dC, dI) vwCl (wX8 cI cZ cC q0 g0) s.heap := hP
  unfold fX8_roots at hf
  refine lv_aload_n hx hb dX8_roots_0 rfl (lv_at hl 0 rfl) ?_
  refine va_get (D := (dC, dI)) (ci := 7) (v := .ref (q0 1)) (C := RX8) (T := TX8) (N := 21) hx hb hts hin8 hown hK hP 0 rfl rfl 0 (by decide) hk0 (fun _ h9 => h9) rfl dX8_roots_1 ?_
  refine lv_iconst (v := 0) hx hb dX8_roots_4 (by decide) ?_
  refine lv_iconst (v := 0) hx hb dX8_roots_5 (by decide) ?_
  have hin : vp_in (0 : Int32) 373 := by unfold vp_in; decide
  refine va_iast hx hb hK hP hD hS 1 0 rfl rfl hin dX8_roots_6 (fun H locs hP hD hS => ?_)
  have hP : va_P (dC, dI) vwCl (wX8 cI cZ cC q0 ((upd (pX8_s g0) (0 : Int32).toNatClampNeg 0), (pX8_aside g0), (pX8_past g0), (pX8_known g0), (pX8_kept g0), (pX8_isKept g0), (pX8_pad g0), (pX8_length g0), (pX8_whyError g0), (pX8_whyNumber g0), (pX8_whySpot g0), (pX8_lots g0), (pX8_walker g0), (pX8_steps g0), (pX8_goes g0), (pX8_becomes g0), (pX8_spot g0), (pX8_isForm g0), (pX8_letter g0), (pX8_told g0), (pX8_highest g0))) H := hP
  have hD : va_D A (wX8 cI cZ cC q0 ((upd (pX8_s g0) (0 : Int32).toNatClampNeg 0), (pX8_aside g0), (pX8_past g0), (pX8_known g0), (pX8_kept g0), (pX8_isKept g0), (pX8_pad g0), (pX8_length g0), (pX8_whyError g0), (pX8_whyNumber g0), (pX8_whySpot g0), (pX8_lots g0), (pX8_walker g0), (pX8_steps g0), (pX8_goes g0), (pX8_becomes g0), (pX8_spot g0), (pX8_isForm g0), (pX8_letter g0), (pX8_told g0), (pX8_highest g0))) := hD
  refine lv_iconst (v := 0) hx hb dX8_roots_7 (by decide) ?_
  refine lv_istore_n (lv' := [(2, .int 0), (0, .ref (q0 0)), (1, .int a1)]) hx hb dX8_roots_8 rfl hl (by decide) rfl (fun ls hl => ?_)
  have hL9 : ∀ (n : Nat) (s9 : Int32 × GX8) (o9 : GX8), lp (tX8_roots_9 a1) n s9 = some o9 → ∀ (H : Heap) (locs : List Loc) (ls : Array Slot), va_P (dC, dI) vwCl (wX8 cI cZ cC q0 s9.2) H → va_D A (wX8 cI cZ cC q0 s9.2) → va_S A s.heap H locs → lv_has ls 4 [(0, .ref (q0 0)), (1, .int a1), (2, .int s9.1)] → (∀ (H : Heap) (locs : List Loc) (ls : Array Slot), va_P (dC, dI) vwCl (wX8 cI cZ cC q0 o9) H → va_D A (wX8 cI cZ cC q0 o9) → va_S A s.heap H locs → lv_has ls 4 [] → W p l e (headSpec wsX8_roots rmX8_roots).room s m args below meth c H locs 0 0 (MQ below (va_Qv (fun (_ : Unit) => True) (fun _ => poW (dC, dI) A (wX8 cI cZ cC q0 out)) A) args s 0 0 A) (F0 m 83 ls [])) → W p l e (headSpec wsX8_roots rmX8_roots).room s m args below meth c H locs 0 0 (MQ below (va_Qv (fun (_ : Unit) => True) (fun _ => poW (dC, dI) A (wX8 cI cZ cC q0 out)) A) args s 0 0 A) (F0 m 9 ls []) := by
    intro n
    induction n with
    | zero => intro s9 o9 hf; exact (lp0 hf).elim
    | succ n ih9 =>
      intro s9 o9 hf H locs ls hP hD hS hl kx
      obtain ⟨r9, hf, hn⟩ := lps hf
      unfold tX8_roots_9 at hf
      refine lv_iload_n hx hb dX8_roots_9 rfl (lv_at hl 2 rfl) ?_
      refine lv_bipush (v := 121) hx hb dX8_roots_10 (by decide) ?_
      refine lv_icmp_ge (tgt := 83) hx hb dX8_roots_12 (by decide) (fun hc => ?_) (fun hc => ?_)
      · have hf := ot hc hf
        obtain rfl := Option.some.inj hf
        obtain rfl := Option.some.inj hn
        exact kx _ _ ls hP hD hS (lv_sub hl [] rfl)
      · have hf := oe hc hf
        refine lv_iload_n hx hb dX8_roots_15 rfl (lv_at hl 1 rfl) ?_
        have hJ1 : ∀ (y0_1 : Int32), jX8_roots_1 s9 y0_1 = some r9 → ∀ (H : Heap) (locs : List Loc) (ls : Array Slot), va_P (dC, dI) vwCl (wX8 cI cZ cC q0 s9.2) H → va_D A (wX8 cI cZ cC q0 s9.2) → va_S A s.heap H locs → lv_has ls 4 [(0, .ref (q0 0)), (1, .int a1), (2, .int s9.1)] → W p l e (headSpec wsX8_roots rmX8_roots).room s m args below meth c H locs 0 0 (MQ below (va_Qv (fun (_ : Unit) => True) (fun _ => poW (dC, dI) A (wX8 cI cZ cC q0 out)) A) args s 0 0 A) (F0 m 65 ls [.int y0_1]) := by
          intro y0_1 hf H locs ls hP hD hS hl
          unfold jX8_roots_1 at hf
          refine lv_istore_n (lv' := [(3, .int y0_1), (0, .ref (q0 0)), (1, .int a1), (2, .int s9.1)]) hx hb dX8_roots_65 rfl hl (by decide) rfl (fun ls hl => ?_)
          refine lv_iload_n hx hb dX8_roots_66 rfl (lv_at hl 0 rfl) ?_
          have hJ2 : ∀ (g0_2 : GX8), jX8_roots_2 s9 g0_2 = some r9 → ∀ (H : Heap) (locs : List Loc) (ls : Array Slot), va_P (dC, dI) vwCl (wX8 cI cZ cC q0 g0_2) H → va_D A (wX8 cI cZ cC q0 g0_2) → va_S A s.heap H locs → lv_has ls 4 [(0, .ref (q0 0)), (1, .int a1), (2, .int s9.1)] → W p l e (headSpec wsX8_roots rmX8_roots).room s m args below meth c H locs 0 0 (MQ below (va_Qv (fun (_ : Unit) => True) (fun _ => poW (dC, dI) A (wX8 cI cZ cC q0 out)) A) args s 0 0 A) (F0 m 77 ls []) := by
            intro g0_2 hf H locs ls hP hD hS hl
            unfold jX8_roots_2 at hf
            refine lv_iinc (v := (s9.1 + 1)) (lv' := [(2, .int (s9.1 + 1)), (0, .ref (q0 0)), (1, .int a1)]) hx hb dX8_roots_77 hl (k := 2) rfl rfl (by decide) rfl (fun ls hl => ?_)
            refine lv_goto (tgt := 9) hx hb dX8_roots_80 (by decide) ?_
            obtain rfl := Option.some.inj hf
            exact ih9 _ _ hn _ _ ls hP hD hS (lv_sub hl [1, 2, 0] rfl) kx
          refine lv_if_eq (tgt := 77) hx hb dX8_roots_67 (by decide) (fun hc => ?_) (fun hc => ?_)
          · have hf := ot hc hf
            exact hJ2 _ hf _ _ ls hP hD hS (lv_sub hl [1, 2, 3] rfl)
          · have hf := oe hc hf
            refine lv_aload_n hx hb dX8_roots_70 rfl (lv_at hl 1 rfl) ?_
            refine lv_iload_n hx hb dX8_roots_71 rfl (lv_at hl 3 rfl) ?_
            refine lv_iconst (v := (-1)) hx hb dX8_roots_72 (by decide) ?_
            refine lv_iconst (v := 0) hx hb dX8_roots_73 (by decide) ?_
            obtain ⟨o74, ho74, hf⟩ := ob hf
            refine wVv (W1 := (fun _ : Unit => (wX8 cI cZ cC q0 o74))) (rest := []) (As := [.int s9.1, .int (-1), .int 0]) ⟨hx, hb, hml, hown, hts⟩ (mX8_adds l dC dI cI cZ cC cO q0 _ _ _ _ _ _ ho74) (cwV 3 hts gX8_roots_X8_adds rfl rfl rfl (by decide +kernel) ⟨Nat.le_of_ble_eq_true rfl, Nat.le_of_ble_eq_true rfl⟩) hK hN hP hD hS hA [0, 1, 2, 3, 4, 5, 6, 7, 8] [] [0, 1, 2, 3, 4, 5, 6, 7, 8] rfl rfl (by decide) (by decide) (fun _ => rfl) 7 rfl rfl rfl rfl hl.1 rfl (Nat.le_of_ble_eq_true rfl) dX8_roots_74 ⟨Nat.zero_le _, Nat.zero_le _⟩ (fun _ H locs hP hD hS => ?_)
            have hP : va_P (dC, dI) vwCl (wX8 cI cZ cC q0 o74) H := hP
            have hD : va_D A (wX8 cI cZ cC q0 o74) := hD
            exact hJ2 _ hf _ _ ls hP hD hS (lv_sub hl [1, 2, 3] rfl)
        refine lv_if_ne (tgt := 33) hx hb dX8_roots_16 (by decide) (fun hc => ?_) (fun hc => ?_)
        · have hf := oe hc hf
          refine lv_iload_n hx hb dX8_roots_33 rfl (lv_at hl 1 rfl) ?_
          refine lv_iconst (v := 1) hx hb dX8_roots_34 (by decide) ?_
          refine lv_icmp_ne (tgt := 52) hx hb dX8_roots_35 (by decide) (fun hc => ?_) (fun hc => ?_)
          · have hf := oe hc hf
            refine lv_iload_n hx hb dX8_roots_52 rfl (lv_at hl 2 rfl) ?_
            obtain ⟨o53, ho53, hf⟩ := ob hf
            refine rS (rest := []) (As := [.int s9.1]) ⟨hx, hb, hml, hown, hts⟩ (mX8_ringOf l dC dI cI cZ cC cO  _ _ ho53) (va_cwS 1 hts gX8_roots_X8_ringOf rfl rfl rfl (by decide +kernel) ⟨Nat.le_of_ble_eq_true rfl, Nat.le_of_ble_eq_true rfl⟩) hK hN hP [] rfl rfl hl.1 rfl (Nat.le_of_ble_eq_true rfl) dX8_roots_53 ⟨Nat.zero_le _, Nat.zero_le _⟩ ?_
            refine lv_iconst (v := 2) hx hb dX8_roots_56 (by decide) ?_
            refine lv_icmp_ne (tgt := 64) hx hb dX8_roots_57 (by decide) (fun hc => ?_) (fun hc => ?_)
            · have hf := oe hc hf
              refine lv_iconst (v := 0) hx hb dX8_roots_64 (by decide) ?_
              exact hJ1 _ hf _ _ ls hP hD hS (lv_sub hl [0, 1, 2] rfl)
            · have hf := ot hc hf
              refine lv_iconst (v := 1) hx hb dX8_roots_60 (by decide) ?_
              refine lv_goto (tgt := 65) hx hb dX8_roots_61 (by decide) ?_
              exact hJ1 _ hf _ _ ls hP hD hS (lv_sub hl [0, 1, 2] rfl)
          · have hf := ot hc hf
            refine lv_iload_n hx hb dX8_roots_38 rfl (lv_at hl 2 rfl) ?_
            refine lv_bipush (v := 110) hx hb dX8_roots_39 (by decide) ?_
            refine lv_icmp_lt (tgt := 48) hx hb dX8_roots_41 (by decide) (fun hc => ?_) (fun hc => ?_)
            · have hf := ot hc hf
              refine lv_iconst (v := 0) hx hb dX8_roots_48 (by decide) ?_
              refine lv_goto (tgt := 65) hx hb dX8_roots_49 (by decide) ?_
              exact hJ1 _ hf _ _ ls hP hD hS (lv_sub hl [0, 1, 2] rfl)
            · have hf := oe hc hf
              refine lv_iconst (v := 1) hx hb dX8_roots_44 (by decide) ?_
              refine lv_goto (tgt := 65) hx hb dX8_roots_45 (by decide) ?_
              exact hJ1 _ hf _ _ ls hP hD hS (lv_sub hl [0, 1, 2] rfl)
        · have hf := ot hc hf
          refine lv_iload_n hx hb dX8_roots_19 rfl (lv_at hl 2 rfl) ?_
          refine lv_bipush (v := 60) hx hb dX8_roots_20 (by decide) ?_
          refine lv_icmp_ne (tgt := 29) hx hb dX8_roots_22 (by decide) (fun hc => ?_) (fun hc => ?_)
          · have hf := oe hc hf
            refine lv_iconst (v := 0) hx hb dX8_roots_29 (by decide) ?_
            refine lv_goto (tgt := 65) hx hb dX8_roots_30 (by decide) ?_
            exact hJ1 _ hf _ _ ls hP hD hS (lv_sub hl [0, 1, 2] rfl)
          · have hf := ot hc hf
            refine lv_iconst (v := 1) hx hb dX8_roots_25 (by decide) ?_
            refine lv_goto (tgt := 65) hx hb dX8_roots_26 (by decide) ?_
            exact hJ1 _ hf _ _ ls hP hD hS (lv_sub hl [0, 1, 2] rfl)
  obtain ⟨o9, ho9, hf⟩ := ob hf
  refine hL9 FU _ _ ho9 _ _ ls hP hD hS (lv_sub hl [1, 2, 0] rfl) (fun H locs ls hP hD hS hl => ?_)
  obtain rfl := Option.some.inj hf
  exact W.vret hx hb hr (fun t ht hW => ⟨⟨(), rfl, trivial, by rw [ht]; exact hP, hD⟩, hS.F ht⟩) hS.2.2 dX8_roots_83
/-- RimGrainsModel.private static boolean in(int, int, int); -/
def fX8_in (a0 : Int32) (a1 : Int32) (a2 : Int32) : Option (Int32) :=
  (if a0 < a1 then some 0 else (if a2 < a0 then some 0 else some 1))
abbrev rmX8_in : Room := { frames := 0, cells := 0, slots := 0, locals := 0 }
set_option maxHeartbeats 4000000 in
set_option maxRecDepth 100000 in
theorem mX8_in (l : Launch) (dC : Nat → ClassId) (dI : Nat → Nat → Nat) (cI cZ cC cO : ClassId) (a0 : Int32) (a1 : Int32) (a2 : Int32) (out : Int32) (hf : fX8_in a0 a1 a2 = some out) : Met l yX8_in wsX8_in rmX8_in (va_Pc [.int a0, .int a1, .int a2] (pcR (dC, dI) (wTys cI cZ cC cO) ([] : va_W))) (vp_Si (fun r => r = out)) 0 0 (fun _ => False) := by
  refine Met.ofW (cc := cX8_in) (maxL := 3) (ret := (some .boolean)) (by decide) rfl ?_
  intro p e s m args below meth c s₁ B hml hv
  obtain ⟨hargs, hP, hK, hN⟩ := hv
  have hx := B.exec
  have hb := B.bytes
  have hr := B.returns
  have hts := atoms_spec (ws := wsX8_in) B.pre
  have hown : s.vm.findClass RX8 = some m.cls := findClass_of_methodNamed B.named
  have hlocks := B.notSynchronized
  have hE := lg_entry_eq m [.int a0, .int a1, .int a2] 3
  rw [← hargs] at hE
  rw [hE]
  have hl := lv_entry [.int a0, .int a1, .int a2] (n := 3) (Nat.le_of_ble_eq_true rfl)
  generalize (lg_sl [.int a0, .int a1, .int a2] ++ List.replicate (3 - (lg_sl [.int a0, .int a1, .int a2]).length) Slot.unset).toArray = ls at hl ⊢
  have hl : lv_has ls 3 [(0, .int a0), (1, .int a1), (2, .int a2)] := hl
  unfold fX8_in at hf
  refine lv_iload_n hx hb dX8_in_0 rfl (lv_at hl 0 rfl) ?_
  refine lv_iload_n hx hb dX8_in_1 rfl (lv_at hl 1 rfl) ?_
  refine lv_icmp_lt (tgt := 14) hx hb dX8_in_2 (by decide) (fun hc => ?_) (fun hc => ?_)
  · have hf := ot hc hf
    refine lv_iconst (v := 0) hx hb dX8_in_14 (by decide) ?_
    obtain rfl := Option.some.inj hf
    exact W.zret (v := 0) (ty := .boolean) hx hb hr rfl (fun t ht hW => ⟨_, rfl, rfl, ht⟩) (fun _ h => by cases h) dX8_in_15
  · have hf := oe hc hf
    refine lv_iload_n hx hb dX8_in_5 rfl (lv_at hl 0 rfl) ?_
    refine lv_iload_n hx hb dX8_in_6 rfl (lv_at hl 2 rfl) ?_
    refine lv_icmp_gt (tgt := 14) hx hb dX8_in_7 (by decide) (fun hc => ?_) (fun hc => ?_)
    · have hf := ot hc hf
      refine lv_iconst (v := 0) hx hb dX8_in_14 (by decide) ?_
      obtain rfl := Option.some.inj hf
      exact W.zret (v := 0) (ty := .boolean) hx hb hr rfl (fun t ht hW => ⟨_, rfl, rfl, ht⟩) (fun _ h => by cases h) dX8_in_15
    · have hf := oe hc hf
      refine lv_iconst (v := 1) hx hb dX8_in_10 (by decide) ?_
      refine lv_goto (tgt := 15) hx hb dX8_in_11 (by decide) ?_
      obtain rfl := Option.some.inj hf
      exact W.zret (v := 1) (ty := .boolean) hx hb hr rfl (fun t ht hW => ⟨_, rfl, rfl, ht⟩) (fun _ h => by cases h) dX8_in_15
/-- RimGrainsModel.private static void copies(int[], int, int[], int); -/
def tX8_copies_3 (a1 : Int32) (a3 : Int32) (n0 : Nat) (g0 : (Nat → Int32)) (n2 : Nat) (s3 : (Int32 × (Nat → Int32))) : Option ((Int32 × (Nat → Int32)) ⊕ ((Nat → Int32))) :=
  (if 373 ≤ s3.1 then some (.inr s3.2) else (if (a1 + s3.1) < 0 ∨ n0 ≤ (a1 + s3.1).toNatClampNeg then none else (if (a3 + s3.1) < 0 ∨ n2 ≤ (a3 + s3.1).toNatClampNeg then none else some (.inl ((s3.1 + 1), (upd s3.2 (a3 + s3.1).toNatClampNeg (g0 (a1 + s3.1).toNatClampNeg)))))))
def fX8_copies (a1 : Int32) (a3 : Int32) (n0 : Nat) (g0 : (Nat → Int32)) (n2 : Nat) (g2 : (Nat → Int32)) : Option ((Nat → Int32)) :=
  ((lp (tX8_copies_3 a1 a3 n0 g0 n2) FU (0, g2)).bind fun o3 => some o3)
abbrev rmX8_copies : Room := { frames := 0, cells := 0, slots := 0, locals := 0 }
set_option maxHeartbeats 4000000 in
set_option maxRecDepth 100000 in
theorem mX8_copies (l : Launch) (dC : Nat → ClassId) (dI : Nat → Nat → Nat) (cI cZ cC cO : ClassId) (q0 : Nat) (q2 : Nat) (a1 : Int32) (a3 : Int32) (n0 : Nat) (g0 : (Nat → Int32)) (n2 : Nat) (g2 : (Nat → Int32)) (sz : Nat) (out : (Nat → Int32)) (hf : fX8_copies a1 a3 n0 g0 n2 g2 = some out) : Met l yX8_copies wsX8_copies rmX8_copies (va_Pc [.ref q0, .int a1, .ref q2, .int a3] (pcW (dC, dI) (wTys cI cZ cC cO) sz (wA cI n0 q0 g0 ++ wA cI n2 q2 g2))) (va_Qv (fun (_ : Unit) => True) (fun _ => poW (dC, dI) (va_A (wA cI n0 q0 g0 ++ wA cI n2 q2 g2) sz) (wA cI n0 q0 g0 ++ wA cI n2 q2 out)) (va_A (wA cI n0 q0 g0 ++ wA cI n2 q2 g2) sz)) 0 0 (va_A (wA cI n0 q0 g0 ++ wA cI n2 q2 g2) sz) := by
  refine Met.ofW (cc := cX8_copies) (maxL := 5) (ret := none) (by decide) rfl ?_
  intro p e s m args below meth c s₁ B hml hv
  obtain ⟨hargs, hsz, hP, hK, hN, hD0⟩ := hv
  have hx := B.exec
  have hb := B.bytes
  have hr := B.returns
  have hts := atoms_spec (ws := wsX8_copies) B.pre
  have hown : s.vm.findClass RX8 = some m.cls := findClass_of_methodNamed B.named
  have hlocks := B.notSynchronized
  subst hsz
  have hD := hD0.self (sz := s.heap.size)
  generalize hAe : va_A (wA cI n0 q0 g0 ++ wA cI n2 q2 g2) s.heap.size = A at hD ⊢
  have hA : ∀ q : Nat, s.heap.size ≤ q → A q := fun q h => by rw [← hAe]; exact Or.inr h
  have hS : va_S A s.heap s.heap [] := va_S.rf
  have hE := lg_entry_eq m [.ref q0, .int a1, .ref q2, .int a3] 5
  rw [← hargs] at hE
  rw [hE]
  have hl := lv_entry [.ref q0, .int a1, .ref q2, .int a3] (n := 5) (Nat.le_of_ble_eq_true rfl)
  generalize (lg_sl [.ref q0, .int a1, .ref q2, .int a3] ++ List.replicate (5 - (lg_sl [.ref q0, .int a1, .ref q2, .int a3]).length) Slot.unset).toArray = ls at hl ⊢
  have hl : lv_has ls 5 [(0, .ref q0), (1, .int a1), (2, .ref q2), (3, .int a3)] := hl
  have hP : va_P (dC, dI) vwCl (wA cI n0 q0 g0 ++ wA cI n2 q2 g2) s.heap := hP
  unfold fX8_copies at hf
  refine lv_iconst (v := 0) hx hb dX8_copies_0 (by decide) ?_
  refine lv_istore (lv' := [(4, .int 0), (0, .ref q0), (1, .int a1), (2, .ref q2), (3, .int a3)]) hx hb dX8_copies_1 hl (by decide) rfl (fun ls hl => ?_)
  have hL3 : ∀ (n : Nat) (s3 : Int32 × (Nat → Int32)) (o3 : (Nat → Int32)), lp (tX8_copies_3 a1 a3 n0 g0 n2) n s3 = some o3 → ∀ (H : Heap) (locs : List Loc) (ls : Array Slot), va_P (dC, dI) vwCl (wA cI n0 q0 g0 ++ wA cI n2 q2 s3.2) H → va_D A (wA cI n0 q0 g0 ++ wA cI n2 q2 s3.2) → va_S A s.heap H locs → lv_has ls 5 [(0, .ref q0), (1, .int a1), (2, .ref q2), (3, .int a3), (4, .int s3.1)] → (∀ (H : Heap) (locs : List Loc) (ls : Array Slot), va_P (dC, dI) vwCl (wA cI n0 q0 g0 ++ wA cI n2 q2 o3) H → va_D A (wA cI n0 q0 g0 ++ wA cI n2 q2 o3) → va_S A s.heap H locs → lv_has ls 5 [] → W p l e (headSpec wsX8_copies rmX8_copies).room s m args below meth c H locs 0 0 (MQ below (va_Qv (fun (_ : Unit) => True) (fun _ => poW (dC, dI) A (wA cI n0 q0 g0 ++ wA cI n2 q2 out)) A) args s 0 0 A) (F0 m 29 ls [])) → W p l e (headSpec wsX8_copies rmX8_copies).room s m args below meth c H locs 0 0 (MQ below (va_Qv (fun (_ : Unit) => True) (fun _ => poW (dC, dI) A (wA cI n0 q0 g0 ++ wA cI n2 q2 out)) A) args s 0 0 A) (F0 m 3 ls []) := by
    intro n
    induction n with
    | zero => intro s3 o3 hf; exact (lp0 hf).elim
    | succ n ih3 =>
      intro s3 o3 hf H locs ls hP hD hS hl kx
      obtain ⟨r3, hf, hn⟩ := lps hf
      unfold tX8_copies_3 at hf
      refine lv_iload hx hb dX8_copies_3 (lv_at hl 4 rfl) ?_
      refine lv_sipush (v := 373) hx hb dX8_copies_5 (by decide) ?_
      refine lv_icmp_ge (tgt := 29) hx hb dX8_copies_8 (by decide) (fun hc => ?_) (fun hc => ?_)
      · have hf := ot hc hf
        obtain rfl := Option.some.inj hf
        obtain rfl := Option.some.inj hn
        exact kx _ _ ls hP hD hS (lv_sub hl [] rfl)
      · have hf := oe hc hf
        refine lv_aload_n hx hb dX8_copies_11 rfl (lv_at hl 2 rfl) ?_
        refine lv_iload_n hx hb dX8_copies_12 rfl (lv_at hl 3 rfl) ?_
        refine lv_iload hx hb dX8_copies_13 (lv_at hl 4 rfl) ?_
        refine lv_iadd hx hb dX8_copies_15 ?_
        refine lv_aload_n hx hb dX8_copies_16 rfl (lv_at hl 0 rfl) ?_
        refine lv_iload_n hx hb dX8_copies_17 rfl (lv_at hl 1 rfl) ?_
        refine lv_iload hx hb dX8_copies_18 (lv_at hl 4 rfl) ?_
        refine lv_iadd hx hb dX8_copies_20 ?_
        obtain ⟨hin, hf⟩ := og hf
        refine va_iald hx hb hK hP 0 0 rfl rfl hin dX8_copies_21 ?_
        obtain ⟨hin, hf⟩ := og hf
        refine va_iast hx hb hK hP hD hS 1 0 rfl rfl hin dX8_copies_22 (fun H locs hP hD hS => ?_)
        have hP : va_P (dC, dI) vwCl (wA cI n0 q0 g0 ++ wA cI n2 q2 (upd s3.2 (a3 + s3.1).toNatClampNeg (g0 (a1 + s3.1).toNatClampNeg))) H := hP
        have hD : va_D A (wA cI n0 q0 g0 ++ wA cI n2 q2 (upd s3.2 (a3 + s3.1).toNatClampNeg (g0 (a1 + s3.1).toNatClampNeg))) := hD
        refine lv_iinc (v := (s3.1 + 1)) (lv' := [(4, .int (s3.1 + 1)), (0, .ref q0), (1, .int a1), (2, .ref q2), (3, .int a3)]) hx hb dX8_copies_23 hl (k := 4) rfl rfl (by decide) rfl (fun ls hl => ?_)
        refine lv_goto (tgt := 3) hx hb dX8_copies_26 (by decide) ?_
        obtain rfl := Option.some.inj hf
        exact ih3 _ _ hn _ _ ls hP hD hS (lv_sub hl [1, 2, 3, 4, 0] rfl) kx
  obtain ⟨o3, ho3, hf⟩ := ob hf
  refine hL3 FU _ _ ho3 _ _ ls hP hD hS (lv_sub hl [1, 2, 3, 4, 0] rfl) (fun H locs ls hP hD hS hl => ?_)
  obtain rfl := Option.some.inj hf
  exact W.vret hx hb hr (fun t ht hW => ⟨⟨(), rfl, trivial, by rw [ht]; exact hP, hD⟩, hS.F ht⟩) hS.2.2 dX8_copies_29
/-- RimGrainsModel.private void records(); -/
def jX8_records_1 (g0_1 : GX8) : Option (GX8) :=
  ((fX8_copies 0 (373 * (pX8_known g0_1)) 373 (pX8_s g0_1) 1492 (pX8_past g0_1)).bind fun o66 => some ((pX8_s g0_1), (pX8_aside g0_1), o66, ((pX8_known g0_1) + 1), (pX8_kept g0_1), (pX8_isKept g0_1), (pX8_pad g0_1), (pX8_length g0_1), (pX8_whyError g0_1), (pX8_whyNumber g0_1), (pX8_whySpot g0_1), (pX8_lots g0_1), (pX8_walker g0_1), (pX8_steps g0_1), (pX8_goes g0_1), (pX8_becomes g0_1), (pX8_spot g0_1), (pX8_isForm g0_1), (pX8_letter g0_1), (pX8_told g0_1), (pX8_highest g0_1)))
def tX8_records_10 (s10 : (Int32 × GX8)) : Option ((Int32 × GX8) ⊕ (GX8)) :=
  (if 1119 ≤ s10.1 then some (.inr s10.2) else (if (s10.1 + 373) < 0 ∨ 1492 ≤ (s10.1 + 373).toNatClampNeg then none else (if s10.1 < 0 ∨ 1492 ≤ s10.1.toNatClampNeg then none else some (.inl ((s10.1 + 1), ((pX8_s s10.2), (pX8_aside s10.2), (upd (pX8_past s10.2) s10.1.toNatClampNeg ((pX8_past s10.2) (s10.1 + 373).toNatClampNeg)), (pX8_known s10.2), (pX8_kept s10.2), (pX8_isKept s10.2), (pX8_pad s10.2), (pX8_length s10.2), (pX8_whyError s10.2), (pX8_whyNumber s10.2), (pX8_whySpot s10.2), (pX8_lots s10.2), (pX8_walker s10.2), (pX8_steps s10.2), (pX8_goes s10.2), (pX8_becomes s10.2), (pX8_spot s10.2), (pX8_isForm s10.2), (pX8_letter s10.2), (pX8_told s10.2), (pX8_highest s10.2)))))))
def fX8_records (g0 : GX8) : Option (GX8) :=
  (if (pX8_known g0) = 4 then ((lp tX8_records_10 FU (0, g0)).bind fun o10 => jX8_records_1 ((pX8_s o10), (pX8_aside o10), (pX8_past o10), ((pX8_known o10) - 1), (pX8_kept o10), (pX8_isKept o10), (pX8_pad o10), (pX8_length o10), (pX8_whyError o10), (pX8_whyNumber o10), (pX8_whySpot o10), (pX8_lots o10), (pX8_walker o10), (pX8_steps o10), (pX8_goes o10), (pX8_becomes o10), (pX8_spot o10), (pX8_isForm o10), (pX8_letter o10), (pX8_told o10), (pX8_highest o10))) else jX8_records_1 g0)
abbrev rmX8_records : Room := { frames := 1, cells := 0, slots := 0, locals := 24 }
set_option maxHeartbeats 4000000 in
set_option maxRecDepth 100000 in
theorem mX8_records (l : Launch) (dC : Nat → ClassId) (dI : Nat → Nat → Nat) (cI cZ cC cO : ClassId) (q0 : Nat → Nat) (g0 : GX8) (sz : Nat) (out : GX8) (hf : fX8_records g0 = some out) : Met l yX8_records wsX8_records rmX8_records (va_Pc [.ref (q0 0)] (pcW (dC, dI) (wTys cI cZ cC cO) sz (wX8 cI cZ cC q0 g0))) (va_Qv (fun (_ : Unit) => True) (fun _ => poW (dC, dI) (va_A (wX8 cI cZ cC q0 g0) sz) (wX8 cI cZ cC q0 out)) (va_A (wX8 cI cZ cC q0 g0) sz)) 0 0 (va_A (wX8 cI cZ cC q0 g0) sz) := by
  refine Met.ofW (cc := cX8_records) (maxL := 2) (ret := none) (by decide) rfl ?_
  intro p e s m args below meth c s₁ B hml hv
  obtain ⟨hargs, hsz, hP, hK, hN, hD0⟩ := hv
  have hx := B.exec
  have hb := B.bytes
  have hr := B.returns
  have hts := atoms_spec (ws := wsX8_records) B.pre
  have hown : s.vm.findClass RX8 = some m.cls := findClass_of_methodNamed B.named
  have hlocks := B.notSynchronized
  have hk0 := hts (.fieldLink RX8 39 "RimGrainsModel" "known" "I") (by decide +kernel)
  have hk1 := hts (.fieldLink RX8 7 "RimGrainsModel" "s" "[I") (by decide +kernel)
  have hk2 := hts (.fieldLink RX8 16 "RimGrainsModel" "past" "[I") (by decide +kernel)
  have hin8 : ∀ w ∈ wsX80, w ∈ wsX8_records := by decide +kernel
  subst hsz
  have hD := hD0.self (sz := s.heap.size)
  generalize hAe : va_A (wX8 cI cZ cC q0 g0) s.heap.size = A at hD ⊢
  have hA : ∀ q : Nat, s.heap.size ≤ q → A q := fun q h => by rw [← hAe]; exact Or.inr h
  have hS : va_S A s.heap s.heap [] := va_S.rf
  have hE := lg_entry_eq m [.ref (q0 0)] 2
  rw [← hargs] at hE
  rw [hE]
  have hl := lv_entry [.ref (q0 0)] (n := 2) (Nat.le_of_ble_eq_true rfl)
  generalize (lg_sl [.ref (q0 0)] ++ List.replicate (2 - (lg_sl [.ref (q0 0)]).length) Slot.unset).toArray = ls at hl ⊢
  have hl : lv_has ls 2 [(0, .ref (q0 0))] := hl
  have hP : va_P (dC, dI) vwCl (wX8 cI cZ cC q0 g0) s.heap := hP
  unfold fX8_records at hf
  refine lv_aload_n hx hb dX8_records_0 rfl (lv_at hl 0 rfl) ?_
  refine va_get (D := (dC, dI)) (ci := 7) (v := .int (pX8_known g0)) (C := RX8) (T := TX8) (N := 21) hx hb hts hin8 hown hK hP 0 rfl rfl 3 (by decide) hk0 (fun _ h9 => h9) rfl dX8_records_1 ?_
  refine lv_iconst (v := 4) hx hb dX8_records_4 (by decide) ?_
  have hJ1 : ∀ (g0_1 : GX8), jX8_records_1 g0_1 = some out → ∀ (H : Heap) (locs : List Loc) (ls : Array Slot), va_P (dC, dI) vwCl (wX8 cI cZ cC q0 g0_1) H → va_D A (wX8 cI cZ cC q0 g0_1) → va_S A s.heap H locs → lv_has ls 2 [(0, .ref (q0 0))] → W p l e (headSpec wsX8_records rmX8_records).room s m args below meth c H locs 0 0 (MQ below (va_Qv (fun (_ : Unit) => True) (fun _ => poW (dC, dI) A (wX8 cI cZ cC q0 out)) A) args s 0 0 A) (F0 m 49 ls []) := by
    intro g0_1 hf H locs ls hP hD hS hl
    unfold jX8_records_1 at hf
    refine lv_aload_n hx hb dX8_records_49 rfl (lv_at hl 0 rfl) ?_
    refine va_get (D := (dC, dI)) (ci := 7) (v := .ref (q0 1)) (C := RX8) (T := TX8) (N := 21) hx hb hts hin8 hown hK hP 0 rfl rfl 0 (by decide) hk1 (fun _ h9 => h9) rfl dX8_records_50 ?_
    refine lv_iconst (v := 0) hx hb dX8_records_53 (by decide) ?_
    refine lv_aload_n hx hb dX8_records_54 rfl (lv_at hl 0 rfl) ?_
    refine va_get (D := (dC, dI)) (ci := 7) (v := .ref (q0 3)) (C := RX8) (T := TX8) (N := 21) hx hb hts hin8 hown hK hP 0 rfl rfl 2 (by decide) hk2 (fun _ h9 => h9) rfl dX8_records_55 ?_
    refine lv_sipush (v := 373) hx hb dX8_records_58 (by decide) ?_
    refine lv_aload_n hx hb dX8_records_61 rfl (lv_at hl 0 rfl) ?_
    refine va_get (D := (dC, dI)) (ci := 7) (v := .int (pX8_known g0_1)) (C := RX8) (T := TX8) (N := 21) hx hb hts hin8 hown hK hP 0 rfl rfl 3 (by decide) hk0 (fun _ h9 => h9) rfl dX8_records_62 ?_
    refine lv_imul hx hb dX8_records_65 ?_
    obtain ⟨o66, ho66, hf⟩ := ob hf
    refine wSv (W1 := (fun _ : Unit => (wX8 cI cZ cC q0 ((pX8_s g0_1), (pX8_aside g0_1), o66, (pX8_known g0_1), (pX8_kept g0_1), (pX8_isKept g0_1), (pX8_pad g0_1), (pX8_length g0_1), (pX8_whyError g0_1), (pX8_whyNumber g0_1), (pX8_whySpot g0_1), (pX8_lots g0_1), (pX8_walker g0_1), (pX8_steps g0_1), (pX8_goes g0_1), (pX8_becomes g0_1), (pX8_spot g0_1), (pX8_isForm g0_1), (pX8_letter g0_1), (pX8_told g0_1), (pX8_highest g0_1))))) (rest := []) (As := [.ref (q0 1), .int 0, .ref (q0 3), .int (373 * (pX8_known g0_1))]) ⟨hx, hb, hml, hown, hts⟩ (mX8_copies l dC dI cI cZ cC cO (q0 1) (q0 3) _ _ _ _ _ _ _ _ ho66) (va_cwS 4 hts gX8_records_X8_copies rfl rfl rfl (by decide +kernel) ⟨Nat.le_of_ble_eq_true rfl, Nat.le_of_ble_eq_true rfl⟩) hK hN hP hD hS hA [1, 3] [0, 2, 4, 5, 6, 7, 8] [0, 7, 1, 8, 2, 3, 4, 5, 6] rfl rfl (by decide) (by decide) (fun _ => rfl) rfl hl.1 rfl (Nat.le_of_ble_eq_true rfl) dX8_records_66 ⟨Nat.zero_le _, Nat.zero_le _⟩ (fun _ H locs hP hD hS => ?_)
    have hP : va_P (dC, dI) vwCl (wX8 cI cZ cC q0 ((pX8_s g0_1), (pX8_aside g0_1), o66, (pX8_known g0_1), (pX8_kept g0_1), (pX8_isKept g0_1), (pX8_pad g0_1), (pX8_length g0_1), (pX8_whyError g0_1), (pX8_whyNumber g0_1), (pX8_whySpot g0_1), (pX8_lots g0_1), (pX8_walker g0_1), (pX8_steps g0_1), (pX8_goes g0_1), (pX8_becomes g0_1), (pX8_spot g0_1), (pX8_isForm g0_1), (pX8_letter g0_1), (pX8_told g0_1), (pX8_highest g0_1))) H := hP
    have hD : va_D A (wX8 cI cZ cC q0 ((pX8_s g0_1), (pX8_aside g0_1), o66, (pX8_known g0_1), (pX8_kept g0_1), (pX8_isKept g0_1), (pX8_pad g0_1), (pX8_length g0_1), (pX8_whyError g0_1), (pX8_whyNumber g0_1), (pX8_whySpot g0_1), (pX8_lots g0_1), (pX8_walker g0_1), (pX8_steps g0_1), (pX8_goes g0_1), (pX8_becomes g0_1), (pX8_spot g0_1), (pX8_isForm g0_1), (pX8_letter g0_1), (pX8_told g0_1), (pX8_highest g0_1))) := hD
    refine lv_aload_n hx hb dX8_records_69 rfl (lv_at hl 0 rfl) ?_
    refine lv_dup hx hb dX8_records_70 rfl ?_
    refine va_get (D := (dC, dI)) (ci := 7) (v := .int (pX8_known g0_1)) (C := RX8) (T := TX8) (N := 21) hx hb hts hin8 hown hK hP 0 rfl rfl 3 (by decide) hk0 (fun _ h9 => h9) rfl dX8_records_71 ?_
    refine lv_iconst (v := 1) hx hb dX8_records_74 (by decide) ?_
    refine lv_iadd hx hb dX8_records_75 ?_
    refine va_put (D := (dC, dI)) (ci := 7) (v := .int ((pX8_known g0_1) + 1)) (ty := .int) (C := RX8) (T := TX8) (N := 21) hx hb hts hin8 tyX8 tyX8_ok nmX8 hown hK hP hD hS 0 rfl rfl 3 (by decide) hk0 (fun _ h9 => h9) rfl (by decide +kernel) rfl rfl (Nat.le_of_ble_eq_true rfl) dX8_records_76 (fun H locs hP hD hS => ?_)
    have hP : va_P (dC, dI) vwCl (wX8 cI cZ cC q0 ((pX8_s g0_1), (pX8_aside g0_1), o66, ((pX8_known g0_1) + 1), (pX8_kept g0_1), (pX8_isKept g0_1), (pX8_pad g0_1), (pX8_length g0_1), (pX8_whyError g0_1), (pX8_whyNumber g0_1), (pX8_whySpot g0_1), (pX8_lots g0_1), (pX8_walker g0_1), (pX8_steps g0_1), (pX8_goes g0_1), (pX8_becomes g0_1), (pX8_spot g0_1), (pX8_isForm g0_1), (pX8_letter g0_1), (pX8_told g0_1), (pX8_highest g0_1))) H := hP
    have hD : va_D A (wX8 cI cZ cC q0 ((pX8_s g0_1), (pX8_aside g0_1), o66, ((pX8_known g0_1) + 1), (pX8_kept g0_1), (pX8_isKept g0_1), (pX8_pad g0_1), (pX8_length g0_1), (pX8_whyError g0_1), (pX8_whyNumber g0_1), (pX8_whySpot g0_1), (pX8_lots g0_1), (pX8_walker g0_1), (pX8_steps g0_1), (pX8_goes g0_1), (pX8_becomes g0_1), (pX8_spot g0_1), (pX8_isForm g0_1), (pX8_letter g0_1), (pX8_told g0_1), (pX8_highest g0_1))) := hD
    obtain rfl := Option.some.inj hf
    exact W.vret hx hb hr (fun t ht hW => ⟨⟨(), rfl, trivial, by rw [ht]; exact hP, hD⟩, hS.F ht⟩) hS.2.2 dX8_records_79
  refine lv_icmp_ne (tgt := 49) hx hb dX8_records_5 (by decide) (fun hc => ?_) (fun hc => ?_)
  · have hf := oe hc hf
    exact hJ1 _ hf _ _ ls hP hD hS (lv_sub hl [0] rfl)
  · have hf := ot hc hf
    refine lv_iconst (v := 0) hx hb dX8_records_8 (by decide) ?_
    refine lv_istore_n (lv' := [(1, .int 0), (0, .ref (q0 0))]) hx hb dX8_records_9 rfl hl (by decide) rfl (fun ls hl => ?_)
    have hL10 : ∀ (n : Nat) (s10 : Int32 × GX8) (o10 : GX8), lp tX8_records_10 n s10 = some o10 → ∀ (H : Heap) (locs : List Loc) (ls : Array Slot), va_P (dC, dI) vwCl (wX8 cI cZ cC q0 s10.2) H → va_D A (wX8 cI cZ cC q0 s10.2) → va_S A s.heap H locs → lv_has ls 2 [(0, .ref (q0 0)), (1, .int s10.1)] → (∀ (H : Heap) (locs : List Loc) (ls : Array Slot), va_P (dC, dI) vwCl (wX8 cI cZ cC q0 o10) H → va_D A (wX8 cI cZ cC q0 o10) → va_S A s.heap H locs → lv_has ls 2 [(0, .ref (q0 0))] → W p l e (headSpec wsX8_records rmX8_records).room s m args below meth c H locs 0 0 (MQ below (va_Qv (fun (_ : Unit) => True) (fun _ => poW (dC, dI) A (wX8 cI cZ cC q0 out)) A) args s 0 0 A) (F0 m 39 ls [])) → W p l e (headSpec wsX8_records rmX8_records).room s m args below meth c H locs 0 0 (MQ below (va_Qv (fun (_ : Unit) => True) (fun _ => poW (dC, dI) A (wX8 cI cZ cC q0 out)) A) args s 0 0 A) (F0 m 10 ls []) := by
      intro n
      induction n with
      | zero => intro s10 o10 hf; exact (lp0 hf).elim
      | succ n ih10 =>
        intro s10 o10 hf H locs ls hP hD hS hl kx
        obtain ⟨r10, hf, hn⟩ := lps hf
        unfold tX8_records_10 at hf
        refine lv_iload_n hx hb dX8_records_10 rfl (lv_at hl 1 rfl) ?_
        refine lv_sipush (v := 1119) hx hb dX8_records_11 (by decide) ?_
        refine lv_icmp_ge (tgt := 39) hx hb dX8_records_14 (by decide) (fun hc => ?_) (fun hc => ?_)
        · have hf := ot hc hf
          obtain rfl := Option.some.inj hf
          obtain rfl := Option.some.inj hn
          exact kx _ _ ls hP hD hS (lv_sub hl [0] rfl)
        · have hf := oe hc hf
          refine lv_aload_n hx hb dX8_records_17 rfl (lv_at hl 0 rfl) ?_
          refine va_get (D := (dC, dI)) (ci := 7) (v := .ref (q0 3)) (C := RX8) (T := TX8) (N := 21) hx hb hts hin8 hown hK hP 0 rfl rfl 2 (by decide) hk2 (fun _ h9 => h9) rfl dX8_records_18 ?_
          refine lv_iload_n hx hb dX8_records_21 rfl (lv_at hl 1 rfl) ?_
          refine lv_aload_n hx hb dX8_records_22 rfl (lv_at hl 0 rfl) ?_
          refine va_get (D := (dC, dI)) (ci := 7) (v := .ref (q0 3)) (C := RX8) (T := TX8) (N := 21) hx hb hts hin8 hown hK hP 0 rfl rfl 2 (by decide) hk2 (fun _ h9 => h9) rfl dX8_records_23 ?_
          refine lv_iload_n hx hb dX8_records_26 rfl (lv_at hl 1 rfl) ?_
          refine lv_sipush (v := 373) hx hb dX8_records_27 (by decide) ?_
          refine lv_iadd hx hb dX8_records_30 ?_
          obtain ⟨hin, hf⟩ := og hf
          refine va_iald hx hb hK hP 3 0 rfl rfl hin dX8_records_31 ?_
          obtain ⟨hin, hf⟩ := og hf
          refine va_iast hx hb hK hP hD hS 3 0 rfl rfl hin dX8_records_32 (fun H locs hP hD hS => ?_)
          have hP : va_P (dC, dI) vwCl (wX8 cI cZ cC q0 ((pX8_s s10.2), (pX8_aside s10.2), (upd (pX8_past s10.2) s10.1.toNatClampNeg ((pX8_past s10.2) (s10.1 + 373).toNatClampNeg)), (pX8_known s10.2), (pX8_kept s10.2), (pX8_isKept s10.2), (pX8_pad s10.2), (pX8_length s10.2), (pX8_whyError s10.2), (pX8_whyNumber s10.2), (pX8_whySpot s10.2), (pX8_lots s10.2), (pX8_walker s10.2), (pX8_steps s10.2), (pX8_goes s10.2), (pX8_becomes s10.2), (pX8_spot s10.2), (pX8_isForm s10.2), (pX8_letter s10.2), (pX8_told s10.2), (pX8_highest s10.2))) H := hP
          have hD : va_D A (wX8 cI cZ cC q0 ((pX8_s s10.2), (pX8_aside s10.2), (upd (pX8_past s10.2) s10.1.toNatClampNeg ((pX8_past s10.2) (s10.1 + 373).toNatClampNeg)), (pX8_known s10.2), (pX8_kept s10.2), (pX8_isKept s10.2), (pX8_pad s10.2), (pX8_length s10.2), (pX8_whyError s10.2), (pX8_whyNumber s10.2), (pX8_whySpot s10.2), (pX8_lots s10.2), (pX8_walker s10.2), (pX8_steps s10.2), (pX8_goes s10.2), (pX8_becomes s10.2), (pX8_spot s10.2), (pX8_isForm s10.2), (pX8_letter s10.2), (pX8_told s10.2), (pX8_highest s10.2))) := hD
          refine lv_iinc (v := (s10.1 + 1)) (lv' := [(1, .int (s10.1 + 1)), (0, .ref (q0 0))]) hx hb dX8_records_33 hl (k := 1) rfl rfl (by decide) rfl (fun ls hl => ?_)
          refine lv_goto (tgt := 10) hx hb dX8_records_36 (by decide) ?_
          obtain rfl := Option.some.inj hf
          exact ih10 _ _ hn _ _ ls hP hD hS (lv_sub hl [1, 0] rfl) kx
    obtain ⟨o10, ho10, hf⟩ := ob hf
    refine hL10 FU _ _ ho10 _ _ ls hP hD hS (lv_sub hl [1, 0] rfl) (fun H locs ls hP hD hS hl => ?_)
    refine lv_aload_n hx hb dX8_records_39 rfl (lv_at hl 0 rfl) ?_
    refine lv_dup hx hb dX8_records_40 rfl ?_
    refine va_get (D := (dC, dI)) (ci := 7) (v := .int (pX8_known o10)) (C := RX8) (T := TX8) (N := 21) hx hb hts hin8 hown hK hP 0 rfl rfl 3 (by decide) hk0 (fun _ h9 => h9) rfl dX8_records_41 ?_
    refine lv_iconst (v := 1) hx hb dX8_records_44 (by decide) ?_
    refine lv_isub hx hb dX8_records_45 ?_
    refine va_put (D := (dC, dI)) (ci := 7) (v := .int ((pX8_known o10) - 1)) (ty := .int) (C := RX8) (T := TX8) (N := 21) hx hb hts hin8 tyX8 tyX8_ok nmX8 hown hK hP hD hS 0 rfl rfl 3 (by decide) hk0 (fun _ h9 => h9) rfl (by decide +kernel) rfl rfl (Nat.le_of_ble_eq_true rfl) dX8_records_46 (fun H locs hP hD hS => ?_)
    have hP : va_P (dC, dI) vwCl (wX8 cI cZ cC q0 ((pX8_s o10), (pX8_aside o10), (pX8_past o10), ((pX8_known o10) - 1), (pX8_kept o10), (pX8_isKept o10), (pX8_pad o10), (pX8_length o10), (pX8_whyError o10), (pX8_whyNumber o10), (pX8_whySpot o10), (pX8_lots o10), (pX8_walker o10), (pX8_steps o10), (pX8_goes o10), (pX8_becomes o10), (pX8_spot o10), (pX8_isForm o10), (pX8_letter o10), (pX8_told o10), (pX8_highest o10))) H := hP
    have hD : va_D A (wX8 cI cZ cC q0 ((pX8_s o10), (pX8_aside o10), (pX8_past o10), ((pX8_known o10) - 1), (pX8_kept o10), (pX8_isKept o10), (pX8_pad o10), (pX8_length o10), (pX8_whyError o10), (pX8_whyNumber o10), (pX8_whySpot o10), (pX8_lots o10), (pX8_walker o10), (pX8_steps o10), (pX8_goes o10), (pX8_becomes o10), (pX8_spot o10), (pX8_isForm o10), (pX8_letter o10), (pX8_told o10), (pX8_highest o10))) := hD
    exact hJ1 _ hf _ _ ls hP hD hS (lv_sub hl [0] rfl)
/-- RimGrainsModel.private static boolean isCell(int); -/
def fX8_isCell (a0 : Int32) : Option (Int32) :=
  ((fX8_in a0 0 120).bind fun o4 => (jgz o4 (some o4)))
abbrev rmX8_isCell : Room := { frames := 1, cells := 0, slots := 0, locals := 22 }
set_option maxHeartbeats 4000000 in
set_option maxRecDepth 100000 in
theorem mX8_isCell (l : Launch) (dC : Nat → ClassId) (dI : Nat → Nat → Nat) (cI cZ cC cO : ClassId) (a0 : Int32) (out : Int32) (hf : fX8_isCell a0 = some out) : Met l yX8_isCell wsX8_isCell rmX8_isCell (va_Pc [.int a0] (pcR (dC, dI) (wTys cI cZ cC cO) ([] : va_W))) (vp_Si (fun r => r = out)) 0 0 (fun _ => False) := by
  refine Met.ofW (cc := cX8_isCell) (maxL := 1) (ret := (some .boolean)) (by decide) rfl ?_
  intro p e s m args below meth c s₁ B hml hv
  obtain ⟨hargs, hP, hK, hN⟩ := hv
  have hx := B.exec
  have hb := B.bytes
  have hr := B.returns
  have hts := atoms_spec (ws := wsX8_isCell) B.pre
  have hown : s.vm.findClass RX8 = some m.cls := findClass_of_methodNamed B.named
  have hlocks := B.notSynchronized
  have hE := lg_entry_eq m [.int a0] 1
  rw [← hargs] at hE
  rw [hE]
  have hl := lv_entry [.int a0] (n := 1) (Nat.le_of_ble_eq_true rfl)
  generalize (lg_sl [.int a0] ++ List.replicate (1 - (lg_sl [.int a0]).length) Slot.unset).toArray = ls at hl ⊢
  have hl : lv_has ls 1 [(0, .int a0)] := hl
  unfold fX8_isCell at hf
  refine lv_iload_n hx hb dX8_isCell_0 rfl (lv_at hl 0 rfl) ?_
  refine lv_iconst (v := 0) hx hb dX8_isCell_1 (by decide) ?_
  refine lv_bipush (v := 120) hx hb dX8_isCell_2 (by decide) ?_
  obtain ⟨o4, ho4, hf⟩ := ob hf
  refine rS (rest := []) (As := [.int a0, .int 0, .int 120]) ⟨hx, hb, hml, hown, hts⟩ (mX8_in l dC dI cI cZ cC cO  _ _ _ _ ho4) (va_cwS 3 hts gX8_isCell_X8_in rfl rfl rfl (by decide +kernel) ⟨Nat.le_of_ble_eq_true rfl, Nat.le_of_ble_eq_true rfl⟩) hK hN hP [] rfl rfl hl.1 rfl (Nat.le_of_ble_eq_true rfl) dX8_isCell_4 ⟨Nat.zero_le _, Nat.zero_le _⟩ ?_
  obtain ⟨hz, hf⟩ := ogz hf
  obtain rfl := Option.some.inj hf
  exact W.zret (v := o4) (ty := .boolean) hx hb hr (jz_n hz) (fun t ht hW => ⟨_, rfl, rfl, ht⟩) (fun _ h => by cases h) dX8_isCell_7
/-- RimGrainsModel.private static int beside(int, int); -/
def jX8_beside_2 (a0 : Int32) (y0_1 : Int32) (y0_2 : Int32) : Option (Int32) :=
  ((fX8_in ((a0 / 11) + y0_1) 0 10).bind fun o53 => (if o53 = 0 then some (-4) else ((fX8_in ((jrem a0 11) + y0_2) 0 10).bind fun o63 => (if o63 = 0 then some (-4) else some ((11 * ((a0 / 11) + y0_1)) + ((jrem a0 11) + y0_2))))))
def jX8_beside_1 (a0 : Int32) (a1 : Int32) (y0_1 : Int32) : Option (Int32) :=
  (if a1 = 1 then jX8_beside_2 a0 y0_1 1 else (if a1 = 3 then jX8_beside_2 a0 y0_1 (-1) else jX8_beside_2 a0 y0_1 0))
def fX8_beside (a0 : Int32) (a1 : Int32) : Option (Int32) :=
  (if a1 = 0 then jX8_beside_1 a0 a1 (-1) else (if a1 = 2 then jX8_beside_1 a0 a1 1 else jX8_beside_1 a0 a1 0))
abbrev rmX8_beside : Room := { frames := 1, cells := 0, slots := 0, locals := 22 }
set_option maxHeartbeats 4000000 in
set_option maxRecDepth 100000 in
theorem mX8_beside (l : Launch) (dC : Nat → ClassId) (dI : Nat → Nat → Nat) (cI cZ cC cO : ClassId) (a0 : Int32) (a1 : Int32) (out : Int32) (hf : fX8_beside a0 a1 = some out) : Met l yX8_beside wsX8_beside rmX8_beside (va_Pc [.int a0, .int a1] (pcR (dC, dI) (wTys cI cZ cC cO) ([] : va_W))) (vp_Si (fun r => r = out)) 0 0 (fun _ => False) := by
  refine Met.ofW (cc := cX8_beside) (maxL := 4) (ret := (some .int)) (by decide) rfl ?_
  intro p e s m args below meth c s₁ B hml hv
  obtain ⟨hargs, hP, hK, hN⟩ := hv
  have hx := B.exec
  have hb := B.bytes
  have hr := B.returns
  have hts := atoms_spec (ws := wsX8_beside) B.pre
  have hown : s.vm.findClass RX8 = some m.cls := findClass_of_methodNamed B.named
  have hlocks := B.notSynchronized
  have hE := lg_entry_eq m [.int a0, .int a1] 4
  rw [← hargs] at hE
  rw [hE]
  have hl := lv_entry [.int a0, .int a1] (n := 4) (Nat.le_of_ble_eq_true rfl)
  generalize (lg_sl [.int a0, .int a1] ++ List.replicate (4 - (lg_sl [.int a0, .int a1]).length) Slot.unset).toArray = ls at hl ⊢
  have hl : lv_has ls 4 [(0, .int a0), (1, .int a1)] := hl
  unfold fX8_beside at hf
  refine lv_iload_n hx hb dX8_beside_0 rfl (lv_at hl 0 rfl) ?_
  refine lv_bipush (v := 11) hx hb dX8_beside_1 (by decide) ?_
  refine lv_idiv hx hb dX8_beside_3 (by decide) ?_
  refine lv_iload_n hx hb dX8_beside_4 rfl (lv_at hl 1 rfl) ?_
  have hJ1 : ∀ (y0_1 : Int32), jX8_beside_1 a0 a1 y0_1 = some out → ∀ ls : Array Slot, lv_has ls 4 [(0, .int a0), (1, .int a1)] → W p l e (headSpec wsX8_beside rmX8_beside).room s m args below meth c s.heap [] 0 0 (MQ below (vp_Si (fun r => r = out)) args s 0 0 (fun _ => False)) (F0 m 22 ls [.int y0_1, .int (a0 / 11)]) := by
    intro y0_1 hf ls hl
    unfold jX8_beside_1 at hf
    refine lv_iadd hx hb dX8_beside_22 ?_
    refine lv_istore_n (lv' := [(2, .int ((a0 / 11) + y0_1)), (0, .int a0), (1, .int a1)]) hx hb dX8_beside_23 rfl hl (by decide) rfl (fun ls hl => ?_)
    refine lv_iload_n hx hb dX8_beside_24 rfl (lv_at hl 1 rfl) ?_
    refine lv_bipush (v := 11) hx hb dX8_beside_25 (by decide) ?_
    refine jirem hx hb dX8_beside_27 (by decide) ?_
    refine lv_iload_n hx hb dX8_beside_28 rfl (lv_at hl 2 rfl) ?_
    refine lv_iconst (v := 1) hx hb dX8_beside_29 (by decide) ?_
    have hJ2 : ∀ (y0_2 : Int32), jX8_beside_2 a0 y0_1 y0_2 = some out → ∀ ls : Array Slot, lv_has ls 4 [(2, .int ((a0 / 11) + y0_1))] → W p l e (headSpec wsX8_beside rmX8_beside).room s m args below meth c s.heap [] 0 0 (MQ below (vp_Si (fun r => r = out)) args s 0 0 (fun _ => False)) (F0 m 47 ls [.int y0_2, .int (jrem a0 11)]) := by
      intro y0_2 hf ls hl
      unfold jX8_beside_2 at hf
      refine lv_iadd hx hb dX8_beside_47 ?_
      refine lv_istore_n (lv' := [(3, .int ((jrem a0 11) + y0_2)), (2, .int ((a0 / 11) + y0_1))]) hx hb dX8_beside_48 rfl hl (by decide) rfl (fun ls hl => ?_)
      refine lv_iload_n hx hb dX8_beside_49 rfl (lv_at hl 1 rfl) ?_
      refine lv_iconst (v := 0) hx hb dX8_beside_50 (by decide) ?_
      refine lv_bipush (v := 10) hx hb dX8_beside_51 (by decide) ?_
      obtain ⟨o53, ho53, hf⟩ := ob hf
      refine rS (rest := []) (As := [.int ((a0 / 11) + y0_1), .int 0, .int 10]) ⟨hx, hb, hml, hown, hts⟩ (mX8_in l dC dI cI cZ cC cO  _ _ _ _ ho53) (va_cwS 3 hts gX8_beside_X8_in rfl rfl rfl (by decide +kernel) ⟨Nat.le_of_ble_eq_true rfl, Nat.le_of_ble_eq_true rfl⟩) hK hN hP [] rfl rfl hl.1 rfl (Nat.le_of_ble_eq_true rfl) dX8_beside_53 ⟨Nat.zero_le _, Nat.zero_le _⟩ ?_
      refine lv_if_eq (tgt := 78) hx hb dX8_beside_56 (by decide) (fun hc => ?_) (fun hc => ?_)
      · have hf := ot hc hf
        refine lv_bipush (v := (-4)) hx hb dX8_beside_78 (by decide) ?_
        obtain rfl := Option.some.inj hf
        exact W.iret (v := (-4)) hx hb hr (fun t ht hW => ⟨_, rfl, rfl, ht⟩) (fun _ h => by cases h) dX8_beside_80
      · have hf := oe hc hf
        refine lv_iload_n hx hb dX8_beside_59 rfl (lv_at hl 0 rfl) ?_
        refine lv_iconst (v := 0) hx hb dX8_beside_60 (by decide) ?_
        refine lv_bipush (v := 10) hx hb dX8_beside_61 (by decide) ?_
        obtain ⟨o63, ho63, hf⟩ := ob hf
        refine rS (rest := []) (As := [.int ((jrem a0 11) + y0_2), .int 0, .int 10]) ⟨hx, hb, hml, hown, hts⟩ (mX8_in l dC dI cI cZ cC cO  _ _ _ _ ho63) (va_cwS 3 hts gX8_beside_X8_in rfl rfl rfl (by decide +kernel) ⟨Nat.le_of_ble_eq_true rfl, Nat.le_of_ble_eq_true rfl⟩) hK hN hP [] rfl rfl hl.1 rfl (Nat.le_of_ble_eq_true rfl) dX8_beside_63 ⟨Nat.zero_le _, Nat.zero_le _⟩ ?_
        refine lv_if_eq (tgt := 78) hx hb dX8_beside_66 (by decide) (fun hc => ?_) (fun hc => ?_)
        · have hf := ot hc hf
          refine lv_bipush (v := (-4)) hx hb dX8_beside_78 (by decide) ?_
          obtain rfl := Option.some.inj hf
          exact W.iret (v := (-4)) hx hb hr (fun t ht hW => ⟨_, rfl, rfl, ht⟩) (fun _ h => by cases h) dX8_beside_80
        · have hf := oe hc hf
          refine lv_bipush (v := 11) hx hb dX8_beside_69 (by decide) ?_
          refine lv_iload_n hx hb dX8_beside_71 rfl (lv_at hl 1 rfl) ?_
          refine lv_imul hx hb dX8_beside_72 ?_
          refine lv_iload_n hx hb dX8_beside_73 rfl (lv_at hl 0 rfl) ?_
          refine lv_iadd hx hb dX8_beside_74 ?_
          refine lv_goto (tgt := 80) hx hb dX8_beside_75 (by decide) ?_
          obtain rfl := Option.some.inj hf
          exact W.iret (v := ((11 * ((a0 / 11) + y0_1)) + ((jrem a0 11) + y0_2))) hx hb hr (fun t ht hW => ⟨_, rfl, rfl, ht⟩) (fun _ h => by cases h) dX8_beside_80
    refine lv_icmp_ne (tgt := 37) hx hb dX8_beside_30 (by decide) (fun hc => ?_) (fun hc => ?_)
    · have hf := oe hc hf
      refine lv_iload_n hx hb dX8_beside_37 rfl (lv_at hl 2 rfl) ?_
      refine lv_iconst (v := 3) hx hb dX8_beside_38 (by decide) ?_
      refine lv_icmp_ne (tgt := 46) hx hb dX8_beside_39 (by decide) (fun hc => ?_) (fun hc => ?_)
      · have hf := oe hc hf
        refine lv_iconst (v := 0) hx hb dX8_beside_46 (by decide) ?_
        exact hJ2 _ hf ls (lv_sub hl [0] rfl)
      · have hf := ot hc hf
        refine lv_iconst (v := (-1)) hx hb dX8_beside_42 (by decide) ?_
        refine lv_goto (tgt := 47) hx hb dX8_beside_43 (by decide) ?_
        exact hJ2 _ hf ls (lv_sub hl [0] rfl)
    · have hf := ot hc hf
      refine lv_iconst (v := 1) hx hb dX8_beside_33 (by decide) ?_
      refine lv_goto (tgt := 47) hx hb dX8_beside_34 (by decide) ?_
      exact hJ2 _ hf ls (lv_sub hl [0] rfl)
  refine lv_if_ne (tgt := 12) hx hb dX8_beside_5 (by decide) (fun hc => ?_) (fun hc => ?_)
  · have hf := oe hc hf
    refine lv_iload_n hx hb dX8_beside_12 rfl (lv_at hl 1 rfl) ?_
    refine lv_iconst (v := 2) hx hb dX8_beside_13 (by decide) ?_
    refine lv_icmp_ne (tgt := 21) hx hb dX8_beside_14 (by decide) (fun hc => ?_) (fun hc => ?_)
    · have hf := oe hc hf
      refine lv_iconst (v := 0) hx hb dX8_beside_21 (by decide) ?_
      exact hJ1 _ hf ls (lv_sub hl [0, 1] rfl)
    · have hf := ot hc hf
      refine lv_iconst (v := 1) hx hb dX8_beside_17 (by decide) ?_
      refine lv_goto (tgt := 22) hx hb dX8_beside_18 (by decide) ?_
      exact hJ1 _ hf ls (lv_sub hl [0, 1] rfl)
  · have hf := ot hc hf
    refine lv_iconst (v := (-1)) hx hb dX8_beside_8 (by decide) ?_
    refine lv_goto (tgt := 22) hx hb dX8_beside_9 (by decide) ?_
    exact hJ1 _ hf ls (lv_sub hl [0, 1] rfl)
/-- RimGrainsModel.private static int rimCell(int); -/
def fX8_rimCell (a0 : Int32) : Option (Int32) :=
  (if 11 ≤ a0 then (if 21 ≤ a0 then (if 31 ≤ a0 then some (11 * (40 - a0)) else some (140 - a0)) else some ((11 * (a0 - 10)) + 10)) else some a0)
abbrev rmX8_rimCell : Room := { frames := 0, cells := 0, slots := 0, locals := 0 }
set_option maxHeartbeats 4000000 in
set_option maxRecDepth 100000 in
theorem mX8_rimCell (l : Launch) (dC : Nat → ClassId) (dI : Nat → Nat → Nat) (cI cZ cC cO : ClassId) (a0 : Int32) (out : Int32) (hf : fX8_rimCell a0 = some out) : Met l yX8_rimCell wsX8_rimCell rmX8_rimCell (va_Pc [.int a0] (pcR (dC, dI) (wTys cI cZ cC cO) ([] : va_W))) (vp_Si (fun r => r = out)) 0 0 (fun _ => False) := by
  refine Met.ofW (cc := cX8_rimCell) (maxL := 1) (ret := (some .int)) (by decide) rfl ?_
  intro p e s m args below meth c s₁ B hml hv
  obtain ⟨hargs, hP, hK, hN⟩ := hv
  have hx := B.exec
  have hb := B.bytes
  have hr := B.returns
  have hts := atoms_spec (ws := wsX8_rimCell) B.pre
  have hown : s.vm.findClass RX8 = some m.cls := findClass_of_methodNamed B.named
  have hlocks := B.notSynchronized
  have hE := lg_entry_eq m [.int a0] 1
  rw [← hargs] at hE
  rw [hE]
  have hl := lv_entry [.int a0] (n := 1) (Nat.le_of_ble_eq_true rfl)
  generalize (lg_sl [.int a0] ++ List.replicate (1 - (lg_sl [.int a0]).length) Slot.unset).toArray = ls at hl ⊢
  have hl : lv_has ls 1 [(0, .int a0)] := hl
  unfold fX8_rimCell at hf
  refine lv_iload_n hx hb dX8_rimCell_0 rfl (lv_at hl 0 rfl) ?_
  refine lv_bipush (v := 11) hx hb dX8_rimCell_1 (by decide) ?_
  refine lv_icmp_ge (tgt := 10) hx hb dX8_rimCell_3 (by decide) (fun hc => ?_) (fun hc => ?_)
  · have hf := ot hc hf
    refine lv_iload_n hx hb dX8_rimCell_10 rfl (lv_at hl 0 rfl) ?_
    refine lv_bipush (v := 21) hx hb dX8_rimCell_11 (by decide) ?_
    refine lv_icmp_ge (tgt := 29) hx hb dX8_rimCell_13 (by decide) (fun hc => ?_) (fun hc => ?_)
    · have hf := ot hc hf
      refine lv_iload_n hx hb dX8_rimCell_29 rfl (lv_at hl 0 rfl) ?_
      refine lv_bipush (v := 31) hx hb dX8_rimCell_30 (by decide) ?_
      refine lv_icmp_ge (tgt := 43) hx hb dX8_rimCell_32 (by decide) (fun hc => ?_) (fun hc => ?_)
      · have hf := ot hc hf
        refine lv_bipush (v := 11) hx hb dX8_rimCell_43 (by decide) ?_
        refine lv_bipush (v := 40) hx hb dX8_rimCell_45 (by decide) ?_
        refine lv_iload_n hx hb dX8_rimCell_47 rfl (lv_at hl 0 rfl) ?_
        refine lv_isub hx hb dX8_rimCell_48 ?_
        refine lv_imul hx hb dX8_rimCell_49 ?_
        obtain rfl := Option.some.inj hf
        exact W.iret (v := (11 * (40 - a0))) hx hb hr (fun t ht hW => ⟨_, rfl, rfl, ht⟩) (fun _ h => by cases h) dX8_rimCell_50
      · have hf := oe hc hf
        refine lv_sipush (v := 140) hx hb dX8_rimCell_35 (by decide) ?_
        refine lv_iload_n hx hb dX8_rimCell_38 rfl (lv_at hl 0 rfl) ?_
        refine lv_isub hx hb dX8_rimCell_39 ?_
        refine lv_goto (tgt := 50) hx hb dX8_rimCell_40 (by decide) ?_
        obtain rfl := Option.some.inj hf
        exact W.iret (v := (140 - a0)) hx hb hr (fun t ht hW => ⟨_, rfl, rfl, ht⟩) (fun _ h => by cases h) dX8_rimCell_50
    · have hf := oe hc hf
      refine lv_bipush (v := 11) hx hb dX8_rimCell_16 (by decide) ?_
      refine lv_iload_n hx hb dX8_rimCell_18 rfl (lv_at hl 0 rfl) ?_
      refine lv_bipush (v := 10) hx hb dX8_rimCell_19 (by decide) ?_
      refine lv_isub hx hb dX8_rimCell_21 ?_
      refine lv_imul hx hb dX8_rimCell_22 ?_
      refine lv_bipush (v := 10) hx hb dX8_rimCell_23 (by decide) ?_
      refine lv_iadd hx hb dX8_rimCell_25 ?_
      refine lv_goto (tgt := 50) hx hb dX8_rimCell_26 (by decide) ?_
      obtain rfl := Option.some.inj hf
      exact W.iret (v := ((11 * (a0 - 10)) + 10)) hx hb hr (fun t ht hW => ⟨_, rfl, rfl, ht⟩) (fun _ h => by cases h) dX8_rimCell_50
  · have hf := oe hc hf
    refine lv_iload_n hx hb dX8_rimCell_6 rfl (lv_at hl 0 rfl) ?_
    refine lv_goto (tgt := 50) hx hb dX8_rimCell_7 (by decide) ?_
    obtain rfl := Option.some.inj hf
    exact W.iret (v := a0) hx hb hr (fun t ht hW => ⟨_, rfl, rfl, ht⟩) (fun _ h => by cases h) dX8_rimCell_50
/-- RimGrainsModel.private static int rimOf(int); -/
def jX8_rimOf_1 (s5 : (Int32 × Int32)) (y0_1 : Int32) : Option ((Int32 × Int32) ⊕ (Int32)) :=
  some (.inl (y0_1, (s5.2 + 1)))
def tX8_rimOf_5 (a0 : Int32) (s5 : (Int32 × Int32)) : Option ((Int32 × Int32) ⊕ (Int32)) :=
  (if 40 ≤ s5.2 then some (.inr s5.1) else ((fX8_rimCell s5.2).bind fun o12 => (if o12 = a0 then jX8_rimOf_1 s5 s5.2 else jX8_rimOf_1 s5 s5.1)))
def fX8_rimOf (a0 : Int32) : Option (Int32) :=
  ((lp (tX8_rimOf_5 a0) FU ((-4), 0)).bind fun o5 => some o5)
abbrev rmX8_rimOf : Room := { frames := 1, cells := 0, slots := 0, locals := 20 }
set_option maxHeartbeats 4000000 in
set_option maxRecDepth 100000 in
theorem mX8_rimOf (l : Launch) (dC : Nat → ClassId) (dI : Nat → Nat → Nat) (cI cZ cC cO : ClassId) (a0 : Int32) (out : Int32) (hf : fX8_rimOf a0 = some out) : Met l yX8_rimOf wsX8_rimOf rmX8_rimOf (va_Pc [.int a0] (pcR (dC, dI) (wTys cI cZ cC cO) ([] : va_W))) (vp_Si (fun r => r = out)) 0 0 (fun _ => False) := by
  refine Met.ofW (cc := cX8_rimOf) (maxL := 3) (ret := (some .int)) (by decide) rfl ?_
  intro p e s m args below meth c s₁ B hml hv
  obtain ⟨hargs, hP, hK, hN⟩ := hv
  have hx := B.exec
  have hb := B.bytes
  have hr := B.returns
  have hts := atoms_spec (ws := wsX8_rimOf) B.pre
  have hown : s.vm.findClass RX8 = some m.cls := findClass_of_methodNamed B.named
  have hlocks := B.notSynchronized
  have hE := lg_entry_eq m [.int a0] 3
  rw [← hargs] at hE
  rw [hE]
  have hl := lv_entry [.int a0] (n := 3) (Nat.le_of_ble_eq_true rfl)
  generalize (lg_sl [.int a0] ++ List.replicate (3 - (lg_sl [.int a0]).length) Slot.unset).toArray = ls at hl ⊢
  have hl : lv_has ls 3 [(0, .int a0)] := hl
  unfold fX8_rimOf at hf
  refine lv_bipush (v := (-4)) hx hb dX8_rimOf_0 (by decide) ?_
  refine lv_istore_n (lv' := [(1, .int (-4)), (0, .int a0)]) hx hb dX8_rimOf_2 rfl hl (by decide) rfl (fun ls hl => ?_)
  refine lv_iconst (v := 0) hx hb dX8_rimOf_3 (by decide) ?_
  refine lv_istore_n (lv' := [(2, .int 0), (1, .int (-4)), (0, .int a0)]) hx hb dX8_rimOf_4 rfl hl (by decide) rfl (fun ls hl => ?_)
  have hL5 : ∀ (n : Nat) (s5 : Int32 × Int32) (o5 : Int32), lp (tX8_rimOf_5 a0) n s5 = some o5 → ∀ (ls : Array Slot), lv_has ls 3 [(0, .int a0), (1, .int s5.1), (2, .int s5.2)] → (∀ (ls : Array Slot), lv_has ls 3 [(1, .int o5)] → W p l e (headSpec wsX8_rimOf rmX8_rimOf).room s m args below meth c s.heap [] 0 0 (MQ below (vp_Si (fun r => r = out)) args s 0 0 (fun _ => False)) (F0 m 31 ls [])) → W p l e (headSpec wsX8_rimOf rmX8_rimOf).room s m args below meth c s.heap [] 0 0 (MQ below (vp_Si (fun r => r = out)) args s 0 0 (fun _ => False)) (F0 m 5 ls []) := by
    intro n
    induction n with
    | zero => intro s5 o5 hf; exact (lp0 hf).elim
    | succ n ih5 =>
      intro s5 o5 hf ls hl kx
      obtain ⟨r5, hf, hn⟩ := lps hf
      unfold tX8_rimOf_5 at hf
      refine lv_iload_n hx hb dX8_rimOf_5 rfl (lv_at hl 2 rfl) ?_
      refine lv_bipush (v := 40) hx hb dX8_rimOf_6 (by decide) ?_
      refine lv_icmp_ge (tgt := 31) hx hb dX8_rimOf_8 (by decide) (fun hc => ?_) (fun hc => ?_)
      · have hf := ot hc hf
        obtain rfl := Option.some.inj hf
        obtain rfl := Option.some.inj hn
        exact kx ls (lv_sub hl [1] rfl)
      · have hf := oe hc hf
        refine lv_iload_n hx hb dX8_rimOf_11 rfl (lv_at hl 2 rfl) ?_
        obtain ⟨o12, ho12, hf⟩ := ob hf
        refine rS (rest := []) (As := [.int s5.2]) ⟨hx, hb, hml, hown, hts⟩ (mX8_rimCell l dC dI cI cZ cC cO  _ _ ho12) (va_cwS 1 hts gX8_rimOf_X8_rimCell rfl rfl rfl (by decide +kernel) ⟨Nat.le_of_ble_eq_true rfl, Nat.le_of_ble_eq_true rfl⟩) hK hN hP [] rfl rfl hl.1 rfl (Nat.le_of_ble_eq_true rfl) dX8_rimOf_12 ⟨Nat.zero_le _, Nat.zero_le _⟩ ?_
        refine lv_iload_n hx hb dX8_rimOf_15 rfl (lv_at hl 0 rfl) ?_
        have hJ1 : ∀ (y0_1 : Int32), jX8_rimOf_1 s5 y0_1 = some r5 → ∀ ls : Array Slot, lv_has ls 3 [(0, .int a0), (2, .int s5.2)] → W p l e (headSpec wsX8_rimOf rmX8_rimOf).room s m args below meth c s.heap [] 0 0 (MQ below (vp_Si (fun r => r = out)) args s 0 0 (fun _ => False)) (F0 m 24 ls [.int y0_1]) := by
          intro y0_1 hf ls hl
          unfold jX8_rimOf_1 at hf
          refine lv_istore_n (lv' := [(1, .int y0_1), (0, .int a0), (2, .int s5.2)]) hx hb dX8_rimOf_24 rfl hl (by decide) rfl (fun ls hl => ?_)
          refine lv_iinc (v := (s5.2 + 1)) (lv' := [(2, .int (s5.2 + 1)), (1, .int y0_1), (0, .int a0)]) hx hb dX8_rimOf_25 hl (k := 2) rfl rfl (by decide) rfl (fun ls hl => ?_)
          refine lv_goto (tgt := 5) hx hb dX8_rimOf_28 (by decide) ?_
          obtain rfl := Option.some.inj hf
          exact ih5 _ _ hn ls (lv_sub hl [2, 1, 0] rfl) kx
        refine lv_icmp_ne (tgt := 23) hx hb dX8_rimOf_16 (by decide) (fun hc => ?_) (fun hc => ?_)
        · have hf := oe hc hf
          refine lv_iload_n hx hb dX8_rimOf_23 rfl (lv_at hl 1 rfl) ?_
          exact hJ1 _ hf ls (lv_sub hl [0, 2] rfl)
        · have hf := ot hc hf
          refine lv_iload_n hx hb dX8_rimOf_19 rfl (lv_at hl 2 rfl) ?_
          refine lv_goto (tgt := 24) hx hb dX8_rimOf_20 (by decide) ?_
          exact hJ1 _ hf ls (lv_sub hl [0, 2] rfl)
  obtain ⟨o5, ho5, hf⟩ := ob hf
  refine hL5 FU _ _ ho5 ls (lv_sub hl [2, 1, 0] rfl) (fun ls hl => ?_)
  refine lv_iload_n hx hb dX8_rimOf_31 rfl (lv_at hl 0 rfl) ?_
  obtain rfl := Option.some.inj hf
  exact W.iret (v := o5) hx hb hr (fun t ht hW => ⟨_, rfl, rfl, ht⟩) (fun _ h => by cases h) dX8_rimOf_32
/-- RimGrainsModel.private static boolean isRim(int); -/
def fX8_isRim (a0 : Int32) : Option (Int32) :=
  ((fX8_in a0 0 39).bind fun o4 => (jgz o4 (some o4)))
abbrev rmX8_isRim : Room := { frames := 1, cells := 0, slots := 0, locals := 22 }
set_option maxHeartbeats 4000000 in
set_option maxRecDepth 100000 in
theorem mX8_isRim (l : Launch) (dC : Nat → ClassId) (dI : Nat → Nat → Nat) (cI cZ cC cO : ClassId) (a0 : Int32) (out : Int32) (hf : fX8_isRim a0 = some out) : Met l yX8_isRim wsX8_isRim rmX8_isRim (va_Pc [.int a0] (pcR (dC, dI) (wTys cI cZ cC cO) ([] : va_W))) (vp_Si (fun r => r = out)) 0 0 (fun _ => False) := by
  refine Met.ofW (cc := cX8_isRim) (maxL := 1) (ret := (some .boolean)) (by decide) rfl ?_
  intro p e s m args below meth c s₁ B hml hv
  obtain ⟨hargs, hP, hK, hN⟩ := hv
  have hx := B.exec
  have hb := B.bytes
  have hr := B.returns
  have hts := atoms_spec (ws := wsX8_isRim) B.pre
  have hown : s.vm.findClass RX8 = some m.cls := findClass_of_methodNamed B.named
  have hlocks := B.notSynchronized
  have hE := lg_entry_eq m [.int a0] 1
  rw [← hargs] at hE
  rw [hE]
  have hl := lv_entry [.int a0] (n := 1) (Nat.le_of_ble_eq_true rfl)
  generalize (lg_sl [.int a0] ++ List.replicate (1 - (lg_sl [.int a0]).length) Slot.unset).toArray = ls at hl ⊢
  have hl : lv_has ls 1 [(0, .int a0)] := hl
  unfold fX8_isRim at hf
  refine lv_iload_n hx hb dX8_isRim_0 rfl (lv_at hl 0 rfl) ?_
  refine lv_iconst (v := 0) hx hb dX8_isRim_1 (by decide) ?_
  refine lv_bipush (v := 39) hx hb dX8_isRim_2 (by decide) ?_
  obtain ⟨o4, ho4, hf⟩ := ob hf
  refine rS (rest := []) (As := [.int a0, .int 0, .int 39]) ⟨hx, hb, hml, hown, hts⟩ (mX8_in l dC dI cI cZ cC cO  _ _ _ _ ho4) (va_cwS 3 hts gX8_isRim_X8_in rfl rfl rfl (by decide +kernel) ⟨Nat.le_of_ble_eq_true rfl, Nat.le_of_ble_eq_true rfl⟩) hK hN hP [] rfl rfl hl.1 rfl (Nat.le_of_ble_eq_true rfl) dX8_isRim_4 ⟨Nat.zero_le _, Nat.zero_le _⟩ ?_
  obtain ⟨hz, hf⟩ := ogz hf
  obtain rfl := Option.some.inj hf
  exact W.zret (v := o4) (ty := .boolean) hx hb hr (jz_n hz) (fun t ht hW => ⟨_, rfl, rfl, ht⟩) (fun _ h => by cases h) dX8_isRim_7
/-- RimGrainsModel.private boolean isGrain(int); -/
def fX8_isGrain (a1 : Int32) (g0 : GX8) : Option (Int32) :=
  ((fX8_in a1 0 (((pX8_s g0) (0 : Int32).toNatClampNeg) - 1)).bind fun o10 => (jgz o10 (some o10)))
abbrev rmX8_isGrain : Room := { frames := 1, cells := 0, slots := 0, locals := 22 }
set_option maxHeartbeats 4000000 in
set_option maxRecDepth 100000 in
theorem mX8_isGrain (l : Launch) (dC : Nat → ClassId) (dI : Nat → Nat → Nat) (cI cZ cC cO : ClassId) (q0 : Nat → Nat) (a1 : Int32) (g0 : GX8) (out : Int32) (hf : fX8_isGrain a1 g0 = some out) : Met l yX8_isGrain wsX8_isGrain rmX8_isGrain (va_Pc [.ref (q0 0), .int a1] (pcR (dC, dI) (wTys cI cZ cC cO) (wX8 cI cZ cC q0 g0))) (vp_Si (fun r => r = out)) 0 0 (fun _ => False) := by
  refine Met.ofW (cc := cX8_isGrain) (maxL := 2) (ret := (some .boolean)) (by decide) rfl ?_
  intro p e s m args below meth c s₁ B hml hv
  obtain ⟨hargs, hP, hK, hN⟩ := hv
  have hx := B.exec
  have hb := B.bytes
  have hr := B.returns
  have hts := atoms_spec (ws := wsX8_isGrain) B.pre
  have hown : s.vm.findClass RX8 = some m.cls := findClass_of_methodNamed B.named
  have hlocks := B.notSynchronized
  have hk0 := hts (.fieldLink RX8 7 "RimGrainsModel" "s" "[I") (by decide +kernel)
  have hin8 : ∀ w ∈ wsX80, w ∈ wsX8_isGrain := by decide +kernel
  have hE := lg_entry_eq m [.ref (q0 0), .int a1] 2
  rw [← hargs] at hE
  rw [hE]
  have hl := lv_entry [.ref (q0 0), .int a1] (n := 2) (Nat.le_of_ble_eq_true rfl)
  generalize (lg_sl [.ref (q0 0), .int a1] ++ List.replicate (2 - (lg_sl [.ref (q0 0), .int a1]).length) Slot.unset).toArray = ls at hl ⊢
  have hl : lv_has ls 2 [(0, .ref (q0 0)), (1, .int a1)] := hl
  unfold fX8_isGrain at hf
  refine lv_iload_n hx hb dX8_isGrain_0 rfl (lv_at hl 1 rfl) ?_
  refine lv_iconst (v := 0) hx hb dX8_isGrain_1 (by decide) ?_
  refine lv_aload_n hx hb dX8_isGrain_2 rfl (lv_at hl 0 rfl) ?_
  refine va_get (D := (dC, dI)) (ci := 7) (v := .ref (q0 1)) (C := RX8) (T := TX8) (N := 21) hx hb hts hin8 hown hK hP 0 rfl rfl 0 (by decide) hk0 (fun _ h9 => h9) rfl dX8_isGrain_3 ?_
  refine lv_iconst (v := 0) hx hb dX8_isGrain_6 (by decide) ?_
  have hin : vp_in (0 : Int32) 373 := by unfold vp_in; decide
  refine va_iald hx hb hK hP 1 0 rfl rfl hin dX8_isGrain_7 ?_
  refine lv_iconst (v := 1) hx hb dX8_isGrain_8 (by decide) ?_
  refine lv_isub hx hb dX8_isGrain_9 ?_
  obtain ⟨o10, ho10, hf⟩ := ob hf
  refine rS (rest := []) (As := [.int a1, .int 0, .int (((pX8_s g0) (0 : Int32).toNatClampNeg) - 1)]) ⟨hx, hb, hml, hown, hts⟩ (mX8_in l dC dI cI cZ cC cO  _ _ _ _ ho10) (va_cwS 3 hts gX8_isGrain_X8_in rfl rfl rfl (by decide +kernel) ⟨Nat.le_of_ble_eq_true rfl, Nat.le_of_ble_eq_true rfl⟩) hK hN hP [] rfl rfl hl.1 rfl (Nat.le_of_ble_eq_true rfl) dX8_isGrain_10 ⟨Nat.zero_le _, Nat.zero_le _⟩ ?_
  obtain ⟨hz, hf⟩ := ogz hf
  obtain rfl := Option.some.inj hf
  exact W.zret (v := o10) (ty := .boolean) hx hb hr (jz_n hz) (fun t ht hW => ⟨_, rfl, rfl, ht⟩) (fun _ h => by cases h) dX8_isGrain_13
/-- RimGrainsModel.private int of(int, int); -/
def fX8_of (a1 : Int32) (a2 : Int32) (g0 : GX8) : Option (Int32) :=
  (if ((10 + (3 * a1)) + a2) < 0 ∨ 373 ≤ ((10 + (3 * a1)) + a2).toNatClampNeg then none else some ((pX8_s g0) ((10 + (3 * a1)) + a2).toNatClampNeg))
abbrev rmX8_of : Room := { frames := 0, cells := 0, slots := 0, locals := 0 }
set_option maxHeartbeats 4000000 in
set_option maxRecDepth 100000 in
theorem mX8_of (l : Launch) (dC : Nat → ClassId) (dI : Nat → Nat → Nat) (cI cZ cC cO : ClassId) (q0 : Nat → Nat) (a1 : Int32) (a2 : Int32) (g0 : GX8) (out : Int32) (hf : fX8_of a1 a2 g0 = some out) : Met l yX8_of wsX8_of rmX8_of (va_Pc [.ref (q0 0), .int a1, .int a2] (pcR (dC, dI) (wTys cI cZ cC cO) (wX8 cI cZ cC q0 g0))) (vp_Si (fun r => r = out)) 0 0 (fun _ => False) := by
  refine Met.ofW (cc := cX8_of) (maxL := 3) (ret := (some .int)) (by decide) rfl ?_
  intro p e s m args below meth c s₁ B hml hv
  obtain ⟨hargs, hP, hK, hN⟩ := hv
  have hx := B.exec
  have hb := B.bytes
  have hr := B.returns
  have hts := atoms_spec (ws := wsX8_of) B.pre
  have hown : s.vm.findClass RX8 = some m.cls := findClass_of_methodNamed B.named
  have hlocks := B.notSynchronized
  have hk0 := hts (.fieldLink RX8 7 "RimGrainsModel" "s" "[I") (by decide +kernel)
  have hin8 : ∀ w ∈ wsX80, w ∈ wsX8_of := by decide +kernel
  have hE := lg_entry_eq m [.ref (q0 0), .int a1, .int a2] 3
  rw [← hargs] at hE
  rw [hE]
  have hl := lv_entry [.ref (q0 0), .int a1, .int a2] (n := 3) (Nat.le_of_ble_eq_true rfl)
  generalize (lg_sl [.ref (q0 0), .int a1, .int a2] ++ List.replicate (3 - (lg_sl [.ref (q0 0), .int a1, .int a2]).length) Slot.unset).toArray = ls at hl ⊢
  have hl : lv_has ls 3 [(0, .ref (q0 0)), (1, .int a1), (2, .int a2)] := hl
  unfold fX8_of at hf
  refine lv_aload_n hx hb dX8_of_0 rfl (lv_at hl 0 rfl) ?_
  refine va_get (D := (dC, dI)) (ci := 7) (v := .ref (q0 1)) (C := RX8) (T := TX8) (N := 21) hx hb hts hin8 hown hK hP 0 rfl rfl 0 (by decide) hk0 (fun _ h9 => h9) rfl dX8_of_1 ?_
  refine lv_bipush (v := 10) hx hb dX8_of_4 (by decide) ?_
  refine lv_iconst (v := 3) hx hb dX8_of_6 (by decide) ?_
  refine lv_iload_n hx hb dX8_of_7 rfl (lv_at hl 1 rfl) ?_
  refine lv_imul hx hb dX8_of_8 ?_
  refine lv_iadd hx hb dX8_of_9 ?_
  refine lv_iload_n hx hb dX8_of_10 rfl (lv_at hl 2 rfl) ?_
  refine lv_iadd hx hb dX8_of_11 ?_
  obtain ⟨hin, hf⟩ := og hf
  refine va_iald hx hb hK hP 1 0 rfl rfl hin dX8_of_12 ?_
  obtain rfl := Option.some.inj hf
  exact W.iret (v := ((pX8_s g0) ((10 + (3 * a1)) + a2).toNatClampNeg)) hx hb hr (fun t ht hW => ⟨_, rfl, rfl, ht⟩) (fun _ h => by cases h) dX8_of_13
/-- RimGrainsModel.private int holder(int); -/
def fX8_holder (a1 : Int32) (g0 : GX8) : Option (Int32) :=
  ((fX8_of a1 1 g0).bind fun o3 => some (o3 - 1))
abbrev rmX8_holder : Room := { frames := 1, cells := 0, slots := 0, locals := 22 }
set_option maxHeartbeats 4000000 in
set_option maxRecDepth 100000 in
theorem mX8_holder (l : Launch) (dC : Nat → ClassId) (dI : Nat → Nat → Nat) (cI cZ cC cO : ClassId) (q0 : Nat → Nat) (a1 : Int32) (g0 : GX8) (out : Int32) (hf : fX8_holder a1 g0 = some out) : Met l yX8_holder wsX8_holder rmX8_holder (va_Pc [.ref (q0 0), .int a1] (pcR (dC, dI) (wTys cI cZ cC cO) (wX8 cI cZ cC q0 g0))) (vp_Si (fun r => r = out)) 0 0 (fun _ => False) := by
  refine Met.ofW (cc := cX8_holder) (maxL := 2) (ret := (some .int)) (by decide) rfl ?_
  intro p e s m args below meth c s₁ B hml hv
  obtain ⟨hargs, hP, hK, hN⟩ := hv
  have hx := B.exec
  have hb := B.bytes
  have hr := B.returns
  have hts := atoms_spec (ws := wsX8_holder) B.pre
  have hown : s.vm.findClass RX8 = some m.cls := findClass_of_methodNamed B.named
  have hlocks := B.notSynchronized
  have hE := lg_entry_eq m [.ref (q0 0), .int a1] 2
  rw [← hargs] at hE
  rw [hE]
  have hl := lv_entry [.ref (q0 0), .int a1] (n := 2) (Nat.le_of_ble_eq_true rfl)
  generalize (lg_sl [.ref (q0 0), .int a1] ++ List.replicate (2 - (lg_sl [.ref (q0 0), .int a1]).length) Slot.unset).toArray = ls at hl ⊢
  have hl : lv_has ls 2 [(0, .ref (q0 0)), (1, .int a1)] := hl
  unfold fX8_holder at hf
  refine lv_aload_n hx hb dX8_holder_0 rfl (lv_at hl 0 rfl) ?_
  refine lv_iload_n hx hb dX8_holder_1 rfl (lv_at hl 1 rfl) ?_
  refine lv_iconst (v := 1) hx hb dX8_holder_2 (by decide) ?_
  obtain ⟨o3, ho3, hf⟩ := ob hf
  refine rV (rest := []) (As := [.int a1, .int 1]) ⟨hx, hb, hml, hown, hts⟩ (mX8_of l dC dI cI cZ cC cO q0 _ _ _ _ ho3) (cwV 2 hts gX8_holder_X8_of rfl rfl rfl (by decide +kernel) ⟨Nat.le_of_ble_eq_true rfl, Nat.le_of_ble_eq_true rfl⟩) hK hN hP [0, 1, 2, 3, 4, 5, 6, 7, 8] rfl 7 rfl rfl rfl rfl hl.1 rfl (Nat.le_of_ble_eq_true rfl) dX8_holder_3 ⟨Nat.zero_le _, Nat.zero_le _⟩ ?_
  refine lv_iconst (v := 1) hx hb dX8_holder_6 (by decide) ?_
  refine lv_isub hx hb dX8_holder_7 ?_
  obtain rfl := Option.some.inj hf
  exact W.iret (v := (o3 - 1)) hx hb hr (fun t ht hW => ⟨_, rfl, rfl, ht⟩) (fun _ h => by cases h) dX8_holder_8
/-- RimGrainsModel.private int grainAt(int); -/
def jX8_grainAt_1 (s5 : (Int32 × Int32)) (y0_1 : Int32) : Option ((Int32 × Int32) ⊕ (Int32)) :=
  some (.inl (y0_1, (s5.2 + 1)))
def tX8_grainAt_5 (a1 : Int32) (g0 : GX8) (s5 : (Int32 × Int32)) : Option ((Int32 × Int32) ⊕ (Int32)) :=
  (if ((pX8_s g0) (0 : Int32).toNatClampNeg) ≤ s5.2 then some (.inr s5.1) else ((fX8_of s5.2 0 g0).bind fun o18 => (if o18 = a1 then jX8_grainAt_1 s5 s5.2 else jX8_grainAt_1 s5 s5.1)))
def fX8_grainAt (a1 : Int32) (g0 : GX8) : Option (Int32) :=
  ((lp (tX8_grainAt_5 a1 g0) FU ((-4), 0)).bind fun o5 => some o5)
abbrev rmX8_grainAt : Room := { frames := 1, cells := 0, slots := 0, locals := 22 }
set_option maxHeartbeats 4000000 in
set_option maxRecDepth 100000 in
theorem mX8_grainAt (l : Launch) (dC : Nat → ClassId) (dI : Nat → Nat → Nat) (cI cZ cC cO : ClassId) (q0 : Nat → Nat) (a1 : Int32) (g0 : GX8) (out : Int32) (hf : fX8_grainAt a1 g0 = some out) : Met l yX8_grainAt wsX8_grainAt rmX8_grainAt (va_Pc [.ref (q0 0), .int a1] (pcR (dC, dI) (wTys cI cZ cC cO) (wX8 cI cZ cC q0 g0))) (vp_Si (fun r => r = out)) 0 0 (fun _ => False) := by
  refine Met.ofW (cc := cX8_grainAt) (maxL := 4) (ret := (some .int)) (by decide) rfl ?_
  intro p e s m args below meth c s₁ B hml hv
  obtain ⟨hargs, hP, hK, hN⟩ := hv
  have hx := B.exec
  have hb := B.bytes
  have hr := B.returns
  have hts := atoms_spec (ws := wsX8_grainAt) B.pre
  have hown : s.vm.findClass RX8 = some m.cls := findClass_of_methodNamed B.named
  have hlocks := B.notSynchronized
  have hk0 := hts (.fieldLink RX8 7 "RimGrainsModel" "s" "[I") (by decide +kernel)
  have hin8 : ∀ w ∈ wsX80, w ∈ wsX8_grainAt := by decide +kernel
  have hE := lg_entry_eq m [.ref (q0 0), .int a1] 4
  rw [← hargs] at hE
  rw [hE]
  have hl := lv_entry [.ref (q0 0), .int a1] (n := 4) (Nat.le_of_ble_eq_true rfl)
  generalize (lg_sl [.ref (q0 0), .int a1] ++ List.replicate (4 - (lg_sl [.ref (q0 0), .int a1]).length) Slot.unset).toArray = ls at hl ⊢
  have hl : lv_has ls 4 [(0, .ref (q0 0)), (1, .int a1)] := hl
  unfold fX8_grainAt at hf
  refine lv_bipush (v := (-4)) hx hb dX8_grainAt_0 (by decide) ?_
  refine lv_istore_n (lv' := [(2, .int (-4)), (0, .ref (q0 0)), (1, .int a1)]) hx hb dX8_grainAt_2 rfl hl (by decide) rfl (fun ls hl => ?_)
  refine lv_iconst (v := 0) hx hb dX8_grainAt_3 (by decide) ?_
  refine lv_istore_n (lv' := [(3, .int 0), (2, .int (-4)), (0, .ref (q0 0)), (1, .int a1)]) hx hb dX8_grainAt_4 rfl hl (by decide) rfl (fun ls hl => ?_)
  have hL5 : ∀ (n : Nat) (s5 : Int32 × Int32) (o5 : Int32), lp (tX8_grainAt_5 a1 g0) n s5 = some o5 → ∀ (ls : Array Slot), lv_has ls 4 [(0, .ref (q0 0)), (1, .int a1), (2, .int s5.1), (3, .int s5.2)] → (∀ (ls : Array Slot), lv_has ls 4 [(2, .int o5)] → W p l e (headSpec wsX8_grainAt rmX8_grainAt).room s m args below meth c s.heap [] 0 0 (MQ below (vp_Si (fun r => r = out)) args s 0 0 (fun _ => False)) (F0 m 37 ls [])) → W p l e (headSpec wsX8_grainAt rmX8_grainAt).room s m args below meth c s.heap [] 0 0 (MQ below (vp_Si (fun r => r = out)) args s 0 0 (fun _ => False)) (F0 m 5 ls []) := by
    intro n
    induction n with
    | zero => intro s5 o5 hf; exact (lp0 hf).elim
    | succ n ih5 =>
      intro s5 o5 hf ls hl kx
      obtain ⟨r5, hf, hn⟩ := lps hf
      unfold tX8_grainAt_5 at hf
      refine lv_iload_n hx hb dX8_grainAt_5 rfl (lv_at hl 3 rfl) ?_
      refine lv_aload_n hx hb dX8_grainAt_6 rfl (lv_at hl 0 rfl) ?_
      refine va_get (D := (dC, dI)) (ci := 7) (v := .ref (q0 1)) (C := RX8) (T := TX8) (N := 21) hx hb hts hin8 hown hK hP 0 rfl rfl 0 (by decide) hk0 (fun _ h9 => h9) rfl dX8_grainAt_7 ?_
      refine lv_iconst (v := 0) hx hb dX8_grainAt_10 (by decide) ?_
      have hin : vp_in (0 : Int32) 373 := by unfold vp_in; decide
      refine va_iald hx hb hK hP 1 0 rfl rfl hin dX8_grainAt_11 ?_
      refine lv_icmp_ge (tgt := 37) hx hb dX8_grainAt_12 (by decide) (fun hc => ?_) (fun hc => ?_)
      · have hf := ot hc hf
        obtain rfl := Option.some.inj hf
        obtain rfl := Option.some.inj hn
        exact kx ls (lv_sub hl [2] rfl)
      · have hf := oe hc hf
        refine lv_aload_n hx hb dX8_grainAt_15 rfl (lv_at hl 0 rfl) ?_
        refine lv_iload_n hx hb dX8_grainAt_16 rfl (lv_at hl 3 rfl) ?_
        refine lv_iconst (v := 0) hx hb dX8_grainAt_17 (by decide) ?_
        obtain ⟨o18, ho18, hf⟩ := ob hf
        refine rV (rest := []) (As := [.int s5.2, .int 0]) ⟨hx, hb, hml, hown, hts⟩ (mX8_of l dC dI cI cZ cC cO q0 _ _ _ _ ho18) (cwV 2 hts gX8_grainAt_X8_of rfl rfl rfl (by decide +kernel) ⟨Nat.le_of_ble_eq_true rfl, Nat.le_of_ble_eq_true rfl⟩) hK hN hP [0, 1, 2, 3, 4, 5, 6, 7, 8] rfl 7 rfl rfl rfl rfl hl.1 rfl (Nat.le_of_ble_eq_true rfl) dX8_grainAt_18 ⟨Nat.zero_le _, Nat.zero_le _⟩ ?_
        refine lv_iload_n hx hb dX8_grainAt_21 rfl (lv_at hl 1 rfl) ?_
        have hJ1 : ∀ (y0_1 : Int32), jX8_grainAt_1 s5 y0_1 = some r5 → ∀ ls : Array Slot, lv_has ls 4 [(0, .ref (q0 0)), (1, .int a1), (3, .int s5.2)] → W p l e (headSpec wsX8_grainAt rmX8_grainAt).room s m args below meth c s.heap [] 0 0 (MQ below (vp_Si (fun r => r = out)) args s 0 0 (fun _ => False)) (F0 m 30 ls [.int y0_1]) := by
          intro y0_1 hf ls hl
          unfold jX8_grainAt_1 at hf
          refine lv_istore_n (lv' := [(2, .int y0_1), (0, .ref (q0 0)), (1, .int a1), (3, .int s5.2)]) hx hb dX8_grainAt_30 rfl hl (by decide) rfl (fun ls hl => ?_)
          refine lv_iinc (v := (s5.2 + 1)) (lv' := [(3, .int (s5.2 + 1)), (2, .int y0_1), (0, .ref (q0 0)), (1, .int a1)]) hx hb dX8_grainAt_31 hl (k := 3) rfl rfl (by decide) rfl (fun ls hl => ?_)
          refine lv_goto (tgt := 5) hx hb dX8_grainAt_34 (by decide) ?_
          obtain rfl := Option.some.inj hf
          exact ih5 _ _ hn ls (lv_sub hl [2, 3, 1, 0] rfl) kx
        refine lv_icmp_ne (tgt := 29) hx hb dX8_grainAt_22 (by decide) (fun hc => ?_) (fun hc => ?_)
        · have hf := oe hc hf
          refine lv_iload_n hx hb dX8_grainAt_29 rfl (lv_at hl 2 rfl) ?_
          exact hJ1 _ hf ls (lv_sub hl [0, 1, 3] rfl)
        · have hf := ot hc hf
          refine lv_iload_n hx hb dX8_grainAt_25 rfl (lv_at hl 3 rfl) ?_
          refine lv_goto (tgt := 30) hx hb dX8_grainAt_26 (by decide) ?_
          exact hJ1 _ hf ls (lv_sub hl [0, 1, 3] rfl)
  obtain ⟨o5, ho5, hf⟩ := ob hf
  refine hL5 FU _ _ ho5 ls (lv_sub hl [2, 3, 1, 0] rfl) (fun ls hl => ?_)
  refine lv_iload_n hx hb dX8_grainAt_37 rfl (lv_at hl 0 rfl) ?_
  obtain rfl := Option.some.inj hf
  exact W.iret (v := o5) hx hb hr (fun t ht hW => ⟨_, rfl, rfl, ht⟩) (fun _ h => by cases h) dX8_grainAt_38
/-- RimGrainsModel.private int grainBeside(int); -/
def jX8_grainBeside_2 (s5 : (Int32 × Int32)) (y0_2 : Int32) : Option ((Int32 × Int32) ⊕ (Int32)) :=
  some (.inl (y0_2, (s5.2 + (-1))))
def jX8_grainBeside_1 (s5 : (Int32 × Int32)) (y0_1 : Int32) : Option ((Int32 × Int32) ⊕ (Int32)) :=
  (if 0 ≤ y0_1 then jX8_grainBeside_2 s5 y0_1 else jX8_grainBeside_2 s5 s5.1)
def tX8_grainBeside_5 (a1 : Int32) (g0 : GX8) (s5 : (Int32 × Int32)) : Option ((Int32 × Int32) ⊕ (Int32)) :=
  (if s5.2 < 0 then some (.inr s5.1) else ((fX8_beside a1 s5.2).bind fun o11 => (if 0 ≤ o11 then ((fX8_grainAt o11 g0).bind fun o29 => jX8_grainBeside_1 s5 o29) else jX8_grainBeside_1 s5 (-4))))
def fX8_grainBeside (a1 : Int32) (g0 : GX8) : Option (Int32) :=
  ((lp (tX8_grainBeside_5 a1 g0) FU ((-4), 3)).bind fun o5 => some o5)
abbrev rmX8_grainBeside : Room := { frames := 2, cells := 0, slots := 0, locals := 45 }
set_option maxHeartbeats 4000000 in
set_option maxRecDepth 100000 in
theorem mX8_grainBeside (l : Launch) (dC : Nat → ClassId) (dI : Nat → Nat → Nat) (cI cZ cC cO : ClassId) (q0 : Nat → Nat) (a1 : Int32) (g0 : GX8) (out : Int32) (hf : fX8_grainBeside a1 g0 = some out) : Met l yX8_grainBeside wsX8_grainBeside rmX8_grainBeside (va_Pc [.ref (q0 0), .int a1] (pcR (dC, dI) (wTys cI cZ cC cO) (wX8 cI cZ cC q0 g0))) (vp_Si (fun r => r = out)) 0 0 (fun _ => False) := by
  refine Met.ofW (cc := cX8_grainBeside) (maxL := 6) (ret := (some .int)) (by decide) rfl ?_
  intro p e s m args below meth c s₁ B hml hv
  obtain ⟨hargs, hP, hK, hN⟩ := hv
  have hx := B.exec
  have hb := B.bytes
  have hr := B.returns
  have hts := atoms_spec (ws := wsX8_grainBeside) B.pre
  have hown : s.vm.findClass RX8 = some m.cls := findClass_of_methodNamed B.named
  have hlocks := B.notSynchronized
  have hE := lg_entry_eq m [.ref (q0 0), .int a1] 6
  rw [← hargs] at hE
  rw [hE]
  have hl := lv_entry [.ref (q0 0), .int a1] (n := 6) (Nat.le_of_ble_eq_true rfl)
  generalize (lg_sl [.ref (q0 0), .int a1] ++ List.replicate (6 - (lg_sl [.ref (q0 0), .int a1]).length) Slot.unset).toArray = ls at hl ⊢
  have hl : lv_has ls 6 [(0, .ref (q0 0)), (1, .int a1)] := hl
  unfold fX8_grainBeside at hf
  refine lv_bipush (v := (-4)) hx hb dX8_grainBeside_0 (by decide) ?_
  refine lv_istore_n (lv' := [(2, .int (-4)), (0, .ref (q0 0)), (1, .int a1)]) hx hb dX8_grainBeside_2 rfl hl (by decide) rfl (fun ls hl => ?_)
  refine lv_iconst (v := 3) hx hb dX8_grainBeside_3 (by decide) ?_
  refine lv_istore_n (lv' := [(3, .int 3), (2, .int (-4)), (0, .ref (q0 0)), (1, .int a1)]) hx hb dX8_grainBeside_4 rfl hl (by decide) rfl (fun ls hl => ?_)
  have hL5 : ∀ (n : Nat) (s5 : Int32 × Int32) (o5 : Int32), lp (tX8_grainBeside_5 a1 g0) n s5 = some o5 → ∀ (ls : Array Slot), lv_has ls 6 [(0, .ref (q0 0)), (1, .int a1), (2, .int s5.1), (3, .int s5.2)] → (∀ (ls : Array Slot), lv_has ls 6 [(2, .int o5)] → W p l e (headSpec wsX8_grainBeside rmX8_grainBeside).room s m args below meth c s.heap [] 0 0 (MQ below (vp_Si (fun r => r = out)) args s 0 0 (fun _ => False)) (F0 m 52 ls [])) → W p l e (headSpec wsX8_grainBeside rmX8_grainBeside).room s m args below meth c s.heap [] 0 0 (MQ below (vp_Si (fun r => r = out)) args s 0 0 (fun _ => False)) (F0 m 5 ls []) := by
    intro n
    induction n with
    | zero => intro s5 o5 hf; exact (lp0 hf).elim
    | succ n ih5 =>
      intro s5 o5 hf ls hl kx
      obtain ⟨r5, hf, hn⟩ := lps hf
      unfold tX8_grainBeside_5 at hf
      refine lv_iload_n hx hb dX8_grainBeside_5 rfl (lv_at hl 3 rfl) ?_
      refine lv_if_lt (tgt := 52) hx hb dX8_grainBeside_6 (by decide) (fun hc => ?_) (fun hc => ?_)
      · have hf := ot hc hf
        obtain rfl := Option.some.inj hf
        obtain rfl := Option.some.inj hn
        exact kx ls (lv_sub hl [2] rfl)
      · have hf := oe hc hf
        refine lv_iload_n hx hb dX8_grainBeside_9 rfl (lv_at hl 1 rfl) ?_
        refine lv_iload_n hx hb dX8_grainBeside_10 rfl (lv_at hl 3 rfl) ?_
        obtain ⟨o11, ho11, hf⟩ := ob hf
        refine rS (rest := []) (As := [.int a1, .int s5.2]) ⟨hx, hb, hml, hown, hts⟩ (mX8_beside l dC dI cI cZ cC cO  _ _ _ ho11) (va_cwS 2 hts gX8_grainBeside_X8_beside rfl rfl rfl (by decide +kernel) ⟨Nat.le_of_ble_eq_true rfl, Nat.le_of_ble_eq_true rfl⟩) hK hN hP [] rfl rfl hl.1 rfl (Nat.le_of_ble_eq_true rfl) dX8_grainBeside_11 ⟨Nat.zero_le _, Nat.zero_le _⟩ ?_
        refine lv_istore (lv' := [(4, .int o11), (0, .ref (q0 0)), (1, .int a1), (2, .int s5.1), (3, .int s5.2)]) hx hb dX8_grainBeside_14 hl (by decide) rfl (fun ls hl => ?_)
        refine lv_iload hx hb dX8_grainBeside_16 (lv_at hl 0 rfl) ?_
        have hJ1 : ∀ (y0_1 : Int32), jX8_grainBeside_1 s5 y0_1 = some r5 → ∀ ls : Array Slot, lv_has ls 6 [(0, .ref (q0 0)), (1, .int a1), (2, .int s5.1), (3, .int s5.2)] → W p l e (headSpec wsX8_grainBeside rmX8_grainBeside).room s m args below meth c s.heap [] 0 0 (MQ below (vp_Si (fun r => r = out)) args s 0 0 (fun _ => False)) (F0 m 32 ls [.int y0_1]) := by
          intro y0_1 hf ls hl
          unfold jX8_grainBeside_1 at hf
          refine lv_istore (lv' := [(5, .int y0_1), (0, .ref (q0 0)), (1, .int a1), (2, .int s5.1), (3, .int s5.2)]) hx hb dX8_grainBeside_32 hl (by decide) rfl (fun ls hl => ?_)
          refine lv_iload hx hb dX8_grainBeside_34 (lv_at hl 0 rfl) ?_
          have hJ2 : ∀ (y0_2 : Int32), jX8_grainBeside_2 s5 y0_2 = some r5 → ∀ ls : Array Slot, lv_has ls 6 [(0, .ref (q0 0)), (1, .int a1), (3, .int s5.2)] → W p l e (headSpec wsX8_grainBeside rmX8_grainBeside).room s m args below meth c s.heap [] 0 0 (MQ below (vp_Si (fun r => r = out)) args s 0 0 (fun _ => False)) (F0 m 45 ls [.int y0_2]) := by
            intro y0_2 hf ls hl
            unfold jX8_grainBeside_2 at hf
            refine lv_istore_n (lv' := [(2, .int y0_2), (0, .ref (q0 0)), (1, .int a1), (3, .int s5.2)]) hx hb dX8_grainBeside_45 rfl hl (by decide) rfl (fun ls hl => ?_)
            refine lv_iinc (v := (s5.2 + (-1))) (lv' := [(3, .int (s5.2 + (-1))), (2, .int y0_2), (0, .ref (q0 0)), (1, .int a1)]) hx hb dX8_grainBeside_46 hl (k := 3) rfl rfl (by decide) rfl (fun ls hl => ?_)
            refine lv_goto (tgt := 5) hx hb dX8_grainBeside_49 (by decide) ?_
            obtain rfl := Option.some.inj hf
            exact ih5 _ _ hn ls (lv_sub hl [2, 3, 1, 0] rfl) kx
          refine lv_if_ge (tgt := 43) hx hb dX8_grainBeside_36 (by decide) (fun hc => ?_) (fun hc => ?_)
          · have hf := ot hc hf
            refine lv_iload hx hb dX8_grainBeside_43 (lv_at hl 0 rfl) ?_
            exact hJ2 _ hf ls (lv_sub hl [1, 2, 4] rfl)
          · have hf := oe hc hf
            refine lv_iload_n hx hb dX8_grainBeside_39 rfl (lv_at hl 3 rfl) ?_
            refine lv_goto (tgt := 45) hx hb dX8_grainBeside_40 (by decide) ?_
            exact hJ2 _ hf ls (lv_sub hl [1, 2, 4] rfl)
        refine lv_if_ge (tgt := 26) hx hb dX8_grainBeside_18 (by decide) (fun hc => ?_) (fun hc => ?_)
        · have hf := ot hc hf
          refine lv_aload_n hx hb dX8_grainBeside_26 rfl (lv_at hl 1 rfl) ?_
          refine lv_iload hx hb dX8_grainBeside_27 (lv_at hl 0 rfl) ?_
          obtain ⟨o29, ho29, hf⟩ := ob hf
          refine rV (rest := []) (As := [.int o11]) ⟨hx, hb, hml, hown, hts⟩ (mX8_grainAt l dC dI cI cZ cC cO q0 _ _ _ ho29) (cwV 1 hts gX8_grainBeside_X8_grainAt rfl rfl rfl (by decide +kernel) ⟨Nat.le_of_ble_eq_true rfl, Nat.le_of_ble_eq_true rfl⟩) hK hN hP [0, 1, 2, 3, 4, 5, 6, 7, 8] rfl 7 rfl rfl rfl rfl hl.1 rfl (Nat.le_of_ble_eq_true rfl) dX8_grainBeside_29 ⟨Nat.zero_le _, Nat.zero_le _⟩ ?_
          exact hJ1 _ hf ls (lv_sub hl [1, 2, 3, 4] rfl)
        · have hf := oe hc hf
          refine lv_bipush (v := (-4)) hx hb dX8_grainBeside_21 (by decide) ?_
          refine lv_goto (tgt := 32) hx hb dX8_grainBeside_23 (by decide) ?_
          exact hJ1 _ hf ls (lv_sub hl [1, 2, 3, 4] rfl)
  obtain ⟨o5, ho5, hf⟩ := ob hf
  refine hL5 FU _ _ ho5 ls (lv_sub hl [2, 3, 1, 0] rfl) (fun ls hl => ?_)
  refine lv_iload_n hx hb dX8_grainBeside_52 rfl (lv_at hl 0 rfl) ?_
  obtain rfl := Option.some.inj hf
  exact W.iret (v := o5) hx hb hr (fun t ht hW => ⟨_, rfl, rfl, ht⟩) (fun _ h => by cases h) dX8_grainBeside_53
/-- RimGrainsModel.private int besides(int); -/
def jX8_besides_1 (s4 : (Int32 × Int32)) (y0_1 : Int32) : Option ((Int32 × Int32) ⊕ (Int32)) :=
  some (.inl ((s4.1 + y0_1), (s4.2 + 1)))
def jX8_besides_2 (s4 : (Int32 × Int32)) : Option ((Int32 × Int32) ⊕ (Int32)) :=
  jX8_besides_1 s4 0
def tX8_besides_4 (a1 : Int32) (g0 : GX8) (s4 : (Int32 × Int32)) : Option ((Int32 × Int32) ⊕ (Int32)) :=
  (if 4 ≤ s4.2 then some (.inr s4.1) else ((fX8_beside a1 s4.2).bind fun o11 => (if o11 < 0 then jX8_besides_2 s4 else ((fX8_grainAt o11 g0).bind fun o25 => (if o25 < 0 then jX8_besides_2 s4 else jX8_besides_1 s4 1)))))
def fX8_besides (a1 : Int32) (g0 : GX8) : Option (Int32) :=
  ((lp (tX8_besides_4 a1 g0) FU (0, 0)).bind fun o4 => some o4)
abbrev rmX8_besides : Room := { frames := 2, cells := 0, slots := 0, locals := 45 }
set_option maxHeartbeats 4000000 in
set_option maxRecDepth 100000 in
theorem mX8_besides (l : Launch) (dC : Nat → ClassId) (dI : Nat → Nat → Nat) (cI cZ cC cO : ClassId) (q0 : Nat → Nat) (a1 : Int32) (g0 : GX8) (out : Int32) (hf : fX8_besides a1 g0 = some out) : Met l yX8_besides wsX8_besides rmX8_besides (va_Pc [.ref (q0 0), .int a1] (pcR (dC, dI) (wTys cI cZ cC cO) (wX8 cI cZ cC q0 g0))) (vp_Si (fun r => r = out)) 0 0 (fun _ => False) := by
  refine Met.ofW (cc := cX8_besides) (maxL := 5) (ret := (some .int)) (by decide) rfl ?_
  intro p e s m args below meth c s₁ B hml hv
  obtain ⟨hargs, hP, hK, hN⟩ := hv
  have hx := B.exec
  have hb := B.bytes
  have hr := B.returns
  have hts := atoms_spec (ws := wsX8_besides) B.pre
  have hown : s.vm.findClass RX8 = some m.cls := findClass_of_methodNamed B.named
  have hlocks := B.notSynchronized
  have hE := lg_entry_eq m [.ref (q0 0), .int a1] 5
  rw [← hargs] at hE
  rw [hE]
  have hl := lv_entry [.ref (q0 0), .int a1] (n := 5) (Nat.le_of_ble_eq_true rfl)
  generalize (lg_sl [.ref (q0 0), .int a1] ++ List.replicate (5 - (lg_sl [.ref (q0 0), .int a1]).length) Slot.unset).toArray = ls at hl ⊢
  have hl : lv_has ls 5 [(0, .ref (q0 0)), (1, .int a1)] := hl
  unfold fX8_besides at hf
  refine lv_iconst (v := 0) hx hb dX8_besides_0 (by decide) ?_
  refine lv_istore_n (lv' := [(2, .int 0), (0, .ref (q0 0)), (1, .int a1)]) hx hb dX8_besides_1 rfl hl (by decide) rfl (fun ls hl => ?_)
  refine lv_iconst (v := 0) hx hb dX8_besides_2 (by decide) ?_
  refine lv_istore_n (lv' := [(3, .int 0), (2, .int 0), (0, .ref (q0 0)), (1, .int a1)]) hx hb dX8_besides_3 rfl hl (by decide) rfl (fun ls hl => ?_)
  have hL4 : ∀ (n : Nat) (s4 : Int32 × Int32) (o4 : Int32), lp (tX8_besides_4 a1 g0) n s4 = some o4 → ∀ (ls : Array Slot), lv_has ls 5 [(0, .ref (q0 0)), (1, .int a1), (2, .int s4.1), (3, .int s4.2)] → (∀ (ls : Array Slot), lv_has ls 5 [(2, .int o4)] → W p l e (headSpec wsX8_besides rmX8_besides).room s m args below meth c s.heap [] 0 0 (MQ below (vp_Si (fun r => r = out)) args s 0 0 (fun _ => False)) (F0 m 44 ls [])) → W p l e (headSpec wsX8_besides rmX8_besides).room s m args below meth c s.heap [] 0 0 (MQ below (vp_Si (fun r => r = out)) args s 0 0 (fun _ => False)) (F0 m 4 ls []) := by
    intro n
    induction n with
    | zero => intro s4 o4 hf; exact (lp0 hf).elim
    | succ n ih4 =>
      intro s4 o4 hf ls hl kx
      obtain ⟨r4, hf, hn⟩ := lps hf
      unfold tX8_besides_4 at hf
      refine lv_iload_n hx hb dX8_besides_4 rfl (lv_at hl 3 rfl) ?_
      refine lv_iconst (v := 4) hx hb dX8_besides_5 (by decide) ?_
      refine lv_icmp_ge (tgt := 44) hx hb dX8_besides_6 (by decide) (fun hc => ?_) (fun hc => ?_)
      · have hf := ot hc hf
        obtain rfl := Option.some.inj hf
        obtain rfl := Option.some.inj hn
        exact kx ls (lv_sub hl [2] rfl)
      · have hf := oe hc hf
        refine lv_iload_n hx hb dX8_besides_9 rfl (lv_at hl 1 rfl) ?_
        refine lv_iload_n hx hb dX8_besides_10 rfl (lv_at hl 3 rfl) ?_
        obtain ⟨o11, ho11, hf⟩ := ob hf
        refine rS (rest := []) (As := [.int a1, .int s4.2]) ⟨hx, hb, hml, hown, hts⟩ (mX8_beside l dC dI cI cZ cC cO  _ _ _ ho11) (va_cwS 2 hts gX8_besides_X8_beside rfl rfl rfl (by decide +kernel) ⟨Nat.le_of_ble_eq_true rfl, Nat.le_of_ble_eq_true rfl⟩) hK hN hP [] rfl rfl hl.1 rfl (Nat.le_of_ble_eq_true rfl) dX8_besides_11 ⟨Nat.zero_le _, Nat.zero_le _⟩ ?_
        refine lv_istore (lv' := [(4, .int o11), (0, .ref (q0 0)), (1, .int a1), (2, .int s4.1), (3, .int s4.2)]) hx hb dX8_besides_14 hl (by decide) rfl (fun ls hl => ?_)
        refine lv_iload_n hx hb dX8_besides_16 rfl (lv_at hl 3 rfl) ?_
        refine lv_iload hx hb dX8_besides_17 (lv_at hl 0 rfl) ?_
        have hJ1 : ∀ (y0_1 : Int32), jX8_besides_1 s4 y0_1 = some r4 → ∀ ls : Array Slot, lv_has ls 5 [(0, .ref (q0 0)), (1, .int a1), (3, .int s4.2)] → W p l e (headSpec wsX8_besides rmX8_besides).room s m args below meth c s.heap [] 0 0 (MQ below (vp_Si (fun r => r = out)) args s 0 0 (fun _ => False)) (F0 m 36 ls [.int y0_1, .int s4.1]) := by
          intro y0_1 hf ls hl
          unfold jX8_besides_1 at hf
          refine lv_iadd hx hb dX8_besides_36 ?_
          refine lv_istore_n (lv' := [(2, .int (s4.1 + y0_1)), (0, .ref (q0 0)), (1, .int a1), (3, .int s4.2)]) hx hb dX8_besides_37 rfl hl (by decide) rfl (fun ls hl => ?_)
          refine lv_iinc (v := (s4.2 + 1)) (lv' := [(3, .int (s4.2 + 1)), (2, .int (s4.1 + y0_1)), (0, .ref (q0 0)), (1, .int a1)]) hx hb dX8_besides_38 hl (k := 3) rfl rfl (by decide) rfl (fun ls hl => ?_)
          refine lv_goto (tgt := 4) hx hb dX8_besides_41 (by decide) ?_
          obtain rfl := Option.some.inj hf
          exact ih4 _ _ hn ls (lv_sub hl [2, 3, 1, 0] rfl) kx
        have hJ2 : jX8_besides_2 s4 = some r4 → ∀ ls : Array Slot, lv_has ls 5 [(0, .ref (q0 0)), (1, .int a1), (3, .int s4.2)] → W p l e (headSpec wsX8_besides rmX8_besides).room s m args below meth c s.heap [] 0 0 (MQ below (vp_Si (fun r => r = out)) args s 0 0 (fun _ => False)) (F0 m 35 ls [.int s4.1]) := by
          intro  hf ls hl
          unfold jX8_besides_2 at hf
          refine lv_iconst (v := 0) hx hb dX8_besides_35 (by decide) ?_
          exact hJ1 _ hf ls (lv_sub hl [0, 1, 2] rfl)
        refine lv_if_lt (tgt := 35) hx hb dX8_besides_19 (by decide) (fun hc => ?_) (fun hc => ?_)
        · have hf := ot hc hf
          exact hJ2 hf ls (lv_sub hl [1, 2, 4] rfl)
        · have hf := oe hc hf
          refine lv_aload_n hx hb dX8_besides_22 rfl (lv_at hl 1 rfl) ?_
          refine lv_iload hx hb dX8_besides_23 (lv_at hl 0 rfl) ?_
          obtain ⟨o25, ho25, hf⟩ := ob hf
          refine rV (rest := [.int s4.1]) (As := [.int o11]) ⟨hx, hb, hml, hown, hts⟩ (mX8_grainAt l dC dI cI cZ cC cO q0 _ _ _ ho25) (cwV 1 hts gX8_besides_X8_grainAt rfl rfl rfl (by decide +kernel) ⟨Nat.le_of_ble_eq_true rfl, Nat.le_of_ble_eq_true rfl⟩) hK hN hP [0, 1, 2, 3, 4, 5, 6, 7, 8] rfl 7 rfl rfl rfl rfl hl.1 rfl (Nat.le_of_ble_eq_true rfl) dX8_besides_25 ⟨Nat.zero_le _, Nat.zero_le _⟩ ?_
          refine lv_if_lt (tgt := 35) hx hb dX8_besides_28 (by decide) (fun hc => ?_) (fun hc => ?_)
          · have hf := ot hc hf
            exact hJ2 hf ls (lv_sub hl [1, 2, 4] rfl)
          · have hf := oe hc hf
            refine lv_iconst (v := 1) hx hb dX8_besides_31 (by decide) ?_
            refine lv_goto (tgt := 36) hx hb dX8_besides_32 (by decide) ?_
            exact hJ1 _ hf ls (lv_sub hl [1, 2, 4] rfl)
  obtain ⟨o4, ho4, hf⟩ := ob hf
  refine hL4 FU _ _ ho4 ls (lv_sub hl [2, 3, 1, 0] rfl) (fun ls hl => ?_)
  refine lv_iload_n hx hb dX8_besides_44 rfl (lv_at hl 0 rfl) ?_
  obtain rfl := Option.some.inj hf
  exact W.iret (v := o4) hx hb hr (fun t ht hW => ⟨_, rfl, rfl, ht⟩) (fun _ h => by cases h) dX8_besides_45
/-- RimGrainsModel.private int draws(); -/
def fX8_draws (g0 : GX8) : Option (Int32 × GX8) :=
  some (((upd (pX8_s g0) (1 : Int32).toNatClampNeg (jrem ((421 * ((pX8_s g0) (1 : Int32).toNatClampNeg)) + 1663) 10000)) (1 : Int32).toNatClampNeg), ((upd (pX8_s g0) (1 : Int32).toNatClampNeg (jrem ((421 * ((pX8_s g0) (1 : Int32).toNatClampNeg)) + 1663) 10000)), (pX8_aside g0), (pX8_past g0), (pX8_known g0), (pX8_kept g0), (pX8_isKept g0), (pX8_pad g0), (pX8_length g0), (pX8_whyError g0), (pX8_whyNumber g0), (pX8_whySpot g0), ((pX8_lots g0) + 1), (pX8_walker g0), (pX8_steps g0), (pX8_goes g0), (pX8_becomes g0), (pX8_spot g0), (pX8_isForm g0), (pX8_letter g0), (pX8_told g0), (pX8_highest g0)))
abbrev rmX8_draws : Room := { frames := 0, cells := 0, slots := 0, locals := 0 }
set_option maxHeartbeats 4000000 in
set_option maxRecDepth 100000 in
theorem mX8_draws (l : Launch) (dC : Nat → ClassId) (dI : Nat → Nat → Nat) (cI cZ cC cO : ClassId) (q0 : Nat → Nat) (g0 : GX8) (sz : Nat) (out : Int32 × GX8) (hf : fX8_draws g0 = some out) : Met l yX8_draws wsX8_draws rmX8_draws (va_Pc [.ref (q0 0)] (pcW (dC, dI) (wTys cI cZ cC cO) sz (wX8 cI cZ cC q0 g0))) (va_Qi (fun r (_ : Unit) => r = out.1) (fun _ => poW (dC, dI) (va_A (wX8 cI cZ cC q0 g0) sz) (wX8 cI cZ cC q0 out.2)) (va_A (wX8 cI cZ cC q0 g0) sz)) 0 0 (va_A (wX8 cI cZ cC q0 g0) sz) := by
  refine Met.ofW (cc := cX8_draws) (maxL := 1) (ret := (some .int)) (by decide) rfl ?_
  intro p e s m args below meth c s₁ B hml hv
  obtain ⟨hargs, hsz, hP, hK, hN, hD0⟩ := hv
  have hx := B.exec
  have hb := B.bytes
  have hr := B.returns
  have hts := atoms_spec (ws := wsX8_draws) B.pre
  have hown : s.vm.findClass RX8 = some m.cls := findClass_of_methodNamed B.named
  have hlocks := B.notSynchronized
  have hk0 := hts (.fieldLink RX8 7 "RimGrainsModel" "s" "[I") (by decide +kernel)
  have hk1 := hts (.fieldLink RX8 75 "RimGrainsModel" "lots" "I") (by decide +kernel)
  have hin8 : ∀ w ∈ wsX80, w ∈ wsX8_draws := by decide +kernel
  subst hsz
  have hD := hD0.self (sz := s.heap.size)
  generalize hAe : va_A (wX8 cI cZ cC q0 g0) s.heap.size = A at hD ⊢
  have hA : ∀ q : Nat, s.heap.size ≤ q → A q := fun q h => by rw [← hAe]; exact Or.inr h
  have hS : va_S A s.heap s.heap [] := va_S.rf
  have hE := lg_entry_eq m [.ref (q0 0)] 1
  rw [← hargs] at hE
  rw [hE]
  have hl := lv_entry [.ref (q0 0)] (n := 1) (Nat.le_of_ble_eq_true rfl)
  generalize (lg_sl [.ref (q0 0)] ++ List.replicate (1 - (lg_sl [.ref (q0 0)]).length) Slot.unset).toArray = ls at hl ⊢
  have hl : lv_has ls 1 [(0, .ref (q0 0))] := hl
  have hP : va_P (dC, dI) vwCl (wX8 cI cZ cC q0 g0) s.heap := hP
  unfold fX8_draws at hf
  refine lv_aload_n hx hb dX8_draws_0 rfl (lv_at hl 0 rfl) ?_
  refine va_get (D := (dC, dI)) (ci := 7) (v := .ref (q0 1)) (C := RX8) (T := TX8) (N := 21) hx hb hts hin8 hown hK hP 0 rfl rfl 0 (by decide) hk0 (fun _ h9 => h9) rfl dX8_draws_1 ?_
  refine lv_iconst (v := 1) hx hb dX8_draws_4 (by decide) ?_
  refine lv_sipush (v := 421) hx hb dX8_draws_5 (by decide) ?_
  refine lv_aload_n hx hb dX8_draws_8 rfl (lv_at hl 0 rfl) ?_
  refine va_get (D := (dC, dI)) (ci := 7) (v := .ref (q0 1)) (C := RX8) (T := TX8) (N := 21) hx hb hts hin8 hown hK hP 0 rfl rfl 0 (by decide) hk0 (fun _ h9 => h9) rfl dX8_draws_9 ?_
  refine lv_iconst (v := 1) hx hb dX8_draws_12 (by decide) ?_
  have hin : vp_in (1 : Int32) 373 := by unfold vp_in; decide
  refine va_iald hx hb hK hP 1 0 rfl rfl hin dX8_draws_13 ?_
  refine lv_imul hx hb dX8_draws_14 ?_
  refine lv_sipush (v := 1663) hx hb dX8_draws_15 (by decide) ?_
  refine lv_iadd hx hb dX8_draws_18 ?_
  refine lv_sipush (v := 10000) hx hb dX8_draws_19 (by decide) ?_
  refine jirem hx hb dX8_draws_22 (by decide) ?_
  have hin : vp_in (1 : Int32) 373 := by unfold vp_in; decide
  refine va_iast hx hb hK hP hD hS 1 0 rfl rfl hin dX8_draws_23 (fun H locs hP hD hS => ?_)
  have hP : va_P (dC, dI) vwCl (wX8 cI cZ cC q0 ((upd (pX8_s g0) (1 : Int32).toNatClampNeg (jrem ((421 * ((pX8_s g0) (1 : Int32).toNatClampNeg)) + 1663) 10000)), (pX8_aside g0), (pX8_past g0), (pX8_known g0), (pX8_kept g0), (pX8_isKept g0), (pX8_pad g0), (pX8_length g0), (pX8_whyError g0), (pX8_whyNumber g0), (pX8_whySpot g0), (pX8_lots g0), (pX8_walker g0), (pX8_steps g0), (pX8_goes g0), (pX8_becomes g0), (pX8_spot g0), (pX8_isForm g0), (pX8_letter g0), (pX8_told g0), (pX8_highest g0))) H := hP
  have hD : va_D A (wX8 cI cZ cC q0 ((upd (pX8_s g0) (1 : Int32).toNatClampNeg (jrem ((421 * ((pX8_s g0) (1 : Int32).toNatClampNeg)) + 1663) 10000)), (pX8_aside g0), (pX8_past g0), (pX8_known g0), (pX8_kept g0), (pX8_isKept g0), (pX8_pad g0), (pX8_length g0), (pX8_whyError g0), (pX8_whyNumber g0), (pX8_whySpot g0), (pX8_lots g0), (pX8_walker g0), (pX8_steps g0), (pX8_goes g0), (pX8_becomes g0), (pX8_spot g0), (pX8_isForm g0), (pX8_letter g0), (pX8_told g0), (pX8_highest g0))) := hD
  refine lv_aload_n hx hb dX8_draws_24 rfl (lv_at hl 0 rfl) ?_
  refine lv_dup hx hb dX8_draws_25 rfl ?_
  refine va_get (D := (dC, dI)) (ci := 7) (v := .int (pX8_lots g0)) (C := RX8) (T := TX8) (N := 21) hx hb hts hin8 hown hK hP 0 rfl rfl 11 (by decide) hk1 (fun _ h9 => h9) rfl dX8_draws_26 ?_
  refine lv_iconst (v := 1) hx hb dX8_draws_29 (by decide) ?_
  refine lv_iadd hx hb dX8_draws_30 ?_
  refine va_put (D := (dC, dI)) (ci := 7) (v := .int ((pX8_lots g0) + 1)) (ty := .int) (C := RX8) (T := TX8) (N := 21) hx hb hts hin8 tyX8 tyX8_ok nmX8 hown hK hP hD hS 0 rfl rfl 11 (by decide) hk1 (fun _ h9 => h9) rfl (by decide +kernel) rfl rfl (Nat.le_of_ble_eq_true rfl) dX8_draws_31 (fun H locs hP hD hS => ?_)
  have hP : va_P (dC, dI) vwCl (wX8 cI cZ cC q0 ((upd (pX8_s g0) (1 : Int32).toNatClampNeg (jrem ((421 * ((pX8_s g0) (1 : Int32).toNatClampNeg)) + 1663) 10000)), (pX8_aside g0), (pX8_past g0), (pX8_known g0), (pX8_kept g0), (pX8_isKept g0), (pX8_pad g0), (pX8_length g0), (pX8_whyError g0), (pX8_whyNumber g0), (pX8_whySpot g0), ((pX8_lots g0) + 1), (pX8_walker g0), (pX8_steps g0), (pX8_goes g0), (pX8_becomes g0), (pX8_spot g0), (pX8_isForm g0), (pX8_letter g0), (pX8_told g0), (pX8_highest g0))) H := hP
  have hD : va_D A (wX8 cI cZ cC q0 ((upd (pX8_s g0) (1 : Int32).toNatClampNeg (jrem ((421 * ((pX8_s g0) (1 : Int32).toNatClampNeg)) + 1663) 10000)), (pX8_aside g0), (pX8_past g0), (pX8_known g0), (pX8_kept g0), (pX8_isKept g0), (pX8_pad g0), (pX8_length g0), (pX8_whyError g0), (pX8_whyNumber g0), (pX8_whySpot g0), ((pX8_lots g0) + 1), (pX8_walker g0), (pX8_steps g0), (pX8_goes g0), (pX8_becomes g0), (pX8_spot g0), (pX8_isForm g0), (pX8_letter g0), (pX8_told g0), (pX8_highest g0))) := hD
  refine lv_aload_n hx hb dX8_draws_34 rfl (lv_at hl 0 rfl) ?_
  refine va_get (D := (dC, dI)) (ci := 7) (v := .ref (q0 1)) (C := RX8) (T := TX8) (N := 21) hx hb hts hin8 hown hK hP 0 rfl rfl 0 (by decide) hk0 (fun _ h9 => h9) rfl dX8_draws_35 ?_
  refine lv_iconst (v := 1) hx hb dX8_draws_38 (by decide) ?_
  have hin : vp_in (1 : Int32) 373 := by unfold vp_in; decide
  refine va_iald hx hb hK hP 1 0 rfl rfl hin dX8_draws_39 ?_
  obtain rfl := Option.some.inj hf
  exact W.iret (v := ((upd (pX8_s g0) (1 : Int32).toNatClampNeg (jrem ((421 * ((pX8_s g0) (1 : Int32).toNatClampNeg)) + 1663) 10000)) (1 : Int32).toNatClampNeg)) hx hb hr (fun t ht hW => ⟨⟨_, (), rfl, rfl, by rw [ht]; exact hP, hD⟩, hS.F ht⟩) hS.2.2 dX8_draws_40
/-- RimGrainsModel.private boolean makesStep(); -/
def jX8_makesStep_2 (o1 : (Int32 × GX8)) (o33 : (Int32)) (y0_2 : Int32) : Option (Int32 × GX8) :=
  (if o33 < 0 then some (0, ((pX8_s o1.2), (pX8_aside o1.2), (pX8_past o1.2), (pX8_known o1.2), (pX8_kept o1.2), (pX8_isKept o1.2), (pX8_pad o1.2), (pX8_length o1.2), (pX8_whyError o1.2), (pX8_whyNumber o1.2), (pX8_whySpot o1.2), (pX8_lots o1.2), y0_2, ((pX8_steps o1.2) + 1), (pX8_goes o1.2), (pX8_becomes o1.2), (pX8_spot o1.2), (pX8_isForm o1.2), (pX8_letter o1.2), (pX8_told o1.2), (pX8_highest o1.2))) else some (1, ((pX8_s o1.2), (pX8_aside o1.2), (pX8_past o1.2), (pX8_known o1.2), (pX8_kept o1.2), (pX8_isKept o1.2), (pX8_pad o1.2), (pX8_length o1.2), (pX8_whyError o1.2), (pX8_whyNumber o1.2), (pX8_whySpot o1.2), (pX8_lots o1.2), y0_2, ((pX8_steps o1.2) + 1), (pX8_goes o1.2), (pX8_becomes o1.2), (pX8_spot o1.2), (pX8_isForm o1.2), (pX8_letter o1.2), (pX8_told o1.2), (pX8_highest o1.2))))
def jX8_makesStep_3 (o1 : (Int32 × GX8)) (o33 : (Int32)) : Option (Int32 × GX8) :=
  jX8_makesStep_2 o1 o33 (pX8_walker o1.2)
def jX8_makesStep_1 (o1 : (Int32 × GX8)) (y0_1 : Int32) : Option (Int32 × GX8) :=
  ((fX8_beside (pX8_walker o1.2) y0_1).bind fun o33 => (if o33 < 0 then jX8_makesStep_3 o1 o33 else ((fX8_grainAt o33 ((pX8_s o1.2), (pX8_aside o1.2), (pX8_past o1.2), (pX8_known o1.2), (pX8_kept o1.2), (pX8_isKept o1.2), (pX8_pad o1.2), (pX8_length o1.2), (pX8_whyError o1.2), (pX8_whyNumber o1.2), (pX8_whySpot o1.2), (pX8_lots o1.2), (pX8_walker o1.2), ((pX8_steps o1.2) + 1), (pX8_goes o1.2), (pX8_becomes o1.2), (pX8_spot o1.2), (pX8_isForm o1.2), (pX8_letter o1.2), (pX8_told o1.2), (pX8_highest o1.2))).bind fun o54 => (if 0 ≤ o54 then jX8_makesStep_3 o1 o33 else jX8_makesStep_2 o1 o33 o33))))
def fX8_makesStep (g0 : GX8) : Option (Int32 × GX8) :=
  ((fX8_draws g0).bind fun o1 => (if (4 + ((pX8_s o1.2) (4 : Int32).toNatClampNeg)) = 0 then none else (if 4 ≤ (jrem o1.1 (4 + ((pX8_s o1.2) (4 : Int32).toNatClampNeg))) then jX8_makesStep_1 o1 ((pX8_s o1.2) (5 : Int32).toNatClampNeg) else jX8_makesStep_1 o1 (jrem o1.1 (4 + ((pX8_s o1.2) (4 : Int32).toNatClampNeg))))))
abbrev rmX8_makesStep : Room := { frames := 2, cells := 0, slots := 0, locals := 45 }
set_option maxHeartbeats 4000000 in
set_option maxRecDepth 100000 in
theorem mX8_makesStep (l : Launch) (dC : Nat → ClassId) (dI : Nat → Nat → Nat) (cI cZ cC cO : ClassId) (q0 : Nat → Nat) (g0 : GX8) (sz : Nat) (out : Int32 × GX8) (hf : fX8_makesStep g0 = some out) : Met l yX8_makesStep wsX8_makesStep rmX8_makesStep (va_Pc [.ref (q0 0)] (pcW (dC, dI) (wTys cI cZ cC cO) sz (wX8 cI cZ cC q0 g0))) (va_Qi (fun r (_ : Unit) => r = out.1) (fun _ => poW (dC, dI) (va_A (wX8 cI cZ cC q0 g0) sz) (wX8 cI cZ cC q0 out.2)) (va_A (wX8 cI cZ cC q0 g0) sz)) 0 0 (va_A (wX8 cI cZ cC q0 g0) sz) := by
  refine Met.ofW (cc := cX8_makesStep) (maxL := 3) (ret := (some .boolean)) (by decide) rfl ?_
  intro p e s m args below meth c s₁ B hml hv
  obtain ⟨hargs, hsz, hP, hK, hN, hD0⟩ := hv
  have hx := B.exec
  have hb := B.bytes
  have hr := B.returns
  have hts := atoms_spec (ws := wsX8_makesStep) B.pre
  have hown : s.vm.findClass RX8 = some m.cls := findClass_of_methodNamed B.named
  have hlocks := B.notSynchronized
  have hk0 := hts (.fieldLink RX8 7 "RimGrainsModel" "s" "[I") (by decide +kernel)
  have hk1 := hts (.fieldLink RX8 78 "RimGrainsModel" "walker" "I") (by decide +kernel)
  have hk2 := hts (.fieldLink RX8 81 "RimGrainsModel" "steps" "I") (by decide +kernel)
  have hin8 : ∀ w ∈ wsX80, w ∈ wsX8_makesStep := by decide +kernel
  subst hsz
  have hD := hD0.self (sz := s.heap.size)
  generalize hAe : va_A (wX8 cI cZ cC q0 g0) s.heap.size = A at hD ⊢
  have hA : ∀ q : Nat, s.heap.size ≤ q → A q := fun q h => by rw [← hAe]; exact Or.inr h
  have hS : va_S A s.heap s.heap [] := va_S.rf
  have hE := lg_entry_eq m [.ref (q0 0)] 3
  rw [← hargs] at hE
  rw [hE]
  have hl := lv_entry [.ref (q0 0)] (n := 3) (Nat.le_of_ble_eq_true rfl)
  generalize (lg_sl [.ref (q0 0)] ++ List.replicate (3 - (lg_sl [.ref (q0 0)]).length) Slot.unset).toArray = ls at hl ⊢
  have hl : lv_has ls 3 [(0, .ref (q0 0))] := hl
  have hP : va_P (dC, dI) vwCl (wX8 cI cZ cC q0 g0) s.heap := hP
  unfold fX8_makesStep at hf
  refine lv_aload_n hx hb dX8_makesStep_0 rfl (lv_at hl 0 rfl) ?_
  obtain ⟨o1, ho1, hf⟩ := ob hf
  refine wVi (W1 := (fun _ : Unit => (wX8 cI cZ cC q0 o1.2))) (rest := []) (As := []) ⟨hx, hb, hml, hown, hts⟩ (mX8_draws l dC dI cI cZ cC cO q0 _ _ _ ho1) (cwV 0 hts gX8_makesStep_X8_draws rfl rfl rfl (by decide +kernel) ⟨Nat.le_of_ble_eq_true rfl, Nat.le_of_ble_eq_true rfl⟩) hK hN hP hD hS hA [0, 1, 2, 3, 4, 5, 6, 7, 8] [] [0, 1, 2, 3, 4, 5, 6, 7, 8] rfl rfl (by decide) (by decide) (fun _ => rfl) 7 rfl rfl rfl rfl hl.1 rfl (Nat.le_of_ble_eq_true rfl) dX8_makesStep_1 ⟨Nat.zero_le _, Nat.zero_le _⟩ (fun _ H locs hP hD hS => ?_)
  have hP : va_P (dC, dI) vwCl (wX8 cI cZ cC q0 o1.2) H := hP
  have hD : va_D A (wX8 cI cZ cC q0 o1.2) := hD
  refine lv_iconst (v := 4) hx hb dX8_makesStep_4 (by decide) ?_
  refine lv_aload_n hx hb dX8_makesStep_5 rfl (lv_at hl 0 rfl) ?_
  refine va_get (D := (dC, dI)) (ci := 7) (v := .ref (q0 1)) (C := RX8) (T := TX8) (N := 21) hx hb hts hin8 hown hK hP 0 rfl rfl 0 (by decide) hk0 (fun _ h9 => h9) rfl dX8_makesStep_6 ?_
  refine lv_iconst (v := 4) hx hb dX8_makesStep_9 (by decide) ?_
  have hin : vp_in (4 : Int32) 373 := by unfold vp_in; decide
  refine va_iald hx hb hK hP 1 0 rfl rfl hin dX8_makesStep_10 ?_
  refine lv_iadd hx hb dX8_makesStep_11 ?_
  obtain ⟨hne, hf⟩ := og hf
  refine jirem hx hb dX8_makesStep_12 hne ?_
  refine lv_istore_n (lv' := [(1, .int (jrem o1.1 (4 + ((pX8_s o1.2) (4 : Int32).toNatClampNeg)))), (0, .ref (q0 0))]) hx hb dX8_makesStep_13 rfl hl (by decide) rfl (fun ls hl => ?_)
  refine lv_aload_n hx hb dX8_makesStep_14 rfl (lv_at hl 1 rfl) ?_
  refine va_get (D := (dC, dI)) (ci := 7) (v := .int (pX8_walker o1.2)) (C := RX8) (T := TX8) (N := 21) hx hb hts hin8 hown hK hP 0 rfl rfl 12 (by decide) hk1 (fun _ h9 => h9) rfl dX8_makesStep_15 ?_
  refine lv_iload_n hx hb dX8_makesStep_18 rfl (lv_at hl 0 rfl) ?_
  refine lv_iconst (v := 4) hx hb dX8_makesStep_19 (by decide) ?_
  have hJ1 : ∀ (y0_1 : Int32), jX8_makesStep_1 o1 y0_1 = some out → ∀ (H : Heap) (locs : List Loc) (ls : Array Slot), va_P (dC, dI) vwCl (wX8 cI cZ cC q0 o1.2) H → va_D A (wX8 cI cZ cC q0 o1.2) → va_S A s.heap H locs → lv_has ls 3 [(0, .ref (q0 0))] → W p l e (headSpec wsX8_makesStep rmX8_makesStep).room s m args below meth c H locs 0 0 (MQ below (va_Qi (fun r (_ : Unit) => r = out.1) (fun _ => poW (dC, dI) A (wX8 cI cZ cC q0 out.2)) A) args s 0 0 A) (F0 m 33 ls [.int y0_1, .int (pX8_walker o1.2)]) := by
    intro y0_1 hf H locs ls hP hD hS hl
    unfold jX8_makesStep_1 at hf
    obtain ⟨o33, ho33, hf⟩ := ob hf
    refine rS (rest := []) (As := [.int (pX8_walker o1.2), .int y0_1]) ⟨hx, hb, hml, hown, hts⟩ (mX8_beside l dC dI cI cZ cC cO  _ _ _ ho33) (va_cwS 2 hts gX8_makesStep_X8_beside rfl rfl rfl (by decide +kernel) ⟨Nat.le_of_ble_eq_true rfl, Nat.le_of_ble_eq_true rfl⟩) hK hN hP [] rfl rfl hl.1 rfl (Nat.le_of_ble_eq_true rfl) dX8_makesStep_33 ⟨Nat.zero_le _, Nat.zero_le _⟩ ?_
    refine lv_istore_n (lv' := [(2, .int o33), (0, .ref (q0 0))]) hx hb dX8_makesStep_36 rfl hl (by decide) rfl (fun ls hl => ?_)
    refine lv_aload_n hx hb dX8_makesStep_37 rfl (lv_at hl 1 rfl) ?_
    refine lv_dup hx hb dX8_makesStep_38 rfl ?_
    refine va_get (D := (dC, dI)) (ci := 7) (v := .int (pX8_steps o1.2)) (C := RX8) (T := TX8) (N := 21) hx hb hts hin8 hown hK hP 0 rfl rfl 13 (by decide) hk2 (fun _ h9 => h9) rfl dX8_makesStep_39 ?_
    refine lv_iconst (v := 1) hx hb dX8_makesStep_42 (by decide) ?_
    refine lv_iadd hx hb dX8_makesStep_43 ?_
    refine va_put (D := (dC, dI)) (ci := 7) (v := .int ((pX8_steps o1.2) + 1)) (ty := .int) (C := RX8) (T := TX8) (N := 21) hx hb hts hin8 tyX8 tyX8_ok nmX8 hown hK hP hD hS 0 rfl rfl 13 (by decide) hk2 (fun _ h9 => h9) rfl (by decide +kernel) rfl rfl (Nat.le_of_ble_eq_true rfl) dX8_makesStep_44 (fun H locs hP hD hS => ?_)
    have hP : va_P (dC, dI) vwCl (wX8 cI cZ cC q0 ((pX8_s o1.2), (pX8_aside o1.2), (pX8_past o1.2), (pX8_known o1.2), (pX8_kept o1.2), (pX8_isKept o1.2), (pX8_pad o1.2), (pX8_length o1.2), (pX8_whyError o1.2), (pX8_whyNumber o1.2), (pX8_whySpot o1.2), (pX8_lots o1.2), (pX8_walker o1.2), ((pX8_steps o1.2) + 1), (pX8_goes o1.2), (pX8_becomes o1.2), (pX8_spot o1.2), (pX8_isForm o1.2), (pX8_letter o1.2), (pX8_told o1.2), (pX8_highest o1.2))) H := hP
    have hD : va_D A (wX8 cI cZ cC q0 ((pX8_s o1.2), (pX8_aside o1.2), (pX8_past o1.2), (pX8_known o1.2), (pX8_kept o1.2), (pX8_isKept o1.2), (pX8_pad o1.2), (pX8_length o1.2), (pX8_whyError o1.2), (pX8_whyNumber o1.2), (pX8_whySpot o1.2), (pX8_lots o1.2), (pX8_walker o1.2), ((pX8_steps o1.2) + 1), (pX8_goes o1.2), (pX8_becomes o1.2), (pX8_spot o1.2), (pX8_isForm o1.2), (pX8_letter o1.2), (pX8_told o1.2), (pX8_highest o1.2))) := hD
    refine lv_aload_n hx hb dX8_makesStep_47 rfl (lv_at hl 1 rfl) ?_
    refine lv_iload_n hx hb dX8_makesStep_48 rfl (lv_at hl 0 rfl) ?_
    have hJ2 : ∀ (y0_2 : Int32), jX8_makesStep_2 o1 o33 y0_2 = some out → ∀ (H : Heap) (locs : List Loc) (ls : Array Slot), va_P (dC, dI) vwCl (wX8 cI cZ cC q0 ((pX8_s o1.2), (pX8_aside o1.2), (pX8_past o1.2), (pX8_known o1.2), (pX8_kept o1.2), (pX8_isKept o1.2), (pX8_pad o1.2), (pX8_length o1.2), (pX8_whyError o1.2), (pX8_whyNumber o1.2), (pX8_whySpot o1.2), (pX8_lots o1.2), (pX8_walker o1.2), ((pX8_steps o1.2) + 1), (pX8_goes o1.2), (pX8_becomes o1.2), (pX8_spot o1.2), (pX8_isForm o1.2), (pX8_letter o1.2), (pX8_told o1.2), (pX8_highest o1.2))) H → va_D A (wX8 cI cZ cC q0 ((pX8_s o1.2), (pX8_aside o1.2), (pX8_past o1.2), (pX8_known o1.2), (pX8_kept o1.2), (pX8_isKept o1.2), (pX8_pad o1.2), (pX8_length o1.2), (pX8_whyError o1.2), (pX8_whyNumber o1.2), (pX8_whySpot o1.2), (pX8_lots o1.2), (pX8_walker o1.2), ((pX8_steps o1.2) + 1), (pX8_goes o1.2), (pX8_becomes o1.2), (pX8_spot o1.2), (pX8_isForm o1.2), (pX8_letter o1.2), (pX8_told o1.2), (pX8_highest o1.2))) → va_S A s.heap H locs → lv_has ls 3 [(2, .int o33)] → W p l e (headSpec wsX8_makesStep rmX8_makesStep).room s m args below meth c H locs 0 0 (MQ below (va_Qi (fun r (_ : Unit) => r = out.1) (fun _ => poW (dC, dI) A (wX8 cI cZ cC q0 out.2)) A) args s 0 0 A) (F0 m 68 ls [.int y0_2, .ref (q0 0)]) := by
      intro y0_2 hf H locs ls hP hD hS hl
      unfold jX8_makesStep_2 at hf
      refine va_put (D := (dC, dI)) (ci := 7) (v := .int y0_2) (ty := .int) (C := RX8) (T := TX8) (N := 21) hx hb hts hin8 tyX8 tyX8_ok nmX8 hown hK hP hD hS 0 rfl rfl 12 (by decide) hk1 (fun _ h9 => h9) rfl (by decide +kernel) rfl rfl (Nat.le_of_ble_eq_true rfl) dX8_makesStep_68 (fun H locs hP hD hS => ?_)
      have hP : va_P (dC, dI) vwCl (wX8 cI cZ cC q0 ((pX8_s o1.2), (pX8_aside o1.2), (pX8_past o1.2), (pX8_known o1.2), (pX8_kept o1.2), (pX8_isKept o1.2), (pX8_pad o1.2), (pX8_length o1.2), (pX8_whyError o1.2), (pX8_whyNumber o1.2), (pX8_whySpot o1.2), (pX8_lots o1.2), y0_2, ((pX8_steps o1.2) + 1), (pX8_goes o1.2), (pX8_becomes o1.2), (pX8_spot o1.2), (pX8_isForm o1.2), (pX8_letter o1.2), (pX8_told o1.2), (pX8_highest o1.2))) H := hP
      have hD : va_D A (wX8 cI cZ cC q0 ((pX8_s o1.2), (pX8_aside o1.2), (pX8_past o1.2), (pX8_known o1.2), (pX8_kept o1.2), (pX8_isKept o1.2), (pX8_pad o1.2), (pX8_length o1.2), (pX8_whyError o1.2), (pX8_whyNumber o1.2), (pX8_whySpot o1.2), (pX8_lots o1.2), y0_2, ((pX8_steps o1.2) + 1), (pX8_goes o1.2), (pX8_becomes o1.2), (pX8_spot o1.2), (pX8_isForm o1.2), (pX8_letter o1.2), (pX8_told o1.2), (pX8_highest o1.2))) := hD
      refine lv_iload_n hx hb dX8_makesStep_71 rfl (lv_at hl 0 rfl) ?_
      refine lv_if_lt (tgt := 79) hx hb dX8_makesStep_72 (by decide) (fun hc => ?_) (fun hc => ?_)
      · have hf := ot hc hf
        refine lv_iconst (v := 0) hx hb dX8_makesStep_79 (by decide) ?_
        obtain rfl := Option.some.inj hf
        exact W.zret (v := 0) (ty := .boolean) hx hb hr rfl (fun t ht hW => ⟨⟨_, (), rfl, rfl, by rw [ht]; exact hP, hD⟩, hS.F ht⟩) hS.2.2 dX8_makesStep_80
      · have hf := oe hc hf
        refine lv_iconst (v := 1) hx hb dX8_makesStep_75 (by decide) ?_
        refine lv_goto (tgt := 80) hx hb dX8_makesStep_76 (by decide) ?_
        obtain rfl := Option.some.inj hf
        exact W.zret (v := 1) (ty := .boolean) hx hb hr rfl (fun t ht hW => ⟨⟨_, (), rfl, rfl, by rw [ht]; exact hP, hD⟩, hS.F ht⟩) hS.2.2 dX8_makesStep_80
    have hJ3 : jX8_makesStep_3 o1 o33 = some out → ∀ (H : Heap) (locs : List Loc) (ls : Array Slot), va_P (dC, dI) vwCl (wX8 cI cZ cC q0 ((pX8_s o1.2), (pX8_aside o1.2), (pX8_past o1.2), (pX8_known o1.2), (pX8_kept o1.2), (pX8_isKept o1.2), (pX8_pad o1.2), (pX8_length o1.2), (pX8_whyError o1.2), (pX8_whyNumber o1.2), (pX8_whySpot o1.2), (pX8_lots o1.2), (pX8_walker o1.2), ((pX8_steps o1.2) + 1), (pX8_goes o1.2), (pX8_becomes o1.2), (pX8_spot o1.2), (pX8_isForm o1.2), (pX8_letter o1.2), (pX8_told o1.2), (pX8_highest o1.2))) H → va_D A (wX8 cI cZ cC q0 ((pX8_s o1.2), (pX8_aside o1.2), (pX8_past o1.2), (pX8_known o1.2), (pX8_kept o1.2), (pX8_isKept o1.2), (pX8_pad o1.2), (pX8_length o1.2), (pX8_whyError o1.2), (pX8_whyNumber o1.2), (pX8_whySpot o1.2), (pX8_lots o1.2), (pX8_walker o1.2), ((pX8_steps o1.2) + 1), (pX8_goes o1.2), (pX8_becomes o1.2), (pX8_spot o1.2), (pX8_isForm o1.2), (pX8_letter o1.2), (pX8_told o1.2), (pX8_highest o1.2))) → va_S A s.heap H locs → lv_has ls 3 [(0, .ref (q0 0)), (2, .int o33)] → W p l e (headSpec wsX8_makesStep rmX8_makesStep).room s m args below meth c H locs 0 0 (MQ below (va_Qi (fun r (_ : Unit) => r = out.1) (fun _ => poW (dC, dI) A (wX8 cI cZ cC q0 out.2)) A) args s 0 0 A) (F0 m 64 ls [.ref (q0 0)]) := by
      intro  hf H locs ls hP hD hS hl
      unfold jX8_makesStep_3 at hf
      refine lv_aload_n hx hb dX8_makesStep_64 rfl (lv_at hl 0 rfl) ?_
      refine va_get (D := (dC, dI)) (ci := 7) (v := .int (pX8_walker o1.2)) (C := RX8) (T := TX8) (N := 21) hx hb hts hin8 hown hK hP 0 rfl rfl 12 (by decide) hk1 (fun _ h9 => h9) rfl dX8_makesStep_65 ?_
      exact hJ2 _ hf _ _ ls hP hD hS (lv_sub hl [1] rfl)
    refine lv_if_lt (tgt := 64) hx hb dX8_makesStep_49 (by decide) (fun hc => ?_) (fun hc => ?_)
    · have hf := ot hc hf
      exact hJ3 hf _ _ ls hP hD hS (lv_sub hl [1, 0] rfl)
    · have hf := oe hc hf
      refine lv_aload_n hx hb dX8_makesStep_52 rfl (lv_at hl 1 rfl) ?_
      refine lv_iload_n hx hb dX8_makesStep_53 rfl (lv_at hl 0 rfl) ?_
      obtain ⟨o54, ho54, hf⟩ := ob hf
      refine rV (rest := [.ref (q0 0)]) (As := [.int o33]) ⟨hx, hb, hml, hown, hts⟩ (mX8_grainAt l dC dI cI cZ cC cO q0 _ _ _ ho54) (cwV 1 hts gX8_makesStep_X8_grainAt rfl rfl rfl (by decide +kernel) ⟨Nat.le_of_ble_eq_true rfl, Nat.le_of_ble_eq_true rfl⟩) hK hN hP [0, 1, 2, 3, 4, 5, 6, 7, 8] rfl 7 rfl rfl rfl rfl hl.1 rfl (Nat.le_of_ble_eq_true rfl) dX8_makesStep_54 ⟨Nat.zero_le _, Nat.zero_le _⟩ ?_
      refine lv_if_ge (tgt := 64) hx hb dX8_makesStep_57 (by decide) (fun hc => ?_) (fun hc => ?_)
      · have hf := ot hc hf
        exact hJ3 hf _ _ ls hP hD hS (lv_sub hl [1, 0] rfl)
      · have hf := oe hc hf
        refine lv_iload_n hx hb dX8_makesStep_60 rfl (lv_at hl 0 rfl) ?_
        refine lv_goto (tgt := 68) hx hb dX8_makesStep_61 (by decide) ?_
        exact hJ2 _ hf _ _ ls hP hD hS (lv_sub hl [0] rfl)
  refine lv_icmp_ge (tgt := 27) hx hb dX8_makesStep_20 (by decide) (fun hc => ?_) (fun hc => ?_)
  · have hf := ot hc hf
    refine lv_aload_n hx hb dX8_makesStep_27 rfl (lv_at hl 1 rfl) ?_
    refine va_get (D := (dC, dI)) (ci := 7) (v := .ref (q0 1)) (C := RX8) (T := TX8) (N := 21) hx hb hts hin8 hown hK hP 0 rfl rfl 0 (by decide) hk0 (fun _ h9 => h9) rfl dX8_makesStep_28 ?_
    refine lv_iconst (v := 5) hx hb dX8_makesStep_31 (by decide) ?_
    have hin : vp_in (5 : Int32) 373 := by unfold vp_in; decide
    refine va_iald hx hb hK hP 1 0 rfl rfl hin dX8_makesStep_32 ?_
    exact hJ1 _ hf _ _ ls hP hD hS (lv_sub hl [1] rfl)
  · have hf := oe hc hf
    refine lv_iload_n hx hb dX8_makesStep_23 rfl (lv_at hl 0 rfl) ?_
    refine lv_goto (tgt := 33) hx hb dX8_makesStep_24 (by decide) ?_
    exact hJ1 _ hf _ _ ls hP hD hS (lv_sub hl [1] rfl)
/-- RimGrainsModel.private boolean walks(int); -/
def jX8_walks_2 (y0_1 : Int32) (y0_2 : Int32) (g0_2 : GX8) : Option ((Int32 × Int32 × GX8) ⊕ (Int32 × GX8)) :=
  some (.inl (y0_2, y0_1, g0_2))
def jX8_walks_3 (y0_1 : Int32) (g0_3 : GX8) : Option ((Int32 × Int32 × GX8) ⊕ (Int32 × GX8)) :=
  jX8_walks_2 y0_1 0 g0_3
def jX8_walks_1 (y0_1 : Int32) (g0_1 : GX8) : Option ((Int32 × Int32 × GX8) ⊕ (Int32 × GX8)) :=
  (if y0_1 = 0 then (if ((pX8_s g0_1) (3 : Int32).toNatClampNeg) ≤ (pX8_steps g0_1) then jX8_walks_3 y0_1 g0_1 else ((fX8_makesStep g0_1).bind fun o73 => (if o73.1 = 0 then jX8_walks_3 y0_1 o73.2 else jX8_walks_2 y0_1 1 o73.2))) else jX8_walks_3 y0_1 g0_1)
def jX8_walks_4 (g0_4 : GX8) : Option ((Int32 × Int32 × GX8) ⊕ (Int32 × GX8)) :=
  jX8_walks_1 0 g0_4
def tX8_walks_19 (s19 : (Int32 × Int32 × GX8)) : Option ((Int32 × Int32 × GX8) ⊕ (Int32 × GX8)) :=
  (if s19.1 = 0 then some (.inr (s19.2.1, s19.2.2)) else ((fX8_grainBeside (pX8_walker s19.2.2) s19.2.2).bind fun o28 => (if o28 < 0 then jX8_walks_4 s19.2.2 else ((fX8_draws s19.2.2).bind fun o35 => (if ((pX8_s o35.2) (2 : Int32).toNatClampNeg) ≤ (jrem o35.1 4) then jX8_walks_4 o35.2 else jX8_walks_1 1 o35.2)))))
def fX8_walks (a1 : Int32) (g0 : GX8) : Option (Int32 × GX8) :=
  ((lp tX8_walks_19 FU (1, 0, ((pX8_s g0), (pX8_aside g0), (pX8_past g0), (pX8_known g0), (pX8_kept g0), (pX8_isKept g0), (pX8_pad g0), (pX8_length g0), (pX8_whyError g0), (pX8_whyNumber g0), (pX8_whySpot g0), 0, a1, 0, (pX8_goes g0), (pX8_becomes g0), (pX8_spot g0), (pX8_isForm g0), (pX8_letter g0), (pX8_told g0), (pX8_highest g0)))).bind fun o19 => (jgz o19.1 (some (o19.1, o19.2))))
abbrev rmX8_walks : Room := { frames := 3, cells := 0, slots := 0, locals := 70 }
set_option maxHeartbeats 4000000 in
set_option maxRecDepth 100000 in
theorem mX8_walks (l : Launch) (dC : Nat → ClassId) (dI : Nat → Nat → Nat) (cI cZ cC cO : ClassId) (q0 : Nat → Nat) (a1 : Int32) (g0 : GX8) (sz : Nat) (out : Int32 × GX8) (hf : fX8_walks a1 g0 = some out) : Met l yX8_walks wsX8_walks rmX8_walks (va_Pc [.ref (q0 0), .int a1] (pcW (dC, dI) (wTys cI cZ cC cO) sz (wX8 cI cZ cC q0 g0))) (va_Qi (fun r (_ : Unit) => r = out.1) (fun _ => poW (dC, dI) (va_A (wX8 cI cZ cC q0 g0) sz) (wX8 cI cZ cC q0 out.2)) (va_A (wX8 cI cZ cC q0 g0) sz)) 0 0 (va_A (wX8 cI cZ cC q0 g0) sz) := by
  refine Met.ofW (cc := cX8_walks) (maxL := 4) (ret := (some .boolean)) (by decide) rfl ?_
  intro p e s m args below meth c s₁ B hml hv
  obtain ⟨hargs, hsz, hP, hK, hN, hD0⟩ := hv
  have hx := B.exec
  have hb := B.bytes
  have hr := B.returns
  have hts := atoms_spec (ws := wsX8_walks) B.pre
  have hown : s.vm.findClass RX8 = some m.cls := findClass_of_methodNamed B.named
  have hlocks := B.notSynchronized
  have hk0 := hts (.fieldLink RX8 78 "RimGrainsModel" "walker" "I") (by decide +kernel)
  have hk1 := hts (.fieldLink RX8 81 "RimGrainsModel" "steps" "I") (by decide +kernel)
  have hk2 := hts (.fieldLink RX8 75 "RimGrainsModel" "lots" "I") (by decide +kernel)
  have hk3 := hts (.fieldLink RX8 7 "RimGrainsModel" "s" "[I") (by decide +kernel)
  have hin8 : ∀ w ∈ wsX80, w ∈ wsX8_walks := by decide +kernel
  subst hsz
  have hD := hD0.self (sz := s.heap.size)
  generalize hAe : va_A (wX8 cI cZ cC q0 g0) s.heap.size = A at hD ⊢
  have hA : ∀ q : Nat, s.heap.size ≤ q → A q := fun q h => by rw [← hAe]; exact Or.inr h
  have hS : va_S A s.heap s.heap [] := va_S.rf
  have hE := lg_entry_eq m [.ref (q0 0), .int a1] 4
  rw [← hargs] at hE
  rw [hE]
  have hl := lv_entry [.ref (q0 0), .int a1] (n := 4) (Nat.le_of_ble_eq_true rfl)
  generalize (lg_sl [.ref (q0 0), .int a1] ++ List.replicate (4 - (lg_sl [.ref (q0 0), .int a1]).length) Slot.unset).toArray = ls at hl ⊢
  have hl : lv_has ls 4 [(0, .ref (q0 0)), (1, .int a1)] := hl
  have hP : va_P (dC, dI) vwCl (wX8 cI cZ cC q0 g0) s.heap := hP
  unfold fX8_walks at hf
  refine lv_aload_n hx hb dX8_walks_0 rfl (lv_at hl 0 rfl) ?_
  refine lv_iload_n hx hb dX8_walks_1 rfl (lv_at hl 1 rfl) ?_
  refine va_put (D := (dC, dI)) (ci := 7) (v := .int a1) (ty := .int) (C := RX8) (T := TX8) (N := 21) hx hb hts hin8 tyX8 tyX8_ok nmX8 hown hK hP hD hS 0 rfl rfl 12 (by decide) hk0 (fun _ h9 => h9) rfl (by decide +kernel) rfl rfl (Nat.le_of_ble_eq_true rfl) dX8_walks_2 (fun H locs hP hD hS => ?_)
  have hP : va_P (dC, dI) vwCl (wX8 cI cZ cC q0 ((pX8_s g0), (pX8_aside g0), (pX8_past g0), (pX8_known g0), (pX8_kept g0), (pX8_isKept g0), (pX8_pad g0), (pX8_length g0), (pX8_whyError g0), (pX8_whyNumber g0), (pX8_whySpot g0), (pX8_lots g0), a1, (pX8_steps g0), (pX8_goes g0), (pX8_becomes g0), (pX8_spot g0), (pX8_isForm g0), (pX8_letter g0), (pX8_told g0), (pX8_highest g0))) H := hP
  have hD : va_D A (wX8 cI cZ cC q0 ((pX8_s g0), (pX8_aside g0), (pX8_past g0), (pX8_known g0), (pX8_kept g0), (pX8_isKept g0), (pX8_pad g0), (pX8_length g0), (pX8_whyError g0), (pX8_whyNumber g0), (pX8_whySpot g0), (pX8_lots g0), a1, (pX8_steps g0), (pX8_goes g0), (pX8_becomes g0), (pX8_spot g0), (pX8_isForm g0), (pX8_letter g0), (pX8_told g0), (pX8_highest g0))) := hD
  refine lv_aload_n hx hb dX8_walks_5 rfl (lv_at hl 0 rfl) ?_
  refine lv_iconst (v := 0) hx hb dX8_walks_6 (by decide) ?_
  refine va_put (D := (dC, dI)) (ci := 7) (v := .int 0) (ty := .int) (C := RX8) (T := TX8) (N := 21) hx hb hts hin8 tyX8 tyX8_ok nmX8 hown hK hP hD hS 0 rfl rfl 13 (by decide) hk1 (fun _ h9 => h9) rfl (by decide +kernel) rfl rfl (Nat.le_of_ble_eq_true rfl) dX8_walks_7 (fun H locs hP hD hS => ?_)
  have hP : va_P (dC, dI) vwCl (wX8 cI cZ cC q0 ((pX8_s g0), (pX8_aside g0), (pX8_past g0), (pX8_known g0), (pX8_kept g0), (pX8_isKept g0), (pX8_pad g0), (pX8_length g0), (pX8_whyError g0), (pX8_whyNumber g0), (pX8_whySpot g0), (pX8_lots g0), a1, 0, (pX8_goes g0), (pX8_becomes g0), (pX8_spot g0), (pX8_isForm g0), (pX8_letter g0), (pX8_told g0), (pX8_highest g0))) H := hP
  have hD : va_D A (wX8 cI cZ cC q0 ((pX8_s g0), (pX8_aside g0), (pX8_past g0), (pX8_known g0), (pX8_kept g0), (pX8_isKept g0), (pX8_pad g0), (pX8_length g0), (pX8_whyError g0), (pX8_whyNumber g0), (pX8_whySpot g0), (pX8_lots g0), a1, 0, (pX8_goes g0), (pX8_becomes g0), (pX8_spot g0), (pX8_isForm g0), (pX8_letter g0), (pX8_told g0), (pX8_highest g0))) := hD
  refine lv_aload_n hx hb dX8_walks_10 rfl (lv_at hl 0 rfl) ?_
  refine lv_iconst (v := 0) hx hb dX8_walks_11 (by decide) ?_
  refine va_put (D := (dC, dI)) (ci := 7) (v := .int 0) (ty := .int) (C := RX8) (T := TX8) (N := 21) hx hb hts hin8 tyX8 tyX8_ok nmX8 hown hK hP hD hS 0 rfl rfl 11 (by decide) hk2 (fun _ h9 => h9) rfl (by decide +kernel) rfl rfl (Nat.le_of_ble_eq_true rfl) dX8_walks_12 (fun H locs hP hD hS => ?_)
  have hP : va_P (dC, dI) vwCl (wX8 cI cZ cC q0 ((pX8_s g0), (pX8_aside g0), (pX8_past g0), (pX8_known g0), (pX8_kept g0), (pX8_isKept g0), (pX8_pad g0), (pX8_length g0), (pX8_whyError g0), (pX8_whyNumber g0), (pX8_whySpot g0), 0, a1, 0, (pX8_goes g0), (pX8_becomes g0), (pX8_spot g0), (pX8_isForm g0), (pX8_letter g0), (pX8_told g0), (pX8_highest g0))) H := hP
  have hD : va_D A (wX8 cI cZ cC q0 ((pX8_s g0), (pX8_aside g0), (pX8_past g0), (pX8_known g0), (pX8_kept g0), (pX8_isKept g0), (pX8_pad g0), (pX8_length g0), (pX8_whyError g0), (pX8_whyNumber g0), (pX8_whySpot g0), 0, a1, 0, (pX8_goes g0), (pX8_becomes g0), (pX8_spot g0), (pX8_isForm g0), (pX8_letter g0), (pX8_told g0), (pX8_highest g0))) := hD
  refine lv_iconst (v := 1) hx hb dX8_walks_15 (by decide) ?_
  refine lv_istore_n (lv' := [(2, .int 1), (0, .ref (q0 0)), (1, .int a1)]) hx hb dX8_walks_16 rfl hl (by decide) rfl (fun ls hl => ?_)
  refine lv_iconst (v := 0) hx hb dX8_walks_17 (by decide) ?_
  refine lv_istore_n (lv' := [(3, .int 0), (2, .int 1), (0, .ref (q0 0)), (1, .int a1)]) hx hb dX8_walks_18 rfl hl (by decide) rfl (fun ls hl => ?_)
  have hL19 : ∀ (n : Nat) (s19 : Int32 × Int32 × GX8) (o19 : Int32 × GX8), lp tX8_walks_19 n s19 = some o19 → ∀ (H : Heap) (locs : List Loc) (ls : Array Slot), va_P (dC, dI) vwCl (wX8 cI cZ cC q0 s19.2.2) H → va_D A (wX8 cI cZ cC q0 s19.2.2) → va_S A s.heap H locs → lv_has ls 4 [(0, .ref (q0 0)), (2, .int s19.1), (3, .int s19.2.1)] → (∀ (H : Heap) (locs : List Loc) (ls : Array Slot), va_P (dC, dI) vwCl (wX8 cI cZ cC q0 o19.2) H → va_D A (wX8 cI cZ cC q0 o19.2) → va_S A s.heap H locs → lv_has ls 4 [(3, .int o19.1)] → W p l e (headSpec wsX8_walks rmX8_walks).room s m args below meth c H locs 0 0 (MQ below (va_Qi (fun r (_ : Unit) => r = out.1) (fun _ => poW (dC, dI) A (wX8 cI cZ cC q0 out.2)) A) args s 0 0 A) (F0 m 88 ls [])) → W p l e (headSpec wsX8_walks rmX8_walks).room s m args below meth c H locs 0 0 (MQ below (va_Qi (fun r (_ : Unit) => r = out.1) (fun _ => poW (dC, dI) A (wX8 cI cZ cC q0 out.2)) A) args s 0 0 A) (F0 m 19 ls []) := by
    intro n
    induction n with
    | zero => intro s19 o19 hf; exact (lp0 hf).elim
    | succ n ih19 =>
      intro s19 o19 hf H locs ls hP hD hS hl kx
      obtain ⟨r19, hf, hn⟩ := lps hf
      unfold tX8_walks_19 at hf
      refine lv_iload_n hx hb dX8_walks_19 rfl (lv_at hl 1 rfl) ?_
      refine lv_if_eq (tgt := 88) hx hb dX8_walks_20 (by decide) (fun hc => ?_) (fun hc => ?_)
      · have hf := ot hc hf
        obtain rfl := Option.some.inj hf
        obtain rfl := Option.some.inj hn
        exact kx _ _ ls hP hD hS (lv_sub hl [2] rfl)
      · have hf := oe hc hf
        refine lv_aload_n hx hb dX8_walks_23 rfl (lv_at hl 0 rfl) ?_
        refine lv_aload_n hx hb dX8_walks_24 rfl (lv_at hl 0 rfl) ?_
        refine va_get (D := (dC, dI)) (ci := 7) (v := .int (pX8_walker s19.2.2)) (C := RX8) (T := TX8) (N := 21) hx hb hts hin8 hown hK hP 0 rfl rfl 12 (by decide) hk0 (fun _ h9 => h9) rfl dX8_walks_25 ?_
        obtain ⟨o28, ho28, hf⟩ := ob hf
        refine rV (rest := []) (As := [.int (pX8_walker s19.2.2)]) ⟨hx, hb, hml, hown, hts⟩ (mX8_grainBeside l dC dI cI cZ cC cO q0 _ _ _ ho28) (cwV 1 hts gX8_walks_X8_grainBeside rfl rfl rfl (by decide +kernel) ⟨Nat.le_of_ble_eq_true rfl, Nat.le_of_ble_eq_true rfl⟩) hK hN hP [0, 1, 2, 3, 4, 5, 6, 7, 8] rfl 7 rfl rfl rfl rfl hl.1 rfl (Nat.le_of_ble_eq_true rfl) dX8_walks_28 ⟨Nat.zero_le _, Nat.zero_le _⟩ ?_
        have hJ1 : ∀ (y0_1 : Int32) (g0_1 : GX8), jX8_walks_1 y0_1 g0_1 = some r19 → ∀ (H : Heap) (locs : List Loc) (ls : Array Slot), va_P (dC, dI) vwCl (wX8 cI cZ cC q0 g0_1) H → va_D A (wX8 cI cZ cC q0 g0_1) → va_S A s.heap H locs → lv_has ls 4 [(0, .ref (q0 0))] → W p l e (headSpec wsX8_walks rmX8_walks).room s m args below meth c H locs 0 0 (MQ below (va_Qi (fun r (_ : Unit) => r = out.1) (fun _ => poW (dC, dI) A (wX8 cI cZ cC q0 out.2)) A) args s 0 0 A) (F0 m 54 ls [.int y0_1]) := by
          intro y0_1 g0_1 hf H locs ls hP hD hS hl
          unfold jX8_walks_1 at hf
          refine lv_istore_n (lv' := [(3, .int y0_1), (0, .ref (q0 0))]) hx hb dX8_walks_54 rfl hl (by decide) rfl (fun ls hl => ?_)
          refine lv_iload_n hx hb dX8_walks_55 rfl (lv_at hl 0 rfl) ?_
          have hJ2 : ∀ (y0_2 : Int32) (g0_2 : GX8), jX8_walks_2 y0_1 y0_2 g0_2 = some r19 → ∀ (H : Heap) (locs : List Loc) (ls : Array Slot), va_P (dC, dI) vwCl (wX8 cI cZ cC q0 g0_2) H → va_D A (wX8 cI cZ cC q0 g0_2) → va_S A s.heap H locs → lv_has ls 4 [(0, .ref (q0 0)), (3, .int y0_1)] → W p l e (headSpec wsX8_walks rmX8_walks).room s m args below meth c H locs 0 0 (MQ below (va_Qi (fun r (_ : Unit) => r = out.1) (fun _ => poW (dC, dI) A (wX8 cI cZ cC q0 out.2)) A) args s 0 0 A) (F0 m 84 ls [.int y0_2]) := by
            intro y0_2 g0_2 hf H locs ls hP hD hS hl
            unfold jX8_walks_2 at hf
            refine lv_istore_n (lv' := [(2, .int y0_2), (0, .ref (q0 0)), (3, .int y0_1)]) hx hb dX8_walks_84 rfl hl (by decide) rfl (fun ls hl => ?_)
            refine lv_goto (tgt := 19) hx hb dX8_walks_85 (by decide) ?_
            obtain rfl := Option.some.inj hf
            exact ih19 _ _ hn _ _ ls hP hD hS (lv_sub hl [1, 0, 2] rfl) kx
          have hJ3 : ∀ (g0_3 : GX8), jX8_walks_3 y0_1 g0_3 = some r19 → ∀ (H : Heap) (locs : List Loc) (ls : Array Slot), va_P (dC, dI) vwCl (wX8 cI cZ cC q0 g0_3) H → va_D A (wX8 cI cZ cC q0 g0_3) → va_S A s.heap H locs → lv_has ls 4 [(0, .ref (q0 0)), (3, .int y0_1)] → W p l e (headSpec wsX8_walks rmX8_walks).room s m args below meth c H locs 0 0 (MQ below (va_Qi (fun r (_ : Unit) => r = out.1) (fun _ => poW (dC, dI) A (wX8 cI cZ cC q0 out.2)) A) args s 0 0 A) (F0 m 83 ls []) := by
            intro g0_3 hf H locs ls hP hD hS hl
            unfold jX8_walks_3 at hf
            refine lv_iconst (v := 0) hx hb dX8_walks_83 (by decide) ?_
            exact hJ2 _ _ hf _ _ ls hP hD hS (lv_sub hl [0, 1] rfl)
          refine lv_if_ne (tgt := 83) hx hb dX8_walks_56 (by decide) (fun hc => ?_) (fun hc => ?_)
          · have hf := oe hc hf
            exact hJ3 _ hf _ _ ls hP hD hS (lv_sub hl [1, 0] rfl)
          · have hf := ot hc hf
            refine lv_aload_n hx hb dX8_walks_59 rfl (lv_at hl 1 rfl) ?_
            refine va_get (D := (dC, dI)) (ci := 7) (v := .int (pX8_steps g0_1)) (C := RX8) (T := TX8) (N := 21) hx hb hts hin8 hown hK hP 0 rfl rfl 13 (by decide) hk1 (fun _ h9 => h9) rfl dX8_walks_60 ?_
            refine lv_aload_n hx hb dX8_walks_63 rfl (lv_at hl 1 rfl) ?_
            refine va_get (D := (dC, dI)) (ci := 7) (v := .ref (q0 1)) (C := RX8) (T := TX8) (N := 21) hx hb hts hin8 hown hK hP 0 rfl rfl 0 (by decide) hk3 (fun _ h9 => h9) rfl dX8_walks_64 ?_
            refine lv_iconst (v := 3) hx hb dX8_walks_67 (by decide) ?_
            have hin : vp_in (3 : Int32) 373 := by unfold vp_in; decide
            refine va_iald hx hb hK hP 1 0 rfl rfl hin dX8_walks_68 ?_
            refine lv_icmp_ge (tgt := 83) hx hb dX8_walks_69 (by decide) (fun hc => ?_) (fun hc => ?_)
            · have hf := ot hc hf
              exact hJ3 _ hf _ _ ls hP hD hS (lv_sub hl [1, 0] rfl)
            · have hf := oe hc hf
              refine lv_aload_n hx hb dX8_walks_72 rfl (lv_at hl 1 rfl) ?_
              obtain ⟨o73, ho73, hf⟩ := ob hf
              refine wVi (W1 := (fun _ : Unit => (wX8 cI cZ cC q0 o73.2))) (rest := []) (As := []) ⟨hx, hb, hml, hown, hts⟩ (mX8_makesStep l dC dI cI cZ cC cO q0 _ _ _ ho73) (cwV 0 hts gX8_walks_X8_makesStep rfl rfl rfl (by decide +kernel) ⟨Nat.le_of_ble_eq_true rfl, Nat.le_of_ble_eq_true rfl⟩) hK hN hP hD hS hA [0, 1, 2, 3, 4, 5, 6, 7, 8] [] [0, 1, 2, 3, 4, 5, 6, 7, 8] rfl rfl (by decide) (by decide) (fun _ => rfl) 7 rfl rfl rfl rfl hl.1 rfl (Nat.le_of_ble_eq_true rfl) dX8_walks_73 ⟨Nat.zero_le _, Nat.zero_le _⟩ (fun _ H locs hP hD hS => ?_)
              have hP : va_P (dC, dI) vwCl (wX8 cI cZ cC q0 o73.2) H := hP
              have hD : va_D A (wX8 cI cZ cC q0 o73.2) := hD
              refine lv_if_eq (tgt := 83) hx hb dX8_walks_76 (by decide) (fun hc => ?_) (fun hc => ?_)
              · have hf := ot hc hf
                exact hJ3 _ hf _ _ ls hP hD hS (lv_sub hl [1, 0] rfl)
              · have hf := oe hc hf
                refine lv_iconst (v := 1) hx hb dX8_walks_79 (by decide) ?_
                refine lv_goto (tgt := 84) hx hb dX8_walks_80 (by decide) ?_
                exact hJ2 _ _ hf _ _ ls hP hD hS (lv_sub hl [1, 0] rfl)
        have hJ4 : ∀ (g0_4 : GX8), jX8_walks_4 g0_4 = some r19 → ∀ (H : Heap) (locs : List Loc) (ls : Array Slot), va_P (dC, dI) vwCl (wX8 cI cZ cC q0 g0_4) H → va_D A (wX8 cI cZ cC q0 g0_4) → va_S A s.heap H locs → lv_has ls 4 [(0, .ref (q0 0))] → W p l e (headSpec wsX8_walks rmX8_walks).room s m args below meth c H locs 0 0 (MQ below (va_Qi (fun r (_ : Unit) => r = out.1) (fun _ => poW (dC, dI) A (wX8 cI cZ cC q0 out.2)) A) args s 0 0 A) (F0 m 53 ls []) := by
          intro g0_4 hf H locs ls hP hD hS hl
          unfold jX8_walks_4 at hf
          refine lv_iconst (v := 0) hx hb dX8_walks_53 (by decide) ?_
          exact hJ1 _ _ hf _ _ ls hP hD hS (lv_sub hl [0] rfl)
        refine lv_if_lt (tgt := 53) hx hb dX8_walks_31 (by decide) (fun hc => ?_) (fun hc => ?_)
        · have hf := ot hc hf
          exact hJ4 _ hf _ _ ls hP hD hS (lv_sub hl [0] rfl)
        · have hf := oe hc hf
          refine lv_aload_n hx hb dX8_walks_34 rfl (lv_at hl 0 rfl) ?_
          obtain ⟨o35, ho35, hf⟩ := ob hf
          refine wVi (W1 := (fun _ : Unit => (wX8 cI cZ cC q0 o35.2))) (rest := []) (As := []) ⟨hx, hb, hml, hown, hts⟩ (mX8_draws l dC dI cI cZ cC cO q0 _ _ _ ho35) (cwV 0 hts gX8_walks_X8_draws rfl rfl rfl (by decide +kernel) ⟨Nat.le_of_ble_eq_true rfl, Nat.le_of_ble_eq_true rfl⟩) hK hN hP hD hS hA [0, 1, 2, 3, 4, 5, 6, 7, 8] [] [0, 1, 2, 3, 4, 5, 6, 7, 8] rfl rfl (by decide) (by decide) (fun _ => rfl) 7 rfl rfl rfl rfl hl.1 rfl (Nat.le_of_ble_eq_true rfl) dX8_walks_35 ⟨Nat.zero_le _, Nat.zero_le _⟩ (fun _ H locs hP hD hS => ?_)
          have hP : va_P (dC, dI) vwCl (wX8 cI cZ cC q0 o35.2) H := hP
          have hD : va_D A (wX8 cI cZ cC q0 o35.2) := hD
          refine lv_iconst (v := 4) hx hb dX8_walks_38 (by decide) ?_
          refine jirem hx hb dX8_walks_39 (by decide) ?_
          refine lv_aload_n hx hb dX8_walks_40 rfl (lv_at hl 0 rfl) ?_
          refine va_get (D := (dC, dI)) (ci := 7) (v := .ref (q0 1)) (C := RX8) (T := TX8) (N := 21) hx hb hts hin8 hown hK hP 0 rfl rfl 0 (by decide) hk3 (fun _ h9 => h9) rfl dX8_walks_41 ?_
          refine lv_iconst (v := 2) hx hb dX8_walks_44 (by decide) ?_
          have hin : vp_in (2 : Int32) 373 := by unfold vp_in; decide
          refine va_iald hx hb hK hP 1 0 rfl rfl hin dX8_walks_45 ?_
          refine lv_icmp_ge (tgt := 53) hx hb dX8_walks_46 (by decide) (fun hc => ?_) (fun hc => ?_)
          · have hf := ot hc hf
            exact hJ4 _ hf _ _ ls hP hD hS (lv_sub hl [0] rfl)
          · have hf := oe hc hf
            refine lv_iconst (v := 1) hx hb dX8_walks_49 (by decide) ?_
            refine lv_goto (tgt := 54) hx hb dX8_walks_50 (by decide) ?_
            exact hJ1 _ _ hf _ _ ls hP hD hS (lv_sub hl [0] rfl)
  obtain ⟨o19, ho19, hf⟩ := ob hf
  refine hL19 FU _ _ ho19 _ _ ls hP hD hS (lv_sub hl [2, 1, 0] rfl) (fun H locs ls hP hD hS hl => ?_)
  refine lv_iload_n hx hb dX8_walks_88 rfl (lv_at hl 0 rfl) ?_
  obtain ⟨hz, hf⟩ := ogz hf
  obtain rfl := Option.some.inj hf
  exact W.zret (v := o19.1) (ty := .boolean) hx hb hr (jz_n hz) (fun t ht hW => ⟨⟨_, (), rfl, rfl, by rw [ht]; exact hP, hD⟩, hS.F ht⟩) hS.2.2 dX8_walks_89
/-- RimGrainsModel.private int goGrain(int); -/
def fX8_goGrain (a1 : Int32) (g0 : GX8) : Option (Int32 × GX8) :=
  ((fX8_rimCell a1).bind fun o2 => ((fX8_walks o2 g0).bind fun o5 => (if o5.1 = 0 then some ((pX8_steps o5.2), ((upd (upd (upd (pX8_s o5.2) (6 : Int32).toNatClampNeg (((pX8_s o5.2) (6 : Int32).toNatClampNeg) + 1)) (9 : Int32).toNatClampNeg (((upd (pX8_s o5.2) (6 : Int32).toNatClampNeg (((pX8_s o5.2) (6 : Int32).toNatClampNeg) + 1)) (9 : Int32).toNatClampNeg) + (pX8_steps o5.2))) (7 : Int32).toNatClampNeg (((upd (upd (pX8_s o5.2) (6 : Int32).toNatClampNeg (((pX8_s o5.2) (6 : Int32).toNatClampNeg) + 1)) (9 : Int32).toNatClampNeg (((upd (pX8_s o5.2) (6 : Int32).toNatClampNeg (((pX8_s o5.2) (6 : Int32).toNatClampNeg) + 1)) (9 : Int32).toNatClampNeg) + (pX8_steps o5.2))) (7 : Int32).toNatClampNeg) + 1)), (pX8_aside o5.2), (pX8_past o5.2), (pX8_known o5.2), (pX8_kept o5.2), (pX8_isKept o5.2), (pX8_pad o5.2), (pX8_length o5.2), (pX8_whyError o5.2), (pX8_whyNumber o5.2), (pX8_whySpot o5.2), (pX8_lots o5.2), (pX8_walker o5.2), (pX8_steps o5.2), (pX8_goes o5.2), (pX8_becomes o5.2), (pX8_spot o5.2), (pX8_isForm o5.2), (pX8_letter o5.2), (pX8_told o5.2), (pX8_highest o5.2))) else ((fX8_grainBeside (pX8_walker o5.2) ((upd (upd (pX8_s o5.2) (6 : Int32).toNatClampNeg (((pX8_s o5.2) (6 : Int32).toNatClampNeg) + 1)) (9 : Int32).toNatClampNeg (((upd (pX8_s o5.2) (6 : Int32).toNatClampNeg (((pX8_s o5.2) (6 : Int32).toNatClampNeg) + 1)) (9 : Int32).toNatClampNeg) + (pX8_steps o5.2))), (pX8_aside o5.2), (pX8_past o5.2), (pX8_known o5.2), (pX8_kept o5.2), (pX8_isKept o5.2), (pX8_pad o5.2), (pX8_length o5.2), (pX8_whyError o5.2), (pX8_whyNumber o5.2), (pX8_whySpot o5.2), (pX8_lots o5.2), (pX8_walker o5.2), (pX8_steps o5.2), (pX8_goes o5.2), (pX8_becomes o5.2), (pX8_spot o5.2), (pX8_isForm o5.2), (pX8_letter o5.2), (pX8_told o5.2), (pX8_highest o5.2))).bind fun o48 => ((fX8_adds (pX8_walker o5.2) o48 (pX8_steps o5.2) ((upd (upd (pX8_s o5.2) (6 : Int32).toNatClampNeg (((pX8_s o5.2) (6 : Int32).toNatClampNeg) + 1)) (9 : Int32).toNatClampNeg (((upd (pX8_s o5.2) (6 : Int32).toNatClampNeg (((pX8_s o5.2) (6 : Int32).toNatClampNeg) + 1)) (9 : Int32).toNatClampNeg) + (pX8_steps o5.2))), (pX8_aside o5.2), (pX8_past o5.2), (pX8_known o5.2), (pX8_kept o5.2), (pX8_isKept o5.2), (pX8_pad o5.2), (pX8_length o5.2), (pX8_whyError o5.2), (pX8_whyNumber o5.2), (pX8_whySpot o5.2), (pX8_lots o5.2), (pX8_walker o5.2), (pX8_steps o5.2), (pX8_goes o5.2), (pX8_becomes o5.2), (pX8_spot o5.2), (pX8_isForm o5.2), (pX8_letter o5.2), (pX8_told o5.2), (pX8_highest o5.2))).bind fun o55 => some ((1000 + (pX8_walker o55)), o55))))))
abbrev rmX8_goGrain : Room := { frames := 4, cells := 0, slots := 0, locals := 93 }
set_option maxHeartbeats 4000000 in
set_option maxRecDepth 100000 in
theorem mX8_goGrain (l : Launch) (dC : Nat → ClassId) (dI : Nat → Nat → Nat) (cI cZ cC cO : ClassId) (q0 : Nat → Nat) (a1 : Int32) (g0 : GX8) (sz : Nat) (out : Int32 × GX8) (hf : fX8_goGrain a1 g0 = some out) : Met l yX8_goGrain wsX8_goGrain rmX8_goGrain (va_Pc [.ref (q0 0), .int a1] (pcW (dC, dI) (wTys cI cZ cC cO) sz (wX8 cI cZ cC q0 g0))) (va_Qi (fun r (_ : Unit) => r = out.1) (fun _ => poW (dC, dI) (va_A (wX8 cI cZ cC q0 g0) sz) (wX8 cI cZ cC q0 out.2)) (va_A (wX8 cI cZ cC q0 g0) sz)) 0 0 (va_A (wX8 cI cZ cC q0 g0) sz) := by
  refine Met.ofW (cc := cX8_goGrain) (maxL := 3) (ret := (some .int)) (by decide) rfl ?_
  intro p e s m args below meth c s₁ B hml hv
  obtain ⟨hargs, hsz, hP, hK, hN, hD0⟩ := hv
  have hx := B.exec
  have hb := B.bytes
  have hr := B.returns
  have hts := atoms_spec (ws := wsX8_goGrain) B.pre
  have hown : s.vm.findClass RX8 = some m.cls := findClass_of_methodNamed B.named
  have hlocks := B.notSynchronized
  have hk0 := hts (.fieldLink RX8 7 "RimGrainsModel" "s" "[I") (by decide +kernel)
  have hk1 := hts (.fieldLink RX8 81 "RimGrainsModel" "steps" "I") (by decide +kernel)
  have hk2 := hts (.fieldLink RX8 78 "RimGrainsModel" "walker" "I") (by decide +kernel)
  have hin8 : ∀ w ∈ wsX80, w ∈ wsX8_goGrain := by decide +kernel
  subst hsz
  have hD := hD0.self (sz := s.heap.size)
  generalize hAe : va_A (wX8 cI cZ cC q0 g0) s.heap.size = A at hD ⊢
  have hA : ∀ q : Nat, s.heap.size ≤ q → A q := fun q h => by rw [← hAe]; exact Or.inr h
  have hS : va_S A s.heap s.heap [] := va_S.rf
  have hE := lg_entry_eq m [.ref (q0 0), .int a1] 3
  rw [← hargs] at hE
  rw [hE]
  have hl := lv_entry [.ref (q0 0), .int a1] (n := 3) (Nat.le_of_ble_eq_true rfl)
  generalize (lg_sl [.ref (q0 0), .int a1] ++ List.replicate (3 - (lg_sl [.ref (q0 0), .int a1]).length) Slot.unset).toArray = ls at hl ⊢
  have hl : lv_has ls 3 [(0, .ref (q0 0)), (1, .int a1)] := hl
  have hP : va_P (dC, dI) vwCl (wX8 cI cZ cC q0 g0) s.heap := hP
  unfold fX8_goGrain at hf
  refine lv_aload_n hx hb dX8_goGrain_0 rfl (lv_at hl 0 rfl) ?_
  refine lv_iload_n hx hb dX8_goGrain_1 rfl (lv_at hl 1 rfl) ?_
  obtain ⟨o2, ho2, hf⟩ := ob hf
  refine rS (rest := [.ref (q0 0)]) (As := [.int a1]) ⟨hx, hb, hml, hown, hts⟩ (mX8_rimCell l dC dI cI cZ cC cO  _ _ ho2) (va_cwS 1 hts gX8_goGrain_X8_rimCell rfl rfl rfl (by decide +kernel) ⟨Nat.le_of_ble_eq_true rfl, Nat.le_of_ble_eq_true rfl⟩) hK hN hP [] rfl rfl hl.1 rfl (Nat.le_of_ble_eq_true rfl) dX8_goGrain_2 ⟨Nat.zero_le _, Nat.zero_le _⟩ ?_
  obtain ⟨o5, ho5, hf⟩ := ob hf
  refine wVi (W1 := (fun _ : Unit => (wX8 cI cZ cC q0 o5.2))) (rest := []) (As := [.int o2]) ⟨hx, hb, hml, hown, hts⟩ (mX8_walks l dC dI cI cZ cC cO q0 _ _ _ _ ho5) (cwV 1 hts gX8_goGrain_X8_walks rfl rfl rfl (by decide +kernel) ⟨Nat.le_of_ble_eq_true rfl, Nat.le_of_ble_eq_true rfl⟩) hK hN hP hD hS hA [0, 1, 2, 3, 4, 5, 6, 7, 8] [] [0, 1, 2, 3, 4, 5, 6, 7, 8] rfl rfl (by decide) (by decide) (fun _ => rfl) 7 rfl rfl rfl rfl hl.1 rfl (Nat.le_of_ble_eq_true rfl) dX8_goGrain_5 ⟨Nat.zero_le _, Nat.zero_le _⟩ (fun _ H locs hP hD hS => ?_)
  have hP : va_P (dC, dI) vwCl (wX8 cI cZ cC q0 o5.2) H := hP
  have hD : va_D A (wX8 cI cZ cC q0 o5.2) := hD
  refine lv_istore_n (lv' := [(2, .int o5.1), (0, .ref (q0 0)), (1, .int a1)]) hx hb dX8_goGrain_8 rfl hl (by decide) rfl (fun ls hl => ?_)
  refine lv_aload_n hx hb dX8_goGrain_9 rfl (lv_at hl 1 rfl) ?_
  refine va_get (D := (dC, dI)) (ci := 7) (v := .ref (q0 1)) (C := RX8) (T := TX8) (N := 21) hx hb hts hin8 hown hK hP 0 rfl rfl 0 (by decide) hk0 (fun _ h9 => h9) rfl dX8_goGrain_10 ?_
  refine lv_bipush (v := 6) hx hb dX8_goGrain_13 (by decide) ?_
  refine lv_dup2_11 hx hb dX8_goGrain_15 rfl rfl ?_
  have hin : vp_in (6 : Int32) 373 := by unfold vp_in; decide
  refine va_iald hx hb hK hP 1 0 rfl rfl hin dX8_goGrain_16 ?_
  refine lv_iconst (v := 1) hx hb dX8_goGrain_17 (by decide) ?_
  refine lv_iadd hx hb dX8_goGrain_18 ?_
  have hin : vp_in (6 : Int32) 373 := by unfold vp_in; decide
  refine va_iast hx hb hK hP hD hS 1 0 rfl rfl hin dX8_goGrain_19 (fun H locs hP hD hS => ?_)
  have hP : va_P (dC, dI) vwCl (wX8 cI cZ cC q0 ((upd (pX8_s o5.2) (6 : Int32).toNatClampNeg (((pX8_s o5.2) (6 : Int32).toNatClampNeg) + 1)), (pX8_aside o5.2), (pX8_past o5.2), (pX8_known o5.2), (pX8_kept o5.2), (pX8_isKept o5.2), (pX8_pad o5.2), (pX8_length o5.2), (pX8_whyError o5.2), (pX8_whyNumber o5.2), (pX8_whySpot o5.2), (pX8_lots o5.2), (pX8_walker o5.2), (pX8_steps o5.2), (pX8_goes o5.2), (pX8_becomes o5.2), (pX8_spot o5.2), (pX8_isForm o5.2), (pX8_letter o5.2), (pX8_told o5.2), (pX8_highest o5.2))) H := hP
  have hD : va_D A (wX8 cI cZ cC q0 ((upd (pX8_s o5.2) (6 : Int32).toNatClampNeg (((pX8_s o5.2) (6 : Int32).toNatClampNeg) + 1)), (pX8_aside o5.2), (pX8_past o5.2), (pX8_known o5.2), (pX8_kept o5.2), (pX8_isKept o5.2), (pX8_pad o5.2), (pX8_length o5.2), (pX8_whyError o5.2), (pX8_whyNumber o5.2), (pX8_whySpot o5.2), (pX8_lots o5.2), (pX8_walker o5.2), (pX8_steps o5.2), (pX8_goes o5.2), (pX8_becomes o5.2), (pX8_spot o5.2), (pX8_isForm o5.2), (pX8_letter o5.2), (pX8_told o5.2), (pX8_highest o5.2))) := hD
  refine lv_aload_n hx hb dX8_goGrain_20 rfl (lv_at hl 1 rfl) ?_
  refine va_get (D := (dC, dI)) (ci := 7) (v := .ref (q0 1)) (C := RX8) (T := TX8) (N := 21) hx hb hts hin8 hown hK hP 0 rfl rfl 0 (by decide) hk0 (fun _ h9 => h9) rfl dX8_goGrain_21 ?_
  refine lv_bipush (v := 9) hx hb dX8_goGrain_24 (by decide) ?_
  refine lv_dup2_11 hx hb dX8_goGrain_26 rfl rfl ?_
  have hin : vp_in (9 : Int32) 373 := by unfold vp_in; decide
  refine va_iald hx hb hK hP 1 0 rfl rfl hin dX8_goGrain_27 ?_
  refine lv_aload_n hx hb dX8_goGrain_28 rfl (lv_at hl 1 rfl) ?_
  refine va_get (D := (dC, dI)) (ci := 7) (v := .int (pX8_steps o5.2)) (C := RX8) (T := TX8) (N := 21) hx hb hts hin8 hown hK hP 0 rfl rfl 13 (by decide) hk1 (fun _ h9 => h9) rfl dX8_goGrain_29 ?_
  refine lv_iadd hx hb dX8_goGrain_32 ?_
  have hin : vp_in (9 : Int32) 373 := by unfold vp_in; decide
  refine va_iast hx hb hK hP hD hS 1 0 rfl rfl hin dX8_goGrain_33 (fun H locs hP hD hS => ?_)
  have hP : va_P (dC, dI) vwCl (wX8 cI cZ cC q0 ((upd (upd (pX8_s o5.2) (6 : Int32).toNatClampNeg (((pX8_s o5.2) (6 : Int32).toNatClampNeg) + 1)) (9 : Int32).toNatClampNeg (((upd (pX8_s o5.2) (6 : Int32).toNatClampNeg (((pX8_s o5.2) (6 : Int32).toNatClampNeg) + 1)) (9 : Int32).toNatClampNeg) + (pX8_steps o5.2))), (pX8_aside o5.2), (pX8_past o5.2), (pX8_known o5.2), (pX8_kept o5.2), (pX8_isKept o5.2), (pX8_pad o5.2), (pX8_length o5.2), (pX8_whyError o5.2), (pX8_whyNumber o5.2), (pX8_whySpot o5.2), (pX8_lots o5.2), (pX8_walker o5.2), (pX8_steps o5.2), (pX8_goes o5.2), (pX8_becomes o5.2), (pX8_spot o5.2), (pX8_isForm o5.2), (pX8_letter o5.2), (pX8_told o5.2), (pX8_highest o5.2))) H := hP
  have hD : va_D A (wX8 cI cZ cC q0 ((upd (upd (pX8_s o5.2) (6 : Int32).toNatClampNeg (((pX8_s o5.2) (6 : Int32).toNatClampNeg) + 1)) (9 : Int32).toNatClampNeg (((upd (pX8_s o5.2) (6 : Int32).toNatClampNeg (((pX8_s o5.2) (6 : Int32).toNatClampNeg) + 1)) (9 : Int32).toNatClampNeg) + (pX8_steps o5.2))), (pX8_aside o5.2), (pX8_past o5.2), (pX8_known o5.2), (pX8_kept o5.2), (pX8_isKept o5.2), (pX8_pad o5.2), (pX8_length o5.2), (pX8_whyError o5.2), (pX8_whyNumber o5.2), (pX8_whySpot o5.2), (pX8_lots o5.2), (pX8_walker o5.2), (pX8_steps o5.2), (pX8_goes o5.2), (pX8_becomes o5.2), (pX8_spot o5.2), (pX8_isForm o5.2), (pX8_letter o5.2), (pX8_told o5.2), (pX8_highest o5.2))) := hD
  refine lv_iload_n hx hb dX8_goGrain_34 rfl (lv_at hl 0 rfl) ?_
  refine lv_if_eq (tgt := 67) hx hb dX8_goGrain_35 (by decide) (fun hc => ?_) (fun hc => ?_)
  · have hf := ot hc hf
    refine lv_aload_n hx hb dX8_goGrain_67 rfl (lv_at hl 1 rfl) ?_
    refine va_get (D := (dC, dI)) (ci := 7) (v := .ref (q0 1)) (C := RX8) (T := TX8) (N := 21) hx hb hts hin8 hown hK hP 0 rfl rfl 0 (by decide) hk0 (fun _ h9 => h9) rfl dX8_goGrain_68 ?_
    refine lv_bipush (v := 7) hx hb dX8_goGrain_71 (by decide) ?_
    refine lv_dup2_11 hx hb dX8_goGrain_73 rfl rfl ?_
    have hin : vp_in (7 : Int32) 373 := by unfold vp_in; decide
    refine va_iald hx hb hK hP 1 0 rfl rfl hin dX8_goGrain_74 ?_
    refine lv_iconst (v := 1) hx hb dX8_goGrain_75 (by decide) ?_
    refine lv_iadd hx hb dX8_goGrain_76 ?_
    have hin : vp_in (7 : Int32) 373 := by unfold vp_in; decide
    refine va_iast hx hb hK hP hD hS 1 0 rfl rfl hin dX8_goGrain_77 (fun H locs hP hD hS => ?_)
    have hP : va_P (dC, dI) vwCl (wX8 cI cZ cC q0 ((upd (upd (upd (pX8_s o5.2) (6 : Int32).toNatClampNeg (((pX8_s o5.2) (6 : Int32).toNatClampNeg) + 1)) (9 : Int32).toNatClampNeg (((upd (pX8_s o5.2) (6 : Int32).toNatClampNeg (((pX8_s o5.2) (6 : Int32).toNatClampNeg) + 1)) (9 : Int32).toNatClampNeg) + (pX8_steps o5.2))) (7 : Int32).toNatClampNeg (((upd (upd (pX8_s o5.2) (6 : Int32).toNatClampNeg (((pX8_s o5.2) (6 : Int32).toNatClampNeg) + 1)) (9 : Int32).toNatClampNeg (((upd (pX8_s o5.2) (6 : Int32).toNatClampNeg (((pX8_s o5.2) (6 : Int32).toNatClampNeg) + 1)) (9 : Int32).toNatClampNeg) + (pX8_steps o5.2))) (7 : Int32).toNatClampNeg) + 1)), (pX8_aside o5.2), (pX8_past o5.2), (pX8_known o5.2), (pX8_kept o5.2), (pX8_isKept o5.2), (pX8_pad o5.2), (pX8_length o5.2), (pX8_whyError o5.2), (pX8_whyNumber o5.2), (pX8_whySpot o5.2), (pX8_lots o5.2), (pX8_walker o5.2), (pX8_steps o5.2), (pX8_goes o5.2), (pX8_becomes o5.2), (pX8_spot o5.2), (pX8_isForm o5.2), (pX8_letter o5.2), (pX8_told o5.2), (pX8_highest o5.2))) H := hP
    have hD : va_D A (wX8 cI cZ cC q0 ((upd (upd (upd (pX8_s o5.2) (6 : Int32).toNatClampNeg (((pX8_s o5.2) (6 : Int32).toNatClampNeg) + 1)) (9 : Int32).toNatClampNeg (((upd (pX8_s o5.2) (6 : Int32).toNatClampNeg (((pX8_s o5.2) (6 : Int32).toNatClampNeg) + 1)) (9 : Int32).toNatClampNeg) + (pX8_steps o5.2))) (7 : Int32).toNatClampNeg (((upd (upd (pX8_s o5.2) (6 : Int32).toNatClampNeg (((pX8_s o5.2) (6 : Int32).toNatClampNeg) + 1)) (9 : Int32).toNatClampNeg (((upd (pX8_s o5.2) (6 : Int32).toNatClampNeg (((pX8_s o5.2) (6 : Int32).toNatClampNeg) + 1)) (9 : Int32).toNatClampNeg) + (pX8_steps o5.2))) (7 : Int32).toNatClampNeg) + 1)), (pX8_aside o5.2), (pX8_past o5.2), (pX8_known o5.2), (pX8_kept o5.2), (pX8_isKept o5.2), (pX8_pad o5.2), (pX8_length o5.2), (pX8_whyError o5.2), (pX8_whyNumber o5.2), (pX8_whySpot o5.2), (pX8_lots o5.2), (pX8_walker o5.2), (pX8_steps o5.2), (pX8_goes o5.2), (pX8_becomes o5.2), (pX8_spot o5.2), (pX8_isForm o5.2), (pX8_letter o5.2), (pX8_told o5.2), (pX8_highest o5.2))) := hD
    refine lv_aload_n hx hb dX8_goGrain_78 rfl (lv_at hl 1 rfl) ?_
    refine va_get (D := (dC, dI)) (ci := 7) (v := .int (pX8_steps o5.2)) (C := RX8) (T := TX8) (N := 21) hx hb hts hin8 hown hK hP 0 rfl rfl 13 (by decide) hk1 (fun _ h9 => h9) rfl dX8_goGrain_79 ?_
    obtain rfl := Option.some.inj hf
    exact W.iret (v := (pX8_steps o5.2)) hx hb hr (fun t ht hW => ⟨⟨_, (), rfl, rfl, by rw [ht]; exact hP, hD⟩, hS.F ht⟩) hS.2.2 dX8_goGrain_82
  · have hf := oe hc hf
    refine lv_aload_n hx hb dX8_goGrain_38 rfl (lv_at hl 1 rfl) ?_
    refine lv_aload_n hx hb dX8_goGrain_39 rfl (lv_at hl 1 rfl) ?_
    refine va_get (D := (dC, dI)) (ci := 7) (v := .int (pX8_walker o5.2)) (C := RX8) (T := TX8) (N := 21) hx hb hts hin8 hown hK hP 0 rfl rfl 12 (by decide) hk2 (fun _ h9 => h9) rfl dX8_goGrain_40 ?_
    refine lv_aload_n hx hb dX8_goGrain_43 rfl (lv_at hl 1 rfl) ?_
    refine lv_aload_n hx hb dX8_goGrain_44 rfl (lv_at hl 1 rfl) ?_
    refine va_get (D := (dC, dI)) (ci := 7) (v := .int (pX8_walker o5.2)) (C := RX8) (T := TX8) (N := 21) hx hb hts hin8 hown hK hP 0 rfl rfl 12 (by decide) hk2 (fun _ h9 => h9) rfl dX8_goGrain_45 ?_
    obtain ⟨o48, ho48, hf⟩ := ob hf
    refine rV (rest := [.int (pX8_walker o5.2), .ref (q0 0)]) (As := [.int (pX8_walker o5.2)]) ⟨hx, hb, hml, hown, hts⟩ (mX8_grainBeside l dC dI cI cZ cC cO q0 _ _ _ ho48) (cwV 1 hts gX8_goGrain_X8_grainBeside rfl rfl rfl (by decide +kernel) ⟨Nat.le_of_ble_eq_true rfl, Nat.le_of_ble_eq_true rfl⟩) hK hN hP [0, 1, 2, 3, 4, 5, 6, 7, 8] rfl 7 rfl rfl rfl rfl hl.1 rfl (Nat.le_of_ble_eq_true rfl) dX8_goGrain_48 ⟨Nat.zero_le _, Nat.zero_le _⟩ ?_
    refine lv_aload_n hx hb dX8_goGrain_51 rfl (lv_at hl 1 rfl) ?_
    refine va_get (D := (dC, dI)) (ci := 7) (v := .int (pX8_steps o5.2)) (C := RX8) (T := TX8) (N := 21) hx hb hts hin8 hown hK hP 0 rfl rfl 13 (by decide) hk1 (fun _ h9 => h9) rfl dX8_goGrain_52 ?_
    obtain ⟨o55, ho55, hf⟩ := ob hf
    refine wVv (W1 := (fun _ : Unit => (wX8 cI cZ cC q0 o55))) (rest := []) (As := [.int (pX8_walker o5.2), .int o48, .int (pX8_steps o5.2)]) ⟨hx, hb, hml, hown, hts⟩ (mX8_adds l dC dI cI cZ cC cO q0 _ _ _ _ _ _ ho55) (cwV 3 hts gX8_goGrain_X8_adds rfl rfl rfl (by decide +kernel) ⟨Nat.le_of_ble_eq_true rfl, Nat.le_of_ble_eq_true rfl⟩) hK hN hP hD hS hA [0, 1, 2, 3, 4, 5, 6, 7, 8] [] [0, 1, 2, 3, 4, 5, 6, 7, 8] rfl rfl (by decide) (by decide) (fun _ => rfl) 7 rfl rfl rfl rfl hl.1 rfl (Nat.le_of_ble_eq_true rfl) dX8_goGrain_55 ⟨Nat.zero_le _, Nat.zero_le _⟩ (fun _ H locs hP hD hS => ?_)
    have hP : va_P (dC, dI) vwCl (wX8 cI cZ cC q0 o55) H := hP
    have hD : va_D A (wX8 cI cZ cC q0 o55) := hD
    refine lv_sipush (v := 1000) hx hb dX8_goGrain_58 (by decide) ?_
    refine lv_aload_n hx hb dX8_goGrain_61 rfl (lv_at hl 1 rfl) ?_
    refine va_get (D := (dC, dI)) (ci := 7) (v := .int (pX8_walker o55)) (C := RX8) (T := TX8) (N := 21) hx hb hts hin8 hown hK hP 0 rfl rfl 12 (by decide) hk2 (fun _ h9 => h9) rfl dX8_goGrain_62 ?_
    refine lv_iadd hx hb dX8_goGrain_65 ?_
    obtain rfl := Option.some.inj hf
    exact W.iret (v := (1000 + (pX8_walker o55))) hx hb hr (fun t ht hW => ⟨⟨_, (), rfl, rfl, by rw [ht]; exact hP, hD⟩, hS.F ht⟩) hS.2.2 dX8_goGrain_66
/-- RimGrainsModel.private boolean isBlocked(int); -/
def fX8_isBlocked (a1 : Int32) (g0 : GX8) : Option (Int32) :=
  ((fX8_rimCell a1).bind fun o2 => ((fX8_grainAt o2 g0).bind fun o5 => (if o5 < 0 then some 0 else some 1)))
abbrev rmX8_isBlocked : Room := { frames := 2, cells := 0, slots := 0, locals := 45 }
set_option maxHeartbeats 4000000 in
set_option maxRecDepth 100000 in
theorem mX8_isBlocked (l : Launch) (dC : Nat → ClassId) (dI : Nat → Nat → Nat) (cI cZ cC cO : ClassId) (q0 : Nat → Nat) (a1 : Int32) (g0 : GX8) (out : Int32) (hf : fX8_isBlocked a1 g0 = some out) : Met l yX8_isBlocked wsX8_isBlocked rmX8_isBlocked (va_Pc [.ref (q0 0), .int a1] (pcR (dC, dI) (wTys cI cZ cC cO) (wX8 cI cZ cC q0 g0))) (vp_Si (fun r => r = out)) 0 0 (fun _ => False) := by
  refine Met.ofW (cc := cX8_isBlocked) (maxL := 2) (ret := (some .boolean)) (by decide) rfl ?_
  intro p e s m args below meth c s₁ B hml hv
  obtain ⟨hargs, hP, hK, hN⟩ := hv
  have hx := B.exec
  have hb := B.bytes
  have hr := B.returns
  have hts := atoms_spec (ws := wsX8_isBlocked) B.pre
  have hown : s.vm.findClass RX8 = some m.cls := findClass_of_methodNamed B.named
  have hlocks := B.notSynchronized
  have hE := lg_entry_eq m [.ref (q0 0), .int a1] 2
  rw [← hargs] at hE
  rw [hE]
  have hl := lv_entry [.ref (q0 0), .int a1] (n := 2) (Nat.le_of_ble_eq_true rfl)
  generalize (lg_sl [.ref (q0 0), .int a1] ++ List.replicate (2 - (lg_sl [.ref (q0 0), .int a1]).length) Slot.unset).toArray = ls at hl ⊢
  have hl : lv_has ls 2 [(0, .ref (q0 0)), (1, .int a1)] := hl
  unfold fX8_isBlocked at hf
  refine lv_aload_n hx hb dX8_isBlocked_0 rfl (lv_at hl 0 rfl) ?_
  refine lv_iload_n hx hb dX8_isBlocked_1 rfl (lv_at hl 1 rfl) ?_
  obtain ⟨o2, ho2, hf⟩ := ob hf
  refine rS (rest := [.ref (q0 0)]) (As := [.int a1]) ⟨hx, hb, hml, hown, hts⟩ (mX8_rimCell l dC dI cI cZ cC cO  _ _ ho2) (va_cwS 1 hts gX8_isBlocked_X8_rimCell rfl rfl rfl (by decide +kernel) ⟨Nat.le_of_ble_eq_true rfl, Nat.le_of_ble_eq_true rfl⟩) hK hN hP [] rfl rfl hl.1 rfl (Nat.le_of_ble_eq_true rfl) dX8_isBlocked_2 ⟨Nat.zero_le _, Nat.zero_le _⟩ ?_
  obtain ⟨o5, ho5, hf⟩ := ob hf
  refine rV (rest := []) (As := [.int o2]) ⟨hx, hb, hml, hown, hts⟩ (mX8_grainAt l dC dI cI cZ cC cO q0 _ _ _ ho5) (cwV 1 hts gX8_isBlocked_X8_grainAt rfl rfl rfl (by decide +kernel) ⟨Nat.le_of_ble_eq_true rfl, Nat.le_of_ble_eq_true rfl⟩) hK hN hP [0, 1, 2, 3, 4, 5, 6, 7, 8] rfl 7 rfl rfl rfl rfl hl.1 rfl (Nat.le_of_ble_eq_true rfl) dX8_isBlocked_5 ⟨Nat.zero_le _, Nat.zero_le _⟩ ?_
  refine lv_if_lt (tgt := 15) hx hb dX8_isBlocked_8 (by decide) (fun hc => ?_) (fun hc => ?_)
  · have hf := ot hc hf
    refine lv_iconst (v := 0) hx hb dX8_isBlocked_15 (by decide) ?_
    obtain rfl := Option.some.inj hf
    exact W.zret (v := 0) (ty := .boolean) hx hb hr rfl (fun t ht hW => ⟨_, rfl, rfl, ht⟩) (fun _ h => by cases h) dX8_isBlocked_16
  · have hf := oe hc hf
    refine lv_iconst (v := 1) hx hb dX8_isBlocked_11 (by decide) ?_
    refine lv_goto (tgt := 16) hx hb dX8_isBlocked_12 (by decide) ?_
    obtain rfl := Option.some.inj hf
    exact W.zret (v := 1) (ty := .boolean) hx hb hr rfl (fun t ht hW => ⟨_, rfl, rfl, ht⟩) (fun _ h => by cases h) dX8_isBlocked_16
/-- RimGrainsModel.private int goRain(int); -/
def jX8_goRain_1 (s4 : (Int32 × Int32 × GX8)) (x2_1 : Int32) (g0_1 : GX8) : Option ((Int32 × Int32 × GX8) ⊕ (Int32 × GX8)) :=
  some (.inl (x2_1, (s4.2.1 + 1), g0_1))
def jX8_goRain_2 (s4 : (Int32 × Int32 × GX8)) (o56 : (Int32 × GX8)) (y0_2 : Int32) : Option ((Int32 × Int32 × GX8) ⊕ (Int32 × GX8)) :=
  jX8_goRain_1 s4 (s4.1 + y0_2) o56.2
def tX8_goRain_4 (a1 : Int32) (s4 : (Int32 × Int32 × GX8)) : Option ((Int32 × Int32 × GX8) ⊕ (Int32 × GX8)) :=
  (if a1 ≤ s4.2.1 then some (.inr (s4.1, s4.2.2)) else ((fX8_draws s4.2.2).bind fun o10 => ((fX8_isBlocked (jrem o10.1 40) o10.2).bind fun o21 => (if o21 = 0 then ((fX8_goGrain (jrem o10.1 40) o10.2).bind fun o56 => (if o56.1 < 1000 then jX8_goRain_2 s4 o56 0 else jX8_goRain_2 s4 o56 1)) else jX8_goRain_1 s4 s4.1 ((upd (upd (pX8_s o10.2) (6 : Int32).toNatClampNeg (((pX8_s o10.2) (6 : Int32).toNatClampNeg) + 1)) (7 : Int32).toNatClampNeg (((upd (pX8_s o10.2) (6 : Int32).toNatClampNeg (((pX8_s o10.2) (6 : Int32).toNatClampNeg) + 1)) (7 : Int32).toNatClampNeg) + 1)), (pX8_aside o10.2), (pX8_past o10.2), (pX8_known o10.2), (pX8_kept o10.2), (pX8_isKept o10.2), (pX8_pad o10.2), (pX8_length o10.2), (pX8_whyError o10.2), (pX8_whyNumber o10.2), (pX8_whySpot o10.2), (pX8_lots o10.2), (pX8_walker o10.2), (pX8_steps o10.2), (pX8_goes o10.2), (pX8_becomes o10.2), (pX8_spot o10.2), (pX8_isForm o10.2), (pX8_letter o10.2), (pX8_told o10.2), (pX8_highest o10.2))))))
def fX8_goRain (a1 : Int32) (g0 : GX8) : Option (Int32 × GX8) :=
  ((lp (tX8_goRain_4 a1) FU (0, 0, g0)).bind fun o4 => some (o4.1, o4.2))
abbrev rmX8_goRain : Room := { frames := 5, cells := 0, slots := 0, locals := 115 }
set_option maxHeartbeats 4000000 in
set_option maxRecDepth 100000 in
theorem mX8_goRain (l : Launch) (dC : Nat → ClassId) (dI : Nat → Nat → Nat) (cI cZ cC cO : ClassId) (q0 : Nat → Nat) (a1 : Int32) (g0 : GX8) (sz : Nat) (out : Int32 × GX8) (hf : fX8_goRain a1 g0 = some out) : Met l yX8_goRain wsX8_goRain rmX8_goRain (va_Pc [.ref (q0 0), .int a1] (pcW (dC, dI) (wTys cI cZ cC cO) sz (wX8 cI cZ cC q0 g0))) (va_Qi (fun r (_ : Unit) => r = out.1) (fun _ => poW (dC, dI) (va_A (wX8 cI cZ cC q0 g0) sz) (wX8 cI cZ cC q0 out.2)) (va_A (wX8 cI cZ cC q0 g0) sz)) 0 0 (va_A (wX8 cI cZ cC q0 g0) sz) := by
  refine Met.ofW (cc := cX8_goRain) (maxL := 5) (ret := (some .int)) (by decide) rfl ?_
  intro p e s m args below meth c s₁ B hml hv
  obtain ⟨hargs, hsz, hP, hK, hN, hD0⟩ := hv
  have hx := B.exec
  have hb := B.bytes
  have hr := B.returns
  have hts := atoms_spec (ws := wsX8_goRain) B.pre
  have hown : s.vm.findClass RX8 = some m.cls := findClass_of_methodNamed B.named
  have hlocks := B.notSynchronized
  have hk0 := hts (.fieldLink RX8 7 "RimGrainsModel" "s" "[I") (by decide +kernel)
  have hin8 : ∀ w ∈ wsX80, w ∈ wsX8_goRain := by decide +kernel
  subst hsz
  have hD := hD0.self (sz := s.heap.size)
  generalize hAe : va_A (wX8 cI cZ cC q0 g0) s.heap.size = A at hD ⊢
  have hA : ∀ q : Nat, s.heap.size ≤ q → A q := fun q h => by rw [← hAe]; exact Or.inr h
  have hS : va_S A s.heap s.heap [] := va_S.rf
  have hE := lg_entry_eq m [.ref (q0 0), .int a1] 5
  rw [← hargs] at hE
  rw [hE]
  have hl := lv_entry [.ref (q0 0), .int a1] (n := 5) (Nat.le_of_ble_eq_true rfl)
  generalize (lg_sl [.ref (q0 0), .int a1] ++ List.replicate (5 - (lg_sl [.ref (q0 0), .int a1]).length) Slot.unset).toArray = ls at hl ⊢
  have hl : lv_has ls 5 [(0, .ref (q0 0)), (1, .int a1)] := hl
  have hP : va_P (dC, dI) vwCl (wX8 cI cZ cC q0 g0) s.heap := hP
  unfold fX8_goRain at hf
  refine lv_iconst (v := 0) hx hb dX8_goRain_0 (by decide) ?_
  refine lv_istore_n (lv' := [(2, .int 0), (0, .ref (q0 0)), (1, .int a1)]) hx hb dX8_goRain_1 rfl hl (by decide) rfl (fun ls hl => ?_)
  refine lv_iconst (v := 0) hx hb dX8_goRain_2 (by decide) ?_
  refine lv_istore_n (lv' := [(3, .int 0), (2, .int 0), (0, .ref (q0 0)), (1, .int a1)]) hx hb dX8_goRain_3 rfl hl (by decide) rfl (fun ls hl => ?_)
  have hL4 : ∀ (n : Nat) (s4 : Int32 × Int32 × GX8) (o4 : Int32 × GX8), lp (tX8_goRain_4 a1) n s4 = some o4 → ∀ (H : Heap) (locs : List Loc) (ls : Array Slot), va_P (dC, dI) vwCl (wX8 cI cZ cC q0 s4.2.2) H → va_D A (wX8 cI cZ cC q0 s4.2.2) → va_S A s.heap H locs → lv_has ls 5 [(0, .ref (q0 0)), (1, .int a1), (2, .int s4.1), (3, .int s4.2.1)] → (∀ (H : Heap) (locs : List Loc) (ls : Array Slot), va_P (dC, dI) vwCl (wX8 cI cZ cC q0 o4.2) H → va_D A (wX8 cI cZ cC q0 o4.2) → va_S A s.heap H locs → lv_has ls 5 [(2, .int o4.1)] → W p l e (headSpec wsX8_goRain rmX8_goRain).room s m args below meth c H locs 0 0 (MQ below (va_Qi (fun r (_ : Unit) => r = out.1) (fun _ => poW (dC, dI) A (wX8 cI cZ cC q0 out.2)) A) args s 0 0 A) (F0 m 78 ls [])) → W p l e (headSpec wsX8_goRain rmX8_goRain).room s m args below meth c H locs 0 0 (MQ below (va_Qi (fun r (_ : Unit) => r = out.1) (fun _ => poW (dC, dI) A (wX8 cI cZ cC q0 out.2)) A) args s 0 0 A) (F0 m 4 ls []) := by
    intro n
    induction n with
    | zero => intro s4 o4 hf; exact (lp0 hf).elim
    | succ n ih4 =>
      intro s4 o4 hf H locs ls hP hD hS hl kx
      obtain ⟨r4, hf, hn⟩ := lps hf
      unfold tX8_goRain_4 at hf
      refine lv_iload_n hx hb dX8_goRain_4 rfl (lv_at hl 3 rfl) ?_
      refine lv_iload_n hx hb dX8_goRain_5 rfl (lv_at hl 1 rfl) ?_
      refine lv_icmp_ge (tgt := 78) hx hb dX8_goRain_6 (by decide) (fun hc => ?_) (fun hc => ?_)
      · have hf := ot hc hf
        obtain rfl := Option.some.inj hf
        obtain rfl := Option.some.inj hn
        exact kx _ _ ls hP hD hS (lv_sub hl [2] rfl)
      · have hf := oe hc hf
        refine lv_aload_n hx hb dX8_goRain_9 rfl (lv_at hl 0 rfl) ?_
        obtain ⟨o10, ho10, hf⟩ := ob hf
        refine wVi (W1 := (fun _ : Unit => (wX8 cI cZ cC q0 o10.2))) (rest := []) (As := []) ⟨hx, hb, hml, hown, hts⟩ (mX8_draws l dC dI cI cZ cC cO q0 _ _ _ ho10) (cwV 0 hts gX8_goRain_X8_draws rfl rfl rfl (by decide +kernel) ⟨Nat.le_of_ble_eq_true rfl, Nat.le_of_ble_eq_true rfl⟩) hK hN hP hD hS hA [0, 1, 2, 3, 4, 5, 6, 7, 8] [] [0, 1, 2, 3, 4, 5, 6, 7, 8] rfl rfl (by decide) (by decide) (fun _ => rfl) 7 rfl rfl rfl rfl hl.1 rfl (Nat.le_of_ble_eq_true rfl) dX8_goRain_10 ⟨Nat.zero_le _, Nat.zero_le _⟩ (fun _ H locs hP hD hS => ?_)
        have hP : va_P (dC, dI) vwCl (wX8 cI cZ cC q0 o10.2) H := hP
        have hD : va_D A (wX8 cI cZ cC q0 o10.2) := hD
        refine lv_bipush (v := 40) hx hb dX8_goRain_13 (by decide) ?_
        refine jirem hx hb dX8_goRain_15 (by decide) ?_
        refine lv_istore (lv' := [(4, .int (jrem o10.1 40)), (0, .ref (q0 0)), (1, .int a1), (2, .int s4.1), (3, .int s4.2.1)]) hx hb dX8_goRain_16 hl (by decide) rfl (fun ls hl => ?_)
        refine lv_aload_n hx hb dX8_goRain_18 rfl (lv_at hl 1 rfl) ?_
        refine lv_iload hx hb dX8_goRain_19 (lv_at hl 0 rfl) ?_
        obtain ⟨o21, ho21, hf⟩ := ob hf
        refine rV (rest := []) (As := [.int (jrem o10.1 40)]) ⟨hx, hb, hml, hown, hts⟩ (mX8_isBlocked l dC dI cI cZ cC cO q0 _ _ _ ho21) (cwV 1 hts gX8_goRain_X8_isBlocked rfl rfl rfl (by decide +kernel) ⟨Nat.le_of_ble_eq_true rfl, Nat.le_of_ble_eq_true rfl⟩) hK hN hP [0, 1, 2, 3, 4, 5, 6, 7, 8] rfl 7 rfl rfl rfl rfl hl.1 rfl (Nat.le_of_ble_eq_true rfl) dX8_goRain_21 ⟨Nat.zero_le _, Nat.zero_le _⟩ ?_
        have hJ1 : ∀ (x2_1 : Int32) (g0_1 : GX8), jX8_goRain_1 s4 x2_1 g0_1 = some r4 → ∀ (H : Heap) (locs : List Loc) (ls : Array Slot), va_P (dC, dI) vwCl (wX8 cI cZ cC q0 g0_1) H → va_D A (wX8 cI cZ cC q0 g0_1) → va_S A s.heap H locs → lv_has ls 5 [(0, .ref (q0 0)), (1, .int a1), (2, .int x2_1), (3, .int s4.2.1)] → W p l e (headSpec wsX8_goRain rmX8_goRain).room s m args below meth c H locs 0 0 (MQ below (va_Qi (fun r (_ : Unit) => r = out.1) (fun _ => poW (dC, dI) A (wX8 cI cZ cC q0 out.2)) A) args s 0 0 A) (F0 m 72 ls []) := by
          intro x2_1 g0_1 hf H locs ls hP hD hS hl
          unfold jX8_goRain_1 at hf
          refine lv_iinc (v := (s4.2.1 + 1)) (lv' := [(3, .int (s4.2.1 + 1)), (0, .ref (q0 0)), (1, .int a1), (2, .int x2_1)]) hx hb dX8_goRain_72 hl (k := 3) rfl rfl (by decide) rfl (fun ls hl => ?_)
          refine lv_goto (tgt := 4) hx hb dX8_goRain_75 (by decide) ?_
          obtain rfl := Option.some.inj hf
          exact ih4 _ _ hn _ _ ls hP hD hS (lv_sub hl [1, 2, 3, 0] rfl) kx
        refine lv_if_eq (tgt := 52) hx hb dX8_goRain_24 (by decide) (fun hc => ?_) (fun hc => ?_)
        · have hf := ot hc hf
          refine lv_iload_n hx hb dX8_goRain_52 rfl (lv_at hl 3 rfl) ?_
          refine lv_aload_n hx hb dX8_goRain_53 rfl (lv_at hl 1 rfl) ?_
          refine lv_iload hx hb dX8_goRain_54 (lv_at hl 0 rfl) ?_
          obtain ⟨o56, ho56, hf⟩ := ob hf
          refine wVi (W1 := (fun _ : Unit => (wX8 cI cZ cC q0 o56.2))) (rest := [.int s4.1]) (As := [.int (jrem o10.1 40)]) ⟨hx, hb, hml, hown, hts⟩ (mX8_goGrain l dC dI cI cZ cC cO q0 _ _ _ _ ho56) (cwV 1 hts gX8_goRain_X8_goGrain rfl rfl rfl (by decide +kernel) ⟨Nat.le_of_ble_eq_true rfl, Nat.le_of_ble_eq_true rfl⟩) hK hN hP hD hS hA [0, 1, 2, 3, 4, 5, 6, 7, 8] [] [0, 1, 2, 3, 4, 5, 6, 7, 8] rfl rfl (by decide) (by decide) (fun _ => rfl) 7 rfl rfl rfl rfl hl.1 rfl (Nat.le_of_ble_eq_true rfl) dX8_goRain_56 ⟨Nat.zero_le _, Nat.zero_le _⟩ (fun _ H locs hP hD hS => ?_)
          have hP : va_P (dC, dI) vwCl (wX8 cI cZ cC q0 o56.2) H := hP
          have hD : va_D A (wX8 cI cZ cC q0 o56.2) := hD
          refine lv_sipush (v := 1000) hx hb dX8_goRain_59 (by decide) ?_
          have hJ2 : ∀ (y0_2 : Int32), jX8_goRain_2 s4 o56 y0_2 = some r4 → ∀ (H : Heap) (locs : List Loc) (ls : Array Slot), va_P (dC, dI) vwCl (wX8 cI cZ cC q0 o56.2) H → va_D A (wX8 cI cZ cC q0 o56.2) → va_S A s.heap H locs → lv_has ls 5 [(0, .ref (q0 0)), (1, .int a1), (3, .int s4.2.1)] → W p l e (headSpec wsX8_goRain rmX8_goRain).room s m args below meth c H locs 0 0 (MQ below (va_Qi (fun r (_ : Unit) => r = out.1) (fun _ => poW (dC, dI) A (wX8 cI cZ cC q0 out.2)) A) args s 0 0 A) (F0 m 70 ls [.int y0_2, .int s4.1]) := by
            intro y0_2 hf H locs ls hP hD hS hl
            unfold jX8_goRain_2 at hf
            refine lv_iadd hx hb dX8_goRain_70 ?_
            refine lv_istore_n (lv' := [(2, .int (s4.1 + y0_2)), (0, .ref (q0 0)), (1, .int a1), (3, .int s4.2.1)]) hx hb dX8_goRain_71 rfl hl (by decide) rfl (fun ls hl => ?_)
            exact hJ1 _ _ hf _ _ ls hP hD hS (lv_sub hl [1, 2, 0, 3] rfl)
          refine lv_icmp_lt (tgt := 69) hx hb dX8_goRain_62 (by decide) (fun hc => ?_) (fun hc => ?_)
          · have hf := ot hc hf
            refine lv_iconst (v := 0) hx hb dX8_goRain_69 (by decide) ?_
            exact hJ2 _ hf _ _ ls hP hD hS (lv_sub hl [1, 2, 4] rfl)
          · have hf := oe hc hf
            refine lv_iconst (v := 1) hx hb dX8_goRain_65 (by decide) ?_
            refine lv_goto (tgt := 70) hx hb dX8_goRain_66 (by decide) ?_
            exact hJ2 _ hf _ _ ls hP hD hS (lv_sub hl [1, 2, 4] rfl)
        · have hf := oe hc hf
          refine lv_aload_n hx hb dX8_goRain_27 rfl (lv_at hl 1 rfl) ?_
          refine va_get (D := (dC, dI)) (ci := 7) (v := .ref (q0 1)) (C := RX8) (T := TX8) (N := 21) hx hb hts hin8 hown hK hP 0 rfl rfl 0 (by decide) hk0 (fun _ h9 => h9) rfl dX8_goRain_28 ?_
          refine lv_bipush (v := 6) hx hb dX8_goRain_31 (by decide) ?_
          refine lv_dup2_11 hx hb dX8_goRain_33 rfl rfl ?_
          have hin : vp_in (6 : Int32) 373 := by unfold vp_in; decide
          refine va_iald hx hb hK hP 1 0 rfl rfl hin dX8_goRain_34 ?_
          refine lv_iconst (v := 1) hx hb dX8_goRain_35 (by decide) ?_
          refine lv_iadd hx hb dX8_goRain_36 ?_
          have hin : vp_in (6 : Int32) 373 := by unfold vp_in; decide
          refine va_iast hx hb hK hP hD hS 1 0 rfl rfl hin dX8_goRain_37 (fun H locs hP hD hS => ?_)
          have hP : va_P (dC, dI) vwCl (wX8 cI cZ cC q0 ((upd (pX8_s o10.2) (6 : Int32).toNatClampNeg (((pX8_s o10.2) (6 : Int32).toNatClampNeg) + 1)), (pX8_aside o10.2), (pX8_past o10.2), (pX8_known o10.2), (pX8_kept o10.2), (pX8_isKept o10.2), (pX8_pad o10.2), (pX8_length o10.2), (pX8_whyError o10.2), (pX8_whyNumber o10.2), (pX8_whySpot o10.2), (pX8_lots o10.2), (pX8_walker o10.2), (pX8_steps o10.2), (pX8_goes o10.2), (pX8_becomes o10.2), (pX8_spot o10.2), (pX8_isForm o10.2), (pX8_letter o10.2), (pX8_told o10.2), (pX8_highest o10.2))) H := hP
          have hD : va_D A (wX8 cI cZ cC q0 ((upd (pX8_s o10.2) (6 : Int32).toNatClampNeg (((pX8_s o10.2) (6 : Int32).toNatClampNeg) + 1)), (pX8_aside o10.2), (pX8_past o10.2), (pX8_known o10.2), (pX8_kept o10.2), (pX8_isKept o10.2), (pX8_pad o10.2), (pX8_length o10.2), (pX8_whyError o10.2), (pX8_whyNumber o10.2), (pX8_whySpot o10.2), (pX8_lots o10.2), (pX8_walker o10.2), (pX8_steps o10.2), (pX8_goes o10.2), (pX8_becomes o10.2), (pX8_spot o10.2), (pX8_isForm o10.2), (pX8_letter o10.2), (pX8_told o10.2), (pX8_highest o10.2))) := hD
          refine lv_aload_n hx hb dX8_goRain_38 rfl (lv_at hl 1 rfl) ?_
          refine va_get (D := (dC, dI)) (ci := 7) (v := .ref (q0 1)) (C := RX8) (T := TX8) (N := 21) hx hb hts hin8 hown hK hP 0 rfl rfl 0 (by decide) hk0 (fun _ h9 => h9) rfl dX8_goRain_39 ?_
          refine lv_bipush (v := 7) hx hb dX8_goRain_42 (by decide) ?_
          refine lv_dup2_11 hx hb dX8_goRain_44 rfl rfl ?_
          have hin : vp_in (7 : Int32) 373 := by unfold vp_in; decide
          refine va_iald hx hb hK hP 1 0 rfl rfl hin dX8_goRain_45 ?_
          refine lv_iconst (v := 1) hx hb dX8_goRain_46 (by decide) ?_
          refine lv_iadd hx hb dX8_goRain_47 ?_
          have hin : vp_in (7 : Int32) 373 := by unfold vp_in; decide
          refine va_iast hx hb hK hP hD hS 1 0 rfl rfl hin dX8_goRain_48 (fun H locs hP hD hS => ?_)
          have hP : va_P (dC, dI) vwCl (wX8 cI cZ cC q0 ((upd (upd (pX8_s o10.2) (6 : Int32).toNatClampNeg (((pX8_s o10.2) (6 : Int32).toNatClampNeg) + 1)) (7 : Int32).toNatClampNeg (((upd (pX8_s o10.2) (6 : Int32).toNatClampNeg (((pX8_s o10.2) (6 : Int32).toNatClampNeg) + 1)) (7 : Int32).toNatClampNeg) + 1)), (pX8_aside o10.2), (pX8_past o10.2), (pX8_known o10.2), (pX8_kept o10.2), (pX8_isKept o10.2), (pX8_pad o10.2), (pX8_length o10.2), (pX8_whyError o10.2), (pX8_whyNumber o10.2), (pX8_whySpot o10.2), (pX8_lots o10.2), (pX8_walker o10.2), (pX8_steps o10.2), (pX8_goes o10.2), (pX8_becomes o10.2), (pX8_spot o10.2), (pX8_isForm o10.2), (pX8_letter o10.2), (pX8_told o10.2), (pX8_highest o10.2))) H := hP
          have hD : va_D A (wX8 cI cZ cC q0 ((upd (upd (pX8_s o10.2) (6 : Int32).toNatClampNeg (((pX8_s o10.2) (6 : Int32).toNatClampNeg) + 1)) (7 : Int32).toNatClampNeg (((upd (pX8_s o10.2) (6 : Int32).toNatClampNeg (((pX8_s o10.2) (6 : Int32).toNatClampNeg) + 1)) (7 : Int32).toNatClampNeg) + 1)), (pX8_aside o10.2), (pX8_past o10.2), (pX8_known o10.2), (pX8_kept o10.2), (pX8_isKept o10.2), (pX8_pad o10.2), (pX8_length o10.2), (pX8_whyError o10.2), (pX8_whyNumber o10.2), (pX8_whySpot o10.2), (pX8_lots o10.2), (pX8_walker o10.2), (pX8_steps o10.2), (pX8_goes o10.2), (pX8_becomes o10.2), (pX8_spot o10.2), (pX8_isForm o10.2), (pX8_letter o10.2), (pX8_told o10.2), (pX8_highest o10.2))) := hD
          refine lv_goto (tgt := 72) hx hb dX8_goRain_49 (by decide) ?_
          exact hJ1 _ _ hf _ _ ls hP hD hS (lv_sub hl [1, 2, 3, 4] rfl)
  obtain ⟨o4, ho4, hf⟩ := ob hf
  refine hL4 FU _ _ ho4 _ _ ls hP hD hS (lv_sub hl [2, 3, 1, 0] rfl) (fun H locs ls hP hD hS hl => ?_)
  refine lv_iload_n hx hb dX8_goRain_78 rfl (lv_at hl 0 rfl) ?_
  obtain rfl := Option.some.inj hf
  exact W.iret (v := o4.1) hx hb hr (fun t ht hW => ⟨⟨_, (), rfl, rfl, by rw [ht]; exact hP, hD⟩, hS.F ht⟩) hS.2.2 dX8_goRain_79
/-- RimGrainsModel.private int takesAway(); -/
def jX8_takesAway_1 (s11 : (Int32 × Int32 × GX8)) (x1_1 : Int32) (g0_1 : GX8) : Option ((Int32 × Int32 × GX8) ⊕ (Int32 × GX8)) :=
  some (.inl (x1_1, (s11.2.1 + 1), g0_1))
def jX8_takesAway_2 (s11 : (Int32 × Int32 × GX8)) (y0_2 : Int32) : Option ((Int32 × Int32 × GX8) ⊕ (Int32 × GX8)) :=
  ((fX8_of s11.2.1 0 ((pX8_s s11.2.2), (pX8_aside s11.2.2), (pX8_past s11.2.2), (pX8_known s11.2.2), (pX8_kept s11.2.2), (pX8_isKept s11.2.2), (pX8_pad s11.2.2), (pX8_length s11.2.2), (pX8_whyError s11.2.2), (pX8_whyNumber s11.2.2), (pX8_whySpot s11.2.2), (pX8_lots s11.2.2), (pX8_walker s11.2.2), (pX8_steps s11.2.2), (pX8_goes s11.2.2), (upd (pX8_becomes s11.2.2) s11.2.1.toNatClampNeg s11.1), (pX8_spot s11.2.2), (pX8_isForm s11.2.2), (pX8_letter s11.2.2), (pX8_told s11.2.2), (pX8_highest s11.2.2))).bind fun o59 => ((fX8_of s11.2.1 2 ((pX8_s s11.2.2), (pX8_aside s11.2.2), (pX8_past s11.2.2), (pX8_known s11.2.2), (pX8_kept s11.2.2), (pX8_isKept s11.2.2), (pX8_pad s11.2.2), (pX8_length s11.2.2), (pX8_whyError s11.2.2), (pX8_whyNumber s11.2.2), (pX8_whySpot s11.2.2), (pX8_lots s11.2.2), (pX8_walker s11.2.2), (pX8_steps s11.2.2), (pX8_goes s11.2.2), (upd (pX8_becomes s11.2.2) s11.2.1.toNatClampNeg s11.1), (pX8_spot s11.2.2), (pX8_isForm s11.2.2), (pX8_letter s11.2.2), (pX8_told s11.2.2), (pX8_highest s11.2.2))).bind fun o67 => ((fX8_adds o59 y0_2 o67 ((upd (pX8_s s11.2.2) (0 : Int32).toNatClampNeg s11.1), (pX8_aside s11.2.2), (pX8_past s11.2.2), (pX8_known s11.2.2), (pX8_kept s11.2.2), (pX8_isKept s11.2.2), (pX8_pad s11.2.2), (pX8_length s11.2.2), (pX8_whyError s11.2.2), (pX8_whyNumber s11.2.2), (pX8_whySpot s11.2.2), (pX8_lots s11.2.2), (pX8_walker s11.2.2), (pX8_steps s11.2.2), (pX8_goes s11.2.2), (upd (pX8_becomes s11.2.2) s11.2.1.toNatClampNeg s11.1), (pX8_spot s11.2.2), (pX8_isForm s11.2.2), (pX8_letter s11.2.2), (pX8_told s11.2.2), (pX8_highest s11.2.2))).bind fun o86 => jX8_takesAway_1 s11 (s11.1 + 1) o86)))
def tX8_takesAway_11 (g0 : GX8) (s11 : (Int32 × Int32 × GX8)) : Option ((Int32 × Int32 × GX8) ⊕ (Int32 × GX8)) :=
  (if ((pX8_s g0) (0 : Int32).toNatClampNeg) ≤ s11.2.1 then some (.inr (s11.1, s11.2.2)) else (if s11.2.1 < 0 ∨ 121 ≤ s11.2.1.toNatClampNeg then none else (if s11.2.1 < 0 ∨ 121 ≤ s11.2.1.toNatClampNeg then none else (if ((pX8_goes s11.2.2) s11.2.1.toNatClampNeg) = 0 then ((fX8_holder s11.2.1 ((pX8_s s11.2.2), (pX8_aside s11.2.2), (pX8_past s11.2.2), (pX8_known s11.2.2), (pX8_kept s11.2.2), (pX8_isKept s11.2.2), (pX8_pad s11.2.2), (pX8_length s11.2.2), (pX8_whyError s11.2.2), (pX8_whyNumber s11.2.2), (pX8_whySpot s11.2.2), (pX8_lots s11.2.2), (pX8_walker s11.2.2), (pX8_steps s11.2.2), (pX8_goes s11.2.2), (upd (pX8_becomes s11.2.2) s11.2.1.toNatClampNeg s11.1), (pX8_spot s11.2.2), (pX8_isForm s11.2.2), (pX8_letter s11.2.2), (pX8_told s11.2.2), (pX8_highest s11.2.2))).bind fun o34 => (if 0 ≤ o34 then ((fX8_holder s11.2.1 ((pX8_s s11.2.2), (pX8_aside s11.2.2), (pX8_past s11.2.2), (pX8_known s11.2.2), (pX8_kept s11.2.2), (pX8_isKept s11.2.2), (pX8_pad s11.2.2), (pX8_length s11.2.2), (pX8_whyError s11.2.2), (pX8_whyNumber s11.2.2), (pX8_whySpot s11.2.2), (pX8_lots s11.2.2), (pX8_walker s11.2.2), (pX8_steps s11.2.2), (pX8_goes s11.2.2), (upd (pX8_becomes s11.2.2) s11.2.1.toNatClampNeg s11.1), (pX8_spot s11.2.2), (pX8_isForm s11.2.2), (pX8_letter s11.2.2), (pX8_told s11.2.2), (pX8_highest s11.2.2))).bind fun o50 => (if o50 < 0 ∨ 121 ≤ o50.toNatClampNeg then none else jX8_takesAway_2 s11 ((upd (pX8_becomes s11.2.2) s11.2.1.toNatClampNeg s11.1) o50.toNatClampNeg))) else jX8_takesAway_2 s11 (-1))) else jX8_takesAway_1 s11 s11.1 ((pX8_s s11.2.2), (pX8_aside s11.2.2), (pX8_past s11.2.2), (pX8_known s11.2.2), (pX8_kept s11.2.2), (pX8_isKept s11.2.2), (pX8_pad s11.2.2), (pX8_length s11.2.2), (pX8_whyError s11.2.2), (pX8_whyNumber s11.2.2), (pX8_whySpot s11.2.2), (pX8_lots s11.2.2), (pX8_walker s11.2.2), (pX8_steps s11.2.2), (pX8_goes s11.2.2), (upd (pX8_becomes s11.2.2) s11.2.1.toNatClampNeg s11.1), (pX8_spot s11.2.2), (pX8_isForm s11.2.2), (pX8_letter s11.2.2), (pX8_told s11.2.2), (pX8_highest s11.2.2))))))
def tX8_takesAway_112 (s112 : (Int32 × GX8)) : Option ((Int32 × GX8) ⊕ (GX8)) :=
  (if 373 ≤ s112.1 then some (.inr s112.2) else (if s112.1 < 0 ∨ 373 ≤ s112.1.toNatClampNeg then none else some (.inl ((s112.1 + 1), ((upd (pX8_s s112.2) s112.1.toNatClampNeg 0), (pX8_aside s112.2), (pX8_past s112.2), (pX8_known s112.2), (pX8_kept s112.2), (pX8_isKept s112.2), (pX8_pad s112.2), (pX8_length s112.2), (pX8_whyError s112.2), (pX8_whyNumber s112.2), (pX8_whySpot s112.2), (pX8_lots s112.2), (pX8_walker s112.2), (pX8_steps s112.2), (pX8_goes s112.2), (pX8_becomes s112.2), (pX8_spot s112.2), (pX8_isForm s112.2), (pX8_letter s112.2), (pX8_told s112.2), (pX8_highest s112.2))))))
def fX8_takesAway (g0 : GX8) : Option (Int32 × GX8) :=
  ((lp (tX8_takesAway_11 g0) FU (0, 0, g0)).bind fun o11 => ((lp tX8_takesAway_112 FU ((10 + (3 * o11.1)), ((upd (pX8_s o11.2) (0 : Int32).toNatClampNeg o11.1), (pX8_aside o11.2), (pX8_past o11.2), (pX8_known o11.2), (pX8_kept o11.2), (pX8_isKept o11.2), (pX8_pad o11.2), (pX8_length o11.2), (pX8_whyError o11.2), (pX8_whyNumber o11.2), (pX8_whySpot o11.2), (pX8_lots o11.2), (pX8_walker o11.2), (pX8_steps o11.2), (pX8_goes o11.2), (pX8_becomes o11.2), (pX8_spot o11.2), (pX8_isForm o11.2), (pX8_letter o11.2), (pX8_told o11.2), (pX8_highest o11.2)))).bind fun o112 => some ((((pX8_s g0) (0 : Int32).toNatClampNeg) - o11.1), ((upd (pX8_s o112) (8 : Int32).toNatClampNeg (((pX8_s o112) (8 : Int32).toNatClampNeg) + (((pX8_s g0) (0 : Int32).toNatClampNeg) - o11.1))), (pX8_aside o112), (pX8_past o112), (pX8_known o112), (pX8_kept o112), (pX8_isKept o112), (pX8_pad o112), (pX8_length o112), (pX8_whyError o112), (pX8_whyNumber o112), (pX8_whySpot o112), (pX8_lots o112), (pX8_walker o112), (pX8_steps o112), (pX8_goes o112), (pX8_becomes o112), (pX8_spot o112), (pX8_isForm o112), (pX8_letter o112), (pX8_told o112), (pX8_highest o112)))))
abbrev rmX8_takesAway : Room := { frames := 2, cells := 0, slots := 0, locals := 43 }
set_option maxHeartbeats 4000000 in
set_option maxRecDepth 100000 in
theorem mX8_takesAway (l : Launch) (dC : Nat → ClassId) (dI : Nat → Nat → Nat) (cI cZ cC cO : ClassId) (q0 : Nat → Nat) (g0 : GX8) (sz : Nat) (out : Int32 × GX8) (hf : fX8_takesAway g0 = some out) : Met l yX8_takesAway wsX8_takesAway rmX8_takesAway (va_Pc [.ref (q0 0)] (pcW (dC, dI) (wTys cI cZ cC cO) sz (wX8 cI cZ cC q0 g0))) (va_Qi (fun r (_ : Unit) => r = out.1) (fun _ => poW (dC, dI) (va_A (wX8 cI cZ cC q0 g0) sz) (wX8 cI cZ cC q0 out.2)) (va_A (wX8 cI cZ cC q0 g0) sz)) 0 0 (va_A (wX8 cI cZ cC q0 g0) sz) := by
  refine Met.ofW (cc := cX8_takesAway) (maxL := 7) (ret := (some .int)) (by decide) rfl ?_
  intro p e s m args below meth c s₁ B hml hv
  obtain ⟨hargs, hsz, hP, hK, hN, hD0⟩ := hv
  have hx := B.exec
  have hb := B.bytes
  have hr := B.returns
  have hts := atoms_spec (ws := wsX8_takesAway) B.pre
  have hown : s.vm.findClass RX8 = some m.cls := findClass_of_methodNamed B.named
  have hlocks := B.notSynchronized
  have hk0 := hts (.fieldLink RX8 7 "RimGrainsModel" "s" "[I") (by decide +kernel)
  have hk1 := hts (.fieldLink RX8 29 "RimGrainsModel" "becomes" "[I") (by decide +kernel)
  have hk2 := hts (.fieldLink RX8 25 "RimGrainsModel" "goes" "[Z") (by decide +kernel)
  have hin8 : ∀ w ∈ wsX80, w ∈ wsX8_takesAway := by decide +kernel
  subst hsz
  have hD := hD0.self (sz := s.heap.size)
  generalize hAe : va_A (wX8 cI cZ cC q0 g0) s.heap.size = A at hD ⊢
  have hA : ∀ q : Nat, s.heap.size ≤ q → A q := fun q h => by rw [← hAe]; exact Or.inr h
  have hS : va_S A s.heap s.heap [] := va_S.rf
  have hE := lg_entry_eq m [.ref (q0 0)] 7
  rw [← hargs] at hE
  rw [hE]
  have hl := lv_entry [.ref (q0 0)] (n := 7) (Nat.le_of_ble_eq_true rfl)
  generalize (lg_sl [.ref (q0 0)] ++ List.replicate (7 - (lg_sl [.ref (q0 0)]).length) Slot.unset).toArray = ls at hl ⊢
  have hl : lv_has ls 7 [(0, .ref (q0 0))] := hl
  have hP : va_P (dC, dI) vwCl (wX8 cI cZ cC q0 g0) s.heap := hP
  unfold fX8_takesAway at hf
  refine lv_iconst (v := 0) hx hb dX8_takesAway_0 (by decide) ?_
  refine lv_istore_n (lv' := [(1, .int 0), (0, .ref (q0 0))]) hx hb dX8_takesAway_1 rfl hl (by decide) rfl (fun ls hl => ?_)
  refine lv_aload_n hx hb dX8_takesAway_2 rfl (lv_at hl 1 rfl) ?_
  refine va_get (D := (dC, dI)) (ci := 7) (v := .ref (q0 1)) (C := RX8) (T := TX8) (N := 21) hx hb hts hin8 hown hK hP 0 rfl rfl 0 (by decide) hk0 (fun _ h9 => h9) rfl dX8_takesAway_3 ?_
  refine lv_iconst (v := 0) hx hb dX8_takesAway_6 (by decide) ?_
  have hin : vp_in (0 : Int32) 373 := by unfold vp_in; decide
  refine va_iald hx hb hK hP 1 0 rfl rfl hin dX8_takesAway_7 ?_
  refine lv_istore_n (lv' := [(2, .int ((pX8_s g0) (0 : Int32).toNatClampNeg)), (1, .int 0), (0, .ref (q0 0))]) hx hb dX8_takesAway_8 rfl hl (by decide) rfl (fun ls hl => ?_)
  refine lv_iconst (v := 0) hx hb dX8_takesAway_9 (by decide) ?_
  refine lv_istore_n (lv' := [(3, .int 0), (2, .int ((pX8_s g0) (0 : Int32).toNatClampNeg)), (1, .int 0), (0, .ref (q0 0))]) hx hb dX8_takesAway_10 rfl hl (by decide) rfl (fun ls hl => ?_)
  have hL11 : ∀ (n : Nat) (s11 : Int32 × Int32 × GX8) (o11 : Int32 × GX8), lp (tX8_takesAway_11 g0) n s11 = some o11 → ∀ (H : Heap) (locs : List Loc) (ls : Array Slot), va_P (dC, dI) vwCl (wX8 cI cZ cC q0 s11.2.2) H → va_D A (wX8 cI cZ cC q0 s11.2.2) → va_S A s.heap H locs → lv_has ls 7 [(0, .ref (q0 0)), (1, .int s11.1), (2, .int ((pX8_s g0) (0 : Int32).toNatClampNeg)), (3, .int s11.2.1)] → (∀ (H : Heap) (locs : List Loc) (ls : Array Slot), va_P (dC, dI) vwCl (wX8 cI cZ cC q0 o11.2) H → va_D A (wX8 cI cZ cC q0 o11.2) → va_S A s.heap H locs → lv_has ls 7 [(0, .ref (q0 0)), (1, .int o11.1), (2, .int ((pX8_s g0) (0 : Int32).toNatClampNeg))] → W p l e (headSpec wsX8_takesAway rmX8_takesAway).room s m args below meth c H locs 0 0 (MQ below (va_Qi (fun r (_ : Unit) => r = out.1) (fun _ => poW (dC, dI) A (wX8 cI cZ cC q0 out.2)) A) args s 0 0 A) (F0 m 98 ls [])) → W p l e (headSpec wsX8_takesAway rmX8_takesAway).room s m args below meth c H locs 0 0 (MQ below (va_Qi (fun r (_ : Unit) => r = out.1) (fun _ => poW (dC, dI) A (wX8 cI cZ cC q0 out.2)) A) args s 0 0 A) (F0 m 11 ls []) := by
    intro n
    induction n with
    | zero => intro s11 o11 hf; exact (lp0 hf).elim
    | succ n ih11 =>
      intro s11 o11 hf H locs ls hP hD hS hl kx
      obtain ⟨r11, hf, hn⟩ := lps hf
      unfold tX8_takesAway_11 at hf
      refine lv_iload_n hx hb dX8_takesAway_11 rfl (lv_at hl 3 rfl) ?_
      refine lv_iload_n hx hb dX8_takesAway_12 rfl (lv_at hl 2 rfl) ?_
      refine lv_icmp_ge (tgt := 98) hx hb dX8_takesAway_13 (by decide) (fun hc => ?_) (fun hc => ?_)
      · have hf := ot hc hf
        obtain rfl := Option.some.inj hf
        obtain rfl := Option.some.inj hn
        exact kx _ _ ls hP hD hS (lv_sub hl [0, 1, 2] rfl)
      · have hf := oe hc hf
        refine lv_aload_n hx hb dX8_takesAway_16 rfl (lv_at hl 0 rfl) ?_
        refine va_get (D := (dC, dI)) (ci := 7) (v := .ref (q0 7)) (C := RX8) (T := TX8) (N := 21) hx hb hts hin8 hown hK hP 0 rfl rfl 15 (by decide) hk1 (fun _ h9 => h9) rfl dX8_takesAway_17 ?_
        refine lv_iload_n hx hb dX8_takesAway_20 rfl (lv_at hl 3 rfl) ?_
        refine lv_iload_n hx hb dX8_takesAway_21 rfl (lv_at hl 1 rfl) ?_
        obtain ⟨hin, hf⟩ := og hf
        refine va_iast hx hb hK hP hD hS 7 0 rfl rfl hin dX8_takesAway_22 (fun H locs hP hD hS => ?_)
        have hP : va_P (dC, dI) vwCl (wX8 cI cZ cC q0 ((pX8_s s11.2.2), (pX8_aside s11.2.2), (pX8_past s11.2.2), (pX8_known s11.2.2), (pX8_kept s11.2.2), (pX8_isKept s11.2.2), (pX8_pad s11.2.2), (pX8_length s11.2.2), (pX8_whyError s11.2.2), (pX8_whyNumber s11.2.2), (pX8_whySpot s11.2.2), (pX8_lots s11.2.2), (pX8_walker s11.2.2), (pX8_steps s11.2.2), (pX8_goes s11.2.2), (upd (pX8_becomes s11.2.2) s11.2.1.toNatClampNeg s11.1), (pX8_spot s11.2.2), (pX8_isForm s11.2.2), (pX8_letter s11.2.2), (pX8_told s11.2.2), (pX8_highest s11.2.2))) H := hP
        have hD : va_D A (wX8 cI cZ cC q0 ((pX8_s s11.2.2), (pX8_aside s11.2.2), (pX8_past s11.2.2), (pX8_known s11.2.2), (pX8_kept s11.2.2), (pX8_isKept s11.2.2), (pX8_pad s11.2.2), (pX8_length s11.2.2), (pX8_whyError s11.2.2), (pX8_whyNumber s11.2.2), (pX8_whySpot s11.2.2), (pX8_lots s11.2.2), (pX8_walker s11.2.2), (pX8_steps s11.2.2), (pX8_goes s11.2.2), (upd (pX8_becomes s11.2.2) s11.2.1.toNatClampNeg s11.1), (pX8_spot s11.2.2), (pX8_isForm s11.2.2), (pX8_letter s11.2.2), (pX8_told s11.2.2), (pX8_highest s11.2.2))) := hD
        refine lv_aload_n hx hb dX8_takesAway_23 rfl (lv_at hl 0 rfl) ?_
        refine va_get (D := (dC, dI)) (ci := 7) (v := .ref (q0 6)) (C := RX8) (T := TX8) (N := 21) hx hb hts hin8 hown hK hP 0 rfl rfl 14 (by decide) hk2 (fun _ h9 => h9) rfl dX8_takesAway_24 ?_
        refine lv_iload_n hx hb dX8_takesAway_27 rfl (lv_at hl 3 rfl) ?_
        obtain ⟨hin, hf⟩ := og hf
        refine va_zald hx hb hK hP 6 1 rfl rfl hin dX8_takesAway_28 ?_
        have hJ1 : ∀ (x1_1 : Int32) (g0_1 : GX8), jX8_takesAway_1 s11 x1_1 g0_1 = some r11 → ∀ (H : Heap) (locs : List Loc) (ls : Array Slot), va_P (dC, dI) vwCl (wX8 cI cZ cC q0 g0_1) H → va_D A (wX8 cI cZ cC q0 g0_1) → va_S A s.heap H locs → lv_has ls 7 [(0, .ref (q0 0)), (1, .int x1_1), (2, .int ((pX8_s g0) (0 : Int32).toNatClampNeg)), (3, .int s11.2.1)] → W p l e (headSpec wsX8_takesAway rmX8_takesAway).room s m args below meth c H locs 0 0 (MQ below (va_Qi (fun r (_ : Unit) => r = out.1) (fun _ => poW (dC, dI) A (wX8 cI cZ cC q0 out.2)) A) args s 0 0 A) (F0 m 92 ls []) := by
          intro x1_1 g0_1 hf H locs ls hP hD hS hl
          unfold jX8_takesAway_1 at hf
          refine lv_iinc (v := (s11.2.1 + 1)) (lv' := [(3, .int (s11.2.1 + 1)), (0, .ref (q0 0)), (1, .int x1_1), (2, .int ((pX8_s g0) (0 : Int32).toNatClampNeg))]) hx hb dX8_takesAway_92 hl (k := 3) rfl rfl (by decide) rfl (fun ls hl => ?_)
          refine lv_goto (tgt := 11) hx hb dX8_takesAway_95 (by decide) ?_
          obtain rfl := Option.some.inj hf
          exact ih11 _ _ hn _ _ ls hP hD hS (lv_sub hl [1, 2, 3, 0] rfl) kx
        refine lv_if_ne (tgt := 92) hx hb dX8_takesAway_29 (by decide) (fun hc => ?_) (fun hc => ?_)
        · have hf := oe hc hf
          exact hJ1 _ _ hf _ _ ls hP hD hS (lv_sub hl [0, 1, 2, 3] rfl)
        · have hf := ot hc hf
          refine lv_aload_n hx hb dX8_takesAway_32 rfl (lv_at hl 0 rfl) ?_
          refine lv_iload_n hx hb dX8_takesAway_33 rfl (lv_at hl 3 rfl) ?_
          obtain ⟨o34, ho34, hf⟩ := ob hf
          refine rV (rest := []) (As := [.int s11.2.1]) ⟨hx, hb, hml, hown, hts⟩ (mX8_holder l dC dI cI cZ cC cO q0 _ _ _ ho34) (cwV 1 hts gX8_takesAway_X8_holder rfl rfl rfl (by decide +kernel) ⟨Nat.le_of_ble_eq_true rfl, Nat.le_of_ble_eq_true rfl⟩) hK hN hP [0, 1, 2, 3, 4, 5, 6, 7, 8] rfl 7 rfl rfl rfl rfl hl.1 rfl (Nat.le_of_ble_eq_true rfl) dX8_takesAway_34 ⟨Nat.zero_le _, Nat.zero_le _⟩ ?_
          have hJ2 : ∀ (y0_2 : Int32), jX8_takesAway_2 s11 y0_2 = some r11 → ∀ (H : Heap) (locs : List Loc) (ls : Array Slot), va_P (dC, dI) vwCl (wX8 cI cZ cC q0 ((pX8_s s11.2.2), (pX8_aside s11.2.2), (pX8_past s11.2.2), (pX8_known s11.2.2), (pX8_kept s11.2.2), (pX8_isKept s11.2.2), (pX8_pad s11.2.2), (pX8_length s11.2.2), (pX8_whyError s11.2.2), (pX8_whyNumber s11.2.2), (pX8_whySpot s11.2.2), (pX8_lots s11.2.2), (pX8_walker s11.2.2), (pX8_steps s11.2.2), (pX8_goes s11.2.2), (upd (pX8_becomes s11.2.2) s11.2.1.toNatClampNeg s11.1), (pX8_spot s11.2.2), (pX8_isForm s11.2.2), (pX8_letter s11.2.2), (pX8_told s11.2.2), (pX8_highest s11.2.2))) H → va_D A (wX8 cI cZ cC q0 ((pX8_s s11.2.2), (pX8_aside s11.2.2), (pX8_past s11.2.2), (pX8_known s11.2.2), (pX8_kept s11.2.2), (pX8_isKept s11.2.2), (pX8_pad s11.2.2), (pX8_length s11.2.2), (pX8_whyError s11.2.2), (pX8_whyNumber s11.2.2), (pX8_whySpot s11.2.2), (pX8_lots s11.2.2), (pX8_walker s11.2.2), (pX8_steps s11.2.2), (pX8_goes s11.2.2), (upd (pX8_becomes s11.2.2) s11.2.1.toNatClampNeg s11.1), (pX8_spot s11.2.2), (pX8_isForm s11.2.2), (pX8_letter s11.2.2), (pX8_told s11.2.2), (pX8_highest s11.2.2))) → va_S A s.heap H locs → lv_has ls 7 [(0, .ref (q0 0)), (1, .int s11.1), (2, .int ((pX8_s g0) (0 : Int32).toNatClampNeg)), (3, .int s11.2.1)] → W p l e (headSpec wsX8_takesAway rmX8_takesAway).room s m args below meth c H locs 0 0 (MQ below (va_Qi (fun r (_ : Unit) => r = out.1) (fun _ => poW (dC, dI) A (wX8 cI cZ cC q0 out.2)) A) args s 0 0 A) (F0 m 54 ls [.int y0_2]) := by
            intro y0_2 hf H locs ls hP hD hS hl
            unfold jX8_takesAway_2 at hf
            refine lv_istore (lv' := [(4, .int y0_2), (0, .ref (q0 0)), (1, .int s11.1), (2, .int ((pX8_s g0) (0 : Int32).toNatClampNeg)), (3, .int s11.2.1)]) hx hb dX8_takesAway_54 hl (by decide) rfl (fun ls hl => ?_)
            refine lv_aload_n hx hb dX8_takesAway_56 rfl (lv_at hl 1 rfl) ?_
            refine lv_iload_n hx hb dX8_takesAway_57 rfl (lv_at hl 4 rfl) ?_
            refine lv_iconst (v := 0) hx hb dX8_takesAway_58 (by decide) ?_
            obtain ⟨o59, ho59, hf⟩ := ob hf
            refine rV (rest := []) (As := [.int s11.2.1, .int 0]) ⟨hx, hb, hml, hown, hts⟩ (mX8_of l dC dI cI cZ cC cO q0 _ _ _ _ ho59) (cwV 2 hts gX8_takesAway_X8_of rfl rfl rfl (by decide +kernel) ⟨Nat.le_of_ble_eq_true rfl, Nat.le_of_ble_eq_true rfl⟩) hK hN hP [0, 1, 2, 3, 4, 5, 6, 7, 8] rfl 7 rfl rfl rfl rfl hl.1 rfl (Nat.le_of_ble_eq_true rfl) dX8_takesAway_59 ⟨Nat.zero_le _, Nat.zero_le _⟩ ?_
            refine lv_istore (lv' := [(5, .int o59), (4, .int y0_2), (0, .ref (q0 0)), (1, .int s11.1), (2, .int ((pX8_s g0) (0 : Int32).toNatClampNeg)), (3, .int s11.2.1)]) hx hb dX8_takesAway_62 hl (by decide) rfl (fun ls hl => ?_)
            refine lv_aload_n hx hb dX8_takesAway_64 rfl (lv_at hl 2 rfl) ?_
            refine lv_iload_n hx hb dX8_takesAway_65 rfl (lv_at hl 5 rfl) ?_
            refine lv_iconst (v := 2) hx hb dX8_takesAway_66 (by decide) ?_
            obtain ⟨o67, ho67, hf⟩ := ob hf
            refine rV (rest := []) (As := [.int s11.2.1, .int 2]) ⟨hx, hb, hml, hown, hts⟩ (mX8_of l dC dI cI cZ cC cO q0 _ _ _ _ ho67) (cwV 2 hts gX8_takesAway_X8_of rfl rfl rfl (by decide +kernel) ⟨Nat.le_of_ble_eq_true rfl, Nat.le_of_ble_eq_true rfl⟩) hK hN hP [0, 1, 2, 3, 4, 5, 6, 7, 8] rfl 7 rfl rfl rfl rfl hl.1 rfl (Nat.le_of_ble_eq_true rfl) dX8_takesAway_67 ⟨Nat.zero_le _, Nat.zero_le _⟩ ?_
            refine lv_istore (lv' := [(6, .int o67), (5, .int o59), (4, .int y0_2), (0, .ref (q0 0)), (1, .int s11.1), (2, .int ((pX8_s g0) (0 : Int32).toNatClampNeg)), (3, .int s11.2.1)]) hx hb dX8_takesAway_70 hl (by decide) rfl (fun ls hl => ?_)
            refine lv_aload_n hx hb dX8_takesAway_72 rfl (lv_at hl 3 rfl) ?_
            refine va_get (D := (dC, dI)) (ci := 7) (v := .ref (q0 1)) (C := RX8) (T := TX8) (N := 21) hx hb hts hin8 hown hK hP 0 rfl rfl 0 (by decide) hk0 (fun _ h9 => h9) rfl dX8_takesAway_73 ?_
            refine lv_iconst (v := 0) hx hb dX8_takesAway_76 (by decide) ?_
            refine lv_iload_n hx hb dX8_takesAway_77 rfl (lv_at hl 4 rfl) ?_
            have hin : vp_in (0 : Int32) 373 := by unfold vp_in; decide
            refine va_iast hx hb hK hP hD hS 1 0 rfl rfl hin dX8_takesAway_78 (fun H locs hP hD hS => ?_)
            have hP : va_P (dC, dI) vwCl (wX8 cI cZ cC q0 ((upd (pX8_s s11.2.2) (0 : Int32).toNatClampNeg s11.1), (pX8_aside s11.2.2), (pX8_past s11.2.2), (pX8_known s11.2.2), (pX8_kept s11.2.2), (pX8_isKept s11.2.2), (pX8_pad s11.2.2), (pX8_length s11.2.2), (pX8_whyError s11.2.2), (pX8_whyNumber s11.2.2), (pX8_whySpot s11.2.2), (pX8_lots s11.2.2), (pX8_walker s11.2.2), (pX8_steps s11.2.2), (pX8_goes s11.2.2), (upd (pX8_becomes s11.2.2) s11.2.1.toNatClampNeg s11.1), (pX8_spot s11.2.2), (pX8_isForm s11.2.2), (pX8_letter s11.2.2), (pX8_told s11.2.2), (pX8_highest s11.2.2))) H := hP
            have hD : va_D A (wX8 cI cZ cC q0 ((upd (pX8_s s11.2.2) (0 : Int32).toNatClampNeg s11.1), (pX8_aside s11.2.2), (pX8_past s11.2.2), (pX8_known s11.2.2), (pX8_kept s11.2.2), (pX8_isKept s11.2.2), (pX8_pad s11.2.2), (pX8_length s11.2.2), (pX8_whyError s11.2.2), (pX8_whyNumber s11.2.2), (pX8_whySpot s11.2.2), (pX8_lots s11.2.2), (pX8_walker s11.2.2), (pX8_steps s11.2.2), (pX8_goes s11.2.2), (upd (pX8_becomes s11.2.2) s11.2.1.toNatClampNeg s11.1), (pX8_spot s11.2.2), (pX8_isForm s11.2.2), (pX8_letter s11.2.2), (pX8_told s11.2.2), (pX8_highest s11.2.2))) := hD
            refine lv_aload_n hx hb dX8_takesAway_79 rfl (lv_at hl 3 rfl) ?_
            refine lv_iload hx hb dX8_takesAway_80 (lv_at hl 1 rfl) ?_
            refine lv_iload hx hb dX8_takesAway_82 (lv_at hl 2 rfl) ?_
            refine lv_iload hx hb dX8_takesAway_84 (lv_at hl 0 rfl) ?_
            obtain ⟨o86, ho86, hf⟩ := ob hf
            refine wVv (W1 := (fun _ : Unit => (wX8 cI cZ cC q0 o86))) (rest := []) (As := [.int o59, .int y0_2, .int o67]) ⟨hx, hb, hml, hown, hts⟩ (mX8_adds l dC dI cI cZ cC cO q0 _ _ _ _ _ _ ho86) (cwV 3 hts gX8_takesAway_X8_adds rfl rfl rfl (by decide +kernel) ⟨Nat.le_of_ble_eq_true rfl, Nat.le_of_ble_eq_true rfl⟩) hK hN hP hD hS hA [0, 1, 2, 3, 4, 5, 6, 7, 8] [] [0, 1, 2, 3, 4, 5, 6, 7, 8] rfl rfl (by decide) (by decide) (fun _ => rfl) 7 rfl rfl rfl rfl hl.1 rfl (Nat.le_of_ble_eq_true rfl) dX8_takesAway_86 ⟨Nat.zero_le _, Nat.zero_le _⟩ (fun _ H locs hP hD hS => ?_)
            have hP : va_P (dC, dI) vwCl (wX8 cI cZ cC q0 o86) H := hP
            have hD : va_D A (wX8 cI cZ cC q0 o86) := hD
            refine lv_iinc (v := (s11.1 + 1)) (lv' := [(1, .int (s11.1 + 1)), (6, .int o67), (5, .int o59), (4, .int y0_2), (0, .ref (q0 0)), (2, .int ((pX8_s g0) (0 : Int32).toNatClampNeg)), (3, .int s11.2.1)]) hx hb dX8_takesAway_89 hl (k := 4) rfl rfl (by decide) rfl (fun ls hl => ?_)
            exact hJ1 _ _ hf _ _ ls hP hD hS (lv_sub hl [4, 0, 5, 6] rfl)
          refine lv_if_ge (tgt := 44) hx hb dX8_takesAway_37 (by decide) (fun hc => ?_) (fun hc => ?_)
          · have hf := ot hc hf
            refine lv_aload_n hx hb dX8_takesAway_44 rfl (lv_at hl 0 rfl) ?_
            refine va_get (D := (dC, dI)) (ci := 7) (v := .ref (q0 7)) (C := RX8) (T := TX8) (N := 21) hx hb hts hin8 hown hK hP 0 rfl rfl 15 (by decide) hk1 (fun _ h9 => h9) rfl dX8_takesAway_45 ?_
            refine lv_aload_n hx hb dX8_takesAway_48 rfl (lv_at hl 0 rfl) ?_
            refine lv_iload_n hx hb dX8_takesAway_49 rfl (lv_at hl 3 rfl) ?_
            obtain ⟨o50, ho50, hf⟩ := ob hf
            refine rV (rest := [.ref (q0 7)]) (As := [.int s11.2.1]) ⟨hx, hb, hml, hown, hts⟩ (mX8_holder l dC dI cI cZ cC cO q0 _ _ _ ho50) (cwV 1 hts gX8_takesAway_X8_holder rfl rfl rfl (by decide +kernel) ⟨Nat.le_of_ble_eq_true rfl, Nat.le_of_ble_eq_true rfl⟩) hK hN hP [0, 1, 2, 3, 4, 5, 6, 7, 8] rfl 7 rfl rfl rfl rfl hl.1 rfl (Nat.le_of_ble_eq_true rfl) dX8_takesAway_50 ⟨Nat.zero_le _, Nat.zero_le _⟩ ?_
            obtain ⟨hin, hf⟩ := og hf
            refine va_iald hx hb hK hP 7 0 rfl rfl hin dX8_takesAway_53 ?_
            exact hJ2 _ hf _ _ ls hP hD hS (lv_sub hl [0, 1, 2, 3] rfl)
          · have hf := oe hc hf
            refine lv_iconst (v := (-1)) hx hb dX8_takesAway_40 (by decide) ?_
            refine lv_goto (tgt := 54) hx hb dX8_takesAway_41 (by decide) ?_
            exact hJ2 _ hf _ _ ls hP hD hS (lv_sub hl [0, 1, 2, 3] rfl)
  obtain ⟨o11, ho11, hf⟩ := ob hf
  refine hL11 FU _ _ ho11 _ _ ls hP hD hS (lv_sub hl [3, 2, 1, 0] rfl) (fun H locs ls hP hD hS hl => ?_)
  refine lv_aload_n hx hb dX8_takesAway_98 rfl (lv_at hl 0 rfl) ?_
  refine va_get (D := (dC, dI)) (ci := 7) (v := .ref (q0 1)) (C := RX8) (T := TX8) (N := 21) hx hb hts hin8 hown hK hP 0 rfl rfl 0 (by decide) hk0 (fun _ h9 => h9) rfl dX8_takesAway_99 ?_
  refine lv_iconst (v := 0) hx hb dX8_takesAway_102 (by decide) ?_
  refine lv_iload_n hx hb dX8_takesAway_103 rfl (lv_at hl 1 rfl) ?_
  have hin : vp_in (0 : Int32) 373 := by unfold vp_in; decide
  refine va_iast hx hb hK hP hD hS 1 0 rfl rfl hin dX8_takesAway_104 (fun H locs hP hD hS => ?_)
  have hP : va_P (dC, dI) vwCl (wX8 cI cZ cC q0 ((upd (pX8_s o11.2) (0 : Int32).toNatClampNeg o11.1), (pX8_aside o11.2), (pX8_past o11.2), (pX8_known o11.2), (pX8_kept o11.2), (pX8_isKept o11.2), (pX8_pad o11.2), (pX8_length o11.2), (pX8_whyError o11.2), (pX8_whyNumber o11.2), (pX8_whySpot o11.2), (pX8_lots o11.2), (pX8_walker o11.2), (pX8_steps o11.2), (pX8_goes o11.2), (pX8_becomes o11.2), (pX8_spot o11.2), (pX8_isForm o11.2), (pX8_letter o11.2), (pX8_told o11.2), (pX8_highest o11.2))) H := hP
  have hD : va_D A (wX8 cI cZ cC q0 ((upd (pX8_s o11.2) (0 : Int32).toNatClampNeg o11.1), (pX8_aside o11.2), (pX8_past o11.2), (pX8_known o11.2), (pX8_kept o11.2), (pX8_isKept o11.2), (pX8_pad o11.2), (pX8_length o11.2), (pX8_whyError o11.2), (pX8_whyNumber o11.2), (pX8_whySpot o11.2), (pX8_lots o11.2), (pX8_walker o11.2), (pX8_steps o11.2), (pX8_goes o11.2), (pX8_becomes o11.2), (pX8_spot o11.2), (pX8_isForm o11.2), (pX8_letter o11.2), (pX8_told o11.2), (pX8_highest o11.2))) := hD
  refine lv_bipush (v := 10) hx hb dX8_takesAway_105 (by decide) ?_
  refine lv_iconst (v := 3) hx hb dX8_takesAway_107 (by decide) ?_
  refine lv_iload_n hx hb dX8_takesAway_108 rfl (lv_at hl 1 rfl) ?_
  refine lv_imul hx hb dX8_takesAway_109 ?_
  refine lv_iadd hx hb dX8_takesAway_110 ?_
  refine lv_istore_n (lv' := [(3, .int (10 + (3 * o11.1))), (0, .ref (q0 0)), (1, .int o11.1), (2, .int ((pX8_s g0) (0 : Int32).toNatClampNeg))]) hx hb dX8_takesAway_111 rfl hl (by decide) rfl (fun ls hl => ?_)
  have hL112 : ∀ (n : Nat) (s112 : Int32 × GX8) (o112 : GX8), lp tX8_takesAway_112 n s112 = some o112 → ∀ (H : Heap) (locs : List Loc) (ls : Array Slot), va_P (dC, dI) vwCl (wX8 cI cZ cC q0 s112.2) H → va_D A (wX8 cI cZ cC q0 s112.2) → va_S A s.heap H locs → lv_has ls 7 [(0, .ref (q0 0)), (1, .int o11.1), (2, .int ((pX8_s g0) (0 : Int32).toNatClampNeg)), (3, .int s112.1)] → (∀ (H : Heap) (locs : List Loc) (ls : Array Slot), va_P (dC, dI) vwCl (wX8 cI cZ cC q0 o112) H → va_D A (wX8 cI cZ cC q0 o112) → va_S A s.heap H locs → lv_has ls 7 [(0, .ref (q0 0)), (1, .int o11.1), (2, .int ((pX8_s g0) (0 : Int32).toNatClampNeg))] → W p l e (headSpec wsX8_takesAway rmX8_takesAway).room s m args below meth c H locs 0 0 (MQ below (va_Qi (fun r (_ : Unit) => r = out.1) (fun _ => poW (dC, dI) A (wX8 cI cZ cC q0 out.2)) A) args s 0 0 A) (F0 m 132 ls [])) → W p l e (headSpec wsX8_takesAway rmX8_takesAway).room s m args below meth c H locs 0 0 (MQ below (va_Qi (fun r (_ : Unit) => r = out.1) (fun _ => poW (dC, dI) A (wX8 cI cZ cC q0 out.2)) A) args s 0 0 A) (F0 m 112 ls []) := by
    intro n
    induction n with
    | zero => intro s112 o112 hf; exact (lp0 hf).elim
    | succ n ih112 =>
      intro s112 o112 hf H locs ls hP hD hS hl kx
      obtain ⟨r112, hf, hn⟩ := lps hf
      unfold tX8_takesAway_112 at hf
      refine lv_iload_n hx hb dX8_takesAway_112 rfl (lv_at hl 3 rfl) ?_
      refine lv_sipush (v := 373) hx hb dX8_takesAway_113 (by decide) ?_
      refine lv_icmp_ge (tgt := 132) hx hb dX8_takesAway_116 (by decide) (fun hc => ?_) (fun hc => ?_)
      · have hf := ot hc hf
        obtain rfl := Option.some.inj hf
        obtain rfl := Option.some.inj hn
        exact kx _ _ ls hP hD hS (lv_sub hl [0, 1, 2] rfl)
      · have hf := oe hc hf
        refine lv_aload_n hx hb dX8_takesAway_119 rfl (lv_at hl 0 rfl) ?_
        refine va_get (D := (dC, dI)) (ci := 7) (v := .ref (q0 1)) (C := RX8) (T := TX8) (N := 21) hx hb hts hin8 hown hK hP 0 rfl rfl 0 (by decide) hk0 (fun _ h9 => h9) rfl dX8_takesAway_120 ?_
        refine lv_iload_n hx hb dX8_takesAway_123 rfl (lv_at hl 3 rfl) ?_
        refine lv_iconst (v := 0) hx hb dX8_takesAway_124 (by decide) ?_
        obtain ⟨hin, hf⟩ := og hf
        refine va_iast hx hb hK hP hD hS 1 0 rfl rfl hin dX8_takesAway_125 (fun H locs hP hD hS => ?_)
        have hP : va_P (dC, dI) vwCl (wX8 cI cZ cC q0 ((upd (pX8_s s112.2) s112.1.toNatClampNeg 0), (pX8_aside s112.2), (pX8_past s112.2), (pX8_known s112.2), (pX8_kept s112.2), (pX8_isKept s112.2), (pX8_pad s112.2), (pX8_length s112.2), (pX8_whyError s112.2), (pX8_whyNumber s112.2), (pX8_whySpot s112.2), (pX8_lots s112.2), (pX8_walker s112.2), (pX8_steps s112.2), (pX8_goes s112.2), (pX8_becomes s112.2), (pX8_spot s112.2), (pX8_isForm s112.2), (pX8_letter s112.2), (pX8_told s112.2), (pX8_highest s112.2))) H := hP
        have hD : va_D A (wX8 cI cZ cC q0 ((upd (pX8_s s112.2) s112.1.toNatClampNeg 0), (pX8_aside s112.2), (pX8_past s112.2), (pX8_known s112.2), (pX8_kept s112.2), (pX8_isKept s112.2), (pX8_pad s112.2), (pX8_length s112.2), (pX8_whyError s112.2), (pX8_whyNumber s112.2), (pX8_whySpot s112.2), (pX8_lots s112.2), (pX8_walker s112.2), (pX8_steps s112.2), (pX8_goes s112.2), (pX8_becomes s112.2), (pX8_spot s112.2), (pX8_isForm s112.2), (pX8_letter s112.2), (pX8_told s112.2), (pX8_highest s112.2))) := hD
        refine lv_iinc (v := (s112.1 + 1)) (lv' := [(3, .int (s112.1 + 1)), (0, .ref (q0 0)), (1, .int o11.1), (2, .int ((pX8_s g0) (0 : Int32).toNatClampNeg))]) hx hb dX8_takesAway_126 hl (k := 3) rfl rfl (by decide) rfl (fun ls hl => ?_)
        refine lv_goto (tgt := 112) hx hb dX8_takesAway_129 (by decide) ?_
        obtain rfl := Option.some.inj hf
        exact ih112 _ _ hn _ _ ls hP hD hS (lv_sub hl [1, 2, 3, 0] rfl) kx
  obtain ⟨o112, ho112, hf⟩ := ob hf
  refine hL112 FU _ _ ho112 _ _ ls hP hD hS (lv_sub hl [1, 2, 3, 0] rfl) (fun H locs ls hP hD hS hl => ?_)
  refine lv_aload_n hx hb dX8_takesAway_132 rfl (lv_at hl 0 rfl) ?_
  refine va_get (D := (dC, dI)) (ci := 7) (v := .ref (q0 1)) (C := RX8) (T := TX8) (N := 21) hx hb hts hin8 hown hK hP 0 rfl rfl 0 (by decide) hk0 (fun _ h9 => h9) rfl dX8_takesAway_133 ?_
  refine lv_bipush (v := 8) hx hb dX8_takesAway_136 (by decide) ?_
  refine lv_dup2_11 hx hb dX8_takesAway_138 rfl rfl ?_
  have hin : vp_in (8 : Int32) 373 := by unfold vp_in; decide
  refine va_iald hx hb hK hP 1 0 rfl rfl hin dX8_takesAway_139 ?_
  refine lv_iload_n hx hb dX8_takesAway_140 rfl (lv_at hl 2 rfl) ?_
  refine lv_iload_n hx hb dX8_takesAway_141 rfl (lv_at hl 1 rfl) ?_
  refine lv_isub hx hb dX8_takesAway_142 ?_
  refine lv_iadd hx hb dX8_takesAway_143 ?_
  have hin : vp_in (8 : Int32) 373 := by unfold vp_in; decide
  refine va_iast hx hb hK hP hD hS 1 0 rfl rfl hin dX8_takesAway_144 (fun H locs hP hD hS => ?_)
  have hP : va_P (dC, dI) vwCl (wX8 cI cZ cC q0 ((upd (pX8_s o112) (8 : Int32).toNatClampNeg (((pX8_s o112) (8 : Int32).toNatClampNeg) + (((pX8_s g0) (0 : Int32).toNatClampNeg) - o11.1))), (pX8_aside o112), (pX8_past o112), (pX8_known o112), (pX8_kept o112), (pX8_isKept o112), (pX8_pad o112), (pX8_length o112), (pX8_whyError o112), (pX8_whyNumber o112), (pX8_whySpot o112), (pX8_lots o112), (pX8_walker o112), (pX8_steps o112), (pX8_goes o112), (pX8_becomes o112), (pX8_spot o112), (pX8_isForm o112), (pX8_letter o112), (pX8_told o112), (pX8_highest o112))) H := hP
  have hD : va_D A (wX8 cI cZ cC q0 ((upd (pX8_s o112) (8 : Int32).toNatClampNeg (((pX8_s o112) (8 : Int32).toNatClampNeg) + (((pX8_s g0) (0 : Int32).toNatClampNeg) - o11.1))), (pX8_aside o112), (pX8_past o112), (pX8_known o112), (pX8_kept o112), (pX8_isKept o112), (pX8_pad o112), (pX8_length o112), (pX8_whyError o112), (pX8_whyNumber o112), (pX8_whySpot o112), (pX8_lots o112), (pX8_walker o112), (pX8_steps o112), (pX8_goes o112), (pX8_becomes o112), (pX8_spot o112), (pX8_isForm o112), (pX8_letter o112), (pX8_told o112), (pX8_highest o112))) := hD
  refine lv_iload_n hx hb dX8_takesAway_145 rfl (lv_at hl 2 rfl) ?_
  refine lv_iload_n hx hb dX8_takesAway_146 rfl (lv_at hl 1 rfl) ?_
  refine lv_isub hx hb dX8_takesAway_147 ?_
  obtain rfl := Option.some.inj hf
  exact W.iret (v := (((pX8_s g0) (0 : Int32).toNatClampNeg) - o11.1)) hx hb hr (fun t ht hW => ⟨⟨_, (), rfl, rfl, by rw [ht]; exact hP, hD⟩, hS.F ht⟩) hS.2.2 dX8_takesAway_148
