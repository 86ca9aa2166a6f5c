set_option maxHeartbeats 4000000 in
set_option maxRecDepth 100000 in
theorem mX4_mark (l : Launch) (dC : Nat → ClassId) (dI : Nat → Nat → Nat) (cI cZ cC cO : ClassId) (q0 : Nat → Nat) (a1 : Int32) (a2 : Int32) (g0 : GX4) (sz : Nat) (out : GX4) (hf : fX4_mark a1 a2 g0 = some out) : Met l yX4_mark wsX4_mark rmX4_mark (va_Pc [.ref (q0 0), .int a1, .int a2] (pcW (dC, dI) (wTys cI cZ cC cO) sz (wX4 cI cZ cC q0 g0))) (va_Qv (fun (_ : Unit) => True) (fun _ => poW (dC, dI) (va_A (wX4 cI cZ cC q0 g0) sz) (wX4 cI cZ cC q0 out)) (va_A (wX4 cI cZ cC q0 g0) sz)) 0 0 (va_A (wX4 cI cZ cC q0 g0) sz) := by
  refine Met.ofW (cc := cX4_mark) (maxL := 3) (ret := none) (by decide) rfl ?_
  intro p e s m args below meth c s₁ B hml hv
  obtain ⟨hargs, hsz, hP, hK, hN, hD0⟩ := hv
  have hx := B.exec
  have hb := B.bytes
  have hr := B.returns
  have hts := atoms_spec (ws := wsX4_mark) B.pre
  have hown : s.vm.findClass RX4 = some m.cls := findClass_of_methodNamed B.named
  have hlocks := B.notSynchronized
  have hk0 := hts (.fieldLink RX4 21 "RimGrains$State" "grainsByCell" "[I") (by decide +kernel)
  have hin4 : ∀ w ∈ wsX40, w ∈ wsX4_mark := by decide +kernel
  subst hsz
  have hD := hD0.self (sz := s.heap.size)
  generalize hAe : va_A (wX4 cI cZ cC q0 g0) s.heap.size = A at hD ⊢
  have hA : ∀ q : Nat, s.heap.size ≤ q → A q := fun q h => by rw [← hAe]; exact Or.inr h
  have hS : va_S A s.heap s.heap [] := va_S.rf
  have hE := lg_entry_eq m [.ref (q0 0), .int a1, .int a2] 3
  rw [← hargs] at hE
  rw [hE]
  have hl := lv_entry [.ref (q0 0), .int a1, .int a2] (n := 3) (Nat.le_of_ble_eq_true rfl)
  generalize (lg_sl [.ref (q0 0), .int a1, .int a2] ++ List.replicate (3 - (lg_sl [.ref (q0 0), .int a1, .int a2]).length) Slot.unset).toArray = ls at hl ⊢
  have hl : lv_has ls 3 [(0, .ref (q0 0)), (1, .int a1), (2, .int a2)] := hl
  have hP : va_P (dC, dI) vwCl (wX4 cI cZ cC q0 g0) s.heap := hP
  unfold fX4_mark at hf
  refine lv_iload_n hx hb dX4_mark_0 rfl (lv_at hl 1 rfl) ?_
  obtain ⟨o1, ho1, hf⟩ := ob hf
  refine rS (rest := []) (As := [.int a1]) ⟨hx, hb, hml, hown, hts⟩ (mX2_isCell l dC dI cI cZ cC cO  _ _ ho1) (va_cwS 1 hts gX4_mark_X2_isCell rfl rfl rfl (by decide +kernel) ⟨Nat.le_of_ble_eq_true rfl, Nat.le_of_ble_eq_true rfl⟩) hK hN hP [] rfl rfl hl.1 rfl (Nat.le_of_ble_eq_true rfl) dX4_mark_1 ⟨Nat.zero_le _, Nat.zero_le _⟩ ?_
  refine lv_if_eq (tgt := 14) hx hb dX4_mark_4 (by decide) (fun hc => ?_) (fun hc => ?_)
  · have hf := ot hc hf
    obtain rfl := Option.some.inj hf
    exact W.vret hx hb hr (fun t ht hW => ⟨⟨(), rfl, trivial, by rw [ht]; exact hP, hD⟩, hS.F ht⟩) hS.2.2 dX4_mark_14
  · have hf := oe hc hf
    refine lv_aload_n hx hb dX4_mark_7 rfl (lv_at hl 0 rfl) ?_
    refine va_get (D := (dC, dI)) (ci := 3) (v := .ref (q0 4)) (C := RX4) (T := TX4) (N := 11) hx hb hts hin4 hown hK hP 0 rfl rfl 3 (by decide) hk0 (fun _ h9 => h9) rfl dX4_mark_8 ?_
    refine lv_iload_n hx hb dX4_mark_11 rfl (lv_at hl 1 rfl) ?_
    refine lv_iload_n hx hb dX4_mark_12 rfl (lv_at hl 2 rfl) ?_
    obtain ⟨hin, hf⟩ := og hf
    refine va_iast hx hb hK hP hD hS 4 0 rfl rfl hin dX4_mark_13 (fun H locs hP hD hS => ?_)
    have hP : va_P (dC, dI) vwCl (wX4 cI cZ cC q0 ((pX4_cells g0), (pX4_holders g0), (pX4_steps g0), (upd (pX4_grainsByCell g0) a1.toNatClampNeg a2), (pX4_settings g0), (pX4_grains g0), (pX4_lot g0), (pX4_released g0), (pX4_lost g0), (pX4_gone g0), (pX4_walked g0))) H := hP
    have hD : va_D A (wX4 cI cZ cC q0 ((pX4_cells g0), (pX4_holders g0), (pX4_steps g0), (upd (pX4_grainsByCell g0) a1.toNatClampNeg a2), (pX4_settings g0), (pX4_grains g0), (pX4_lot g0), (pX4_released g0), (pX4_lost g0), (pX4_gone g0), (pX4_walked g0))) := hD
    obtain rfl := Option.some.inj hf
    exact W.vret hx hb hr (fun t ht hW => ⟨⟨(), rfl, trivial, by rw [ht]; exact hP, hD⟩, hS.F ht⟩) hS.2.2 dX4_mark_14
set_option maxHeartbeats 4000000 in
set_option maxRecDepth 100000 in
theorem mX4_isRootCell (l : Launch) (dC : Nat → ClassId) (dI : Nat → Nat → Nat) (cI cZ cC cO : ClassId) (a0 : Int32) (a1 : Int32) (out : Int32) (hf : fX4_isRootCell a0 a1 = some out) : Met l yX4_isRootCell wsX4_isRootCell rmX4_isRootCell (va_Pc [.int a0, .int a1] (pcR (dC, dI) (wTys cI cZ cC cO) ([] : va_W))) (vp_Si (fun r => r = out)) 0 0 (fun _ => False) := by
  refine Met.ofW (cc := cX4_isRootCell) (maxL := 2) (ret := (some .boolean)) (by decide) rfl ?_
  intro p e s m args below meth c s₁ B hml hv
  obtain ⟨hargs, hP, hK, hN⟩ := hv
  have hx := B.exec
  have hb := B.bytes
  have hr := B.returns
  have hts := atoms_spec (ws := wsX4_isRootCell) B.pre
  have hown : s.vm.findClass RX4 = some m.cls := findClass_of_methodNamed B.named
  have hlocks := B.notSynchronized
  have hE := lg_entry_eq m [.int a0, .int a1] 2
  rw [← hargs] at hE
  rw [hE]
  have hl := lv_entry [.int a0, .int a1] (n := 2) (Nat.le_of_ble_eq_true rfl)
  generalize (lg_sl [.int a0, .int a1] ++ List.replicate (2 - (lg_sl [.int a0, .int a1]).length) Slot.unset).toArray = ls at hl ⊢
  have hl : lv_has ls 2 [(0, .int a0), (1, .int a1)] := hl
  unfold fX4_isRootCell at hf
  refine lv_iload_n hx hb dX4_isRootCell_0 rfl (lv_at hl 0 rfl) ?_
  by_cases hs1_0 : a0 = 0
  · have hf := ot hs1_0 hf
    refine lv_lookup (off := 27) (tgt := 28) hx hb dX4_isRootCell_1 (by decide) (by rw [hs1_0]; decide) (by decide) ?_
    refine lv_iload_n hx hb dX4_isRootCell_28 rfl (lv_at hl 1 rfl) ?_
    obtain ⟨o29, ho29, hf⟩ := ob hf
    refine rS (rest := []) (As := [.int a1]) ⟨hx, hb, hml, hown, hts⟩ (mX2_ringOf l dC dI cI cZ cC cO  _ _ ho29) (va_cwS 1 hts gX4_isRootCell_X2_ringOf rfl rfl rfl (by decide +kernel) ⟨Nat.le_of_ble_eq_true rfl, Nat.le_of_ble_eq_true rfl⟩) hK hN hP [] rfl rfl hl.1 rfl (Nat.le_of_ble_eq_true rfl) dX4_isRootCell_29 ⟨Nat.zero_le _, Nat.zero_le _⟩ ?_
    refine lv_if_ne (tgt := 39) hx hb dX4_isRootCell_32 (by decide) (fun hc => ?_) (fun hc => ?_)
    · have hf := oe hc hf
      refine lv_iconst (v := 0) hx hb dX4_isRootCell_39 (by decide) ?_
      obtain rfl := Option.some.inj hf
      exact W.zret (v := 0) (ty := .boolean) hx hb hr rfl (fun t ht hW => ⟨_, rfl, rfl, ht⟩) (fun _ h => by cases h) dX4_isRootCell_40
    · have hf := ot hc hf
      refine lv_iconst (v := 1) hx hb dX4_isRootCell_35 (by decide) ?_
      refine lv_goto (tgt := 40) hx hb dX4_isRootCell_36 (by decide) ?_
      obtain rfl := Option.some.inj hf
      exact W.zret (v := 1) (ty := .boolean) hx hb hr rfl (fun t ht hW => ⟨_, rfl, rfl, ht⟩) (fun _ h => by cases h) dX4_isRootCell_40
  have hf := oe hs1_0 hf
  by_cases hs1_1 : a0 = 1
  · have hf := ot hs1_1 hf
    refine lv_lookup (off := 40) (tgt := 41) hx hb dX4_isRootCell_1 (by decide) (by rw [hs1_1]; decide) (by decide) ?_
    refine lv_iload_n hx hb dX4_isRootCell_41 rfl (lv_at hl 1 rfl) ?_
    refine lv_bipush (v := 11) hx hb dX4_isRootCell_42 (by decide) ?_
    refine lv_idiv hx hb dX4_isRootCell_44 (by decide) ?_
    refine lv_bipush (v := 10) hx hb dX4_isRootCell_45 (by decide) ?_
    refine lv_icmp_ne (tgt := 54) hx hb dX4_isRootCell_47 (by decide) (fun hc => ?_) (fun hc => ?_)
    · have hf := oe hc hf
      refine lv_iconst (v := 0) hx hb dX4_isRootCell_54 (by decide) ?_
      obtain rfl := Option.some.inj hf
      exact W.zret (v := 0) (ty := .boolean) hx hb hr rfl (fun t ht hW => ⟨_, rfl, rfl, ht⟩) (fun _ h => by cases h) dX4_isRootCell_55
    · have hf := ot hc hf
      refine lv_iconst (v := 1) hx hb dX4_isRootCell_50 (by decide) ?_
      refine lv_goto (tgt := 55) hx hb dX4_isRootCell_51 (by decide) ?_
      obtain rfl := Option.some.inj hf
      exact W.zret (v := 1) (ty := .boolean) hx hb hr rfl (fun t ht hW => ⟨_, rfl, rfl, ht⟩) (fun _ h => by cases h) dX4_isRootCell_55
  have hf := oe hs1_1 hf
  refine lv_lookup (off := 55) (tgt := 56) hx hb dX4_isRootCell_1 (by decide) (by show Op.lookupswitch.offset [(0, 27), (1, 40)] _ _ = _; rw [lv_osw (a := 0) hs1_0 rfl, lv_osw (a := 1) hs1_1 rfl]; rfl) (by decide) ?_
  refine lv_iload_n hx hb dX4_isRootCell_56 rfl (lv_at hl 1 rfl) ?_
  obtain ⟨o57, ho57, hf⟩ := ob hf
  refine rS (rest := []) (As := [.int a1]) ⟨hx, hb, hml, hown, hts⟩ (mX2_ringOf l dC dI cI cZ cC cO  _ _ ho57) (va_cwS 1 hts gX4_isRootCell_X2_ringOf rfl rfl rfl (by decide +kernel) ⟨Nat.le_of_ble_eq_true rfl, Nat.le_of_ble_eq_true rfl⟩) hK hN hP [] rfl rfl hl.1 rfl (Nat.le_of_ble_eq_true rfl) dX4_isRootCell_57 ⟨Nat.zero_le _, Nat.zero_le _⟩ ?_
  refine lv_iconst (v := 2) hx hb dX4_isRootCell_60 (by decide) ?_
  refine lv_icmp_ne (tgt := 68) hx hb dX4_isRootCell_61 (by decide) (fun hc => ?_) (fun hc => ?_)
  · have hf := oe hc hf
    refine lv_iconst (v := 0) hx hb dX4_isRootCell_68 (by decide) ?_
    obtain rfl := Option.some.inj hf
    exact W.zret (v := 0) (ty := .boolean) hx hb hr rfl (fun t ht hW => ⟨_, rfl, rfl, ht⟩) (fun _ h => by cases h) dX4_isRootCell_69
  · have hf := ot hc hf
    refine lv_iconst (v := 1) hx hb dX4_isRootCell_64 (by decide) ?_
    refine lv_goto (tgt := 69) hx hb dX4_isRootCell_65 (by decide) ?_
    obtain rfl := Option.some.inj hf
    exact W.zret (v := 1) (ty := .boolean) hx hb hr rfl (fun t ht hW => ⟨_, rfl, rfl, ht⟩) (fun _ h => by cases h) dX4_isRootCell_69
set_option maxHeartbeats 4000000 in
set_option maxRecDepth 100000 in
theorem mX4_add (l : Launch) (dC : Nat → ClassId) (dI : Nat → Nat → Nat) (cI cZ cC cO : ClassId) (q0 : Nat → Nat) (a1 : Int32) (a2 : Int32) (a3 : Int32) (g0 : GX4) (sz : Nat) (out : GX4) (hf : fX4_add a1 a2 a3 g0 = some out) : Met l yX4_add wsX4_add rmX4_add (va_Pc [.ref (q0 0), .int a1, .int a2, .int a3] (pcW (dC, dI) (wTys cI cZ cC cO) sz (wX4 cI cZ cC q0 g0))) (va_Qv (fun (_ : Unit) => True) (fun _ => poW (dC, dI) (va_A (wX4 cI cZ cC q0 g0) sz) (wX4 cI cZ cC q0 out)) (va_A (wX4 cI cZ cC q0 g0) sz)) 0 0 (va_A (wX4 cI cZ cC q0 g0) sz) := by
  refine Met.ofW (cc := cX4_add) (maxL := 4) (ret := none) (by decide) rfl ?_
  intro p e s m args below meth c s₁ B hml hv
  obtain ⟨hargs, hsz, hP, hK, hN, hD0⟩ := hv
  have hx := B.exec
  have hb := B.bytes
  have hr := B.returns
  have hts := atoms_spec (ws := wsX4_add) B.pre
  have hown : s.vm.findClass RX4 = some m.cls := findClass_of_methodNamed B.named
  have hlocks := B.notSynchronized
  have hk0 := hts (.fieldLink RX4 27 "RimGrains$State" "grains" "I") (by decide +kernel)
  have hk1 := hts (.fieldLink RX4 9 "RimGrains$State" "cells" "[I") (by decide +kernel)
  have hk2 := hts (.fieldLink RX4 15 "RimGrains$State" "holders" "[I") (by decide +kernel)
  have hk3 := hts (.fieldLink RX4 18 "RimGrains$State" "steps" "[I") (by decide +kernel)
  have hin4 : ∀ w ∈ wsX40, w ∈ wsX4_add := by decide +kernel
  subst hsz
  have hD := hD0.self (sz := s.heap.size)
  generalize hAe : va_A (wX4 cI cZ cC q0 g0) s.heap.size = A at hD ⊢
  have hA : ∀ q : Nat, s.heap.size ≤ q → A q := fun q h => by rw [← hAe]; exact Or.inr h
  have hS : va_S A s.heap s.heap [] := va_S.rf
  have hE := lg_entry_eq m [.ref (q0 0), .int a1, .int a2, .int a3] 4
  rw [← hargs] at hE
  rw [hE]
  have hl := lv_entry [.ref (q0 0), .int a1, .int a2, .int a3] (n := 4) (Nat.le_of_ble_eq_true rfl)
  generalize (lg_sl [.ref (q0 0), .int a1, .int a2, .int a3] ++ List.replicate (4 - (lg_sl [.ref (q0 0), .int a1, .int a2, .int a3]).length) Slot.unset).toArray = ls at hl ⊢
  have hl : lv_has ls 4 [(0, .ref (q0 0)), (1, .int a1), (2, .int a2), (3, .int a3)] := hl
  have hP : va_P (dC, dI) vwCl (wX4 cI cZ cC q0 g0) s.heap := hP
  unfold fX4_add at hf
  refine lv_aload_n hx hb dX4_add_0 rfl (lv_at hl 0 rfl) ?_
  refine va_get (D := (dC, dI)) (ci := 3) (v := .int (pX4_grains g0)) (C := RX4) (T := TX4) (N := 11) hx hb hts hin4 hown hK hP 0 rfl rfl 5 (by decide) hk0 (fun _ h9 => h9) rfl dX4_add_1 ?_
  refine lv_bipush (v := 121) hx hb dX4_add_4 (by decide) ?_
  refine lv_icmp_ge (tgt := 16) hx hb dX4_add_6 (by decide) (fun hc => ?_) (fun hc => ?_)
  · have hf := ot hc hf
    obtain rfl := Option.some.inj hf
    exact W.vret hx hb hr (fun t ht hW => ⟨⟨(), rfl, trivial, by rw [ht]; exact hP, hD⟩, hS.F ht⟩) hS.2.2 dX4_add_16
  · have hf := oe hc hf
    refine lv_iload_n hx hb dX4_add_9 rfl (lv_at hl 1 rfl) ?_
    obtain ⟨o10, ho10, hf⟩ := ob hf
    refine rS (rest := []) (As := [.int a1]) ⟨hx, hb, hml, hown, hts⟩ (mX2_isCell l dC dI cI cZ cC cO  _ _ ho10) (va_cwS 1 hts gX4_add_X2_isCell rfl rfl rfl (by decide +kernel) ⟨Nat.le_of_ble_eq_true rfl, Nat.le_of_ble_eq_true rfl⟩) hK hN hP [] rfl rfl hl.1 rfl (Nat.le_of_ble_eq_true rfl) dX4_add_10 ⟨Nat.zero_le _, Nat.zero_le _⟩ ?_
    refine lv_if_ne (tgt := 17) hx hb dX4_add_13 (by decide) (fun hc => ?_) (fun hc => ?_)
    · have hf := oe hc hf
      refine lv_aload_n hx hb dX4_add_17 rfl (lv_at hl 0 rfl) ?_
      refine va_get (D := (dC, dI)) (ci := 3) (v := .ref (q0 1)) (C := RX4) (T := TX4) (N := 11) hx hb hts hin4 hown hK hP 0 rfl rfl 0 (by decide) hk1 (fun _ h9 => h9) rfl dX4_add_18 ?_
      refine lv_aload_n hx hb dX4_add_21 rfl (lv_at hl 0 rfl) ?_
      refine va_get (D := (dC, dI)) (ci := 3) (v := .int (pX4_grains g0)) (C := RX4) (T := TX4) (N := 11) hx hb hts hin4 hown hK hP 0 rfl rfl 5 (by decide) hk0 (fun _ h9 => h9) rfl dX4_add_22 ?_
      refine lv_iload_n hx hb dX4_add_25 rfl (lv_at hl 1 rfl) ?_
      obtain ⟨hin, hf⟩ := og hf
      refine va_iast hx hb hK hP hD hS 1 0 rfl rfl hin dX4_add_26 (fun H locs hP hD hS => ?_)
      have hP : va_P (dC, dI) vwCl (wX4 cI cZ cC q0 ((upd (pX4_cells g0) (pX4_grains g0).toNatClampNeg a1), (pX4_holders g0), (pX4_steps g0), (pX4_grainsByCell g0), (pX4_settings g0), (pX4_grains g0), (pX4_lot g0), (pX4_released g0), (pX4_lost g0), (pX4_gone g0), (pX4_walked g0))) H := hP
      have hD : va_D A (wX4 cI cZ cC q0 ((upd (pX4_cells g0) (pX4_grains g0).toNatClampNeg a1), (pX4_holders g0), (pX4_steps g0), (pX4_grainsByCell g0), (pX4_settings g0), (pX4_grains g0), (pX4_lot g0), (pX4_released g0), (pX4_lost g0), (pX4_gone g0), (pX4_walked g0))) := hD
      refine lv_aload_n hx hb dX4_add_27 rfl (lv_at hl 0 rfl) ?_
      refine va_get (D := (dC, dI)) (ci := 3) (v := .ref (q0 2)) (C := RX4) (T := TX4) (N := 11) hx hb hts hin4 hown hK hP 0 rfl rfl 1 (by decide) hk2 (fun _ h9 => h9) rfl dX4_add_28 ?_
      refine lv_aload_n hx hb dX4_add_31 rfl (lv_at hl 0 rfl) ?_
      refine va_get (D := (dC, dI)) (ci := 3) (v := .int (pX4_grains g0)) (C := RX4) (T := TX4) (N := 11) hx hb hts hin4 hown hK hP 0 rfl rfl 5 (by decide) hk0 (fun _ h9 => h9) rfl dX4_add_32 ?_
      refine lv_iload_n hx hb dX4_add_35 rfl (lv_at hl 2 rfl) ?_
      obtain ⟨hin, hf⟩ := og hf
      refine va_iast hx hb hK hP hD hS 2 0 rfl rfl hin dX4_add_36 (fun H locs hP hD hS => ?_)
      have hP : va_P (dC, dI) vwCl (wX4 cI cZ cC q0 ((upd (pX4_cells g0) (pX4_grains g0).toNatClampNeg a1), (upd (pX4_holders g0) (pX4_grains g0).toNatClampNeg a2), (pX4_steps g0), (pX4_grainsByCell g0), (pX4_settings g0), (pX4_grains g0), (pX4_lot g0), (pX4_released g0), (pX4_lost g0), (pX4_gone g0), (pX4_walked g0))) H := hP
      have hD : va_D A (wX4 cI cZ cC q0 ((upd (pX4_cells g0) (pX4_grains g0).toNatClampNeg a1), (upd (pX4_holders g0) (pX4_grains g0).toNatClampNeg a2), (pX4_steps g0), (pX4_grainsByCell g0), (pX4_settings g0), (pX4_grains g0), (pX4_lot g0), (pX4_released g0), (pX4_lost g0), (pX4_gone g0), (pX4_walked g0))) := hD
      refine lv_aload_n hx hb dX4_add_37 rfl (lv_at hl 0 rfl) ?_
      refine va_get (D := (dC, dI)) (ci := 3) (v := .ref (q0 3)) (C := RX4) (T := TX4) (N := 11) hx hb hts hin4 hown hK hP 0 rfl rfl 2 (by decide) hk3 (fun _ h9 => h9) rfl dX4_add_38 ?_
      refine lv_aload_n hx hb dX4_add_41 rfl (lv_at hl 0 rfl) ?_
      refine va_get (D := (dC, dI)) (ci := 3) (v := .int (pX4_grains g0)) (C := RX4) (T := TX4) (N := 11) hx hb hts hin4 hown hK hP 0 rfl rfl 5 (by decide) hk0 (fun _ h9 => h9) rfl dX4_add_42 ?_
      refine lv_iload_n hx hb dX4_add_45 rfl (lv_at hl 3 rfl) ?_
      obtain ⟨hin, hf⟩ := og hf
      refine va_iast hx hb hK hP hD hS 3 0 rfl rfl hin dX4_add_46 (fun H locs hP hD hS => ?_)
      have hP : va_P (dC, dI) vwCl (wX4 cI cZ cC q0 ((upd (pX4_cells g0) (pX4_grains g0).toNatClampNeg a1), (upd (pX4_holders g0) (pX4_grains g0).toNatClampNeg a2), (upd (pX4_steps g0) (pX4_grains g0).toNatClampNeg a3), (pX4_grainsByCell g0), (pX4_settings g0), (pX4_grains g0), (pX4_lot g0), (pX4_released g0), (pX4_lost g0), (pX4_gone g0), (pX4_walked g0))) H := hP
      have hD : va_D A (wX4 cI cZ cC q0 ((upd (pX4_cells g0) (pX4_grains g0).toNatClampNeg a1), (upd (pX4_holders g0) (pX4_grains g0).toNatClampNeg a2), (upd (pX4_steps g0) (pX4_grains g0).toNatClampNeg a3), (pX4_grainsByCell g0), (pX4_settings g0), (pX4_grains g0), (pX4_lot g0), (pX4_released g0), (pX4_lost g0), (pX4_gone g0), (pX4_walked g0))) := hD
      refine lv_aload_n hx hb dX4_add_47 rfl (lv_at hl 0 rfl) ?_
      refine lv_iload_n hx hb dX4_add_48 rfl (lv_at hl 1 rfl) ?_
      refine lv_aload_n hx hb dX4_add_49 rfl (lv_at hl 0 rfl) ?_
      refine va_get (D := (dC, dI)) (ci := 3) (v := .int (pX4_grains g0)) (C := RX4) (T := TX4) (N := 11) hx hb hts hin4 hown hK hP 0 rfl rfl 5 (by decide) hk0 (fun _ h9 => h9) rfl dX4_add_50 ?_
      obtain ⟨o53, ho53, hf⟩ := ob hf
      refine wVv (W1 := (fun _ : Unit => (wX4 cI cZ cC q0 o53))) (rest := []) (As := [.int a1, .int (pX4_grains g0)]) ⟨hx, hb, hml, hown, hts⟩ (mX4_mark l dC dI cI cZ cC cO q0 _ _ _ _ _ ho53) (cwV 2 hts gX4_add_X4_mark rfl rfl rfl (by decide +kernel) ⟨Nat.le_of_ble_eq_true rfl, Nat.le_of_ble_eq_true rfl⟩) hK hN hP hD hS hA [0, 1, 2, 3, 4, 5] [] [0, 1, 2, 3, 4, 5] rfl rfl (by decide) (by decide) (fun _ => rfl) 3 rfl rfl rfl rfl hl.1 rfl (Nat.le_of_ble_eq_true rfl) dX4_add_53 ⟨Nat.zero_le _, Nat.zero_le _⟩ (fun _ H locs hP hD hS => ?_)
      have hP : va_P (dC, dI) vwCl (wX4 cI cZ cC q0 o53) H := hP
      have hD : va_D A (wX4 cI cZ cC q0 o53) := hD
      refine lv_aload_n hx hb dX4_add_56 rfl (lv_at hl 0 rfl) ?_
      refine lv_dup hx hb dX4_add_57 rfl ?_
      refine va_get (D := (dC, dI)) (ci := 3) (v := .int (pX4_grains o53)) (C := RX4) (T := TX4) (N := 11) hx hb hts hin4 hown hK hP 0 rfl rfl 5 (by decide) hk0 (fun _ h9 => h9) rfl dX4_add_58 ?_
      refine lv_iconst (v := 1) hx hb dX4_add_61 (by decide) ?_
      refine lv_iadd hx hb dX4_add_62 ?_
      refine va_put (D := (dC, dI)) (ci := 3) (v := .int ((pX4_grains o53) + 1)) (ty := .int) (C := RX4) (T := TX4) (N := 11) hx hb hts hin4 tyX4 tyX4_ok nmX4 hown hK hP hD hS 0 rfl rfl 5 (by decide) hk0 (fun _ h9 => h9) rfl (by decide +kernel) rfl rfl (Nat.le_of_ble_eq_true rfl) dX4_add_63 (fun H locs hP hD hS => ?_)
      have hP : va_P (dC, dI) vwCl (wX4 cI cZ cC q0 ((pX4_cells o53), (pX4_holders o53), (pX4_steps o53), (pX4_grainsByCell o53), (pX4_settings o53), ((pX4_grains o53) + 1), (pX4_lot o53), (pX4_released o53), (pX4_lost o53), (pX4_gone o53), (pX4_walked o53))) H := hP
      have hD : va_D A (wX4 cI cZ cC q0 ((pX4_cells o53), (pX4_holders o53), (pX4_steps o53), (pX4_grainsByCell o53), (pX4_settings o53), ((pX4_grains o53) + 1), (pX4_lot o53), (pX4_released o53), (pX4_lost o53), (pX4_gone o53), (pX4_walked o53))) := hD
      obtain rfl := Option.some.inj hf
      exact W.vret hx hb hr (fun t ht hW => ⟨⟨(), rfl, trivial, by rw [ht]; exact hP, hD⟩, hS.F ht⟩) hS.2.2 dX4_add_66
    · have hf := ot hc hf
      obtain rfl := Option.some.inj hf
      exact W.vret hx hb hr (fun t ht hW => ⟨⟨(), rfl, trivial, by rw [ht]; exact hP, hD⟩, hS.F ht⟩) hS.2.2 dX4_add_16
set_option maxHeartbeats 4000000 in
set_option maxRecDepth 100000 in
theorem mX4_plant (l : Launch) (dC : Nat → ClassId) (dI : Nat → Nat → Nat) (cI cZ cC cO : ClassId) (q0 : Nat → Nat) (a1 : Int32) (g0 : GX4) (sz : Nat) (out : Int32 × GX4) (hf : fX4_plant a1 g0 = some out) : Met l yX4_plant wsX4_plant rmX4_plant (va_Pc [.ref (q0 0), .int a1] (pcW (dC, dI) (wTys cI cZ cC cO) sz (wX4 cI cZ cC q0 g0))) (va_Qi (fun r (_ : Unit) => r = out.1) (fun _ => poW (dC, dI) (va_A (wX4 cI cZ cC q0 g0) sz) (wX4 cI cZ cC q0 out.2)) (va_A (wX4 cI cZ cC q0 g0) sz)) 0 0 (va_A (wX4 cI cZ cC q0 g0) sz) := by
  refine Met.ofW (cc := cX4_plant) (maxL := 3) (ret := (some .int)) (by decide) rfl ?_
  intro p e s m args below meth c s₁ B hml hv
  obtain ⟨hargs, hsz, hP, hK, hN, hD0⟩ := hv
  have hx := B.exec
  have hb := B.bytes
  have hr := B.returns
  have hts := atoms_spec (ws := wsX4_plant) B.pre
  have hown : s.vm.findClass RX4 = some m.cls := findClass_of_methodNamed B.named
  have hlocks := B.notSynchronized
  have hk0 := hts (.fieldLink RX4 27 "RimGrains$State" "grains" "I") (by decide +kernel)
  have hk1 := hts (.fieldLink RX4 34 "RimGrains$State" "released" "I") (by decide +kernel)
  have hk2 := hts (.fieldLink RX4 37 "RimGrains$State" "lost" "I") (by decide +kernel)
  have hk3 := hts (.fieldLink RX4 40 "RimGrains$State" "gone" "I") (by decide +kernel)
  have hk4 := hts (.fieldLink RX4 43 "RimGrains$State" "walked" "I") (by decide +kernel)
  have hin4 : ∀ w ∈ wsX40, w ∈ wsX4_plant := by decide +kernel
  subst hsz
  have hD := hD0.self (sz := s.heap.size)
  generalize hAe : va_A (wX4 cI cZ cC q0 g0) s.heap.size = A at hD ⊢
  have hA : ∀ q : Nat, s.heap.size ≤ q → A q := fun q h => by rw [← hAe]; exact Or.inr h
  have hS : va_S A s.heap s.heap [] := va_S.rf
  have hE := lg_entry_eq m [.ref (q0 0), .int a1] 3
  rw [← hargs] at hE
  rw [hE]
  have hl := lv_entry [.ref (q0 0), .int a1] (n := 3) (Nat.le_of_ble_eq_true rfl)
  generalize (lg_sl [.ref (q0 0), .int a1] ++ List.replicate (3 - (lg_sl [.ref (q0 0), .int a1]).length) Slot.unset).toArray = ls at hl ⊢
  have hl : lv_has ls 3 [(0, .ref (q0 0)), (1, .int a1)] := hl
  have hP : va_P (dC, dI) vwCl (wX4 cI cZ cC q0 g0) s.heap := hP
  unfold fX4_plant at hf
  refine lv_aload_n hx hb dX4_plant_0 rfl (lv_at hl 0 rfl) ?_
  refine lv_iconst (v := 0) hx hb dX4_plant_1 (by decide) ?_
  refine va_put (D := (dC, dI)) (ci := 3) (v := .int 0) (ty := .int) (C := RX4) (T := TX4) (N := 11) hx hb hts hin4 tyX4 tyX4_ok nmX4 hown hK hP hD hS 0 rfl rfl 5 (by decide) hk0 (fun _ h9 => h9) rfl (by decide +kernel) rfl rfl (Nat.le_of_ble_eq_true rfl) dX4_plant_2 (fun H locs hP hD hS => ?_)
  have hP : va_P (dC, dI) vwCl (wX4 cI cZ cC q0 ((pX4_cells g0), (pX4_holders g0), (pX4_steps g0), (pX4_grainsByCell g0), (pX4_settings g0), 0, (pX4_lot g0), (pX4_released g0), (pX4_lost g0), (pX4_gone g0), (pX4_walked g0))) H := hP
  have hD : va_D A (wX4 cI cZ cC q0 ((pX4_cells g0), (pX4_holders g0), (pX4_steps g0), (pX4_grainsByCell g0), (pX4_settings g0), 0, (pX4_lot g0), (pX4_released g0), (pX4_lost g0), (pX4_gone g0), (pX4_walked g0))) := hD
  refine lv_aload_n hx hb dX4_plant_5 rfl (lv_at hl 0 rfl) ?_
  refine lv_iconst (v := 0) hx hb dX4_plant_6 (by decide) ?_
  refine va_put (D := (dC, dI)) (ci := 3) (v := .int 0) (ty := .int) (C := RX4) (T := TX4) (N := 11) hx hb hts hin4 tyX4 tyX4_ok nmX4 hown hK hP hD hS 0 rfl rfl 7 (by decide) hk1 (fun _ h9 => h9) rfl (by decide +kernel) rfl rfl (Nat.le_of_ble_eq_true rfl) dX4_plant_7 (fun H locs hP hD hS => ?_)
  have hP : va_P (dC, dI) vwCl (wX4 cI cZ cC q0 ((pX4_cells g0), (pX4_holders g0), (pX4_steps g0), (pX4_grainsByCell g0), (pX4_settings g0), 0, (pX4_lot g0), 0, (pX4_lost g0), (pX4_gone g0), (pX4_walked g0))) H := hP
  have hD : va_D A (wX4 cI cZ cC q0 ((pX4_cells g0), (pX4_holders g0), (pX4_steps g0), (pX4_grainsByCell g0), (pX4_settings g0), 0, (pX4_lot g0), 0, (pX4_lost g0), (pX4_gone g0), (pX4_walked g0))) := hD
  refine lv_aload_n hx hb dX4_plant_10 rfl (lv_at hl 0 rfl) ?_
  refine lv_iconst (v := 0) hx hb dX4_plant_11 (by decide) ?_
  refine va_put (D := (dC, dI)) (ci := 3) (v := .int 0) (ty := .int) (C := RX4) (T := TX4) (N := 11) hx hb hts hin4 tyX4 tyX4_ok nmX4 hown hK hP hD hS 0 rfl rfl 8 (by decide) hk2 (fun _ h9 => h9) rfl (by decide +kernel) rfl rfl (Nat.le_of_ble_eq_true rfl) dX4_plant_12 (fun H locs hP hD hS => ?_)
  have hP : va_P (dC, dI) vwCl (wX4 cI cZ cC q0 ((pX4_cells g0), (pX4_holders g0), (pX4_steps g0), (pX4_grainsByCell g0), (pX4_settings g0), 0, (pX4_lot g0), 0, 0, (pX4_gone g0), (pX4_walked g0))) H := hP
  have hD : va_D A (wX4 cI cZ cC q0 ((pX4_cells g0), (pX4_holders g0), (pX4_steps g0), (pX4_grainsByCell g0), (pX4_settings g0), 0, (pX4_lot g0), 0, 0, (pX4_gone g0), (pX4_walked g0))) := hD
  refine lv_aload_n hx hb dX4_plant_15 rfl (lv_at hl 0 rfl) ?_
  refine lv_iconst (v := 0) hx hb dX4_plant_16 (by decide) ?_
  refine va_put (D := (dC, dI)) (ci := 3) (v := .int 0) (ty := .int) (C := RX4) (T := TX4) (N := 11) hx hb hts hin4 tyX4 tyX4_ok nmX4 hown hK hP hD hS 0 rfl rfl 9 (by decide) hk3 (fun _ h9 => h9) rfl (by decide +kernel) rfl rfl (Nat.le_of_ble_eq_true rfl) dX4_plant_17 (fun H locs hP hD hS => ?_)
  have hP : va_P (dC, dI) vwCl (wX4 cI cZ cC q0 ((pX4_cells g0), (pX4_holders g0), (pX4_steps g0), (pX4_grainsByCell g0), (pX4_settings g0), 0, (pX4_lot g0), 0, 0, 0, (pX4_walked g0))) H := hP
  have hD : va_D A (wX4 cI cZ cC q0 ((pX4_cells g0), (pX4_holders g0), (pX4_steps g0), (pX4_grainsByCell g0), (pX4_settings g0), 0, (pX4_lot g0), 0, 0, 0, (pX4_walked g0))) := hD
  refine lv_aload_n hx hb dX4_plant_20 rfl (lv_at hl 0 rfl) ?_
  refine lv_iconst (v := 0) hx hb dX4_plant_21 (by decide) ?_
  refine va_put (D := (dC, dI)) (ci := 3) (v := .int 0) (ty := .int) (C := RX4) (T := TX4) (N := 11) hx hb hts hin4 tyX4 tyX4_ok nmX4 hown hK hP hD hS 0 rfl rfl 10 (by decide) hk4 (fun _ h9 => h9) rfl (by decide +kernel) rfl rfl (Nat.le_of_ble_eq_true rfl) dX4_plant_22 (fun H locs hP hD hS => ?_)
  have hP : va_P (dC, dI) vwCl (wX4 cI cZ cC q0 ((pX4_cells g0), (pX4_holders g0), (pX4_steps g0), (pX4_grainsByCell g0), (pX4_settings g0), 0, (pX4_lot g0), 0, 0, 0, 0)) H := hP
  have hD : va_D A (wX4 cI cZ cC q0 ((pX4_cells g0), (pX4_holders g0), (pX4_steps g0), (pX4_grainsByCell g0), (pX4_settings g0), 0, (pX4_lot g0), 0, 0, 0, 0)) := hD
  refine lv_iconst (v := 0) hx hb dX4_plant_25 (by decide) ?_
  refine lv_istore_n (lv' := [(2, .int 0), (0, .ref (q0 0)), (1, .int a1)]) hx hb dX4_plant_26 rfl hl (by decide) rfl (fun ls hl => ?_)
  have hL27 : ∀ (n : Nat) (s27 : Int32 × GX4) (o27 : GX4), lp tX4_plant_27 n s27 = some o27 → ∀ (H : Heap) (locs : List Loc) (ls : Array Slot), va_P (dC, dI) vwCl (wX4 cI cZ cC q0 s27.2) H → va_D A (wX4 cI cZ cC q0 s27.2) → va_S A s.heap H locs → lv_has ls 3 [(0, .ref (q0 0)), (1, .int a1), (2, .int s27.1)] → (∀ (H : Heap) (locs : List Loc) (ls : Array Slot), va_P (dC, dI) vwCl (wX4 cI cZ cC q0 o27) H → va_D A (wX4 cI cZ cC q0 o27) → va_S A s.heap H locs → lv_has ls 3 [(0, .ref (q0 0)), (1, .int a1)] → W p l e (headSpec wsX4_plant rmX4_plant).room s m args below meth c H locs 0 0 (MQ below (va_Qi (fun r (_ : Unit) => r = out.1) (fun _ => poW (dC, dI) A (wX4 cI cZ cC q0 out.2)) A) args s 0 0 A) (F0 m 46 ls [])) → W p l e (headSpec wsX4_plant rmX4_plant).room s m args below meth c H locs 0 0 (MQ below (va_Qi (fun r (_ : Unit) => r = out.1) (fun _ => poW (dC, dI) A (wX4 cI cZ cC q0 out.2)) A) args s 0 0 A) (F0 m 27 ls []) := by
    intro n
    induction n with
    | zero => intro s27 o27 hf; exact (lp0 hf).elim
    | succ n ih27 =>
      intro s27 o27 hf H locs ls hP hD hS hl kx
      obtain ⟨r27, hf, hn⟩ := lps hf
      unfold tX4_plant_27 at hf
      refine lv_iload_n hx hb dX4_plant_27 rfl (lv_at hl 2 rfl) ?_
      refine lv_bipush (v := 121) hx hb dX4_plant_28 (by decide) ?_
      refine lv_icmp_ge (tgt := 46) hx hb dX4_plant_30 (by decide) (fun hc => ?_) (fun hc => ?_)
      · have hf := ot hc hf
        obtain rfl := Option.some.inj hf
        obtain rfl := Option.some.inj hn
        exact kx _ _ ls hP hD hS (lv_sub hl [0, 1] rfl)
      · have hf := oe hc hf
        refine lv_aload_n hx hb dX4_plant_33 rfl (lv_at hl 0 rfl) ?_
        refine lv_iload_n hx hb dX4_plant_34 rfl (lv_at hl 2 rfl) ?_
        refine lv_bipush (v := (-4)) hx hb dX4_plant_35 (by decide) ?_
        obtain ⟨o37, ho37, hf⟩ := ob hf
        refine wVv (W1 := (fun _ : Unit => (wX4 cI cZ cC q0 o37))) (rest := []) (As := [.int s27.1, .int (-4)]) ⟨hx, hb, hml, hown, hts⟩ (mX4_mark l dC dI cI cZ cC cO q0 _ _ _ _ _ ho37) (cwV 2 hts gX4_plant_X4_mark rfl rfl rfl (by decide +kernel) ⟨Nat.le_of_ble_eq_true rfl, Nat.le_of_ble_eq_true rfl⟩) hK hN hP hD hS hA [0, 1, 2, 3, 4, 5] [] [0, 1, 2, 3, 4, 5] rfl rfl (by decide) (by decide) (fun _ => rfl) 3 rfl rfl rfl rfl hl.1 rfl (Nat.le_of_ble_eq_true rfl) dX4_plant_37 ⟨Nat.zero_le _, Nat.zero_le _⟩ (fun _ H locs hP hD hS => ?_)
        have hP : va_P (dC, dI) vwCl (wX4 cI cZ cC q0 o37) H := hP
        have hD : va_D A (wX4 cI cZ cC q0 o37) := hD
        refine lv_iinc (v := (s27.1 + 1)) (lv' := [(2, .int (s27.1 + 1)), (0, .ref (q0 0)), (1, .int a1)]) hx hb dX4_plant_40 hl (k := 2) rfl rfl (by decide) rfl (fun ls hl => ?_)
        refine lv_goto (tgt := 27) hx hb dX4_plant_43 (by decide) ?_
        obtain rfl := Option.some.inj hf
        exact ih27 _ _ hn _ _ ls hP hD hS (lv_sub hl [1, 2, 0] rfl) kx
  obtain ⟨o27, ho27, hf⟩ := ob hf
  refine hL27 FU _ _ ho27 _ _ ls hP hD hS (lv_sub hl [1, 2, 0] rfl) (fun H locs ls hP hD hS hl => ?_)
  refine lv_iconst (v := 0) hx hb dX4_plant_46 (by decide) ?_
  refine lv_istore_n (lv' := [(2, .int 0), (0, .ref (q0 0)), (1, .int a1)]) hx hb dX4_plant_47 rfl hl (by decide) rfl (fun ls hl => ?_)
  have hL48 : ∀ (n : Nat) (s48 : Int32 × GX4) (o48 : GX4), lp (tX4_plant_48 a1) n s48 = some o48 → ∀ (H : Heap) (locs : List Loc) (ls : Array Slot), va_P (dC, dI) vwCl (wX4 cI cZ cC q0 s48.2) H → va_D A (wX4 cI cZ cC q0 s48.2) → va_S A s.heap H locs → lv_has ls 3 [(0, .ref (q0 0)), (1, .int a1), (2, .int s48.1)] → (∀ (H : Heap) (locs : List Loc) (ls : Array Slot), va_P (dC, dI) vwCl (wX4 cI cZ cC q0 o48) H → va_D A (wX4 cI cZ cC q0 o48) → va_S A s.heap H locs → lv_has ls 3 [(0, .ref (q0 0))] → W p l e (headSpec wsX4_plant rmX4_plant).room s m args below meth c H locs 0 0 (MQ below (va_Qi (fun r (_ : Unit) => r = out.1) (fun _ => poW (dC, dI) A (wX4 cI cZ cC q0 out.2)) A) args s 0 0 A) (F0 m 76 ls [])) → W p l e (headSpec wsX4_plant rmX4_plant).room s m args below meth c H locs 0 0 (MQ below (va_Qi (fun r (_ : Unit) => r = out.1) (fun _ => poW (dC, dI) A (wX4 cI cZ cC q0 out.2)) A) args s 0 0 A) (F0 m 48 ls []) := by
    intro n
    induction n with
    | zero => intro s48 o48 hf; exact (lp0 hf).elim
    | succ n ih48 =>
      intro s48 o48 hf H locs ls hP hD hS hl kx
      obtain ⟨r48, hf, hn⟩ := lps hf
      unfold tX4_plant_48 at hf
      refine lv_iload_n hx hb dX4_plant_48 rfl (lv_at hl 2 rfl) ?_
      refine lv_bipush (v := 121) hx hb dX4_plant_49 (by decide) ?_
      refine lv_icmp_ge (tgt := 76) hx hb dX4_plant_51 (by decide) (fun hc => ?_) (fun hc => ?_)
      · have hf := ot hc hf
        obtain rfl := Option.some.inj hf
        obtain rfl := Option.some.inj hn
        exact kx _ _ ls hP hD hS (lv_sub hl [0] rfl)
      · have hf := oe hc hf
        refine lv_iload_n hx hb dX4_plant_54 rfl (lv_at hl 1 rfl) ?_
        refine lv_iload_n hx hb dX4_plant_55 rfl (lv_at hl 2 rfl) ?_
        obtain ⟨o56, ho56, hf⟩ := ob hf
        refine rS (rest := []) (As := [.int a1, .int s48.1]) ⟨hx, hb, hml, hown, hts⟩ (mX4_isRootCell l dC dI cI cZ cC cO  _ _ _ ho56) (va_cwS 2 hts gX4_plant_X4_isRootCell rfl rfl rfl (by decide +kernel) ⟨Nat.le_of_ble_eq_true rfl, Nat.le_of_ble_eq_true rfl⟩) hK hN hP [] rfl rfl hl.1 rfl (Nat.le_of_ble_eq_true rfl) dX4_plant_56 ⟨Nat.zero_le _, Nat.zero_le _⟩ ?_
        have hJ1 : ∀ (g0_1 : GX4), jX4_plant_1 s48 g0_1 = some r48 → ∀ (H : Heap) (locs : List Loc) (ls : Array Slot), va_P (dC, dI) vwCl (wX4 cI cZ cC q0 g0_1) H → va_D A (wX4 cI cZ cC q0 g0_1) → va_S A s.heap H locs → lv_has ls 3 [(0, .ref (q0 0)), (1, .int a1), (2, .int s48.1)] → W p l e (headSpec wsX4_plant rmX4_plant).room s m args below meth c H locs 0 0 (MQ below (va_Qi (fun r (_ : Unit) => r = out.1) (fun _ => poW (dC, dI) A (wX4 cI cZ cC q0 out.2)) A) args s 0 0 A) (F0 m 70 ls []) := by
          intro g0_1 hf H locs ls hP hD hS hl
          unfold jX4_plant_1 at hf
          refine lv_iinc (v := (s48.1 + 1)) (lv' := [(2, .int (s48.1 + 1)), (0, .ref (q0 0)), (1, .int a1)]) hx hb dX4_plant_70 hl (k := 2) rfl rfl (by decide) rfl (fun ls hl => ?_)
          refine lv_goto (tgt := 48) hx hb dX4_plant_73 (by decide) ?_
          obtain rfl := Option.some.inj hf
          exact ih48 _ _ hn _ _ ls hP hD hS (lv_sub hl [1, 2, 0] rfl) kx
        refine lv_if_eq (tgt := 70) hx hb dX4_plant_59 (by decide) (fun hc => ?_) (fun hc => ?_)
        · have hf := ot hc hf
          exact hJ1 _ hf _ _ ls hP hD hS (lv_sub hl [0, 1, 2] rfl)
        · have hf := oe hc hf
          refine lv_aload_n hx hb dX4_plant_62 rfl (lv_at hl 0 rfl) ?_
          refine lv_iload_n hx hb dX4_plant_63 rfl (lv_at hl 2 rfl) ?_
          refine lv_bipush (v := (-4)) hx hb dX4_plant_64 (by decide) ?_
          refine lv_iconst (v := 0) hx hb dX4_plant_66 (by decide) ?_
          obtain ⟨o67, ho67, hf⟩ := ob hf
          refine wVv (W1 := (fun _ : Unit => (wX4 cI cZ cC q0 o67))) (rest := []) (As := [.int s48.1, .int (-4), .int 0]) ⟨hx, hb, hml, hown, hts⟩ (mX4_add l dC dI cI cZ cC cO q0 _ _ _ _ _ _ ho67) (cwV 3 hts gX4_plant_X4_add rfl rfl rfl (by decide +kernel) ⟨Nat.le_of_ble_eq_true rfl, Nat.le_of_ble_eq_true rfl⟩) hK hN hP hD hS hA [0, 1, 2, 3, 4, 5] [] [0, 1, 2, 3, 4, 5] rfl rfl (by decide) (by decide) (fun _ => rfl) 3 rfl rfl rfl rfl hl.1 rfl (Nat.le_of_ble_eq_true rfl) dX4_plant_67 ⟨Nat.zero_le _, Nat.zero_le _⟩ (fun _ H locs hP hD hS => ?_)
          have hP : va_P (dC, dI) vwCl (wX4 cI cZ cC q0 o67) H := hP
          have hD : va_D A (wX4 cI cZ cC q0 o67) := hD
          exact hJ1 _ hf _ _ ls hP hD hS (lv_sub hl [0, 1, 2] rfl)
  obtain ⟨o48, ho48, hf⟩ := ob hf
  refine hL48 FU _ _ ho48 _ _ ls hP hD hS (lv_sub hl [1, 2, 0] rfl) (fun H locs ls hP hD hS hl => ?_)
  refine lv_aload_n hx hb dX4_plant_76 rfl (lv_at hl 0 rfl) ?_
  refine va_get (D := (dC, dI)) (ci := 3) (v := .int (pX4_grains o48)) (C := RX4) (T := TX4) (N := 11) hx hb hts hin4 hown hK hP 0 rfl rfl 5 (by decide) hk0 (fun _ h9 => h9) rfl dX4_plant_77 ?_
  obtain rfl := Option.some.inj hf
  exact W.iret (v := (pX4_grains o48)) hx hb hr (fun t ht hW => ⟨⟨_, (), rfl, rfl, by rw [ht]; exact hP, hD⟩, hS.F ht⟩) hS.2.2 dX4_plant_80
set_option maxHeartbeats 4000000 in
set_option maxRecDepth 100000 in
theorem mX4_takeOver (l : Launch) (dC : Nat → ClassId) (dI : Nat → Nat → Nat) (cI cZ cC cO : ClassId) (q0 : Nat → Nat) (q1 : Nat → Nat) (g0 : GX4) (g1 : GX4) (sz : Nat) (out : GX4) (hf : fX4_takeOver g0 g1 = some out) : Met l yX4_takeOver wsX4_takeOver rmX4_takeOver (va_Pc [.ref (q0 0), .ref (q1 0)] (pcW (dC, dI) (wTys cI cZ cC cO) sz (wX4 cI cZ cC q0 g0 ++ wX4 cI cZ cC q1 g1))) (va_Qv (fun (_ : Unit) => True) (fun _ => poW (dC, dI) (va_A (wX4 cI cZ cC q0 g0 ++ wX4 cI cZ cC q1 g1) sz) (wX4 cI cZ cC q0 out ++ wX4 cI cZ cC q1 g1)) (va_A (wX4 cI cZ cC q0 g0 ++ wX4 cI cZ cC q1 g1) sz)) 0 0 (va_A (wX4 cI cZ cC q0 g0 ++ wX4 cI cZ cC q1 g1) sz) := by
  refine Met.ofW (cc := cX4_takeOver) (maxL := 2) (ret := none) (by decide) rfl ?_
  intro p e s m args below meth c s₁ B hml hv
  obtain ⟨hargs, hsz, hP, hK, hN, hD0⟩ := hv
  have hx := B.exec
  have hb := B.bytes
  have hr := B.returns
  have hts := atoms_spec (ws := wsX4_takeOver) B.pre
  have hown : s.vm.findClass RX4 = some m.cls := findClass_of_methodNamed B.named
  have hlocks := B.notSynchronized
  have hk0 := hts (.fieldLink RX4 9 "RimGrains$State" "cells" "[I") (by decide +kernel)
  have hk1 := hts (.methodLink RX4 46 arraycopyName) (by decide +kernel)
  have hk1N := hts (.native arraycopyName) (by decide +kernel)
  have hk1S := hts (.static arraycopyName) (by decide +kernel)
  have hk1I := hts (.initialized "java/lang/System") (by decide +kernel)
  have hk2 := hts (.fieldLink RX4 15 "RimGrains$State" "holders" "[I") (by decide +kernel)
  have hk3 := hts (.fieldLink RX4 18 "RimGrains$State" "steps" "[I") (by decide +kernel)
  have hk4 := hts (.fieldLink RX4 21 "RimGrains$State" "grainsByCell" "[I") (by decide +kernel)
  have hk5 := hts (.fieldLink RX4 24 "RimGrains$State" "settings" "[I") (by decide +kernel)
  have hk6 := hts (.fieldLink RX4 27 "RimGrains$State" "grains" "I") (by decide +kernel)
  have hk7 := hts (.fieldLink RX4 31 "RimGrains$State" "lot" "I") (by decide +kernel)
  have hk8 := hts (.fieldLink RX4 34 "RimGrains$State" "released" "I") (by decide +kernel)
  have hk9 := hts (.fieldLink RX4 37 "RimGrains$State" "lost" "I") (by decide +kernel)
  have hk10 := hts (.fieldLink RX4 40 "RimGrains$State" "gone" "I") (by decide +kernel)
  have hk11 := hts (.fieldLink RX4 43 "RimGrains$State" "walked" "I") (by decide +kernel)
  have hin4 : ∀ w ∈ wsX40, w ∈ wsX4_takeOver := by decide +kernel
  subst hsz
  have hD := hD0.self (sz := s.heap.size)
  generalize hAe : va_A (wX4 cI cZ cC q0 g0 ++ wX4 cI cZ cC q1 g1) s.heap.size = A at hD ⊢
  have hA : ∀ q : Nat, s.heap.size ≤ q → A q := fun q h => by rw [← hAe]; exact Or.inr h
  have hS : va_S A s.heap s.heap [] := va_S.rf
  have hE := lg_entry_eq m [.ref (q0 0), .ref (q1 0)] 2
  rw [← hargs] at hE
  rw [hE]
  have hl := lv_entry [.ref (q0 0), .ref (q1 0)] (n := 2) (Nat.le_of_ble_eq_true rfl)
  generalize (lg_sl [.ref (q0 0), .ref (q1 0)] ++ List.replicate (2 - (lg_sl [.ref (q0 0), .ref (q1 0)]).length) Slot.unset).toArray = ls at hl ⊢
  have hl : lv_has ls 2 [(0, .ref (q0 0)), (1, .ref (q1 0))] := hl
  have hP : va_P (dC, dI) vwCl (wX4 cI cZ cC q0 g0 ++ wX4 cI cZ cC q1 g1) s.heap := hP
  unfold fX4_takeOver at hf
  refine lv_aload_n hx hb dX4_takeOver_0 rfl (lv_at hl 1 rfl) ?_
  refine va_get (D := (dC, dI)) (ci := 3) (v := .ref (q1 1)) (C := RX4) (T := TX4) (N := 11) hx hb hts hin4 hown hK hP 6 rfl rfl 0 (by decide) hk0 (fun _ h9 => h9) rfl dX4_takeOver_1 ?_
  refine lv_iconst (v := 0) hx hb dX4_takeOver_4 (by decide) ?_
  refine lv_aload_n hx hb dX4_takeOver_5 rfl (lv_at hl 0 rfl) ?_
  refine va_get (D := (dC, dI)) (ci := 3) (v := .ref (q0 1)) (C := RX4) (T := TX4) (N := 11) hx hb hts hin4 hown hK hP 0 rfl rfl 0 (by decide) hk0 (fun _ h9 => h9) rfl dX4_takeOver_6 ?_
  refine lv_iconst (v := 0) hx hb dX4_takeOver_9 (by decide) ?_
  refine lv_bipush (v := 121) hx hb dX4_takeOver_10 (by decide) ?_
  refine mcopy hx hb hml hl.1 hown hk1 hk1N hk1S hk1I hK hP hD hS 7 1 0 rfl rfl rfl (by decide) (by decide) (Nat.le_of_ble_eq_true rfl) (Nat.le_of_ble_eq_true rfl) dX4_takeOver_12 (fun H locs hP hD hS => ?_)
  have hP : va_P (dC, dI) vwCl (wX4 cI cZ cC q0 ((pX4_cells g1), (pX4_holders g0), (pX4_steps g0), (pX4_grainsByCell g0), (pX4_settings g0), (pX4_grains g0), (pX4_lot g0), (pX4_released g0), (pX4_lost g0), (pX4_gone g0), (pX4_walked g0)) ++ wX4 cI cZ cC q1 g1) H := hP
  have hD : va_D A (wX4 cI cZ cC q0 ((pX4_cells g1), (pX4_holders g0), (pX4_steps g0), (pX4_grainsByCell g0), (pX4_settings g0), (pX4_grains g0), (pX4_lot g0), (pX4_released g0), (pX4_lost g0), (pX4_gone g0), (pX4_walked g0)) ++ wX4 cI cZ cC q1 g1) := hD
  refine lv_aload_n hx hb dX4_takeOver_15 rfl (lv_at hl 1 rfl) ?_
  refine va_get (D := (dC, dI)) (ci := 3) (v := .ref (q1 2)) (C := RX4) (T := TX4) (N := 11) hx hb hts hin4 hown hK hP 6 rfl rfl 1 (by decide) hk2 (fun _ h9 => h9) rfl dX4_takeOver_16 ?_
  refine lv_iconst (v := 0) hx hb dX4_takeOver_19 (by decide) ?_
  refine lv_aload_n hx hb dX4_takeOver_20 rfl (lv_at hl 0 rfl) ?_
  refine va_get (D := (dC, dI)) (ci := 3) (v := .ref (q0 2)) (C := RX4) (T := TX4) (N := 11) hx hb hts hin4 hown hK hP 0 rfl rfl 1 (by decide) hk2 (fun _ h9 => h9) rfl dX4_takeOver_21 ?_
  refine lv_iconst (v := 0) hx hb dX4_takeOver_24 (by decide) ?_
  refine lv_bipush (v := 121) hx hb dX4_takeOver_25 (by decide) ?_
  refine mcopy hx hb hml hl.1 hown hk1 hk1N hk1S hk1I hK hP hD hS 8 2 0 rfl rfl rfl (by decide) (by decide) (Nat.le_of_ble_eq_true rfl) (Nat.le_of_ble_eq_true rfl) dX4_takeOver_27 (fun H locs hP hD hS => ?_)
  have hP : va_P (dC, dI) vwCl (wX4 cI cZ cC q0 ((pX4_cells g1), (pX4_holders g1), (pX4_steps g0), (pX4_grainsByCell g0), (pX4_settings g0), (pX4_grains g0), (pX4_lot g0), (pX4_released g0), (pX4_lost g0), (pX4_gone g0), (pX4_walked g0)) ++ wX4 cI cZ cC q1 g1) H := hP
  have hD : va_D A (wX4 cI cZ cC q0 ((pX4_cells g1), (pX4_holders g1), (pX4_steps g0), (pX4_grainsByCell g0), (pX4_settings g0), (pX4_grains g0), (pX4_lot g0), (pX4_released g0), (pX4_lost g0), (pX4_gone g0), (pX4_walked g0)) ++ wX4 cI cZ cC q1 g1) := hD
  refine lv_aload_n hx hb dX4_takeOver_30 rfl (lv_at hl 1 rfl) ?_
  refine va_get (D := (dC, dI)) (ci := 3) (v := .ref (q1 3)) (C := RX4) (T := TX4) (N := 11) hx hb hts hin4 hown hK hP 6 rfl rfl 2 (by decide) hk3 (fun _ h9 => h9) rfl dX4_takeOver_31 ?_
  refine lv_iconst (v := 0) hx hb dX4_takeOver_34 (by decide) ?_
  refine lv_aload_n hx hb dX4_takeOver_35 rfl (lv_at hl 0 rfl) ?_
  refine va_get (D := (dC, dI)) (ci := 3) (v := .ref (q0 3)) (C := RX4) (T := TX4) (N := 11) hx hb hts hin4 hown hK hP 0 rfl rfl 2 (by decide) hk3 (fun _ h9 => h9) rfl dX4_takeOver_36 ?_
  refine lv_iconst (v := 0) hx hb dX4_takeOver_39 (by decide) ?_
  refine lv_bipush (v := 121) hx hb dX4_takeOver_40 (by decide) ?_
  refine mcopy hx hb hml hl.1 hown hk1 hk1N hk1S hk1I hK hP hD hS 9 3 0 rfl rfl rfl (by decide) (by decide) (Nat.le_of_ble_eq_true rfl) (Nat.le_of_ble_eq_true rfl) dX4_takeOver_42 (fun H locs hP hD hS => ?_)
  have hP : va_P (dC, dI) vwCl (wX4 cI cZ cC q0 ((pX4_cells g1), (pX4_holders g1), (pX4_steps g1), (pX4_grainsByCell g0), (pX4_settings g0), (pX4_grains g0), (pX4_lot g0), (pX4_released g0), (pX4_lost g0), (pX4_gone g0), (pX4_walked g0)) ++ wX4 cI cZ cC q1 g1) H := hP
  have hD : va_D A (wX4 cI cZ cC q0 ((pX4_cells g1), (pX4_holders g1), (pX4_steps g1), (pX4_grainsByCell g0), (pX4_settings g0), (pX4_grains g0), (pX4_lot g0), (pX4_released g0), (pX4_lost g0), (pX4_gone g0), (pX4_walked g0)) ++ wX4 cI cZ cC q1 g1) := hD
  refine lv_aload_n hx hb dX4_takeOver_45 rfl (lv_at hl 1 rfl) ?_
  refine va_get (D := (dC, dI)) (ci := 3) (v := .ref (q1 4)) (C := RX4) (T := TX4) (N := 11) hx hb hts hin4 hown hK hP 6 rfl rfl 3 (by decide) hk4 (fun _ h9 => h9) rfl dX4_takeOver_46 ?_
  refine lv_iconst (v := 0) hx hb dX4_takeOver_49 (by decide) ?_
  refine lv_aload_n hx hb dX4_takeOver_50 rfl (lv_at hl 0 rfl) ?_
  refine va_get (D := (dC, dI)) (ci := 3) (v := .ref (q0 4)) (C := RX4) (T := TX4) (N := 11) hx hb hts hin4 hown hK hP 0 rfl rfl 3 (by decide) hk4 (fun _ h9 => h9) rfl dX4_takeOver_51 ?_
  refine lv_iconst (v := 0) hx hb dX4_takeOver_54 (by decide) ?_
  refine lv_bipush (v := 121) hx hb dX4_takeOver_55 (by decide) ?_
  refine mcopy hx hb hml hl.1 hown hk1 hk1N hk1S hk1I hK hP hD hS 10 4 0 rfl rfl rfl (by decide) (by decide) (Nat.le_of_ble_eq_true rfl) (Nat.le_of_ble_eq_true rfl) dX4_takeOver_57 (fun H locs hP hD hS => ?_)
  have hP : va_P (dC, dI) vwCl (wX4 cI cZ cC q0 ((pX4_cells g1), (pX4_holders g1), (pX4_steps g1), (pX4_grainsByCell g1), (pX4_settings g0), (pX4_grains g0), (pX4_lot g0), (pX4_released g0), (pX4_lost g0), (pX4_gone g0), (pX4_walked g0)) ++ wX4 cI cZ cC q1 g1) H := hP
  have hD : va_D A (wX4 cI cZ cC q0 ((pX4_cells g1), (pX4_holders g1), (pX4_steps g1), (pX4_grainsByCell g1), (pX4_settings g0), (pX4_grains g0), (pX4_lot g0), (pX4_released g0), (pX4_lost g0), (pX4_gone g0), (pX4_walked g0)) ++ wX4 cI cZ cC q1 g1) := hD
  refine lv_aload_n hx hb dX4_takeOver_60 rfl (lv_at hl 1 rfl) ?_
  refine va_get (D := (dC, dI)) (ci := 3) (v := .ref (q1 5)) (C := RX4) (T := TX4) (N := 11) hx hb hts hin4 hown hK hP 6 rfl rfl 4 (by decide) hk5 (fun _ h9 => h9) rfl dX4_takeOver_61 ?_
  refine lv_iconst (v := 0) hx hb dX4_takeOver_64 (by decide) ?_
  refine lv_aload_n hx hb dX4_takeOver_65 rfl (lv_at hl 0 rfl) ?_
  refine va_get (D := (dC, dI)) (ci := 3) (v := .ref (q0 5)) (C := RX4) (T := TX4) (N := 11) hx hb hts hin4 hown hK hP 0 rfl rfl 4 (by decide) hk5 (fun _ h9 => h9) rfl dX4_takeOver_66 ?_
  refine lv_iconst (v := 0) hx hb dX4_takeOver_69 (by decide) ?_
  refine lv_iconst (v := 4) hx hb dX4_takeOver_70 (by decide) ?_
  refine mcopy hx hb hml hl.1 hown hk1 hk1N hk1S hk1I hK hP hD hS 11 5 0 rfl rfl rfl (by decide) (by decide) (Nat.le_of_ble_eq_true rfl) (Nat.le_of_ble_eq_true rfl) dX4_takeOver_71 (fun H locs hP hD hS => ?_)
  have hP : va_P (dC, dI) vwCl (wX4 cI cZ cC q0 ((pX4_cells g1), (pX4_holders g1), (pX4_steps g1), (pX4_grainsByCell g1), (pX4_settings g1), (pX4_grains g0), (pX4_lot g0), (pX4_released g0), (pX4_lost g0), (pX4_gone g0), (pX4_walked g0)) ++ wX4 cI cZ cC q1 g1) H := hP
  have hD : va_D A (wX4 cI cZ cC q0 ((pX4_cells g1), (pX4_holders g1), (pX4_steps g1), (pX4_grainsByCell g1), (pX4_settings g1), (pX4_grains g0), (pX4_lot g0), (pX4_released g0), (pX4_lost g0), (pX4_gone g0), (pX4_walked g0)) ++ wX4 cI cZ cC q1 g1) := hD
  refine lv_aload_n hx hb dX4_takeOver_74 rfl (lv_at hl 0 rfl) ?_
  refine lv_aload_n hx hb dX4_takeOver_75 rfl (lv_at hl 1 rfl) ?_
  refine va_get (D := (dC, dI)) (ci := 3) (v := .int (pX4_grains g1)) (C := RX4) (T := TX4) (N := 11) hx hb hts hin4 hown hK hP 6 rfl rfl 5 (by decide) hk6 (fun _ h9 => h9) rfl dX4_takeOver_76 ?_
  refine va_put (D := (dC, dI)) (ci := 3) (v := .int (pX4_grains g1)) (ty := .int) (C := RX4) (T := TX4) (N := 11) hx hb hts hin4 tyX4 tyX4_ok nmX4 hown hK hP hD hS 0 rfl rfl 5 (by decide) hk6 (fun _ h9 => h9) rfl (by decide +kernel) rfl rfl (Nat.le_of_ble_eq_true rfl) dX4_takeOver_79 (fun H locs hP hD hS => ?_)
  have hP : va_P (dC, dI) vwCl (wX4 cI cZ cC q0 ((pX4_cells g1), (pX4_holders g1), (pX4_steps g1), (pX4_grainsByCell g1), (pX4_settings g1), (pX4_grains g1), (pX4_lot g0), (pX4_released g0), (pX4_lost g0), (pX4_gone g0), (pX4_walked g0)) ++ wX4 cI cZ cC q1 g1) H := hP
  have hD : va_D A (wX4 cI cZ cC q0 ((pX4_cells g1), (pX4_holders g1), (pX4_steps g1), (pX4_grainsByCell g1), (pX4_settings g1), (pX4_grains g1), (pX4_lot g0), (pX4_released g0), (pX4_lost g0), (pX4_gone g0), (pX4_walked g0)) ++ wX4 cI cZ cC q1 g1) := hD
  refine lv_aload_n hx hb dX4_takeOver_82 rfl (lv_at hl 0 rfl) ?_
  refine lv_aload_n hx hb dX4_takeOver_83 rfl (lv_at hl 1 rfl) ?_
  refine va_get (D := (dC, dI)) (ci := 3) (v := .int (pX4_lot g1)) (C := RX4) (T := TX4) (N := 11) hx hb hts hin4 hown hK hP 6 rfl rfl 6 (by decide) hk7 (fun _ h9 => h9) rfl dX4_takeOver_84 ?_
  refine va_put (D := (dC, dI)) (ci := 3) (v := .int (pX4_lot g1)) (ty := .int) (C := RX4) (T := TX4) (N := 11) hx hb hts hin4 tyX4 tyX4_ok nmX4 hown hK hP hD hS 0 rfl rfl 6 (by decide) hk7 (fun _ h9 => h9) rfl (by decide +kernel) rfl rfl (Nat.le_of_ble_eq_true rfl) dX4_takeOver_87 (fun H locs hP hD hS => ?_)
  have hP : va_P (dC, dI) vwCl (wX4 cI cZ cC q0 ((pX4_cells g1), (pX4_holders g1), (pX4_steps g1), (pX4_grainsByCell g1), (pX4_settings g1), (pX4_grains g1), (pX4_lot g1), (pX4_released g0), (pX4_lost g0), (pX4_gone g0), (pX4_walked g0)) ++ wX4 cI cZ cC q1 g1) H := hP
  have hD : va_D A (wX4 cI cZ cC q0 ((pX4_cells g1), (pX4_holders g1), (pX4_steps g1), (pX4_grainsByCell g1), (pX4_settings g1), (pX4_grains g1), (pX4_lot g1), (pX4_released g0), (pX4_lost g0), (pX4_gone g0), (pX4_walked g0)) ++ wX4 cI cZ cC q1 g1) := hD
  refine lv_aload_n hx hb dX4_takeOver_90 rfl (lv_at hl 0 rfl) ?_
  refine lv_aload_n hx hb dX4_takeOver_91 rfl (lv_at hl 1 rfl) ?_
  refine va_get (D := (dC, dI)) (ci := 3) (v := .int (pX4_released g1)) (C := RX4) (T := TX4) (N := 11) hx hb hts hin4 hown hK hP 6 rfl rfl 7 (by decide) hk8 (fun _ h9 => h9) rfl dX4_takeOver_92 ?_
  refine va_put (D := (dC, dI)) (ci := 3) (v := .int (pX4_released g1)) (ty := .int) (C := RX4) (T := TX4) (N := 11) hx hb hts hin4 tyX4 tyX4_ok nmX4 hown hK hP hD hS 0 rfl rfl 7 (by decide) hk8 (fun _ h9 => h9) rfl (by decide +kernel) rfl rfl (Nat.le_of_ble_eq_true rfl) dX4_takeOver_95 (fun H locs hP hD hS => ?_)
  have hP : va_P (dC, dI) vwCl (wX4 cI cZ cC q0 ((pX4_cells g1), (pX4_holders g1), (pX4_steps g1), (pX4_grainsByCell g1), (pX4_settings g1), (pX4_grains g1), (pX4_lot g1), (pX4_released g1), (pX4_lost g0), (pX4_gone g0), (pX4_walked g0)) ++ wX4 cI cZ cC q1 g1) H := hP
  have hD : va_D A (wX4 cI cZ cC q0 ((pX4_cells g1), (pX4_holders g1), (pX4_steps g1), (pX4_grainsByCell g1), (pX4_settings g1), (pX4_grains g1), (pX4_lot g1), (pX4_released g1), (pX4_lost g0), (pX4_gone g0), (pX4_walked g0)) ++ wX4 cI cZ cC q1 g1) := hD
  refine lv_aload_n hx hb dX4_takeOver_98 rfl (lv_at hl 0 rfl) ?_
  refine lv_aload_n hx hb dX4_takeOver_99 rfl (lv_at hl 1 rfl) ?_
  refine va_get (D := (dC, dI)) (ci := 3) (v := .int (pX4_lost g1)) (C := RX4) (T := TX4) (N := 11) hx hb hts hin4 hown hK hP 6 rfl rfl 8 (by decide) hk9 (fun _ h9 => h9) rfl dX4_takeOver_100 ?_
  refine va_put (D := (dC, dI)) (ci := 3) (v := .int (pX4_lost g1)) (ty := .int) (C := RX4) (T := TX4) (N := 11) hx hb hts hin4 tyX4 tyX4_ok nmX4 hown hK hP hD hS 0 rfl rfl 8 (by decide) hk9 (fun _ h9 => h9) rfl (by decide +kernel) rfl rfl (Nat.le_of_ble_eq_true rfl) dX4_takeOver_103 (fun H locs hP hD hS => ?_)
  have hP : va_P (dC, dI) vwCl (wX4 cI cZ cC q0 ((pX4_cells g1), (pX4_holders g1), (pX4_steps g1), (pX4_grainsByCell g1), (pX4_settings g1), (pX4_grains g1), (pX4_lot g1), (pX4_released g1), (pX4_lost g1), (pX4_gone g0), (pX4_walked g0)) ++ wX4 cI cZ cC q1 g1) H := hP
  have hD : va_D A (wX4 cI cZ cC q0 ((pX4_cells g1), (pX4_holders g1), (pX4_steps g1), (pX4_grainsByCell g1), (pX4_settings g1), (pX4_grains g1), (pX4_lot g1), (pX4_released g1), (pX4_lost g1), (pX4_gone g0), (pX4_walked g0)) ++ wX4 cI cZ cC q1 g1) := hD
  refine lv_aload_n hx hb dX4_takeOver_106 rfl (lv_at hl 0 rfl) ?_
  refine lv_aload_n hx hb dX4_takeOver_107 rfl (lv_at hl 1 rfl) ?_
  refine va_get (D := (dC, dI)) (ci := 3) (v := .int (pX4_gone g1)) (C := RX4) (T := TX4) (N := 11) hx hb hts hin4 hown hK hP 6 rfl rfl 9 (by decide) hk10 (fun _ h9 => h9) rfl dX4_takeOver_108 ?_
  refine va_put (D := (dC, dI)) (ci := 3) (v := .int (pX4_gone g1)) (ty := .int) (C := RX4) (T := TX4) (N := 11) hx hb hts hin4 tyX4 tyX4_ok nmX4 hown hK hP hD hS 0 rfl rfl 9 (by decide) hk10 (fun _ h9 => h9) rfl (by decide +kernel) rfl rfl (Nat.le_of_ble_eq_true rfl) dX4_takeOver_111 (fun H locs hP hD hS => ?_)
  have hP : va_P (dC, dI) vwCl (wX4 cI cZ cC q0 ((pX4_cells g1), (pX4_holders g1), (pX4_steps g1), (pX4_grainsByCell g1), (pX4_settings g1), (pX4_grains g1), (pX4_lot g1), (pX4_released g1), (pX4_lost g1), (pX4_gone g1), (pX4_walked g0)) ++ wX4 cI cZ cC q1 g1) H := hP
  have hD : va_D A (wX4 cI cZ cC q0 ((pX4_cells g1), (pX4_holders g1), (pX4_steps g1), (pX4_grainsByCell g1), (pX4_settings g1), (pX4_grains g1), (pX4_lot g1), (pX4_released g1), (pX4_lost g1), (pX4_gone g1), (pX4_walked g0)) ++ wX4 cI cZ cC q1 g1) := hD
  refine lv_aload_n hx hb dX4_takeOver_114 rfl (lv_at hl 0 rfl) ?_
  refine lv_aload_n hx hb dX4_takeOver_115 rfl (lv_at hl 1 rfl) ?_
  refine va_get (D := (dC, dI)) (ci := 3) (v := .int (pX4_walked g1)) (C := RX4) (T := TX4) (N := 11) hx hb hts hin4 hown hK hP 6 rfl rfl 10 (by decide) hk11 (fun _ h9 => h9) rfl dX4_takeOver_116 ?_
  refine va_put (D := (dC, dI)) (ci := 3) (v := .int (pX4_walked g1)) (ty := .int) (C := RX4) (T := TX4) (N := 11) hx hb hts hin4 tyX4 tyX4_ok nmX4 hown hK hP hD hS 0 rfl rfl 10 (by decide) hk11 (fun _ h9 => h9) rfl (by decide +kernel) rfl rfl (Nat.le_of_ble_eq_true rfl) dX4_takeOver_119 (fun H locs hP hD hS => ?_)
  have hP : va_P (dC, dI) vwCl (wX4 cI cZ cC q0 ((pX4_cells g1), (pX4_holders g1), (pX4_steps g1), (pX4_grainsByCell g1), (pX4_settings g1), (pX4_grains g1), (pX4_lot g1), (pX4_released g1), (pX4_lost g1), (pX4_gone g1), (pX4_walked g1)) ++ wX4 cI cZ cC q1 g1) H := hP
  have hD : va_D A (wX4 cI cZ cC q0 ((pX4_cells g1), (pX4_holders g1), (pX4_steps g1), (pX4_grainsByCell g1), (pX4_settings g1), (pX4_grains g1), (pX4_lot g1), (pX4_released g1), (pX4_lost g1), (pX4_gone g1), (pX4_walked g1)) ++ wX4 cI cZ cC q1 g1) := hD
  obtain rfl := Option.some.inj hf
  exact W.vret hx hb hr (fun t ht hW => ⟨⟨(), rfl, trivial, by rw [ht]; exact hP, hD⟩, hS.F ht⟩) hS.2.2 dX4_takeOver_122
set_option maxHeartbeats 4000000 in
set_option maxRecDepth 100000 in
theorem mX4_grainAt (l : Launch) (dC : Nat → ClassId) (dI : Nat → Nat → Nat) (cI cZ cC cO : ClassId) (q0 : Nat → Nat) (a1 : Int32) (g0 : GX4) (out : Int32) (hf : fX4_grainAt a1 g0 = some out) : Met l yX4_grainAt wsX4_grainAt rmX4_grainAt (va_Pc [.ref (q0 0), .int a1] (pcR (dC, dI) (wTys cI cZ cC cO) (wX4 cI cZ cC q0 g0))) (vp_Si (fun r => r = out)) 0 0 (fun _ => False) := by
  refine Met.ofW (cc := cX4_grainAt) (maxL := 2) (ret := (some .int)) (by decide) rfl ?_
  intro p e s m args below meth c s₁ B hml hv
  obtain ⟨hargs, hP, hK, hN⟩ := hv
  have hx := B.exec
  have hb := B.bytes
  have hr := B.returns
  have hts := atoms_spec (ws := wsX4_grainAt) B.pre
  have hown : s.vm.findClass RX4 = some m.cls := findClass_of_methodNamed B.named
  have hlocks := B.notSynchronized
  have hk0 := hts (.fieldLink RX4 21 "RimGrains$State" "grainsByCell" "[I") (by decide +kernel)
  have hin4 : ∀ w ∈ wsX40, w ∈ wsX4_grainAt := by decide +kernel
  have hE := lg_entry_eq m [.ref (q0 0), .int a1] 2
  rw [← hargs] at hE
  rw [hE]
  have hl := lv_entry [.ref (q0 0), .int a1] (n := 2) (Nat.le_of_ble_eq_true rfl)
  generalize (lg_sl [.ref (q0 0), .int a1] ++ List.replicate (2 - (lg_sl [.ref (q0 0), .int a1]).length) Slot.unset).toArray = ls at hl ⊢
  have hl : lv_has ls 2 [(0, .ref (q0 0)), (1, .int a1)] := hl
  unfold fX4_grainAt at hf
  refine lv_iload_n hx hb dX4_grainAt_0 rfl (lv_at hl 1 rfl) ?_
  refine lv_if_lt (tgt := 19) hx hb dX4_grainAt_1 (by decide) (fun hc => ?_) (fun hc => ?_)
  · have hf := ot hc hf
    refine lv_bipush (v := (-4)) hx hb dX4_grainAt_19 (by decide) ?_
    obtain rfl := Option.some.inj hf
    exact W.iret (v := (-4)) hx hb hr (fun t ht hW => ⟨_, rfl, rfl, ht⟩) (fun _ h => by cases h) dX4_grainAt_21
  · have hf := oe hc hf
    refine lv_iload_n hx hb dX4_grainAt_4 rfl (lv_at hl 1 rfl) ?_
    refine lv_bipush (v := 121) hx hb dX4_grainAt_5 (by decide) ?_
    refine lv_icmp_ge (tgt := 19) hx hb dX4_grainAt_7 (by decide) (fun hc => ?_) (fun hc => ?_)
    · have hf := ot hc hf
      refine lv_bipush (v := (-4)) hx hb dX4_grainAt_19 (by decide) ?_
      obtain rfl := Option.some.inj hf
      exact W.iret (v := (-4)) hx hb hr (fun t ht hW => ⟨_, rfl, rfl, ht⟩) (fun _ h => by cases h) dX4_grainAt_21
    · have hf := oe hc hf
      refine lv_aload_n hx hb dX4_grainAt_10 rfl (lv_at hl 0 rfl) ?_
      refine va_get (D := (dC, dI)) (ci := 3) (v := .ref (q0 4)) (C := RX4) (T := TX4) (N := 11) hx hb hts hin4 hown hK hP 0 rfl rfl 3 (by decide) hk0 (fun _ h9 => h9) rfl dX4_grainAt_11 ?_
      refine lv_iload_n hx hb dX4_grainAt_14 rfl (lv_at hl 1 rfl) ?_
      obtain ⟨hin, hf⟩ := og hf
      refine va_iald hx hb hK hP 4 0 rfl rfl hin dX4_grainAt_15 ?_
      refine lv_goto (tgt := 21) hx hb dX4_grainAt_16 (by decide) ?_
      obtain rfl := Option.some.inj hf
      exact W.iret (v := ((pX4_grainsByCell g0) a1.toNatClampNeg)) hx hb hr (fun t ht hW => ⟨_, rfl, rfl, ht⟩) (fun _ h => by cases h) dX4_grainAt_21
set_option maxHeartbeats 4000000 in
set_option maxRecDepth 100000 in
theorem mX4_refusalToGo (l : Launch) (dC : Nat → ClassId) (dI : Nat → Nat → Nat) (cI cZ cC cO : ClassId) (q0 : Nat → Nat) (a1 : Int32) (g0 : GX4) (out : Int32) (hf : fX4_refusalToGo a1 g0 = some out) : Met l yX4_refusalToGo wsX4_refusalToGo rmX4_refusalToGo (va_Pc [.ref (q0 0), .int a1] (pcR (dC, dI) (wTys cI cZ cC cO) (wX4 cI cZ cC q0 g0))) (vp_Si (fun r => r = out)) 0 0 (fun _ => False) := by
  refine Met.ofW (cc := cX4_refusalToGo) (maxL := 2) (ret := (some .int)) (by decide) rfl ?_
  intro p e s m args below meth c s₁ B hml hv
  obtain ⟨hargs, hP, hK, hN⟩ := hv
  have hx := B.exec
  have hb := B.bytes
  have hr := B.returns
  have hts := atoms_spec (ws := wsX4_refusalToGo) B.pre
  have hown : s.vm.findClass RX4 = some m.cls := findClass_of_methodNamed B.named
  have hlocks := B.notSynchronized
  have hE := lg_entry_eq m [.ref (q0 0), .int a1] 2
  rw [← hargs] at hE
  rw [hE]
  have hl := lv_entry [.ref (q0 0), .int a1] (n := 2) (Nat.le_of_ble_eq_true rfl)
  generalize (lg_sl [.ref (q0 0), .int a1] ++ List.replicate (2 - (lg_sl [.ref (q0 0), .int a1]).length) Slot.unset).toArray = ls at hl ⊢
  have hl : lv_has ls 2 [(0, .ref (q0 0)), (1, .int a1)] := hl
  unfold fX4_refusalToGo at hf
  refine lv_iload_n hx hb dX4_refusalToGo_0 rfl (lv_at hl 1 rfl) ?_
  obtain ⟨o1, ho1, hf⟩ := ob hf
  refine rS (rest := []) (As := [.int a1]) ⟨hx, hb, hml, hown, hts⟩ (mX2_isRim l dC dI cI cZ cC cO  _ _ ho1) (va_cwS 1 hts gX4_refusalToGo_X2_isRim rfl rfl rfl (by decide +kernel) ⟨Nat.le_of_ble_eq_true rfl, Nat.le_of_ble_eq_true rfl⟩) hK hN hP [] rfl rfl hl.1 rfl (Nat.le_of_ble_eq_true rfl) dX4_refusalToGo_1 ⟨Nat.zero_le _, Nat.zero_le _⟩ ?_
  refine lv_if_ne (tgt := 9) hx hb dX4_refusalToGo_4 (by decide) (fun hc => ?_) (fun hc => ?_)
  · have hf := oe hc hf
    refine lv_aload_n hx hb dX4_refusalToGo_9 rfl (lv_at hl 0 rfl) ?_
    refine lv_iload_n hx hb dX4_refusalToGo_10 rfl (lv_at hl 1 rfl) ?_
    obtain ⟨o11, ho11, hf⟩ := ob hf
    refine rS (rest := [.ref (q0 0)]) (As := [.int a1]) ⟨hx, hb, hml, hown, hts⟩ (mX2_cellOfRim l dC dI cI cZ cC cO  _ _ ho11) (va_cwS 1 hts gX4_refusalToGo_X2_cellOfRim rfl rfl rfl (by decide +kernel) ⟨Nat.le_of_ble_eq_true rfl, Nat.le_of_ble_eq_true rfl⟩) hK hN hP [] rfl rfl hl.1 rfl (Nat.le_of_ble_eq_true rfl) dX4_refusalToGo_11 ⟨Nat.zero_le _, Nat.zero_le _⟩ ?_
    obtain ⟨o14, ho14, hf⟩ := ob hf
    refine rV (rest := []) (As := [.int o11]) ⟨hx, hb, hml, hown, hts⟩ (mX4_grainAt l dC dI cI cZ cC cO q0 _ _ _ ho14) (cwV 1 hts gX4_refusalToGo_X4_grainAt rfl rfl rfl (by decide +kernel) ⟨Nat.le_of_ble_eq_true rfl, Nat.le_of_ble_eq_true rfl⟩) hK hN hP [0, 1, 2, 3, 4, 5] rfl 3 rfl rfl rfl rfl hl.1 rfl (Nat.le_of_ble_eq_true rfl) dX4_refusalToGo_14 ⟨Nat.zero_le _, Nat.zero_le _⟩ ?_
    refine lv_bipush (v := (-4)) hx hb dX4_refusalToGo_17 (by decide) ?_
    refine lv_icmp_ne (tgt := 26) hx hb dX4_refusalToGo_19 (by decide) (fun hc => ?_) (fun hc => ?_)
    · have hf := oe hc hf
      refine lv_bipush (v := (-2)) hx hb dX4_refusalToGo_26 (by decide) ?_
      obtain rfl := Option.some.inj hf
      exact W.iret (v := (-2)) hx hb hr (fun t ht hW => ⟨_, rfl, rfl, ht⟩) (fun _ h => by cases h) dX4_refusalToGo_28
    · have hf := ot hc hf
      refine lv_iconst (v := 0) hx hb dX4_refusalToGo_22 (by decide) ?_
      refine lv_goto (tgt := 28) hx hb dX4_refusalToGo_23 (by decide) ?_
      obtain rfl := Option.some.inj hf
      exact W.iret (v := 0) hx hb hr (fun t ht hW => ⟨_, rfl, rfl, ht⟩) (fun _ h => by cases h) dX4_refusalToGo_28
  · have hf := ot hc hf
    refine lv_iconst (v := (-1)) hx hb dX4_refusalToGo_7 (by decide) ?_
    obtain rfl := Option.some.inj hf
    exact W.iret (v := (-1)) hx hb hr (fun t ht hW => ⟨_, rfl, rfl, ht⟩) (fun _ h => by cases h) dX4_refusalToGo_8
set_option maxHeartbeats 4000000 in
set_option maxRecDepth 100000 in
theorem mX4_setting (l : Launch) (dC : Nat → ClassId) (dI : Nat → Nat → Nat) (cI cZ cC cO : ClassId) (q0 : Nat → Nat) (a1 : Int32) (g0 : GX4) (out : Int32) (hf : fX4_setting a1 g0 = some out) : Met l yX4_setting wsX4_setting rmX4_setting (va_Pc [.ref (q0 0), .int a1] (pcR (dC, dI) (wTys cI cZ cC cO) (wX4 cI cZ cC q0 g0))) (vp_Si (fun r => r = out)) 0 0 (fun _ => False) := by
  refine Met.ofW (cc := cX4_setting) (maxL := 2) (ret := (some .int)) (by decide) rfl ?_
  intro p e s m args below meth c s₁ B hml hv
  obtain ⟨hargs, hP, hK, hN⟩ := hv
  have hx := B.exec
  have hb := B.bytes
  have hr := B.returns
  have hts := atoms_spec (ws := wsX4_setting) B.pre
  have hown : s.vm.findClass RX4 = some m.cls := findClass_of_methodNamed B.named
  have hlocks := B.notSynchronized
  have hk0 := hts (.fieldLink RX4 24 "RimGrains$State" "settings" "[I") (by decide +kernel)
  have hin4 : ∀ w ∈ wsX40, w ∈ wsX4_setting := by decide +kernel
  have hE := lg_entry_eq m [.ref (q0 0), .int a1] 2
  rw [← hargs] at hE
  rw [hE]
  have hl := lv_entry [.ref (q0 0), .int a1] (n := 2) (Nat.le_of_ble_eq_true rfl)
  generalize (lg_sl [.ref (q0 0), .int a1] ++ List.replicate (2 - (lg_sl [.ref (q0 0), .int a1]).length) Slot.unset).toArray = ls at hl ⊢
  have hl : lv_has ls 2 [(0, .ref (q0 0)), (1, .int a1)] := hl
  unfold fX4_setting at hf
  refine lv_iload_n hx hb dX4_setting_0 rfl (lv_at hl 1 rfl) ?_
  refine lv_if_lt (tgt := 18) hx hb dX4_setting_1 (by decide) (fun hc => ?_) (fun hc => ?_)
  · have hf := ot hc hf
    refine lv_iconst (v := 0) hx hb dX4_setting_18 (by decide) ?_
    obtain rfl := Option.some.inj hf
    exact W.iret (v := 0) hx hb hr (fun t ht hW => ⟨_, rfl, rfl, ht⟩) (fun _ h => by cases h) dX4_setting_19
  · have hf := oe hc hf
    refine lv_iload_n hx hb dX4_setting_4 rfl (lv_at hl 1 rfl) ?_
    refine lv_iconst (v := 4) hx hb dX4_setting_5 (by decide) ?_
    refine lv_icmp_ge (tgt := 18) hx hb dX4_setting_6 (by decide) (fun hc => ?_) (fun hc => ?_)
    · have hf := ot hc hf
      refine lv_iconst (v := 0) hx hb dX4_setting_18 (by decide) ?_
      obtain rfl := Option.some.inj hf
      exact W.iret (v := 0) hx hb hr (fun t ht hW => ⟨_, rfl, rfl, ht⟩) (fun _ h => by cases h) dX4_setting_19
    · have hf := oe hc hf
      refine lv_aload_n hx hb dX4_setting_9 rfl (lv_at hl 0 rfl) ?_
      refine va_get (D := (dC, dI)) (ci := 3) (v := .ref (q0 5)) (C := RX4) (T := TX4) (N := 11) hx hb hts hin4 hown hK hP 0 rfl rfl 4 (by decide) hk0 (fun _ h9 => h9) rfl dX4_setting_10 ?_
      refine lv_iload_n hx hb dX4_setting_13 rfl (lv_at hl 1 rfl) ?_
      obtain ⟨hin, hf⟩ := og hf
      refine va_iald hx hb hK hP 5 0 rfl rfl hin dX4_setting_14 ?_
      refine lv_goto (tgt := 19) hx hb dX4_setting_15 (by decide) ?_
      obtain rfl := Option.some.inj hf
      exact W.iret (v := ((pX4_settings g0) a1.toNatClampNeg)) hx hb hr (fun t ht hW => ⟨_, rfl, rfl, ht⟩) (fun _ h => by cases h) dX4_setting_19
set_option maxHeartbeats 4000000 in
set_option maxRecDepth 100000 in
theorem mX4_firstGrainBeside (l : Launch) (dC : Nat → ClassId) (dI : Nat → Nat → Nat) (cI cZ cC cO : ClassId) (q0 : Nat → Nat) (a1 : Int32) (g0 : GX4) (out : Int32) (hf : fX4_firstGrainBeside a1 g0 = some out) : Met l yX4_firstGrainBeside wsX4_firstGrainBeside rmX4_firstGrainBeside (va_Pc [.ref (q0 0), .int a1] (pcR (dC, dI) (wTys cI cZ cC cO) (wX4 cI cZ cC q0 g0))) (vp_Si (fun r => r = out)) 0 0 (fun _ => False) := by
  refine Met.ofW (cc := cX4_firstGrainBeside) (maxL := 4) (ret := (some .int)) (by decide) rfl ?_
  intro p e s m args below meth c s₁ B hml hv
  obtain ⟨hargs, hP, hK, hN⟩ := hv
  have hx := B.exec
  have hb := B.bytes
  have hr := B.returns
  have hts := atoms_spec (ws := wsX4_firstGrainBeside) B.pre
  have hown : s.vm.findClass RX4 = some m.cls := findClass_of_methodNamed B.named
  have hlocks := B.notSynchronized
  have hE := lg_entry_eq m [.ref (q0 0), .int a1] 4
  rw [← hargs] at hE
  rw [hE]
  have hl := lv_entry [.ref (q0 0), .int a1] (n := 4) (Nat.le_of_ble_eq_true rfl)
  generalize (lg_sl [.ref (q0 0), .int a1] ++ List.replicate (4 - (lg_sl [.ref (q0 0), .int a1]).length) Slot.unset).toArray = ls at hl ⊢
  have hl : lv_has ls 4 [(0, .ref (q0 0)), (1, .int a1)] := hl
  unfold fX4_firstGrainBeside at hf
  refine lv_iconst (v := 0) hx hb dX4_firstGrainBeside_0 (by decide) ?_
  refine lv_istore_n (lv' := [(2, .int 0), (0, .ref (q0 0)), (1, .int a1)]) hx hb dX4_firstGrainBeside_1 rfl hl (by decide) rfl (fun ls hl => ?_)
  have hL2 : ∀ (n : Nat) (s2 : Int32), lp (tX4_firstGrainBeside_2 a1 g0) n s2 = some out → ∀ (ls : Array Slot), lv_has ls 4 [(0, .ref (q0 0)), (1, .int a1), (2, .int s2)] → W p l e (headSpec wsX4_firstGrainBeside rmX4_firstGrainBeside).room s m args below meth c s.heap [] 0 0 (MQ below (vp_Si (fun r => r = out)) args s 0 0 (fun _ => False)) (F0 m 2 ls []) := by
    intro n
    induction n with
    | zero => intro s2 hf; exact (lp0 hf).elim
    | succ n ih2 =>
      intro s2 hf ls hl
      obtain ⟨r2, hf, hn⟩ := lps hf
      unfold tX4_firstGrainBeside_2 at hf
      refine lv_iload_n hx hb dX4_firstGrainBeside_2 rfl (lv_at hl 2 rfl) ?_
      refine lv_iconst (v := 4) hx hb dX4_firstGrainBeside_3 (by decide) ?_
      refine lv_icmp_ge (tgt := 31) hx hb dX4_firstGrainBeside_4 (by decide) (fun hc => ?_) (fun hc => ?_)
      · have hf := ot hc hf
        refine lv_bipush (v := (-4)) hx hb dX4_firstGrainBeside_31 (by decide) ?_
        obtain rfl := Option.some.inj hf
        obtain rfl := Option.some.inj hn
        exact W.iret (v := (-4)) hx hb hr (fun t ht hW => ⟨_, rfl, rfl, ht⟩) (fun _ h => by cases h) dX4_firstGrainBeside_33
      · have hf := oe hc hf
        refine lv_aload_n hx hb dX4_firstGrainBeside_7 rfl (lv_at hl 0 rfl) ?_
        refine lv_iload_n hx hb dX4_firstGrainBeside_8 rfl (lv_at hl 1 rfl) ?_
        refine lv_iload_n hx hb dX4_firstGrainBeside_9 rfl (lv_at hl 2 rfl) ?_
        obtain ⟨o10, ho10, hf⟩ := ob hf
        refine rS (rest := [.ref (q0 0)]) (As := [.int a1, .int s2]) ⟨hx, hb, hml, hown, hts⟩ (mX2_neighbour l dC dI cI cZ cC cO  _ _ _ ho10) (va_cwS 2 hts gX4_firstGrainBeside_X2_neighbour rfl rfl rfl (by decide +kernel) ⟨Nat.le_of_ble_eq_true rfl, Nat.le_of_ble_eq_true rfl⟩) hK hN hP [] rfl rfl hl.1 rfl (Nat.le_of_ble_eq_true rfl) dX4_firstGrainBeside_10 ⟨Nat.zero_le _, Nat.zero_le _⟩ ?_
        obtain ⟨o13, ho13, hf⟩ := ob hf
        refine rV (rest := []) (As := [.int o10]) ⟨hx, hb, hml, hown, hts⟩ (mX4_grainAt l dC dI cI cZ cC cO q0 _ _ _ ho13) (cwV 1 hts gX4_firstGrainBeside_X4_grainAt rfl rfl rfl (by decide +kernel) ⟨Nat.le_of_ble_eq_true rfl, Nat.le_of_ble_eq_true rfl⟩) hK hN hP [0, 1, 2, 3, 4, 5] rfl 3 rfl rfl rfl rfl hl.1 rfl (Nat.le_of_ble_eq_true rfl) dX4_firstGrainBeside_13 ⟨Nat.zero_le _, Nat.zero_le _⟩ ?_
        refine lv_istore_n (lv' := [(3, .int o13), (0, .ref (q0 0)), (1, .int a1), (2, .int s2)]) hx hb dX4_firstGrainBeside_16 rfl hl (by decide) rfl (fun ls hl => ?_)
        refine lv_iload_n hx hb dX4_firstGrainBeside_17 rfl (lv_at hl 0 rfl) ?_
        refine lv_bipush (v := (-4)) hx hb dX4_firstGrainBeside_18 (by decide) ?_
        refine lv_icmp_eq (tgt := 25) hx hb dX4_firstGrainBeside_20 (by decide) (fun hc => ?_) (fun hc => ?_)
        · have hf := ot hc hf
          refine lv_iinc (v := (s2 + 1)) (lv' := [(2, .int (s2 + 1)), (3, .int o13), (0, .ref (q0 0)), (1, .int a1)]) hx hb dX4_firstGrainBeside_25 hl (k := 3) rfl rfl (by decide) rfl (fun ls hl => ?_)
          refine lv_goto (tgt := 2) hx hb dX4_firstGrainBeside_28 (by decide) ?_
          obtain rfl := Option.some.inj hf
          exact ih2 _ hn ls (lv_sub hl [2, 3, 0] rfl)
        · have hf := oe hc hf
          refine lv_iload_n hx hb dX4_firstGrainBeside_23 rfl (lv_at hl 0 rfl) ?_
          obtain rfl := Option.some.inj hf
          obtain rfl := Option.some.inj hn
          exact W.iret (v := o13) hx hb hr (fun t ht hW => ⟨_, rfl, rfl, ht⟩) (fun _ h => by cases h) dX4_firstGrainBeside_24
  exact hL2 FU _ hf ls (lv_sub hl [1, 2, 0] rfl)
set_option maxHeartbeats 4000000 in
set_option maxRecDepth 100000 in
theorem mX4_settle (l : Launch) (dC : Nat → ClassId) (dI : Nat → Nat → Nat) (cI cZ cC cO : ClassId) (q0 : Nat → Nat) (q1 : Nat → Nat) (g0 : GX4) (g1 : GX6) (sz : Nat) (out : GX4) (hf : fX4_settle g0 g1 = some out) : Met l yX4_settle wsX4_settle rmX4_settle (va_Pc [.ref (q0 0), .ref (q1 0)] (pcW (dC, dI) (wTys cI cZ cC cO) sz (wX4 cI cZ cC q0 g0 ++ wX6 cI cZ cC q1 g1))) (va_Qv (fun (_ : Unit) => True) (fun _ => poW (dC, dI) (va_A (wX4 cI cZ cC q0 g0 ++ wX6 cI cZ cC q1 g1) sz) (wX4 cI cZ cC q0 out ++ wX6 cI cZ cC q1 g1)) (va_A (wX4 cI cZ cC q0 g0 ++ wX6 cI cZ cC q1 g1) sz)) 0 0 (va_A (wX4 cI cZ cC q0 g0 ++ wX6 cI cZ cC q1 g1) sz) := by
  refine Met.ofW (cc := cX4_settle) (maxL := 2) (ret := none) (by decide) rfl ?_
  intro p e s m args below meth c s₁ B hml hv
  obtain ⟨hargs, hsz, hP, hK, hN, hD0⟩ := hv
  have hx := B.exec
  have hb := B.bytes
  have hr := B.returns
  have hts := atoms_spec (ws := wsX4_settle) B.pre
  have hown : s.vm.findClass RX4 = some m.cls := findClass_of_methodNamed B.named
  have hlocks := B.notSynchronized
  have hk0 := hN.f (args := args) 14 rfl
  have hk1 := hts (.fieldLink RX4 31 "RimGrains$State" "lot" "I") (by decide +kernel)
  have hk2 := hts (.fieldLink RX4 34 "RimGrains$State" "released" "I") (by decide +kernel)
  have hk3 := hts (.fieldLink RX4 43 "RimGrains$State" "walked" "I") (by decide +kernel)
  have hk4 := hN.f (args := args) 12 rfl
  have hk5 := hts (.fieldLink RX4 37 "RimGrains$State" "lost" "I") (by decide +kernel)
  have hk6 := hN.f (args := args) 10 rfl
  have hk7 := hN.f (args := args) 15 rfl
  have hin6 : ∀ w ∈ wsX60, w ∈ wsX4_settle := by decide +kernel
  have hin4 : ∀ w ∈ wsX40, w ∈ wsX4_settle := by decide +kernel
  subst hsz
  have hD := hD0.self (sz := s.heap.size)
  generalize hAe : va_A (wX4 cI cZ cC q0 g0 ++ wX6 cI cZ cC q1 g1) s.heap.size = A at hD ⊢
  have hA : ∀ q : Nat, s.heap.size ≤ q → A q := fun q h => by rw [← hAe]; exact Or.inr h
  have hS : va_S A s.heap s.heap [] := va_S.rf
  have hE := lg_entry_eq m [.ref (q0 0), .ref (q1 0)] 2
  rw [← hargs] at hE
  rw [hE]
  have hl := lv_entry [.ref (q0 0), .ref (q1 0)] (n := 2) (Nat.le_of_ble_eq_true rfl)
  generalize (lg_sl [.ref (q0 0), .ref (q1 0)] ++ List.replicate (2 - (lg_sl [.ref (q0 0), .ref (q1 0)]).length) Slot.unset).toArray = ls at hl ⊢
  have hl : lv_has ls 2 [(0, .ref (q0 0)), (1, .ref (q1 0))] := hl
  have hP : va_P (dC, dI) vwCl (wX4 cI cZ cC q0 g0 ++ wX6 cI cZ cC q1 g1) s.heap := hP
  unfold fX4_settle at hf
  refine lv_aload_n hx hb dX4_settle_0 rfl (lv_at hl 0 rfl) ?_
  refine lv_aload_n hx hb dX4_settle_1 rfl (lv_at hl 1 rfl) ?_
  refine va_getN (D := (dC, dI)) (ci := 5) (v := .int (pX6_lot g1)) (C := RX6) (T := TX6) (N := 5) hx hb hts hin6 hown hK hP 6 rfl rfl 3 (by decide) hk0 (fun _ h9 => h9) rfl dX4_settle_2 ?_
  refine va_put (D := (dC, dI)) (ci := 3) (v := .int (pX6_lot g1)) (ty := .int) (C := RX4) (T := TX4) (N := 11) hx hb hts hin4 tyX4 tyX4_ok nmX4 hown hK hP hD hS 0 rfl rfl 6 (by decide) hk1 (fun _ h9 => h9) rfl (by decide +kernel) rfl rfl (Nat.le_of_ble_eq_true rfl) dX4_settle_5 (fun H locs hP hD hS => ?_)
  have hP : va_P (dC, dI) vwCl (wX4 cI cZ cC q0 ((pX4_cells g0), (pX4_holders g0), (pX4_steps g0), (pX4_grainsByCell g0), (pX4_settings g0), (pX4_grains g0), (pX6_lot g1), (pX4_released g0), (pX4_lost g0), (pX4_gone g0), (pX4_walked g0)) ++ wX6 cI cZ cC q1 g1) H := hP
  have hD : va_D A (wX4 cI cZ cC q0 ((pX4_cells g0), (pX4_holders g0), (pX4_steps g0), (pX4_grainsByCell g0), (pX4_settings g0), (pX4_grains g0), (pX6_lot g1), (pX4_released g0), (pX4_lost g0), (pX4_gone g0), (pX4_walked g0)) ++ wX6 cI cZ cC q1 g1) := hD
  refine lv_aload_n hx hb dX4_settle_8 rfl (lv_at hl 0 rfl) ?_
  refine lv_dup hx hb dX4_settle_9 rfl ?_
  refine va_get (D := (dC, dI)) (ci := 3) (v := .int (pX4_released g0)) (C := RX4) (T := TX4) (N := 11) hx hb hts hin4 hown hK hP 0 rfl rfl 7 (by decide) hk2 (fun _ h9 => h9) rfl dX4_settle_10 ?_
  refine lv_iconst (v := 1) hx hb dX4_settle_13 (by decide) ?_
  refine lv_iadd hx hb dX4_settle_14 ?_
  refine va_put (D := (dC, dI)) (ci := 3) (v := .int ((pX4_released g0) + 1)) (ty := .int) (C := RX4) (T := TX4) (N := 11) hx hb hts hin4 tyX4 tyX4_ok nmX4 hown hK hP hD hS 0 rfl rfl 7 (by decide) hk2 (fun _ h9 => h9) rfl (by decide +kernel) rfl rfl (Nat.le_of_ble_eq_true rfl) dX4_settle_15 (fun H locs hP hD hS => ?_)
  have hP : va_P (dC, dI) vwCl (wX4 cI cZ cC q0 ((pX4_cells g0), (pX4_holders g0), (pX4_steps g0), (pX4_grainsByCell g0), (pX4_settings g0), (pX4_grains g0), (pX6_lot g1), ((pX4_released g0) + 1), (pX4_lost g0), (pX4_gone g0), (pX4_walked g0)) ++ wX6 cI cZ cC q1 g1) H := hP
  have hD : va_D A (wX4 cI cZ cC q0 ((pX4_cells g0), (pX4_holders g0), (pX4_steps g0), (pX4_grainsByCell g0), (pX4_settings g0), (pX4_grains g0), (pX6_lot g1), ((pX4_released g0) + 1), (pX4_lost g0), (pX4_gone g0), (pX4_walked g0)) ++ wX6 cI cZ cC q1 g1) := hD
  refine lv_aload_n hx hb dX4_settle_18 rfl (lv_at hl 0 rfl) ?_
  refine lv_dup hx hb dX4_settle_19 rfl ?_
  refine va_get (D := (dC, dI)) (ci := 3) (v := .int (pX4_walked g0)) (C := RX4) (T := TX4) (N := 11) hx hb hts hin4 hown hK hP 0 rfl rfl 10 (by decide) hk3 (fun _ h9 => h9) rfl dX4_settle_20 ?_
  refine lv_aload_n hx hb dX4_settle_23 rfl (lv_at hl 1 rfl) ?_
  refine va_getN (D := (dC, dI)) (ci := 5) (v := .int (pX6_steps g1)) (C := RX6) (T := TX6) (N := 5) hx hb hts hin6 hown hK hP 6 rfl rfl 1 (by decide) hk4 (fun _ h9 => h9) rfl dX4_settle_24 ?_
  refine lv_iadd hx hb dX4_settle_27 ?_
  refine va_put (D := (dC, dI)) (ci := 3) (v := .int ((pX4_walked g0) + (pX6_steps g1))) (ty := .int) (C := RX4) (T := TX4) (N := 11) hx hb hts hin4 tyX4 tyX4_ok nmX4 hown hK hP hD hS 0 rfl rfl 10 (by decide) hk3 (fun _ h9 => h9) rfl (by decide +kernel) rfl rfl (Nat.le_of_ble_eq_true rfl) dX4_settle_28 (fun H locs hP hD hS => ?_)
  have hP : va_P (dC, dI) vwCl (wX4 cI cZ cC q0 ((pX4_cells g0), (pX4_holders g0), (pX4_steps g0), (pX4_grainsByCell g0), (pX4_settings g0), (pX4_grains g0), (pX6_lot g1), ((pX4_released g0) + 1), (pX4_lost g0), (pX4_gone g0), ((pX4_walked g0) + (pX6_steps g1))) ++ wX6 cI cZ cC q1 g1) H := hP
  have hD : va_D A (wX4 cI cZ cC q0 ((pX4_cells g0), (pX4_holders g0), (pX4_steps g0), (pX4_grainsByCell g0), (pX4_settings g0), (pX4_grains g0), (pX6_lot g1), ((pX4_released g0) + 1), (pX4_lost g0), (pX4_gone g0), ((pX4_walked g0) + (pX6_steps g1))) ++ wX6 cI cZ cC q1 g1) := hD
  refine lv_aload_n hx hb dX4_settle_31 rfl (lv_at hl 1 rfl) ?_
  obtain ⟨o32, ho32, hf⟩ := ob hf
  refine rV (rest := []) (As := []) ⟨hx, hb, hml, hown, hts⟩ (mX6_sticks l dC dI cI cZ cC cO q1 _ _ ho32) (cwV 0 hts gX4_settle_X6_sticks rfl rfl rfl (by decide +kernel) ⟨Nat.le_of_ble_eq_true rfl, Nat.le_of_ble_eq_true rfl⟩) hK hN hP [6] rfl 5 rfl rfl rfl rfl hl.1 rfl (Nat.le_of_ble_eq_true rfl) dX4_settle_32 ⟨Nat.zero_le _, Nat.zero_le _⟩ ?_
  refine lv_if_eq (tgt := 57) hx hb dX4_settle_35 (by decide) (fun hc => ?_) (fun hc => ?_)
  · have hf := ot hc hf
    refine lv_aload_n hx hb dX4_settle_57 rfl (lv_at hl 0 rfl) ?_
    refine lv_dup hx hb dX4_settle_58 rfl ?_
    refine va_get (D := (dC, dI)) (ci := 3) (v := .int (pX4_lost g0)) (C := RX4) (T := TX4) (N := 11) hx hb hts hin4 hown hK hP 0 rfl rfl 8 (by decide) hk5 (fun _ h9 => h9) rfl dX4_settle_59 ?_
    refine lv_iconst (v := 1) hx hb dX4_settle_62 (by decide) ?_
    refine lv_iadd hx hb dX4_settle_63 ?_
    refine va_put (D := (dC, dI)) (ci := 3) (v := .int ((pX4_lost g0) + 1)) (ty := .int) (C := RX4) (T := TX4) (N := 11) hx hb hts hin4 tyX4 tyX4_ok nmX4 hown hK hP hD hS 0 rfl rfl 8 (by decide) hk5 (fun _ h9 => h9) rfl (by decide +kernel) rfl rfl (Nat.le_of_ble_eq_true rfl) dX4_settle_64 (fun H locs hP hD hS => ?_)
    have hP : va_P (dC, dI) vwCl (wX4 cI cZ cC q0 ((pX4_cells g0), (pX4_holders g0), (pX4_steps g0), (pX4_grainsByCell g0), (pX4_settings g0), (pX4_grains g0), (pX6_lot g1), ((pX4_released g0) + 1), ((pX4_lost g0) + 1), (pX4_gone g0), ((pX4_walked g0) + (pX6_steps g1))) ++ wX6 cI cZ cC q1 g1) H := hP
    have hD : va_D A (wX4 cI cZ cC q0 ((pX4_cells g0), (pX4_holders g0), (pX4_steps g0), (pX4_grainsByCell g0), (pX4_settings g0), (pX4_grains g0), (pX6_lot g1), ((pX4_released g0) + 1), ((pX4_lost g0) + 1), (pX4_gone g0), ((pX4_walked g0) + (pX6_steps g1))) ++ wX6 cI cZ cC q1 g1) := hD
    obtain rfl := Option.some.inj hf
    exact W.vret hx hb hr (fun t ht hW => ⟨⟨(), rfl, trivial, by rw [ht]; exact hP, hD⟩, hS.F ht⟩) hS.2.2 dX4_settle_67
  · have hf := oe hc hf
    refine lv_aload_n hx hb dX4_settle_38 rfl (lv_at hl 0 rfl) ?_
    refine lv_aload_n hx hb dX4_settle_39 rfl (lv_at hl 1 rfl) ?_
    refine va_getN (D := (dC, dI)) (ci := 5) (v := .int (pX6_place g1)) (C := RX6) (T := TX6) (N := 5) hx hb hts hin6 hown hK hP 6 rfl rfl 0 (by decide) hk6 (fun _ h9 => h9) rfl dX4_settle_40 ?_
    refine lv_aload_n hx hb dX4_settle_43 rfl (lv_at hl 1 rfl) ?_
    refine va_getN (D := (dC, dI)) (ci := 5) (v := .int (pX6_holder g1)) (C := RX6) (T := TX6) (N := 5) hx hb hts hin6 hown hK hP 6 rfl rfl 4 (by decide) hk7 (fun _ h9 => h9) rfl dX4_settle_44 ?_
    refine lv_aload_n hx hb dX4_settle_47 rfl (lv_at hl 1 rfl) ?_
    refine va_getN (D := (dC, dI)) (ci := 5) (v := .int (pX6_steps g1)) (C := RX6) (T := TX6) (N := 5) hx hb hts hin6 hown hK hP 6 rfl rfl 1 (by decide) hk4 (fun _ h9 => h9) rfl dX4_settle_48 ?_
    obtain ⟨o51, ho51, hf⟩ := ob hf
    refine wVv (W1 := (fun _ : Unit => (wX4 cI cZ cC q0 o51 ++ wX6 cI cZ cC q1 g1))) (rest := []) (As := [.int (pX6_place g1), .int (pX6_holder g1), .int (pX6_steps g1)]) ⟨hx, hb, hml, hown, hts⟩ (mX4_add l dC dI cI cZ cC cO q0 _ _ _ _ _ _ ho51) (cwV 3 hts gX4_settle_X4_add rfl rfl rfl (by decide +kernel) ⟨Nat.le_of_ble_eq_true rfl, Nat.le_of_ble_eq_true rfl⟩) hK hN hP hD hS hA [0, 1, 2, 3, 4, 5] [6] [1, 2, 3, 4, 5, 6, 0] rfl rfl (by decide) (by decide) (fun _ => rfl) 3 rfl rfl rfl rfl hl.1 rfl (Nat.le_of_ble_eq_true rfl) dX4_settle_51 ⟨Nat.zero_le _, Nat.zero_le _⟩ (fun _ H locs hP hD hS => ?_)
    have hP : va_P (dC, dI) vwCl (wX4 cI cZ cC q0 o51 ++ wX6 cI cZ cC q1 g1) H := hP
    have hD : va_D A (wX4 cI cZ cC q0 o51 ++ wX6 cI cZ cC q1 g1) := hD
    refine lv_goto (tgt := 67) hx hb dX4_settle_54 (by decide) ?_
    obtain rfl := Option.some.inj hf
    exact W.vret hx hb hr (fun t ht hW => ⟨⟨(), rfl, trivial, by rw [ht]; exact hP, hD⟩, hS.F ht⟩) hS.2.2 dX4_settle_67
set_option maxHeartbeats 4000000 in
set_option maxRecDepth 100000 in
theorem mX4_loseAtOnce (l : Launch) (dC : Nat → ClassId) (dI : Nat → Nat → Nat) (cI cZ cC cO : ClassId) (q0 : Nat → Nat) (g0 : GX4) (sz : Nat) (out : GX4) (hf : fX4_loseAtOnce g0 = some out) : Met l yX4_loseAtOnce wsX4_loseAtOnce rmX4_loseAtOnce (va_Pc [.ref (q0 0)] (pcW (dC, dI) (wTys cI cZ cC cO) sz (wX4 cI cZ cC q0 g0))) (va_Qv (fun (_ : Unit) => True) (fun _ => poW (dC, dI) (va_A (wX4 cI cZ cC q0 g0) sz) (wX4 cI cZ cC q0 out)) (va_A (wX4 cI cZ cC q0 g0) sz)) 0 0 (va_A (wX4 cI cZ cC q0 g0) sz) := by
  refine Met.ofW (cc := cX4_loseAtOnce) (maxL := 1) (ret := none) (by decide) rfl ?_
  intro p e s m args below meth c s₁ B hml hv
  obtain ⟨hargs, hsz, hP, hK, hN, hD0⟩ := hv
  have hx := B.exec
  have hb := B.bytes
  have hr := B.returns
  have hts := atoms_spec (ws := wsX4_loseAtOnce) B.pre
  have hown : s.vm.findClass RX4 = some m.cls := findClass_of_methodNamed B.named
  have hlocks := B.notSynchronized
  have hk0 := hts (.fieldLink RX4 34 "RimGrains$State" "released" "I") (by decide +kernel)
  have hk1 := hts (.fieldLink RX4 37 "RimGrains$State" "lost" "I") (by decide +kernel)
  have hin4 : ∀ w ∈ wsX40, w ∈ wsX4_loseAtOnce := by decide +kernel
  subst hsz
  have hD := hD0.self (sz := s.heap.size)
  generalize hAe : va_A (wX4 cI cZ cC q0 g0) s.heap.size = A at hD ⊢
  have hA : ∀ q : Nat, s.heap.size ≤ q → A q := fun q h => by rw [← hAe]; exact Or.inr h
  have hS : va_S A s.heap s.heap [] := va_S.rf
  have hE := lg_entry_eq m [.ref (q0 0)] 1
  rw [← hargs] at hE
  rw [hE]
  have hl := lv_entry [.ref (q0 0)] (n := 1) (Nat.le_of_ble_eq_true rfl)
  generalize (lg_sl [.ref (q0 0)] ++ List.replicate (1 - (lg_sl [.ref (q0 0)]).length) Slot.unset).toArray = ls at hl ⊢
  have hl : lv_has ls 1 [(0, .ref (q0 0))] := hl
  have hP : va_P (dC, dI) vwCl (wX4 cI cZ cC q0 g0) s.heap := hP
  unfold fX4_loseAtOnce at hf
  refine lv_aload_n hx hb dX4_loseAtOnce_0 rfl (lv_at hl 0 rfl) ?_
  refine lv_dup hx hb dX4_loseAtOnce_1 rfl ?_
  refine va_get (D := (dC, dI)) (ci := 3) (v := .int (pX4_released g0)) (C := RX4) (T := TX4) (N := 11) hx hb hts hin4 hown hK hP 0 rfl rfl 7 (by decide) hk0 (fun _ h9 => h9) rfl dX4_loseAtOnce_2 ?_
  refine lv_iconst (v := 1) hx hb dX4_loseAtOnce_5 (by decide) ?_
  refine lv_iadd hx hb dX4_loseAtOnce_6 ?_
  refine va_put (D := (dC, dI)) (ci := 3) (v := .int ((pX4_released g0) + 1)) (ty := .int) (C := RX4) (T := TX4) (N := 11) hx hb hts hin4 tyX4 tyX4_ok nmX4 hown hK hP hD hS 0 rfl rfl 7 (by decide) hk0 (fun _ h9 => h9) rfl (by decide +kernel) rfl rfl (Nat.le_of_ble_eq_true rfl) dX4_loseAtOnce_7 (fun H locs hP hD hS => ?_)
  have hP : va_P (dC, dI) vwCl (wX4 cI cZ cC q0 ((pX4_cells g0), (pX4_holders g0), (pX4_steps g0), (pX4_grainsByCell g0), (pX4_settings g0), (pX4_grains g0), (pX4_lot g0), ((pX4_released g0) + 1), (pX4_lost g0), (pX4_gone g0), (pX4_walked g0))) H := hP
  have hD : va_D A (wX4 cI cZ cC q0 ((pX4_cells g0), (pX4_holders g0), (pX4_steps g0), (pX4_grainsByCell g0), (pX4_settings g0), (pX4_grains g0), (pX4_lot g0), ((pX4_released g0) + 1), (pX4_lost g0), (pX4_gone g0), (pX4_walked g0))) := hD
  refine lv_aload_n hx hb dX4_loseAtOnce_10 rfl (lv_at hl 0 rfl) ?_
  refine lv_dup hx hb dX4_loseAtOnce_11 rfl ?_
  refine va_get (D := (dC, dI)) (ci := 3) (v := .int (pX4_lost g0)) (C := RX4) (T := TX4) (N := 11) hx hb hts hin4 hown hK hP 0 rfl rfl 8 (by decide) hk1 (fun _ h9 => h9) rfl dX4_loseAtOnce_12 ?_
  refine lv_iconst (v := 1) hx hb dX4_loseAtOnce_15 (by decide) ?_
  refine lv_iadd hx hb dX4_loseAtOnce_16 ?_
  refine va_put (D := (dC, dI)) (ci := 3) (v := .int ((pX4_lost g0) + 1)) (ty := .int) (C := RX4) (T := TX4) (N := 11) hx hb hts hin4 tyX4 tyX4_ok nmX4 hown hK hP hD hS 0 rfl rfl 8 (by decide) hk1 (fun _ h9 => h9) rfl (by decide +kernel) rfl rfl (Nat.le_of_ble_eq_true rfl) dX4_loseAtOnce_17 (fun H locs hP hD hS => ?_)
  have hP : va_P (dC, dI) vwCl (wX4 cI cZ cC q0 ((pX4_cells g0), (pX4_holders g0), (pX4_steps g0), (pX4_grainsByCell g0), (pX4_settings g0), (pX4_grains g0), (pX4_lot g0), ((pX4_released g0) + 1), ((pX4_lost g0) + 1), (pX4_gone g0), (pX4_walked g0))) H := hP
  have hD : va_D A (wX4 cI cZ cC q0 ((pX4_cells g0), (pX4_holders g0), (pX4_steps g0), (pX4_grainsByCell g0), (pX4_settings g0), (pX4_grains g0), (pX4_lot g0), ((pX4_released g0) + 1), ((pX4_lost g0) + 1), (pX4_gone g0), (pX4_walked g0))) := hD
  obtain rfl := Option.some.inj hf
  exact W.vret hx hb hr (fun t ht hW => ⟨⟨(), rfl, trivial, by rw [ht]; exact hP, hD⟩, hS.F ht⟩) hS.2.2 dX4_loseAtOnce_20
set_option maxHeartbeats 4000000 in
set_option maxRecDepth 100000 in
theorem mX4_isGrain (l : Launch) (dC : Nat → ClassId) (dI : Nat → Nat → Nat) (cI cZ cC cO : ClassId) (q0 : Nat → Nat) (a1 : Int32) (g0 : GX4) (out : Int32) (hf : fX4_isGrain a1 g0 = some out) : Met l yX4_isGrain wsX4_isGrain rmX4_isGrain (va_Pc [.ref (q0 0), .int a1] (pcR (dC, dI) (wTys cI cZ cC cO) (wX4 cI cZ cC q0 g0))) (vp_Si (fun r => r = out)) 0 0 (fun _ => False) := by
  refine Met.ofW (cc := cX4_isGrain) (maxL := 2) (ret := (some .boolean)) (by decide) rfl ?_
  intro p e s m args below meth c s₁ B hml hv
  obtain ⟨hargs, hP, hK, hN⟩ := hv
  have hx := B.exec
  have hb := B.bytes
  have hr := B.returns
  have hts := atoms_spec (ws := wsX4_isGrain) B.pre
  have hown : s.vm.findClass RX4 = some m.cls := findClass_of_methodNamed B.named
  have hlocks := B.notSynchronized
  have hk0 := hts (.fieldLink RX4 27 "RimGrains$State" "grains" "I") (by decide +kernel)
  have hin4 : ∀ w ∈ wsX40, w ∈ wsX4_isGrain := by decide +kernel
  have hE := lg_entry_eq m [.ref (q0 0), .int a1] 2
  rw [← hargs] at hE
  rw [hE]
  have hl := lv_entry [.ref (q0 0), .int a1] (n := 2) (Nat.le_of_ble_eq_true rfl)
  generalize (lg_sl [.ref (q0 0), .int a1] ++ List.replicate (2 - (lg_sl [.ref (q0 0), .int a1]).length) Slot.unset).toArray = ls at hl ⊢
  have hl : lv_has ls 2 [(0, .ref (q0 0)), (1, .int a1)] := hl
  unfold fX4_isGrain at hf
  refine lv_iload_n hx hb dX4_isGrain_0 rfl (lv_at hl 1 rfl) ?_
  refine lv_if_lt (tgt := 16) hx hb dX4_isGrain_1 (by decide) (fun hc => ?_) (fun hc => ?_)
  · have hf := ot hc hf
    refine lv_iconst (v := 0) hx hb dX4_isGrain_16 (by decide) ?_
    obtain rfl := Option.some.inj hf
    exact W.zret (v := 0) (ty := .boolean) hx hb hr rfl (fun t ht hW => ⟨_, rfl, rfl, ht⟩) (fun _ h => by cases h) dX4_isGrain_17
  · have hf := oe hc hf
    refine lv_iload_n hx hb dX4_isGrain_4 rfl (lv_at hl 1 rfl) ?_
    refine lv_aload_n hx hb dX4_isGrain_5 rfl (lv_at hl 0 rfl) ?_
    refine va_get (D := (dC, dI)) (ci := 3) (v := .int (pX4_grains g0)) (C := RX4) (T := TX4) (N := 11) hx hb hts hin4 hown hK hP 0 rfl rfl 5 (by decide) hk0 (fun _ h9 => h9) rfl dX4_isGrain_6 ?_
    refine lv_icmp_ge (tgt := 16) hx hb dX4_isGrain_9 (by decide) (fun hc => ?_) (fun hc => ?_)
    · have hf := ot hc hf
      refine lv_iconst (v := 0) hx hb dX4_isGrain_16 (by decide) ?_
      obtain rfl := Option.some.inj hf
      exact W.zret (v := 0) (ty := .boolean) hx hb hr rfl (fun t ht hW => ⟨_, rfl, rfl, ht⟩) (fun _ h => by cases h) dX4_isGrain_17
    · have hf := oe hc hf
      refine lv_iconst (v := 1) hx hb dX4_isGrain_12 (by decide) ?_
      refine lv_goto (tgt := 17) hx hb dX4_isGrain_13 (by decide) ?_
      obtain rfl := Option.some.inj hf
      exact W.zret (v := 1) (ty := .boolean) hx hb hr rfl (fun t ht hW => ⟨_, rfl, rfl, ht⟩) (fun _ h => by cases h) dX4_isGrain_17
set_option maxHeartbeats 4000000 in
set_option maxRecDepth 100000 in
theorem mX4_holderOf (l : Launch) (dC : Nat → ClassId) (dI : Nat → Nat → Nat) (cI cZ cC cO : ClassId) (q0 : Nat → Nat) (a1 : Int32) (g0 : GX4) (out : Int32) (hf : fX4_holderOf a1 g0 = some out) : Met l yX4_holderOf wsX4_holderOf rmX4_holderOf (va_Pc [.ref (q0 0), .int a1] (pcR (dC, dI) (wTys cI cZ cC cO) (wX4 cI cZ cC q0 g0))) (vp_Si (fun r => r = out)) 0 0 (fun _ => False) := by
  refine Met.ofW (cc := cX4_holderOf) (maxL := 2) (ret := (some .int)) (by decide) rfl ?_
  intro p e s m args below meth c s₁ B hml hv
  obtain ⟨hargs, hP, hK, hN⟩ := hv
  have hx := B.exec
  have hb := B.bytes
  have hr := B.returns
  have hts := atoms_spec (ws := wsX4_holderOf) B.pre
  have hown : s.vm.findClass RX4 = some m.cls := findClass_of_methodNamed B.named
  have hlocks := B.notSynchronized
  have hk0 := hts (.fieldLink RX4 15 "RimGrains$State" "holders" "[I") (by decide +kernel)
  have hin4 : ∀ w ∈ wsX40, w ∈ wsX4_holderOf := by decide +kernel
  have hE := lg_entry_eq m [.ref (q0 0), .int a1] 2
  rw [← hargs] at hE
  rw [hE]
  have hl := lv_entry [.ref (q0 0), .int a1] (n := 2) (Nat.le_of_ble_eq_true rfl)
  generalize (lg_sl [.ref (q0 0), .int a1] ++ List.replicate (2 - (lg_sl [.ref (q0 0), .int a1]).length) Slot.unset).toArray = ls at hl ⊢
  have hl : lv_has ls 2 [(0, .ref (q0 0)), (1, .int a1)] := hl
  unfold fX4_holderOf at hf
  refine lv_aload_n hx hb dX4_holderOf_0 rfl (lv_at hl 0 rfl) ?_
  refine lv_iload_n hx hb dX4_holderOf_1 rfl (lv_at hl 1 rfl) ?_
  obtain ⟨o2, ho2, hf⟩ := ob hf
  refine rV (rest := []) (As := [.int a1]) ⟨hx, hb, hml, hown, hts⟩ (mX4_isGrain l dC dI cI cZ cC cO q0 _ _ _ ho2) (cwV 1 hts gX4_holderOf_X4_isGrain rfl rfl rfl (by decide +kernel) ⟨Nat.le_of_ble_eq_true rfl, Nat.le_of_ble_eq_true rfl⟩) hK hN hP [0, 1, 2, 3, 4, 5] rfl 3 rfl rfl rfl rfl hl.1 rfl (Nat.le_of_ble_eq_true rfl) dX4_holderOf_2 ⟨Nat.zero_le _, Nat.zero_le _⟩ ?_
  refine lv_if_eq (tgt := 17) hx hb dX4_holderOf_5 (by decide) (fun hc => ?_) (fun hc => ?_)
  · have hf := ot hc hf
    refine lv_bipush (v := (-4)) hx hb dX4_holderOf_17 (by decide) ?_
    obtain rfl := Option.some.inj hf
    exact W.iret (v := (-4)) hx hb hr (fun t ht hW => ⟨_, rfl, rfl, ht⟩) (fun _ h => by cases h) dX4_holderOf_19
  · have hf := oe hc hf
    refine lv_aload_n hx hb dX4_holderOf_8 rfl (lv_at hl 0 rfl) ?_
    refine va_get (D := (dC, dI)) (ci := 3) (v := .ref (q0 2)) (C := RX4) (T := TX4) (N := 11) hx hb hts hin4 hown hK hP 0 rfl rfl 1 (by decide) hk0 (fun _ h9 => h9) rfl dX4_holderOf_9 ?_
    refine lv_iload_n hx hb dX4_holderOf_12 rfl (lv_at hl 1 rfl) ?_
    obtain ⟨hin, hf⟩ := og hf
    refine va_iald hx hb hK hP 2 0 rfl rfl hin dX4_holderOf_13 ?_
    refine lv_goto (tgt := 19) hx hb dX4_holderOf_14 (by decide) ?_
    obtain rfl := Option.some.inj hf
    exact W.iret (v := ((pX4_holders g0) a1.toNatClampNeg)) hx hb hr (fun t ht hW => ⟨_, rfl, rfl, ht⟩) (fun _ h => by cases h) dX4_holderOf_19
set_option maxHeartbeats 4000000 in
set_option maxRecDepth 100000 in
theorem mX4_refusalToBreak (l : Launch) (dC : Nat → ClassId) (dI : Nat → Nat → Nat) (cI cZ cC cO : ClassId) (q0 : Nat → Nat) (a1 : Int32) (g0 : GX4) (out : Int32) (hf : fX4_refusalToBreak a1 g0 = some out) : Met l yX4_refusalToBreak wsX4_refusalToBreak rmX4_refusalToBreak (va_Pc [.ref (q0 0), .int a1] (pcR (dC, dI) (wTys cI cZ cC cO) (wX4 cI cZ cC q0 g0))) (vp_Si (fun r => r = out)) 0 0 (fun _ => False) := by
  refine Met.ofW (cc := cX4_refusalToBreak) (maxL := 2) (ret := (some .int)) (by decide) rfl ?_
  intro p e s m args below meth c s₁ B hml hv
  obtain ⟨hargs, hP, hK, hN⟩ := hv
  have hx := B.exec
  have hb := B.bytes
  have hr := B.returns
  have hts := atoms_spec (ws := wsX4_refusalToBreak) B.pre
  have hown : s.vm.findClass RX4 = some m.cls := findClass_of_methodNamed B.named
  have hlocks := B.notSynchronized
  have hE := lg_entry_eq m [.ref (q0 0), .int a1] 2
  rw [← hargs] at hE
  rw [hE]
  have hl := lv_entry [.ref (q0 0), .int a1] (n := 2) (Nat.le_of_ble_eq_true rfl)
  generalize (lg_sl [.ref (q0 0), .int a1] ++ List.replicate (2 - (lg_sl [.ref (q0 0), .int a1]).length) Slot.unset).toArray = ls at hl ⊢
  have hl : lv_has ls 2 [(0, .ref (q0 0)), (1, .int a1)] := hl
  unfold fX4_refusalToBreak at hf
  refine lv_aload_n hx hb dX4_refusalToBreak_0 rfl (lv_at hl 0 rfl) ?_
  refine lv_iload_n hx hb dX4_refusalToBreak_1 rfl (lv_at hl 1 rfl) ?_
  obtain ⟨o2, ho2, hf⟩ := ob hf
  refine rV (rest := []) (As := [.int a1]) ⟨hx, hb, hml, hown, hts⟩ (mX4_isGrain l dC dI cI cZ cC cO q0 _ _ _ ho2) (cwV 1 hts gX4_refusalToBreak_X4_isGrain rfl rfl rfl (by decide +kernel) ⟨Nat.le_of_ble_eq_true rfl, Nat.le_of_ble_eq_true rfl⟩) hK hN hP [0, 1, 2, 3, 4, 5] rfl 3 rfl rfl rfl rfl hl.1 rfl (Nat.le_of_ble_eq_true rfl) dX4_refusalToBreak_2 ⟨Nat.zero_le _, Nat.zero_le _⟩ ?_
  refine lv_if_ne (tgt := 10) hx hb dX4_refusalToBreak_5 (by decide) (fun hc => ?_) (fun hc => ?_)
  · have hf := oe hc hf
    refine lv_aload_n hx hb dX4_refusalToBreak_10 rfl (lv_at hl 0 rfl) ?_
    refine lv_iload_n hx hb dX4_refusalToBreak_11 rfl (lv_at hl 1 rfl) ?_
    obtain ⟨o12, ho12, hf⟩ := ob hf
    refine rV (rest := []) (As := [.int a1]) ⟨hx, hb, hml, hown, hts⟩ (mX4_holderOf l dC dI cI cZ cC cO q0 _ _ _ ho12) (cwV 1 hts gX4_refusalToBreak_X4_holderOf rfl rfl rfl (by decide +kernel) ⟨Nat.le_of_ble_eq_true rfl, Nat.le_of_ble_eq_true rfl⟩) hK hN hP [0, 1, 2, 3, 4, 5] rfl 3 rfl rfl rfl rfl hl.1 rfl (Nat.le_of_ble_eq_true rfl) dX4_refusalToBreak_12 ⟨Nat.zero_le _, Nat.zero_le _⟩ ?_
    refine lv_bipush (v := (-4)) hx hb dX4_refusalToBreak_15 (by decide) ?_
    refine lv_icmp_ne (tgt := 25) hx hb dX4_refusalToBreak_17 (by decide) (fun hc => ?_) (fun hc => ?_)
    · have hf := oe hc hf
      refine lv_iconst (v := 0) hx hb dX4_refusalToBreak_25 (by decide) ?_
      obtain rfl := Option.some.inj hf
      exact W.iret (v := 0) hx hb hr (fun t ht hW => ⟨_, rfl, rfl, ht⟩) (fun _ h => by cases h) dX4_refusalToBreak_26
    · have hf := ot hc hf
      refine lv_bipush (v := (-2)) hx hb dX4_refusalToBreak_20 (by decide) ?_
      refine lv_goto (tgt := 26) hx hb dX4_refusalToBreak_22 (by decide) ?_
      obtain rfl := Option.some.inj hf
      exact W.iret (v := (-2)) hx hb hr (fun t ht hW => ⟨_, rfl, rfl, ht⟩) (fun _ h => by cases h) dX4_refusalToBreak_26
  · have hf := ot hc hf
    refine lv_iconst (v := (-1)) hx hb dX4_refusalToBreak_8 (by decide) ?_
    obtain rfl := Option.some.inj hf
    exact W.iret (v := (-1)) hx hb hr (fun t ht hW => ⟨_, rfl, rfl, ht⟩) (fun _ h => by cases h) dX4_refusalToBreak_9
set_option maxHeartbeats 4000000 in
set_option maxRecDepth 100000 in
theorem mX4_drop (l : Launch) (dC : Nat → ClassId) (dI : Nat → Nat → Nat) (cI cZ cC cO : ClassId) (q0 : Nat → Nat) (q1 : Nat) (q2 : Nat) (g0 : GX4) (n1 : Nat) (g1 : (Nat → Int32)) (n2 : Nat) (g2 : (Nat → Int32)) (sz : Nat) (out : Int32 × GX4 × (Nat → Int32)) (hf : fX4_drop g0 n1 g1 n2 g2 = some out) : Met l yX4_drop wsX4_drop rmX4_drop (va_Pc [.ref (q0 0), .ref q1, .ref q2] (pcW (dC, dI) (wTys cI cZ cC cO) sz (wX4 cI cZ cC q0 g0 ++ wA cZ n1 q1 g1 ++ wA cI n2 q2 g2))) (va_Qi (fun r (_ : Unit) => r = out.1) (fun _ => poW (dC, dI) (va_A (wX4 cI cZ cC q0 g0 ++ wA cZ n1 q1 g1 ++ wA cI n2 q2 g2) sz) (wX4 cI cZ cC q0 out.2.1 ++ wA cZ n1 q1 g1 ++ wA cI n2 q2 out.2.2)) (va_A (wX4 cI cZ cC q0 g0 ++ wA cZ n1 q1 g1 ++ wA cI n2 q2 g2) sz)) 0 0 (va_A (wX4 cI cZ cC q0 g0 ++ wA cZ n1 q1 g1 ++ wA cI n2 q2 g2) sz) := by
  refine Met.ofW (cc := cX4_drop) (maxL := 7) (ret := (some .int)) (by decide) rfl ?_
  intro p e s m args below meth c s₁ B hml hv
  obtain ⟨hargs, hsz, hP, hK, hN, hD0⟩ := hv
  have hx := B.exec
  have hb := B.bytes
  have hr := B.returns
  have hts := atoms_spec (ws := wsX4_drop) B.pre
  have hown : s.vm.findClass RX4 = some m.cls := findClass_of_methodNamed B.named
  have hlocks := B.notSynchronized
  have hk0 := hts (.fieldLink RX4 27 "RimGrains$State" "grains" "I") (by decide +kernel)
  have hk1 := hts (.fieldLink RX4 9 "RimGrains$State" "cells" "[I") (by decide +kernel)
  have hk2 := hts (.fieldLink RX4 15 "RimGrains$State" "holders" "[I") (by decide +kernel)
  have hk3 := hts (.fieldLink RX4 18 "RimGrains$State" "steps" "[I") (by decide +kernel)
  have hk4 := hts (.fieldLink RX4 40 "RimGrains$State" "gone" "I") (by decide +kernel)
  have hin4 : ∀ w ∈ wsX40, w ∈ wsX4_drop := by decide +kernel
  subst hsz
  have hD := hD0.self (sz := s.heap.size)
  generalize hAe : va_A (wX4 cI cZ cC q0 g0 ++ wA cZ n1 q1 g1 ++ wA cI n2 q2 g2) s.heap.size = A at hD ⊢
  have hA : ∀ q : Nat, s.heap.size ≤ q → A q := fun q h => by rw [← hAe]; exact Or.inr h
  have hS : va_S A s.heap s.heap [] := va_S.rf
  have hE := lg_entry_eq m [.ref (q0 0), .ref q1, .ref q2] 7
  rw [← hargs] at hE
  rw [hE]
  have hl := lv_entry [.ref (q0 0), .ref q1, .ref q2] (n := 7) (Nat.le_of_ble_eq_true rfl)
  generalize (lg_sl [.ref (q0 0), .ref q1, .ref q2] ++ List.replicate (7 - (lg_sl [.ref (q0 0), .ref q1, .ref q2]).length) Slot.unset).toArray = ls at hl ⊢
  have hl : lv_has ls 7 [(0, .ref (q0 0)), (1, .ref q1), (2, .ref q2)] := hl
  have hP : va_P (dC, dI) vwCl (wX4 cI cZ cC q0 g0 ++ wA cZ n1 q1 g1 ++ wA cI n2 q2 g2) s.heap := hP
  unfold fX4_drop at hf
  refine lv_iconst (v := 0) hx hb dX4_drop_0 (by decide) ?_
  refine lv_istore_n (lv' := [(3, .int 0), (0, .ref (q0 0)), (1, .ref q1), (2, .ref q2)]) hx hb dX4_drop_1 rfl hl (by decide) rfl (fun ls hl => ?_)
  refine lv_iconst (v := 0) hx hb dX4_drop_2 (by decide) ?_
  refine lv_istore (lv' := [(4, .int 0), (3, .int 0), (0, .ref (q0 0)), (1, .ref q1), (2, .ref q2)]) hx hb dX4_drop_3 hl (by decide) rfl (fun ls hl => ?_)
  have hL5 : ∀ (n : Nat) (s5 : Int32 × Int32 × GX4 × (Nat → Int32)) (o5 : Int32 × GX4 × (Nat → Int32)), lp (tX4_drop_5 n1 g1 n2) n s5 = some o5 → ∀ (H : Heap) (locs : List Loc) (ls : Array Slot), va_P (dC, dI) vwCl (wX4 cI cZ cC q0 s5.2.2.1 ++ wA cZ n1 q1 g1 ++ wA cI n2 q2 s5.2.2.2) H → va_D A (wX4 cI cZ cC q0 s5.2.2.1 ++ wA cZ n1 q1 g1 ++ wA cI n2 q2 s5.2.2.2) → va_S A s.heap H locs → lv_has ls 7 [(0, .ref (q0 0)), (1, .ref q1), (2, .ref q2), (3, .int s5.1), (4, .int s5.2.1)] → (∀ (H : Heap) (locs : List Loc) (ls : Array Slot), va_P (dC, dI) vwCl (wX4 cI cZ cC q0 o5.2.1 ++ wA cZ n1 q1 g1 ++ wA cI n2 q2 o5.2.2) H → va_D A (wX4 cI cZ cC q0 o5.2.1 ++ wA cZ n1 q1 g1 ++ wA cI n2 q2 o5.2.2) → va_S A s.heap H locs → lv_has ls 7 [(0, .ref (q0 0)), (3, .int o5.1)] → W p l e (headSpec wsX4_drop rmX4_drop).room s m args below meth c H locs 0 0 (MQ below (va_Qi (fun r (_ : Unit) => r = out.1) (fun _ => poW (dC, dI) A (wX4 cI cZ cC q0 out.2.1 ++ wA cZ n1 q1 g1 ++ wA cI n2 q2 out.2.2)) A) args s 0 0 A) (F0 m 122 ls [])) → W p l e (headSpec wsX4_drop rmX4_drop).room s m args below meth c H locs 0 0 (MQ below (va_Qi (fun r (_ : Unit) => r = out.1) (fun _ => poW (dC, dI) A (wX4 cI cZ cC q0 out.2.1 ++ wA cZ n1 q1 g1 ++ wA cI n2 q2 out.2.2)) A) args s 0 0 A) (F0 m 5 ls []) := by
    intro n
    induction n with
    | zero => intro s5 o5 hf; exact (lp0 hf).elim
    | succ n ih5 =>
      intro s5 o5 hf H locs ls hP hD hS hl kx
      obtain ⟨r5, hf, hn⟩ := lps hf
      unfold tX4_drop_5 at hf
      refine lv_iload hx hb dX4_drop_5 (lv_at hl 4 rfl) ?_
      refine lv_aload_n hx hb dX4_drop_7 rfl (lv_at hl 0 rfl) ?_
      refine va_get (D := (dC, dI)) (ci := 3) (v := .int (pX4_grains s5.2.2.1)) (C := RX4) (T := TX4) (N := 11) hx hb hts hin4 hown hK hP 0 rfl rfl 5 (by decide) hk0 (fun _ h9 => h9) rfl dX4_drop_8 ?_
      refine lv_icmp_ge (tgt := 122) hx hb dX4_drop_11 (by decide) (fun hc => ?_) (fun hc => ?_)
      · have hf := ot hc hf
        obtain rfl := Option.some.inj hf
        obtain rfl := Option.some.inj hn
        exact kx _ _ ls hP hD hS (lv_sub hl [0, 3] rfl)
      · have hf := oe hc hf
        refine lv_aload_n hx hb dX4_drop_14 rfl (lv_at hl 0 rfl) ?_
        refine va_get (D := (dC, dI)) (ci := 3) (v := .ref (q0 1)) (C := RX4) (T := TX4) (N := 11) hx hb hts hin4 hown hK hP 0 rfl rfl 0 (by decide) hk1 (fun _ h9 => h9) rfl dX4_drop_15 ?_
        refine lv_iload hx hb dX4_drop_18 (lv_at hl 4 rfl) ?_
        obtain ⟨hin, hf⟩ := og hf
        refine va_iald hx hb hK hP 1 0 rfl rfl hin dX4_drop_20 ?_
        refine lv_istore (lv' := [(5, .int ((pX4_cells s5.2.2.1) s5.2.1.toNatClampNeg)), (0, .ref (q0 0)), (1, .ref q1), (2, .ref q2), (3, .int s5.1), (4, .int s5.2.1)]) hx hb dX4_drop_21 hl (by decide) rfl (fun ls hl => ?_)
        refine lv_aload_n hx hb dX4_drop_23 rfl (lv_at hl 2 rfl) ?_
        refine lv_iload hx hb dX4_drop_24 (lv_at hl 5 rfl) ?_
        obtain ⟨hin, hf⟩ := og hf
        refine va_zald hx hb hK hP 6 1 rfl rfl hin dX4_drop_26 ?_
        have hJ1 : ∀ (x3_1 : Int32) (g0_1 : GX4) (g2_1 : (Nat → Int32)), jX4_drop_1 s5 x3_1 g0_1 g2_1 = some r5 → ∀ (H : Heap) (locs : List Loc) (ls : Array Slot), va_P (dC, dI) vwCl (wX4 cI cZ cC q0 g0_1 ++ wA cZ n1 q1 g1 ++ wA cI n2 q2 g2_1) H → va_D A (wX4 cI cZ cC q0 g0_1 ++ wA cZ n1 q1 g1 ++ wA cI n2 q2 g2_1) → va_S A s.heap H locs → lv_has ls 7 [(0, .ref (q0 0)), (1, .ref q1), (2, .ref q2), (3, .int x3_1), (4, .int s5.2.1)] → W p l e (headSpec wsX4_drop rmX4_drop).room s m args below meth c H locs 0 0 (MQ below (va_Qi (fun r (_ : Unit) => r = out.1) (fun _ => poW (dC, dI) A (wX4 cI cZ cC q0 out.2.1 ++ wA cZ n1 q1 g1 ++ wA cI n2 q2 out.2.2)) A) args s 0 0 A) (F0 m 116 ls []) := by
          intro x3_1 g0_1 g2_1 hf H locs ls hP hD hS hl
          unfold jX4_drop_1 at hf
          refine lv_iinc (v := (s5.2.1 + 1)) (lv' := [(4, .int (s5.2.1 + 1)), (0, .ref (q0 0)), (1, .ref q1), (2, .ref q2), (3, .int x3_1)]) hx hb dX4_drop_116 hl (k := 4) rfl rfl (by decide) rfl (fun ls hl => ?_)
          refine lv_goto (tgt := 5) hx hb dX4_drop_119 (by decide) ?_
          obtain rfl := Option.some.inj hf
          exact ih5 _ _ hn _ _ ls hP hD hS (lv_sub hl [1, 2, 3, 4, 0] rfl) kx
        refine lv_if_eq (tgt := 47) hx hb dX4_drop_27 (by decide) (fun hc => ?_) (fun hc => ?_)
        · have hf := ot hc hf
          refine lv_aload_n hx hb dX4_drop_47 rfl (lv_at hl 1 rfl) ?_
          refine va_get (D := (dC, dI)) (ci := 3) (v := .ref (q0 2)) (C := RX4) (T := TX4) (N := 11) hx hb hts hin4 hown hK hP 0 rfl rfl 1 (by decide) hk2 (fun _ h9 => h9) rfl dX4_drop_48 ?_
          refine lv_iload hx hb dX4_drop_51 (lv_at hl 5 rfl) ?_
          obtain ⟨hin, hf⟩ := og hf
          refine va_iald hx hb hK hP 2 0 rfl rfl hin dX4_drop_53 ?_
          refine lv_istore (lv' := [(6, .int ((pX4_holders s5.2.2.1) s5.2.1.toNatClampNeg)), (5, .int ((pX4_cells s5.2.2.1) s5.2.1.toNatClampNeg)), (0, .ref (q0 0)), (1, .ref q1), (2, .ref q2), (3, .int s5.1), (4, .int s5.2.1)]) hx hb dX4_drop_54 hl (by decide) rfl (fun ls hl => ?_)
          refine lv_aload_n hx hb dX4_drop_56 rfl (lv_at hl 4 rfl) ?_
          refine lv_iload hx hb dX4_drop_57 (lv_at hl 6 rfl) ?_
          refine lv_iload_n hx hb dX4_drop_59 rfl (lv_at hl 5 rfl) ?_
          obtain ⟨hin, hf⟩ := og hf
          refine va_iast hx hb hK hP hD hS 7 0 rfl rfl hin dX4_drop_60 (fun H locs hP hD hS => ?_)
          have hP : va_P (dC, dI) vwCl (wX4 cI cZ cC q0 s5.2.2.1 ++ wA cZ n1 q1 g1 ++ wA cI n2 q2 (upd s5.2.2.2 s5.2.1.toNatClampNeg s5.1)) H := hP
          have hD : va_D A (wX4 cI cZ cC q0 s5.2.2.1 ++ wA cZ n1 q1 g1 ++ wA cI n2 q2 (upd s5.2.2.2 s5.2.1.toNatClampNeg s5.1)) := hD
          refine lv_aload_n hx hb dX4_drop_61 rfl (lv_at hl 2 rfl) ?_
          refine va_get (D := (dC, dI)) (ci := 3) (v := .ref (q0 1)) (C := RX4) (T := TX4) (N := 11) hx hb hts hin4 hown hK hP 0 rfl rfl 0 (by decide) hk1 (fun _ h9 => h9) rfl dX4_drop_62 ?_
          refine lv_iload_n hx hb dX4_drop_65 rfl (lv_at hl 5 rfl) ?_
          refine lv_iload hx hb dX4_drop_66 (lv_at hl 1 rfl) ?_
          obtain ⟨hin, hf⟩ := og hf
          refine va_iast hx hb hK hP hD hS 1 0 rfl rfl hin dX4_drop_68 (fun H locs hP hD hS => ?_)
          have hP : va_P (dC, dI) vwCl (wX4 cI cZ cC q0 ((upd (pX4_cells s5.2.2.1) s5.1.toNatClampNeg ((pX4_cells s5.2.2.1) s5.2.1.toNatClampNeg)), (pX4_holders s5.2.2.1), (pX4_steps s5.2.2.1), (pX4_grainsByCell s5.2.2.1), (pX4_settings s5.2.2.1), (pX4_grains s5.2.2.1), (pX4_lot s5.2.2.1), (pX4_released s5.2.2.1), (pX4_lost s5.2.2.1), (pX4_gone s5.2.2.1), (pX4_walked s5.2.2.1)) ++ wA cZ n1 q1 g1 ++ wA cI n2 q2 (upd s5.2.2.2 s5.2.1.toNatClampNeg s5.1)) H := hP
          have hD : va_D A (wX4 cI cZ cC q0 ((upd (pX4_cells s5.2.2.1) s5.1.toNatClampNeg ((pX4_cells s5.2.2.1) s5.2.1.toNatClampNeg)), (pX4_holders s5.2.2.1), (pX4_steps s5.2.2.1), (pX4_grainsByCell s5.2.2.1), (pX4_settings s5.2.2.1), (pX4_grains s5.2.2.1), (pX4_lot s5.2.2.1), (pX4_released s5.2.2.1), (pX4_lost s5.2.2.1), (pX4_gone s5.2.2.1), (pX4_walked s5.2.2.1)) ++ wA cZ n1 q1 g1 ++ wA cI n2 q2 (upd s5.2.2.2 s5.2.1.toNatClampNeg s5.1)) := hD
          refine lv_aload_n hx hb dX4_drop_69 rfl (lv_at hl 2 rfl) ?_
          refine va_get (D := (dC, dI)) (ci := 3) (v := .ref (q0 2)) (C := RX4) (T := TX4) (N := 11) hx hb hts hin4 hown hK hP 0 rfl rfl 1 (by decide) hk2 (fun _ h9 => h9) rfl dX4_drop_70 ?_
          refine lv_iload_n hx hb dX4_drop_73 rfl (lv_at hl 5 rfl) ?_
          refine lv_aload_n hx hb dX4_drop_74 rfl (lv_at hl 2 rfl) ?_
          refine lv_iload hx hb dX4_drop_75 (lv_at hl 0 rfl) ?_
          obtain ⟨o77, ho77, hf⟩ := ob hf
          refine rV (rest := [.int s5.1, .ref (q0 2)]) (As := [.int ((pX4_holders s5.2.2.1) s5.2.1.toNatClampNeg)]) ⟨hx, hb, hml, hown, hts⟩ (mX4_isGrain l dC dI cI cZ cC cO q0 _ _ _ ho77) (cwV 1 hts gX4_drop_X4_isGrain rfl rfl rfl (by decide +kernel) ⟨Nat.le_of_ble_eq_true rfl, Nat.le_of_ble_eq_true rfl⟩) hK hN hP [0, 1, 2, 3, 4, 5] rfl 3 rfl rfl rfl rfl hl.1 rfl (Nat.le_of_ble_eq_true rfl) dX4_drop_77 ⟨Nat.zero_le _, Nat.zero_le _⟩ ?_
          have hJ2 : ∀ (y0_2 : Int32), jX4_drop_2 s5 y0_2 = some r5 → ∀ (H : Heap) (locs : List Loc) (ls : Array Slot), va_P (dC, dI) vwCl (wX4 cI cZ cC q0 ((upd (pX4_cells s5.2.2.1) s5.1.toNatClampNeg ((pX4_cells s5.2.2.1) s5.2.1.toNatClampNeg)), (pX4_holders s5.2.2.1), (pX4_steps s5.2.2.1), (pX4_grainsByCell s5.2.2.1), (pX4_settings s5.2.2.1), (pX4_grains s5.2.2.1), (pX4_lot s5.2.2.1), (pX4_released s5.2.2.1), (pX4_lost s5.2.2.1), (pX4_gone s5.2.2.1), (pX4_walked s5.2.2.1)) ++ wA cZ n1 q1 g1 ++ wA cI n2 q2 (upd s5.2.2.2 s5.2.1.toNatClampNeg s5.1)) H → va_D A (wX4 cI cZ cC q0 ((upd (pX4_cells s5.2.2.1) s5.1.toNatClampNeg ((pX4_cells s5.2.2.1) s5.2.1.toNatClampNeg)), (pX4_holders s5.2.2.1), (pX4_steps s5.2.2.1), (pX4_grainsByCell s5.2.2.1), (pX4_settings s5.2.2.1), (pX4_grains s5.2.2.1), (pX4_lot s5.2.2.1), (pX4_released s5.2.2.1), (pX4_lost s5.2.2.1), (pX4_gone s5.2.2.1), (pX4_walked s5.2.2.1)) ++ wA cZ n1 q1 g1 ++ wA cI n2 q2 (upd s5.2.2.2 s5.2.1.toNatClampNeg s5.1)) → va_S A s.heap H locs → lv_has ls 7 [(0, .ref (q0 0)), (1, .ref q1), (2, .ref q2), (3, .int s5.1), (4, .int s5.2.1), (5, .int ((pX4_cells s5.2.2.1) s5.2.1.toNatClampNeg))] → W p l e (headSpec wsX4_drop rmX4_drop).room s m args below meth c H locs 0 0 (MQ below (va_Qi (fun r (_ : Unit) => r = out.1) (fun _ => poW (dC, dI) A (wX4 cI cZ cC q0 out.2.1 ++ wA cZ n1 q1 g1 ++ wA cI n2 q2 out.2.2)) A) args s 0 0 A) (F0 m 92 ls [.int y0_2, .int s5.1, .ref (q0 2)]) := by
            intro y0_2 hf H locs ls hP hD hS hl
            unfold jX4_drop_2 at hf
            obtain ⟨hin, hf⟩ := og hf
            refine va_iast hx hb hK hP hD hS 2 0 rfl rfl hin dX4_drop_92 (fun H locs hP hD hS => ?_)
            have hP : va_P (dC, dI) vwCl (wX4 cI cZ cC q0 ((upd (pX4_cells s5.2.2.1) s5.1.toNatClampNeg ((pX4_cells s5.2.2.1) s5.2.1.toNatClampNeg)), (upd (pX4_holders s5.2.2.1) s5.1.toNatClampNeg y0_2), (pX4_steps s5.2.2.1), (pX4_grainsByCell s5.2.2.1), (pX4_settings s5.2.2.1), (pX4_grains s5.2.2.1), (pX4_lot s5.2.2.1), (pX4_released s5.2.2.1), (pX4_lost s5.2.2.1), (pX4_gone s5.2.2.1), (pX4_walked s5.2.2.1)) ++ wA cZ n1 q1 g1 ++ wA cI n2 q2 (upd s5.2.2.2 s5.2.1.toNatClampNeg s5.1)) H := hP
            have hD : va_D A (wX4 cI cZ cC q0 ((upd (pX4_cells s5.2.2.1) s5.1.toNatClampNeg ((pX4_cells s5.2.2.1) s5.2.1.toNatClampNeg)), (upd (pX4_holders s5.2.2.1) s5.1.toNatClampNeg y0_2), (pX4_steps s5.2.2.1), (pX4_grainsByCell s5.2.2.1), (pX4_settings s5.2.2.1), (pX4_grains s5.2.2.1), (pX4_lot s5.2.2.1), (pX4_released s5.2.2.1), (pX4_lost s5.2.2.1), (pX4_gone s5.2.2.1), (pX4_walked s5.2.2.1)) ++ wA cZ n1 q1 g1 ++ wA cI n2 q2 (upd s5.2.2.2 s5.2.1.toNatClampNeg s5.1)) := hD
            refine lv_aload_n hx hb dX4_drop_93 rfl (lv_at hl 0 rfl) ?_
            refine va_get (D := (dC, dI)) (ci := 3) (v := .ref (q0 3)) (C := RX4) (T := TX4) (N := 11) hx hb hts hin4 hown hK hP 0 rfl rfl 2 (by decide) hk3 (fun _ h9 => h9) rfl dX4_drop_94 ?_
            refine lv_iload_n hx hb dX4_drop_97 rfl (lv_at hl 3 rfl) ?_
            refine lv_aload_n hx hb dX4_drop_98 rfl (lv_at hl 0 rfl) ?_
            refine va_get (D := (dC, dI)) (ci := 3) (v := .ref (q0 3)) (C := RX4) (T := TX4) (N := 11) hx hb hts hin4 hown hK hP 0 rfl rfl 2 (by decide) hk3 (fun _ h9 => h9) rfl dX4_drop_99 ?_
            refine lv_iload hx hb dX4_drop_102 (lv_at hl 4 rfl) ?_
            obtain ⟨hin, hf⟩ := og hf
            refine va_iald hx hb hK hP 3 0 rfl rfl hin dX4_drop_104 ?_
            obtain ⟨hin, hf⟩ := og hf
            refine va_iast hx hb hK hP hD hS 3 0 rfl rfl hin dX4_drop_105 (fun H locs hP hD hS => ?_)
            have hP : va_P (dC, dI) vwCl (wX4 cI cZ cC q0 ((upd (pX4_cells s5.2.2.1) s5.1.toNatClampNeg ((pX4_cells s5.2.2.1) s5.2.1.toNatClampNeg)), (upd (pX4_holders s5.2.2.1) s5.1.toNatClampNeg y0_2), (upd (pX4_steps s5.2.2.1) s5.1.toNatClampNeg ((pX4_steps s5.2.2.1) s5.2.1.toNatClampNeg)), (pX4_grainsByCell s5.2.2.1), (pX4_settings s5.2.2.1), (pX4_grains s5.2.2.1), (pX4_lot s5.2.2.1), (pX4_released s5.2.2.1), (pX4_lost s5.2.2.1), (pX4_gone s5.2.2.1), (pX4_walked s5.2.2.1)) ++ wA cZ n1 q1 g1 ++ wA cI n2 q2 (upd s5.2.2.2 s5.2.1.toNatClampNeg s5.1)) H := hP
            have hD : va_D A (wX4 cI cZ cC q0 ((upd (pX4_cells s5.2.2.1) s5.1.toNatClampNeg ((pX4_cells s5.2.2.1) s5.2.1.toNatClampNeg)), (upd (pX4_holders s5.2.2.1) s5.1.toNatClampNeg y0_2), (upd (pX4_steps s5.2.2.1) s5.1.toNatClampNeg ((pX4_steps s5.2.2.1) s5.2.1.toNatClampNeg)), (pX4_grainsByCell s5.2.2.1), (pX4_settings s5.2.2.1), (pX4_grains s5.2.2.1), (pX4_lot s5.2.2.1), (pX4_released s5.2.2.1), (pX4_lost s5.2.2.1), (pX4_gone s5.2.2.1), (pX4_walked s5.2.2.1)) ++ wA cZ n1 q1 g1 ++ wA cI n2 q2 (upd s5.2.2.2 s5.2.1.toNatClampNeg s5.1)) := hD
            refine lv_aload_n hx hb dX4_drop_106 rfl (lv_at hl 0 rfl) ?_
            refine lv_iload hx hb dX4_drop_107 (lv_at hl 5 rfl) ?_
            refine lv_iload_n hx hb dX4_drop_109 rfl (lv_at hl 3 rfl) ?_
            obtain ⟨o110, ho110, hf⟩ := ob hf
            refine wVv (W1 := (fun _ : Unit => (wX4 cI cZ cC q0 o110 ++ wA cZ n1 q1 g1 ++ wA cI n2 q2 (upd s5.2.2.2 s5.2.1.toNatClampNeg s5.1)))) (rest := []) (As := [.int ((pX4_cells s5.2.2.1) s5.2.1.toNatClampNeg), .int s5.1]) ⟨hx, hb, hml, hown, hts⟩ (mX4_mark l dC dI cI cZ cC cO q0 _ _ _ _ _ ho110) (cwV 2 hts gX4_drop_X4_mark rfl rfl rfl (by decide +kernel) ⟨Nat.le_of_ble_eq_true rfl, Nat.le_of_ble_eq_true rfl⟩) hK hN hP hD hS hA [0, 1, 2, 3, 4, 5] [6, 7] [2, 3, 4, 5, 6, 7, 0, 1] rfl rfl (by decide) (by decide) (fun _ => rfl) 3 rfl rfl rfl rfl hl.1 rfl (Nat.le_of_ble_eq_true rfl) dX4_drop_110 ⟨Nat.zero_le _, Nat.zero_le _⟩ (fun _ H locs hP hD hS => ?_)
            have hP : va_P (dC, dI) vwCl (wX4 cI cZ cC q0 o110 ++ wA cZ n1 q1 g1 ++ wA cI n2 q2 (upd s5.2.2.2 s5.2.1.toNatClampNeg s5.1)) H := hP
            have hD : va_D A (wX4 cI cZ cC q0 o110 ++ wA cZ n1 q1 g1 ++ wA cI n2 q2 (upd s5.2.2.2 s5.2.1.toNatClampNeg s5.1)) := hD
            refine lv_iinc (v := (s5.1 + 1)) (lv' := [(3, .int (s5.1 + 1)), (0, .ref (q0 0)), (1, .ref q1), (2, .ref q2), (4, .int s5.2.1), (5, .int ((pX4_cells s5.2.2.1) s5.2.1.toNatClampNeg))]) hx hb dX4_drop_113 hl (k := 3) rfl rfl (by decide) rfl (fun ls hl => ?_)
            exact hJ1 _ _ _ hf _ _ ls hP hD hS (lv_sub hl [1, 2, 3, 0, 4] rfl)
          refine lv_if_eq (tgt := 90) hx hb dX4_drop_80 (by decide) (fun hc => ?_) (fun hc => ?_)
          · have hf := ot hc hf
            refine lv_bipush (v := (-4)) hx hb dX4_drop_90 (by decide) ?_
            exact hJ2 _ hf _ _ ls hP hD hS (lv_sub hl [2, 3, 4, 5, 6, 1] rfl)
          · have hf := oe hc hf
            refine lv_aload_n hx hb dX4_drop_83 rfl (lv_at hl 4 rfl) ?_
            refine lv_iload hx hb dX4_drop_84 (lv_at hl 0 rfl) ?_
            obtain ⟨hin, hf⟩ := og hf
            refine va_iald hx hb hK hP 7 0 rfl rfl hin dX4_drop_86 ?_
            refine lv_goto (tgt := 92) hx hb dX4_drop_87 (by decide) ?_
            exact hJ2 _ hf _ _ ls hP hD hS (lv_sub hl [2, 3, 4, 5, 6, 1] rfl)
        · have hf := oe hc hf
          refine lv_aload_n hx hb dX4_drop_30 rfl (lv_at hl 3 rfl) ?_
          refine lv_iload hx hb dX4_drop_31 (lv_at hl 5 rfl) ?_
          refine lv_bipush (v := (-4)) hx hb dX4_drop_33 (by decide) ?_
          obtain ⟨hin, hf⟩ := og hf
          refine va_iast hx hb hK hP hD hS 7 0 rfl rfl hin dX4_drop_35 (fun H locs hP hD hS => ?_)
          have hP : va_P (dC, dI) vwCl (wX4 cI cZ cC q0 s5.2.2.1 ++ wA cZ n1 q1 g1 ++ wA cI n2 q2 (upd s5.2.2.2 s5.2.1.toNatClampNeg (-4))) H := hP
          have hD : va_D A (wX4 cI cZ cC q0 s5.2.2.1 ++ wA cZ n1 q1 g1 ++ wA cI n2 q2 (upd s5.2.2.2 s5.2.1.toNatClampNeg (-4))) := hD
          refine lv_aload_n hx hb dX4_drop_36 rfl (lv_at hl 1 rfl) ?_
          refine lv_iload hx hb dX4_drop_37 (lv_at hl 0 rfl) ?_
          refine lv_bipush (v := (-4)) hx hb dX4_drop_39 (by decide) ?_
          obtain ⟨o41, ho41, hf⟩ := ob hf
          refine wVv (W1 := (fun _ : Unit => (wX4 cI cZ cC q0 o41 ++ wA cZ n1 q1 g1 ++ wA cI n2 q2 (upd s5.2.2.2 s5.2.1.toNatClampNeg (-4))))) (rest := []) (As := [.int ((pX4_cells s5.2.2.1) s5.2.1.toNatClampNeg), .int (-4)]) ⟨hx, hb, hml, hown, hts⟩ (mX4_mark l dC dI cI cZ cC cO q0 _ _ _ _ _ ho41) (cwV 2 hts gX4_drop_X4_mark rfl rfl rfl (by decide +kernel) ⟨Nat.le_of_ble_eq_true rfl, Nat.le_of_ble_eq_true rfl⟩) hK hN hP hD hS hA [0, 1, 2, 3, 4, 5] [6, 7] [2, 3, 4, 5, 6, 7, 0, 1] rfl rfl (by decide) (by decide) (fun _ => rfl) 3 rfl rfl rfl rfl hl.1 rfl (Nat.le_of_ble_eq_true rfl) dX4_drop_41 ⟨Nat.zero_le _, Nat.zero_le _⟩ (fun _ H locs hP hD hS => ?_)
          have hP : va_P (dC, dI) vwCl (wX4 cI cZ cC q0 o41 ++ wA cZ n1 q1 g1 ++ wA cI n2 q2 (upd s5.2.2.2 s5.2.1.toNatClampNeg (-4))) H := hP
          have hD : va_D A (wX4 cI cZ cC q0 o41 ++ wA cZ n1 q1 g1 ++ wA cI n2 q2 (upd s5.2.2.2 s5.2.1.toNatClampNeg (-4))) := hD
          refine lv_goto (tgt := 116) hx hb dX4_drop_44 (by decide) ?_
          exact hJ1 _ _ _ hf _ _ ls hP hD hS (lv_sub hl [1, 2, 3, 4, 5] rfl)
  obtain ⟨o5, ho5, hf⟩ := ob hf
  refine hL5 FU _ _ ho5 _ _ ls hP hD hS (lv_sub hl [2, 3, 4, 1, 0] rfl) (fun H locs ls hP hD hS hl => ?_)
  refine lv_aload_n hx hb dX4_drop_122 rfl (lv_at hl 0 rfl) ?_
  refine va_get (D := (dC, dI)) (ci := 3) (v := .int (pX4_grains o5.2.1)) (C := RX4) (T := TX4) (N := 11) hx hb hts hin4 hown hK hP 0 rfl rfl 5 (by decide) hk0 (fun _ h9 => h9) rfl dX4_drop_123 ?_
  refine lv_iload_n hx hb dX4_drop_126 rfl (lv_at hl 1 rfl) ?_
  refine lv_isub hx hb dX4_drop_127 ?_
  refine lv_istore (lv' := [(4, .int ((pX4_grains o5.2.1) - o5.1)), (0, .ref (q0 0)), (3, .int o5.1)]) hx hb dX4_drop_128 hl (by decide) rfl (fun ls hl => ?_)
  refine lv_aload_n hx hb dX4_drop_130 rfl (lv_at hl 1 rfl) ?_
  refine lv_iload_n hx hb dX4_drop_131 rfl (lv_at hl 2 rfl) ?_
  refine va_put (D := (dC, dI)) (ci := 3) (v := .int o5.1) (ty := .int) (C := RX4) (T := TX4) (N := 11) hx hb hts hin4 tyX4 tyX4_ok nmX4 hown hK hP hD hS 0 rfl rfl 5 (by decide) hk0 (fun _ h9 => h9) rfl (by decide +kernel) rfl rfl (Nat.le_of_ble_eq_true rfl) dX4_drop_132 (fun H locs hP hD hS => ?_)
  have hP : va_P (dC, dI) vwCl (wX4 cI cZ cC q0 ((pX4_cells o5.2.1), (pX4_holders o5.2.1), (pX4_steps o5.2.1), (pX4_grainsByCell o5.2.1), (pX4_settings o5.2.1), o5.1, (pX4_lot o5.2.1), (pX4_released o5.2.1), (pX4_lost o5.2.1), (pX4_gone o5.2.1), (pX4_walked o5.2.1)) ++ wA cZ n1 q1 g1 ++ wA cI n2 q2 o5.2.2) H := hP
  have hD : va_D A (wX4 cI cZ cC q0 ((pX4_cells o5.2.1), (pX4_holders o5.2.1), (pX4_steps o5.2.1), (pX4_grainsByCell o5.2.1), (pX4_settings o5.2.1), o5.1, (pX4_lot o5.2.1), (pX4_released o5.2.1), (pX4_lost o5.2.1), (pX4_gone o5.2.1), (pX4_walked o5.2.1)) ++ wA cZ n1 q1 g1 ++ wA cI n2 q2 o5.2.2) := hD
  refine lv_aload_n hx hb dX4_drop_135 rfl (lv_at hl 1 rfl) ?_
  refine lv_dup hx hb dX4_drop_136 rfl ?_
  refine va_get (D := (dC, dI)) (ci := 3) (v := .int (pX4_gone o5.2.1)) (C := RX4) (T := TX4) (N := 11) hx hb hts hin4 hown hK hP 0 rfl rfl 9 (by decide) hk4 (fun _ h9 => h9) rfl dX4_drop_137 ?_
  refine lv_iload hx hb dX4_drop_140 (lv_at hl 0 rfl) ?_
  refine lv_iadd hx hb dX4_drop_142 ?_
  refine va_put (D := (dC, dI)) (ci := 3) (v := .int ((pX4_gone o5.2.1) + ((pX4_grains o5.2.1) - o5.1))) (ty := .int) (C := RX4) (T := TX4) (N := 11) hx hb hts hin4 tyX4 tyX4_ok nmX4 hown hK hP hD hS 0 rfl rfl 9 (by decide) hk4 (fun _ h9 => h9) rfl (by decide +kernel) rfl rfl (Nat.le_of_ble_eq_true rfl) dX4_drop_143 (fun H locs hP hD hS => ?_)
  have hP : va_P (dC, dI) vwCl (wX4 cI cZ cC q0 ((pX4_cells o5.2.1), (pX4_holders o5.2.1), (pX4_steps o5.2.1), (pX4_grainsByCell o5.2.1), (pX4_settings o5.2.1), o5.1, (pX4_lot o5.2.1), (pX4_released o5.2.1), (pX4_lost o5.2.1), ((pX4_gone o5.2.1) + ((pX4_grains o5.2.1) - o5.1)), (pX4_walked o5.2.1)) ++ wA cZ n1 q1 g1 ++ wA cI n2 q2 o5.2.2) H := hP
  have hD : va_D A (wX4 cI cZ cC q0 ((pX4_cells o5.2.1), (pX4_holders o5.2.1), (pX4_steps o5.2.1), (pX4_grainsByCell o5.2.1), (pX4_settings o5.2.1), o5.1, (pX4_lot o5.2.1), (pX4_released o5.2.1), (pX4_lost o5.2.1), ((pX4_gone o5.2.1) + ((pX4_grains o5.2.1) - o5.1)), (pX4_walked o5.2.1)) ++ wA cZ n1 q1 g1 ++ wA cI n2 q2 o5.2.2) := hD
  refine lv_iload hx hb dX4_drop_146 (lv_at hl 0 rfl) ?_
  obtain rfl := Option.some.inj hf
  exact W.iret (v := ((pX4_grains o5.2.1) - o5.1)) hx hb hr (fun t ht hW => ⟨⟨_, (), rfl, rfl, by rw [ht]; exact hP, hD⟩, hS.F ht⟩) hS.2.2 dX4_drop_148
set_option maxHeartbeats 4000000 in
set_option maxRecDepth 100000 in
theorem mX4_change (l : Launch) (dC : Nat → ClassId) (dI : Nat → Nat → Nat) (cI cZ cC cO : ClassId) (q0 : Nat → Nat) (a1 : Int32) (a2 : Int32) (g0 : GX4) (sz : Nat) (out : Int32 × GX4) (hf : fX4_change a1 a2 g0 = some out) : Met l yX4_change wsX4_change rmX4_change (va_Pc [.ref (q0 0), .int a1, .int a2] (pcW (dC, dI) (wTys cI cZ cC cO) sz (wX4 cI cZ cC q0 g0))) (va_Qi (fun r (_ : Unit) => r = out.1) (fun _ => poW (dC, dI) (va_A (wX4 cI cZ cC q0 g0) sz) (wX4 cI cZ cC q0 out.2)) (va_A (wX4 cI cZ cC q0 g0) sz)) 0 0 (va_A (wX4 cI cZ cC q0 g0) sz) := by
  refine Met.ofW (cc := cX4_change) (maxL := 4) (ret := (some .int)) (by decide) rfl ?_
  intro p e s m args below meth c s₁ B hml hv
  obtain ⟨hargs, hsz, hP, hK, hN, hD0⟩ := hv
  have hx := B.exec
  have hb := B.bytes
  have hr := B.returns
  have hts := atoms_spec (ws := wsX4_change) B.pre
  have hown : s.vm.findClass RX4 = some m.cls := findClass_of_methodNamed B.named
  have hlocks := B.notSynchronized
  have hk0 := hts (.fieldLink RX4 24 "RimGrains$State" "settings" "[I") (by decide +kernel)
  have hin4 : ∀ w ∈ wsX40, w ∈ wsX4_change := by decide +kernel
  subst hsz
  have hD := hD0.self (sz := s.heap.size)
  generalize hAe : va_A (wX4 cI cZ cC q0 g0) s.heap.size = A at hD ⊢
  have hA : ∀ q : Nat, s.heap.size ≤ q → A q := fun q h => by rw [← hAe]; exact Or.inr h
  have hS : va_S A s.heap s.heap [] := va_S.rf
  have hE := lg_entry_eq m [.ref (q0 0), .int a1, .int a2] 4
  rw [← hargs] at hE
  rw [hE]
  have hl := lv_entry [.ref (q0 0), .int a1, .int a2] (n := 4) (Nat.le_of_ble_eq_true rfl)
  generalize (lg_sl [.ref (q0 0), .int a1, .int a2] ++ List.replicate (4 - (lg_sl [.ref (q0 0), .int a1, .int a2]).length) Slot.unset).toArray = ls at hl ⊢
  have hl : lv_has ls 4 [(0, .ref (q0 0)), (1, .int a1), (2, .int a2)] := hl
  have hP : va_P (dC, dI) vwCl (wX4 cI cZ cC q0 g0) s.heap := hP
  unfold fX4_change at hf
  refine lv_aload_n hx hb dX4_change_0 rfl (lv_at hl 0 rfl) ?_
  refine lv_iload_n hx hb dX4_change_1 rfl (lv_at hl 1 rfl) ?_
  obtain ⟨o2, ho2, hf⟩ := ob hf
  refine rV (rest := []) (As := [.int a1]) ⟨hx, hb, hml, hown, hts⟩ (mX4_setting l dC dI cI cZ cC cO q0 _ _ _ ho2) (cwV 1 hts gX4_change_X4_setting rfl rfl rfl (by decide +kernel) ⟨Nat.le_of_ble_eq_true rfl, Nat.le_of_ble_eq_true rfl⟩) hK hN hP [0, 1, 2, 3, 4, 5] rfl 3 rfl rfl rfl rfl hl.1 rfl (Nat.le_of_ble_eq_true rfl) dX4_change_2 ⟨Nat.zero_le _, Nat.zero_le _⟩ ?_
  refine lv_istore_n (lv' := [(3, .int o2), (0, .ref (q0 0)), (1, .int a1), (2, .int a2)]) hx hb dX4_change_5 rfl hl (by decide) rfl (fun ls hl => ?_)
  refine lv_iload_n hx hb dX4_change_6 rfl (lv_at hl 2 rfl) ?_
  refine lv_if_lt (tgt := 22) hx hb dX4_change_7 (by decide) (fun hc => ?_) (fun hc => ?_)
  · have hf := ot hc hf
    refine lv_iload_n hx hb dX4_change_22 rfl (lv_at hl 0 rfl) ?_
    obtain rfl := Option.some.inj hf
    exact W.iret (v := o2) hx hb hr (fun t ht hW => ⟨⟨_, (), rfl, rfl, by rw [ht]; exact hP, hD⟩, hS.F ht⟩) hS.2.2 dX4_change_23
  · have hf := oe hc hf
    refine lv_iload_n hx hb dX4_change_10 rfl (lv_at hl 2 rfl) ?_
    refine lv_iconst (v := 4) hx hb dX4_change_11 (by decide) ?_
    refine lv_icmp_ge (tgt := 22) hx hb dX4_change_12 (by decide) (fun hc => ?_) (fun hc => ?_)
    · have hf := ot hc hf
      refine lv_iload_n hx hb dX4_change_22 rfl (lv_at hl 0 rfl) ?_
      obtain rfl := Option.some.inj hf
      exact W.iret (v := o2) hx hb hr (fun t ht hW => ⟨⟨_, (), rfl, rfl, by rw [ht]; exact hP, hD⟩, hS.F ht⟩) hS.2.2 dX4_change_23
    · have hf := oe hc hf
      refine lv_aload_n hx hb dX4_change_15 rfl (lv_at hl 1 rfl) ?_
      refine va_get (D := (dC, dI)) (ci := 3) (v := .ref (q0 5)) (C := RX4) (T := TX4) (N := 11) hx hb hts hin4 hown hK hP 0 rfl rfl 4 (by decide) hk0 (fun _ h9 => h9) rfl dX4_change_16 ?_
      refine lv_iload_n hx hb dX4_change_19 rfl (lv_at hl 2 rfl) ?_
      refine lv_iload_n hx hb dX4_change_20 rfl (lv_at hl 3 rfl) ?_
      obtain ⟨hin, hf⟩ := og hf
      refine va_iast hx hb hK hP hD hS 5 0 rfl rfl hin dX4_change_21 (fun H locs hP hD hS => ?_)
      have hP : va_P (dC, dI) vwCl (wX4 cI cZ cC q0 ((pX4_cells g0), (pX4_holders g0), (pX4_steps g0), (pX4_grainsByCell g0), (upd (pX4_settings g0) a1.toNatClampNeg a2), (pX4_grains g0), (pX4_lot g0), (pX4_released g0), (pX4_lost g0), (pX4_gone g0), (pX4_walked g0))) H := hP
      have hD : va_D A (wX4 cI cZ cC q0 ((pX4_cells g0), (pX4_holders g0), (pX4_steps g0), (pX4_grainsByCell g0), (upd (pX4_settings g0) a1.toNatClampNeg a2), (pX4_grains g0), (pX4_lot g0), (pX4_released g0), (pX4_lost g0), (pX4_gone g0), (pX4_walked g0))) := hD
      refine lv_iload_n hx hb dX4_change_22 rfl (lv_at hl 0 rfl) ?_
      obtain rfl := Option.some.inj hf
      exact W.iret (v := o2) hx hb hr (fun t ht hW => ⟨⟨_, (), rfl, rfl, by rw [ht]; exact hP, hD⟩, hS.F ht⟩) hS.2.2 dX4_change_23
set_option maxHeartbeats 4000000 in
set_option maxRecDepth 100000 in
theorem mX4_grainsAround (l : Launch) (dC : Nat → ClassId) (dI : Nat → Nat → Nat) (cI cZ cC cO : ClassId) (q0 : Nat → Nat) (a1 : Int32) (g0 : GX4) (out : Int32) (hf : fX4_grainsAround a1 g0 = some out) : Met l yX4_grainsAround wsX4_grainsAround rmX4_grainsAround (va_Pc [.ref (q0 0), .int a1] (pcR (dC, dI) (wTys cI cZ cC cO) (wX4 cI cZ cC q0 g0))) (vp_Si (fun r => r = out)) 0 0 (fun _ => False) := by
  refine Met.ofW (cc := cX4_grainsAround) (maxL := 4) (ret := (some .int)) (by decide) rfl ?_
  intro p e s m args below meth c s₁ B hml hv
  obtain ⟨hargs, hP, hK, hN⟩ := hv
  have hx := B.exec
  have hb := B.bytes
  have hr := B.returns
  have hts := atoms_spec (ws := wsX4_grainsAround) B.pre
  have hown : s.vm.findClass RX4 = some m.cls := findClass_of_methodNamed B.named
  have hlocks := B.notSynchronized
  have hE := lg_entry_eq m [.ref (q0 0), .int a1] 4
  rw [← hargs] at hE
  rw [hE]
  have hl := lv_entry [.ref (q0 0), .int a1] (n := 4) (Nat.le_of_ble_eq_true rfl)
  generalize (lg_sl [.ref (q0 0), .int a1] ++ List.replicate (4 - (lg_sl [.ref (q0 0), .int a1]).length) Slot.unset).toArray = ls at hl ⊢
  have hl : lv_has ls 4 [(0, .ref (q0 0)), (1, .int a1)] := hl
  unfold fX4_grainsAround at hf
  refine lv_iconst (v := 0) hx hb dX4_grainsAround_0 (by decide) ?_
  refine lv_istore_n (lv' := [(2, .int 0), (0, .ref (q0 0)), (1, .int a1)]) hx hb dX4_grainsAround_1 rfl hl (by decide) rfl (fun ls hl => ?_)
  refine lv_iconst (v := 0) hx hb dX4_grainsAround_2 (by decide) ?_
  refine lv_istore_n (lv' := [(3, .int 0), (2, .int 0), (0, .ref (q0 0)), (1, .int a1)]) hx hb dX4_grainsAround_3 rfl hl (by decide) rfl (fun ls hl => ?_)
  have hL4 : ∀ (n : Nat) (s4 : Int32 × Int32) (o4 : Int32), lp (tX4_grainsAround_4 a1 g0) n s4 = some o4 → ∀ (ls : Array Slot), lv_has ls 4 [(0, .ref (q0 0)), (1, .int a1), (2, .int s4.1), (3, .int s4.2)] → (∀ (ls : Array Slot), lv_has ls 4 [(2, .int o4)] → W p l e (headSpec wsX4_grainsAround rmX4_grainsAround).room s m args below meth c s.heap [] 0 0 (MQ below (vp_Si (fun r => r = out)) args s 0 0 (fun _ => False)) (F0 m 32 ls [])) → W p l e (headSpec wsX4_grainsAround rmX4_grainsAround).room s m args below meth c s.heap [] 0 0 (MQ below (vp_Si (fun r => r = out)) args s 0 0 (fun _ => False)) (F0 m 4 ls []) := by
    intro n
    induction n with
    | zero => intro s4 o4 hf; exact (lp0 hf).elim
    | succ n ih4 =>
      intro s4 o4 hf ls hl kx
      obtain ⟨r4, hf, hn⟩ := lps hf
      unfold tX4_grainsAround_4 at hf
      refine lv_iload_n hx hb dX4_grainsAround_4 rfl (lv_at hl 3 rfl) ?_
      refine lv_iconst (v := 4) hx hb dX4_grainsAround_5 (by decide) ?_
      refine lv_icmp_ge (tgt := 32) hx hb dX4_grainsAround_6 (by decide) (fun hc => ?_) (fun hc => ?_)
      · have hf := ot hc hf
        obtain rfl := Option.some.inj hf
        obtain rfl := Option.some.inj hn
        exact kx ls (lv_sub hl [2] rfl)
      · have hf := oe hc hf
        refine lv_aload_n hx hb dX4_grainsAround_9 rfl (lv_at hl 0 rfl) ?_
        refine lv_iload_n hx hb dX4_grainsAround_10 rfl (lv_at hl 1 rfl) ?_
        refine lv_iload_n hx hb dX4_grainsAround_11 rfl (lv_at hl 3 rfl) ?_
        obtain ⟨o12, ho12, hf⟩ := ob hf
        refine rS (rest := [.ref (q0 0)]) (As := [.int a1, .int s4.2]) ⟨hx, hb, hml, hown, hts⟩ (mX2_neighbour l dC dI cI cZ cC cO  _ _ _ ho12) (va_cwS 2 hts gX4_grainsAround_X2_neighbour rfl rfl rfl (by decide +kernel) ⟨Nat.le_of_ble_eq_true rfl, Nat.le_of_ble_eq_true rfl⟩) hK hN hP [] rfl rfl hl.1 rfl (Nat.le_of_ble_eq_true rfl) dX4_grainsAround_12 ⟨Nat.zero_le _, Nat.zero_le _⟩ ?_
        obtain ⟨o15, ho15, hf⟩ := ob hf
        refine rV (rest := []) (As := [.int o12]) ⟨hx, hb, hml, hown, hts⟩ (mX4_grainAt l dC dI cI cZ cC cO q0 _ _ _ ho15) (cwV 1 hts gX4_grainsAround_X4_grainAt rfl rfl rfl (by decide +kernel) ⟨Nat.le_of_ble_eq_true rfl, Nat.le_of_ble_eq_true rfl⟩) hK hN hP [0, 1, 2, 3, 4, 5] rfl 3 rfl rfl rfl rfl hl.1 rfl (Nat.le_of_ble_eq_true rfl) dX4_grainsAround_15 ⟨Nat.zero_le _, Nat.zero_le _⟩ ?_
        refine lv_bipush (v := (-4)) hx hb dX4_grainsAround_18 (by decide) ?_
        have hJ1 : ∀ (x2_1 : Int32), jX4_grainsAround_1 s4 x2_1 = some r4 → ∀ ls : Array Slot, lv_has ls 4 [(0, .ref (q0 0)), (1, .int a1), (2, .int x2_1), (3, .int s4.2)] → W p l e (headSpec wsX4_grainsAround rmX4_grainsAround).room s m args below meth c s.heap [] 0 0 (MQ below (vp_Si (fun r => r = out)) args s 0 0 (fun _ => False)) (F0 m 26 ls []) := by
          intro x2_1 hf ls hl
          unfold jX4_grainsAround_1 at hf
          refine lv_iinc (v := (s4.2 + 1)) (lv' := [(3, .int (s4.2 + 1)), (0, .ref (q0 0)), (1, .int a1), (2, .int x2_1)]) hx hb dX4_grainsAround_26 hl (k := 3) rfl rfl (by decide) rfl (fun ls hl => ?_)
          refine lv_goto (tgt := 4) hx hb dX4_grainsAround_29 (by decide) ?_
          obtain rfl := Option.some.inj hf
          exact ih4 _ _ hn ls (lv_sub hl [1, 2, 3, 0] rfl) kx
        refine lv_icmp_eq (tgt := 26) hx hb dX4_grainsAround_20 (by decide) (fun hc => ?_) (fun hc => ?_)
        · have hf := ot hc hf
          exact hJ1 _ hf ls (lv_sub hl [0, 1, 2, 3] rfl)
        · have hf := oe hc hf
          refine lv_iinc (v := (s4.1 + 1)) (lv' := [(2, .int (s4.1 + 1)), (0, .ref (q0 0)), (1, .int a1), (3, .int s4.2)]) hx hb dX4_grainsAround_23 hl (k := 2) rfl rfl (by decide) rfl (fun ls hl => ?_)
          exact hJ1 _ hf ls (lv_sub hl [1, 2, 0, 3] rfl)
  obtain ⟨o4, ho4, hf⟩ := ob hf
  refine hL4 FU _ _ ho4 ls (lv_sub hl [2, 3, 1, 0] rfl) (fun ls hl => ?_)
  refine lv_iload_n hx hb dX4_grainsAround_32 rfl (lv_at hl 0 rfl) ?_
  obtain rfl := Option.some.inj hf
  exact W.iret (v := o4) hx hb hr (fun t ht hW => ⟨_, rfl, rfl, ht⟩) (fun _ h => by cases h) dX4_grainsAround_33
set_option maxHeartbeats 4000000 in
set_option maxRecDepth 100000 in
theorem mX4_cellOf (l : Launch) (dC : Nat → ClassId) (dI : Nat → Nat → Nat) (cI cZ cC cO : ClassId) (q0 : Nat → Nat) (a1 : Int32) (g0 : GX4) (out : Int32) (hf : fX4_cellOf a1 g0 = some out) : Met l yX4_cellOf wsX4_cellOf rmX4_cellOf (va_Pc [.ref (q0 0), .int a1] (pcR (dC, dI) (wTys cI cZ cC cO) (wX4 cI cZ cC q0 g0))) (vp_Si (fun r => r = out)) 0 0 (fun _ => False) := by
  refine Met.ofW (cc := cX4_cellOf) (maxL := 2) (ret := (some .int)) (by decide) rfl ?_
  intro p e s m args below meth c s₁ B hml hv
  obtain ⟨hargs, hP, hK, hN⟩ := hv
  have hx := B.exec
  have hb := B.bytes
  have hr := B.returns
  have hts := atoms_spec (ws := wsX4_cellOf) B.pre
  have hown : s.vm.findClass RX4 = some m.cls := findClass_of_methodNamed B.named
  have hlocks := B.notSynchronized
  have hk0 := hts (.fieldLink RX4 9 "RimGrains$State" "cells" "[I") (by decide +kernel)
  have hin4 : ∀ w ∈ wsX40, w ∈ wsX4_cellOf := by decide +kernel
  have hE := lg_entry_eq m [.ref (q0 0), .int a1] 2
  rw [← hargs] at hE
  rw [hE]
  have hl := lv_entry [.ref (q0 0), .int a1] (n := 2) (Nat.le_of_ble_eq_true rfl)
  generalize (lg_sl [.ref (q0 0), .int a1] ++ List.replicate (2 - (lg_sl [.ref (q0 0), .int a1]).length) Slot.unset).toArray = ls at hl ⊢
  have hl : lv_has ls 2 [(0, .ref (q0 0)), (1, .int a1)] := hl
  unfold fX4_cellOf at hf
  refine lv_aload_n hx hb dX4_cellOf_0 rfl (lv_at hl 0 rfl) ?_
  refine lv_iload_n hx hb dX4_cellOf_1 rfl (lv_at hl 1 rfl) ?_
  obtain ⟨o2, ho2, hf⟩ := ob hf
  refine rV (rest := []) (As := [.int a1]) ⟨hx, hb, hml, hown, hts⟩ (mX4_isGrain l dC dI cI cZ cC cO q0 _ _ _ ho2) (cwV 1 hts gX4_cellOf_X4_isGrain rfl rfl rfl (by decide +kernel) ⟨Nat.le_of_ble_eq_true rfl, Nat.le_of_ble_eq_true rfl⟩) hK hN hP [0, 1, 2, 3, 4, 5] rfl 3 rfl rfl rfl rfl hl.1 rfl (Nat.le_of_ble_eq_true rfl) dX4_cellOf_2 ⟨Nat.zero_le _, Nat.zero_le _⟩ ?_
  refine lv_if_eq (tgt := 17) hx hb dX4_cellOf_5 (by decide) (fun hc => ?_) (fun hc => ?_)
  · have hf := ot hc hf
    refine lv_bipush (v := (-4)) hx hb dX4_cellOf_17 (by decide) ?_
    obtain rfl := Option.some.inj hf
    exact W.iret (v := (-4)) hx hb hr (fun t ht hW => ⟨_, rfl, rfl, ht⟩) (fun _ h => by cases h) dX4_cellOf_19
  · have hf := oe hc hf
    refine lv_aload_n hx hb dX4_cellOf_8 rfl (lv_at hl 0 rfl) ?_
    refine va_get (D := (dC, dI)) (ci := 3) (v := .ref (q0 1)) (C := RX4) (T := TX4) (N := 11) hx hb hts hin4 hown hK hP 0 rfl rfl 0 (by decide) hk0 (fun _ h9 => h9) rfl dX4_cellOf_9 ?_
    refine lv_iload_n hx hb dX4_cellOf_12 rfl (lv_at hl 1 rfl) ?_
    obtain ⟨hin, hf⟩ := og hf
    refine va_iald hx hb hK hP 1 0 rfl rfl hin dX4_cellOf_13 ?_
    refine lv_goto (tgt := 19) hx hb dX4_cellOf_14 (by decide) ?_
    obtain rfl := Option.some.inj hf
    exact W.iret (v := ((pX4_cells g0) a1.toNatClampNeg)) hx hb hr (fun t ht hW => ⟨_, rfl, rfl, ht⟩) (fun _ h => by cases h) dX4_cellOf_19
set_option maxHeartbeats 4000000 in
set_option maxRecDepth 100000 in
theorem mX4_stepsOf (l : Launch) (dC : Nat → ClassId) (dI : Nat → Nat → Nat) (cI cZ cC cO : ClassId) (q0 : Nat → Nat) (a1 : Int32) (g0 : GX4) (out : Int32) (hf : fX4_stepsOf a1 g0 = some out) : Met l yX4_stepsOf wsX4_stepsOf rmX4_stepsOf (va_Pc [.ref (q0 0), .int a1] (pcR (dC, dI) (wTys cI cZ cC cO) (wX4 cI cZ cC q0 g0))) (vp_Si (fun r => r = out)) 0 0 (fun _ => False) := by
  refine Met.ofW (cc := cX4_stepsOf) (maxL := 2) (ret := (some .int)) (by decide) rfl ?_
  intro p e s m args below meth c s₁ B hml hv
  obtain ⟨hargs, hP, hK, hN⟩ := hv
  have hx := B.exec
  have hb := B.bytes
  have hr := B.returns
  have hts := atoms_spec (ws := wsX4_stepsOf) B.pre
  have hown : s.vm.findClass RX4 = some m.cls := findClass_of_methodNamed B.named
  have hlocks := B.notSynchronized
  have hk0 := hts (.fieldLink RX4 18 "RimGrains$State" "steps" "[I") (by decide +kernel)
  have hin4 : ∀ w ∈ wsX40, w ∈ wsX4_stepsOf := by decide +kernel
  have hE := lg_entry_eq m [.ref (q0 0), .int a1] 2
  rw [← hargs] at hE
  rw [hE]
  have hl := lv_entry [.ref (q0 0), .int a1] (n := 2) (Nat.le_of_ble_eq_true rfl)
  generalize (lg_sl [.ref (q0 0), .int a1] ++ List.replicate (2 - (lg_sl [.ref (q0 0), .int a1]).length) Slot.unset).toArray = ls at hl ⊢
  have hl : lv_has ls 2 [(0, .ref (q0 0)), (1, .int a1)] := hl
  unfold fX4_stepsOf at hf
  refine lv_aload_n hx hb dX4_stepsOf_0 rfl (lv_at hl 0 rfl) ?_
  refine lv_iload_n hx hb dX4_stepsOf_1 rfl (lv_at hl 1 rfl) ?_
  obtain ⟨o2, ho2, hf⟩ := ob hf
  refine rV (rest := []) (As := [.int a1]) ⟨hx, hb, hml, hown, hts⟩ (mX4_isGrain l dC dI cI cZ cC cO q0 _ _ _ ho2) (cwV 1 hts gX4_stepsOf_X4_isGrain rfl rfl rfl (by decide +kernel) ⟨Nat.le_of_ble_eq_true rfl, Nat.le_of_ble_eq_true rfl⟩) hK hN hP [0, 1, 2, 3, 4, 5] rfl 3 rfl rfl rfl rfl hl.1 rfl (Nat.le_of_ble_eq_true rfl) dX4_stepsOf_2 ⟨Nat.zero_le _, Nat.zero_le _⟩ ?_
  refine lv_if_eq (tgt := 17) hx hb dX4_stepsOf_5 (by decide) (fun hc => ?_) (fun hc => ?_)
  · have hf := ot hc hf
    refine lv_bipush (v := (-4)) hx hb dX4_stepsOf_17 (by decide) ?_
    obtain rfl := Option.some.inj hf
    exact W.iret (v := (-4)) hx hb hr (fun t ht hW => ⟨_, rfl, rfl, ht⟩) (fun _ h => by cases h) dX4_stepsOf_19
  · have hf := oe hc hf
    refine lv_aload_n hx hb dX4_stepsOf_8 rfl (lv_at hl 0 rfl) ?_
    refine va_get (D := (dC, dI)) (ci := 3) (v := .ref (q0 3)) (C := RX4) (T := TX4) (N := 11) hx hb hts hin4 hown hK hP 0 rfl rfl 2 (by decide) hk0 (fun _ h9 => h9) rfl dX4_stepsOf_9 ?_
    refine lv_iload_n hx hb dX4_stepsOf_12 rfl (lv_at hl 1 rfl) ?_
    obtain ⟨hin, hf⟩ := og hf
    refine va_iald hx hb hK hP 3 0 rfl rfl hin dX4_stepsOf_13 ?_
    refine lv_goto (tgt := 19) hx hb dX4_stepsOf_14 (by decide) ?_
    obtain rfl := Option.some.inj hf
    exact W.iret (v := ((pX4_steps g0) a1.toNatClampNeg)) hx hb hr (fun t ht hW => ⟨_, rfl, rfl, ht⟩) (fun _ h => by cases h) dX4_stepsOf_19
set_option maxHeartbeats 4000000 in
set_option maxRecDepth 100000 in
theorem mX4_holdsBetween (l : Launch) (dC : Nat → ClassId) (dI : Nat → Nat → Nat) (cI cZ cC cO : ClassId) (q0 : Nat → Nat) (a1 : Int32) (a2 : Int32) (g0 : GX4) (out : Int32) (hf : fX4_holdsBetween a1 a2 g0 = some out) : Met l yX4_holdsBetween wsX4_holdsBetween rmX4_holdsBetween (va_Pc [.ref (q0 0), .int a1, .int a2] (pcR (dC, dI) (wTys cI cZ cC cO) (wX4 cI cZ cC q0 g0))) (vp_Si (fun r => r = out)) 0 0 (fun _ => False) := by
  refine Met.ofW (cc := cX4_holdsBetween) (maxL := 7) (ret := (some .int)) (by decide) rfl ?_
  intro p e s m args below meth c s₁ B hml hv
  obtain ⟨hargs, hP, hK, hN⟩ := hv
  have hx := B.exec
  have hb := B.bytes
  have hr := B.returns
  have hts := atoms_spec (ws := wsX4_holdsBetween) B.pre
  have hown : s.vm.findClass RX4 = some m.cls := findClass_of_methodNamed B.named
  have hlocks := B.notSynchronized
  have hk0 := hts (.methodLink RX4 114 Lib.Math.max.name) (by decide +kernel)
  have hk0S := hts (.static Lib.Math.max.name) (by decide +kernel)
  have hk0I := hts (.initialized "java/lang/Math") (by decide +kernel)
  have hk0C := hts (.code Lib.Math.max.name Lib.Math.max.code 2 (some .int)) (by decide +kernel)
  have hk1 := hts (.methodLink RX4 119 Lib.Math.min.name) (by decide +kernel)
  have hk1S := hts (.static Lib.Math.min.name) (by decide +kernel)
  have hk1I := hts (.initialized "java/lang/Math") (by decide +kernel)
  have hk1C := hts (.code Lib.Math.min.name Lib.Math.min.code 2 (some .int)) (by decide +kernel)
  have hE := lg_entry_eq m [.ref (q0 0), .int a1, .int a2] 7
  rw [← hargs] at hE
  rw [hE]
  have hl := lv_entry [.ref (q0 0), .int a1, .int a2] (n := 7) (Nat.le_of_ble_eq_true rfl)
  generalize (lg_sl [.ref (q0 0), .int a1, .int a2] ++ List.replicate (7 - (lg_sl [.ref (q0 0), .int a1, .int a2]).length) Slot.unset).toArray = ls at hl ⊢
  have hl : lv_has ls 7 [(0, .ref (q0 0)), (1, .int a1), (2, .int a2)] := hl
  unfold fX4_holdsBetween at hf
  refine lv_iload_n hx hb dX4_holdsBetween_0 rfl (lv_at hl 1 rfl) ?_
  refine lv_istore_n (lv' := [(3, .int a1), (0, .ref (q0 0)), (1, .int a1), (2, .int a2)]) hx hb dX4_holdsBetween_1 rfl hl (by decide) rfl (fun ls hl => ?_)
  refine lv_iload_n hx hb dX4_holdsBetween_2 rfl (lv_at hl 3 rfl) ?_
  refine lv_istore (lv' := [(4, .int a2), (3, .int a1), (0, .ref (q0 0)), (1, .int a1), (2, .int a2)]) hx hb dX4_holdsBetween_3 hl (by decide) rfl (fun ls hl => ?_)
  refine lv_iconst (v := 0) hx hb dX4_holdsBetween_5 (by decide) ?_
  refine lv_istore (lv' := [(5, .int 0), (4, .int a2), (3, .int a1), (0, .ref (q0 0)), (1, .int a1), (2, .int a2)]) hx hb dX4_holdsBetween_6 hl (by decide) rfl (fun ls hl => ?_)
  have hL8 : ∀ (n : Nat) (s8 : Int32 × Int32 × Int32), lp (tX4_holdsBetween_8 g0) n s8 = some out → ∀ (ls : Array Slot), lv_has ls 7 [(0, .ref (q0 0)), (3, .int s8.1), (4, .int s8.2.1), (5, .int s8.2.2)] → W p l e (headSpec wsX4_holdsBetween rmX4_holdsBetween).room s m args below meth c s.heap [] 0 0 (MQ below (vp_Si (fun r => r = out)) args s 0 0 (fun _ => False)) (F0 m 8 ls []) := by
    intro n
    induction n with
    | zero => intro s8 hf; exact (lp0 hf).elim
    | succ n ih8 =>
      intro s8 hf ls hl
      obtain ⟨r8, hf, hn⟩ := lps hf
      unfold tX4_holdsBetween_8 at hf
      refine lv_iload hx hb dX4_holdsBetween_8 (lv_at hl 3 rfl) ?_
      refine lv_bipush (v := 121) hx hb dX4_holdsBetween_10 (by decide) ?_
      refine lv_icmp_ge (tgt := 63) hx hb dX4_holdsBetween_12 (by decide) (fun hc => ?_) (fun hc => ?_)
      · have hf := ot hc hf
        refine lv_bipush (v := (-4)) hx hb dX4_holdsBetween_63 (by decide) ?_
        obtain rfl := Option.some.inj hf
        obtain rfl := Option.some.inj hn
        exact W.iret (v := (-4)) hx hb hr (fun t ht hW => ⟨_, rfl, rfl, ht⟩) (fun _ h => by cases h) dX4_holdsBetween_65
      · have hf := oe hc hf
        refine lv_iload_n hx hb dX4_holdsBetween_15 rfl (lv_at hl 1 rfl) ?_
        refine lv_iload hx hb dX4_holdsBetween_16 (lv_at hl 2 rfl) ?_
        refine lv_icmp_ne (tgt := 24) hx hb dX4_holdsBetween_18 (by decide) (fun hc => ?_) (fun hc => ?_)
        · have hf := oe hc hf
          refine lv_iload_n hx hb dX4_holdsBetween_24 rfl (lv_at hl 1 rfl) ?_
          refine lv_iload hx hb dX4_holdsBetween_25 (lv_at hl 2 rfl) ?_
          refine mmax hx hb hml hl.1 hown hk0 hk0S hk0I hk0C (Nat.le_of_ble_eq_true rfl) (Nat.le_of_ble_eq_true rfl) ⟨Nat.zero_le _, Nat.zero_le _⟩ dX4_holdsBetween_27 ?_
          refine lv_istore (lv' := [(6, .int (jmax s8.1 s8.2.1)), (0, .ref (q0 0)), (3, .int s8.1), (4, .int s8.2.1), (5, .int s8.2.2)]) hx hb dX4_holdsBetween_30 hl (by decide) rfl (fun ls hl => ?_)
          refine lv_iload_n hx hb dX4_holdsBetween_32 rfl (lv_at hl 2 rfl) ?_
          refine lv_iload hx hb dX4_holdsBetween_33 (lv_at hl 3 rfl) ?_
          refine mmin hx hb hml hl.1 hown hk1 hk1S hk1I hk1C (Nat.le_of_ble_eq_true rfl) (Nat.le_of_ble_eq_true rfl) ⟨Nat.zero_le _, Nat.zero_le _⟩ dX4_holdsBetween_35 ?_
          refine lv_istore_n (lv' := [(3, .int (jmin s8.1 s8.2.1)), (6, .int (jmax s8.1 s8.2.1)), (0, .ref (q0 0)), (4, .int s8.2.1), (5, .int s8.2.2)]) hx hb dX4_holdsBetween_38 rfl hl (by decide) rfl (fun ls hl => ?_)
          refine lv_aload_n hx hb dX4_holdsBetween_39 rfl (lv_at hl 2 rfl) ?_
          refine lv_iload hx hb dX4_holdsBetween_40 (lv_at hl 1 rfl) ?_
          obtain ⟨o42, ho42, hf⟩ := ob hf
          refine rV (rest := []) (As := [.int (jmax s8.1 s8.2.1)]) ⟨hx, hb, hml, hown, hts⟩ (mX4_holderOf l dC dI cI cZ cC cO q0 _ _ _ ho42) (cwV 1 hts gX4_holdsBetween_X4_holderOf rfl rfl rfl (by decide +kernel) ⟨Nat.le_of_ble_eq_true rfl, Nat.le_of_ble_eq_true rfl⟩) hK hN hP [0, 1, 2, 3, 4, 5] rfl 3 rfl rfl rfl rfl hl.1 rfl (Nat.le_of_ble_eq_true rfl) dX4_holdsBetween_42 ⟨Nat.zero_le _, Nat.zero_le _⟩ ?_
          refine lv_istore (lv' := [(4, .int o42), (3, .int (jmin s8.1 s8.2.1)), (6, .int (jmax s8.1 s8.2.1)), (0, .ref (q0 0)), (5, .int s8.2.2)]) hx hb dX4_holdsBetween_45 hl (by decide) rfl (fun ls hl => ?_)
          refine lv_iload hx hb dX4_holdsBetween_47 (lv_at hl 0 rfl) ?_
          refine lv_bipush (v := (-4)) hx hb dX4_holdsBetween_49 (by decide) ?_
          refine lv_icmp_ne (tgt := 57) hx hb dX4_holdsBetween_51 (by decide) (fun hc => ?_) (fun hc => ?_)
          · have hf := oe hc hf
            refine lv_iinc (v := (s8.2.2 + 1)) (lv' := [(5, .int (s8.2.2 + 1)), (4, .int o42), (3, .int (jmin s8.1 s8.2.1)), (6, .int (jmax s8.1 s8.2.1)), (0, .ref (q0 0))]) hx hb dX4_holdsBetween_57 hl (k := 4) rfl rfl (by decide) rfl (fun ls hl => ?_)
            refine lv_goto (tgt := 8) hx hb dX4_holdsBetween_60 (by decide) ?_
            obtain rfl := Option.some.inj hf
            exact ih8 _ hn ls (lv_sub hl [4, 2, 1, 0] rfl)
          · have hf := ot hc hf
            refine lv_bipush (v := (-4)) hx hb dX4_holdsBetween_54 (by decide) ?_
            obtain rfl := Option.some.inj hf
            obtain rfl := Option.some.inj hn
            exact W.iret (v := (-4)) hx hb hr (fun t ht hW => ⟨_, rfl, rfl, ht⟩) (fun _ h => by cases h) dX4_holdsBetween_56
        · have hf := ot hc hf
          refine lv_iload hx hb dX4_holdsBetween_21 (lv_at hl 3 rfl) ?_
          obtain rfl := Option.some.inj hf
          obtain rfl := Option.some.inj hn
          exact W.iret (v := s8.2.2) hx hb hr (fun t ht hW => ⟨_, rfl, rfl, ht⟩) (fun _ h => by cases h) dX4_holdsBetween_23
  exact hL8 FU _ hf ls (lv_sub hl [3, 2, 1, 0] rfl)
set_option maxHeartbeats 4000000 in
set_option maxRecDepth 100000 in
theorem mX4_longestOfPairs (l : Launch) (dC : Nat → ClassId) (dI : Nat → Nat → Nat) (cI cZ cC cO : ClassId) (q0 : Nat → Nat) (g0 : GX4) (out : Int32) (hf : fX4_longestOfPairs g0 = some out) : Met l yX4_longestOfPairs wsX4_longestOfPairs rmX4_longestOfPairs (va_Pc [.ref (q0 0)] (pcR (dC, dI) (wTys cI cZ cC cO) (wX4 cI cZ cC q0 g0))) (vp_Si (fun r => r = out)) 0 0 (fun _ => False) := by
  refine Met.ofW (cc := cX4_longestOfPairs) (maxL := 4) (ret := (some .int)) (by decide) rfl ?_
  intro p e s m args below meth c s₁ B hml hv
  obtain ⟨hargs, hP, hK, hN⟩ := hv
  have hx := B.exec
  have hb := B.bytes
  have hr := B.returns
  have hts := atoms_spec (ws := wsX4_longestOfPairs) B.pre
  have hown : s.vm.findClass RX4 = some m.cls := findClass_of_methodNamed B.named
  have hlocks := B.notSynchronized
  have hk0 := hts (.fieldLink RX4 27 "RimGrains$State" "grains" "I") (by decide +kernel)
  have hk1 := hts (.methodLink RX4 114 Lib.Math.max.name) (by decide +kernel)
  have hk1S := hts (.static Lib.Math.max.name) (by decide +kernel)
  have hk1I := hts (.initialized "java/lang/Math") (by decide +kernel)
  have hk1C := hts (.code Lib.Math.max.name Lib.Math.max.code 2 (some .int)) (by decide +kernel)
  have hin4 : ∀ w ∈ wsX40, w ∈ wsX4_longestOfPairs := by decide +kernel
  have hE := lg_entry_eq m [.ref (q0 0)] 4
  rw [← hargs] at hE
  rw [hE]
  have hl := lv_entry [.ref (q0 0)] (n := 4) (Nat.le_of_ble_eq_true rfl)
  generalize (lg_sl [.ref (q0 0)] ++ List.replicate (4 - (lg_sl [.ref (q0 0)]).length) Slot.unset).toArray = ls at hl ⊢
  have hl : lv_has ls 4 [(0, .ref (q0 0))] := hl
  unfold fX4_longestOfPairs at hf
  refine lv_iconst (v := 0) hx hb dX4_longestOfPairs_0 (by decide) ?_
  refine lv_istore_n (lv' := [(1, .int 0), (0, .ref (q0 0))]) hx hb dX4_longestOfPairs_1 rfl hl (by decide) rfl (fun ls hl => ?_)
  refine lv_iconst (v := 0) hx hb dX4_longestOfPairs_2 (by decide) ?_
  refine lv_istore_n (lv' := [(2, .int 0), (1, .int 0), (0, .ref (q0 0))]) hx hb dX4_longestOfPairs_3 rfl hl (by decide) rfl (fun ls hl => ?_)
  have hL4 : ∀ (n : Nat) (s4 : Int32 × Int32) (o4 : Int32), lp (tX4_longestOfPairs_4 g0) n s4 = some o4 → ∀ (ls : Array Slot), lv_has ls 4 [(0, .ref (q0 0)), (1, .int s4.1), (2, .int s4.2)] → (∀ (ls : Array Slot), lv_has ls 4 [(1, .int o4)] → W p l e (headSpec wsX4_longestOfPairs rmX4_longestOfPairs).room s m args below meth c s.heap [] 0 0 (MQ below (vp_Si (fun r => r = out)) args s 0 0 (fun _ => False)) (F0 m 47 ls [])) → W p l e (headSpec wsX4_longestOfPairs rmX4_longestOfPairs).room s m args below meth c s.heap [] 0 0 (MQ below (vp_Si (fun r => r = out)) args s 0 0 (fun _ => False)) (F0 m 4 ls []) := by
    intro n
    induction n with
    | zero => intro s4 o4 hf; exact (lp0 hf).elim
    | succ n ih4 =>
      intro s4 o4 hf ls hl kx
      obtain ⟨r4, hf, hn⟩ := lps hf
      unfold tX4_longestOfPairs_4 at hf
      refine lv_iload_n hx hb dX4_longestOfPairs_4 rfl (lv_at hl 2 rfl) ?_
      refine lv_aload_n hx hb dX4_longestOfPairs_5 rfl (lv_at hl 0 rfl) ?_
      refine va_get (D := (dC, dI)) (ci := 3) (v := .int (pX4_grains g0)) (C := RX4) (T := TX4) (N := 11) hx hb hts hin4 hown hK hP 0 rfl rfl 5 (by decide) hk0 (fun _ h9 => h9) rfl dX4_longestOfPairs_6 ?_
      refine lv_icmp_ge (tgt := 47) hx hb dX4_longestOfPairs_9 (by decide) (fun hc => ?_) (fun hc => ?_)
      · have hf := ot hc hf
        obtain rfl := Option.some.inj hf
        obtain rfl := Option.some.inj hn
        exact kx ls (lv_sub hl [1] rfl)
      · have hf := oe hc hf
        refine lv_iload_n hx hb dX4_longestOfPairs_12 rfl (lv_at hl 2 rfl) ?_
        refine lv_iconst (v := 1) hx hb dX4_longestOfPairs_13 (by decide) ?_
        refine lv_iadd hx hb dX4_longestOfPairs_14 ?_
        refine lv_istore_n (lv' := [(3, .int (s4.2 + 1)), (0, .ref (q0 0)), (1, .int s4.1), (2, .int s4.2)]) hx hb dX4_longestOfPairs_15 rfl hl (by decide) rfl (fun ls hl => ?_)
        have hL16 : ∀ (n : Nat) (s16 : Int32 × Int32) (o16 : Int32), lp (tX4_longestOfPairs_16 g0 s4) n s16 = some o16 → ∀ (ls : Array Slot), lv_has ls 4 [(0, .ref (q0 0)), (1, .int s16.1), (2, .int s4.2), (3, .int s16.2)] → (∀ (ls : Array Slot), lv_has ls 4 [(0, .ref (q0 0)), (1, .int o16), (2, .int s4.2)] → W p l e (headSpec wsX4_longestOfPairs rmX4_longestOfPairs).room s m args below meth c s.heap [] 0 0 (MQ below (vp_Si (fun r => r = out)) args s 0 0 (fun _ => False)) (F0 m 41 ls [])) → W p l e (headSpec wsX4_longestOfPairs rmX4_longestOfPairs).room s m args below meth c s.heap [] 0 0 (MQ below (vp_Si (fun r => r = out)) args s 0 0 (fun _ => False)) (F0 m 16 ls []) := by
          intro n
          induction n with
          | zero => intro s16 o16 hf; exact (lp0 hf).elim
          | succ n ih16 =>
            intro s16 o16 hf ls hl kx
            obtain ⟨r16, hf, hn⟩ := lps hf
            unfold tX4_longestOfPairs_16 at hf
            refine lv_iload_n hx hb dX4_longestOfPairs_16 rfl (lv_at hl 3 rfl) ?_
            refine lv_aload_n hx hb dX4_longestOfPairs_17 rfl (lv_at hl 0 rfl) ?_
            refine va_get (D := (dC, dI)) (ci := 3) (v := .int (pX4_grains g0)) (C := RX4) (T := TX4) (N := 11) hx hb hts hin4 hown hK hP 0 rfl rfl 5 (by decide) hk0 (fun _ h9 => h9) rfl dX4_longestOfPairs_18 ?_
            refine lv_icmp_ge (tgt := 41) hx hb dX4_longestOfPairs_21 (by decide) (fun hc => ?_) (fun hc => ?_)
            · have hf := ot hc hf
              obtain rfl := Option.some.inj hf
              obtain rfl := Option.some.inj hn
              exact kx ls (lv_sub hl [0, 1, 2] rfl)
            · have hf := oe hc hf
              refine lv_iload_n hx hb dX4_longestOfPairs_24 rfl (lv_at hl 1 rfl) ?_
              refine lv_aload_n hx hb dX4_longestOfPairs_25 rfl (lv_at hl 0 rfl) ?_
              refine lv_iload_n hx hb dX4_longestOfPairs_26 rfl (lv_at hl 2 rfl) ?_
              refine lv_iload_n hx hb dX4_longestOfPairs_27 rfl (lv_at hl 3 rfl) ?_
              obtain ⟨o28, ho28, hf⟩ := ob hf
              refine rV (rest := [.int s16.1]) (As := [.int s4.2, .int s16.2]) ⟨hx, hb, hml, hown, hts⟩ (mX4_holdsBetween l dC dI cI cZ cC cO q0 _ _ _ _ ho28) (cwV 2 hts gX4_longestOfPairs_X4_holdsBetween rfl rfl rfl (by decide +kernel) ⟨Nat.le_of_ble_eq_true rfl, Nat.le_of_ble_eq_true rfl⟩) hK hN hP [0, 1, 2, 3, 4, 5] rfl 3 rfl rfl rfl rfl hl.1 rfl (Nat.le_of_ble_eq_true rfl) dX4_longestOfPairs_28 ⟨Nat.zero_le _, Nat.zero_le _⟩ ?_
              refine mmax hx hb hml hl.1 hown hk1 hk1S hk1I hk1C (Nat.le_of_ble_eq_true rfl) (Nat.le_of_ble_eq_true rfl) ⟨Nat.zero_le _, Nat.zero_le _⟩ dX4_longestOfPairs_31 ?_
              refine lv_istore_n (lv' := [(1, .int (jmax s16.1 o28)), (0, .ref (q0 0)), (2, .int s4.2), (3, .int s16.2)]) hx hb dX4_longestOfPairs_34 rfl hl (by decide) rfl (fun ls hl => ?_)
              refine lv_iinc (v := (s16.2 + 1)) (lv' := [(3, .int (s16.2 + 1)), (1, .int (jmax s16.1 o28)), (0, .ref (q0 0)), (2, .int s4.2)]) hx hb dX4_longestOfPairs_35 hl (k := 3) rfl rfl (by decide) rfl (fun ls hl => ?_)
              refine lv_goto (tgt := 16) hx hb dX4_longestOfPairs_38 (by decide) ?_
              obtain rfl := Option.some.inj hf
              exact ih16 _ _ hn ls (lv_sub hl [2, 1, 3, 0] rfl) kx
        obtain ⟨o16, ho16, hf⟩ := ob hf
        refine hL16 FU _ _ ho16 ls (lv_sub hl [1, 2, 3, 0] rfl) (fun ls hl => ?_)
        refine lv_iinc (v := (s4.2 + 1)) (lv' := [(2, .int (s4.2 + 1)), (0, .ref (q0 0)), (1, .int o16)]) hx hb dX4_longestOfPairs_41 hl (k := 2) rfl rfl (by decide) rfl (fun ls hl => ?_)
        refine lv_goto (tgt := 4) hx hb dX4_longestOfPairs_44 (by decide) ?_
        obtain rfl := Option.some.inj hf
        exact ih4 _ _ hn ls (lv_sub hl [1, 2, 0] rfl) kx
  obtain ⟨o4, ho4, hf⟩ := ob hf
  refine hL4 FU _ _ ho4 ls (lv_sub hl [2, 1, 0] rfl) (fun ls hl => ?_)
  refine lv_iload_n hx hb dX4_longestOfPairs_47 rfl (lv_at hl 0 rfl) ?_
  obtain rfl := Option.some.inj hf
  exact W.iret (v := o4) hx hb hr (fun t ht hW => ⟨_, rfl, rfl, ht⟩) (fun _ h => by cases h) dX4_longestOfPairs_48
set_option maxHeartbeats 4000000 in
set_option maxRecDepth 100000 in
theorem mX4_reach (l : Launch) (dC : Nat → ClassId) (dI : Nat → Nat → Nat) (cI cZ cC cO : ClassId) (q0 : Nat → Nat) (g0 : GX4) (out : Int32) (hf : fX4_reach g0 = some out) : Met l yX4_reach wsX4_reach rmX4_reach (va_Pc [.ref (q0 0)] (pcR (dC, dI) (wTys cI cZ cC cO) (wX4 cI cZ cC q0 g0))) (vp_Si (fun r => r = out)) 0 0 (fun _ => False) := by
  refine Met.ofW (cc := cX4_reach) (maxL := 3) (ret := (some .int)) (by decide) rfl ?_
  intro p e s m args below meth c s₁ B hml hv
  obtain ⟨hargs, hP, hK, hN⟩ := hv
  have hx := B.exec
  have hb := B.bytes
  have hr := B.returns
  have hts := atoms_spec (ws := wsX4_reach) B.pre
  have hown : s.vm.findClass RX4 = some m.cls := findClass_of_methodNamed B.named
  have hlocks := B.notSynchronized
  have hk0 := hts (.fieldLink RX4 27 "RimGrains$State" "grains" "I") (by decide +kernel)
  have hk1 := hts (.fieldLink RX4 9 "RimGrains$State" "cells" "[I") (by decide +kernel)
  have hk2 := hts (.methodLink RX4 114 Lib.Math.max.name) (by decide +kernel)
  have hk2S := hts (.static Lib.Math.max.name) (by decide +kernel)
  have hk2I := hts (.initialized "java/lang/Math") (by decide +kernel)
  have hk2C := hts (.code Lib.Math.max.name Lib.Math.max.code 2 (some .int)) (by decide +kernel)
  have hin4 : ∀ w ∈ wsX40, w ∈ wsX4_reach := by decide +kernel
  have hE := lg_entry_eq m [.ref (q0 0)] 3
  rw [← hargs] at hE
  rw [hE]
  have hl := lv_entry [.ref (q0 0)] (n := 3) (Nat.le_of_ble_eq_true rfl)
  generalize (lg_sl [.ref (q0 0)] ++ List.replicate (3 - (lg_sl [.ref (q0 0)]).length) Slot.unset).toArray = ls at hl ⊢
  have hl : lv_has ls 3 [(0, .ref (q0 0))] := hl
  unfold fX4_reach at hf
  refine lv_iconst (v := 0) hx hb dX4_reach_0 (by decide) ?_
  refine lv_istore_n (lv' := [(1, .int 0), (0, .ref (q0 0))]) hx hb dX4_reach_1 rfl hl (by decide) rfl (fun ls hl => ?_)
  refine lv_iconst (v := 0) hx hb dX4_reach_2 (by decide) ?_
  refine lv_istore_n (lv' := [(2, .int 0), (1, .int 0), (0, .ref (q0 0))]) hx hb dX4_reach_3 rfl hl (by decide) rfl (fun ls hl => ?_)
  have hL4 : ∀ (n : Nat) (s4 : Int32 × Int32) (o4 : Int32), lp (tX4_reach_4 g0) n s4 = some o4 → ∀ (ls : Array Slot), lv_has ls 3 [(0, .ref (q0 0)), (1, .int s4.1), (2, .int s4.2)] → (∀ (ls : Array Slot), lv_has ls 3 [(1, .int o4)] → W p l e (headSpec wsX4_reach rmX4_reach).room s m args below meth c s.heap [] 0 0 (MQ below (vp_Si (fun r => r = out)) args s 0 0 (fun _ => False)) (F0 m 32 ls [])) → W p l e (headSpec wsX4_reach rmX4_reach).room s m args below meth c s.heap [] 0 0 (MQ below (vp_Si (fun r => r = out)) args s 0 0 (fun _ => False)) (F0 m 4 ls []) := by
    intro n
    induction n with
    | zero => intro s4 o4 hf; exact (lp0 hf).elim
    | succ n ih4 =>
      intro s4 o4 hf ls hl kx
      obtain ⟨r4, hf, hn⟩ := lps hf
      unfold tX4_reach_4 at hf
      refine lv_iload_n hx hb dX4_reach_4 rfl (lv_at hl 2 rfl) ?_
      refine lv_aload_n hx hb dX4_reach_5 rfl (lv_at hl 0 rfl) ?_
      refine va_get (D := (dC, dI)) (ci := 3) (v := .int (pX4_grains g0)) (C := RX4) (T := TX4) (N := 11) hx hb hts hin4 hown hK hP 0 rfl rfl 5 (by decide) hk0 (fun _ h9 => h9) rfl dX4_reach_6 ?_
      refine lv_icmp_ge (tgt := 32) hx hb dX4_reach_9 (by decide) (fun hc => ?_) (fun hc => ?_)
      · have hf := ot hc hf
        obtain rfl := Option.some.inj hf
        obtain rfl := Option.some.inj hn
        exact kx ls (lv_sub hl [1] rfl)
      · have hf := oe hc hf
        refine lv_iload_n hx hb dX4_reach_12 rfl (lv_at hl 1 rfl) ?_
        refine lv_aload_n hx hb dX4_reach_13 rfl (lv_at hl 0 rfl) ?_
        refine va_get (D := (dC, dI)) (ci := 3) (v := .ref (q0 1)) (C := RX4) (T := TX4) (N := 11) hx hb hts hin4 hown hK hP 0 rfl rfl 0 (by decide) hk1 (fun _ h9 => h9) rfl dX4_reach_14 ?_
        refine lv_iload_n hx hb dX4_reach_17 rfl (lv_at hl 2 rfl) ?_
        obtain ⟨hin, hf⟩ := og hf
        refine va_iald hx hb hK hP 1 0 rfl rfl hin dX4_reach_18 ?_
        obtain ⟨o19, ho19, hf⟩ := ob hf
        refine rS (rest := [.int s4.1]) (As := [.int ((pX4_cells g0) s4.2.toNatClampNeg)]) ⟨hx, hb, hml, hown, hts⟩ (mX2_ringOf l dC dI cI cZ cC cO  _ _ ho19) (va_cwS 1 hts gX4_reach_X2_ringOf rfl rfl rfl (by decide +kernel) ⟨Nat.le_of_ble_eq_true rfl, Nat.le_of_ble_eq_true rfl⟩) hK hN hP [] rfl rfl hl.1 rfl (Nat.le_of_ble_eq_true rfl) dX4_reach_19 ⟨Nat.zero_le _, Nat.zero_le _⟩ ?_
        refine mmax hx hb hml hl.1 hown hk2 hk2S hk2I hk2C (Nat.le_of_ble_eq_true rfl) (Nat.le_of_ble_eq_true rfl) ⟨Nat.zero_le _, Nat.zero_le _⟩ dX4_reach_22 ?_
        refine lv_istore_n (lv' := [(1, .int (jmax s4.1 o19)), (0, .ref (q0 0)), (2, .int s4.2)]) hx hb dX4_reach_25 rfl hl (by decide) rfl (fun ls hl => ?_)
        refine lv_iinc (v := (s4.2 + 1)) (lv' := [(2, .int (s4.2 + 1)), (1, .int (jmax s4.1 o19)), (0, .ref (q0 0))]) hx hb dX4_reach_26 hl (k := 2) rfl rfl (by decide) rfl (fun ls hl => ?_)
        refine lv_goto (tgt := 4) hx hb dX4_reach_29 (by decide) ?_
        obtain rfl := Option.some.inj hf
        exact ih4 _ _ hn ls (lv_sub hl [2, 1, 0] rfl) kx
  obtain ⟨o4, ho4, hf⟩ := ob hf
  refine hL4 FU _ _ ho4 ls (lv_sub hl [2, 1, 0] rfl) (fun ls hl => ?_)
  refine lv_iload_n hx hb dX4_reach_32 rfl (lv_at hl 0 rfl) ?_
  obtain rfl := Option.some.inj hf
  exact W.iret (v := o4) hx hb hr (fun t ht hW => ⟨_, rfl, rfl, ht⟩) (fun _ h => by cases h) dX4_reach_33
set_option maxHeartbeats 4000000 in
set_option maxRecDepth 100000 in
theorem mX4_freeCellsBeside (l : Launch) (dC : Nat → ClassId) (dI : Nat → Nat → Nat) (cI cZ cC cO : ClassId) (q0 : Nat → Nat) (g0 : GX4) (out : Int32) (hf : fX4_freeCellsBeside g0 = some out) : Met l yX4_freeCellsBeside wsX4_freeCellsBeside rmX4_freeCellsBeside (va_Pc [.ref (q0 0)] (pcR (dC, dI) (wTys cI cZ cC cO) (wX4 cI cZ cC q0 g0))) (vp_Si (fun r => r = out)) 0 0 (fun _ => False) := by
  refine Met.ofW (cc := cX4_freeCellsBeside) (maxL := 3) (ret := (some .int)) (by decide) rfl ?_
  intro p e s m args below meth c s₁ B hml hv
  obtain ⟨hargs, hP, hK, hN⟩ := hv
  have hx := B.exec
  have hb := B.bytes
  have hr := B.returns
  have hts := atoms_spec (ws := wsX4_freeCellsBeside) B.pre
  have hown : s.vm.findClass RX4 = some m.cls := findClass_of_methodNamed B.named
  have hlocks := B.notSynchronized
  have hE := lg_entry_eq m [.ref (q0 0)] 3
  rw [← hargs] at hE
  rw [hE]
  have hl := lv_entry [.ref (q0 0)] (n := 3) (Nat.le_of_ble_eq_true rfl)
  generalize (lg_sl [.ref (q0 0)] ++ List.replicate (3 - (lg_sl [.ref (q0 0)]).length) Slot.unset).toArray = ls at hl ⊢
  have hl : lv_has ls 3 [(0, .ref (q0 0))] := hl
  unfold fX4_freeCellsBeside at hf
  refine lv_iconst (v := 0) hx hb dX4_freeCellsBeside_0 (by decide) ?_
  refine lv_istore_n (lv' := [(1, .int 0), (0, .ref (q0 0))]) hx hb dX4_freeCellsBeside_1 rfl hl (by decide) rfl (fun ls hl => ?_)
  refine lv_iconst (v := 0) hx hb dX4_freeCellsBeside_2 (by decide) ?_
  refine lv_istore_n (lv' := [(2, .int 0), (1, .int 0), (0, .ref (q0 0))]) hx hb dX4_freeCellsBeside_3 rfl hl (by decide) rfl (fun ls hl => ?_)
  have hL4 : ∀ (n : Nat) (s4 : Int32 × Int32) (o4 : Int32), lp (tX4_freeCellsBeside_4 g0) n s4 = some o4 → ∀ (ls : Array Slot), lv_has ls 3 [(0, .ref (q0 0)), (1, .int s4.1), (2, .int s4.2)] → (∀ (ls : Array Slot), lv_has ls 3 [(1, .int o4)] → W p l e (headSpec wsX4_freeCellsBeside rmX4_freeCellsBeside).room s m args below meth c s.heap [] 0 0 (MQ below (vp_Si (fun r => r = out)) args s 0 0 (fun _ => False)) (F0 m 39 ls [])) → W p l e (headSpec wsX4_freeCellsBeside rmX4_freeCellsBeside).room s m args below meth c s.heap [] 0 0 (MQ below (vp_Si (fun r => r = out)) args s 0 0 (fun _ => False)) (F0 m 4 ls []) := by
    intro n
    induction n with
    | zero => intro s4 o4 hf; exact (lp0 hf).elim
    | succ n ih4 =>
      intro s4 o4 hf ls hl kx
      obtain ⟨r4, hf, hn⟩ := lps hf
      unfold tX4_freeCellsBeside_4 at hf
      refine lv_iload_n hx hb dX4_freeCellsBeside_4 rfl (lv_at hl 2 rfl) ?_
      refine lv_bipush (v := 121) hx hb dX4_freeCellsBeside_5 (by decide) ?_
      refine lv_icmp_ge (tgt := 39) hx hb dX4_freeCellsBeside_7 (by decide) (fun hc => ?_) (fun hc => ?_)
      · have hf := ot hc hf
        obtain rfl := Option.some.inj hf
        obtain rfl := Option.some.inj hn
        exact kx ls (lv_sub hl [1] rfl)
      · have hf := oe hc hf
        refine lv_aload_n hx hb dX4_freeCellsBeside_10 rfl (lv_at hl 0 rfl) ?_
        refine lv_iload_n hx hb dX4_freeCellsBeside_11 rfl (lv_at hl 2 rfl) ?_
        obtain ⟨o12, ho12, hf⟩ := ob hf
        refine rV (rest := []) (As := [.int s4.2]) ⟨hx, hb, hml, hown, hts⟩ (mX4_grainAt l dC dI cI cZ cC cO q0 _ _ _ ho12) (cwV 1 hts gX4_freeCellsBeside_X4_grainAt rfl rfl rfl (by decide +kernel) ⟨Nat.le_of_ble_eq_true rfl, Nat.le_of_ble_eq_true rfl⟩) hK hN hP [0, 1, 2, 3, 4, 5] rfl 3 rfl rfl rfl rfl hl.1 rfl (Nat.le_of_ble_eq_true rfl) dX4_freeCellsBeside_12 ⟨Nat.zero_le _, Nat.zero_le _⟩ ?_
        refine lv_bipush (v := (-4)) hx hb dX4_freeCellsBeside_15 (by decide) ?_
        have hJ1 : ∀ (x1_1 : Int32), jX4_freeCellsBeside_1 s4 x1_1 = some r4 → ∀ ls : Array Slot, lv_has ls 3 [(0, .ref (q0 0)), (1, .int x1_1), (2, .int s4.2)] → W p l e (headSpec wsX4_freeCellsBeside rmX4_freeCellsBeside).room s m args below meth c s.heap [] 0 0 (MQ below (vp_Si (fun r => r = out)) args s 0 0 (fun _ => False)) (F0 m 33 ls []) := by
          intro x1_1 hf ls hl
          unfold jX4_freeCellsBeside_1 at hf
          refine lv_iinc (v := (s4.2 + 1)) (lv' := [(2, .int (s4.2 + 1)), (0, .ref (q0 0)), (1, .int x1_1)]) hx hb dX4_freeCellsBeside_33 hl (k := 2) rfl rfl (by decide) rfl (fun ls hl => ?_)
          refine lv_goto (tgt := 4) hx hb dX4_freeCellsBeside_36 (by decide) ?_
          obtain rfl := Option.some.inj hf
          exact ih4 _ _ hn ls (lv_sub hl [1, 2, 0] rfl) kx
        refine lv_icmp_ne (tgt := 33) hx hb dX4_freeCellsBeside_17 (by decide) (fun hc => ?_) (fun hc => ?_)
        · have hf := oe hc hf
          exact hJ1 _ hf ls (lv_sub hl [0, 1, 2] rfl)
        · have hf := ot hc hf
          refine lv_aload_n hx hb dX4_freeCellsBeside_20 rfl (lv_at hl 0 rfl) ?_
          refine lv_iload_n hx hb dX4_freeCellsBeside_21 rfl (lv_at hl 2 rfl) ?_
          obtain ⟨o22, ho22, hf⟩ := ob hf
          refine rV (rest := []) (As := [.int s4.2]) ⟨hx, hb, hml, hown, hts⟩ (mX4_firstGrainBeside l dC dI cI cZ cC cO q0 _ _ _ ho22) (cwV 1 hts gX4_freeCellsBeside_X4_firstGrainBeside rfl rfl rfl (by decide +kernel) ⟨Nat.le_of_ble_eq_true rfl, Nat.le_of_ble_eq_true rfl⟩) hK hN hP [0, 1, 2, 3, 4, 5] rfl 3 rfl rfl rfl rfl hl.1 rfl (Nat.le_of_ble_eq_true rfl) dX4_freeCellsBeside_22 ⟨Nat.zero_le _, Nat.zero_le _⟩ ?_
          refine lv_bipush (v := (-4)) hx hb dX4_freeCellsBeside_25 (by decide) ?_
          refine lv_icmp_eq (tgt := 33) hx hb dX4_freeCellsBeside_27 (by decide) (fun hc => ?_) (fun hc => ?_)
          · have hf := ot hc hf
            exact hJ1 _ hf ls (lv_sub hl [0, 1, 2] rfl)
          · have hf := oe hc hf
            refine lv_iinc (v := (s4.1 + 1)) (lv' := [(1, .int (s4.1 + 1)), (0, .ref (q0 0)), (2, .int s4.2)]) hx hb dX4_freeCellsBeside_30 hl (k := 1) rfl rfl (by decide) rfl (fun ls hl => ?_)
            exact hJ1 _ hf ls (lv_sub hl [1, 0, 2] rfl)
  obtain ⟨o4, ho4, hf⟩ := ob hf
  refine hL4 FU _ _ ho4 ls (lv_sub hl [2, 1, 0] rfl) (fun ls hl => ?_)
  refine lv_iload_n hx hb dX4_freeCellsBeside_39 rfl (lv_at hl 0 rfl) ?_
  obtain rfl := Option.some.inj hf
  exact W.iret (v := o4) hx hb hr (fun t ht hW => ⟨_, rfl, rfl, ht⟩) (fun _ h => by cases h) dX4_freeCellsBeside_40
