theorem dfX0 : ∀ j, j < 2 → defaultValue (tyX0 j) = vp_V [.null, .null] j := fun j hj => by
  match j, hj with
  | 0, _ => rfl
  | 1, _ => rfl
set_option maxHeartbeats 4000000 in
set_option maxRecDepth 100000 in
theorem mX0_init (l : Launch) (dC : Nat → ClassId) (dI : Nat → Nat → Nat) (cI cZ cC cO : ClassId) (h0 : Nat) (sz : Nat) : Met l yX0_init wsX0_init rmX0_init (va_Pc [.ref h0] (pcW (dC, dI) (wTys cI cZ cC cO) sz ([(h0, .inr (0, [.null, .null]))] : va_W))) (va_Qv (fun u : Nat → Nat => u 0 = h0) (fun u => poW (dC, dI) (va_A ([(h0, .inr (0, [.null, .null]))] : va_W) sz) (wX0 cI cZ cC u S0X0)) (va_A ([(h0, .inr (0, [.null, .null]))] : va_W) sz)) 2 242 (va_A ([(h0, .inr (0, [.null, .null]))] : va_W) sz) := by
  refine Met.ofW (cc := cX0_init) (maxL := 1) (ret := none) (by decide) rfl ?_
  intro p e s m args below meth c s₁ B hml hv
  obtain ⟨hargs, hsz, hP, hK, hN, hD0⟩ := hv
  have hx := B.exec
  have hb := B.bytes
  have hr := B.returns
  have hts := atoms_spec (ws := wsX0_init) B.pre
  have hown : s.vm.findClass RX0 = some m.cls := findClass_of_methodNamed B.named
  have hlocks := B.notSynchronized
  have hinit : meth.name = "<init>" := (name_of_methodNamed B.named B.method).1
  have hk0 := hts (.fieldLink RX0 9 "RimGrains$Fall" "falling" "[Z") (by decide +kernel)
  have hk1 := hts (.fieldLink RX0 15 "RimGrains$Fall" "newNumbers" "[I") (by decide +kernel)
  have hin0 : ∀ w ∈ wsX00, w ∈ wsX0_init := by decide +kernel
  subst hsz
  have hD := hD0.self (sz := s.heap.size)
  generalize hAe : va_A ([(h0, .inr (0, [.null, .null]))] : va_W) s.heap.size = A at hD ⊢
  have hA : ∀ q : Nat, s.heap.size ≤ q → A q := fun q h => by rw [← hAe]; exact Or.inr h
  have hS : va_S A s.heap s.heap [] := va_S.rf
  have hE := lg_entry_eq m [.ref h0] 1
  rw [← hargs] at hE
  rw [hE]
  have hl := lv_entry [.ref h0] (n := 1) (Nat.le_of_ble_eq_true rfl)
  generalize (lg_sl [.ref h0] ++ List.replicate (1 - (lg_sl [.ref h0]).length) Slot.unset).toArray = ls at hl ⊢
  have hl : lv_has ls 1 [(0, .ref h0)] := hl
  have hP : va_P (dC, dI) vwCl ([(h0, .inr (0, [.null, .null]))] : va_W) s.heap := hP
  refine lv_aload_n hx hb dX0_init_0 rfl (lv_at hl 0 rfl) ?_
  refine W.objInit hx hb hown (hts (.methodLink RX0 3 objectInit) (by decide +kernel)) (hts (.instanceMethod objectInit) (by decide +kernel)) (hts (.code objectInit ⟨#[0xb1]⟩ 1 none) (by decide +kernel)) rfl (by rw [hml]; exact hl.1) rfl dX0_init_1 (Nat.le_of_ble_eq_true rfl) (Nat.le_of_ble_eq_true rfl) ?_
  refine W.eq (g2 := F0 m 4 ls []) rfl ?_
  refine lv_aload_n hx hb dX0_init_4 rfl (lv_at hl 0 rfl) ?_
  refine lv_bipush (v := 121) hx hb dX0_init_5 (by decide) ?_
  refine mnewa (atype := .boolean) (ty := .boolean) (w := ([(h0, .inr (0, [.null, .null]))] : va_W)) hx hb (hts (.arrayClass .boolean) (by decide +kernel)) rfl (by decide) hK 1 rfl hP hD hS hA (fun _ => rfl) (by decide) (N := 121) (by decide) (show 121 * 1 ≤ 536870912 from Nat.le_of_ble_eq_true rfl) (Nat.le_of_ble_eq_true rfl) (Nat.le_of_ble_eq_true rfl) dX0_init_7 (fun x1 H hP hD hS => ?_)
  have hP : va_P (dC, dI) vwCl ([(h0, .inr (0, [.null, .null]))] ++ [(x1, .inl (cZ, 121, .inl (fun _ => 0)))] : va_W) H := hP
  have hD : va_D A ([(h0, .inr (0, [.null, .null]))] ++ [(x1, .inl (cZ, 121, .inl (fun _ => 0)))] : va_W) := hD
  refine va_putF (D := (dC, dI)) (ci := 0) (v := .ref x1) (ty := (tyX0 0)) (C := RX0) (T := TX0) (N := 2) hx hb hts hin0 tyX0 tyX0_ok nmX0 hown hK hP hD hS 0 rfl rfl 0 (by decide) hk0 (fun _ h9 => h9) rfl hinit rfl (by decide +kernel) rfl rfl (Nat.le_of_ble_eq_true rfl) dX0_init_9 (fun H locs hP hD hS => ?_)
  have hP : va_P (dC, dI) vwCl ([(h0, .inr (0, [.ref x1, .null]))] ++ [(x1, .inl (cZ, 121, .inl (fun _ => 0)))] : va_W) H := hP
  have hD : va_D A ([(h0, .inr (0, [.ref x1, .null]))] ++ [(x1, .inl (cZ, 121, .inl (fun _ => 0)))] : va_W) := hD
  refine lv_aload_n hx hb dX0_init_12 rfl (lv_at hl 0 rfl) ?_
  refine lv_bipush (v := 121) hx hb dX0_init_13 (by decide) ?_
  refine mnewa (atype := .int) (ty := .int) (w := ([(h0, .inr (0, [.ref x1, .null]))] ++ [(x1, .inl (cZ, 121, .inl (fun _ => 0)))] : va_W)) hx hb (hts (.arrayClass .int) (by decide +kernel)) rfl (by decide) hK 0 rfl hP hD hS hA (fun _ => rfl) (by decide) (N := 121) (by decide) (show 121 * 4 ≤ 536870912 from Nat.le_of_ble_eq_true rfl) (Nat.le_of_ble_eq_true rfl) (Nat.le_of_ble_eq_true rfl) dX0_init_15 (fun x2 H hP hD hS => ?_)
  have hP : va_P (dC, dI) vwCl ([(h0, .inr (0, [.ref x1, .null]))] ++ [(x1, .inl (cZ, 121, .inl (fun _ => 0)))] ++ [(x2, .inl (cI, 121, .inl (fun _ => 0)))] : va_W) H := hP
  have hD : va_D A ([(h0, .inr (0, [.ref x1, .null]))] ++ [(x1, .inl (cZ, 121, .inl (fun _ => 0)))] ++ [(x2, .inl (cI, 121, .inl (fun _ => 0)))] : va_W) := hD
  refine va_putF (D := (dC, dI)) (ci := 0) (v := .ref x2) (ty := (tyX0 1)) (C := RX0) (T := TX0) (N := 2) hx hb hts hin0 tyX0 tyX0_ok nmX0 hown hK hP hD hS 0 rfl rfl 1 (by decide) hk1 (fun _ h9 => h9) rfl hinit rfl (by decide +kernel) rfl rfl (Nat.le_of_ble_eq_true rfl) dX0_init_17 (fun H locs hP hD hS => ?_)
  have hP : va_P (dC, dI) vwCl ([(h0, .inr (0, [.ref x1, .ref x2]))] ++ [(x1, .inl (cZ, 121, .inl (fun _ => 0)))] ++ [(x2, .inl (cI, 121, .inl (fun _ => 0)))] : va_W) H := hP
  have hD : va_D A ([(h0, .inr (0, [.ref x1, .ref x2]))] ++ [(x1, .inl (cZ, 121, .inl (fun _ => 0)))] ++ [(x2, .inl (cI, 121, .inl (fun _ => 0)))] : va_W) := hD
  have hP := hP.sub (ws' := wX0 cI cZ cC (fun k => [h0, x1, x2].getD k 0) S0X0) [0, 1, 2] rfl
  have hD := hD.sub (ws' := wX0 cI cZ cC (fun k => [h0, x1, x2].getD k 0) S0X0) [0, 1, 2] (by decide) rfl
  exact W.vret hx hb hr (fun t ht hW => ⟨⟨(fun k => [h0, x1, x2].getD k 0), rfl, rfl, by rw [ht]; exact hP, hD⟩, hS.F ht⟩) hS.2.2 dX0_init_20

theorem dfX1 : ∀ j, j < 6 → defaultValue (tyX1 j) = vp_V [.null, .int 0, .int 0, .int 0, .int 0, .int 0] j := fun j hj => by
  match j, hj with
  | 0, _ => rfl
  | 1, _ => rfl
  | 2, _ => rfl
  | 3, _ => rfl
  | 4, _ => rfl
  | 5, _ => rfl
set_option maxHeartbeats 4000000 in
set_option maxRecDepth 100000 in
theorem mX1_init (l : Launch) (dC : Nat → ClassId) (dI : Nat → Nat → Nat) (cI cZ cC cO : ClassId) (h0 : Nat) (sz : Nat) : Met l yX1_init wsX1_init rmX1_init (va_Pc [.ref h0] (pcW (dC, dI) (wTys cI cZ cC cO) sz ([(h0, .inr (1, [.null, .int 0, .int 0, .int 0, .int 0, .int 0]))] : va_W))) (va_Qv (fun u : Nat → Nat => u 0 = h0) (fun u => poW (dC, dI) (va_A ([(h0, .inr (1, [.null, .int 0, .int 0, .int 0, .int 0, .int 0]))] : va_W) sz) (wX1 cI cZ cC u S0X1)) (va_A ([(h0, .inr (1, [.null, .int 0, .int 0, .int 0, .int 0, .int 0]))] : va_W) sz)) 1 60 (va_A ([(h0, .inr (1, [.null, .int 0, .int 0, .int 0, .int 0, .int 0]))] : va_W) sz) := by
  refine Met.ofW (cc := cX1_init) (maxL := 1) (ret := none) (by decide) rfl ?_
  intro p e s m args below meth c s₁ B hml hv
  obtain ⟨hargs, hsz, hP, hK, hN, hD0⟩ := hv
  have hx := B.exec
  have hb := B.bytes
  have hr := B.returns
  have hts := atoms_spec (ws := wsX1_init) B.pre
  have hown : s.vm.findClass RX1 = some m.cls := findClass_of_methodNamed B.named
  have hlocks := B.notSynchronized
  have hinit : meth.name = "<init>" := (name_of_methodNamed B.named B.method).1
  have hk0 := hts (.fieldLink RX1 9 "RimGrains$Pad" "signs" "[C") (by decide +kernel)
  have hk1 := hts (.fieldLink RX1 15 "RimGrains$Pad" "length" "I") (by decide +kernel)
  have hk2 := hts (.fieldLink RX1 19 "RimGrains$Pad" "next" "I") (by decide +kernel)
  have hk3 := hts (.fieldLink RX1 22 "RimGrains$Pad" "place" "I") (by decide +kernel)
  have hk4 := hts (.fieldLink RX1 25 "RimGrains$Pad" "letter" "C") (by decide +kernel)
  have hk5 := hts (.fieldLink RX1 29 "RimGrains$Pad" "number" "I") (by decide +kernel)
  have hin1 : ∀ w ∈ wsX10, w ∈ wsX1_init := by decide +kernel
  subst hsz
  have hD := hD0.self (sz := s.heap.size)
  generalize hAe : va_A ([(h0, .inr (1, [.null, .int 0, .int 0, .int 0, .int 0, .int 0]))] : va_W) s.heap.size = A at hD ⊢
  have hA : ∀ q : Nat, s.heap.size ≤ q → A q := fun q h => by rw [← hAe]; exact Or.inr h
  have hS : va_S A s.heap s.heap [] := va_S.rf
  have hE := lg_entry_eq m [.ref h0] 1
  rw [← hargs] at hE
  rw [hE]
  have hl := lv_entry [.ref h0] (n := 1) (Nat.le_of_ble_eq_true rfl)
  generalize (lg_sl [.ref h0] ++ List.replicate (1 - (lg_sl [.ref h0]).length) Slot.unset).toArray = ls at hl ⊢
  have hl : lv_has ls 1 [(0, .ref h0)] := hl
  have hP : va_P (dC, dI) vwCl ([(h0, .inr (1, [.null, .int 0, .int 0, .int 0, .int 0, .int 0]))] : va_W) s.heap := hP
  refine lv_aload_n hx hb dX1_init_0 rfl (lv_at hl 0 rfl) ?_
  refine W.objInit hx hb hown (hts (.methodLink RX1 3 objectInit) (by decide +kernel)) (hts (.instanceMethod objectInit) (by decide +kernel)) (hts (.code objectInit ⟨#[0xb1]⟩ 1 none) (by decide +kernel)) rfl (by rw [hml]; exact hl.1) rfl dX1_init_1 (Nat.le_of_ble_eq_true rfl) (Nat.le_of_ble_eq_true rfl) ?_
  refine W.eq (g2 := F0 m 4 ls []) rfl ?_
  refine lv_aload_n hx hb dX1_init_4 rfl (lv_at hl 0 rfl) ?_
  refine lv_bipush (v := 60) hx hb dX1_init_5 (by decide) ?_
  refine mnewa (atype := .char) (ty := .char) (w := ([(h0, .inr (1, [.null, .int 0, .int 0, .int 0, .int 0, .int 0]))] : va_W)) hx hb (hts (.arrayClass .char) (by decide +kernel)) rfl (by decide) hK 2 rfl hP hD hS hA (fun _ => rfl) (by decide) (N := 60) (by decide) (show 60 * 2 ≤ 536870912 from Nat.le_of_ble_eq_true rfl) (Nat.le_of_ble_eq_true rfl) (Nat.le_of_ble_eq_true rfl) dX1_init_7 (fun x1 H hP hD hS => ?_)
  have hP : va_P (dC, dI) vwCl ([(h0, .inr (1, [.null, .int 0, .int 0, .int 0, .int 0, .int 0]))] ++ [(x1, .inl (cC, 60, .inl (fun _ => 0)))] : va_W) H := hP
  have hD : va_D A ([(h0, .inr (1, [.null, .int 0, .int 0, .int 0, .int 0, .int 0]))] ++ [(x1, .inl (cC, 60, .inl (fun _ => 0)))] : va_W) := hD
  refine va_putF (D := (dC, dI)) (ci := 1) (v := .ref x1) (ty := (tyX1 0)) (C := RX1) (T := TX1) (N := 6) hx hb hts hin1 tyX1 tyX1_ok nmX1 hown hK hP hD hS 0 rfl rfl 0 (by decide) hk0 (fun _ h9 => h9) rfl hinit rfl (by decide +kernel) rfl rfl (Nat.le_of_ble_eq_true rfl) dX1_init_9 (fun H locs hP hD hS => ?_)
  have hP : va_P (dC, dI) vwCl ([(h0, .inr (1, [.ref x1, .int 0, .int 0, .int 0, .int 0, .int 0]))] ++ [(x1, .inl (cC, 60, .inl (fun _ => 0)))] : va_W) H := hP
  have hD : va_D A ([(h0, .inr (1, [.ref x1, .int 0, .int 0, .int 0, .int 0, .int 0]))] ++ [(x1, .inl (cC, 60, .inl (fun _ => 0)))] : va_W) := hD
  refine lv_aload_n hx hb dX1_init_12 rfl (lv_at hl 0 rfl) ?_
  refine lv_iconst (v := 0) hx hb dX1_init_13 (by decide) ?_
  refine va_put (D := (dC, dI)) (ci := 1) (v := .int 0) (ty := .int) (C := RX1) (T := TX1) (N := 6) hx hb hts hin1 tyX1 tyX1_ok nmX1 hown hK hP hD hS 0 rfl rfl 1 (by decide) hk1 (fun _ h9 => h9) rfl (by decide +kernel) rfl rfl (Nat.le_of_ble_eq_true rfl) dX1_init_14 (fun H locs hP hD hS => ?_)
  have hP : va_P (dC, dI) vwCl ([(h0, .inr (1, [.ref x1, .int 0, .int 0, .int 0, .int 0, .int 0]))] ++ [(x1, .inl (cC, 60, .inl (fun _ => 0)))] : va_W) H := hP
  have hD : va_D A ([(h0, .inr (1, [.ref x1, .int 0, .int 0, .int 0, .int 0, .int 0]))] ++ [(x1, .inl (cC, 60, .inl (fun _ => 0)))] : va_W) := hD
  refine lv_aload_n hx hb dX1_init_17 rfl (lv_at hl 0 rfl) ?_
  refine lv_iconst (v := 0) hx hb dX1_init_18 (by decide) ?_
  refine va_put (D := (dC, dI)) (ci := 1) (v := .int 0) (ty := .int) (C := RX1) (T := TX1) (N := 6) hx hb hts hin1 tyX1 tyX1_ok nmX1 hown hK hP hD hS 0 rfl rfl 2 (by decide) hk2 (fun _ h9 => h9) rfl (by decide +kernel) rfl rfl (Nat.le_of_ble_eq_true rfl) dX1_init_19 (fun H locs hP hD hS => ?_)
  have hP : va_P (dC, dI) vwCl ([(h0, .inr (1, [.ref x1, .int 0, .int 0, .int 0, .int 0, .int 0]))] ++ [(x1, .inl (cC, 60, .inl (fun _ => 0)))] : va_W) H := hP
  have hD : va_D A ([(h0, .inr (1, [.ref x1, .int 0, .int 0, .int 0, .int 0, .int 0]))] ++ [(x1, .inl (cC, 60, .inl (fun _ => 0)))] : va_W) := hD
  refine lv_aload_n hx hb dX1_init_22 rfl (lv_at hl 0 rfl) ?_
  refine lv_iconst (v := 0) hx hb dX1_init_23 (by decide) ?_
  refine va_put (D := (dC, dI)) (ci := 1) (v := .int 0) (ty := .int) (C := RX1) (T := TX1) (N := 6) hx hb hts hin1 tyX1 tyX1_ok nmX1 hown hK hP hD hS 0 rfl rfl 3 (by decide) hk3 (fun _ h9 => h9) rfl (by decide +kernel) rfl rfl (Nat.le_of_ble_eq_true rfl) dX1_init_24 (fun H locs hP hD hS => ?_)
  have hP : va_P (dC, dI) vwCl ([(h0, .inr (1, [.ref x1, .int 0, .int 0, .int 0, .int 0, .int 0]))] ++ [(x1, .inl (cC, 60, .inl (fun _ => 0)))] : va_W) H := hP
  have hD : va_D A ([(h0, .inr (1, [.ref x1, .int 0, .int 0, .int 0, .int 0, .int 0]))] ++ [(x1, .inl (cC, 60, .inl (fun _ => 0)))] : va_W) := hD
  refine lv_aload_n hx hb dX1_init_27 rfl (lv_at hl 0 rfl) ?_
  refine lv_bipush (v := 32) hx hb dX1_init_28 (by decide) ?_
  refine va_put (D := (dC, dI)) (ci := 1) (v := .int 32) (ty := .char) (C := RX1) (T := TX1) (N := 6) hx hb hts hin1 tyX1 tyX1_ok nmX1 hown hK hP hD hS 0 rfl rfl 4 (by decide) hk4 (fun _ h9 => h9) rfl (by decide +kernel) rfl rfl (Nat.le_of_ble_eq_true rfl) dX1_init_30 (fun H locs hP hD hS => ?_)
  have hP : va_P (dC, dI) vwCl ([(h0, .inr (1, [.ref x1, .int 0, .int 0, .int 0, .int 32, .int 0]))] ++ [(x1, .inl (cC, 60, .inl (fun _ => 0)))] : va_W) H := hP
  have hD : va_D A ([(h0, .inr (1, [.ref x1, .int 0, .int 0, .int 0, .int 32, .int 0]))] ++ [(x1, .inl (cC, 60, .inl (fun _ => 0)))] : va_W) := hD
  refine lv_aload_n hx hb dX1_init_33 rfl (lv_at hl 0 rfl) ?_
  refine lv_iconst (v := (-1)) hx hb dX1_init_34 (by decide) ?_
  refine va_put (D := (dC, dI)) (ci := 1) (v := .int (-1)) (ty := .int) (C := RX1) (T := TX1) (N := 6) hx hb hts hin1 tyX1 tyX1_ok nmX1 hown hK hP hD hS 0 rfl rfl 5 (by decide) hk5 (fun _ h9 => h9) rfl (by decide +kernel) rfl rfl (Nat.le_of_ble_eq_true rfl) dX1_init_35 (fun H locs hP hD hS => ?_)
  have hP : va_P (dC, dI) vwCl ([(h0, .inr (1, [.ref x1, .int 0, .int 0, .int 0, .int 32, .int (-1)]))] ++ [(x1, .inl (cC, 60, .inl (fun _ => 0)))] : va_W) H := hP
  have hD : va_D A ([(h0, .inr (1, [.ref x1, .int 0, .int 0, .int 0, .int 32, .int (-1)]))] ++ [(x1, .inl (cC, 60, .inl (fun _ => 0)))] : va_W) := hD
  have hP := hP.sub (ws' := wX1 cI cZ cC (fun k => [h0, x1].getD k 0) S0X1) [0, 1] rfl
  have hD := hD.sub (ws' := wX1 cI cZ cC (fun k => [h0, x1].getD k 0) S0X1) [0, 1] (by decide) rfl
  exact W.vret hx hb hr (fun t ht hW => ⟨⟨(fun k => [h0, x1].getD k 0), rfl, rfl, by rw [ht]; exact hP, hD⟩, hS.F ht⟩) hS.2.2 dX1_init_38

theorem dfX3 : ∀ j, j < 3 → defaultValue (tyX3 j) = vp_V [.null, .int 0, .int 0] j := fun j hj => by
  match j, hj with
  | 0, _ => rfl
  | 1, _ => rfl
  | 2, _ => rfl
set_option maxHeartbeats 4000000 in
set_option maxRecDepth 100000 in
theorem mX3_init (l : Launch) (dC : Nat → ClassId) (dI : Nat → Nat → Nat) (cI cZ cC cO : ClassId) (h0 : Nat) (sz : Nat) : Met l yX3_init wsX3_init rmX3_init (va_Pc [.ref h0] (pcW (dC, dI) (wTys cI cZ cC cO) sz ([(h0, .inr (2, [.null, .int 0, .int 0]))] : va_W))) (va_Qv (fun u : Nat → Nat => u 0 = h0) (fun u => poW (dC, dI) (va_A ([(h0, .inr (2, [.null, .int 0, .int 0]))] : va_W) sz) (wX3 cI cZ cC u S0X3)) (va_A ([(h0, .inr (2, [.null, .int 0, .int 0]))] : va_W) sz)) 1 121 (va_A ([(h0, .inr (2, [.null, .int 0, .int 0]))] : va_W) sz) := by
  refine Met.ofW (cc := cX3_init) (maxL := 1) (ret := none) (by decide) rfl ?_
  intro p e s m args below meth c s₁ B hml hv
  obtain ⟨hargs, hsz, hP, hK, hN, hD0⟩ := hv
  have hx := B.exec
  have hb := B.bytes
  have hr := B.returns
  have hts := atoms_spec (ws := wsX3_init) B.pre
  have hown : s.vm.findClass RX3 = some m.cls := findClass_of_methodNamed B.named
  have hlocks := B.notSynchronized
  have hinit : meth.name = "<init>" := (name_of_methodNamed B.named B.method).1
  have hk0 := hts (.fieldLink RX3 9 "RimGrains$Screens" "catches" "[I") (by decide +kernel)
  have hk1 := hts (.fieldLink RX3 15 "RimGrains$Screens" "grains" "I") (by decide +kernel)
  have hk2 := hts (.fieldLink RX3 19 "RimGrains$Screens" "open" "I") (by decide +kernel)
  have hin3 : ∀ w ∈ wsX30, w ∈ wsX3_init := by decide +kernel
  subst hsz
  have hD := hD0.self (sz := s.heap.size)
  generalize hAe : va_A ([(h0, .inr (2, [.null, .int 0, .int 0]))] : va_W) s.heap.size = A at hD ⊢
  have hA : ∀ q : Nat, s.heap.size ≤ q → A q := fun q h => by rw [← hAe]; exact Or.inr h
  have hS : va_S A s.heap s.heap [] := va_S.rf
  have hE := lg_entry_eq m [.ref h0] 1
  rw [← hargs] at hE
  rw [hE]
  have hl := lv_entry [.ref h0] (n := 1) (Nat.le_of_ble_eq_true rfl)
  generalize (lg_sl [.ref h0] ++ List.replicate (1 - (lg_sl [.ref h0]).length) Slot.unset).toArray = ls at hl ⊢
  have hl : lv_has ls 1 [(0, .ref h0)] := hl
  have hP : va_P (dC, dI) vwCl ([(h0, .inr (2, [.null, .int 0, .int 0]))] : va_W) s.heap := hP
  refine lv_aload_n hx hb dX3_init_0 rfl (lv_at hl 0 rfl) ?_
  refine W.objInit hx hb hown (hts (.methodLink RX3 3 objectInit) (by decide +kernel)) (hts (.instanceMethod objectInit) (by decide +kernel)) (hts (.code objectInit ⟨#[0xb1]⟩ 1 none) (by decide +kernel)) rfl (by rw [hml]; exact hl.1) rfl dX3_init_1 (Nat.le_of_ble_eq_true rfl) (Nat.le_of_ble_eq_true rfl) ?_
  refine W.eq (g2 := F0 m 4 ls []) rfl ?_
  refine lv_aload_n hx hb dX3_init_4 rfl (lv_at hl 0 rfl) ?_
  refine lv_bipush (v := 121) hx hb dX3_init_5 (by decide) ?_
  refine mnewa (atype := .int) (ty := .int) (w := ([(h0, .inr (2, [.null, .int 0, .int 0]))] : va_W)) hx hb (hts (.arrayClass .int) (by decide +kernel)) rfl (by decide) hK 0 rfl hP hD hS hA (fun _ => rfl) (by decide) (N := 121) (by decide) (show 121 * 4 ≤ 536870912 from Nat.le_of_ble_eq_true rfl) (Nat.le_of_ble_eq_true rfl) (Nat.le_of_ble_eq_true rfl) dX3_init_7 (fun x1 H hP hD hS => ?_)
  have hP : va_P (dC, dI) vwCl ([(h0, .inr (2, [.null, .int 0, .int 0]))] ++ [(x1, .inl (cI, 121, .inl (fun _ => 0)))] : va_W) H := hP
  have hD : va_D A ([(h0, .inr (2, [.null, .int 0, .int 0]))] ++ [(x1, .inl (cI, 121, .inl (fun _ => 0)))] : va_W) := hD
  refine va_putF (D := (dC, dI)) (ci := 2) (v := .ref x1) (ty := (tyX3 0)) (C := RX3) (T := TX3) (N := 3) hx hb hts hin3 tyX3 tyX3_ok nmX3 hown hK hP hD hS 0 rfl rfl 0 (by decide) hk0 (fun _ h9 => h9) rfl hinit rfl (by decide +kernel) rfl rfl (Nat.le_of_ble_eq_true rfl) dX3_init_9 (fun H locs hP hD hS => ?_)
  have hP : va_P (dC, dI) vwCl ([(h0, .inr (2, [.ref x1, .int 0, .int 0]))] ++ [(x1, .inl (cI, 121, .inl (fun _ => 0)))] : va_W) H := hP
  have hD : va_D A ([(h0, .inr (2, [.ref x1, .int 0, .int 0]))] ++ [(x1, .inl (cI, 121, .inl (fun _ => 0)))] : va_W) := hD
  refine lv_aload_n hx hb dX3_init_12 rfl (lv_at hl 0 rfl) ?_
  refine lv_iconst (v := 0) hx hb dX3_init_13 (by decide) ?_
  refine va_put (D := (dC, dI)) (ci := 2) (v := .int 0) (ty := .int) (C := RX3) (T := TX3) (N := 3) hx hb hts hin3 tyX3 tyX3_ok nmX3 hown hK hP hD hS 0 rfl rfl 1 (by decide) hk1 (fun _ h9 => h9) rfl (by decide +kernel) rfl rfl (Nat.le_of_ble_eq_true rfl) dX3_init_14 (fun H locs hP hD hS => ?_)
  have hP : va_P (dC, dI) vwCl ([(h0, .inr (2, [.ref x1, .int 0, .int 0]))] ++ [(x1, .inl (cI, 121, .inl (fun _ => 0)))] : va_W) H := hP
  have hD : va_D A ([(h0, .inr (2, [.ref x1, .int 0, .int 0]))] ++ [(x1, .inl (cI, 121, .inl (fun _ => 0)))] : va_W) := hD
  refine lv_aload_n hx hb dX3_init_17 rfl (lv_at hl 0 rfl) ?_
  refine lv_iconst (v := 0) hx hb dX3_init_18 (by decide) ?_
  refine va_put (D := (dC, dI)) (ci := 2) (v := .int 0) (ty := .int) (C := RX3) (T := TX3) (N := 3) hx hb hts hin3 tyX3 tyX3_ok nmX3 hown hK hP hD hS 0 rfl rfl 2 (by decide) hk2 (fun _ h9 => h9) rfl (by decide +kernel) rfl rfl (Nat.le_of_ble_eq_true rfl) dX3_init_19 (fun H locs hP hD hS => ?_)
  have hP : va_P (dC, dI) vwCl ([(h0, .inr (2, [.ref x1, .int 0, .int 0]))] ++ [(x1, .inl (cI, 121, .inl (fun _ => 0)))] : va_W) H := hP
  have hD : va_D A ([(h0, .inr (2, [.ref x1, .int 0, .int 0]))] ++ [(x1, .inl (cI, 121, .inl (fun _ => 0)))] : va_W) := hD
  have hP := hP.sub (ws' := wX3 cI cZ cC (fun k => [h0, x1].getD k 0) S0X3) [0, 1] rfl
  have hD := hD.sub (ws' := wX3 cI cZ cC (fun k => [h0, x1].getD k 0) S0X3) [0, 1] (by decide) rfl
  exact W.vret hx hb hr (fun t ht hW => ⟨⟨(fun k => [h0, x1].getD k 0), rfl, rfl, by rw [ht]; exact hP, hD⟩, hS.F ht⟩) hS.2.2 dX3_init_22

theorem dfX4 : ∀ j, j < 11 → defaultValue (tyX4 j) = vp_V [.null, .null, .null, .null, .null, .int 0, .int 0, .int 0, .int 0, .int 0, .int 0] j := fun j hj => by
  match j, hj with
  | 0, _ => rfl
  | 1, _ => rfl
  | 2, _ => rfl
  | 3, _ => rfl
  | 4, _ => rfl
  | 5, _ => rfl
  | 6, _ => rfl
  | 7, _ => rfl
  | 8, _ => rfl
  | 9, _ => rfl
  | 10, _ => rfl
set_option maxHeartbeats 4000000 in
set_option maxRecDepth 100000 in
theorem mX4_init (l : Launch) (dC : Nat → ClassId) (dI : Nat → Nat → Nat) (cI cZ cC cO : ClassId) (h0 : Nat) (sz : Nat) : Met l yX4_init wsX4_init rmX4_init (va_Pc [.ref h0] (pcW (dC, dI) (wTys cI cZ cC cO) sz ([(h0, .inr (3, [.null, .null, .null, .null, .null, .int 0, .int 0, .int 0, .int 0, .int 0, .int 0]))] : va_W))) (va_Qv (fun u : Nat → Nat => u 0 = h0) (fun u => poW (dC, dI) (va_A ([(h0, .inr (3, [.null, .null, .null, .null, .null, .int 0, .int 0, .int 0, .int 0, .int 0, .int 0]))] : va_W) sz) (wX4 cI cZ cC u S0X4)) (va_A ([(h0, .inr (3, [.null, .null, .null, .null, .null, .int 0, .int 0, .int 0, .int 0, .int 0, .int 0]))] : va_W) sz)) 5 488 (va_A ([(h0, .inr (3, [.null, .null, .null, .null, .null, .int 0, .int 0, .int 0, .int 0, .int 0, .int 0]))] : va_W) sz) := by
  refine Met.ofW (cc := cX4_init) (maxL := 1) (ret := none) (by decide) rfl ?_
  intro p e s m args below meth c s₁ B hml hv
  obtain ⟨hargs, hsz, hP, hK, hN, hD0⟩ := hv
  have hx := B.exec
  have hb := B.bytes
  have hr := B.returns
  have hts := atoms_spec (ws := wsX4_init) B.pre
  have hown : s.vm.findClass RX4 = some m.cls := findClass_of_methodNamed B.named
  have hlocks := B.notSynchronized
  have hinit : meth.name = "<init>" := (name_of_methodNamed B.named B.method).1
  have hk0 := hts (.fieldLink RX4 9 "RimGrains$State" "cells" "[I") (by decide +kernel)
  have hk1 := hts (.fieldLink RX4 15 "RimGrains$State" "holders" "[I") (by decide +kernel)
  have hk2 := hts (.fieldLink RX4 18 "RimGrains$State" "steps" "[I") (by decide +kernel)
  have hk3 := hts (.fieldLink RX4 21 "RimGrains$State" "grainsByCell" "[I") (by decide +kernel)
  have hk4 := hts (.fieldLink RX4 24 "RimGrains$State" "settings" "[I") (by decide +kernel)
  have hk5 := hts (.fieldLink RX4 27 "RimGrains$State" "grains" "I") (by decide +kernel)
  have hk6 := hts (.fieldLink RX4 31 "RimGrains$State" "lot" "I") (by decide +kernel)
  have hk7 := hts (.fieldLink RX4 34 "RimGrains$State" "released" "I") (by decide +kernel)
  have hk8 := hts (.fieldLink RX4 37 "RimGrains$State" "lost" "I") (by decide +kernel)
  have hk9 := hts (.fieldLink RX4 40 "RimGrains$State" "gone" "I") (by decide +kernel)
  have hk10 := hts (.fieldLink RX4 43 "RimGrains$State" "walked" "I") (by decide +kernel)
  have hin4 : ∀ w ∈ wsX40, w ∈ wsX4_init := by decide +kernel
  subst hsz
  have hD := hD0.self (sz := s.heap.size)
  generalize hAe : va_A ([(h0, .inr (3, [.null, .null, .null, .null, .null, .int 0, .int 0, .int 0, .int 0, .int 0, .int 0]))] : va_W) s.heap.size = A at hD ⊢
  have hA : ∀ q : Nat, s.heap.size ≤ q → A q := fun q h => by rw [← hAe]; exact Or.inr h
  have hS : va_S A s.heap s.heap [] := va_S.rf
  have hE := lg_entry_eq m [.ref h0] 1
  rw [← hargs] at hE
  rw [hE]
  have hl := lv_entry [.ref h0] (n := 1) (Nat.le_of_ble_eq_true rfl)
  generalize (lg_sl [.ref h0] ++ List.replicate (1 - (lg_sl [.ref h0]).length) Slot.unset).toArray = ls at hl ⊢
  have hl : lv_has ls 1 [(0, .ref h0)] := hl
  have hP : va_P (dC, dI) vwCl ([(h0, .inr (3, [.null, .null, .null, .null, .null, .int 0, .int 0, .int 0, .int 0, .int 0, .int 0]))] : va_W) s.heap := hP
  refine lv_aload_n hx hb dX4_init_0 rfl (lv_at hl 0 rfl) ?_
  refine W.objInit hx hb hown (hts (.methodLink RX4 3 objectInit) (by decide +kernel)) (hts (.instanceMethod objectInit) (by decide +kernel)) (hts (.code objectInit ⟨#[0xb1]⟩ 1 none) (by decide +kernel)) rfl (by rw [hml]; exact hl.1) rfl dX4_init_1 (Nat.le_of_ble_eq_true rfl) (Nat.le_of_ble_eq_true rfl) ?_
  refine W.eq (g2 := F0 m 4 ls []) rfl ?_
  refine lv_aload_n hx hb dX4_init_4 rfl (lv_at hl 0 rfl) ?_
  refine lv_bipush (v := 121) hx hb dX4_init_5 (by decide) ?_
  refine mnewa (atype := .int) (ty := .int) (w := ([(h0, .inr (3, [.null, .null, .null, .null, .null, .int 0, .int 0, .int 0, .int 0, .int 0, .int 0]))] : va_W)) hx hb (hts (.arrayClass .int) (by decide +kernel)) rfl (by decide) hK 0 rfl hP hD hS hA (fun _ => rfl) (by decide) (N := 121) (by decide) (show 121 * 4 ≤ 536870912 from Nat.le_of_ble_eq_true rfl) (Nat.le_of_ble_eq_true rfl) (Nat.le_of_ble_eq_true rfl) dX4_init_7 (fun x1 H hP hD hS => ?_)
  have hP : va_P (dC, dI) vwCl ([(h0, .inr (3, [.null, .null, .null, .null, .null, .int 0, .int 0, .int 0, .int 0, .int 0, .int 0]))] ++ [(x1, .inl (cI, 121, .inl (fun _ => 0)))] : va_W) H := hP
  have hD : va_D A ([(h0, .inr (3, [.null, .null, .null, .null, .null, .int 0, .int 0, .int 0, .int 0, .int 0, .int 0]))] ++ [(x1, .inl (cI, 121, .inl (fun _ => 0)))] : va_W) := hD
  refine va_putF (D := (dC, dI)) (ci := 3) (v := .ref x1) (ty := (tyX4 0)) (C := RX4) (T := TX4) (N := 11) hx hb hts hin4 tyX4 tyX4_ok nmX4 hown hK hP hD hS 0 rfl rfl 0 (by decide) hk0 (fun _ h9 => h9) rfl hinit rfl (by decide +kernel) rfl rfl (Nat.le_of_ble_eq_true rfl) dX4_init_9 (fun H locs hP hD hS => ?_)
  have hP : va_P (dC, dI) vwCl ([(h0, .inr (3, [.ref x1, .null, .null, .null, .null, .int 0, .int 0, .int 0, .int 0, .int 0, .int 0]))] ++ [(x1, .inl (cI, 121, .inl (fun _ => 0)))] : va_W) H := hP
  have hD : va_D A ([(h0, .inr (3, [.ref x1, .null, .null, .null, .null, .int 0, .int 0, .int 0, .int 0, .int 0, .int 0]))] ++ [(x1, .inl (cI, 121, .inl (fun _ => 0)))] : va_W) := hD
  refine lv_aload_n hx hb dX4_init_12 rfl (lv_at hl 0 rfl) ?_
  refine lv_bipush (v := 121) hx hb dX4_init_13 (by decide) ?_
  refine mnewa (atype := .int) (ty := .int) (w := ([(h0, .inr (3, [.ref x1, .null, .null, .null, .null, .int 0, .int 0, .int 0, .int 0, .int 0, .int 0]))] ++ [(x1, .inl (cI, 121, .inl (fun _ => 0)))] : va_W)) hx hb (hts (.arrayClass .int) (by decide +kernel)) rfl (by decide) hK 0 rfl hP hD hS hA (fun _ => rfl) (by decide) (N := 121) (by decide) (show 121 * 4 ≤ 536870912 from Nat.le_of_ble_eq_true rfl) (Nat.le_of_ble_eq_true rfl) (Nat.le_of_ble_eq_true rfl) dX4_init_15 (fun x2 H hP hD hS => ?_)
  have hP : va_P (dC, dI) vwCl ([(h0, .inr (3, [.ref x1, .null, .null, .null, .null, .int 0, .int 0, .int 0, .int 0, .int 0, .int 0]))] ++ [(x1, .inl (cI, 121, .inl (fun _ => 0)))] ++ [(x2, .inl (cI, 121, .inl (fun _ => 0)))] : va_W) H := hP
  have hD : va_D A ([(h0, .inr (3, [.ref x1, .null, .null, .null, .null, .int 0, .int 0, .int 0, .int 0, .int 0, .int 0]))] ++ [(x1, .inl (cI, 121, .inl (fun _ => 0)))] ++ [(x2, .inl (cI, 121, .inl (fun _ => 0)))] : va_W) := hD
  refine va_putF (D := (dC, dI)) (ci := 3) (v := .ref x2) (ty := (tyX4 1)) (C := RX4) (T := TX4) (N := 11) hx hb hts hin4 tyX4 tyX4_ok nmX4 hown hK hP hD hS 0 rfl rfl 1 (by decide) hk1 (fun _ h9 => h9) rfl hinit rfl (by decide +kernel) rfl rfl (Nat.le_of_ble_eq_true rfl) dX4_init_17 (fun H locs hP hD hS => ?_)
  have hP : va_P (dC, dI) vwCl ([(h0, .inr (3, [.ref x1, .ref x2, .null, .null, .null, .int 0, .int 0, .int 0, .int 0, .int 0, .int 0]))] ++ [(x1, .inl (cI, 121, .inl (fun _ => 0)))] ++ [(x2, .inl (cI, 121, .inl (fun _ => 0)))] : va_W) H := hP
  have hD : va_D A ([(h0, .inr (3, [.ref x1, .ref x2, .null, .null, .null, .int 0, .int 0, .int 0, .int 0, .int 0, .int 0]))] ++ [(x1, .inl (cI, 121, .inl (fun _ => 0)))] ++ [(x2, .inl (cI, 121, .inl (fun _ => 0)))] : va_W) := hD
  refine lv_aload_n hx hb dX4_init_20 rfl (lv_at hl 0 rfl) ?_
  refine lv_bipush (v := 121) hx hb dX4_init_21 (by decide) ?_
  refine mnewa (atype := .int) (ty := .int) (w := ([(h0, .inr (3, [.ref x1, .ref x2, .null, .null, .null, .int 0, .int 0, .int 0, .int 0, .int 0, .int 0]))] ++ [(x1, .inl (cI, 121, .inl (fun _ => 0)))] ++ [(x2, .inl (cI, 121, .inl (fun _ => 0)))] : va_W)) hx hb (hts (.arrayClass .int) (by decide +kernel)) rfl (by decide) hK 0 rfl hP hD hS hA (fun _ => rfl) (by decide) (N := 121) (by decide) (show 121 * 4 ≤ 536870912 from Nat.le_of_ble_eq_true rfl) (Nat.le_of_ble_eq_true rfl) (Nat.le_of_ble_eq_true rfl) dX4_init_23 (fun x3 H hP hD hS => ?_)
  have hP : va_P (dC, dI) vwCl ([(h0, .inr (3, [.ref x1, .ref x2, .null, .null, .null, .int 0, .int 0, .int 0, .int 0, .int 0, .int 0]))] ++ [(x1, .inl (cI, 121, .inl (fun _ => 0)))] ++ [(x2, .inl (cI, 121, .inl (fun _ => 0)))] ++ [(x3, .inl (cI, 121, .inl (fun _ => 0)))] : va_W) H := hP
  have hD : va_D A ([(h0, .inr (3, [.ref x1, .ref x2, .null, .null, .null, .int 0, .int 0, .int 0, .int 0, .int 0, .int 0]))] ++ [(x1, .inl (cI, 121, .inl (fun _ => 0)))] ++ [(x2, .inl (cI, 121, .inl (fun _ => 0)))] ++ [(x3, .inl (cI, 121, .inl (fun _ => 0)))] : va_W) := hD
  refine va_putF (D := (dC, dI)) (ci := 3) (v := .ref x3) (ty := (tyX4 2)) (C := RX4) (T := TX4) (N := 11) hx hb hts hin4 tyX4 tyX4_ok nmX4 hown hK hP hD hS 0 rfl rfl 2 (by decide) hk2 (fun _ h9 => h9) rfl hinit rfl (by decide +kernel) rfl rfl (Nat.le_of_ble_eq_true rfl) dX4_init_25 (fun H locs hP hD hS => ?_)
  have hP : va_P (dC, dI) vwCl ([(h0, .inr (3, [.ref x1, .ref x2, .ref x3, .null, .null, .int 0, .int 0, .int 0, .int 0, .int 0, .int 0]))] ++ [(x1, .inl (cI, 121, .inl (fun _ => 0)))] ++ [(x2, .inl (cI, 121, .inl (fun _ => 0)))] ++ [(x3, .inl (cI, 121, .inl (fun _ => 0)))] : va_W) H := hP
  have hD : va_D A ([(h0, .inr (3, [.ref x1, .ref x2, .ref x3, .null, .null, .int 0, .int 0, .int 0, .int 0, .int 0, .int 0]))] ++ [(x1, .inl (cI, 121, .inl (fun _ => 0)))] ++ [(x2, .inl (cI, 121, .inl (fun _ => 0)))] ++ [(x3, .inl (cI, 121, .inl (fun _ => 0)))] : va_W) := hD
  refine lv_aload_n hx hb dX4_init_28 rfl (lv_at hl 0 rfl) ?_
  refine lv_bipush (v := 121) hx hb dX4_init_29 (by decide) ?_
  refine mnewa (atype := .int) (ty := .int) (w := ([(h0, .inr (3, [.ref x1, .ref x2, .ref x3, .null, .null, .int 0, .int 0, .int 0, .int 0, .int 0, .int 0]))] ++ [(x1, .inl (cI, 121, .inl (fun _ => 0)))] ++ [(x2, .inl (cI, 121, .inl (fun _ => 0)))] ++ [(x3, .inl (cI, 121, .inl (fun _ => 0)))] : va_W)) hx hb (hts (.arrayClass .int) (by decide +kernel)) rfl (by decide) hK 0 rfl hP hD hS hA (fun _ => rfl) (by decide) (N := 121) (by decide) (show 121 * 4 ≤ 536870912 from Nat.le_of_ble_eq_true rfl) (Nat.le_of_ble_eq_true rfl) (Nat.le_of_ble_eq_true rfl) dX4_init_31 (fun x4 H hP hD hS => ?_)
  have hP : va_P (dC, dI) vwCl ([(h0, .inr (3, [.ref x1, .ref x2, .ref x3, .null, .null, .int 0, .int 0, .int 0, .int 0, .int 0, .int 0]))] ++ [(x1, .inl (cI, 121, .inl (fun _ => 0)))] ++ [(x2, .inl (cI, 121, .inl (fun _ => 0)))] ++ [(x3, .inl (cI, 121, .inl (fun _ => 0)))] ++ [(x4, .inl (cI, 121, .inl (fun _ => 0)))] : va_W) H := hP
  have hD : va_D A ([(h0, .inr (3, [.ref x1, .ref x2, .ref x3, .null, .null, .int 0, .int 0, .int 0, .int 0, .int 0, .int 0]))] ++ [(x1, .inl (cI, 121, .inl (fun _ => 0)))] ++ [(x2, .inl (cI, 121, .inl (fun _ => 0)))] ++ [(x3, .inl (cI, 121, .inl (fun _ => 0)))] ++ [(x4, .inl (cI, 121, .inl (fun _ => 0)))] : va_W) := hD
  refine va_putF (D := (dC, dI)) (ci := 3) (v := .ref x4) (ty := (tyX4 3)) (C := RX4) (T := TX4) (N := 11) hx hb hts hin4 tyX4 tyX4_ok nmX4 hown hK hP hD hS 0 rfl rfl 3 (by decide) hk3 (fun _ h9 => h9) rfl hinit rfl (by decide +kernel) rfl rfl (Nat.le_of_ble_eq_true rfl) dX4_init_33 (fun H locs hP hD hS => ?_)
  have hP : va_P (dC, dI) vwCl ([(h0, .inr (3, [.ref x1, .ref x2, .ref x3, .ref x4, .null, .int 0, .int 0, .int 0, .int 0, .int 0, .int 0]))] ++ [(x1, .inl (cI, 121, .inl (fun _ => 0)))] ++ [(x2, .inl (cI, 121, .inl (fun _ => 0)))] ++ [(x3, .inl (cI, 121, .inl (fun _ => 0)))] ++ [(x4, .inl (cI, 121, .inl (fun _ => 0)))] : va_W) H := hP
  have hD : va_D A ([(h0, .inr (3, [.ref x1, .ref x2, .ref x3, .ref x4, .null, .int 0, .int 0, .int 0, .int 0, .int 0, .int 0]))] ++ [(x1, .inl (cI, 121, .inl (fun _ => 0)))] ++ [(x2, .inl (cI, 121, .inl (fun _ => 0)))] ++ [(x3, .inl (cI, 121, .inl (fun _ => 0)))] ++ [(x4, .inl (cI, 121, .inl (fun _ => 0)))] : va_W) := hD
  refine lv_aload_n hx hb dX4_init_36 rfl (lv_at hl 0 rfl) ?_
  refine lv_iconst (v := 4) hx hb dX4_init_37 (by decide) ?_
  refine mnewa (atype := .int) (ty := .int) (w := ([(h0, .inr (3, [.ref x1, .ref x2, .ref x3, .ref x4, .null, .int 0, .int 0, .int 0, .int 0, .int 0, .int 0]))] ++ [(x1, .inl (cI, 121, .inl (fun _ => 0)))] ++ [(x2, .inl (cI, 121, .inl (fun _ => 0)))] ++ [(x3, .inl (cI, 121, .inl (fun _ => 0)))] ++ [(x4, .inl (cI, 121, .inl (fun _ => 0)))] : va_W)) hx hb (hts (.arrayClass .int) (by decide +kernel)) rfl (by decide) hK 0 rfl hP hD hS hA (fun _ => rfl) (by decide) (N := 4) (by decide) (show 4 * 4 ≤ 536870912 from Nat.le_of_ble_eq_true rfl) (Nat.le_of_ble_eq_true rfl) (Nat.le_of_ble_eq_true rfl) dX4_init_38 (fun x5 H hP hD hS => ?_)
  have hP : va_P (dC, dI) vwCl ([(h0, .inr (3, [.ref x1, .ref x2, .ref x3, .ref x4, .null, .int 0, .int 0, .int 0, .int 0, .int 0, .int 0]))] ++ [(x1, .inl (cI, 121, .inl (fun _ => 0)))] ++ [(x2, .inl (cI, 121, .inl (fun _ => 0)))] ++ [(x3, .inl (cI, 121, .inl (fun _ => 0)))] ++ [(x4, .inl (cI, 121, .inl (fun _ => 0)))] ++ [(x5, .inl (cI, 4, .inl (fun _ => 0)))] : va_W) H := hP
  have hD : va_D A ([(h0, .inr (3, [.ref x1, .ref x2, .ref x3, .ref x4, .null, .int 0, .int 0, .int 0, .int 0, .int 0, .int 0]))] ++ [(x1, .inl (cI, 121, .inl (fun _ => 0)))] ++ [(x2, .inl (cI, 121, .inl (fun _ => 0)))] ++ [(x3, .inl (cI, 121, .inl (fun _ => 0)))] ++ [(x4, .inl (cI, 121, .inl (fun _ => 0)))] ++ [(x5, .inl (cI, 4, .inl (fun _ => 0)))] : va_W) := hD
  refine lv_dup hx hb dX4_init_40 rfl ?_
  refine lv_iconst (v := 0) hx hb dX4_init_41 (by decide) ?_
  refine lv_iconst (v := 4) hx hb dX4_init_42 (by decide) ?_
  refine va_iast hx hb hK hP hD hS 5 0 rfl rfl (by unfold vp_in; decide) dX4_init_43 (fun H locs hP hD hS => ?_)
  have hP : va_P (dC, dI) vwCl ([(h0, .inr (3, [.ref x1, .ref x2, .ref x3, .ref x4, .null, .int 0, .int 0, .int 0, .int 0, .int 0, .int 0]))] ++ [(x1, .inl (cI, 121, .inl (fun _ => 0)))] ++ [(x2, .inl (cI, 121, .inl (fun _ => 0)))] ++ [(x3, .inl (cI, 121, .inl (fun _ => 0)))] ++ [(x4, .inl (cI, 121, .inl (fun _ => 0)))] ++ [(x5, .inl (cI, 4, .inl (upd (fun _ => 0) (0 : Int32).toNatClampNeg 4)))] : va_W) H := hP
  have hD : va_D A ([(h0, .inr (3, [.ref x1, .ref x2, .ref x3, .ref x4, .null, .int 0, .int 0, .int 0, .int 0, .int 0, .int 0]))] ++ [(x1, .inl (cI, 121, .inl (fun _ => 0)))] ++ [(x2, .inl (cI, 121, .inl (fun _ => 0)))] ++ [(x3, .inl (cI, 121, .inl (fun _ => 0)))] ++ [(x4, .inl (cI, 121, .inl (fun _ => 0)))] ++ [(x5, .inl (cI, 4, .inl (upd (fun _ => 0) (0 : Int32).toNatClampNeg 4)))] : va_W) := hD
  refine lv_dup hx hb dX4_init_44 rfl ?_
  refine lv_iconst (v := 1) hx hb dX4_init_45 (by decide) ?_
  refine lv_bipush (v := 60) hx hb dX4_init_46 (by decide) ?_
  refine va_iast hx hb hK hP hD hS 5 0 rfl rfl (by unfold vp_in; decide) dX4_init_48 (fun H locs hP hD hS => ?_)
  have hP : va_P (dC, dI) vwCl ([(h0, .inr (3, [.ref x1, .ref x2, .ref x3, .ref x4, .null, .int 0, .int 0, .int 0, .int 0, .int 0, .int 0]))] ++ [(x1, .inl (cI, 121, .inl (fun _ => 0)))] ++ [(x2, .inl (cI, 121, .inl (fun _ => 0)))] ++ [(x3, .inl (cI, 121, .inl (fun _ => 0)))] ++ [(x4, .inl (cI, 121, .inl (fun _ => 0)))] ++ [(x5, .inl (cI, 4, .inl (upd (upd (fun _ => 0) (0 : Int32).toNatClampNeg 4) (1 : Int32).toNatClampNeg 60)))] : va_W) H := hP
  have hD : va_D A ([(h0, .inr (3, [.ref x1, .ref x2, .ref x3, .ref x4, .null, .int 0, .int 0, .int 0, .int 0, .int 0, .int 0]))] ++ [(x1, .inl (cI, 121, .inl (fun _ => 0)))] ++ [(x2, .inl (cI, 121, .inl (fun _ => 0)))] ++ [(x3, .inl (cI, 121, .inl (fun _ => 0)))] ++ [(x4, .inl (cI, 121, .inl (fun _ => 0)))] ++ [(x5, .inl (cI, 4, .inl (upd (upd (fun _ => 0) (0 : Int32).toNatClampNeg 4) (1 : Int32).toNatClampNeg 60)))] : va_W) := hD
  refine lv_dup hx hb dX4_init_49 rfl ?_
  refine lv_iconst (v := 2) hx hb dX4_init_50 (by decide) ?_
  refine lv_iconst (v := 0) hx hb dX4_init_51 (by decide) ?_
  refine va_iast hx hb hK hP hD hS 5 0 rfl rfl (by unfold vp_in; decide) dX4_init_52 (fun H locs hP hD hS => ?_)
  have hP : va_P (dC, dI) vwCl ([(h0, .inr (3, [.ref x1, .ref x2, .ref x3, .ref x4, .null, .int 0, .int 0, .int 0, .int 0, .int 0, .int 0]))] ++ [(x1, .inl (cI, 121, .inl (fun _ => 0)))] ++ [(x2, .inl (cI, 121, .inl (fun _ => 0)))] ++ [(x3, .inl (cI, 121, .inl (fun _ => 0)))] ++ [(x4, .inl (cI, 121, .inl (fun _ => 0)))] ++ [(x5, .inl (cI, 4, .inl (upd (upd (upd (fun _ => 0) (0 : Int32).toNatClampNeg 4) (1 : Int32).toNatClampNeg 60) (2 : Int32).toNatClampNeg 0)))] : va_W) H := hP
  have hD : va_D A ([(h0, .inr (3, [.ref x1, .ref x2, .ref x3, .ref x4, .null, .int 0, .int 0, .int 0, .int 0, .int 0, .int 0]))] ++ [(x1, .inl (cI, 121, .inl (fun _ => 0)))] ++ [(x2, .inl (cI, 121, .inl (fun _ => 0)))] ++ [(x3, .inl (cI, 121, .inl (fun _ => 0)))] ++ [(x4, .inl (cI, 121, .inl (fun _ => 0)))] ++ [(x5, .inl (cI, 4, .inl (upd (upd (upd (fun _ => 0) (0 : Int32).toNatClampNeg 4) (1 : Int32).toNatClampNeg 60) (2 : Int32).toNatClampNeg 0)))] : va_W) := hD
  refine lv_dup hx hb dX4_init_53 rfl ?_
  refine lv_iconst (v := 3) hx hb dX4_init_54 (by decide) ?_
  refine lv_iconst (v := 2) hx hb dX4_init_55 (by decide) ?_
  refine va_iast hx hb hK hP hD hS 5 0 rfl rfl (by unfold vp_in; decide) dX4_init_56 (fun H locs hP hD hS => ?_)
  have hP : va_P (dC, dI) vwCl ([(h0, .inr (3, [.ref x1, .ref x2, .ref x3, .ref x4, .null, .int 0, .int 0, .int 0, .int 0, .int 0, .int 0]))] ++ [(x1, .inl (cI, 121, .inl (fun _ => 0)))] ++ [(x2, .inl (cI, 121, .inl (fun _ => 0)))] ++ [(x3, .inl (cI, 121, .inl (fun _ => 0)))] ++ [(x4, .inl (cI, 121, .inl (fun _ => 0)))] ++ [(x5, .inl (cI, 4, .inl (upd (upd (upd (upd (fun _ => 0) (0 : Int32).toNatClampNeg 4) (1 : Int32).toNatClampNeg 60) (2 : Int32).toNatClampNeg 0) (3 : Int32).toNatClampNeg 2)))] : va_W) H := hP
  have hD : va_D A ([(h0, .inr (3, [.ref x1, .ref x2, .ref x3, .ref x4, .null, .int 0, .int 0, .int 0, .int 0, .int 0, .int 0]))] ++ [(x1, .inl (cI, 121, .inl (fun _ => 0)))] ++ [(x2, .inl (cI, 121, .inl (fun _ => 0)))] ++ [(x3, .inl (cI, 121, .inl (fun _ => 0)))] ++ [(x4, .inl (cI, 121, .inl (fun _ => 0)))] ++ [(x5, .inl (cI, 4, .inl (upd (upd (upd (upd (fun _ => 0) (0 : Int32).toNatClampNeg 4) (1 : Int32).toNatClampNeg 60) (2 : Int32).toNatClampNeg 0) (3 : Int32).toNatClampNeg 2)))] : va_W) := hD
  refine va_putF (D := (dC, dI)) (ci := 3) (v := .ref x5) (ty := (tyX4 4)) (C := RX4) (T := TX4) (N := 11) hx hb hts hin4 tyX4 tyX4_ok nmX4 hown hK hP hD hS 0 rfl rfl 4 (by decide) hk4 (fun _ h9 => h9) rfl hinit rfl (by decide +kernel) rfl rfl (Nat.le_of_ble_eq_true rfl) dX4_init_57 (fun H locs hP hD hS => ?_)
  have hP : va_P (dC, dI) vwCl ([(h0, .inr (3, [.ref x1, .ref x2, .ref x3, .ref x4, .ref x5, .int 0, .int 0, .int 0, .int 0, .int 0, .int 0]))] ++ [(x1, .inl (cI, 121, .inl (fun _ => 0)))] ++ [(x2, .inl (cI, 121, .inl (fun _ => 0)))] ++ [(x3, .inl (cI, 121, .inl (fun _ => 0)))] ++ [(x4, .inl (cI, 121, .inl (fun _ => 0)))] ++ [(x5, .inl (cI, 4, .inl (upd (upd (upd (upd (fun _ => 0) (0 : Int32).toNatClampNeg 4) (1 : Int32).toNatClampNeg 60) (2 : Int32).toNatClampNeg 0) (3 : Int32).toNatClampNeg 2)))] : va_W) H := hP
  have hD : va_D A ([(h0, .inr (3, [.ref x1, .ref x2, .ref x3, .ref x4, .ref x5, .int 0, .int 0, .int 0, .int 0, .int 0, .int 0]))] ++ [(x1, .inl (cI, 121, .inl (fun _ => 0)))] ++ [(x2, .inl (cI, 121, .inl (fun _ => 0)))] ++ [(x3, .inl (cI, 121, .inl (fun _ => 0)))] ++ [(x4, .inl (cI, 121, .inl (fun _ => 0)))] ++ [(x5, .inl (cI, 4, .inl (upd (upd (upd (upd (fun _ => 0) (0 : Int32).toNatClampNeg 4) (1 : Int32).toNatClampNeg 60) (2 : Int32).toNatClampNeg 0) (3 : Int32).toNatClampNeg 2)))] : va_W) := hD
  refine lv_aload_n hx hb dX4_init_60 rfl (lv_at hl 0 rfl) ?_
  refine lv_iconst (v := 0) hx hb dX4_init_61 (by decide) ?_
  refine va_put (D := (dC, dI)) (ci := 3) (v := .int 0) (ty := .int) (C := RX4) (T := TX4) (N := 11) hx hb hts hin4 tyX4 tyX4_ok nmX4 hown hK hP hD hS 0 rfl rfl 5 (by decide) hk5 (fun _ h9 => h9) rfl (by decide +kernel) rfl rfl (Nat.le_of_ble_eq_true rfl) dX4_init_62 (fun H locs hP hD hS => ?_)
  have hP : va_P (dC, dI) vwCl ([(h0, .inr (3, [.ref x1, .ref x2, .ref x3, .ref x4, .ref x5, .int 0, .int 0, .int 0, .int 0, .int 0, .int 0]))] ++ [(x1, .inl (cI, 121, .inl (fun _ => 0)))] ++ [(x2, .inl (cI, 121, .inl (fun _ => 0)))] ++ [(x3, .inl (cI, 121, .inl (fun _ => 0)))] ++ [(x4, .inl (cI, 121, .inl (fun _ => 0)))] ++ [(x5, .inl (cI, 4, .inl (upd (upd (upd (upd (fun _ => 0) (0 : Int32).toNatClampNeg 4) (1 : Int32).toNatClampNeg 60) (2 : Int32).toNatClampNeg 0) (3 : Int32).toNatClampNeg 2)))] : va_W) H := hP
  have hD : va_D A ([(h0, .inr (3, [.ref x1, .ref x2, .ref x3, .ref x4, .ref x5, .int 0, .int 0, .int 0, .int 0, .int 0, .int 0]))] ++ [(x1, .inl (cI, 121, .inl (fun _ => 0)))] ++ [(x2, .inl (cI, 121, .inl (fun _ => 0)))] ++ [(x3, .inl (cI, 121, .inl (fun _ => 0)))] ++ [(x4, .inl (cI, 121, .inl (fun _ => 0)))] ++ [(x5, .inl (cI, 4, .inl (upd (upd (upd (upd (fun _ => 0) (0 : Int32).toNatClampNeg 4) (1 : Int32).toNatClampNeg 60) (2 : Int32).toNatClampNeg 0) (3 : Int32).toNatClampNeg 2)))] : va_W) := hD
  refine lv_aload_n hx hb dX4_init_65 rfl (lv_at hl 0 rfl) ?_
  refine lv_iconst (v := 1) hx hb dX4_init_66 (by decide) ?_
  refine va_put (D := (dC, dI)) (ci := 3) (v := .int 1) (ty := .int) (C := RX4) (T := TX4) (N := 11) hx hb hts hin4 tyX4 tyX4_ok nmX4 hown hK hP hD hS 0 rfl rfl 6 (by decide) hk6 (fun _ h9 => h9) rfl (by decide +kernel) rfl rfl (Nat.le_of_ble_eq_true rfl) dX4_init_67 (fun H locs hP hD hS => ?_)
  have hP : va_P (dC, dI) vwCl ([(h0, .inr (3, [.ref x1, .ref x2, .ref x3, .ref x4, .ref x5, .int 0, .int 1, .int 0, .int 0, .int 0, .int 0]))] ++ [(x1, .inl (cI, 121, .inl (fun _ => 0)))] ++ [(x2, .inl (cI, 121, .inl (fun _ => 0)))] ++ [(x3, .inl (cI, 121, .inl (fun _ => 0)))] ++ [(x4, .inl (cI, 121, .inl (fun _ => 0)))] ++ [(x5, .inl (cI, 4, .inl (upd (upd (upd (upd (fun _ => 0) (0 : Int32).toNatClampNeg 4) (1 : Int32).toNatClampNeg 60) (2 : Int32).toNatClampNeg 0) (3 : Int32).toNatClampNeg 2)))] : va_W) H := hP
  have hD : va_D A ([(h0, .inr (3, [.ref x1, .ref x2, .ref x3, .ref x4, .ref x5, .int 0, .int 1, .int 0, .int 0, .int 0, .int 0]))] ++ [(x1, .inl (cI, 121, .inl (fun _ => 0)))] ++ [(x2, .inl (cI, 121, .inl (fun _ => 0)))] ++ [(x3, .inl (cI, 121, .inl (fun _ => 0)))] ++ [(x4, .inl (cI, 121, .inl (fun _ => 0)))] ++ [(x5, .inl (cI, 4, .inl (upd (upd (upd (upd (fun _ => 0) (0 : Int32).toNatClampNeg 4) (1 : Int32).toNatClampNeg 60) (2 : Int32).toNatClampNeg 0) (3 : Int32).toNatClampNeg 2)))] : va_W) := hD
  refine lv_aload_n hx hb dX4_init_70 rfl (lv_at hl 0 rfl) ?_
  refine lv_iconst (v := 0) hx hb dX4_init_71 (by decide) ?_
  refine va_put (D := (dC, dI)) (ci := 3) (v := .int 0) (ty := .int) (C := RX4) (T := TX4) (N := 11) hx hb hts hin4 tyX4 tyX4_ok nmX4 hown hK hP hD hS 0 rfl rfl 7 (by decide) hk7 (fun _ h9 => h9) rfl (by decide +kernel) rfl rfl (Nat.le_of_ble_eq_true rfl) dX4_init_72 (fun H locs hP hD hS => ?_)
  have hP : va_P (dC, dI) vwCl ([(h0, .inr (3, [.ref x1, .ref x2, .ref x3, .ref x4, .ref x5, .int 0, .int 1, .int 0, .int 0, .int 0, .int 0]))] ++ [(x1, .inl (cI, 121, .inl (fun _ => 0)))] ++ [(x2, .inl (cI, 121, .inl (fun _ => 0)))] ++ [(x3, .inl (cI, 121, .inl (fun _ => 0)))] ++ [(x4, .inl (cI, 121, .inl (fun _ => 0)))] ++ [(x5, .inl (cI, 4, .inl (upd (upd (upd (upd (fun _ => 0) (0 : Int32).toNatClampNeg 4) (1 : Int32).toNatClampNeg 60) (2 : Int32).toNatClampNeg 0) (3 : Int32).toNatClampNeg 2)))] : va_W) H := hP
  have hD : va_D A ([(h0, .inr (3, [.ref x1, .ref x2, .ref x3, .ref x4, .ref x5, .int 0, .int 1, .int 0, .int 0, .int 0, .int 0]))] ++ [(x1, .inl (cI, 121, .inl (fun _ => 0)))] ++ [(x2, .inl (cI, 121, .inl (fun _ => 0)))] ++ [(x3, .inl (cI, 121, .inl (fun _ => 0)))] ++ [(x4, .inl (cI, 121, .inl (fun _ => 0)))] ++ [(x5, .inl (cI, 4, .inl (upd (upd (upd (upd (fun _ => 0) (0 : Int32).toNatClampNeg 4) (1 : Int32).toNatClampNeg 60) (2 : Int32).toNatClampNeg 0) (3 : Int32).toNatClampNeg 2)))] : va_W) := hD
  refine lv_aload_n hx hb dX4_init_75 rfl (lv_at hl 0 rfl) ?_
  refine lv_iconst (v := 0) hx hb dX4_init_76 (by decide) ?_
  refine va_put (D := (dC, dI)) (ci := 3) (v := .int 0) (ty := .int) (C := RX4) (T := TX4) (N := 11) hx hb hts hin4 tyX4 tyX4_ok nmX4 hown hK hP hD hS 0 rfl rfl 8 (by decide) hk8 (fun _ h9 => h9) rfl (by decide +kernel) rfl rfl (Nat.le_of_ble_eq_true rfl) dX4_init_77 (fun H locs hP hD hS => ?_)
  have hP : va_P (dC, dI) vwCl ([(h0, .inr (3, [.ref x1, .ref x2, .ref x3, .ref x4, .ref x5, .int 0, .int 1, .int 0, .int 0, .int 0, .int 0]))] ++ [(x1, .inl (cI, 121, .inl (fun _ => 0)))] ++ [(x2, .inl (cI, 121, .inl (fun _ => 0)))] ++ [(x3, .inl (cI, 121, .inl (fun _ => 0)))] ++ [(x4, .inl (cI, 121, .inl (fun _ => 0)))] ++ [(x5, .inl (cI, 4, .inl (upd (upd (upd (upd (fun _ => 0) (0 : Int32).toNatClampNeg 4) (1 : Int32).toNatClampNeg 60) (2 : Int32).toNatClampNeg 0) (3 : Int32).toNatClampNeg 2)))] : va_W) H := hP
  have hD : va_D A ([(h0, .inr (3, [.ref x1, .ref x2, .ref x3, .ref x4, .ref x5, .int 0, .int 1, .int 0, .int 0, .int 0, .int 0]))] ++ [(x1, .inl (cI, 121, .inl (fun _ => 0)))] ++ [(x2, .inl (cI, 121, .inl (fun _ => 0)))] ++ [(x3, .inl (cI, 121, .inl (fun _ => 0)))] ++ [(x4, .inl (cI, 121, .inl (fun _ => 0)))] ++ [(x5, .inl (cI, 4, .inl (upd (upd (upd (upd (fun _ => 0) (0 : Int32).toNatClampNeg 4) (1 : Int32).toNatClampNeg 60) (2 : Int32).toNatClampNeg 0) (3 : Int32).toNatClampNeg 2)))] : va_W) := hD
  refine lv_aload_n hx hb dX4_init_80 rfl (lv_at hl 0 rfl) ?_
  refine lv_iconst (v := 0) hx hb dX4_init_81 (by decide) ?_
  refine va_put (D := (dC, dI)) (ci := 3) (v := .int 0) (ty := .int) (C := RX4) (T := TX4) (N := 11) hx hb hts hin4 tyX4 tyX4_ok nmX4 hown hK hP hD hS 0 rfl rfl 9 (by decide) hk9 (fun _ h9 => h9) rfl (by decide +kernel) rfl rfl (Nat.le_of_ble_eq_true rfl) dX4_init_82 (fun H locs hP hD hS => ?_)
  have hP : va_P (dC, dI) vwCl ([(h0, .inr (3, [.ref x1, .ref x2, .ref x3, .ref x4, .ref x5, .int 0, .int 1, .int 0, .int 0, .int 0, .int 0]))] ++ [(x1, .inl (cI, 121, .inl (fun _ => 0)))] ++ [(x2, .inl (cI, 121, .inl (fun _ => 0)))] ++ [(x3, .inl (cI, 121, .inl (fun _ => 0)))] ++ [(x4, .inl (cI, 121, .inl (fun _ => 0)))] ++ [(x5, .inl (cI, 4, .inl (upd (upd (upd (upd (fun _ => 0) (0 : Int32).toNatClampNeg 4) (1 : Int32).toNatClampNeg 60) (2 : Int32).toNatClampNeg 0) (3 : Int32).toNatClampNeg 2)))] : va_W) H := hP
  have hD : va_D A ([(h0, .inr (3, [.ref x1, .ref x2, .ref x3, .ref x4, .ref x5, .int 0, .int 1, .int 0, .int 0, .int 0, .int 0]))] ++ [(x1, .inl (cI, 121, .inl (fun _ => 0)))] ++ [(x2, .inl (cI, 121, .inl (fun _ => 0)))] ++ [(x3, .inl (cI, 121, .inl (fun _ => 0)))] ++ [(x4, .inl (cI, 121, .inl (fun _ => 0)))] ++ [(x5, .inl (cI, 4, .inl (upd (upd (upd (upd (fun _ => 0) (0 : Int32).toNatClampNeg 4) (1 : Int32).toNatClampNeg 60) (2 : Int32).toNatClampNeg 0) (3 : Int32).toNatClampNeg 2)))] : va_W) := hD
  refine lv_aload_n hx hb dX4_init_85 rfl (lv_at hl 0 rfl) ?_
  refine lv_iconst (v := 0) hx hb dX4_init_86 (by decide) ?_
  refine va_put (D := (dC, dI)) (ci := 3) (v := .int 0) (ty := .int) (C := RX4) (T := TX4) (N := 11) hx hb hts hin4 tyX4 tyX4_ok nmX4 hown hK hP hD hS 0 rfl rfl 10 (by decide) hk10 (fun _ h9 => h9) rfl (by decide +kernel) rfl rfl (Nat.le_of_ble_eq_true rfl) dX4_init_87 (fun H locs hP hD hS => ?_)
  have hP : va_P (dC, dI) vwCl ([(h0, .inr (3, [.ref x1, .ref x2, .ref x3, .ref x4, .ref x5, .int 0, .int 1, .int 0, .int 0, .int 0, .int 0]))] ++ [(x1, .inl (cI, 121, .inl (fun _ => 0)))] ++ [(x2, .inl (cI, 121, .inl (fun _ => 0)))] ++ [(x3, .inl (cI, 121, .inl (fun _ => 0)))] ++ [(x4, .inl (cI, 121, .inl (fun _ => 0)))] ++ [(x5, .inl (cI, 4, .inl (upd (upd (upd (upd (fun _ => 0) (0 : Int32).toNatClampNeg 4) (1 : Int32).toNatClampNeg 60) (2 : Int32).toNatClampNeg 0) (3 : Int32).toNatClampNeg 2)))] : va_W) H := hP
  have hD : va_D A ([(h0, .inr (3, [.ref x1, .ref x2, .ref x3, .ref x4, .ref x5, .int 0, .int 1, .int 0, .int 0, .int 0, .int 0]))] ++ [(x1, .inl (cI, 121, .inl (fun _ => 0)))] ++ [(x2, .inl (cI, 121, .inl (fun _ => 0)))] ++ [(x3, .inl (cI, 121, .inl (fun _ => 0)))] ++ [(x4, .inl (cI, 121, .inl (fun _ => 0)))] ++ [(x5, .inl (cI, 4, .inl (upd (upd (upd (upd (fun _ => 0) (0 : Int32).toNatClampNeg 4) (1 : Int32).toNatClampNeg 60) (2 : Int32).toNatClampNeg 0) (3 : Int32).toNatClampNeg 2)))] : va_W) := hD
  have hP := hP.sub (ws' := wX4 cI cZ cC (fun k => [h0, x1, x2, x3, x4, x5].getD k 0) S0X4) [0, 1, 2, 3, 4, 5] rfl
  have hD := hD.sub (ws' := wX4 cI cZ cC (fun k => [h0, x1, x2, x3, x4, x5].getD k 0) S0X4) [0, 1, 2, 3, 4, 5] (by decide) rfl
  exact W.vret hx hb hr (fun t ht hW => ⟨⟨(fun k => [h0, x1, x2, x3, x4, x5].getD k 0), rfl, rfl, by rw [ht]; exact hP, hD⟩, hS.F ht⟩) hS.2.2 dX4_init_90

theorem dfX5 : ∀ j, j < 7 → defaultValue (tyX5 j) = vp_V [.null, .null, .null, .null, .null, .null, .int 0] j := fun j hj => by
  match j, hj with
  | 0, _ => rfl
  | 1, _ => rfl
  | 2, _ => rfl
  | 3, _ => rfl
  | 4, _ => rfl
  | 5, _ => rfl
  | 6, _ => rfl
set_option maxHeartbeats 4000000 in
set_option maxRecDepth 100000 in
theorem mX5_init (l : Launch) (dC : Nat → ClassId) (dI : Nat → Nat → Nat) (cI cZ cC cO : ClassId) (h0 : Nat) (sz : Nat) : Met l yX5_init wsX5_init rmX5_init (va_Pc [.ref h0] (pcW (dC, dI) (wTys cI cZ cC cO) sz ([(h0, .inr (4, [.null, .null, .null, .null, .null, .null, .int 0]))] : va_W))) (va_Qv (fun u : Nat → Nat => u 0 = h0) (fun u => poW (dC, dI) (va_A ([(h0, .inr (4, [.null, .null, .null, .null, .null, .null, .int 0]))] : va_W) sz) (wX5 cI cZ cC u S0X5)) (va_A ([(h0, .inr (4, [.null, .null, .null, .null, .null, .null, .int 0]))] : va_W) sz)) 6 726 (va_A ([(h0, .inr (4, [.null, .null, .null, .null, .null, .null, .int 0]))] : va_W) sz) := by
  refine Met.ofW (cc := cX5_init) (maxL := 1) (ret := none) (by decide) rfl ?_
  intro p e s m args below meth c s₁ B hml hv
  obtain ⟨hargs, hsz, hP, hK, hN, hD0⟩ := hv
  have hx := B.exec
  have hb := B.bytes
  have hr := B.returns
  have hts := atoms_spec (ws := wsX5_init) B.pre
  have hown : s.vm.findClass RX5 = some m.cls := findClass_of_methodNamed B.named
  have hlocks := B.notSynchronized
  have hinit : meth.name = "<init>" := (name_of_methodNamed B.named B.method).1
  have hk0 := hts (.fieldLink RX5 9 "RimGrains$Trees" "depths" "[I") (by decide +kernel)
  have hk1 := hts (.fieldLink RX5 15 "RimGrains$Trees" "roots" "[I") (by decide +kernel)
  have hk2 := hts (.fieldLink RX5 18 "RimGrains$Trees" "holding" "[I") (by decide +kernel)
  have hk3 := hts (.fieldLink RX5 21 "RimGrains$Trees" "members" "[I") (by decide +kernel)
  have hk4 := hts (.fieldLink RX5 24 "RimGrains$Trees" "highest" "[I") (by decide +kernel)
  have hk5 := hts (.fieldLink RX5 27 "RimGrains$Trees" "second" "[I") (by decide +kernel)
  have hk6 := hts (.fieldLink RX5 30 "RimGrains$Trees" "grains" "I") (by decide +kernel)
  have hin5 : ∀ w ∈ wsX50, w ∈ wsX5_init := by decide +kernel
  subst hsz
  have hD := hD0.self (sz := s.heap.size)
  generalize hAe : va_A ([(h0, .inr (4, [.null, .null, .null, .null, .null, .null, .int 0]))] : va_W) s.heap.size = A at hD ⊢
  have hA : ∀ q : Nat, s.heap.size ≤ q → A q := fun q h => by rw [← hAe]; exact Or.inr h
  have hS : va_S A s.heap s.heap [] := va_S.rf
  have hE := lg_entry_eq m [.ref h0] 1
  rw [← hargs] at hE
  rw [hE]
  have hl := lv_entry [.ref h0] (n := 1) (Nat.le_of_ble_eq_true rfl)
  generalize (lg_sl [.ref h0] ++ List.replicate (1 - (lg_sl [.ref h0]).length) Slot.unset).toArray = ls at hl ⊢
  have hl : lv_has ls 1 [(0, .ref h0)] := hl
  have hP : va_P (dC, dI) vwCl ([(h0, .inr (4, [.null, .null, .null, .null, .null, .null, .int 0]))] : va_W) s.heap := hP
  refine lv_aload_n hx hb dX5_init_0 rfl (lv_at hl 0 rfl) ?_
  refine W.objInit hx hb hown (hts (.methodLink RX5 3 objectInit) (by decide +kernel)) (hts (.instanceMethod objectInit) (by decide +kernel)) (hts (.code objectInit ⟨#[0xb1]⟩ 1 none) (by decide +kernel)) rfl (by rw [hml]; exact hl.1) rfl dX5_init_1 (Nat.le_of_ble_eq_true rfl) (Nat.le_of_ble_eq_true rfl) ?_
  refine W.eq (g2 := F0 m 4 ls []) rfl ?_
  refine lv_aload_n hx hb dX5_init_4 rfl (lv_at hl 0 rfl) ?_
  refine lv_bipush (v := 121) hx hb dX5_init_5 (by decide) ?_
  refine mnewa (atype := .int) (ty := .int) (w := ([(h0, .inr (4, [.null, .null, .null, .null, .null, .null, .int 0]))] : va_W)) hx hb (hts (.arrayClass .int) (by decide +kernel)) rfl (by decide) hK 0 rfl hP hD hS hA (fun _ => rfl) (by decide) (N := 121) (by decide) (show 121 * 4 ≤ 536870912 from Nat.le_of_ble_eq_true rfl) (Nat.le_of_ble_eq_true rfl) (Nat.le_of_ble_eq_true rfl) dX5_init_7 (fun x1 H hP hD hS => ?_)
  have hP : va_P (dC, dI) vwCl ([(h0, .inr (4, [.null, .null, .null, .null, .null, .null, .int 0]))] ++ [(x1, .inl (cI, 121, .inl (fun _ => 0)))] : va_W) H := hP
  have hD : va_D A ([(h0, .inr (4, [.null, .null, .null, .null, .null, .null, .int 0]))] ++ [(x1, .inl (cI, 121, .inl (fun _ => 0)))] : va_W) := hD
  refine va_putF (D := (dC, dI)) (ci := 4) (v := .ref x1) (ty := (tyX5 0)) (C := RX5) (T := TX5) (N := 7) hx hb hts hin5 tyX5 tyX5_ok nmX5 hown hK hP hD hS 0 rfl rfl 0 (by decide) hk0 (fun _ h9 => h9) rfl hinit rfl (by decide +kernel) rfl rfl (Nat.le_of_ble_eq_true rfl) dX5_init_9 (fun H locs hP hD hS => ?_)
  have hP : va_P (dC, dI) vwCl ([(h0, .inr (4, [.ref x1, .null, .null, .null, .null, .null, .int 0]))] ++ [(x1, .inl (cI, 121, .inl (fun _ => 0)))] : va_W) H := hP
  have hD : va_D A ([(h0, .inr (4, [.ref x1, .null, .null, .null, .null, .null, .int 0]))] ++ [(x1, .inl (cI, 121, .inl (fun _ => 0)))] : va_W) := hD
  refine lv_aload_n hx hb dX5_init_12 rfl (lv_at hl 0 rfl) ?_
  refine lv_bipush (v := 121) hx hb dX5_init_13 (by decide) ?_
  refine mnewa (atype := .int) (ty := .int) (w := ([(h0, .inr (4, [.ref x1, .null, .null, .null, .null, .null, .int 0]))] ++ [(x1, .inl (cI, 121, .inl (fun _ => 0)))] : va_W)) hx hb (hts (.arrayClass .int) (by decide +kernel)) rfl (by decide) hK 0 rfl hP hD hS hA (fun _ => rfl) (by decide) (N := 121) (by decide) (show 121 * 4 ≤ 536870912 from Nat.le_of_ble_eq_true rfl) (Nat.le_of_ble_eq_true rfl) (Nat.le_of_ble_eq_true rfl) dX5_init_15 (fun x2 H hP hD hS => ?_)
  have hP : va_P (dC, dI) vwCl ([(h0, .inr (4, [.ref x1, .null, .null, .null, .null, .null, .int 0]))] ++ [(x1, .inl (cI, 121, .inl (fun _ => 0)))] ++ [(x2, .inl (cI, 121, .inl (fun _ => 0)))] : va_W) H := hP
  have hD : va_D A ([(h0, .inr (4, [.ref x1, .null, .null, .null, .null, .null, .int 0]))] ++ [(x1, .inl (cI, 121, .inl (fun _ => 0)))] ++ [(x2, .inl (cI, 121, .inl (fun _ => 0)))] : va_W) := hD
  refine va_putF (D := (dC, dI)) (ci := 4) (v := .ref x2) (ty := (tyX5 1)) (C := RX5) (T := TX5) (N := 7) hx hb hts hin5 tyX5 tyX5_ok nmX5 hown hK hP hD hS 0 rfl rfl 1 (by decide) hk1 (fun _ h9 => h9) rfl hinit rfl (by decide +kernel) rfl rfl (Nat.le_of_ble_eq_true rfl) dX5_init_17 (fun H locs hP hD hS => ?_)
  have hP : va_P (dC, dI) vwCl ([(h0, .inr (4, [.ref x1, .ref x2, .null, .null, .null, .null, .int 0]))] ++ [(x1, .inl (cI, 121, .inl (fun _ => 0)))] ++ [(x2, .inl (cI, 121, .inl (fun _ => 0)))] : va_W) H := hP
  have hD : va_D A ([(h0, .inr (4, [.ref x1, .ref x2, .null, .null, .null, .null, .int 0]))] ++ [(x1, .inl (cI, 121, .inl (fun _ => 0)))] ++ [(x2, .inl (cI, 121, .inl (fun _ => 0)))] : va_W) := hD
  refine lv_aload_n hx hb dX5_init_20 rfl (lv_at hl 0 rfl) ?_
  refine lv_bipush (v := 121) hx hb dX5_init_21 (by decide) ?_
  refine mnewa (atype := .int) (ty := .int) (w := ([(h0, .inr (4, [.ref x1, .ref x2, .null, .null, .null, .null, .int 0]))] ++ [(x1, .inl (cI, 121, .inl (fun _ => 0)))] ++ [(x2, .inl (cI, 121, .inl (fun _ => 0)))] : va_W)) hx hb (hts (.arrayClass .int) (by decide +kernel)) rfl (by decide) hK 0 rfl hP hD hS hA (fun _ => rfl) (by decide) (N := 121) (by decide) (show 121 * 4 ≤ 536870912 from Nat.le_of_ble_eq_true rfl) (Nat.le_of_ble_eq_true rfl) (Nat.le_of_ble_eq_true rfl) dX5_init_23 (fun x3 H hP hD hS => ?_)
  have hP : va_P (dC, dI) vwCl ([(h0, .inr (4, [.ref x1, .ref x2, .null, .null, .null, .null, .int 0]))] ++ [(x1, .inl (cI, 121, .inl (fun _ => 0)))] ++ [(x2, .inl (cI, 121, .inl (fun _ => 0)))] ++ [(x3, .inl (cI, 121, .inl (fun _ => 0)))] : va_W) H := hP
  have hD : va_D A ([(h0, .inr (4, [.ref x1, .ref x2, .null, .null, .null, .null, .int 0]))] ++ [(x1, .inl (cI, 121, .inl (fun _ => 0)))] ++ [(x2, .inl (cI, 121, .inl (fun _ => 0)))] ++ [(x3, .inl (cI, 121, .inl (fun _ => 0)))] : va_W) := hD
  refine va_putF (D := (dC, dI)) (ci := 4) (v := .ref x3) (ty := (tyX5 2)) (C := RX5) (T := TX5) (N := 7) hx hb hts hin5 tyX5 tyX5_ok nmX5 hown hK hP hD hS 0 rfl rfl 2 (by decide) hk2 (fun _ h9 => h9) rfl hinit rfl (by decide +kernel) rfl rfl (Nat.le_of_ble_eq_true rfl) dX5_init_25 (fun H locs hP hD hS => ?_)
  have hP : va_P (dC, dI) vwCl ([(h0, .inr (4, [.ref x1, .ref x2, .ref x3, .null, .null, .null, .int 0]))] ++ [(x1, .inl (cI, 121, .inl (fun _ => 0)))] ++ [(x2, .inl (cI, 121, .inl (fun _ => 0)))] ++ [(x3, .inl (cI, 121, .inl (fun _ => 0)))] : va_W) H := hP
  have hD : va_D A ([(h0, .inr (4, [.ref x1, .ref x2, .ref x3, .null, .null, .null, .int 0]))] ++ [(x1, .inl (cI, 121, .inl (fun _ => 0)))] ++ [(x2, .inl (cI, 121, .inl (fun _ => 0)))] ++ [(x3, .inl (cI, 121, .inl (fun _ => 0)))] : va_W) := hD
  refine lv_aload_n hx hb dX5_init_28 rfl (lv_at hl 0 rfl) ?_
  refine lv_bipush (v := 121) hx hb dX5_init_29 (by decide) ?_
  refine mnewa (atype := .int) (ty := .int) (w := ([(h0, .inr (4, [.ref x1, .ref x2, .ref x3, .null, .null, .null, .int 0]))] ++ [(x1, .inl (cI, 121, .inl (fun _ => 0)))] ++ [(x2, .inl (cI, 121, .inl (fun _ => 0)))] ++ [(x3, .inl (cI, 121, .inl (fun _ => 0)))] : va_W)) hx hb (hts (.arrayClass .int) (by decide +kernel)) rfl (by decide) hK 0 rfl hP hD hS hA (fun _ => rfl) (by decide) (N := 121) (by decide) (show 121 * 4 ≤ 536870912 from Nat.le_of_ble_eq_true rfl) (Nat.le_of_ble_eq_true rfl) (Nat.le_of_ble_eq_true rfl) dX5_init_31 (fun x4 H hP hD hS => ?_)
  have hP : va_P (dC, dI) vwCl ([(h0, .inr (4, [.ref x1, .ref x2, .ref x3, .null, .null, .null, .int 0]))] ++ [(x1, .inl (cI, 121, .inl (fun _ => 0)))] ++ [(x2, .inl (cI, 121, .inl (fun _ => 0)))] ++ [(x3, .inl (cI, 121, .inl (fun _ => 0)))] ++ [(x4, .inl (cI, 121, .inl (fun _ => 0)))] : va_W) H := hP
  have hD : va_D A ([(h0, .inr (4, [.ref x1, .ref x2, .ref x3, .null, .null, .null, .int 0]))] ++ [(x1, .inl (cI, 121, .inl (fun _ => 0)))] ++ [(x2, .inl (cI, 121, .inl (fun _ => 0)))] ++ [(x3, .inl (cI, 121, .inl (fun _ => 0)))] ++ [(x4, .inl (cI, 121, .inl (fun _ => 0)))] : va_W) := hD
  refine va_putF (D := (dC, dI)) (ci := 4) (v := .ref x4) (ty := (tyX5 3)) (C := RX5) (T := TX5) (N := 7) hx hb hts hin5 tyX5 tyX5_ok nmX5 hown hK hP hD hS 0 rfl rfl 3 (by decide) hk3 (fun _ h9 => h9) rfl hinit rfl (by decide +kernel) rfl rfl (Nat.le_of_ble_eq_true rfl) dX5_init_33 (fun H locs hP hD hS => ?_)
  have hP : va_P (dC, dI) vwCl ([(h0, .inr (4, [.ref x1, .ref x2, .ref x3, .ref x4, .null, .null, .int 0]))] ++ [(x1, .inl (cI, 121, .inl (fun _ => 0)))] ++ [(x2, .inl (cI, 121, .inl (fun _ => 0)))] ++ [(x3, .inl (cI, 121, .inl (fun _ => 0)))] ++ [(x4, .inl (cI, 121, .inl (fun _ => 0)))] : va_W) H := hP
  have hD : va_D A ([(h0, .inr (4, [.ref x1, .ref x2, .ref x3, .ref x4, .null, .null, .int 0]))] ++ [(x1, .inl (cI, 121, .inl (fun _ => 0)))] ++ [(x2, .inl (cI, 121, .inl (fun _ => 0)))] ++ [(x3, .inl (cI, 121, .inl (fun _ => 0)))] ++ [(x4, .inl (cI, 121, .inl (fun _ => 0)))] : va_W) := hD
  refine lv_aload_n hx hb dX5_init_36 rfl (lv_at hl 0 rfl) ?_
  refine lv_bipush (v := 121) hx hb dX5_init_37 (by decide) ?_
  refine mnewa (atype := .int) (ty := .int) (w := ([(h0, .inr (4, [.ref x1, .ref x2, .ref x3, .ref x4, .null, .null, .int 0]))] ++ [(x1, .inl (cI, 121, .inl (fun _ => 0)))] ++ [(x2, .inl (cI, 121, .inl (fun _ => 0)))] ++ [(x3, .inl (cI, 121, .inl (fun _ => 0)))] ++ [(x4, .inl (cI, 121, .inl (fun _ => 0)))] : va_W)) hx hb (hts (.arrayClass .int) (by decide +kernel)) rfl (by decide) hK 0 rfl hP hD hS hA (fun _ => rfl) (by decide) (N := 121) (by decide) (show 121 * 4 ≤ 536870912 from Nat.le_of_ble_eq_true rfl) (Nat.le_of_ble_eq_true rfl) (Nat.le_of_ble_eq_true rfl) dX5_init_39 (fun x5 H hP hD hS => ?_)
  have hP : va_P (dC, dI) vwCl ([(h0, .inr (4, [.ref x1, .ref x2, .ref x3, .ref x4, .null, .null, .int 0]))] ++ [(x1, .inl (cI, 121, .inl (fun _ => 0)))] ++ [(x2, .inl (cI, 121, .inl (fun _ => 0)))] ++ [(x3, .inl (cI, 121, .inl (fun _ => 0)))] ++ [(x4, .inl (cI, 121, .inl (fun _ => 0)))] ++ [(x5, .inl (cI, 121, .inl (fun _ => 0)))] : va_W) H := hP
  have hD : va_D A ([(h0, .inr (4, [.ref x1, .ref x2, .ref x3, .ref x4, .null, .null, .int 0]))] ++ [(x1, .inl (cI, 121, .inl (fun _ => 0)))] ++ [(x2, .inl (cI, 121, .inl (fun _ => 0)))] ++ [(x3, .inl (cI, 121, .inl (fun _ => 0)))] ++ [(x4, .inl (cI, 121, .inl (fun _ => 0)))] ++ [(x5, .inl (cI, 121, .inl (fun _ => 0)))] : va_W) := hD
  refine va_putF (D := (dC, dI)) (ci := 4) (v := .ref x5) (ty := (tyX5 4)) (C := RX5) (T := TX5) (N := 7) hx hb hts hin5 tyX5 tyX5_ok nmX5 hown hK hP hD hS 0 rfl rfl 4 (by decide) hk4 (fun _ h9 => h9) rfl hinit rfl (by decide +kernel) rfl rfl (Nat.le_of_ble_eq_true rfl) dX5_init_41 (fun H locs hP hD hS => ?_)
  have hP : va_P (dC, dI) vwCl ([(h0, .inr (4, [.ref x1, .ref x2, .ref x3, .ref x4, .ref x5, .null, .int 0]))] ++ [(x1, .inl (cI, 121, .inl (fun _ => 0)))] ++ [(x2, .inl (cI, 121, .inl (fun _ => 0)))] ++ [(x3, .inl (cI, 121, .inl (fun _ => 0)))] ++ [(x4, .inl (cI, 121, .inl (fun _ => 0)))] ++ [(x5, .inl (cI, 121, .inl (fun _ => 0)))] : va_W) H := hP
  have hD : va_D A ([(h0, .inr (4, [.ref x1, .ref x2, .ref x3, .ref x4, .ref x5, .null, .int 0]))] ++ [(x1, .inl (cI, 121, .inl (fun _ => 0)))] ++ [(x2, .inl (cI, 121, .inl (fun _ => 0)))] ++ [(x3, .inl (cI, 121, .inl (fun _ => 0)))] ++ [(x4, .inl (cI, 121, .inl (fun _ => 0)))] ++ [(x5, .inl (cI, 121, .inl (fun _ => 0)))] : va_W) := hD
  refine lv_aload_n hx hb dX5_init_44 rfl (lv_at hl 0 rfl) ?_
  refine lv_bipush (v := 121) hx hb dX5_init_45 (by decide) ?_
  refine mnewa (atype := .int) (ty := .int) (w := ([(h0, .inr (4, [.ref x1, .ref x2, .ref x3, .ref x4, .ref x5, .null, .int 0]))] ++ [(x1, .inl (cI, 121, .inl (fun _ => 0)))] ++ [(x2, .inl (cI, 121, .inl (fun _ => 0)))] ++ [(x3, .inl (cI, 121, .inl (fun _ => 0)))] ++ [(x4, .inl (cI, 121, .inl (fun _ => 0)))] ++ [(x5, .inl (cI, 121, .inl (fun _ => 0)))] : va_W)) hx hb (hts (.arrayClass .int) (by decide +kernel)) rfl (by decide) hK 0 rfl hP hD hS hA (fun _ => rfl) (by decide) (N := 121) (by decide) (show 121 * 4 ≤ 536870912 from Nat.le_of_ble_eq_true rfl) (Nat.le_of_ble_eq_true rfl) (Nat.le_of_ble_eq_true rfl) dX5_init_47 (fun x6 H hP hD hS => ?_)
  have hP : va_P (dC, dI) vwCl ([(h0, .inr (4, [.ref x1, .ref x2, .ref x3, .ref x4, .ref x5, .null, .int 0]))] ++ [(x1, .inl (cI, 121, .inl (fun _ => 0)))] ++ [(x2, .inl (cI, 121, .inl (fun _ => 0)))] ++ [(x3, .inl (cI, 121, .inl (fun _ => 0)))] ++ [(x4, .inl (cI, 121, .inl (fun _ => 0)))] ++ [(x5, .inl (cI, 121, .inl (fun _ => 0)))] ++ [(x6, .inl (cI, 121, .inl (fun _ => 0)))] : va_W) H := hP
  have hD : va_D A ([(h0, .inr (4, [.ref x1, .ref x2, .ref x3, .ref x4, .ref x5, .null, .int 0]))] ++ [(x1, .inl (cI, 121, .inl (fun _ => 0)))] ++ [(x2, .inl (cI, 121, .inl (fun _ => 0)))] ++ [(x3, .inl (cI, 121, .inl (fun _ => 0)))] ++ [(x4, .inl (cI, 121, .inl (fun _ => 0)))] ++ [(x5, .inl (cI, 121, .inl (fun _ => 0)))] ++ [(x6, .inl (cI, 121, .inl (fun _ => 0)))] : va_W) := hD
  refine va_putF (D := (dC, dI)) (ci := 4) (v := .ref x6) (ty := (tyX5 5)) (C := RX5) (T := TX5) (N := 7) hx hb hts hin5 tyX5 tyX5_ok nmX5 hown hK hP hD hS 0 rfl rfl 5 (by decide) hk5 (fun _ h9 => h9) rfl hinit rfl (by decide +kernel) rfl rfl (Nat.le_of_ble_eq_true rfl) dX5_init_49 (fun H locs hP hD hS => ?_)
  have hP : va_P (dC, dI) vwCl ([(h0, .inr (4, [.ref x1, .ref x2, .ref x3, .ref x4, .ref x5, .ref x6, .int 0]))] ++ [(x1, .inl (cI, 121, .inl (fun _ => 0)))] ++ [(x2, .inl (cI, 121, .inl (fun _ => 0)))] ++ [(x3, .inl (cI, 121, .inl (fun _ => 0)))] ++ [(x4, .inl (cI, 121, .inl (fun _ => 0)))] ++ [(x5, .inl (cI, 121, .inl (fun _ => 0)))] ++ [(x6, .inl (cI, 121, .inl (fun _ => 0)))] : va_W) H := hP
  have hD : va_D A ([(h0, .inr (4, [.ref x1, .ref x2, .ref x3, .ref x4, .ref x5, .ref x6, .int 0]))] ++ [(x1, .inl (cI, 121, .inl (fun _ => 0)))] ++ [(x2, .inl (cI, 121, .inl (fun _ => 0)))] ++ [(x3, .inl (cI, 121, .inl (fun _ => 0)))] ++ [(x4, .inl (cI, 121, .inl (fun _ => 0)))] ++ [(x5, .inl (cI, 121, .inl (fun _ => 0)))] ++ [(x6, .inl (cI, 121, .inl (fun _ => 0)))] : va_W) := hD
  refine lv_aload_n hx hb dX5_init_52 rfl (lv_at hl 0 rfl) ?_
  refine lv_iconst (v := 0) hx hb dX5_init_53 (by decide) ?_
  refine va_put (D := (dC, dI)) (ci := 4) (v := .int 0) (ty := .int) (C := RX5) (T := TX5) (N := 7) hx hb hts hin5 tyX5 tyX5_ok nmX5 hown hK hP hD hS 0 rfl rfl 6 (by decide) hk6 (fun _ h9 => h9) rfl (by decide +kernel) rfl rfl (Nat.le_of_ble_eq_true rfl) dX5_init_54 (fun H locs hP hD hS => ?_)
  have hP : va_P (dC, dI) vwCl ([(h0, .inr (4, [.ref x1, .ref x2, .ref x3, .ref x4, .ref x5, .ref x6, .int 0]))] ++ [(x1, .inl (cI, 121, .inl (fun _ => 0)))] ++ [(x2, .inl (cI, 121, .inl (fun _ => 0)))] ++ [(x3, .inl (cI, 121, .inl (fun _ => 0)))] ++ [(x4, .inl (cI, 121, .inl (fun _ => 0)))] ++ [(x5, .inl (cI, 121, .inl (fun _ => 0)))] ++ [(x6, .inl (cI, 121, .inl (fun _ => 0)))] : va_W) H := hP
  have hD : va_D A ([(h0, .inr (4, [.ref x1, .ref x2, .ref x3, .ref x4, .ref x5, .ref x6, .int 0]))] ++ [(x1, .inl (cI, 121, .inl (fun _ => 0)))] ++ [(x2, .inl (cI, 121, .inl (fun _ => 0)))] ++ [(x3, .inl (cI, 121, .inl (fun _ => 0)))] ++ [(x4, .inl (cI, 121, .inl (fun _ => 0)))] ++ [(x5, .inl (cI, 121, .inl (fun _ => 0)))] ++ [(x6, .inl (cI, 121, .inl (fun _ => 0)))] : va_W) := hD
  have hP := hP.sub (ws' := wX5 cI cZ cC (fun k => [h0, x1, x2, x3, x4, x5, x6].getD k 0) S0X5) [0, 1, 2, 3, 4, 5, 6] rfl
  have hD := hD.sub (ws' := wX5 cI cZ cC (fun k => [h0, x1, x2, x3, x4, x5, x6].getD k 0) S0X5) [0, 1, 2, 3, 4, 5, 6] (by decide) rfl
  exact W.vret hx hb hr (fun t ht hW => ⟨⟨(fun k => [h0, x1, x2, x3, x4, x5, x6].getD k 0), rfl, rfl, by rw [ht]; exact hP, hD⟩, hS.F ht⟩) hS.2.2 dX5_init_57

theorem dfX6 : ∀ j, j < 5 → defaultValue (tyX6 j) = vp_V [.int 0, .int 0, .int 0, .int 0, .int 0] j := fun j hj => by
  match j, hj with
  | 0, _ => rfl
  | 1, _ => rfl
  | 2, _ => rfl
  | 3, _ => rfl
  | 4, _ => rfl
set_option maxHeartbeats 4000000 in
set_option maxRecDepth 100000 in
theorem mX6_init (l : Launch) (dC : Nat → ClassId) (dI : Nat → Nat → Nat) (cI cZ cC cO : ClassId) (h0 : Nat) (sz : Nat) : Met l yX6_init wsX6_init rmX6_init (va_Pc [.ref h0] (pcW (dC, dI) (wTys cI cZ cC cO) sz ([(h0, .inr (5, [.int 0, .int 0, .int 0, .int 0, .int 0]))] : va_W))) (va_Qv (fun u : Nat → Nat => u 0 = h0) (fun u => poW (dC, dI) (va_A ([(h0, .inr (5, [.int 0, .int 0, .int 0, .int 0, .int 0]))] : va_W) sz) (wX6 cI cZ cC u S0X6)) (va_A ([(h0, .inr (5, [.int 0, .int 0, .int 0, .int 0, .int 0]))] : va_W) sz)) 0 0 (va_A ([(h0, .inr (5, [.int 0, .int 0, .int 0, .int 0, .int 0]))] : va_W) sz) := by
  refine Met.ofW (cc := cX6_init) (maxL := 1) (ret := none) (by decide) rfl ?_
  intro p e s m args below meth c s₁ B hml hv
  obtain ⟨hargs, hsz, hP, hK, hN, hD0⟩ := hv
  have hx := B.exec
  have hb := B.bytes
  have hr := B.returns
  have hts := atoms_spec (ws := wsX6_init) B.pre
  have hown : s.vm.findClass RX6 = some m.cls := findClass_of_methodNamed B.named
  have hlocks := B.notSynchronized
  have hinit : meth.name = "<init>" := (name_of_methodNamed B.named B.method).1
  have hk0 := hts (.fieldLink RX6 9 "RimGrains$Walk" "place" "I") (by decide +kernel)
  have hk1 := hts (.fieldLink RX6 15 "RimGrains$Walk" "steps" "I") (by decide +kernel)
  have hk2 := hts (.fieldLink RX6 18 "RimGrains$Walk" "draws" "I") (by decide +kernel)
  have hk3 := hts (.fieldLink RX6 21 "RimGrains$Walk" "lot" "I") (by decide +kernel)
  have hk4 := hts (.fieldLink RX6 24 "RimGrains$Walk" "holder" "I") (by decide +kernel)
  have hin6 : ∀ w ∈ wsX60, w ∈ wsX6_init := by decide +kernel
  subst hsz
  have hD := hD0.self (sz := s.heap.size)
  generalize hAe : va_A ([(h0, .inr (5, [.int 0, .int 0, .int 0, .int 0, .int 0]))] : va_W) s.heap.size = A at hD ⊢
  have hA : ∀ q : Nat, s.heap.size ≤ q → A q := fun q h => by rw [← hAe]; exact Or.inr h
  have hS : va_S A s.heap s.heap [] := va_S.rf
  have hE := lg_entry_eq m [.ref h0] 1
  rw [← hargs] at hE
  rw [hE]
  have hl := lv_entry [.ref h0] (n := 1) (Nat.le_of_ble_eq_true rfl)
  generalize (lg_sl [.ref h0] ++ List.replicate (1 - (lg_sl [.ref h0]).length) Slot.unset).toArray = ls at hl ⊢
  have hl : lv_has ls 1 [(0, .ref h0)] := hl
  have hP : va_P (dC, dI) vwCl ([(h0, .inr (5, [.int 0, .int 0, .int 0, .int 0, .int 0]))] : va_W) s.heap := hP
  refine lv_aload_n hx hb dX6_init_0 rfl (lv_at hl 0 rfl) ?_
  refine W.objInit hx hb hown (hts (.methodLink RX6 3 objectInit) (by decide +kernel)) (hts (.instanceMethod objectInit) (by decide +kernel)) (hts (.code objectInit ⟨#[0xb1]⟩ 1 none) (by decide +kernel)) rfl (by rw [hml]; exact hl.1) rfl dX6_init_1 (Nat.le_of_ble_eq_true rfl) (Nat.le_of_ble_eq_true rfl) ?_
  refine W.eq (g2 := F0 m 4 ls []) rfl ?_
  refine lv_aload_n hx hb dX6_init_4 rfl (lv_at hl 0 rfl) ?_
  refine lv_iconst (v := 0) hx hb dX6_init_5 (by decide) ?_
  refine va_put (D := (dC, dI)) (ci := 5) (v := .int 0) (ty := .int) (C := RX6) (T := TX6) (N := 5) hx hb hts hin6 tyX6 tyX6_ok nmX6 hown hK hP hD hS 0 rfl rfl 0 (by decide) hk0 (fun _ h9 => h9) rfl (by decide +kernel) rfl rfl (Nat.le_of_ble_eq_true rfl) dX6_init_6 (fun H locs hP hD hS => ?_)
  have hP : va_P (dC, dI) vwCl ([(h0, .inr (5, [.int 0, .int 0, .int 0, .int 0, .int 0]))] : va_W) H := hP
  have hD : va_D A ([(h0, .inr (5, [.int 0, .int 0, .int 0, .int 0, .int 0]))] : va_W) := hD
  refine lv_aload_n hx hb dX6_init_9 rfl (lv_at hl 0 rfl) ?_
  refine lv_iconst (v := 0) hx hb dX6_init_10 (by decide) ?_
  refine va_put (D := (dC, dI)) (ci := 5) (v := .int 0) (ty := .int) (C := RX6) (T := TX6) (N := 5) hx hb hts hin6 tyX6 tyX6_ok nmX6 hown hK hP hD hS 0 rfl rfl 1 (by decide) hk1 (fun _ h9 => h9) rfl (by decide +kernel) rfl rfl (Nat.le_of_ble_eq_true rfl) dX6_init_11 (fun H locs hP hD hS => ?_)
  have hP : va_P (dC, dI) vwCl ([(h0, .inr (5, [.int 0, .int 0, .int 0, .int 0, .int 0]))] : va_W) H := hP
  have hD : va_D A ([(h0, .inr (5, [.int 0, .int 0, .int 0, .int 0, .int 0]))] : va_W) := hD
  refine lv_aload_n hx hb dX6_init_14 rfl (lv_at hl 0 rfl) ?_
  refine lv_iconst (v := 0) hx hb dX6_init_15 (by decide) ?_
  refine va_put (D := (dC, dI)) (ci := 5) (v := .int 0) (ty := .int) (C := RX6) (T := TX6) (N := 5) hx hb hts hin6 tyX6 tyX6_ok nmX6 hown hK hP hD hS 0 rfl rfl 2 (by decide) hk2 (fun _ h9 => h9) rfl (by decide +kernel) rfl rfl (Nat.le_of_ble_eq_true rfl) dX6_init_16 (fun H locs hP hD hS => ?_)
  have hP : va_P (dC, dI) vwCl ([(h0, .inr (5, [.int 0, .int 0, .int 0, .int 0, .int 0]))] : va_W) H := hP
  have hD : va_D A ([(h0, .inr (5, [.int 0, .int 0, .int 0, .int 0, .int 0]))] : va_W) := hD
  refine lv_aload_n hx hb dX6_init_19 rfl (lv_at hl 0 rfl) ?_
  refine lv_iconst (v := 0) hx hb dX6_init_20 (by decide) ?_
  refine va_put (D := (dC, dI)) (ci := 5) (v := .int 0) (ty := .int) (C := RX6) (T := TX6) (N := 5) hx hb hts hin6 tyX6 tyX6_ok nmX6 hown hK hP hD hS 0 rfl rfl 3 (by decide) hk3 (fun _ h9 => h9) rfl (by decide +kernel) rfl rfl (Nat.le_of_ble_eq_true rfl) dX6_init_21 (fun H locs hP hD hS => ?_)
  have hP : va_P (dC, dI) vwCl ([(h0, .inr (5, [.int 0, .int 0, .int 0, .int 0, .int 0]))] : va_W) H := hP
  have hD : va_D A ([(h0, .inr (5, [.int 0, .int 0, .int 0, .int 0, .int 0]))] : va_W) := hD
  refine lv_aload_n hx hb dX6_init_24 rfl (lv_at hl 0 rfl) ?_
  refine lv_bipush (v := (-4)) hx hb dX6_init_25 (by decide) ?_
  refine va_put (D := (dC, dI)) (ci := 5) (v := .int (-4)) (ty := .int) (C := RX6) (T := TX6) (N := 5) hx hb hts hin6 tyX6 tyX6_ok nmX6 hown hK hP hD hS 0 rfl rfl 4 (by decide) hk4 (fun _ h9 => h9) rfl (by decide +kernel) rfl rfl (Nat.le_of_ble_eq_true rfl) dX6_init_27 (fun H locs hP hD hS => ?_)
  have hP : va_P (dC, dI) vwCl ([(h0, .inr (5, [.int 0, .int 0, .int 0, .int 0, .int (-4)]))] : va_W) H := hP
  have hD : va_D A ([(h0, .inr (5, [.int 0, .int 0, .int 0, .int 0, .int (-4)]))] : va_W) := hD
  have hP := hP.sub (ws' := wX6 cI cZ cC (fun k => [h0].getD k 0) S0X6) [0] rfl
  have hD := hD.sub (ws' := wX6 cI cZ cC (fun k => [h0].getD k 0) S0X6) [0] (by decide) rfl
  exact W.vret hx hb hr (fun t ht hW => ⟨⟨(fun k => [h0].getD k 0), rfl, rfl, by rw [ht]; exact hP, hD⟩, hS.F ht⟩) hS.2.2 dX6_init_30
