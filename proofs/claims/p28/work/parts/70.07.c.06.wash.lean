set_option maxHeartbeats 4000000 in
set_option maxRecDepth 100000 in
theorem mX7_wash (l : Launch) (dC : Nat → ClassId) (dI : Nat → Nat → Nat) (cI cZ cC cO : ClassId) (q0 : Nat → Nat) (qn : Nat → Nat) (qs : Nat → Nat) (qt : Nat → Nat) (qh : Nat → Nat) (qw : Nat → Nat) (qf : Nat → Nat) (qr : Nat → Nat) (qc : Nat → Nat) (qp : Nat → Nat) (uh : QH) (g0 : GX7) (gn : GX4) (gh : GH) (gf : GX0) (sz : Nat) (out : Int32 × GX7 × GX4 × GH × GX0) (hf : fX7_wash g0 gn gh gf = some out) : Met l yX7_wash wsX7_wash rmX7_wash (va_Pc [.ref (q0 0)] (pcW (dC, dI) (wTys cI cZ cC cO) sz (wX7 cI cZ cC q0 qn qs qt qh qw qf qr qc qp g0 ++ wX4 cI cZ cC qn gn ++ wH cI cZ cC cO qh uh gh ++ wX0 cI cZ cC qf gf))) (va_Qi (fun r (_ : QH) => r = out.1) (fun u => poW (dC, dI) (va_A (wX7 cI cZ cC q0 qn qs qt qh qw qf qr qc qp g0 ++ wX4 cI cZ cC qn gn ++ wH cI cZ cC cO qh uh gh ++ wX0 cI cZ cC qf gf) sz) (wX7 cI cZ cC q0 qn qs qt qh qw qf qr qc qp out.2.1 ++ wX4 cI cZ cC qn out.2.2.1 ++ wH cI cZ cC cO qh u out.2.2.2.1 ++ wX0 cI cZ cC qf out.2.2.2.2)) (va_A (wX7 cI cZ cC q0 qn qs qt qh qw qf qr qc qp g0 ++ wX4 cI cZ cC qn gn ++ wH cI cZ cC cO qh uh gh ++ wX0 cI cZ cC qf gf) sz)) 0 0 (va_A (wX7 cI cZ cC q0 qn qs qt qh qw qf qr qc qp g0 ++ wX4 cI cZ cC qn gn ++ wH cI cZ cC cO qh uh gh ++ wX0 cI cZ cC qf gf) sz) := by
  refine Met.ofW (cc := cX7_wash) (maxL := 1) (ret := (some .int)) (by decide) rfl ?_
  intro p e s m args below meth c s₁ B hml hv
  obtain ⟨hargs, hsz, hP, hK, hN, hD0⟩ := hv
  have hx := B.exec
  have hb := B.bytes
  have hr := B.returns
  have hts := atoms_spec (ws := wsX7_wash) B.pre
  have hown : s.vm.findClass RX7 = some m.cls := findClass_of_methodNamed B.named
  have hlocks := B.notSynchronized
  have hk0 := hts (.fieldLink RX7 36 "RimGrains" "fall" "LRimGrains$Fall;") (by decide +kernel)
  have hk1 := hts (.fieldLink RX7 12 "RimGrains" "now" "LRimGrains$State;") (by decide +kernel)
  have hin7 : ∀ w ∈ wsX70, w ∈ wsX7_wash := by decide +kernel
  subst hsz
  have hD := hD0.self (sz := s.heap.size)
  generalize hAe : va_A (wX7 cI cZ cC q0 qn qs qt qh qw qf qr qc qp g0 ++ wX4 cI cZ cC qn gn ++ wH cI cZ cC cO qh uh gh ++ wX0 cI cZ cC qf gf) s.heap.size = A at hD ⊢
  have hA : ∀ q : Nat, s.heap.size ≤ q → A q := fun q h => by rw [← hAe]; exact Or.inr h
  have hS : va_S A s.heap s.heap [] := va_S.rf
  have hE := lg_entry_eq m [.ref (q0 0)] 1
  rw [← hargs] at hE
  rw [hE]
  have hl := lv_entry [.ref (q0 0)] (n := 1) (Nat.le_of_ble_eq_true rfl)
  generalize (lg_sl [.ref (q0 0)] ++ List.replicate (1 - (lg_sl [.ref (q0 0)]).length) Slot.unset).toArray = ls at hl ⊢
  have hl : lv_has ls 1 [(0, .ref (q0 0))] := hl
  have hP : va_P (dC, dI) vwCl (wX7 cI cZ cC q0 qn qs qt qh qw qf qr qc qp g0 ++ wX4 cI cZ cC qn gn ++ wH cI cZ cC cO qh uh gh ++ wX0 cI cZ cC qf gf) s.heap := hP
  unfold fX7_wash at hf
  refine lv_aload_n hx hb dX7_wash_0 rfl (lv_at hl 0 rfl) ?_
  obtain ⟨o1, ho1, hf⟩ := ob hf
  refine wVv (W1 := (fun u1 : QH => (wX7 cI cZ cC q0 qn qs qt qh qw qf qr qc qp o1.1 ++ wX4 cI cZ cC qn gn ++ wH cI cZ cC cO qh u1 o1.2 ++ wX0 cI cZ cC qf gf))) (rest := []) (As := []) ⟨hx, hb, hml, hown, hts⟩ (mX7_record l dC dI cI cZ cC cO q0 qn qs qt qh qw qf qr qc qp uh _ _ _ _ _ ho1) (cwV 0 hts gX7_wash_X7_record rfl rfl rfl (by decide +kernel) ⟨Nat.le_of_ble_eq_true rfl, Nat.le_of_ble_eq_true rfl⟩) hK hN hP hD hS hA [0, 1, 2, 3, 4, 5, 6, 7, 8, 9, 10, 11, 12, 13, 14, 15, 16, 17, 18, 19, 20, 21, 22, 23, 24, 25, 26, 27, 28, 29, 30, 31] [32, 33, 34] [3, 4, 5, 6, 7, 8, 9, 10, 11, 12, 13, 14, 15, 16, 17, 18, 19, 20, 21, 22, 23, 24, 25, 26, 27, 28, 29, 30, 31, 32, 33, 34, 0, 1, 2] rfl rfl (by decide +kernel) (by decide +kernel) (fun _ => rfl) 6 rfl rfl rfl rfl hl.1 rfl (Nat.le_of_ble_eq_true rfl) dX7_wash_1 ⟨Nat.zero_le _, Nat.zero_le _⟩ (fun u1 H locs hP hD hS => ?_)
  have hP : va_P (dC, dI) vwCl (wX7 cI cZ cC q0 qn qs qt qh qw qf qr qc qp o1.1 ++ wX4 cI cZ cC qn gn ++ wH cI cZ cC cO qh u1 o1.2 ++ wX0 cI cZ cC qf gf) H := hP
  have hD : va_D A (wX7 cI cZ cC q0 qn qs qt qh qw qf qr qc qp o1.1 ++ wX4 cI cZ cC qn gn ++ wH cI cZ cC cO qh u1 o1.2 ++ wX0 cI cZ cC qf gf) := hD
  refine lv_aload_n hx hb dX7_wash_4 rfl (lv_at hl 0 rfl) ?_
  refine va_get (D := (dC, dI)) (ci := 6) (v := .ref (qf 0)) (C := RX7) (T := TX7) (N := 14) hx hb hts hin7 hown hK hP 0 rfl rfl 5 (by decide) hk0 (fun _ h9 => h9) rfl dX7_wash_5 ?_
  refine lv_aload_n hx hb dX7_wash_8 rfl (lv_at hl 0 rfl) ?_
  refine va_get (D := (dC, dI)) (ci := 6) (v := .ref (qn 0)) (C := RX7) (T := TX7) (N := 14) hx hb hts hin7 hown hK hP 0 rfl rfl 0 (by decide) hk1 (fun _ h9 => h9) rfl dX7_wash_9 ?_
  obtain ⟨o12, ho12, hf⟩ := ob hf
  refine wVi (W1 := (fun _ : Unit => (wX7 cI cZ cC q0 qn qs qt qh qw qf qr qc qp o1.1 ++ wX4 cI cZ cC qn o12.2.2 ++ wH cI cZ cC cO qh u1 o1.2 ++ wX0 cI cZ cC qf o12.2.1))) (rest := []) (As := [.ref (qn 0)]) ⟨hx, hb, hml, hown, hts⟩ (mX0_dropTips l dC dI cI cZ cC cO qf qn _ _ _ _ ho12) (cwV 1 hts gX7_wash_X0_dropTips rfl rfl rfl (by decide +kernel) ⟨Nat.le_of_ble_eq_true rfl, Nat.le_of_ble_eq_true rfl⟩) hK hN hP hD hS hA [32, 33, 34, 1, 2, 3, 4, 5, 6] [0, 7, 8, 9, 10, 11, 12, 13, 14, 15, 16, 17, 18, 19, 20, 21, 22, 23, 24, 25, 26, 27, 28, 29, 30, 31] [0, 29, 30, 31, 32, 33, 34, 1, 2, 3, 4, 5, 6, 7, 8, 9, 10, 11, 12, 13, 14, 15, 16, 17, 18, 19, 20, 21, 22, 23, 24, 25, 26, 27, 28] rfl rfl (by decide +kernel) (by decide +kernel) (fun _ => rfl) 0 rfl rfl rfl rfl hl.1 rfl (Nat.le_of_ble_eq_true rfl) dX7_wash_12 ⟨Nat.zero_le _, Nat.zero_le _⟩ (fun _ H locs hP hD hS => ?_)
  have hP : va_P (dC, dI) vwCl (wX7 cI cZ cC q0 qn qs qt qh qw qf qr qc qp o1.1 ++ wX4 cI cZ cC qn o12.2.2 ++ wH cI cZ cC cO qh u1 o1.2 ++ wX0 cI cZ cC qf o12.2.1) H := hP
  have hD : va_D A (wX7 cI cZ cC q0 qn qs qt qh qw qf qr qc qp o1.1 ++ wX4 cI cZ cC qn o12.2.2 ++ wH cI cZ cC cO qh u1 o1.2 ++ wX0 cI cZ cC qf o12.2.1) := hD
  obtain rfl := Option.some.inj hf
  exact W.iret (v := o12.1) hx hb hr (fun t ht hW => ⟨⟨_, u1, rfl, rfl, by rw [ht]; exact hP, hD⟩, hS.F ht⟩) hS.2.2 dX7_wash_15
