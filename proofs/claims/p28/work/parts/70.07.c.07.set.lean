set_option maxHeartbeats 4000000 in
set_option maxRecDepth 100000 in
theorem mX7_set (l : Launch) (dC : Nat → ClassId) (dI : Nat → Nat → Nat) (cI cZ cC cO : ClassId) (q0 : Nat → Nat) (qn : Nat → Nat) (qs : Nat → Nat) (qt : Nat → Nat) (qh : Nat → Nat) (qw : Nat → Nat) (qf : Nat → Nat) (qr : Nat → Nat) (qc : Nat → Nat) (qp : Nat → Nat) (uh : QH) (a1 : Int32) (a2 : Int32) (g0 : GX7) (gn : GX4) (gh : GH) (sz : Nat) (out : Int32 × GX7 × GX4 × GH) (hf : fX7_set a1 a2 g0 gn gh = some out) : Met l yX7_set wsX7_set rmX7_set (va_Pc [.ref (q0 0), .int a1, .int a2] (pcW (dC, dI) (wTys cI cZ cC cO) sz (wX7 cI cZ cC q0 qn qs qt qh qw qf qr qc qp g0 ++ wX4 cI cZ cC qn gn ++ wH cI cZ cC cO qh uh gh))) (va_Qi (fun r (_ : QH) => r = out.1) (fun u => poW (dC, dI) (va_A (wX7 cI cZ cC q0 qn qs qt qh qw qf qr qc qp g0 ++ wX4 cI cZ cC qn gn ++ wH cI cZ cC cO qh uh gh) sz) (wX7 cI cZ cC q0 qn qs qt qh qw qf qr qc qp out.2.1 ++ wX4 cI cZ cC qn out.2.2.1 ++ wH cI cZ cC cO qh u out.2.2.2)) (va_A (wX7 cI cZ cC q0 qn qs qt qh qw qf qr qc qp g0 ++ wX4 cI cZ cC qn gn ++ wH cI cZ cC cO qh uh gh) sz)) 0 0 (va_A (wX7 cI cZ cC q0 qn qs qt qh qw qf qr qc qp g0 ++ wX4 cI cZ cC qn gn ++ wH cI cZ cC cO qh uh gh) sz) := by
  refine Met.ofW (cc := cX7_set) (maxL := 3) (ret := (some .int)) (by decide) rfl ?_
  intro p e s m args below meth c s₁ B hml hv
  obtain ⟨hargs, hsz, hP, hK, hN, hD0⟩ := hv
  have hx := B.exec
  have hb := B.bytes
  have hr := B.returns
  have hts := atoms_spec (ws := wsX7_set) B.pre
  have hown : s.vm.findClass RX7 = some m.cls := findClass_of_methodNamed B.named
  have hlocks := B.notSynchronized
  have hk0 := hts (.fieldLink RX7 12 "RimGrains" "now" "LRimGrains$State;") (by decide +kernel)
  have hin7 : ∀ w ∈ wsX70, w ∈ wsX7_set := by decide +kernel
  subst hsz
  have hD := hD0.self (sz := s.heap.size)
  generalize hAe : va_A (wX7 cI cZ cC q0 qn qs qt qh qw qf qr qc qp g0 ++ wX4 cI cZ cC qn gn ++ wH cI cZ cC cO qh uh gh) s.heap.size = A at hD ⊢
  have hA : ∀ q : Nat, s.heap.size ≤ q → A q := fun q h => by rw [← hAe]; exact Or.inr h
  have hS : va_S A s.heap s.heap [] := va_S.rf
  have hE := lg_entry_eq m [.ref (q0 0), .int a1, .int a2] 3
  rw [← hargs] at hE
  rw [hE]
  have hl := lv_entry [.ref (q0 0), .int a1, .int a2] (n := 3) (Nat.le_of_ble_eq_true rfl)
  generalize (lg_sl [.ref (q0 0), .int a1, .int a2] ++ List.replicate (3 - (lg_sl [.ref (q0 0), .int a1, .int a2]).length) Slot.unset).toArray = ls at hl ⊢
  have hl : lv_has ls 3 [(0, .ref (q0 0)), (1, .int a1), (2, .int a2)] := hl
  have hP : va_P (dC, dI) vwCl (wX7 cI cZ cC q0 qn qs qt qh qw qf qr qc qp g0 ++ wX4 cI cZ cC qn gn ++ wH cI cZ cC cO qh uh gh) s.heap := hP
  unfold fX7_set at hf
  refine lv_iload_n hx hb dX7_set_0 rfl (lv_at hl 1 rfl) ?_
  refine lv_iload_n hx hb dX7_set_1 rfl (lv_at hl 2 rfl) ?_
  obtain ⟨o2, ho2, hf⟩ := ob hf
  refine rS (rest := []) (As := [.int a1, .int a2]) ⟨hx, hb, hml, hown, hts⟩ (mX7_isSettingValue l dC dI cI cZ cC cO  _ _ _ ho2) (va_cwS 2 hts gX7_set_X7_isSettingValue rfl rfl rfl (by decide +kernel) ⟨Nat.le_of_ble_eq_true rfl, Nat.le_of_ble_eq_true rfl⟩) hK hN hP [] rfl rfl hl.1 rfl (Nat.le_of_ble_eq_true rfl) dX7_set_2 ⟨Nat.zero_le _, Nat.zero_le _⟩ ?_
  refine lv_if_ne (tgt := 10) hx hb dX7_set_5 (by decide) (fun hc => ?_) (fun hc => ?_)
  · have hf := oe hc hf
    refine lv_aload_n hx hb dX7_set_10 rfl (lv_at hl 0 rfl) ?_
    obtain ⟨o11, ho11, hf⟩ := ob hf
    refine wVv (W1 := (fun u11 : QH => (wX7 cI cZ cC q0 qn qs qt qh qw qf qr qc qp o11.1 ++ wX4 cI cZ cC qn gn ++ wH cI cZ cC cO qh u11 o11.2))) (rest := []) (As := []) ⟨hx, hb, hml, hown, hts⟩ (mX7_record l dC dI cI cZ cC cO q0 qn qs qt qh qw qf qr qc qp uh _ _ _ _ _ ho11) (cwV 0 hts gX7_set_X7_record rfl rfl rfl (by decide +kernel) ⟨Nat.le_of_ble_eq_true rfl, Nat.le_of_ble_eq_true rfl⟩) hK hN hP hD hS hA [0, 1, 2, 3, 4, 5, 6, 7, 8, 9, 10, 11, 12, 13, 14, 15, 16, 17, 18, 19, 20, 21, 22, 23, 24, 25, 26, 27, 28, 29, 30, 31] [] [0, 1, 2, 3, 4, 5, 6, 7, 8, 9, 10, 11, 12, 13, 14, 15, 16, 17, 18, 19, 20, 21, 22, 23, 24, 25, 26, 27, 28, 29, 30, 31] rfl rfl (by decide +kernel) (by decide +kernel) (fun _ => rfl) 6 rfl rfl rfl rfl hl.1 rfl (Nat.le_of_ble_eq_true rfl) dX7_set_11 ⟨Nat.zero_le _, Nat.zero_le _⟩ (fun u11 H locs hP hD hS => ?_)
    have hP : va_P (dC, dI) vwCl (wX7 cI cZ cC q0 qn qs qt qh qw qf qr qc qp o11.1 ++ wX4 cI cZ cC qn gn ++ wH cI cZ cC cO qh u11 o11.2) H := hP
    have hD : va_D A (wX7 cI cZ cC q0 qn qs qt qh qw qf qr qc qp o11.1 ++ wX4 cI cZ cC qn gn ++ wH cI cZ cC cO qh u11 o11.2) := hD
    refine lv_aload_n hx hb dX7_set_14 rfl (lv_at hl 0 rfl) ?_
    refine va_get (D := (dC, dI)) (ci := 6) (v := .ref (qn 0)) (C := RX7) (T := TX7) (N := 14) hx hb hts hin7 hown hK hP 0 rfl rfl 0 (by decide) hk0 (fun _ h9 => h9) rfl dX7_set_15 ?_
    refine lv_iload_n hx hb dX7_set_18 rfl (lv_at hl 1 rfl) ?_
    refine lv_iload_n hx hb dX7_set_19 rfl (lv_at hl 2 rfl) ?_
    obtain ⟨o20, ho20, hf⟩ := ob hf
    refine wVi (W1 := (fun _ : Unit => (wX7 cI cZ cC q0 qn qs qt qh qw qf qr qc qp o11.1 ++ wX4 cI cZ cC qn o20.2 ++ wH cI cZ cC cO qh u11 o11.2))) (rest := []) (As := [.int a1, .int a2]) ⟨hx, hb, hml, hown, hts⟩ (mX4_change l dC dI cI cZ cC cO qn _ _ _ _ _ ho20) (cwV 2 hts gX7_set_X4_change rfl rfl rfl (by decide +kernel) ⟨Nat.le_of_ble_eq_true rfl, Nat.le_of_ble_eq_true rfl⟩) hK hN hP hD hS hA [1, 2, 3, 4, 5, 6] [0, 7, 8, 9, 10, 11, 12, 13, 14, 15, 16, 17, 18, 19, 20, 21, 22, 23, 24, 25, 26, 27, 28, 29, 30, 31] [0, 26, 27, 28, 29, 30, 31, 1, 2, 3, 4, 5, 6, 7, 8, 9, 10, 11, 12, 13, 14, 15, 16, 17, 18, 19, 20, 21, 22, 23, 24, 25] rfl rfl (by decide +kernel) (by decide +kernel) (fun _ => rfl) 3 rfl rfl rfl rfl hl.1 rfl (Nat.le_of_ble_eq_true rfl) dX7_set_20 ⟨Nat.zero_le _, Nat.zero_le _⟩ (fun _ H locs hP hD hS => ?_)
    have hP : va_P (dC, dI) vwCl (wX7 cI cZ cC q0 qn qs qt qh qw qf qr qc qp o11.1 ++ wX4 cI cZ cC qn o20.2 ++ wH cI cZ cC cO qh u11 o11.2) H := hP
    have hD : va_D A (wX7 cI cZ cC q0 qn qs qt qh qw qf qr qc qp o11.1 ++ wX4 cI cZ cC qn o20.2 ++ wH cI cZ cC cO qh u11 o11.2) := hD
    obtain rfl := Option.some.inj hf
    exact W.iret (v := o20.1) hx hb hr (fun t ht hW => ⟨⟨_, u11, rfl, rfl, by rw [ht]; exact hP, hD⟩, hS.F ht⟩) hS.2.2 dX7_set_23
  · have hf := ot hc hf
    refine lv_iconst (v := (-1)) hx hb dX7_set_8 (by decide) ?_
    obtain rfl := Option.some.inj hf
    exact W.iret (v := (-1)) hx hb hr (fun t ht hW => ⟨⟨_, uh, rfl, rfl, by rw [ht]; exact hP, hD⟩, hS.F ht⟩) hS.2.2 dX7_set_9
