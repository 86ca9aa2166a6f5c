set_option maxHeartbeats 40000000 in
set_option maxRecDepth 100000 in
theorem mX7_carryOut (l : Launch) (dC : Nat → ClassId) (dI : Nat → Nat → Nat) (cI cZ cC cO : ClassId) (q0 : Nat → Nat) (qn : Nat → Nat) (qs : Nat → Nat) (qt : Nat → Nat) (qh : Nat → Nat) (qw : Nat → Nat) (qf : Nat → Nat) (qr : Nat → Nat) (qc : Nat → Nat) (qp : Nat → Nat) (uh : QH) (g0 : GX7) (gn : GX4) (gh : GH) (gw : GX6) (gf : GX0) (gp : GX1) (sz : Nat) (out : Int32 × GX7 × GX4 × GH × GX6 × GX0 × GX1) (hf : fX7_carryOut g0 gn gh gw gf gp = some out) : Met l yX7_carryOut wsX7_carryOut rmX7_carryOut (va_Pc [.ref (q0 0)] (pcW (dC, dI) (wTys cI cZ cC cO) sz (wX7 cI cZ cC q0 qn qs qt qh qw qf qr qc qp g0 ++ wX4 cI cZ cC qn gn ++ wH cI cZ cC cO qh uh gh ++ wX6 cI cZ cC qw gw ++ wX0 cI cZ cC qf gf ++ wX1 cI cZ cC qp gp))) (va_Qi (fun r (_ : QH) => r = out.1) (fun u => poW (dC, dI) (va_A (wX7 cI cZ cC q0 qn qs qt qh qw qf qr qc qp g0 ++ wX4 cI cZ cC qn gn ++ wH cI cZ cC cO qh uh gh ++ wX6 cI cZ cC qw gw ++ wX0 cI cZ cC qf gf ++ wX1 cI cZ cC qp gp) sz) (wX7 cI cZ cC q0 qn qs qt qh qw qf qr qc qp out.2.1 ++ wX4 cI cZ cC qn out.2.2.1 ++ wH cI cZ cC cO qh u out.2.2.2.1 ++ wX6 cI cZ cC qw out.2.2.2.2.1 ++ wX0 cI cZ cC qf out.2.2.2.2.2.1 ++ wX1 cI cZ cC qp out.2.2.2.2.2.2)) (va_A (wX7 cI cZ cC q0 qn qs qt qh qw qf qr qc qp g0 ++ wX4 cI cZ cC qn gn ++ wH cI cZ cC cO qh uh gh ++ wX6 cI cZ cC qw gw ++ wX0 cI cZ cC qf gf ++ wX1 cI cZ cC qp gp) sz)) 0 0 (va_A (wX7 cI cZ cC q0 qn qs qt qh qw qf qr qc qp g0 ++ wX4 cI cZ cC qn gn ++ wH cI cZ cC cO qh uh gh ++ wX6 cI cZ cC qw gw ++ wX0 cI cZ cC qf gf ++ wX1 cI cZ cC qp gp) sz) := by
  refine Met.ofW (cc := cX7_carryOut) (maxL := 3) (ret := (some .int)) (by decide) rfl ?_
  intro p e s m args below meth c s₁ B hml hv
  obtain ⟨hargs, hsz, hP, hK, hN, hD0⟩ := hv
  have hx := B.exec
  have hb := B.bytes
  have hr := B.returns
  have hts := atoms_spec (ws := wsX7_carryOut) B.pre
  have hown : s.vm.findClass RX7 = some m.cls := findClass_of_methodNamed B.named
  have hlocks := B.notSynchronized
  have hk0 := hts (.fieldLink RX7 57 "RimGrains" "pad" "LRimGrains$Pad;") (by decide +kernel)
  have hk1 := hts (.fieldLink RX7 69 "RimGrains" "stopError" "I") (by decide +kernel)
  have hk2 := hN.f (args := args) 25 rfl
  have hk3 := hN.f (args := args) 26 rfl
  have hk4 := hts (.fieldLink RX7 72 "RimGrains" "stopDeed" "I") (by decide +kernel)
  have hk5 := hN.f (args := args) 24 rfl
  have hk6 := hts (.fieldLink RX7 75 "RimGrains" "stopPlace" "I") (by decide +kernel)
  have hin7 : ∀ w ∈ wsX70, w ∈ wsX7_carryOut := by decide +kernel
  have hin1 : ∀ w ∈ wsX10, w ∈ wsX7_carryOut := by decide +kernel
  subst hsz
  have hD := hD0.self (sz := s.heap.size)
  generalize hAe : va_A (wX7 cI cZ cC q0 qn qs qt qh qw qf qr qc qp g0 ++ wX4 cI cZ cC qn gn ++ wH cI cZ cC cO qh uh gh ++ wX6 cI cZ cC qw gw ++ wX0 cI cZ cC qf gf ++ wX1 cI cZ cC qp gp) s.heap.size = A at hD ⊢
  have hA : ∀ q : Nat, s.heap.size ≤ q → A q := fun q h => by rw [← hAe]; exact Or.inr h
  have hS : va_S A s.heap s.heap [] := va_S.rf
  have hE := lg_entry_eq m [.ref (q0 0)] 3
  rw [← hargs] at hE
  rw [hE]
  have hl := lv_entry [.ref (q0 0)] (n := 3) (Nat.le_of_ble_eq_true rfl)
  generalize (lg_sl [.ref (q0 0)] ++ List.replicate (3 - (lg_sl [.ref (q0 0)]).length) Slot.unset).toArray = ls at hl ⊢
  have hl : lv_has ls 3 [(0, .ref (q0 0))] := hl
  have hP : va_P (dC, dI) vwCl (wX7 cI cZ cC q0 qn qs qt qh qw qf qr qc qp g0 ++ wX4 cI cZ cC qn gn ++ wH cI cZ cC cO qh uh gh ++ wX6 cI cZ cC qw gw ++ wX0 cI cZ cC qf gf ++ wX1 cI cZ cC qp gp) s.heap := hP
  unfold fX7_carryOut at hf
  refine lv_aload_n hx hb dX7_carryOut_0 rfl (lv_at hl 0 rfl) ?_
  refine va_get (D := (dC, dI)) (ci := 6) (v := .ref (qp 0)) (C := RX7) (T := TX7) (N := 14) hx hb hts hin7 hown hK hP 0 rfl rfl 8 (by decide) hk0 (fun _ h9 => h9) rfl dX7_carryOut_1 ?_
  obtain ⟨o4, ho4, hf⟩ := ob hf
  refine rV (rest := []) (As := []) ⟨hx, hb, hml, hown, hts⟩ (mX1_firstWrong l dC dI cI cZ cC cO qp _ _ ho4) (cwV 0 hts gX7_carryOut_X1_firstWrong rfl rfl rfl (by decide +kernel) ⟨Nat.le_of_ble_eq_true rfl, Nat.le_of_ble_eq_true rfl⟩) hK hN hP [36, 37] rfl 1 rfl rfl rfl rfl hl.1 rfl (Nat.le_of_ble_eq_true rfl) dX7_carryOut_4 ⟨Nat.zero_le _, Nat.zero_le _⟩ ?_
  refine lv_bipush (v := (-4)) hx hb dX7_carryOut_7 (by decide) ?_
  refine lv_icmp_eq (tgt := 15) hx hb dX7_carryOut_9 (by decide) (fun hc => ?_) (fun hc => ?_)
  · have hf := ot hc hf
    refine lv_aload_n hx hb dX7_carryOut_15 rfl (lv_at hl 0 rfl) ?_
    obtain ⟨o16, ho16, hf⟩ := ob hf
    refine wVv (W1 := (fun u16 : QH => (wX7 cI cZ cC q0 qn qs qt qh qw qf qr qc qp o16.1 ++ wX4 cI cZ cC qn gn ++ wH cI cZ cC cO qh u16 o16.2 ++ wX6 cI cZ cC qw gw ++ wX0 cI cZ cC qf gf ++ wX1 cI cZ cC qp gp))) (rest := []) (As := []) ⟨hx, hb, hml, hown, hts⟩ (mX7_record l dC dI cI cZ cC cO q0 qn qs qt qh qw qf qr qc qp uh _ _ _ _ _ ho16) (cwV 0 hts gX7_carryOut_X7_record rfl rfl rfl (by decide +kernel) ⟨Nat.le_of_ble_eq_true rfl, Nat.le_of_ble_eq_true rfl⟩) hK hN hP hD hS hA [0, 1, 2, 3, 4, 5, 6, 7, 8, 9, 10, 11, 12, 13, 14, 15, 16, 17, 18, 19, 20, 21, 22, 23, 24, 25, 26, 27, 28, 29, 30, 31] [32, 33, 34, 35, 36, 37] [6, 7, 8, 9, 10, 11, 12, 13, 14, 15, 16, 17, 18, 19, 20, 21, 22, 23, 24, 25, 26, 27, 28, 29, 30, 31, 32, 33, 34, 35, 36, 37, 0, 1, 2, 3, 4, 5] rfl rfl (by decide +kernel) (by decide +kernel) (fun _ => rfl) 6 rfl rfl rfl rfl hl.1 rfl (Nat.le_of_ble_eq_true rfl) dX7_carryOut_16 ⟨Nat.zero_le _, Nat.zero_le _⟩ (fun u16 H locs hP hD hS => ?_)
    have hP : va_P (dC, dI) vwCl (wX7 cI cZ cC q0 qn qs qt qh qw qf qr qc qp o16.1 ++ wX4 cI cZ cC qn gn ++ wH cI cZ cC cO qh u16 o16.2 ++ wX6 cI cZ cC qw gw ++ wX0 cI cZ cC qf gf ++ wX1 cI cZ cC qp gp) H := hP
    have hD : va_D A (wX7 cI cZ cC q0 qn qs qt qh qw qf qr qc qp o16.1 ++ wX4 cI cZ cC qn gn ++ wH cI cZ cC cO qh u16 o16.2 ++ wX6 cI cZ cC qw gw ++ wX0 cI cZ cC qf gf ++ wX1 cI cZ cC qp gp) := hD
    refine lv_aload_n hx hb dX7_carryOut_19 rfl (lv_at hl 0 rfl) ?_
    refine lv_iconst (v := 0) hx hb dX7_carryOut_20 (by decide) ?_
    refine va_put (D := (dC, dI)) (ci := 6) (v := .int 0) (ty := .int) (C := RX7) (T := TX7) (N := 14) hx hb hts hin7 tyX7 tyX7_ok nmX7 hown hK hP hD hS 0 rfl rfl 11 (by decide) hk1 (fun _ h9 => h9) rfl (by decide +kernel) rfl rfl (Nat.le_of_ble_eq_true rfl) dX7_carryOut_21 (fun H locs hP hD hS => ?_)
    have hP : va_P (dC, dI) vwCl (wX7 cI cZ cC q0 qn qs qt qh qw qf qr qc qp ((pX7_states o16.1), (pX7_saved o16.1), 0, (pX7_stopDeed o16.1), (pX7_stopPlace o16.1)) ++ wX4 cI cZ cC qn gn ++ wH cI cZ cC cO qh u16 o16.2 ++ wX6 cI cZ cC qw gw ++ wX0 cI cZ cC qf gf ++ wX1 cI cZ cC qp gp) H := hP
    have hD : va_D A (wX7 cI cZ cC q0 qn qs qt qh qw qf qr qc qp ((pX7_states o16.1), (pX7_saved o16.1), 0, (pX7_stopDeed o16.1), (pX7_stopPlace o16.1)) ++ wX4 cI cZ cC qn gn ++ wH cI cZ cC cO qh u16 o16.2 ++ wX6 cI cZ cC qw gw ++ wX0 cI cZ cC qf gf ++ wX1 cI cZ cC qp gp) := hD
    refine lv_iconst (v := 0) hx hb dX7_carryOut_24 (by decide) ?_
    refine lv_istore_n (lv' := [(1, .int 0), (0, .ref (q0 0))]) hx hb dX7_carryOut_25 rfl hl (by decide) rfl (fun ls hl => ?_)
    refine lv_aload_n hx hb dX7_carryOut_26 rfl (lv_at hl 1 rfl) ?_
    refine va_get (D := (dC, dI)) (ci := 6) (v := .ref (qp 0)) (C := RX7) (T := TX7) (N := 14) hx hb hts hin7 hown hK hP 0 rfl rfl 8 (by decide) hk0 (fun _ h9 => h9) rfl dX7_carryOut_27 ?_
    obtain ⟨o30, ho30, hf⟩ := ob hf
    refine wVv (W1 := (fun _ : Unit => (wX7 cI cZ cC q0 qn qs qt qh qw qf qr qc qp ((pX7_states o16.1), (pX7_saved o16.1), 0, (pX7_stopDeed o16.1), (pX7_stopPlace o16.1)) ++ wX4 cI cZ cC qn gn ++ wH cI cZ cC cO qh u16 o16.2 ++ wX6 cI cZ cC qw gw ++ wX0 cI cZ cC qf gf ++ wX1 cI cZ cC qp o30))) (rest := []) (As := []) ⟨hx, hb, hml, hown, hts⟩ (mX1_startReading l dC dI cI cZ cC cO qp _ _ _ ho30) (cwV 0 hts gX7_carryOut_X1_startReading rfl rfl rfl (by decide +kernel) ⟨Nat.le_of_ble_eq_true rfl, Nat.le_of_ble_eq_true rfl⟩) hK hN hP hD hS hA [36, 37] [0, 1, 2, 3, 4, 5, 6, 7, 8, 9, 10, 11, 12, 13, 14, 15, 16, 17, 18, 19, 20, 21, 22, 23, 24, 25, 26, 27, 28, 29, 30, 31, 32, 33, 34, 35] [0, 1, 2, 3, 4, 5, 6, 7, 8, 9, 10, 11, 12, 13, 14, 15, 16, 17, 18, 19, 20, 21, 22, 23, 24, 25, 26, 27, 28, 29, 30, 31, 32, 33, 34, 35, 36, 37] rfl rfl (by decide +kernel) (by decide +kernel) (fun _ => rfl) 1 rfl rfl rfl rfl hl.1 rfl (Nat.le_of_ble_eq_true rfl) dX7_carryOut_30 ⟨Nat.zero_le _, Nat.zero_le _⟩ (fun _ H locs hP hD hS => ?_)
    have hP : va_P (dC, dI) vwCl (wX7 cI cZ cC q0 qn qs qt qh qw qf qr qc qp ((pX7_states o16.1), (pX7_saved o16.1), 0, (pX7_stopDeed o16.1), (pX7_stopPlace o16.1)) ++ wX4 cI cZ cC qn gn ++ wH cI cZ cC cO qh u16 o16.2 ++ wX6 cI cZ cC qw gw ++ wX0 cI cZ cC qf gf ++ wX1 cI cZ cC qp o30) H := hP
    have hD : va_D A (wX7 cI cZ cC q0 qn qs qt qh qw qf qr qc qp ((pX7_states o16.1), (pX7_saved o16.1), 0, (pX7_stopDeed o16.1), (pX7_stopPlace o16.1)) ++ wX4 cI cZ cC qn gn ++ wH cI cZ cC cO qh u16 o16.2 ++ wX6 cI cZ cC qw gw ++ wX0 cI cZ cC qf gf ++ wX1 cI cZ cC qp o30) := hD
    have hL33 : ∀ (n : Nat) (s33 : Int32 × GX7 × GX4 × GX6 × GX0 × GX1) (o33 : Int32 × GX7 × GX4 × GX6 × GX0 × GX1), lp tX7_carryOut_33 n s33 = some o33 → ∀ (H : Heap) (locs : List Loc) (ls : Array Slot), va_P (dC, dI) vwCl (wX7 cI cZ cC q0 qn qs qt qh qw qf qr qc qp s33.2.1 ++ wX4 cI cZ cC qn s33.2.2.1 ++ wH cI cZ cC cO qh u16 o16.2 ++ wX6 cI cZ cC qw s33.2.2.2.1 ++ wX0 cI cZ cC qf s33.2.2.2.2.1 ++ wX1 cI cZ cC qp s33.2.2.2.2.2) H → va_D A (wX7 cI cZ cC q0 qn qs qt qh qw qf qr qc qp s33.2.1 ++ wX4 cI cZ cC qn s33.2.2.1 ++ wH cI cZ cC cO qh u16 o16.2 ++ wX6 cI cZ cC qw s33.2.2.2.1 ++ wX0 cI cZ cC qf s33.2.2.2.2.1 ++ wX1 cI cZ cC qp s33.2.2.2.2.2) → va_S A s.heap H locs → lv_has ls 3 [(0, .ref (q0 0)), (1, .int s33.1)] → (∀ (H : Heap) (locs : List Loc) (ls : Array Slot), va_P (dC, dI) vwCl (wX7 cI cZ cC q0 qn qs qt qh qw qf qr qc qp o33.2.1 ++ wX4 cI cZ cC qn o33.2.2.1 ++ wH cI cZ cC cO qh u16 o16.2 ++ wX6 cI cZ cC qw o33.2.2.2.1 ++ wX0 cI cZ cC qf o33.2.2.2.2.1 ++ wX1 cI cZ cC qp o33.2.2.2.2.2) H → va_D A (wX7 cI cZ cC q0 qn qs qt qh qw qf qr qc qp o33.2.1 ++ wX4 cI cZ cC qn o33.2.2.1 ++ wH cI cZ cC cO qh u16 o16.2 ++ wX6 cI cZ cC qw o33.2.2.2.1 ++ wX0 cI cZ cC qf o33.2.2.2.2.1 ++ wX1 cI cZ cC qp o33.2.2.2.2.2) → va_S A s.heap H locs → lv_has ls 3 [(0, .ref (q0 0)), (1, .int o33.1)] → W p l e (headSpec wsX7_carryOut rmX7_carryOut).room s m args below meth c H locs 0 0 (MQ below (va_Qi (fun r (_ : QH) => r = out.1) (fun u => poW (dC, dI) A (wX7 cI cZ cC q0 qn qs qt qh qw qf qr qc qp out.2.1 ++ wX4 cI cZ cC qn out.2.2.1 ++ wH cI cZ cC cO qh u out.2.2.2.1 ++ wX6 cI cZ cC qw out.2.2.2.2.1 ++ wX0 cI cZ cC qf out.2.2.2.2.2.1 ++ wX1 cI cZ cC qp out.2.2.2.2.2.2)) A) args s 0 0 A) (F0 m 109 ls [])) → W p l e (headSpec wsX7_carryOut rmX7_carryOut).room s m args below meth c H locs 0 0 (MQ below (va_Qi (fun r (_ : QH) => r = out.1) (fun u => poW (dC, dI) A (wX7 cI cZ cC q0 qn qs qt qh qw qf qr qc qp out.2.1 ++ wX4 cI cZ cC qn out.2.2.1 ++ wH cI cZ cC cO qh u out.2.2.2.1 ++ wX6 cI cZ cC qw out.2.2.2.2.1 ++ wX0 cI cZ cC qf out.2.2.2.2.2.1 ++ wX1 cI cZ cC qp out.2.2.2.2.2.2)) A) args s 0 0 A) (F0 m 33 ls []) := by
      intro n
      induction n with
      | zero => intro s33 o33 hf; exact (lp0 hf).elim
      | succ n ih33 =>
        intro s33 o33 hf H locs ls hP hD hS hl kx
        obtain ⟨r33, hf, hn⟩ := lps hf
        unfold tX7_carryOut_33 at hf
        refine lv_iload_n hx hb dX7_carryOut_33 rfl (lv_at hl 1 rfl) ?_
        refine lv_bipush (v := 60) hx hb dX7_carryOut_34 (by decide) ?_
        refine lv_icmp_ge (tgt := 109) hx hb dX7_carryOut_36 (by decide) (fun hc => ?_) (fun hc => ?_)
        · have hf := ot hc hf
          obtain rfl := Option.some.inj hf
          obtain rfl := Option.some.inj hn
          exact kx _ _ ls hP hD hS (lv_sub hl [0, 1] rfl)
        · have hf := oe hc hf
          refine lv_aload_n hx hb dX7_carryOut_39 rfl (lv_at hl 0 rfl) ?_
          refine va_get (D := (dC, dI)) (ci := 6) (v := .int (pX7_stopError s33.2.1)) (C := RX7) (T := TX7) (N := 14) hx hb hts hin7 hown hK hP 0 rfl rfl 11 (by decide) hk1 (fun _ h9 => h9) rfl dX7_carryOut_40 ?_
          refine lv_if_ne (tgt := 109) hx hb dX7_carryOut_43 (by decide) (fun hc => ?_) (fun hc => ?_)
          · have hf := oe hc hf
            obtain rfl := Option.some.inj hf
            obtain rfl := Option.some.inj hn
            exact kx _ _ ls hP hD hS (lv_sub hl [0, 1] rfl)
          · have hf := ot hc hf
            refine lv_aload_n hx hb dX7_carryOut_46 rfl (lv_at hl 0 rfl) ?_
            refine va_get (D := (dC, dI)) (ci := 6) (v := .ref (qp 0)) (C := RX7) (T := TX7) (N := 14) hx hb hts hin7 hown hK hP 0 rfl rfl 8 (by decide) hk0 (fun _ h9 => h9) rfl dX7_carryOut_47 ?_
            obtain ⟨o50, ho50, hf⟩ := ob hf
            refine wVi (W1 := (fun _ : Unit => (wX7 cI cZ cC q0 qn qs qt qh qw qf qr qc qp s33.2.1 ++ wX4 cI cZ cC qn s33.2.2.1 ++ wH cI cZ cC cO qh u16 o16.2 ++ wX6 cI cZ cC qw s33.2.2.2.1 ++ wX0 cI cZ cC qf s33.2.2.2.2.1 ++ wX1 cI cZ cC qp o50.2))) (rest := []) (As := []) ⟨hx, hb, hml, hown, hts⟩ (mX1_readDeed l dC dI cI cZ cC cO qp _ _ _ ho50) (cwV 0 hts gX7_carryOut_X1_readDeed rfl rfl rfl (by decide +kernel) ⟨Nat.le_of_ble_eq_true rfl, Nat.le_of_ble_eq_true rfl⟩) hK hN hP hD hS hA [36, 37] [0, 1, 2, 3, 4, 5, 6, 7, 8, 9, 10, 11, 12, 13, 14, 15, 16, 17, 18, 19, 20, 21, 22, 23, 24, 25, 26, 27, 28, 29, 30, 31, 32, 33, 34, 35] [0, 1, 2, 3, 4, 5, 6, 7, 8, 9, 10, 11, 12, 13, 14, 15, 16, 17, 18, 19, 20, 21, 22, 23, 24, 25, 26, 27, 28, 29, 30, 31, 32, 33, 34, 35, 36, 37] rfl rfl (by decide +kernel) (by decide +kernel) (fun _ => rfl) 1 rfl rfl rfl rfl hl.1 rfl (Nat.le_of_ble_eq_true rfl) dX7_carryOut_50 ⟨Nat.zero_le _, Nat.zero_le _⟩ (fun _ H locs hP hD hS => ?_)
            have hP : va_P (dC, dI) vwCl (wX7 cI cZ cC q0 qn qs qt qh qw qf qr qc qp s33.2.1 ++ wX4 cI cZ cC qn s33.2.2.1 ++ wH cI cZ cC cO qh u16 o16.2 ++ wX6 cI cZ cC qw s33.2.2.2.1 ++ wX0 cI cZ cC qf s33.2.2.2.2.1 ++ wX1 cI cZ cC qp o50.2) H := hP
            have hD : va_D A (wX7 cI cZ cC q0 qn qs qt qh qw qf qr qc qp s33.2.1 ++ wX4 cI cZ cC qn s33.2.2.1 ++ wH cI cZ cC cO qh u16 o16.2 ++ wX6 cI cZ cC qw s33.2.2.2.1 ++ wX0 cI cZ cC qf s33.2.2.2.2.1 ++ wX1 cI cZ cC qp o50.2) := hD
            refine lv_if_eq (tgt := 109) hx hb dX7_carryOut_53 (by decide) (fun hc => ?_) (fun hc => ?_)
            · have hf := ot hc hf
              obtain rfl := Option.some.inj hf
              obtain rfl := Option.some.inj hn
              exact kx _ _ ls hP hD hS (lv_sub hl [0, 1] rfl)
            · have hf := oe hc hf
              refine lv_aload_n hx hb dX7_carryOut_56 rfl (lv_at hl 0 rfl) ?_
              refine lv_aload_n hx hb dX7_carryOut_57 rfl (lv_at hl 0 rfl) ?_
              refine va_get (D := (dC, dI)) (ci := 6) (v := .ref (qp 0)) (C := RX7) (T := TX7) (N := 14) hx hb hts hin7 hown hK hP 0 rfl rfl 8 (by decide) hk0 (fun _ h9 => h9) rfl dX7_carryOut_58 ?_
              refine va_getN (D := (dC, dI)) (ci := 1) (v := .int (pX1_letter o50.2)) (C := RX1) (T := TX1) (N := 6) hx hb hts hin1 hown hK hP 36 rfl rfl 4 (by decide) hk2 (fun _ h9 => h9) rfl dX7_carryOut_61 ?_
              refine lv_aload_n hx hb dX7_carryOut_64 rfl (lv_at hl 0 rfl) ?_
              refine va_get (D := (dC, dI)) (ci := 6) (v := .ref (qp 0)) (C := RX7) (T := TX7) (N := 14) hx hb hts hin7 hown hK hP 0 rfl rfl 8 (by decide) hk0 (fun _ h9 => h9) rfl dX7_carryOut_65 ?_
              refine va_getN (D := (dC, dI)) (ci := 1) (v := .int (pX1_number o50.2)) (C := RX1) (T := TX1) (N := 6) hx hb hts hin1 hown hK hP 36 rfl rfl 5 (by decide) hk3 (fun _ h9 => h9) rfl dX7_carryOut_68 ?_
              obtain ⟨o71, ho71, hf⟩ := ob hf
              refine wVi (W1 := (fun _ : Unit => (wX7 cI cZ cC q0 qn qs qt qh qw qf qr qc qp s33.2.1 ++ wX4 cI cZ cC qn o71.2.1 ++ wH cI cZ cC cO qh u16 o16.2 ++ wX6 cI cZ cC qw o71.2.2.1 ++ wX0 cI cZ cC qf o71.2.2.2 ++ wX1 cI cZ cC qp o50.2))) (rest := []) (As := [.int (pX1_letter o50.2), .int (pX1_number o50.2)]) ⟨hx, hb, hml, hown, hts⟩ (mX7_answerOfDeed l dC dI cI cZ cC cO q0 qn qs qt qh qw qf qr qc qp _ _ _ _ _ _ _ _ ho71) (cwV 2 hts gX7_carryOut_X7_answerOfDeed rfl rfl rfl (by decide +kernel) ⟨Nat.le_of_ble_eq_true rfl, Nat.le_of_ble_eq_true rfl⟩) hK hN hP hD hS hA [0, 1, 2, 3, 4, 5, 6, 32, 33, 34, 35] [7, 8, 9, 10, 11, 12, 13, 14, 15, 16, 17, 18, 19, 20, 21, 22, 23, 24, 25, 26, 27, 28, 29, 30, 31, 36, 37] [27, 28, 29, 30, 31, 32, 33, 0, 1, 2, 3, 4, 5, 6, 7, 8, 9, 10, 11, 12, 13, 14, 15, 16, 17, 18, 19, 20, 21, 22, 23, 24, 34, 35, 36, 37, 25, 26] rfl rfl (by decide +kernel) (by decide +kernel) (fun _ => rfl) 6 rfl rfl rfl rfl hl.1 rfl (Nat.le_of_ble_eq_true rfl) dX7_carryOut_71 ⟨Nat.zero_le _, Nat.zero_le _⟩ (fun _ H locs hP hD hS => ?_)
              have hP : va_P (dC, dI) vwCl (wX7 cI cZ cC q0 qn qs qt qh qw qf qr qc qp s33.2.1 ++ wX4 cI cZ cC qn o71.2.1 ++ wH cI cZ cC cO qh u16 o16.2 ++ wX6 cI cZ cC qw o71.2.2.1 ++ wX0 cI cZ cC qf o71.2.2.2 ++ wX1 cI cZ cC qp o50.2) H := hP
              have hD : va_D A (wX7 cI cZ cC q0 qn qs qt qh qw qf qr qc qp s33.2.1 ++ wX4 cI cZ cC qn o71.2.1 ++ wH cI cZ cC cO qh u16 o16.2 ++ wX6 cI cZ cC qw o71.2.2.1 ++ wX0 cI cZ cC qf o71.2.2.2 ++ wX1 cI cZ cC qp o50.2) := hD
              refine lv_istore_n (lv' := [(2, .int o71.1), (0, .ref (q0 0)), (1, .int s33.1)]) hx hb dX7_carryOut_74 rfl hl (by decide) rfl (fun ls hl => ?_)
              refine lv_iload_n hx hb dX7_carryOut_75 rfl (lv_at hl 0 rfl) ?_
              have hJ1 : ∀ (x1_1 : Int32) (g0_1 : GX7), jX7_carryOut_1 o50 o71 x1_1 g0_1 = some r33 → ∀ (H : Heap) (locs : List Loc) (ls : Array Slot), va_P (dC, dI) vwCl (wX7 cI cZ cC q0 qn qs qt qh qw qf qr qc qp g0_1 ++ wX4 cI cZ cC qn o71.2.1 ++ wH cI cZ cC cO qh u16 o16.2 ++ wX6 cI cZ cC qw o71.2.2.1 ++ wX0 cI cZ cC qf o71.2.2.2 ++ wX1 cI cZ cC qp o50.2) H → va_D A (wX7 cI cZ cC q0 qn qs qt qh qw qf qr qc qp g0_1 ++ wX4 cI cZ cC qn o71.2.1 ++ wH cI cZ cC cO qh u16 o16.2 ++ wX6 cI cZ cC qw o71.2.2.1 ++ wX0 cI cZ cC qf o71.2.2.2 ++ wX1 cI cZ cC qp o50.2) → va_S A s.heap H locs → lv_has ls 3 [(0, .ref (q0 0)), (1, .int x1_1)] → W p l e (headSpec wsX7_carryOut rmX7_carryOut).room s m args below meth c H locs 0 0 (MQ below (va_Qi (fun r (_ : QH) => r = out.1) (fun u => poW (dC, dI) A (wX7 cI cZ cC q0 qn qs qt qh qw qf qr qc qp out.2.1 ++ wX4 cI cZ cC qn out.2.2.1 ++ wH cI cZ cC cO qh u out.2.2.2.1 ++ wX6 cI cZ cC qw out.2.2.2.2.1 ++ wX0 cI cZ cC qf out.2.2.2.2.2.1 ++ wX1 cI cZ cC qp out.2.2.2.2.2.2)) A) args s 0 0 A) (F0 m 106 ls []) := by
                intro x1_1 g0_1 hf H locs ls hP hD hS hl
                unfold jX7_carryOut_1 at hf
                refine lv_goto (tgt := 33) hx hb dX7_carryOut_106 (by decide) ?_
                obtain rfl := Option.some.inj hf
                exact ih33 _ _ hn _ _ ls hP hD hS (lv_sub hl [0, 1] rfl) kx
              refine lv_if_ge (tgt := 103) hx hb dX7_carryOut_76 (by decide) (fun hc => ?_) (fun hc => ?_)
              · have hf := ot hc hf
                refine lv_iinc (v := (s33.1 + 1)) (lv' := [(1, .int (s33.1 + 1)), (2, .int o71.1), (0, .ref (q0 0))]) hx hb dX7_carryOut_103 hl (k := 2) rfl rfl (by decide) rfl (fun ls hl => ?_)
                exact hJ1 _ _ hf _ _ ls hP hD hS (lv_sub hl [2, 0] rfl)
              · have hf := oe hc hf
                refine lv_aload_n hx hb dX7_carryOut_79 rfl (lv_at hl 1 rfl) ?_
                refine lv_iload_n hx hb dX7_carryOut_80 rfl (lv_at hl 0 rfl) ?_
                refine va_put (D := (dC, dI)) (ci := 6) (v := .int o71.1) (ty := .int) (C := RX7) (T := TX7) (N := 14) hx hb hts hin7 tyX7 tyX7_ok nmX7 hown hK hP hD hS 0 rfl rfl 11 (by decide) hk1 (fun _ h9 => h9) rfl (by decide +kernel) rfl rfl (Nat.le_of_ble_eq_true rfl) dX7_carryOut_81 (fun H locs hP hD hS => ?_)
                have hP : va_P (dC, dI) vwCl (wX7 cI cZ cC q0 qn qs qt qh qw qf qr qc qp ((pX7_states s33.2.1), (pX7_saved s33.2.1), o71.1, (pX7_stopDeed s33.2.1), (pX7_stopPlace s33.2.1)) ++ wX4 cI cZ cC qn o71.2.1 ++ wH cI cZ cC cO qh u16 o16.2 ++ wX6 cI cZ cC qw o71.2.2.1 ++ wX0 cI cZ cC qf o71.2.2.2 ++ wX1 cI cZ cC qp o50.2) H := hP
                have hD : va_D A (wX7 cI cZ cC q0 qn qs qt qh qw qf qr qc qp ((pX7_states s33.2.1), (pX7_saved s33.2.1), o71.1, (pX7_stopDeed s33.2.1), (pX7_stopPlace s33.2.1)) ++ wX4 cI cZ cC qn o71.2.1 ++ wH cI cZ cC cO qh u16 o16.2 ++ wX6 cI cZ cC qw o71.2.2.1 ++ wX0 cI cZ cC qf o71.2.2.2 ++ wX1 cI cZ cC qp o50.2) := hD
                refine lv_aload_n hx hb dX7_carryOut_84 rfl (lv_at hl 1 rfl) ?_
                refine lv_iload_n hx hb dX7_carryOut_85 rfl (lv_at hl 2 rfl) ?_
                refine va_put (D := (dC, dI)) (ci := 6) (v := .int s33.1) (ty := .int) (C := RX7) (T := TX7) (N := 14) hx hb hts hin7 tyX7 tyX7_ok nmX7 hown hK hP hD hS 0 rfl rfl 12 (by decide) hk4 (fun _ h9 => h9) rfl (by decide +kernel) rfl rfl (Nat.le_of_ble_eq_true rfl) dX7_carryOut_86 (fun H locs hP hD hS => ?_)
                have hP : va_P (dC, dI) vwCl (wX7 cI cZ cC q0 qn qs qt qh qw qf qr qc qp ((pX7_states s33.2.1), (pX7_saved s33.2.1), o71.1, s33.1, (pX7_stopPlace s33.2.1)) ++ wX4 cI cZ cC qn o71.2.1 ++ wH cI cZ cC cO qh u16 o16.2 ++ wX6 cI cZ cC qw o71.2.2.1 ++ wX0 cI cZ cC qf o71.2.2.2 ++ wX1 cI cZ cC qp o50.2) H := hP
                have hD : va_D A (wX7 cI cZ cC q0 qn qs qt qh qw qf qr qc qp ((pX7_states s33.2.1), (pX7_saved s33.2.1), o71.1, s33.1, (pX7_stopPlace s33.2.1)) ++ wX4 cI cZ cC qn o71.2.1 ++ wH cI cZ cC cO qh u16 o16.2 ++ wX6 cI cZ cC qw o71.2.2.1 ++ wX0 cI cZ cC qf o71.2.2.2 ++ wX1 cI cZ cC qp o50.2) := hD
                refine lv_aload_n hx hb dX7_carryOut_89 rfl (lv_at hl 1 rfl) ?_
                refine lv_aload_n hx hb dX7_carryOut_90 rfl (lv_at hl 1 rfl) ?_
                refine va_get (D := (dC, dI)) (ci := 6) (v := .ref (qp 0)) (C := RX7) (T := TX7) (N := 14) hx hb hts hin7 hown hK hP 0 rfl rfl 8 (by decide) hk0 (fun _ h9 => h9) rfl dX7_carryOut_91 ?_
                refine va_getN (D := (dC, dI)) (ci := 1) (v := .int (pX1_place o50.2)) (C := RX1) (T := TX1) (N := 6) hx hb hts hin1 hown hK hP 36 rfl rfl 3 (by decide) hk5 (fun _ h9 => h9) rfl dX7_carryOut_94 ?_
                refine va_put (D := (dC, dI)) (ci := 6) (v := .int (pX1_place o50.2)) (ty := .int) (C := RX7) (T := TX7) (N := 14) hx hb hts hin7 tyX7 tyX7_ok nmX7 hown hK hP hD hS 0 rfl rfl 13 (by decide) hk6 (fun _ h9 => h9) rfl (by decide +kernel) rfl rfl (Nat.le_of_ble_eq_true rfl) dX7_carryOut_97 (fun H locs hP hD hS => ?_)
                have hP : va_P (dC, dI) vwCl (wX7 cI cZ cC q0 qn qs qt qh qw qf qr qc qp ((pX7_states s33.2.1), (pX7_saved s33.2.1), o71.1, s33.1, (pX1_place o50.2)) ++ wX4 cI cZ cC qn o71.2.1 ++ wH cI cZ cC cO qh u16 o16.2 ++ wX6 cI cZ cC qw o71.2.2.1 ++ wX0 cI cZ cC qf o71.2.2.2 ++ wX1 cI cZ cC qp o50.2) H := hP
                have hD : va_D A (wX7 cI cZ cC q0 qn qs qt qh qw qf qr qc qp ((pX7_states s33.2.1), (pX7_saved s33.2.1), o71.1, s33.1, (pX1_place o50.2)) ++ wX4 cI cZ cC qn o71.2.1 ++ wH cI cZ cC cO qh u16 o16.2 ++ wX6 cI cZ cC qw o71.2.2.1 ++ wX0 cI cZ cC qf o71.2.2.2 ++ wX1 cI cZ cC qp o50.2) := hD
                refine lv_goto (tgt := 106) hx hb dX7_carryOut_100 (by decide) ?_
                exact hJ1 _ _ hf _ _ ls hP hD hS (lv_sub hl [1, 2] rfl)
    obtain ⟨o33, ho33, hf⟩ := ob hf
    refine hL33 FU _ _ ho33 _ _ ls hP hD hS (lv_sub hl [1, 0] rfl) (fun H locs ls hP hD hS hl => ?_)
    refine lv_aload_n hx hb dX7_carryOut_109 rfl (lv_at hl 0 rfl) ?_
    refine va_get (D := (dC, dI)) (ci := 6) (v := .ref (qp 0)) (C := RX7) (T := TX7) (N := 14) hx hb hts hin7 hown hK hP 0 rfl rfl 8 (by decide) hk0 (fun _ h9 => h9) rfl dX7_carryOut_110 ?_
    obtain ⟨o113, ho113, hf⟩ := ob hf
    refine wVv (W1 := (fun _ : Unit => (wX7 cI cZ cC q0 qn qs qt qh qw qf qr qc qp o33.2.1 ++ wX4 cI cZ cC qn o33.2.2.1 ++ wH cI cZ cC cO qh u16 o16.2 ++ wX6 cI cZ cC qw o33.2.2.2.1 ++ wX0 cI cZ cC qf o33.2.2.2.2.1 ++ wX1 cI cZ cC qp o113))) (rest := []) (As := []) ⟨hx, hb, hml, hown, hts⟩ (mX1_wipe l dC dI cI cZ cC cO qp _ _ _ ho113) (cwV 0 hts gX7_carryOut_X1_wipe rfl rfl rfl (by decide +kernel) ⟨Nat.le_of_ble_eq_true rfl, Nat.le_of_ble_eq_true rfl⟩) hK hN hP hD hS hA [36, 37] [0, 1, 2, 3, 4, 5, 6, 7, 8, 9, 10, 11, 12, 13, 14, 15, 16, 17, 18, 19, 20, 21, 22, 23, 24, 25, 26, 27, 28, 29, 30, 31, 32, 33, 34, 35] [0, 1, 2, 3, 4, 5, 6, 7, 8, 9, 10, 11, 12, 13, 14, 15, 16, 17, 18, 19, 20, 21, 22, 23, 24, 25, 26, 27, 28, 29, 30, 31, 32, 33, 34, 35, 36, 37] rfl rfl (by decide +kernel) (by decide +kernel) (fun _ => rfl) 1 rfl rfl rfl rfl hl.1 rfl (Nat.le_of_ble_eq_true rfl) dX7_carryOut_113 ⟨Nat.zero_le _, Nat.zero_le _⟩ (fun _ H locs hP hD hS => ?_)
    have hP : va_P (dC, dI) vwCl (wX7 cI cZ cC q0 qn qs qt qh qw qf qr qc qp o33.2.1 ++ wX4 cI cZ cC qn o33.2.2.1 ++ wH cI cZ cC cO qh u16 o16.2 ++ wX6 cI cZ cC qw o33.2.2.2.1 ++ wX0 cI cZ cC qf o33.2.2.2.2.1 ++ wX1 cI cZ cC qp o113) H := hP
    have hD : va_D A (wX7 cI cZ cC q0 qn qs qt qh qw qf qr qc qp o33.2.1 ++ wX4 cI cZ cC qn o33.2.2.1 ++ wH cI cZ cC cO qh u16 o16.2 ++ wX6 cI cZ cC qw o33.2.2.2.1 ++ wX0 cI cZ cC qf o33.2.2.2.2.1 ++ wX1 cI cZ cC qp o113) := hD
    refine lv_iload_n hx hb dX7_carryOut_116 rfl (lv_at hl 1 rfl) ?_
    obtain rfl := Option.some.inj hf
    exact W.iret (v := o33.1) hx hb hr (fun t ht hW => ⟨⟨_, u16, rfl, rfl, by rw [ht]; exact hP, hD⟩, hS.F ht⟩) hS.2.2 dX7_carryOut_117
  · have hf := oe hc hf
    refine lv_bipush (v := (-2)) hx hb dX7_carryOut_12 (by decide) ?_
    obtain rfl := Option.some.inj hf
    exact W.iret (v := (-2)) hx hb hr (fun t ht hW => ⟨⟨_, uh, rfl, rfl, by rw [ht]; exact hP, hD⟩, hS.F ht⟩) hS.2.2 dX7_carryOut_14
