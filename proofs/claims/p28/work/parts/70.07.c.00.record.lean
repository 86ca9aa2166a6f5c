set_option maxHeartbeats 4000000 in
set_option maxRecDepth 100000 in
theorem mX7_record (l : Launch) (dC : Nat → ClassId) (dI : Nat → Nat → Nat) (cI cZ cC cO : ClassId) (q0 : Nat → Nat) (qn : Nat → Nat) (qs : Nat → Nat) (qt : Nat → Nat) (qh : Nat → Nat) (qw : Nat → Nat) (qf : Nat → Nat) (qr : Nat → Nat) (qc : Nat → Nat) (qp : Nat → Nat) (uh : QH) (g0 : GX7) (gn : GX4) (gh : GH) (sz : Nat) (out : GX7 × GH) (hf : fX7_record g0 gn gh = some out) : Met l yX7_record wsX7_record rmX7_record (va_Pc [.ref (q0 0)] (pcW (dC, dI) (wTys cI cZ cC cO) sz (wX7 cI cZ cC q0 qn qs qt qh qw qf qr qc qp g0 ++ wX4 cI cZ cC qn gn ++ wH cI cZ cC cO qh uh gh))) (va_Qv (fun (_ : QH) => True) (fun u => poW (dC, dI) (va_A (wX7 cI cZ cC q0 qn qs qt qh qw qf qr qc qp g0 ++ wX4 cI cZ cC qn gn ++ wH cI cZ cC cO qh uh gh) sz) (wX7 cI cZ cC q0 qn qs qt qh qw qf qr qc qp out.1 ++ wX4 cI cZ cC qn gn ++ wH cI cZ cC cO qh u out.2)) (va_A (wX7 cI cZ cC q0 qn qs qt qh qw qf qr qc qp g0 ++ wX4 cI cZ cC qn gn ++ wH cI cZ cC cO qh uh gh) sz)) 0 0 (va_A (wX7 cI cZ cC q0 qn qs qt qh qw qf qr qc qp g0 ++ wX4 cI cZ cC qn gn ++ wH cI cZ cC cO qh uh gh) sz) := by
  refine Met.ofW (cc := cX7_record) (maxL := 1) (ret := none) (by decide) rfl ?_
  intro p e s m args below meth c s₁ B hml hv
  obtain ⟨hargs, hsz, hP, hK, hN, hD0⟩ := hv
  have hx := B.exec
  have hb := B.bytes
  have hr := B.returns
  have hts := atoms_spec (ws := wsX7_record) B.pre
  have hown : s.vm.findClass RX7 = some m.cls := findClass_of_methodNamed B.named
  have hlocks := B.notSynchronized
  have hk0 := hts (.fieldLink RX7 61 "RimGrains" "states" "I") (by decide +kernel)
  have hk1 := hts (.fieldLink RX7 22 "RimGrains" "history" "[LRimGrains$State;") (by decide +kernel)
  have hk2 := hts (.fieldLink RX7 12 "RimGrains" "now" "LRimGrains$State;") (by decide +kernel)
  have hin7 : ∀ w ∈ wsX70, w ∈ wsX7_record := by decide +kernel
  subst hsz
  have hD := hD0.self (sz := s.heap.size)
  generalize hAe : va_A (wX7 cI cZ cC q0 qn qs qt qh qw qf qr qc qp g0 ++ wX4 cI cZ cC qn gn ++ wH cI cZ cC cO qh uh gh) s.heap.size = A at hD ⊢
  have hA : ∀ q : Nat, s.heap.size ≤ q → A q := fun q h => by rw [← hAe]; exact Or.inr h
  have hS : va_S A s.heap s.heap [] := va_S.rf
  have hE := lg_entry_eq m [.ref (q0 0)] 1
  rw [← hargs] at hE
  rw [hE]
  have hl := lv_entry [.ref (q0 0)] (n := 1) (Nat.le_of_ble_eq_true rfl)
  generalize (lg_sl [.ref (q0 0)] ++ List.replicate (1 - (lg_sl [.ref (q0 0)]).length) Slot.unset).toArray = ls at hl ⊢
  have hl : lv_has ls 1 [(0, .ref (q0 0))] := hl
  have hP : va_P (dC, dI) vwCl (wX7 cI cZ cC q0 qn qs qt qh qw qf qr qc qp g0 ++ wX4 cI cZ cC qn gn ++ wH cI cZ cC cO qh uh gh) s.heap := hP
  unfold fX7_record at hf
  refine lv_aload_n hx hb dX7_record_0 rfl (lv_at hl 0 rfl) ?_
  refine va_get (D := (dC, dI)) (ci := 6) (v := .int (pX7_states g0)) (C := RX7) (T := TX7) (N := 14) hx hb hts hin7 hown hK hP 0 rfl rfl 9 (by decide) hk0 (fun _ h9 => h9) rfl dX7_record_1 ?_
  refine lv_aload_n hx hb dX7_record_4 rfl (lv_at hl 0 rfl) ?_
  refine va_get (D := (dC, dI)) (ci := 6) (v := .ref (qh 0)) (C := RX7) (T := TX7) (N := 14) hx hb hts hin7 hown hK hP 0 rfl rfl 3 (by decide) hk1 (fun _ h9 => h9) rfl dX7_record_5 ?_
  refine va_alen (v := 4) hx hb hK hP 7 3 rfl rfl rfl dX7_record_8 ?_
  have hJ1 : ∀ (u_1 : QH) (g0_1 : GX7) (gh_1 : GH), jX7_record_1 gn g0_1 gh_1 = some out → ∀ (H : Heap) (locs : List Loc) (ls : Array Slot), va_P (dC, dI) vwCl (wX7 cI cZ cC q0 qn qs qt qh qw qf qr qc qp g0_1 ++ wX4 cI cZ cC qn gn ++ wH cI cZ cC cO qh u_1 gh_1) H → va_D A (wX7 cI cZ cC q0 qn qs qt qh qw qf qr qc qp g0_1 ++ wX4 cI cZ cC qn gn ++ wH cI cZ cC cO qh u_1 gh_1) → va_S A s.heap H locs → lv_has ls 1 [(0, .ref (q0 0))] → W p l e (headSpec wsX7_record rmX7_record).room s m args below meth c H locs 0 0 (MQ below (va_Qv (fun (_ : QH) => True) (fun u => poW (dC, dI) A (wX7 cI cZ cC q0 qn qs qt qh qw qf qr qc qp out.1 ++ wX4 cI cZ cC qn gn ++ wH cI cZ cC cO qh u out.2)) A) args s 0 0 A) (F0 m 16 ls []) := by
    intro u_1 g0_1 gh_1 hf H locs ls hP hD hS hl
    unfold jX7_record_1 at hf
    refine lv_aload_n hx hb dX7_record_16 rfl (lv_at hl 0 rfl) ?_
    refine va_get (D := (dC, dI)) (ci := 6) (v := .ref (qh 0)) (C := RX7) (T := TX7) (N := 14) hx hb hts hin7 hown hK hP 0 rfl rfl 3 (by decide) hk1 (fun _ h9 => h9) rfl dX7_record_17 ?_
    refine lv_aload_n hx hb dX7_record_20 rfl (lv_at hl 0 rfl) ?_
    refine va_get (D := (dC, dI)) (ci := 6) (v := .int (pX7_states g0_1)) (C := RX7) (T := TX7) (N := 14) hx hb hts hin7 hown hK hP 0 rfl rfl 9 (by decide) hk0 (fun _ h9 => h9) rfl dX7_record_21 ?_
    by_cases hh24_0 : (pX7_states g0_1) = 0
    · have hf := ot hh24_0 hf
      refine va_aldq hx hb hK hP 7 3 rfl rfl (by rw [hh24_0]; unfold vp_in; decide) dX7_record_24 ?_
      rw [show va_rf ((fun j => [some (u_1.1 0), some (u_1.2.1 0), some (u_1.2.2.1 0), some (u_1.2.2.2 0)].getD j none) ((pX7_states g0_1) : Int32).toNatClampNeg) = .ref (u_1.1 0) from by rw [hh24_0]; rfl]
      refine lv_aload_n hx hb dX7_record_25 rfl (lv_at hl 0 rfl) ?_
      refine va_get (D := (dC, dI)) (ci := 6) (v := .ref (qn 0)) (C := RX7) (T := TX7) (N := 14) hx hb hts hin7 hown hK hP 0 rfl rfl 0 (by decide) hk2 (fun _ h9 => h9) rfl dX7_record_26 ?_
      obtain ⟨o29, ho29, hf⟩ := ob hf
      refine wVv (W1 := (fun _ : Unit => (wX7 cI cZ cC q0 qn qs qt qh qw qf qr qc qp g0_1 ++ wX4 cI cZ cC qn gn ++ wH cI cZ cC cO qh u_1 (o29, gh_1.2.1, gh_1.2.2.1, gh_1.2.2.2)))) (rest := []) (As := [.ref (qn 0)]) ⟨hx, hb, hml, hown, hts⟩ (mX4_takeOver l dC dI cI cZ cC cO u_1.1 qn _ _ _ _ ho29) (cwV 1 hts gX7_record_X4_takeOver rfl rfl rfl (by decide +kernel) ⟨Nat.le_of_ble_eq_true rfl, Nat.le_of_ble_eq_true rfl⟩) hK hN hP hD hS hA [8, 9, 10, 11, 12, 13, 1, 2, 3, 4, 5, 6] [0, 7, 14, 15, 16, 17, 18, 19, 20, 21, 22, 23, 24, 25, 26, 27, 28, 29, 30, 31] [0, 26, 27, 28, 29, 30, 31, 1, 20, 21, 22, 23, 24, 25, 2, 3, 4, 5, 6, 7, 8, 9, 10, 11, 12, 13, 14, 15, 16, 17, 18, 19] rfl rfl (by decide +kernel) (by decide +kernel) (fun _ => rfl) 3 rfl rfl rfl rfl hl.1 rfl (Nat.le_of_ble_eq_true rfl) dX7_record_29 ⟨Nat.zero_le _, Nat.zero_le _⟩ (fun _ H locs hP hD hS => ?_)
      have hP : va_P (dC, dI) vwCl (wX7 cI cZ cC q0 qn qs qt qh qw qf qr qc qp g0_1 ++ wX4 cI cZ cC qn gn ++ wH cI cZ cC cO qh u_1 (o29, gh_1.2.1, gh_1.2.2.1, gh_1.2.2.2)) H := hP
      have hD : va_D A (wX7 cI cZ cC q0 qn qs qt qh qw qf qr qc qp g0_1 ++ wX4 cI cZ cC qn gn ++ wH cI cZ cC cO qh u_1 (o29, gh_1.2.1, gh_1.2.2.1, gh_1.2.2.2)) := hD
      refine lv_aload_n hx hb dX7_record_32 rfl (lv_at hl 0 rfl) ?_
      refine lv_dup hx hb dX7_record_33 rfl ?_
      refine va_get (D := (dC, dI)) (ci := 6) (v := .int (pX7_states g0_1)) (C := RX7) (T := TX7) (N := 14) hx hb hts hin7 hown hK hP 0 rfl rfl 9 (by decide) hk0 (fun _ h9 => h9) rfl dX7_record_34 ?_
      refine lv_iconst (v := 1) hx hb dX7_record_37 (by decide) ?_
      refine lv_iadd hx hb dX7_record_38 ?_
      refine va_put (D := (dC, dI)) (ci := 6) (v := .int ((pX7_states g0_1) + 1)) (ty := .int) (C := RX7) (T := TX7) (N := 14) hx hb hts hin7 tyX7 tyX7_ok nmX7 hown hK hP hD hS 0 rfl rfl 9 (by decide) hk0 (fun _ h9 => h9) rfl (by decide +kernel) rfl rfl (Nat.le_of_ble_eq_true rfl) dX7_record_39 (fun H locs hP hD hS => ?_)
      have hP : va_P (dC, dI) vwCl (wX7 cI cZ cC q0 qn qs qt qh qw qf qr qc qp (((pX7_states g0_1) + 1), (pX7_saved g0_1), (pX7_stopError g0_1), (pX7_stopDeed g0_1), (pX7_stopPlace g0_1)) ++ wX4 cI cZ cC qn gn ++ wH cI cZ cC cO qh u_1 (o29, gh_1.2.1, gh_1.2.2.1, gh_1.2.2.2)) H := hP
      have hD : va_D A (wX7 cI cZ cC q0 qn qs qt qh qw qf qr qc qp (((pX7_states g0_1) + 1), (pX7_saved g0_1), (pX7_stopError g0_1), (pX7_stopDeed g0_1), (pX7_stopPlace g0_1)) ++ wX4 cI cZ cC qn gn ++ wH cI cZ cC cO qh u_1 (o29, gh_1.2.1, gh_1.2.2.1, gh_1.2.2.2)) := hD
      obtain rfl := Option.some.inj hf
      exact W.vret hx hb hr (fun t ht hW => ⟨⟨u_1, rfl, trivial, by rw [ht]; exact hP, hD⟩, hS.F ht⟩) hS.2.2 dX7_record_42
    have hf := oe hh24_0 hf
    by_cases hh24_1 : (pX7_states g0_1) = 1
    · have hf := ot hh24_1 hf
      refine va_aldq hx hb hK hP 7 3 rfl rfl (by rw [hh24_1]; unfold vp_in; decide) dX7_record_24 ?_
      rw [show va_rf ((fun j => [some (u_1.1 0), some (u_1.2.1 0), some (u_1.2.2.1 0), some (u_1.2.2.2 0)].getD j none) ((pX7_states g0_1) : Int32).toNatClampNeg) = .ref (u_1.2.1 0) from by rw [hh24_1]; rfl]
      refine lv_aload_n hx hb dX7_record_25 rfl (lv_at hl 0 rfl) ?_
      refine va_get (D := (dC, dI)) (ci := 6) (v := .ref (qn 0)) (C := RX7) (T := TX7) (N := 14) hx hb hts hin7 hown hK hP 0 rfl rfl 0 (by decide) hk2 (fun _ h9 => h9) rfl dX7_record_26 ?_
      obtain ⟨o29, ho29, hf⟩ := ob hf
      refine wVv (W1 := (fun _ : Unit => (wX7 cI cZ cC q0 qn qs qt qh qw qf qr qc qp g0_1 ++ wX4 cI cZ cC qn gn ++ wH cI cZ cC cO qh u_1 (gh_1.1, o29, gh_1.2.2.1, gh_1.2.2.2)))) (rest := []) (As := [.ref (qn 0)]) ⟨hx, hb, hml, hown, hts⟩ (mX4_takeOver l dC dI cI cZ cC cO u_1.2.1 qn _ _ _ _ ho29) (cwV 1 hts gX7_record_X4_takeOver rfl rfl rfl (by decide +kernel) ⟨Nat.le_of_ble_eq_true rfl, Nat.le_of_ble_eq_true rfl⟩) hK hN hP hD hS hA [14, 15, 16, 17, 18, 19, 1, 2, 3, 4, 5, 6] [0, 7, 8, 9, 10, 11, 12, 13, 20, 21, 22, 23, 24, 25, 26, 27, 28, 29, 30, 31] [0, 26, 27, 28, 29, 30, 31, 1, 2, 3, 4, 5, 6, 7, 20, 21, 22, 23, 24, 25, 8, 9, 10, 11, 12, 13, 14, 15, 16, 17, 18, 19] rfl rfl (by decide +kernel) (by decide +kernel) (fun _ => rfl) 3 rfl rfl rfl rfl hl.1 rfl (Nat.le_of_ble_eq_true rfl) dX7_record_29 ⟨Nat.zero_le _, Nat.zero_le _⟩ (fun _ H locs hP hD hS => ?_)
      have hP : va_P (dC, dI) vwCl (wX7 cI cZ cC q0 qn qs qt qh qw qf qr qc qp g0_1 ++ wX4 cI cZ cC qn gn ++ wH cI cZ cC cO qh u_1 (gh_1.1, o29, gh_1.2.2.1, gh_1.2.2.2)) H := hP
      have hD : va_D A (wX7 cI cZ cC q0 qn qs qt qh qw qf qr qc qp g0_1 ++ wX4 cI cZ cC qn gn ++ wH cI cZ cC cO qh u_1 (gh_1.1, o29, gh_1.2.2.1, gh_1.2.2.2)) := hD
      refine lv_aload_n hx hb dX7_record_32 rfl (lv_at hl 0 rfl) ?_
      refine lv_dup hx hb dX7_record_33 rfl ?_
      refine va_get (D := (dC, dI)) (ci := 6) (v := .int (pX7_states g0_1)) (C := RX7) (T := TX7) (N := 14) hx hb hts hin7 hown hK hP 0 rfl rfl 9 (by decide) hk0 (fun _ h9 => h9) rfl dX7_record_34 ?_
      refine lv_iconst (v := 1) hx hb dX7_record_37 (by decide) ?_
      refine lv_iadd hx hb dX7_record_38 ?_
      refine va_put (D := (dC, dI)) (ci := 6) (v := .int ((pX7_states g0_1) + 1)) (ty := .int) (C := RX7) (T := TX7) (N := 14) hx hb hts hin7 tyX7 tyX7_ok nmX7 hown hK hP hD hS 0 rfl rfl 9 (by decide) hk0 (fun _ h9 => h9) rfl (by decide +kernel) rfl rfl (Nat.le_of_ble_eq_true rfl) dX7_record_39 (fun H locs hP hD hS => ?_)
      have hP : va_P (dC, dI) vwCl (wX7 cI cZ cC q0 qn qs qt qh qw qf qr qc qp (((pX7_states g0_1) + 1), (pX7_saved g0_1), (pX7_stopError g0_1), (pX7_stopDeed g0_1), (pX7_stopPlace g0_1)) ++ wX4 cI cZ cC qn gn ++ wH cI cZ cC cO qh u_1 (gh_1.1, o29, gh_1.2.2.1, gh_1.2.2.2)) H := hP
      have hD : va_D A (wX7 cI cZ cC q0 qn qs qt qh qw qf qr qc qp (((pX7_states g0_1) + 1), (pX7_saved g0_1), (pX7_stopError g0_1), (pX7_stopDeed g0_1), (pX7_stopPlace g0_1)) ++ wX4 cI cZ cC qn gn ++ wH cI cZ cC cO qh u_1 (gh_1.1, o29, gh_1.2.2.1, gh_1.2.2.2)) := hD
      obtain rfl := Option.some.inj hf
      exact W.vret hx hb hr (fun t ht hW => ⟨⟨u_1, rfl, trivial, by rw [ht]; exact hP, hD⟩, hS.F ht⟩) hS.2.2 dX7_record_42
    have hf := oe hh24_1 hf
    by_cases hh24_2 : (pX7_states g0_1) = 2
    · have hf := ot hh24_2 hf
      refine va_aldq hx hb hK hP 7 3 rfl rfl (by rw [hh24_2]; unfold vp_in; decide) dX7_record_24 ?_
      rw [show va_rf ((fun j => [some (u_1.1 0), some (u_1.2.1 0), some (u_1.2.2.1 0), some (u_1.2.2.2 0)].getD j none) ((pX7_states g0_1) : Int32).toNatClampNeg) = .ref (u_1.2.2.1 0) from by rw [hh24_2]; rfl]
      refine lv_aload_n hx hb dX7_record_25 rfl (lv_at hl 0 rfl) ?_
      refine va_get (D := (dC, dI)) (ci := 6) (v := .ref (qn 0)) (C := RX7) (T := TX7) (N := 14) hx hb hts hin7 hown hK hP 0 rfl rfl 0 (by decide) hk2 (fun _ h9 => h9) rfl dX7_record_26 ?_
      obtain ⟨o29, ho29, hf⟩ := ob hf
      refine wVv (W1 := (fun _ : Unit => (wX7 cI cZ cC q0 qn qs qt qh qw qf qr qc qp g0_1 ++ wX4 cI cZ cC qn gn ++ wH cI cZ cC cO qh u_1 (gh_1.1, gh_1.2.1, o29, gh_1.2.2.2)))) (rest := []) (As := [.ref (qn 0)]) ⟨hx, hb, hml, hown, hts⟩ (mX4_takeOver l dC dI cI cZ cC cO u_1.2.2.1 qn _ _ _ _ ho29) (cwV 1 hts gX7_record_X4_takeOver rfl rfl rfl (by decide +kernel) ⟨Nat.le_of_ble_eq_true rfl, Nat.le_of_ble_eq_true rfl⟩) hK hN hP hD hS hA [20, 21, 22, 23, 24, 25, 1, 2, 3, 4, 5, 6] [0, 7, 8, 9, 10, 11, 12, 13, 14, 15, 16, 17, 18, 19, 26, 27, 28, 29, 30, 31] [0, 26, 27, 28, 29, 30, 31, 1, 2, 3, 4, 5, 6, 7, 8, 9, 10, 11, 12, 13, 20, 21, 22, 23, 24, 25, 14, 15, 16, 17, 18, 19] rfl rfl (by decide +kernel) (by decide +kernel) (fun _ => rfl) 3 rfl rfl rfl rfl hl.1 rfl (Nat.le_of_ble_eq_true rfl) dX7_record_29 ⟨Nat.zero_le _, Nat.zero_le _⟩ (fun _ H locs hP hD hS => ?_)
      have hP : va_P (dC, dI) vwCl (wX7 cI cZ cC q0 qn qs qt qh qw qf qr qc qp g0_1 ++ wX4 cI cZ cC qn gn ++ wH cI cZ cC cO qh u_1 (gh_1.1, gh_1.2.1, o29, gh_1.2.2.2)) H := hP
      have hD : va_D A (wX7 cI cZ cC q0 qn qs qt qh qw qf qr qc qp g0_1 ++ wX4 cI cZ cC qn gn ++ wH cI cZ cC cO qh u_1 (gh_1.1, gh_1.2.1, o29, gh_1.2.2.2)) := hD
      refine lv_aload_n hx hb dX7_record_32 rfl (lv_at hl 0 rfl) ?_
      refine lv_dup hx hb dX7_record_33 rfl ?_
      refine va_get (D := (dC, dI)) (ci := 6) (v := .int (pX7_states g0_1)) (C := RX7) (T := TX7) (N := 14) hx hb hts hin7 hown hK hP 0 rfl rfl 9 (by decide) hk0 (fun _ h9 => h9) rfl dX7_record_34 ?_
      refine lv_iconst (v := 1) hx hb dX7_record_37 (by decide) ?_
      refine lv_iadd hx hb dX7_record_38 ?_
      refine va_put (D := (dC, dI)) (ci := 6) (v := .int ((pX7_states g0_1) + 1)) (ty := .int) (C := RX7) (T := TX7) (N := 14) hx hb hts hin7 tyX7 tyX7_ok nmX7 hown hK hP hD hS 0 rfl rfl 9 (by decide) hk0 (fun _ h9 => h9) rfl (by decide +kernel) rfl rfl (Nat.le_of_ble_eq_true rfl) dX7_record_39 (fun H locs hP hD hS => ?_)
      have hP : va_P (dC, dI) vwCl (wX7 cI cZ cC q0 qn qs qt qh qw qf qr qc qp (((pX7_states g0_1) + 1), (pX7_saved g0_1), (pX7_stopError g0_1), (pX7_stopDeed g0_1), (pX7_stopPlace g0_1)) ++ wX4 cI cZ cC qn gn ++ wH cI cZ cC cO qh u_1 (gh_1.1, gh_1.2.1, o29, gh_1.2.2.2)) H := hP
      have hD : va_D A (wX7 cI cZ cC q0 qn qs qt qh qw qf qr qc qp (((pX7_states g0_1) + 1), (pX7_saved g0_1), (pX7_stopError g0_1), (pX7_stopDeed g0_1), (pX7_stopPlace g0_1)) ++ wX4 cI cZ cC qn gn ++ wH cI cZ cC cO qh u_1 (gh_1.1, gh_1.2.1, o29, gh_1.2.2.2)) := hD
      obtain rfl := Option.some.inj hf
      exact W.vret hx hb hr (fun t ht hW => ⟨⟨u_1, rfl, trivial, by rw [ht]; exact hP, hD⟩, hS.F ht⟩) hS.2.2 dX7_record_42
    have hf := oe hh24_2 hf
    by_cases hh24_3 : (pX7_states g0_1) = 3
    · have hf := ot hh24_3 hf
      refine va_aldq hx hb hK hP 7 3 rfl rfl (by rw [hh24_3]; unfold vp_in; decide) dX7_record_24 ?_
      rw [show va_rf ((fun j => [some (u_1.1 0), some (u_1.2.1 0), some (u_1.2.2.1 0), some (u_1.2.2.2 0)].getD j none) ((pX7_states g0_1) : Int32).toNatClampNeg) = .ref (u_1.2.2.2 0) from by rw [hh24_3]; rfl]
      refine lv_aload_n hx hb dX7_record_25 rfl (lv_at hl 0 rfl) ?_
      refine va_get (D := (dC, dI)) (ci := 6) (v := .ref (qn 0)) (C := RX7) (T := TX7) (N := 14) hx hb hts hin7 hown hK hP 0 rfl rfl 0 (by decide) hk2 (fun _ h9 => h9) rfl dX7_record_26 ?_
      obtain ⟨o29, ho29, hf⟩ := ob hf
      refine wVv (W1 := (fun _ : Unit => (wX7 cI cZ cC q0 qn qs qt qh qw qf qr qc qp g0_1 ++ wX4 cI cZ cC qn gn ++ wH cI cZ cC cO qh u_1 (gh_1.1, gh_1.2.1, gh_1.2.2.1, o29)))) (rest := []) (As := [.ref (qn 0)]) ⟨hx, hb, hml, hown, hts⟩ (mX4_takeOver l dC dI cI cZ cC cO u_1.2.2.2 qn _ _ _ _ ho29) (cwV 1 hts gX7_record_X4_takeOver rfl rfl rfl (by decide +kernel) ⟨Nat.le_of_ble_eq_true rfl, Nat.le_of_ble_eq_true rfl⟩) hK hN hP hD hS hA [26, 27, 28, 29, 30, 31, 1, 2, 3, 4, 5, 6] [0, 7, 8, 9, 10, 11, 12, 13, 14, 15, 16, 17, 18, 19, 20, 21, 22, 23, 24, 25] [0, 26, 27, 28, 29, 30, 31, 1, 2, 3, 4, 5, 6, 7, 8, 9, 10, 11, 12, 13, 14, 15, 16, 17, 18, 19, 20, 21, 22, 23, 24, 25] rfl rfl (by decide +kernel) (by decide +kernel) (fun _ => rfl) 3 rfl rfl rfl rfl hl.1 rfl (Nat.le_of_ble_eq_true rfl) dX7_record_29 ⟨Nat.zero_le _, Nat.zero_le _⟩ (fun _ H locs hP hD hS => ?_)
      have hP : va_P (dC, dI) vwCl (wX7 cI cZ cC q0 qn qs qt qh qw qf qr qc qp g0_1 ++ wX4 cI cZ cC qn gn ++ wH cI cZ cC cO qh u_1 (gh_1.1, gh_1.2.1, gh_1.2.2.1, o29)) H := hP
      have hD : va_D A (wX7 cI cZ cC q0 qn qs qt qh qw qf qr qc qp g0_1 ++ wX4 cI cZ cC qn gn ++ wH cI cZ cC cO qh u_1 (gh_1.1, gh_1.2.1, gh_1.2.2.1, o29)) := hD
      refine lv_aload_n hx hb dX7_record_32 rfl (lv_at hl 0 rfl) ?_
      refine lv_dup hx hb dX7_record_33 rfl ?_
      refine va_get (D := (dC, dI)) (ci := 6) (v := .int (pX7_states g0_1)) (C := RX7) (T := TX7) (N := 14) hx hb hts hin7 hown hK hP 0 rfl rfl 9 (by decide) hk0 (fun _ h9 => h9) rfl dX7_record_34 ?_
      refine lv_iconst (v := 1) hx hb dX7_record_37 (by decide) ?_
      refine lv_iadd hx hb dX7_record_38 ?_
      refine va_put (D := (dC, dI)) (ci := 6) (v := .int ((pX7_states g0_1) + 1)) (ty := .int) (C := RX7) (T := TX7) (N := 14) hx hb hts hin7 tyX7 tyX7_ok nmX7 hown hK hP hD hS 0 rfl rfl 9 (by decide) hk0 (fun _ h9 => h9) rfl (by decide +kernel) rfl rfl (Nat.le_of_ble_eq_true rfl) dX7_record_39 (fun H locs hP hD hS => ?_)
      have hP : va_P (dC, dI) vwCl (wX7 cI cZ cC q0 qn qs qt qh qw qf qr qc qp (((pX7_states g0_1) + 1), (pX7_saved g0_1), (pX7_stopError g0_1), (pX7_stopDeed g0_1), (pX7_stopPlace g0_1)) ++ wX4 cI cZ cC qn gn ++ wH cI cZ cC cO qh u_1 (gh_1.1, gh_1.2.1, gh_1.2.2.1, o29)) H := hP
      have hD : va_D A (wX7 cI cZ cC q0 qn qs qt qh qw qf qr qc qp (((pX7_states g0_1) + 1), (pX7_saved g0_1), (pX7_stopError g0_1), (pX7_stopDeed g0_1), (pX7_stopPlace g0_1)) ++ wX4 cI cZ cC qn gn ++ wH cI cZ cC cO qh u_1 (gh_1.1, gh_1.2.1, gh_1.2.2.1, o29)) := hD
      obtain rfl := Option.some.inj hf
      exact W.vret hx hb hr (fun t ht hW => ⟨⟨u_1, rfl, trivial, by rw [ht]; exact hP, hD⟩, hS.F ht⟩) hS.2.2 dX7_record_42
    have hf := oe hh24_3 hf
    cases hf
  refine lv_icmp_lt (tgt := 16) hx hb dX7_record_9 (by decide) (fun hc => ?_) (fun hc => ?_)
  · have hf := ot hc hf
    exact hJ1 uh _ _ hf _ _ ls hP hD hS (lv_sub hl [0] rfl)
  · have hf := oe hc hf
    refine lv_aload_n hx hb dX7_record_12 rfl (lv_at hl 0 rfl) ?_
    obtain ⟨o13, ho13, hf⟩ := ob hf
    refine wVv (W1 := (fun u13 : QH => (wX7 cI cZ cC q0 qn qs qt qh qw qf qr qc qp o13.1 ++ wX4 cI cZ cC qn gn ++ wH cI cZ cC cO qh u13 o13.2))) (rest := []) (As := []) ⟨hx, hb, hml, hown, hts⟩ (mX7_dropOldest l dC dI cI cZ cC cO q0 qn qs qt qh qw qf qr qc qp uh _ _ _ _ ho13) (cwV 0 hts gX7_record_X7_dropOldest rfl rfl rfl (by decide +kernel) ⟨Nat.le_of_ble_eq_true rfl, Nat.le_of_ble_eq_true rfl⟩) hK hN hP hD hS hA [0, 7, 8, 9, 10, 11, 12, 13, 14, 15, 16, 17, 18, 19, 20, 21, 22, 23, 24, 25, 26, 27, 28, 29, 30, 31] [1, 2, 3, 4, 5, 6] [6, 0, 1, 2, 3, 4, 5, 7, 8, 9, 10, 11, 12, 13, 14, 15, 16, 17, 18, 19, 20, 21, 22, 23, 24, 25, 26, 27, 28, 29, 30, 31] rfl rfl (by decide +kernel) (by decide +kernel) (fun _ => rfl) 6 rfl rfl rfl rfl hl.1 rfl (Nat.le_of_ble_eq_true rfl) dX7_record_13 ⟨Nat.zero_le _, Nat.zero_le _⟩ (fun u13 H locs hP hD hS => ?_)
    have hP : va_P (dC, dI) vwCl (wX7 cI cZ cC q0 qn qs qt qh qw qf qr qc qp o13.1 ++ wX4 cI cZ cC qn gn ++ wH cI cZ cC cO qh u13 o13.2) H := hP
    have hD : va_D A (wX7 cI cZ cC q0 qn qs qt qh qw qf qr qc qp o13.1 ++ wX4 cI cZ cC qn gn ++ wH cI cZ cC cO qh u13 o13.2) := hD
    exact hJ1 u13 _ _ hf _ _ ls hP hD hS (lv_sub hl [0] rfl)
