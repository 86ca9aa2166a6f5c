set_option maxHeartbeats 4000000 in
set_option maxRecDepth 100000 in
theorem mX7_dropOldest (l : Launch) (dC : Nat → ClassId) (dI : Nat → Nat → Nat) (cI cZ cC cO : ClassId) (q0 qn qs qt qh qw qf qr qc qp : Nat → Nat) (uh : QH) (g0 : GX7) (gh : GH) (sz : Nat) (out : GX7 × GH) (hf : fX7_dropOldest g0 gh = some out) : Met l yX7_dropOldest wsX7_dropOldest rmX7_dropOldest (va_Pc [.ref (q0 0)] (pcW (dC, dI) (wTys cI cZ cC cO) sz (wX7 cI cZ cC q0 qn qs qt qh qw qf qr qc qp g0 ++ wH cI cZ cC cO qh uh gh))) (va_Qv (fun (_ : QH) => True) (fun u => poW (dC, dI) (va_A (wX7 cI cZ cC q0 qn qs qt qh qw qf qr qc qp g0 ++ wH cI cZ cC cO qh uh gh) sz) (wX7 cI cZ cC q0 qn qs qt qh qw qf qr qc qp out.1 ++ wH cI cZ cC cO qh u out.2)) (va_A (wX7 cI cZ cC q0 qn qs qt qh qw qf qr qc qp g0 ++ wH cI cZ cC cO qh uh gh) sz)) 0 0 (va_A (wX7 cI cZ cC q0 qn qs qt qh qw qf qr qc qp g0 ++ wH cI cZ cC cO qh uh gh) sz) := by
  refine Met.ofW (cc := cX7_dropOldest) (maxL := 3) (ret := none) (by decide) rfl ?_
  intro p e s m args below meth c s₁ B hml hv
  obtain ⟨hargs, hsz, hP, hK, hN, hD0⟩ := hv
  have hx := B.exec
  have hb := B.bytes
  have hr := B.returns
  have hts := atoms_spec (ws := wsX7_dropOldest) B.pre
  have hown : s.vm.findClass RX7 = some m.cls := findClass_of_methodNamed B.named
  have hlocks := B.notSynchronized
  have hk0 := hts (.fieldLink RX7 22 "RimGrains" "history" "[LRimGrains$State;") (by decide +kernel)
  have hk1 := hts (.fieldLink RX7 61 "RimGrains" "states" "I") (by decide +kernel)
  have hin7 : ∀ w ∈ wsX70, w ∈ wsX7_dropOldest := by decide +kernel
  subst hsz
  have hD := hD0.self (sz := s.heap.size)
  generalize hAe : va_A (wX7 cI cZ cC q0 qn qs qt qh qw qf qr qc qp g0 ++ wH cI cZ cC cO qh uh gh) s.heap.size = A at hD ⊢
  have hA : ∀ q : Nat, s.heap.size ≤ q → A q := fun q h => by rw [← hAe]; exact Or.inr h
  have hS : va_S A s.heap s.heap [] := va_S.rf
  have hE := lg_entry_eq m [.ref (q0 0)] 3
  rw [← hargs] at hE
  rw [hE]
  have hl := lv_entry [.ref (q0 0)] (n := 3) (Nat.le_of_ble_eq_true rfl)
  generalize (lg_sl [.ref (q0 0)] ++ List.replicate (3 - (lg_sl [.ref (q0 0)]).length) Slot.unset).toArray = ls at hl ⊢
  have hl : lv_has ls 3 [(0, .ref (q0 0))] := hl
  have hP : va_P (dC, dI) vwCl (wX7 cI cZ cC q0 qn qs qt qh qw qf qr qc qp g0 ++ wH cI cZ cC cO qh uh gh) s.heap := hP
  unfold fX7_dropOldest at hf
  have hP : va_P (dC, dI) vwCl (wX7 cI cZ cC q0 qn qs qt qh qw qf qr qc qp g0 ++ [((qh 0), .inl (cO, 4, .inr (.inr (.inr (.inr (fun j => [some (uh.1 0), some (uh.2.1 0), some (uh.2.2.1 0), some (uh.2.2.2 0)].getD j none))))))] ++ wX4 cI cZ cC uh.1 gh.1 ++ wX4 cI cZ cC uh.2.1 gh.2.1 ++ wX4 cI cZ cC uh.2.2.1 gh.2.2.1 ++ wX4 cI cZ cC uh.2.2.2 gh.2.2.2 : va_W) s.heap := hP
  have hD : va_D A (wX7 cI cZ cC q0 qn qs qt qh qw qf qr qc qp g0 ++ [((qh 0), .inl (cO, 4, .inr (.inr (.inr (.inr (fun j => [some (uh.1 0), some (uh.2.1 0), some (uh.2.2.1 0), some (uh.2.2.2 0)].getD j none))))))] ++ wX4 cI cZ cC uh.1 gh.1 ++ wX4 cI cZ cC uh.2.1 gh.2.1 ++ wX4 cI cZ cC uh.2.2.1 gh.2.2.1 ++ wX4 cI cZ cC uh.2.2.2 gh.2.2.2 : va_W) := hD
  refine lv_aload_n hx hb dX7_dropOldest_0 rfl (lv_at hl 0 rfl) ?_
  refine va_get (D := (dC, dI)) (ci := 6) (v := .ref (qh 0)) (C := RX7) (T := TX7) (N := 14) hx hb hts hin7 hown hK hP 0 rfl rfl 3 (by decide) hk0 (fun _ h9 => h9) rfl dX7_dropOldest_1 ?_
  refine lv_iconst (v := 0) hx hb dX7_dropOldest_4 (by decide) ?_
  refine va_aldq hx hb hK hP 1 3 rfl rfl (by unfold vp_in; decide) dX7_dropOldest_5 ?_
  rw [show va_rf ((fun j => [some (uh.1 0), some (uh.2.1 0), some (uh.2.2.1 0), some (uh.2.2.2 0)].getD j none) (0 : Int32).toNatClampNeg) = .ref (uh.1 0) from rfl]
  refine lv_astore_n (lv' := [(1, .ref (uh.1 0)), (0, .ref (q0 0))]) hx hb dX7_dropOldest_6 rfl hl (by decide) rfl (fun ls hl => ?_)
  refine lv_iconst (v := 1) hx hb dX7_dropOldest_7 (by decide) ?_
  refine lv_istore_n (lv' := [(2, .int 1), (1, .ref (uh.1 0)), (0, .ref (q0 0))]) hx hb dX7_dropOldest_8 rfl hl (by decide) rfl (fun ls hl => ?_)
  refine lv_iload_n hx hb dX7_dropOldest_9 rfl (lv_at hl 0 rfl) ?_
  refine lv_aload_n hx hb dX7_dropOldest_10 rfl (lv_at hl 2 rfl) ?_
  refine va_get (D := (dC, dI)) (ci := 6) (v := .ref (qh 0)) (C := RX7) (T := TX7) (N := 14) hx hb hts hin7 hown hK hP 0 rfl rfl 3 (by decide) hk0 (fun _ h9 => h9) rfl dX7_dropOldest_11 ?_
  refine va_alen (v := 4) hx hb hK hP 1 3 rfl rfl rfl dX7_dropOldest_14 ?_
  refine lv_icmp_ge (tgt := 38) hx hb dX7_dropOldest_15 (by decide) (fun hc => absurd hc (by decide)) (fun _ => ?_)
  refine lv_aload_n hx hb dX7_dropOldest_18 rfl (lv_at hl 2 rfl) ?_
  refine va_get (D := (dC, dI)) (ci := 6) (v := .ref (qh 0)) (C := RX7) (T := TX7) (N := 14) hx hb hts hin7 hown hK hP 0 rfl rfl 3 (by decide) hk0 (fun _ h9 => h9) rfl dX7_dropOldest_19 ?_
  refine lv_iload_n hx hb dX7_dropOldest_22 rfl (lv_at hl 0 rfl) ?_
  refine lv_iconst (v := 1) hx hb dX7_dropOldest_23 (by decide) ?_
  refine lv_isub hx hb dX7_dropOldest_24 ?_
  rw [show (1 : Int32) - 1 = 0 by decide]
  refine lv_aload_n hx hb dX7_dropOldest_25 rfl (lv_at hl 2 rfl) ?_
  refine va_get (D := (dC, dI)) (ci := 6) (v := .ref (qh 0)) (C := RX7) (T := TX7) (N := 14) hx hb hts hin7 hown hK hP 0 rfl rfl 3 (by decide) hk0 (fun _ h9 => h9) rfl dX7_dropOldest_26 ?_
  refine lv_iload_n hx hb dX7_dropOldest_29 rfl (lv_at hl 0 rfl) ?_
  refine va_aldq hx hb hK hP 1 3 rfl rfl (by unfold vp_in; decide) dX7_dropOldest_30 ?_
  rw [show va_rf ((fun j => [some (uh.1 0), some (uh.2.1 0), some (uh.2.2.1 0), some (uh.2.2.2 0)].getD j none) (1 : Int32).toNatClampNeg) = .ref (uh.2.1 0) from rfl]
  refine va_astq (r := (RX4, TX4, 11)) hx hb hK hP hD hS 1 3 8 3 rfl rfl rfl rfl (by unfold vp_in; decide) dX7_dropOldest_31 (fun H locs hP hD hS => ?_)
  have hP : va_P (dC, dI) vwCl (wX7 cI cZ cC q0 qn qs qt qh qw qf qr qc qp g0 ++ [((qh 0), .inl (cO, 4, .inr (.inr (.inr (.inr (va_up (fun j => [some (uh.1 0), some (uh.2.1 0), some (uh.2.2.1 0), some (uh.2.2.2 0)].getD j none) (0 : Int32).toNatClampNeg (some (uh.2.1 0))))))))] ++ wX4 cI cZ cC uh.1 gh.1 ++ wX4 cI cZ cC uh.2.1 gh.2.1 ++ wX4 cI cZ cC uh.2.2.1 gh.2.2.1 ++ wX4 cI cZ cC uh.2.2.2 gh.2.2.2 : va_W) H := hP
  have hD : va_D A (wX7 cI cZ cC q0 qn qs qt qh qw qf qr qc qp g0 ++ [((qh 0), .inl (cO, 4, .inr (.inr (.inr (.inr (va_up (fun j => [some (uh.1 0), some (uh.2.1 0), some (uh.2.2.1 0), some (uh.2.2.2 0)].getD j none) (0 : Int32).toNatClampNeg (some (uh.2.1 0))))))))] ++ wX4 cI cZ cC uh.1 gh.1 ++ wX4 cI cZ cC uh.2.1 gh.2.1 ++ wX4 cI cZ cC uh.2.2.1 gh.2.2.1 ++ wX4 cI cZ cC uh.2.2.2 gh.2.2.2 : va_W) := hD
  refine lv_iinc (v := 2) (lv' := [(2, .int 2), (1, .ref (uh.1 0)), (0, .ref (q0 0))]) hx hb dX7_dropOldest_32 hl (k := 0) rfl (by decide) (by decide) rfl (fun ls hl => ?_)
  refine lv_goto (tgt := 9) hx hb dX7_dropOldest_35 (by decide) ?_
  refine lv_iload_n hx hb dX7_dropOldest_9 rfl (lv_at hl 0 rfl) ?_
  refine lv_aload_n hx hb dX7_dropOldest_10 rfl (lv_at hl 2 rfl) ?_
  refine va_get (D := (dC, dI)) (ci := 6) (v := .ref (qh 0)) (C := RX7) (T := TX7) (N := 14) hx hb hts hin7 hown hK hP 0 rfl rfl 3 (by decide) hk0 (fun _ h9 => h9) rfl dX7_dropOldest_11 ?_
  refine va_alen (v := 4) hx hb hK hP 1 3 rfl rfl rfl dX7_dropOldest_14 ?_
  refine lv_icmp_ge (tgt := 38) hx hb dX7_dropOldest_15 (by decide) (fun hc => absurd hc (by decide)) (fun _ => ?_)
  refine lv_aload_n hx hb dX7_dropOldest_18 rfl (lv_at hl 2 rfl) ?_
  refine va_get (D := (dC, dI)) (ci := 6) (v := .ref (qh 0)) (C := RX7) (T := TX7) (N := 14) hx hb hts hin7 hown hK hP 0 rfl rfl 3 (by decide) hk0 (fun _ h9 => h9) rfl dX7_dropOldest_19 ?_
  refine lv_iload_n hx hb dX7_dropOldest_22 rfl (lv_at hl 0 rfl) ?_
  refine lv_iconst (v := 1) hx hb dX7_dropOldest_23 (by decide) ?_
  refine lv_isub hx hb dX7_dropOldest_24 ?_
  rw [show (2 : Int32) - 1 = 1 by decide]
  refine lv_aload_n hx hb dX7_dropOldest_25 rfl (lv_at hl 2 rfl) ?_
  refine va_get (D := (dC, dI)) (ci := 6) (v := .ref (qh 0)) (C := RX7) (T := TX7) (N := 14) hx hb hts hin7 hown hK hP 0 rfl rfl 3 (by decide) hk0 (fun _ h9 => h9) rfl dX7_dropOldest_26 ?_
  refine lv_iload_n hx hb dX7_dropOldest_29 rfl (lv_at hl 0 rfl) ?_
  refine va_aldq hx hb hK hP 1 3 rfl rfl (by unfold vp_in; decide) dX7_dropOldest_30 ?_
  rw [show va_rf ((va_up (fun j => [some (uh.1 0), some (uh.2.1 0), some (uh.2.2.1 0), some (uh.2.2.2 0)].getD j none) (0 : Int32).toNatClampNeg (some (uh.2.1 0))) (2 : Int32).toNatClampNeg) = .ref (uh.2.2.1 0) from rfl]
  refine va_astq (r := (RX4, TX4, 11)) hx hb hK hP hD hS 1 3 14 3 rfl rfl rfl rfl (by unfold vp_in; decide) dX7_dropOldest_31 (fun H locs hP hD hS => ?_)
  have hP : va_P (dC, dI) vwCl (wX7 cI cZ cC q0 qn qs qt qh qw qf qr qc qp g0 ++ [((qh 0), .inl (cO, 4, .inr (.inr (.inr (.inr (va_up (va_up (fun j => [some (uh.1 0), some (uh.2.1 0), some (uh.2.2.1 0), some (uh.2.2.2 0)].getD j none) (0 : Int32).toNatClampNeg (some (uh.2.1 0))) (1 : Int32).toNatClampNeg (some (uh.2.2.1 0))))))))] ++ wX4 cI cZ cC uh.1 gh.1 ++ wX4 cI cZ cC uh.2.1 gh.2.1 ++ wX4 cI cZ cC uh.2.2.1 gh.2.2.1 ++ wX4 cI cZ cC uh.2.2.2 gh.2.2.2 : va_W) H := hP
  have hD : va_D A (wX7 cI cZ cC q0 qn qs qt qh qw qf qr qc qp g0 ++ [((qh 0), .inl (cO, 4, .inr (.inr (.inr (.inr (va_up (va_up (fun j => [some (uh.1 0), some (uh.2.1 0), some (uh.2.2.1 0), some (uh.2.2.2 0)].getD j none) (0 : Int32).toNatClampNeg (some (uh.2.1 0))) (1 : Int32).toNatClampNeg (some (uh.2.2.1 0))))))))] ++ wX4 cI cZ cC uh.1 gh.1 ++ wX4 cI cZ cC uh.2.1 gh.2.1 ++ wX4 cI cZ cC uh.2.2.1 gh.2.2.1 ++ wX4 cI cZ cC uh.2.2.2 gh.2.2.2 : va_W) := hD
  refine lv_iinc (v := 3) (lv' := [(2, .int 3), (1, .ref (uh.1 0)), (0, .ref (q0 0))]) hx hb dX7_dropOldest_32 hl (k := 0) rfl (by decide) (by decide) rfl (fun ls hl => ?_)
  refine lv_goto (tgt := 9) hx hb dX7_dropOldest_35 (by decide) ?_
  refine lv_iload_n hx hb dX7_dropOldest_9 rfl (lv_at hl 0 rfl) ?_
  refine lv_aload_n hx hb dX7_dropOldest_10 rfl (lv_at hl 2 rfl) ?_
  refine va_get (D := (dC, dI)) (ci := 6) (v := .ref (qh 0)) (C := RX7) (T := TX7) (N := 14) hx hb hts hin7 hown hK hP 0 rfl rfl 3 (by decide) hk0 (fun _ h9 => h9) rfl dX7_dropOldest_11 ?_
  refine va_alen (v := 4) hx hb hK hP 1 3 rfl rfl rfl dX7_dropOldest_14 ?_
  refine lv_icmp_ge (tgt := 38) hx hb dX7_dropOldest_15 (by decide) (fun hc => absurd hc (by decide)) (fun _ => ?_)
  refine lv_aload_n hx hb dX7_dropOldest_18 rfl (lv_at hl 2 rfl) ?_
  refine va_get (D := (dC, dI)) (ci := 6) (v := .ref (qh 0)) (C := RX7) (T := TX7) (N := 14) hx hb hts hin7 hown hK hP 0 rfl rfl 3 (by decide) hk0 (fun _ h9 => h9) rfl dX7_dropOldest_19 ?_
  refine lv_iload_n hx hb dX7_dropOldest_22 rfl (lv_at hl 0 rfl) ?_
  refine lv_iconst (v := 1) hx hb dX7_dropOldest_23 (by decide) ?_
  refine lv_isub hx hb dX7_dropOldest_24 ?_
  rw [show (3 : Int32) - 1 = 2 by decide]
  refine lv_aload_n hx hb dX7_dropOldest_25 rfl (lv_at hl 2 rfl) ?_
  refine va_get (D := (dC, dI)) (ci := 6) (v := .ref (qh 0)) (C := RX7) (T := TX7) (N := 14) hx hb hts hin7 hown hK hP 0 rfl rfl 3 (by decide) hk0 (fun _ h9 => h9) rfl dX7_dropOldest_26 ?_
  refine lv_iload_n hx hb dX7_dropOldest_29 rfl (lv_at hl 0 rfl) ?_
  refine va_aldq hx hb hK hP 1 3 rfl rfl (by unfold vp_in; decide) dX7_dropOldest_30 ?_
  rw [show va_rf ((va_up (va_up (fun j => [some (uh.1 0), some (uh.2.1 0), some (uh.2.2.1 0), some (uh.2.2.2 0)].getD j none) (0 : Int32).toNatClampNeg (some (uh.2.1 0))) (1 : Int32).toNatClampNeg (some (uh.2.2.1 0))) (3 : Int32).toNatClampNeg) = .ref (uh.2.2.2 0) from rfl]
  refine va_astq (r := (RX4, TX4, 11)) hx hb hK hP hD hS 1 3 20 3 rfl rfl rfl rfl (by unfold vp_in; decide) dX7_dropOldest_31 (fun H locs hP hD hS => ?_)
  have hP : va_P (dC, dI) vwCl (wX7 cI cZ cC q0 qn qs qt qh qw qf qr qc qp g0 ++ [((qh 0), .inl (cO, 4, .inr (.inr (.inr (.inr (va_up (va_up (va_up (fun j => [some (uh.1 0), some (uh.2.1 0), some (uh.2.2.1 0), some (uh.2.2.2 0)].getD j none) (0 : Int32).toNatClampNeg (some (uh.2.1 0))) (1 : Int32).toNatClampNeg (some (uh.2.2.1 0))) (2 : Int32).toNatClampNeg (some (uh.2.2.2 0))))))))] ++ wX4 cI cZ cC uh.1 gh.1 ++ wX4 cI cZ cC uh.2.1 gh.2.1 ++ wX4 cI cZ cC uh.2.2.1 gh.2.2.1 ++ wX4 cI cZ cC uh.2.2.2 gh.2.2.2 : va_W) H := hP
  have hD : va_D A (wX7 cI cZ cC q0 qn qs qt qh qw qf qr qc qp g0 ++ [((qh 0), .inl (cO, 4, .inr (.inr (.inr (.inr (va_up (va_up (va_up (fun j => [some (uh.1 0), some (uh.2.1 0), some (uh.2.2.1 0), some (uh.2.2.2 0)].getD j none) (0 : Int32).toNatClampNeg (some (uh.2.1 0))) (1 : Int32).toNatClampNeg (some (uh.2.2.1 0))) (2 : Int32).toNatClampNeg (some (uh.2.2.2 0))))))))] ++ wX4 cI cZ cC uh.1 gh.1 ++ wX4 cI cZ cC uh.2.1 gh.2.1 ++ wX4 cI cZ cC uh.2.2.1 gh.2.2.1 ++ wX4 cI cZ cC uh.2.2.2 gh.2.2.2 : va_W) := hD
  refine lv_iinc (v := 4) (lv' := [(2, .int 4), (1, .ref (uh.1 0)), (0, .ref (q0 0))]) hx hb dX7_dropOldest_32 hl (k := 0) rfl (by decide) (by decide) rfl (fun ls hl => ?_)
  refine lv_goto (tgt := 9) hx hb dX7_dropOldest_35 (by decide) ?_
  refine lv_iload_n hx hb dX7_dropOldest_9 rfl (lv_at hl 0 rfl) ?_
  refine lv_aload_n hx hb dX7_dropOldest_10 rfl (lv_at hl 2 rfl) ?_
  refine va_get (D := (dC, dI)) (ci := 6) (v := .ref (qh 0)) (C := RX7) (T := TX7) (N := 14) hx hb hts hin7 hown hK hP 0 rfl rfl 3 (by decide) hk0 (fun _ h9 => h9) rfl dX7_dropOldest_11 ?_
  refine va_alen (v := 4) hx hb hK hP 1 3 rfl rfl rfl dX7_dropOldest_14 ?_
  refine lv_icmp_ge (tgt := 38) hx hb dX7_dropOldest_15 (by decide) (fun _ => ?_) (fun hc => absurd (by decide) hc)
  refine lv_aload_n hx hb dX7_dropOldest_38 rfl (lv_at hl 2 rfl) ?_
  refine va_get (D := (dC, dI)) (ci := 6) (v := .ref (qh 0)) (C := RX7) (T := TX7) (N := 14) hx hb hts hin7 hown hK hP 0 rfl rfl 3 (by decide) hk0 (fun _ h9 => h9) rfl dX7_dropOldest_39 ?_
  refine lv_aload_n hx hb dX7_dropOldest_42 rfl (lv_at hl 2 rfl) ?_
  refine va_get (D := (dC, dI)) (ci := 6) (v := .ref (qh 0)) (C := RX7) (T := TX7) (N := 14) hx hb hts hin7 hown hK hP 0 rfl rfl 3 (by decide) hk0 (fun _ h9 => h9) rfl dX7_dropOldest_43 ?_
  refine va_alen (v := 4) hx hb hK hP 1 3 rfl rfl rfl dX7_dropOldest_46 ?_
  refine lv_iconst (v := 1) hx hb dX7_dropOldest_47 (by decide) ?_
  refine lv_isub hx hb dX7_dropOldest_48 ?_
  rw [show (4 : Int32) - 1 = 3 by decide]
  refine lv_aload_n hx hb dX7_dropOldest_49 rfl (lv_at hl 1 rfl) ?_
  refine va_astq (r := (RX4, TX4, 11)) hx hb hK hP hD hS 1 3 2 3 rfl rfl rfl rfl (by unfold vp_in; decide) dX7_dropOldest_50 (fun H locs hP hD hS => ?_)
  have hP : va_P (dC, dI) vwCl (wX7 cI cZ cC q0 qn qs qt qh qw qf qr qc qp g0 ++ [((qh 0), .inl (cO, 4, .inr (.inr (.inr (.inr (va_up (va_up (va_up (va_up (fun j => [some (uh.1 0), some (uh.2.1 0), some (uh.2.2.1 0), some (uh.2.2.2 0)].getD j none) (0 : Int32).toNatClampNeg (some (uh.2.1 0))) (1 : Int32).toNatClampNeg (some (uh.2.2.1 0))) (2 : Int32).toNatClampNeg (some (uh.2.2.2 0))) (3 : Int32).toNatClampNeg (some (uh.1 0))))))))] ++ wX4 cI cZ cC uh.1 gh.1 ++ wX4 cI cZ cC uh.2.1 gh.2.1 ++ wX4 cI cZ cC uh.2.2.1 gh.2.2.1 ++ wX4 cI cZ cC uh.2.2.2 gh.2.2.2 : va_W) H := hP
  have hD : va_D A (wX7 cI cZ cC q0 qn qs qt qh qw qf qr qc qp g0 ++ [((qh 0), .inl (cO, 4, .inr (.inr (.inr (.inr (va_up (va_up (va_up (va_up (fun j => [some (uh.1 0), some (uh.2.1 0), some (uh.2.2.1 0), some (uh.2.2.2 0)].getD j none) (0 : Int32).toNatClampNeg (some (uh.2.1 0))) (1 : Int32).toNatClampNeg (some (uh.2.2.1 0))) (2 : Int32).toNatClampNeg (some (uh.2.2.2 0))) (3 : Int32).toNatClampNeg (some (uh.1 0))))))))] ++ wX4 cI cZ cC uh.1 gh.1 ++ wX4 cI cZ cC uh.2.1 gh.2.1 ++ wX4 cI cZ cC uh.2.2.1 gh.2.2.1 ++ wX4 cI cZ cC uh.2.2.2 gh.2.2.2 : va_W) := hD
  refine lv_aload_n hx hb dX7_dropOldest_51 rfl (lv_at hl 2 rfl) ?_
  refine lv_aload_n hx hb dX7_dropOldest_52 rfl (lv_at hl 2 rfl) ?_
  refine va_get (D := (dC, dI)) (ci := 6) (v := .ref (qh 0)) (C := RX7) (T := TX7) (N := 14) hx hb hts hin7 hown hK hP 0 rfl rfl 3 (by decide) hk0 (fun _ h9 => h9) rfl dX7_dropOldest_53 ?_
  refine va_alen (v := 4) hx hb hK hP 1 3 rfl rfl rfl dX7_dropOldest_56 ?_
  refine lv_iconst (v := 1) hx hb dX7_dropOldest_57 (by decide) ?_
  refine lv_isub hx hb dX7_dropOldest_58 ?_
  rw [show (4 : Int32) - 1 = 3 by decide]
  refine va_put (D := (dC, dI)) (ci := 6) (v := .int 3) (ty := .int) (C := RX7) (T := TX7) (N := 14) hx hb hts hin7 tyX7 tyX7_ok nmX7 hown hK hP hD hS 0 rfl rfl 9 (by decide) hk1 (fun _ h9 => h9) rfl (by decide +kernel) rfl rfl (Nat.le_of_ble_eq_true rfl) dX7_dropOldest_59 (fun H locs hP hD hS => ?_)
  have hP : va_P (dC, dI) vwCl (wX7 cI cZ cC q0 qn qs qt qh qw qf qr qc qp (3, (pX7_saved g0), (pX7_stopError g0), (pX7_stopDeed g0), (pX7_stopPlace g0)) ++ [((qh 0), .inl (cO, 4, .inr (.inr (.inr (.inr (va_up (va_up (va_up (va_up (fun j => [some (uh.1 0), some (uh.2.1 0), some (uh.2.2.1 0), some (uh.2.2.2 0)].getD j none) (0 : Int32).toNatClampNeg (some (uh.2.1 0))) (1 : Int32).toNatClampNeg (some (uh.2.2.1 0))) (2 : Int32).toNatClampNeg (some (uh.2.2.2 0))) (3 : Int32).toNatClampNeg (some (uh.1 0))))))))] ++ wX4 cI cZ cC uh.1 gh.1 ++ wX4 cI cZ cC uh.2.1 gh.2.1 ++ wX4 cI cZ cC uh.2.2.1 gh.2.2.1 ++ wX4 cI cZ cC uh.2.2.2 gh.2.2.2 : va_W) H := hP
  have hD : va_D A (wX7 cI cZ cC q0 qn qs qt qh qw qf qr qc qp (3, (pX7_saved g0), (pX7_stopError g0), (pX7_stopDeed g0), (pX7_stopPlace g0)) ++ [((qh 0), .inl (cO, 4, .inr (.inr (.inr (.inr (va_up (va_up (va_up (va_up (fun j => [some (uh.1 0), some (uh.2.1 0), some (uh.2.2.1 0), some (uh.2.2.2 0)].getD j none) (0 : Int32).toNatClampNeg (some (uh.2.1 0))) (1 : Int32).toNatClampNeg (some (uh.2.2.1 0))) (2 : Int32).toNatClampNeg (some (uh.2.2.2 0))) (3 : Int32).toNatClampNeg (some (uh.1 0))))))))] ++ wX4 cI cZ cC uh.1 gh.1 ++ wX4 cI cZ cC uh.2.1 gh.2.1 ++ wX4 cI cZ cC uh.2.2.1 gh.2.2.1 ++ wX4 cI cZ cC uh.2.2.2 gh.2.2.2 : va_W) := hD
  obtain ⟨hP, hD⟩ := wrep hP hD 1 (e1 := .inl (cO, 4, .inr (.inr (.inr (.inr (fun j => [some (uh.2.1 0), some (uh.2.2.1 0), some (uh.2.2.2 0), some (uh.1 0)].getD j none)))))) rfl (wref (fun j hj => by match j, hj with | 0, _ => rfl | 1, _ => rfl | 2, _ => rfl | 3, _ => rfl))
  have hP := hP.sub (ws' := (wX7 cI cZ cC q0 qn qs qt qh qw qf qr qc qp (3, (pX7_saved g0), (pX7_stopError g0), (pX7_stopDeed g0), (pX7_stopPlace g0)) ++ wH cI cZ cC cO qh (uh.2.1, uh.2.2.1, uh.2.2.2, uh.1) (gh.2.1, gh.2.2.1, gh.2.2.2, gh.1))) [0, 1, 8, 9, 10, 11, 12, 13, 14, 15, 16, 17, 18, 19, 20, 21, 22, 23, 24, 25, 2, 3, 4, 5, 6, 7] rfl
  have hD := hD.sub (ws' := (wX7 cI cZ cC q0 qn qs qt qh qw qf qr qc qp (3, (pX7_saved g0), (pX7_stopError g0), (pX7_stopDeed g0), (pX7_stopPlace g0)) ++ wH cI cZ cC cO qh (uh.2.1, uh.2.2.1, uh.2.2.2, uh.1) (gh.2.1, gh.2.2.1, gh.2.2.2, gh.1))) [0, 1, 8, 9, 10, 11, 12, 13, 14, 15, 16, 17, 18, 19, 20, 21, 22, 23, 24, 25, 2, 3, 4, 5, 6, 7] (by decide) rfl
  obtain rfl := Option.some.inj hf
  exact W.vret hx hb hr (fun t ht hW => ⟨⟨(uh.2.1, uh.2.2.1, uh.2.2.2, uh.1), rfl, trivial, by rw [ht]; exact hP, hD⟩, hS.F ht⟩) hS.2.2 dX7_dropOldest_62
