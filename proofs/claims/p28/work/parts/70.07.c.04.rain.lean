set_option maxHeartbeats 4000000 in
set_option maxRecDepth 100000 in
theorem mX7_rain (l : Launch) (dC : Nat → ClassId) (dI : Nat → Nat → Nat) (cI cZ cC cO : ClassId) (q0 : Nat → Nat) (qn : Nat → Nat) (qs : Nat → Nat) (qt : Nat → Nat) (qh : Nat → Nat) (qw : Nat → Nat) (qf : Nat → Nat) (qr : Nat → Nat) (qc : Nat → Nat) (qp : Nat → Nat) (uh : QH) (a1 : Int32) (g0 : GX7) (gn : GX4) (gh : GH) (gw : GX6) (sz : Nat) (out : Int32 × GX7 × GX4 × GH × GX6) (hf : fX7_rain a1 g0 gn gh gw = some out) : Met l yX7_rain wsX7_rain rmX7_rain (va_Pc [.ref (q0 0), .int a1] (pcW (dC, dI) (wTys cI cZ cC cO) sz (wX7 cI cZ cC q0 qn qs qt qh qw qf qr qc qp g0 ++ wX4 cI cZ cC qn gn ++ wH cI cZ cC cO qh uh gh ++ wX6 cI cZ cC qw gw))) (va_Qi (fun r (_ : QH) => r = out.1) (fun u => poW (dC, dI) (va_A (wX7 cI cZ cC q0 qn qs qt qh qw qf qr qc qp g0 ++ wX4 cI cZ cC qn gn ++ wH cI cZ cC cO qh uh gh ++ wX6 cI cZ cC qw gw) sz) (wX7 cI cZ cC q0 qn qs qt qh qw qf qr qc qp out.2.1 ++ wX4 cI cZ cC qn out.2.2.1 ++ wH cI cZ cC cO qh u out.2.2.2.1 ++ wX6 cI cZ cC qw out.2.2.2.2)) (va_A (wX7 cI cZ cC q0 qn qs qt qh qw qf qr qc qp g0 ++ wX4 cI cZ cC qn gn ++ wH cI cZ cC cO qh uh gh ++ wX6 cI cZ cC qw gw) sz)) 0 0 (va_A (wX7 cI cZ cC q0 qn qs qt qh qw qf qr qc qp g0 ++ wX4 cI cZ cC qn gn ++ wH cI cZ cC cO qh uh gh ++ wX6 cI cZ cC qw gw) sz) := by
  refine Met.ofW (cc := cX7_rain) (maxL := 4) (ret := (some .int)) (by decide) rfl ?_
  intro p e s m args below meth c s₁ B hml hv
  obtain ⟨hargs, hsz, hP, hK, hN, hD0⟩ := hv
  have hx := B.exec
  have hb := B.bytes
  have hr := B.returns
  have hts := atoms_spec (ws := wsX7_rain) B.pre
  have hown : s.vm.findClass RX7 = some m.cls := findClass_of_methodNamed B.named
  have hlocks := B.notSynchronized
  subst hsz
  have hD := hD0.self (sz := s.heap.size)
  generalize hAe : va_A (wX7 cI cZ cC q0 qn qs qt qh qw qf qr qc qp g0 ++ wX4 cI cZ cC qn gn ++ wH cI cZ cC cO qh uh gh ++ wX6 cI cZ cC qw gw) s.heap.size = A at hD ⊢
  have hA : ∀ q : Nat, s.heap.size ≤ q → A q := fun q h => by rw [← hAe]; exact Or.inr h
  have hS : va_S A s.heap s.heap [] := va_S.rf
  have hE := lg_entry_eq m [.ref (q0 0), .int a1] 4
  rw [← hargs] at hE
  rw [hE]
  have hl := lv_entry [.ref (q0 0), .int a1] (n := 4) (Nat.le_of_ble_eq_true rfl)
  generalize (lg_sl [.ref (q0 0), .int a1] ++ List.replicate (4 - (lg_sl [.ref (q0 0), .int a1]).length) Slot.unset).toArray = ls at hl ⊢
  have hl : lv_has ls 4 [(0, .ref (q0 0)), (1, .int a1)] := hl
  have hP : va_P (dC, dI) vwCl (wX7 cI cZ cC q0 qn qs qt qh qw qf qr qc qp g0 ++ wX4 cI cZ cC qn gn ++ wH cI cZ cC cO qh uh gh ++ wX6 cI cZ cC qw gw) s.heap := hP
  unfold fX7_rain at hf
  refine lv_iload_n hx hb dX7_rain_0 rfl (lv_at hl 1 rfl) ?_
  refine lv_iconst (v := 1) hx hb dX7_rain_1 (by decide) ?_
  refine lv_icmp_lt (tgt := 11) hx hb dX7_rain_2 (by decide) (fun hc => ?_) (fun hc => ?_)
  · have hf := ot hc hf
    refine lv_iconst (v := (-1)) hx hb dX7_rain_11 (by decide) ?_
    obtain rfl := Option.some.inj hf
    exact W.iret (v := (-1)) hx hb hr (fun t ht hW => ⟨⟨_, uh, rfl, rfl, by rw [ht]; exact hP, hD⟩, hS.F ht⟩) hS.2.2 dX7_rain_12
  · have hf := oe hc hf
    refine lv_iload_n hx hb dX7_rain_5 rfl (lv_at hl 1 rfl) ?_
    refine lv_bipush (v := 20) hx hb dX7_rain_6 (by decide) ?_
    refine lv_icmp_le (tgt := 13) hx hb dX7_rain_8 (by decide) (fun hc => ?_) (fun hc => ?_)
    · have hf := ot hc hf
      refine lv_aload_n hx hb dX7_rain_13 rfl (lv_at hl 0 rfl) ?_
      obtain ⟨o14, ho14, hf⟩ := ob hf
      refine wVv (W1 := (fun u14 : QH => (wX7 cI cZ cC q0 qn qs qt qh qw qf qr qc qp o14.1 ++ wX4 cI cZ cC qn gn ++ wH cI cZ cC cO qh u14 o14.2 ++ wX6 cI cZ cC qw gw))) (rest := []) (As := []) ⟨hx, hb, hml, hown, hts⟩ (mX7_record l dC dI cI cZ cC cO q0 qn qs qt qh qw qf qr qc qp uh _ _ _ _ _ ho14) (cwV 0 hts gX7_rain_X7_record rfl rfl rfl (by decide +kernel) ⟨Nat.le_of_ble_eq_true rfl, Nat.le_of_ble_eq_true rfl⟩) hK hN hP hD hS hA [0, 1, 2, 3, 4, 5, 6, 7, 8, 9, 10, 11, 12, 13, 14, 15, 16, 17, 18, 19, 20, 21, 22, 23, 24, 25, 26, 27, 28, 29, 30, 31] [32] [1, 2, 3, 4, 5, 6, 7, 8, 9, 10, 11, 12, 13, 14, 15, 16, 17, 18, 19, 20, 21, 22, 23, 24, 25, 26, 27, 28, 29, 30, 31, 32, 0] rfl rfl (by decide +kernel) (by decide +kernel) (fun _ => rfl) 6 rfl rfl rfl rfl hl.1 rfl (Nat.le_of_ble_eq_true rfl) dX7_rain_14 ⟨Nat.zero_le _, Nat.zero_le _⟩ (fun u14 H locs hP hD hS => ?_)
      have hP : va_P (dC, dI) vwCl (wX7 cI cZ cC q0 qn qs qt qh qw qf qr qc qp o14.1 ++ wX4 cI cZ cC qn gn ++ wH cI cZ cC cO qh u14 o14.2 ++ wX6 cI cZ cC qw gw) H := hP
      have hD : va_D A (wX7 cI cZ cC q0 qn qs qt qh qw qf qr qc qp o14.1 ++ wX4 cI cZ cC qn gn ++ wH cI cZ cC cO qh u14 o14.2 ++ wX6 cI cZ cC qw gw) := hD
      refine lv_iconst (v := 0) hx hb dX7_rain_17 (by decide) ?_
      refine lv_istore_n (lv' := [(2, .int 0), (0, .ref (q0 0)), (1, .int a1)]) hx hb dX7_rain_18 rfl hl (by decide) rfl (fun ls hl => ?_)
      refine lv_iconst (v := 0) hx hb dX7_rain_19 (by decide) ?_
      refine lv_istore_n (lv' := [(3, .int 0), (2, .int 0), (0, .ref (q0 0)), (1, .int a1)]) hx hb dX7_rain_20 rfl hl (by decide) rfl (fun ls hl => ?_)
      have hL21 : ∀ (n : Nat) (s21 : Int32 × Int32 × GX4 × GX6) (o21 : Int32 × GX4 × GX6), lp (tX7_rain_21 a1 o14) n s21 = some o21 → ∀ (H : Heap) (locs : List Loc) (ls : Array Slot), va_P (dC, dI) vwCl (wX7 cI cZ cC q0 qn qs qt qh qw qf qr qc qp o14.1 ++ wX4 cI cZ cC qn s21.2.2.1 ++ wH cI cZ cC cO qh u14 o14.2 ++ wX6 cI cZ cC qw s21.2.2.2) H → va_D A (wX7 cI cZ cC q0 qn qs qt qh qw qf qr qc qp o14.1 ++ wX4 cI cZ cC qn s21.2.2.1 ++ wH cI cZ cC cO qh u14 o14.2 ++ wX6 cI cZ cC qw s21.2.2.2) → va_S A s.heap H locs → lv_has ls 4 [(0, .ref (q0 0)), (1, .int a1), (2, .int s21.1), (3, .int s21.2.1)] → (∀ (H : Heap) (locs : List Loc) (ls : Array Slot), va_P (dC, dI) vwCl (wX7 cI cZ cC q0 qn qs qt qh qw qf qr qc qp o14.1 ++ wX4 cI cZ cC qn o21.2.1 ++ wH cI cZ cC cO qh u14 o14.2 ++ wX6 cI cZ cC qw o21.2.2) H → va_D A (wX7 cI cZ cC q0 qn qs qt qh qw qf qr qc qp o14.1 ++ wX4 cI cZ cC qn o21.2.1 ++ wH cI cZ cC cO qh u14 o14.2 ++ wX6 cI cZ cC qw o21.2.2) → va_S A s.heap H locs → lv_has ls 4 [(2, .int o21.1)] → W p l e (headSpec wsX7_rain rmX7_rain).room s m args below meth c H locs 0 0 (MQ below (va_Qi (fun r (_ : QH) => r = out.1) (fun u => poW (dC, dI) A (wX7 cI cZ cC q0 qn qs qt qh qw qf qr qc qp out.2.1 ++ wX4 cI cZ cC qn out.2.2.1 ++ wH cI cZ cC cO qh u out.2.2.2.1 ++ wX6 cI cZ cC qw out.2.2.2.2)) A) args s 0 0 A) (F0 m 42 ls [])) → W p l e (headSpec wsX7_rain rmX7_rain).room s m args below meth c H locs 0 0 (MQ below (va_Qi (fun r (_ : QH) => r = out.1) (fun u => poW (dC, dI) A (wX7 cI cZ cC q0 qn qs qt qh qw qf qr qc qp out.2.1 ++ wX4 cI cZ cC qn out.2.2.1 ++ wH cI cZ cC cO qh u out.2.2.2.1 ++ wX6 cI cZ cC qw out.2.2.2.2)) A) args s 0 0 A) (F0 m 21 ls []) := by
        intro n
        induction n with
        | zero => intro s21 o21 hf; exact (lp0 hf).elim
        | succ n ih21 =>
          intro s21 o21 hf H locs ls hP hD hS hl kx
          obtain ⟨r21, hf, hn⟩ := lps hf
          unfold tX7_rain_21 at hf
          refine lv_iload_n hx hb dX7_rain_21 rfl (lv_at hl 3 rfl) ?_
          refine lv_iload_n hx hb dX7_rain_22 rfl (lv_at hl 1 rfl) ?_
          refine lv_icmp_ge (tgt := 42) hx hb dX7_rain_23 (by decide) (fun hc => ?_) (fun hc => ?_)
          · have hf := ot hc hf
            obtain rfl := Option.some.inj hf
            obtain rfl := Option.some.inj hn
            exact kx _ _ ls hP hD hS (lv_sub hl [2] rfl)
          · have hf := oe hc hf
            refine lv_aload_n hx hb dX7_rain_26 rfl (lv_at hl 0 rfl) ?_
            obtain ⟨o27, ho27, hf⟩ := ob hf
            refine wVi (W1 := (fun _ : Unit => (wX7 cI cZ cC q0 qn qs qt qh qw qf qr qc qp o14.1 ++ wX4 cI cZ cC qn o27.2.1 ++ wH cI cZ cC cO qh u14 o14.2 ++ wX6 cI cZ cC qw o27.2.2))) (rest := []) (As := []) ⟨hx, hb, hml, hown, hts⟩ (mX7_dropSticks l dC dI cI cZ cC cO q0 qn qs qt qh qw qf qr qc qp _ _ _ _ _ ho27) (cwV 0 hts gX7_rain_X7_dropSticks rfl rfl rfl (by decide +kernel) ⟨Nat.le_of_ble_eq_true rfl, Nat.le_of_ble_eq_true rfl⟩) hK hN hP hD hS hA [0, 1, 2, 3, 4, 5, 6, 32] [7, 8, 9, 10, 11, 12, 13, 14, 15, 16, 17, 18, 19, 20, 21, 22, 23, 24, 25, 26, 27, 28, 29, 30, 31] [25, 26, 27, 28, 29, 30, 31, 0, 1, 2, 3, 4, 5, 6, 7, 8, 9, 10, 11, 12, 13, 14, 15, 16, 17, 18, 19, 20, 21, 22, 23, 24, 32] rfl rfl (by decide +kernel) (by decide +kernel) (fun _ => rfl) 6 rfl rfl rfl rfl hl.1 rfl (Nat.le_of_ble_eq_true rfl) dX7_rain_27 ⟨Nat.zero_le _, Nat.zero_le _⟩ (fun _ H locs hP hD hS => ?_)
            have hP : va_P (dC, dI) vwCl (wX7 cI cZ cC q0 qn qs qt qh qw qf qr qc qp o14.1 ++ wX4 cI cZ cC qn o27.2.1 ++ wH cI cZ cC cO qh u14 o14.2 ++ wX6 cI cZ cC qw o27.2.2) H := hP
            have hD : va_D A (wX7 cI cZ cC q0 qn qs qt qh qw qf qr qc qp o14.1 ++ wX4 cI cZ cC qn o27.2.1 ++ wH cI cZ cC cO qh u14 o14.2 ++ wX6 cI cZ cC qw o27.2.2) := hD
            have hJ1 : ∀ (x2_1 : Int32), jX7_rain_1 s21 o27 x2_1 = some r21 → ∀ (H : Heap) (locs : List Loc) (ls : Array Slot), va_P (dC, dI) vwCl (wX7 cI cZ cC q0 qn qs qt qh qw qf qr qc qp o14.1 ++ wX4 cI cZ cC qn o27.2.1 ++ wH cI cZ cC cO qh u14 o14.2 ++ wX6 cI cZ cC qw o27.2.2) H → va_D A (wX7 cI cZ cC q0 qn qs qt qh qw qf qr qc qp o14.1 ++ wX4 cI cZ cC qn o27.2.1 ++ wH cI cZ cC cO qh u14 o14.2 ++ wX6 cI cZ cC qw o27.2.2) → va_S A s.heap H locs → lv_has ls 4 [(0, .ref (q0 0)), (1, .int a1), (2, .int x2_1), (3, .int s21.2.1)] → W p l e (headSpec wsX7_rain rmX7_rain).room s m args below meth c H locs 0 0 (MQ below (va_Qi (fun r (_ : QH) => r = out.1) (fun u => poW (dC, dI) A (wX7 cI cZ cC q0 qn qs qt qh qw qf qr qc qp out.2.1 ++ wX4 cI cZ cC qn out.2.2.1 ++ wH cI cZ cC cO qh u out.2.2.2.1 ++ wX6 cI cZ cC qw out.2.2.2.2)) A) args s 0 0 A) (F0 m 36 ls []) := by
              intro x2_1 hf H locs ls hP hD hS hl
              unfold jX7_rain_1 at hf
              refine lv_iinc (v := (s21.2.1 + 1)) (lv' := [(3, .int (s21.2.1 + 1)), (0, .ref (q0 0)), (1, .int a1), (2, .int x2_1)]) hx hb dX7_rain_36 hl (k := 3) rfl rfl (by decide) rfl (fun ls hl => ?_)
              refine lv_goto (tgt := 21) hx hb dX7_rain_39 (by decide) ?_
              obtain rfl := Option.some.inj hf
              exact ih21 _ _ hn _ _ ls hP hD hS (lv_sub hl [1, 2, 3, 0] rfl) kx
            refine lv_if_eq (tgt := 36) hx hb dX7_rain_30 (by decide) (fun hc => ?_) (fun hc => ?_)
            · have hf := ot hc hf
              exact hJ1 _ hf _ _ ls hP hD hS (lv_sub hl [0, 1, 2, 3] rfl)
            · have hf := oe hc hf
              refine lv_iinc (v := (s21.1 + 1)) (lv' := [(2, .int (s21.1 + 1)), (0, .ref (q0 0)), (1, .int a1), (3, .int s21.2.1)]) hx hb dX7_rain_33 hl (k := 2) rfl rfl (by decide) rfl (fun ls hl => ?_)
              exact hJ1 _ hf _ _ ls hP hD hS (lv_sub hl [1, 2, 0, 3] rfl)
      obtain ⟨o21, ho21, hf⟩ := ob hf
      refine hL21 FU _ _ ho21 _ _ ls hP hD hS (lv_sub hl [2, 3, 1, 0] rfl) (fun H locs ls hP hD hS hl => ?_)
      refine lv_iload_n hx hb dX7_rain_42 rfl (lv_at hl 0 rfl) ?_
      obtain rfl := Option.some.inj hf
      exact W.iret (v := o21.1) hx hb hr (fun t ht hW => ⟨⟨_, u14, rfl, rfl, by rw [ht]; exact hP, hD⟩, hS.F ht⟩) hS.2.2 dX7_rain_43
    · have hf := oe hc hf
      refine lv_iconst (v := (-1)) hx hb dX7_rain_11 (by decide) ?_
      obtain rfl := Option.some.inj hf
      exact W.iret (v := (-1)) hx hb hr (fun t ht hW => ⟨⟨_, uh, rfl, rfl, by rw [ht]; exact hP, hD⟩, hS.F ht⟩) hS.2.2 dX7_rain_12
