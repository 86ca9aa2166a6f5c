/-- RimGrainsModel.private int goBreak(int); -/
def jX8_goBreak_1 (s2 : (Int32 × GX8)) (y0_1 : Int32) : Option ((Int32 × GX8) ⊕ (GX8)) :=
  (if s2.1 < 0 ∨ 121 ≤ s2.1.toNatClampNeg then none else some (.inl ((s2.1 + 1), ((pX8_s s2.2), (pX8_aside s2.2), (pX8_past s2.2), (pX8_known s2.2), (pX8_kept s2.2), (pX8_isKept s2.2), (pX8_pad s2.2), (pX8_length s2.2), (pX8_whyError s2.2), (pX8_whyNumber s2.2), (pX8_whySpot s2.2), (pX8_lots s2.2), (pX8_walker s2.2), (pX8_steps s2.2), (upd (pX8_goes s2.2) s2.1.toNatClampNeg (vp_nar .boolean y0_1)), (pX8_becomes s2.2), (pX8_spot s2.2), (pX8_isForm s2.2), (pX8_letter s2.2), (pX8_told s2.2), (pX8_highest s2.2)))))
def jX8_goBreak_2 (s2 : (Int32 × GX8)) : Option ((Int32 × GX8) ⊕ (GX8)) :=
  jX8_goBreak_1 s2 1
def jX8_goBreak_3 (s2 : (Int32 × GX8)) : Option ((Int32 × GX8) ⊕ (GX8)) :=
  jX8_goBreak_1 s2 0
def tX8_goBreak_2 (a1 : Int32) (s2 : (Int32 × GX8)) : Option ((Int32 × GX8) ⊕ (GX8)) :=
  (if ((pX8_s s2.2) (0 : Int32).toNatClampNeg) ≤ s2.1 then some (.inr s2.2) else (if s2.1 = a1 then jX8_goBreak_2 s2 else ((fX8_holder s2.1 s2.2).bind fun o24 => (if o24 < 0 then jX8_goBreak_3 s2 else ((fX8_holder s2.1 s2.2).bind fun o36 => (if o36 < 0 ∨ 121 ≤ o36.toNatClampNeg then none else (if ((pX8_goes s2.2) o36.toNatClampNeg) = 0 then jX8_goBreak_3 s2 else jX8_goBreak_2 s2)))))))
def fX8_goBreak (a1 : Int32) (g0 : GX8) : Option (Int32 × GX8) :=
  ((lp (tX8_goBreak_2 a1) FU (0, g0)).bind fun o2 => ((fX8_takesAway o2).bind fun o56 => some (o56.1, o56.2)))
abbrev rmX8_goBreak : Room := { frames := 3, cells := 0, slots := 0, locals := 69 }
set_option maxHeartbeats 4000000 in
set_option maxRecDepth 100000 in
theorem mX8_goBreak (l : Launch) (dC : Nat → ClassId) (dI : Nat → Nat → Nat) (cI cZ cC cO : ClassId) (q0 : Nat → Nat) (a1 : Int32) (g0 : GX8) (sz : Nat) (out : Int32 × GX8) (hf : fX8_goBreak a1 g0 = some out) : Met l yX8_goBreak wsX8_goBreak rmX8_goBreak (va_Pc [.ref (q0 0), .int a1] (pcW (dC, dI) (wTys cI cZ cC cO) sz (wX8 cI cZ cC q0 g0))) (va_Qi (fun r (_ : Unit) => r = out.1) (fun _ => poW (dC, dI) (va_A (wX8 cI cZ cC q0 g0) sz) (wX8 cI cZ cC q0 out.2)) (va_A (wX8 cI cZ cC q0 g0) sz)) 0 0 (va_A (wX8 cI cZ cC q0 g0) sz) := by
  refine Met.ofW (cc := cX8_goBreak) (maxL := 3) (ret := (some .int)) (by decide) rfl ?_
  intro p e s m args below meth c s₁ B hml hv
  obtain ⟨hargs, hsz, hP, hK, hN, hD0⟩ := hv
  have hx := B.exec
  have hb := B.bytes
  have hr := B.returns
  have hts := atoms_spec (ws := wsX8_goBreak) B.pre
  have hown : s.vm.findClass RX8 = some m.cls := findClass_of_methodNamed B.named
  have hlocks := B.notSynchronized
  have hk0 := hts (.fieldLink RX8 7 "RimGrainsModel" "s" "[I") (by decide +kernel)
  have hk1 := hts (.fieldLink RX8 25 "RimGrainsModel" "goes" "[Z") (by decide +kernel)
  have hin8 : ∀ w ∈ wsX80, w ∈ wsX8_goBreak := by decide +kernel
  subst hsz
  have hD := hD0.self (sz := s.heap.size)
  generalize hAe : va_A (wX8 cI cZ cC q0 g0) s.heap.size = A at hD ⊢
  have hA : ∀ q : Nat, s.heap.size ≤ q → A q := fun q h => by rw [← hAe]; exact Or.inr h
  have hS : va_S A s.heap s.heap [] := va_S.rf
  have hE := lg_entry_eq m [.ref (q0 0), .int a1] 3
  rw [← hargs] at hE
  rw [hE]
  have hl := lv_entry [.ref (q0 0), .int a1] (n := 3) (Nat.le_of_ble_eq_true rfl)
  generalize (lg_sl [.ref (q0 0), .int a1] ++ List.replicate (3 - (lg_sl [.ref (q0 0), .int a1]).length) Slot.unset).toArray = ls at hl ⊢
  have hl : lv_has ls 3 [(0, .ref (q0 0)), (1, .int a1)] := hl
  have hP : va_P (dC, dI) vwCl (wX8 cI cZ cC q0 g0) s.heap := hP
  unfold fX8_goBreak at hf
  refine lv_iconst (v := 0) hx hb dX8_goBreak_0 (by decide) ?_
  refine lv_istore_n (lv' := [(2, .int 0), (0, .ref (q0 0)), (1, .int a1)]) hx hb dX8_goBreak_1 rfl hl (by decide) rfl (fun ls hl => ?_)
  have hL2 : ∀ (n : Nat) (s2 : Int32 × GX8) (o2 : GX8), lp (tX8_goBreak_2 a1) n s2 = some o2 → ∀ (H : Heap) (locs : List Loc) (ls : Array Slot), va_P (dC, dI) vwCl (wX8 cI cZ cC q0 s2.2) H → va_D A (wX8 cI cZ cC q0 s2.2) → va_S A s.heap H locs → lv_has ls 3 [(0, .ref (q0 0)), (1, .int a1), (2, .int s2.1)] → (∀ (H : Heap) (locs : List Loc) (ls : Array Slot), va_P (dC, dI) vwCl (wX8 cI cZ cC q0 o2) H → va_D A (wX8 cI cZ cC q0 o2) → va_S A s.heap H locs → lv_has ls 3 [(0, .ref (q0 0))] → W p l e (headSpec wsX8_goBreak rmX8_goBreak).room s m args below meth c H locs 0 0 (MQ below (va_Qi (fun r (_ : Unit) => r = out.1) (fun _ => poW (dC, dI) A (wX8 cI cZ cC q0 out.2)) A) args s 0 0 A) (F0 m 55 ls [])) → W p l e (headSpec wsX8_goBreak rmX8_goBreak).room s m args below meth c H locs 0 0 (MQ below (va_Qi (fun r (_ : Unit) => r = out.1) (fun _ => poW (dC, dI) A (wX8 cI cZ cC q0 out.2)) A) args s 0 0 A) (F0 m 2 ls []) := by
    intro n
    induction n with
    | zero => intro s2 o2 hf; exact (lp0 hf).elim
    | succ n ih2 =>
      intro s2 o2 hf H locs ls hP hD hS hl kx
      obtain ⟨r2, hf, hn⟩ := lps hf
      unfold tX8_goBreak_2 at hf
      refine lv_iload_n hx hb dX8_goBreak_2 rfl (lv_at hl 2 rfl) ?_
      refine lv_aload_n hx hb dX8_goBreak_3 rfl (lv_at hl 0 rfl) ?_
      refine va_get (D := (dC, dI)) (ci := 7) (v := .ref (q0 1)) (C := RX8) (T := TX8) (N := 21) hx hb hts hin8 hown hK hP 0 rfl rfl 0 (by decide) hk0 (fun _ h9 => h9) rfl dX8_goBreak_4 ?_
      refine lv_iconst (v := 0) hx hb dX8_goBreak_7 (by decide) ?_
      have hin : vp_in (0 : Int32) 373 := by unfold vp_in; decide
      refine va_iald hx hb hK hP 1 0 rfl rfl hin dX8_goBreak_8 ?_
      refine lv_icmp_ge (tgt := 55) hx hb dX8_goBreak_9 (by decide) (fun hc => ?_) (fun hc => ?_)
      · have hf := ot hc hf
        obtain rfl := Option.some.inj hf
        obtain rfl := Option.some.inj hn
        exact kx _ _ ls hP hD hS (lv_sub hl [0] rfl)
      · have hf := oe hc hf
        refine lv_aload_n hx hb dX8_goBreak_12 rfl (lv_at hl 0 rfl) ?_
        refine va_get (D := (dC, dI)) (ci := 7) (v := .ref (q0 6)) (C := RX8) (T := TX8) (N := 21) hx hb hts hin8 hown hK hP 0 rfl rfl 14 (by decide) hk1 (fun _ h9 => h9) rfl dX8_goBreak_13 ?_
        refine lv_iload_n hx hb dX8_goBreak_16 rfl (lv_at hl 2 rfl) ?_
        refine lv_iload_n hx hb dX8_goBreak_17 rfl (lv_at hl 2 rfl) ?_
        refine lv_iload_n hx hb dX8_goBreak_18 rfl (lv_at hl 1 rfl) ?_
        have hJ1 : ∀ (y0_1 : Int32), jX8_goBreak_1 s2 y0_1 = some r2 → ∀ (H : Heap) (locs : List Loc) (ls : Array Slot), va_P (dC, dI) vwCl (wX8 cI cZ cC q0 s2.2) H → va_D A (wX8 cI cZ cC q0 s2.2) → va_S A s.heap H locs → lv_has ls 3 [(0, .ref (q0 0)), (1, .int a1), (2, .int s2.1)] → W p l e (headSpec wsX8_goBreak rmX8_goBreak).room s m args below meth c H locs 0 0 (MQ below (va_Qi (fun r (_ : Unit) => r = out.1) (fun _ => poW (dC, dI) A (wX8 cI cZ cC q0 out.2)) A) args s 0 0 A) (F0 m 48 ls [.int y0_1, .int s2.1, .ref (q0 6)]) := by
          intro y0_1 hf H locs ls hP hD hS hl
          unfold jX8_goBreak_1 at hf
          obtain ⟨hin, hf⟩ := og hf
          refine va_zast hx hb hK hP hD hS 6 1 rfl rfl hin dX8_goBreak_48 (fun H locs hP hD hS => ?_)
          have hP : va_P (dC, dI) vwCl (wX8 cI cZ cC q0 ((pX8_s s2.2), (pX8_aside s2.2), (pX8_past s2.2), (pX8_known s2.2), (pX8_kept s2.2), (pX8_isKept s2.2), (pX8_pad s2.2), (pX8_length s2.2), (pX8_whyError s2.2), (pX8_whyNumber s2.2), (pX8_whySpot s2.2), (pX8_lots s2.2), (pX8_walker s2.2), (pX8_steps s2.2), (upd (pX8_goes s2.2) s2.1.toNatClampNeg (vp_nar .boolean y0_1)), (pX8_becomes s2.2), (pX8_spot s2.2), (pX8_isForm s2.2), (pX8_letter s2.2), (pX8_told s2.2), (pX8_highest s2.2))) H := hP
          have hD : va_D A (wX8 cI cZ cC q0 ((pX8_s s2.2), (pX8_aside s2.2), (pX8_past s2.2), (pX8_known s2.2), (pX8_kept s2.2), (pX8_isKept s2.2), (pX8_pad s2.2), (pX8_length s2.2), (pX8_whyError s2.2), (pX8_whyNumber s2.2), (pX8_whySpot s2.2), (pX8_lots s2.2), (pX8_walker s2.2), (pX8_steps s2.2), (upd (pX8_goes s2.2) s2.1.toNatClampNeg (vp_nar .boolean y0_1)), (pX8_becomes s2.2), (pX8_spot s2.2), (pX8_isForm s2.2), (pX8_letter s2.2), (pX8_told s2.2), (pX8_highest s2.2))) := hD
          refine lv_iinc (v := (s2.1 + 1)) (lv' := [(2, .int (s2.1 + 1)), (0, .ref (q0 0)), (1, .int a1)]) hx hb dX8_goBreak_49 hl (k := 2) rfl rfl (by decide) rfl (fun ls hl => ?_)
          refine lv_goto (tgt := 2) hx hb dX8_goBreak_52 (by decide) ?_
          obtain rfl := Option.some.inj hf
          exact ih2 _ _ hn _ _ ls hP hD hS (lv_sub hl [1, 2, 0] rfl) kx
        have hJ2 : jX8_goBreak_2 s2 = some r2 → ∀ (H : Heap) (locs : List Loc) (ls : Array Slot), va_P (dC, dI) vwCl (wX8 cI cZ cC q0 s2.2) H → va_D A (wX8 cI cZ cC q0 s2.2) → va_S A s.heap H locs → lv_has ls 3 [(0, .ref (q0 0)), (1, .int a1), (2, .int s2.1)] → W p l e (headSpec wsX8_goBreak rmX8_goBreak).room s m args below meth c H locs 0 0 (MQ below (va_Qi (fun r (_ : Unit) => r = out.1) (fun _ => poW (dC, dI) A (wX8 cI cZ cC q0 out.2)) A) args s 0 0 A) (F0 m 43 ls [.int s2.1, .ref (q0 6)]) := by
          intro  hf H locs ls hP hD hS hl
          unfold jX8_goBreak_2 at hf
          refine lv_iconst (v := 1) hx hb dX8_goBreak_43 (by decide) ?_
          refine lv_goto (tgt := 48) hx hb dX8_goBreak_44 (by decide) ?_
          exact hJ1 _ hf _ _ ls hP hD hS (lv_sub hl [0, 1, 2] rfl)
        refine lv_icmp_eq (tgt := 43) hx hb dX8_goBreak_19 (by decide) (fun hc => ?_) (fun hc => ?_)
        · have hf := ot hc hf
          exact hJ2 hf _ _ ls hP hD hS (lv_sub hl [0, 1, 2] rfl)
        · have hf := oe hc hf
          refine lv_aload_n hx hb dX8_goBreak_22 rfl (lv_at hl 0 rfl) ?_
          refine lv_iload_n hx hb dX8_goBreak_23 rfl (lv_at hl 2 rfl) ?_
          obtain ⟨o24, ho24, hf⟩ := ob hf
          refine rV (rest := [.int s2.1, .ref (q0 6)]) (As := [.int s2.1]) ⟨hx, hb, hml, hown, hts⟩ (mX8_holder l dC dI cI cZ cC cO q0 _ _ _ ho24) (cwV 1 hts gX8_goBreak_X8_holder rfl rfl rfl (by decide +kernel) ⟨Nat.le_of_ble_eq_true rfl, Nat.le_of_ble_eq_true rfl⟩) hK hN hP [0, 1, 2, 3, 4, 5, 6, 7, 8] rfl 7 rfl rfl rfl rfl hl.1 rfl (Nat.le_of_ble_eq_true rfl) dX8_goBreak_24 ⟨Nat.zero_le _, Nat.zero_le _⟩ ?_
          have hJ3 : jX8_goBreak_3 s2 = some r2 → ∀ (H : Heap) (locs : List Loc) (ls : Array Slot), va_P (dC, dI) vwCl (wX8 cI cZ cC q0 s2.2) H → va_D A (wX8 cI cZ cC q0 s2.2) → va_S A s.heap H locs → lv_has ls 3 [(0, .ref (q0 0)), (1, .int a1), (2, .int s2.1)] → W p l e (headSpec wsX8_goBreak rmX8_goBreak).room s m args below meth c H locs 0 0 (MQ below (va_Qi (fun r (_ : Unit) => r = out.1) (fun _ => poW (dC, dI) A (wX8 cI cZ cC q0 out.2)) A) args s 0 0 A) (F0 m 47 ls [.int s2.1, .ref (q0 6)]) := by
            intro  hf H locs ls hP hD hS hl
            unfold jX8_goBreak_3 at hf
            refine lv_iconst (v := 0) hx hb dX8_goBreak_47 (by decide) ?_
            exact hJ1 _ hf _ _ ls hP hD hS (lv_sub hl [0, 1, 2] rfl)
          refine lv_if_lt (tgt := 47) hx hb dX8_goBreak_27 (by decide) (fun hc => ?_) (fun hc => ?_)
          · have hf := ot hc hf
            exact hJ3 hf _ _ ls hP hD hS (lv_sub hl [0, 1, 2] rfl)
          · have hf := oe hc hf
            refine lv_aload_n hx hb dX8_goBreak_30 rfl (lv_at hl 0 rfl) ?_
            refine va_get (D := (dC, dI)) (ci := 7) (v := .ref (q0 6)) (C := RX8) (T := TX8) (N := 21) hx hb hts hin8 hown hK hP 0 rfl rfl 14 (by decide) hk1 (fun _ h9 => h9) rfl dX8_goBreak_31 ?_
            refine lv_aload_n hx hb dX8_goBreak_34 rfl (lv_at hl 0 rfl) ?_
            refine lv_iload_n hx hb dX8_goBreak_35 rfl (lv_at hl 2 rfl) ?_
            obtain ⟨o36, ho36, hf⟩ := ob hf
            refine rV (rest := [.ref (q0 6), .int s2.1, .ref (q0 6)]) (As := [.int s2.1]) ⟨hx, hb, hml, hown, hts⟩ (mX8_holder l dC dI cI cZ cC cO q0 _ _ _ ho36) (cwV 1 hts gX8_goBreak_X8_holder rfl rfl rfl (by decide +kernel) ⟨Nat.le_of_ble_eq_true rfl, Nat.le_of_ble_eq_true rfl⟩) hK hN hP [0, 1, 2, 3, 4, 5, 6, 7, 8] rfl 7 rfl rfl rfl rfl hl.1 rfl (Nat.le_of_ble_eq_true rfl) dX8_goBreak_36 ⟨Nat.zero_le _, Nat.zero_le _⟩ ?_
            obtain ⟨hin, hf⟩ := og hf
            refine va_zald hx hb hK hP 6 1 rfl rfl hin dX8_goBreak_39 ?_
            refine lv_if_eq (tgt := 47) hx hb dX8_goBreak_40 (by decide) (fun hc => ?_) (fun hc => ?_)
            · have hf := ot hc hf
              exact hJ3 hf _ _ ls hP hD hS (lv_sub hl [0, 1, 2] rfl)
            · have hf := oe hc hf
              exact hJ2 hf _ _ ls hP hD hS (lv_sub hl [0, 1, 2] rfl)
  obtain ⟨o2, ho2, hf⟩ := ob hf
  refine hL2 FU _ _ ho2 _ _ ls hP hD hS (lv_sub hl [1, 2, 0] rfl) (fun H locs ls hP hD hS hl => ?_)
  refine lv_aload_n hx hb dX8_goBreak_55 rfl (lv_at hl 0 rfl) ?_
  obtain ⟨o56, ho56, hf⟩ := ob hf
  refine wVi (W1 := (fun _ : Unit => (wX8 cI cZ cC q0 o56.2))) (rest := []) (As := []) ⟨hx, hb, hml, hown, hts⟩ (mX8_takesAway l dC dI cI cZ cC cO q0 _ _ _ ho56) (cwV 0 hts gX8_goBreak_X8_takesAway rfl rfl rfl (by decide +kernel) ⟨Nat.le_of_ble_eq_true rfl, Nat.le_of_ble_eq_true rfl⟩) hK hN hP hD hS hA [0, 1, 2, 3, 4, 5, 6, 7, 8] [] [0, 1, 2, 3, 4, 5, 6, 7, 8] rfl rfl (by decide) (by decide) (fun _ => rfl) 7 rfl rfl rfl rfl hl.1 rfl (Nat.le_of_ble_eq_true rfl) dX8_goBreak_56 ⟨Nat.zero_le _, Nat.zero_le _⟩ (fun _ H locs hP hD hS => ?_)
  have hP : va_P (dC, dI) vwCl (wX8 cI cZ cC q0 o56.2) H := hP
  have hD : va_D A (wX8 cI cZ cC q0 o56.2) := hD
  obtain rfl := Option.some.inj hf
  exact W.iret (v := o56.1) hx hb hr (fun t ht hW => ⟨⟨_, (), rfl, rfl, by rw [ht]; exact hP, hD⟩, hS.F ht⟩) hS.2.2 dX8_goBreak_59
/-- RimGrainsModel.private int children(int); -/
def jX8_children_1 (s6 : (Int32 × Int32)) (y0_1 : Int32) : Option ((Int32 × Int32) ⊕ (Int32)) :=
  some (.inl ((s6.1 + y0_1), (s6.2 + 1)))
def tX8_children_6 (a1 : Int32) (g0 : GX8) (s6 : (Int32 × Int32)) : Option ((Int32 × Int32) ⊕ (Int32)) :=
  (if ((pX8_s g0) (0 : Int32).toNatClampNeg) ≤ s6.2 then some (.inr s6.1) else ((fX8_holder s6.2 g0).bind fun o19 => (if o19 = a1 then jX8_children_1 s6 1 else jX8_children_1 s6 0)))
def fX8_children (a1 : Int32) (g0 : GX8) : Option (Int32) :=
  ((lp (tX8_children_6 a1 g0) FU (0, (a1 + 1))).bind fun o6 => some o6)
abbrev rmX8_children : Room := { frames := 2, cells := 0, slots := 0, locals := 43 }
set_option maxHeartbeats 4000000 in
set_option maxRecDepth 100000 in
theorem mX8_children (l : Launch) (dC : Nat → ClassId) (dI : Nat → Nat → Nat) (cI cZ cC cO : ClassId) (q0 : Nat → Nat) (a1 : Int32) (g0 : GX8) (out : Int32) (hf : fX8_children a1 g0 = some out) : Met l yX8_children wsX8_children rmX8_children (va_Pc [.ref (q0 0), .int a1] (pcR (dC, dI) (wTys cI cZ cC cO) (wX8 cI cZ cC q0 g0))) (vp_Si (fun r => r = out)) 0 0 (fun _ => False) := by
  refine Met.ofW (cc := cX8_children) (maxL := 4) (ret := (some .int)) (by decide) rfl ?_
  intro p e s m args below meth c s₁ B hml hv
  obtain ⟨hargs, hP, hK, hN⟩ := hv
  have hx := B.exec
  have hb := B.bytes
  have hr := B.returns
  have hts := atoms_spec (ws := wsX8_children) B.pre
  have hown : s.vm.findClass RX8 = some m.cls := findClass_of_methodNamed B.named
  have hlocks := B.notSynchronized
  have hk0 := hts (.fieldLink RX8 7 "RimGrainsModel" "s" "[I") (by decide +kernel)
  have hin8 : ∀ w ∈ wsX80, w ∈ wsX8_children := by decide +kernel
  have hE := lg_entry_eq m [.ref (q0 0), .int a1] 4
  rw [← hargs] at hE
  rw [hE]
  have hl := lv_entry [.ref (q0 0), .int a1] (n := 4) (Nat.le_of_ble_eq_true rfl)
  generalize (lg_sl [.ref (q0 0), .int a1] ++ List.replicate (4 - (lg_sl [.ref (q0 0), .int a1]).length) Slot.unset).toArray = ls at hl ⊢
  have hl : lv_has ls 4 [(0, .ref (q0 0)), (1, .int a1)] := hl
  unfold fX8_children at hf
  refine lv_iconst (v := 0) hx hb dX8_children_0 (by decide) ?_
  refine lv_istore_n (lv' := [(2, .int 0), (0, .ref (q0 0)), (1, .int a1)]) hx hb dX8_children_1 rfl hl (by decide) rfl (fun ls hl => ?_)
  refine lv_iload_n hx hb dX8_children_2 rfl (lv_at hl 2 rfl) ?_
  refine lv_iconst (v := 1) hx hb dX8_children_3 (by decide) ?_
  refine lv_iadd hx hb dX8_children_4 ?_
  refine lv_istore_n (lv' := [(3, .int (a1 + 1)), (2, .int 0), (0, .ref (q0 0)), (1, .int a1)]) hx hb dX8_children_5 rfl hl (by decide) rfl (fun ls hl => ?_)
  have hL6 : ∀ (n : Nat) (s6 : Int32 × Int32) (o6 : Int32), lp (tX8_children_6 a1 g0) n s6 = some o6 → ∀ (ls : Array Slot), lv_has ls 4 [(0, .ref (q0 0)), (1, .int a1), (2, .int s6.1), (3, .int s6.2)] → (∀ (ls : Array Slot), lv_has ls 4 [(2, .int o6)] → W p l e (headSpec wsX8_children rmX8_children).room s m args below meth c s.heap [] 0 0 (MQ below (vp_Si (fun r => r = out)) args s 0 0 (fun _ => False)) (F0 m 39 ls [])) → W p l e (headSpec wsX8_children rmX8_children).room s m args below meth c s.heap [] 0 0 (MQ below (vp_Si (fun r => r = out)) args s 0 0 (fun _ => False)) (F0 m 6 ls []) := by
    intro n
    induction n with
    | zero => intro s6 o6 hf; exact (lp0 hf).elim
    | succ n ih6 =>
      intro s6 o6 hf ls hl kx
      obtain ⟨r6, hf, hn⟩ := lps hf
      unfold tX8_children_6 at hf
      refine lv_iload_n hx hb dX8_children_6 rfl (lv_at hl 3 rfl) ?_
      refine lv_aload_n hx hb dX8_children_7 rfl (lv_at hl 0 rfl) ?_
      refine va_get (D := (dC, dI)) (ci := 7) (v := .ref (q0 1)) (C := RX8) (T := TX8) (N := 21) hx hb hts hin8 hown hK hP 0 rfl rfl 0 (by decide) hk0 (fun _ h9 => h9) rfl dX8_children_8 ?_
      refine lv_iconst (v := 0) hx hb dX8_children_11 (by decide) ?_
      have hin : vp_in (0 : Int32) 373 := by unfold vp_in; decide
      refine va_iald hx hb hK hP 1 0 rfl rfl hin dX8_children_12 ?_
      refine lv_icmp_ge (tgt := 39) hx hb dX8_children_13 (by decide) (fun hc => ?_) (fun hc => ?_)
      · have hf := ot hc hf
        obtain rfl := Option.some.inj hf
        obtain rfl := Option.some.inj hn
        exact kx ls (lv_sub hl [2] rfl)
      · have hf := oe hc hf
        refine lv_iload_n hx hb dX8_children_16 rfl (lv_at hl 2 rfl) ?_
        refine lv_aload_n hx hb dX8_children_17 rfl (lv_at hl 0 rfl) ?_
        refine lv_iload_n hx hb dX8_children_18 rfl (lv_at hl 3 rfl) ?_
        obtain ⟨o19, ho19, hf⟩ := ob hf
        refine rV (rest := [.int s6.1]) (As := [.int s6.2]) ⟨hx, hb, hml, hown, hts⟩ (mX8_holder l dC dI cI cZ cC cO q0 _ _ _ ho19) (cwV 1 hts gX8_children_X8_holder rfl rfl rfl (by decide +kernel) ⟨Nat.le_of_ble_eq_true rfl, Nat.le_of_ble_eq_true rfl⟩) hK hN hP [0, 1, 2, 3, 4, 5, 6, 7, 8] rfl 7 rfl rfl rfl rfl hl.1 rfl (Nat.le_of_ble_eq_true rfl) dX8_children_19 ⟨Nat.zero_le _, Nat.zero_le _⟩ ?_
        refine lv_iload_n hx hb dX8_children_22 rfl (lv_at hl 1 rfl) ?_
        have hJ1 : ∀ (y0_1 : Int32), jX8_children_1 s6 y0_1 = some r6 → ∀ ls : Array Slot, lv_has ls 4 [(0, .ref (q0 0)), (1, .int a1), (3, .int s6.2)] → W p l e (headSpec wsX8_children rmX8_children).room s m args below meth c s.heap [] 0 0 (MQ below (vp_Si (fun r => r = out)) args s 0 0 (fun _ => False)) (F0 m 31 ls [.int y0_1, .int s6.1]) := by
          intro y0_1 hf ls hl
          unfold jX8_children_1 at hf
          refine lv_iadd hx hb dX8_children_31 ?_
          refine lv_istore_n (lv' := [(2, .int (s6.1 + y0_1)), (0, .ref (q0 0)), (1, .int a1), (3, .int s6.2)]) hx hb dX8_children_32 rfl hl (by decide) rfl (fun ls hl => ?_)
          refine lv_iinc (v := (s6.2 + 1)) (lv' := [(3, .int (s6.2 + 1)), (2, .int (s6.1 + y0_1)), (0, .ref (q0 0)), (1, .int a1)]) hx hb dX8_children_33 hl (k := 3) rfl rfl (by decide) rfl (fun ls hl => ?_)
          refine lv_goto (tgt := 6) hx hb dX8_children_36 (by decide) ?_
          obtain rfl := Option.some.inj hf
          exact ih6 _ _ hn ls (lv_sub hl [2, 3, 1, 0] rfl) kx
        refine lv_icmp_ne (tgt := 30) hx hb dX8_children_23 (by decide) (fun hc => ?_) (fun hc => ?_)
        · have hf := oe hc hf
          refine lv_iconst (v := 0) hx hb dX8_children_30 (by decide) ?_
          exact hJ1 _ hf ls (lv_sub hl [0, 1, 3] rfl)
        · have hf := ot hc hf
          refine lv_iconst (v := 1) hx hb dX8_children_26 (by decide) ?_
          refine lv_goto (tgt := 31) hx hb dX8_children_27 (by decide) ?_
          exact hJ1 _ hf ls (lv_sub hl [0, 1, 3] rfl)
  obtain ⟨o6, ho6, hf⟩ := ob hf
  refine hL6 FU _ _ ho6 ls (lv_sub hl [2, 3, 1, 0] rfl) (fun ls hl => ?_)
  refine lv_iload_n hx hb dX8_children_39 rfl (lv_at hl 0 rfl) ?_
  obtain rfl := Option.some.inj hf
  exact W.iret (v := o6) hx hb hr (fun t ht hW => ⟨_, rfl, rfl, ht⟩) (fun _ h => by cases h) dX8_children_40
/-- RimGrainsModel.private int goWash(); -/
def jX8_goWash_1 (s2 : (Int32 × GX8)) (y0_1 : Int32) : Option ((Int32 × GX8) ⊕ (GX8)) :=
  (if s2.1 < 0 ∨ 121 ≤ s2.1.toNatClampNeg then none else some (.inl ((s2.1 + 1), ((pX8_s s2.2), (pX8_aside s2.2), (pX8_past s2.2), (pX8_known s2.2), (pX8_kept s2.2), (pX8_isKept s2.2), (pX8_pad s2.2), (pX8_length s2.2), (pX8_whyError s2.2), (pX8_whyNumber s2.2), (pX8_whySpot s2.2), (pX8_lots s2.2), (pX8_walker s2.2), (pX8_steps s2.2), (upd (pX8_goes s2.2) s2.1.toNatClampNeg (vp_nar .boolean y0_1)), (pX8_becomes s2.2), (pX8_spot s2.2), (pX8_isForm s2.2), (pX8_letter s2.2), (pX8_told s2.2), (pX8_highest s2.2)))))
def jX8_goWash_2 (s2 : (Int32 × GX8)) : Option ((Int32 × GX8) ⊕ (GX8)) :=
  jX8_goWash_1 s2 0
def tX8_goWash_2 (s2 : (Int32 × GX8)) : Option ((Int32 × GX8) ⊕ (GX8)) :=
  (if ((pX8_s s2.2) (0 : Int32).toNatClampNeg) ≤ s2.1 then some (.inr s2.2) else ((fX8_holder s2.1 s2.2).bind fun o19 => (if o19 < 0 then jX8_goWash_2 s2 else ((fX8_children s2.1 s2.2).bind fun o27 => (if o27 = 0 then jX8_goWash_1 s2 1 else jX8_goWash_2 s2)))))
def fX8_goWash (g0 : GX8) : Option (Int32 × GX8) :=
  ((lp tX8_goWash_2 FU (0, g0)).bind fun o2 => ((fX8_takesAway o2).bind fun o46 => some (o46.1, o46.2)))
abbrev rmX8_goWash : Room := { frames := 3, cells := 0, slots := 0, locals := 69 }
set_option maxHeartbeats 4000000 in
set_option maxRecDepth 100000 in
theorem mX8_goWash (l : Launch) (dC : Nat → ClassId) (dI : Nat → Nat → Nat) (cI cZ cC cO : ClassId) (q0 : Nat → Nat) (g0 : GX8) (sz : Nat) (out : Int32 × GX8) (hf : fX8_goWash g0 = some out) : Met l yX8_goWash wsX8_goWash rmX8_goWash (va_Pc [.ref (q0 0)] (pcW (dC, dI) (wTys cI cZ cC cO) sz (wX8 cI cZ cC q0 g0))) (va_Qi (fun r (_ : Unit) => r = out.1) (fun _ => poW (dC, dI) (va_A (wX8 cI cZ cC q0 g0) sz) (wX8 cI cZ cC q0 out.2)) (va_A (wX8 cI cZ cC q0 g0) sz)) 0 0 (va_A (wX8 cI cZ cC q0 g0) sz) := by
  refine Met.ofW (cc := cX8_goWash) (maxL := 2) (ret := (some .int)) (by decide) rfl ?_
  intro p e s m args below meth c s₁ B hml hv
  obtain ⟨hargs, hsz, hP, hK, hN, hD0⟩ := hv
  have hx := B.exec
  have hb := B.bytes
  have hr := B.returns
  have hts := atoms_spec (ws := wsX8_goWash) B.pre
  have hown : s.vm.findClass RX8 = some m.cls := findClass_of_methodNamed B.named
  have hlocks := B.notSynchronized
  have hk0 := hts (.fieldLink RX8 7 "RimGrainsModel" "s" "[I") (by decide +kernel)
  have hk1 := hts (.fieldLink RX8 25 "RimGrainsModel" "goes" "[Z") (by decide +kernel)
  have hin8 : ∀ w ∈ wsX80, w ∈ wsX8_goWash := by decide +kernel
  subst hsz
  have hD := hD0.self (sz := s.heap.size)
  generalize hAe : va_A (wX8 cI cZ cC q0 g0) s.heap.size = A at hD ⊢
  have hA : ∀ q : Nat, s.heap.size ≤ q → A q := fun q h => by rw [← hAe]; exact Or.inr h
  have hS : va_S A s.heap s.heap [] := va_S.rf
  have hE := lg_entry_eq m [.ref (q0 0)] 2
  rw [← hargs] at hE
  rw [hE]
  have hl := lv_entry [.ref (q0 0)] (n := 2) (Nat.le_of_ble_eq_true rfl)
  generalize (lg_sl [.ref (q0 0)] ++ List.replicate (2 - (lg_sl [.ref (q0 0)]).length) Slot.unset).toArray = ls at hl ⊢
  have hl : lv_has ls 2 [(0, .ref (q0 0))] := hl
  have hP : va_P (dC, dI) vwCl (wX8 cI cZ cC q0 g0) s.heap := hP
  unfold fX8_goWash at hf
  refine lv_iconst (v := 0) hx hb dX8_goWash_0 (by decide) ?_
  refine lv_istore_n (lv' := [(1, .int 0), (0, .ref (q0 0))]) hx hb dX8_goWash_1 rfl hl (by decide) rfl (fun ls hl => ?_)
  have hL2 : ∀ (n : Nat) (s2 : Int32 × GX8) (o2 : GX8), lp tX8_goWash_2 n s2 = some o2 → ∀ (H : Heap) (locs : List Loc) (ls : Array Slot), va_P (dC, dI) vwCl (wX8 cI cZ cC q0 s2.2) H → va_D A (wX8 cI cZ cC q0 s2.2) → va_S A s.heap H locs → lv_has ls 2 [(0, .ref (q0 0)), (1, .int s2.1)] → (∀ (H : Heap) (locs : List Loc) (ls : Array Slot), va_P (dC, dI) vwCl (wX8 cI cZ cC q0 o2) H → va_D A (wX8 cI cZ cC q0 o2) → va_S A s.heap H locs → lv_has ls 2 [(0, .ref (q0 0))] → W p l e (headSpec wsX8_goWash rmX8_goWash).room s m args below meth c H locs 0 0 (MQ below (va_Qi (fun r (_ : Unit) => r = out.1) (fun _ => poW (dC, dI) A (wX8 cI cZ cC q0 out.2)) A) args s 0 0 A) (F0 m 45 ls [])) → W p l e (headSpec wsX8_goWash rmX8_goWash).room s m args below meth c H locs 0 0 (MQ below (va_Qi (fun r (_ : Unit) => r = out.1) (fun _ => poW (dC, dI) A (wX8 cI cZ cC q0 out.2)) A) args s 0 0 A) (F0 m 2 ls []) := by
    intro n
    induction n with
    | zero => intro s2 o2 hf; exact (lp0 hf).elim
    | succ n ih2 =>
      intro s2 o2 hf H locs ls hP hD hS hl kx
      obtain ⟨r2, hf, hn⟩ := lps hf
      unfold tX8_goWash_2 at hf
      refine lv_iload_n hx hb dX8_goWash_2 rfl (lv_at hl 1 rfl) ?_
      refine lv_aload_n hx hb dX8_goWash_3 rfl (lv_at hl 0 rfl) ?_
      refine va_get (D := (dC, dI)) (ci := 7) (v := .ref (q0 1)) (C := RX8) (T := TX8) (N := 21) hx hb hts hin8 hown hK hP 0 rfl rfl 0 (by decide) hk0 (fun _ h9 => h9) rfl dX8_goWash_4 ?_
      refine lv_iconst (v := 0) hx hb dX8_goWash_7 (by decide) ?_
      have hin : vp_in (0 : Int32) 373 := by unfold vp_in; decide
      refine va_iald hx hb hK hP 1 0 rfl rfl hin dX8_goWash_8 ?_
      refine lv_icmp_ge (tgt := 45) hx hb dX8_goWash_9 (by decide) (fun hc => ?_) (fun hc => ?_)
      · have hf := ot hc hf
        obtain rfl := Option.some.inj hf
        obtain rfl := Option.some.inj hn
        exact kx _ _ ls hP hD hS (lv_sub hl [0] rfl)
      · have hf := oe hc hf
        refine lv_aload_n hx hb dX8_goWash_12 rfl (lv_at hl 0 rfl) ?_
        refine va_get (D := (dC, dI)) (ci := 7) (v := .ref (q0 6)) (C := RX8) (T := TX8) (N := 21) hx hb hts hin8 hown hK hP 0 rfl rfl 14 (by decide) hk1 (fun _ h9 => h9) rfl dX8_goWash_13 ?_
        refine lv_iload_n hx hb dX8_goWash_16 rfl (lv_at hl 1 rfl) ?_
        refine lv_aload_n hx hb dX8_goWash_17 rfl (lv_at hl 0 rfl) ?_
        refine lv_iload_n hx hb dX8_goWash_18 rfl (lv_at hl 1 rfl) ?_
        obtain ⟨o19, ho19, hf⟩ := ob hf
        refine rV (rest := [.int s2.1, .ref (q0 6)]) (As := [.int s2.1]) ⟨hx, hb, hml, hown, hts⟩ (mX8_holder l dC dI cI cZ cC cO q0 _ _ _ ho19) (cwV 1 hts gX8_goWash_X8_holder rfl rfl rfl (by decide +kernel) ⟨Nat.le_of_ble_eq_true rfl, Nat.le_of_ble_eq_true rfl⟩) hK hN hP [0, 1, 2, 3, 4, 5, 6, 7, 8] rfl 7 rfl rfl rfl rfl hl.1 rfl (Nat.le_of_ble_eq_true rfl) dX8_goWash_19 ⟨Nat.zero_le _, Nat.zero_le _⟩ ?_
        have hJ1 : ∀ (y0_1 : Int32), jX8_goWash_1 s2 y0_1 = some r2 → ∀ (H : Heap) (locs : List Loc) (ls : Array Slot), va_P (dC, dI) vwCl (wX8 cI cZ cC q0 s2.2) H → va_D A (wX8 cI cZ cC q0 s2.2) → va_S A s.heap H locs → lv_has ls 2 [(0, .ref (q0 0)), (1, .int s2.1)] → W p l e (headSpec wsX8_goWash rmX8_goWash).room s m args below meth c H locs 0 0 (MQ below (va_Qi (fun r (_ : Unit) => r = out.1) (fun _ => poW (dC, dI) A (wX8 cI cZ cC q0 out.2)) A) args s 0 0 A) (F0 m 38 ls [.int y0_1, .int s2.1, .ref (q0 6)]) := by
          intro y0_1 hf H locs ls hP hD hS hl
          unfold jX8_goWash_1 at hf
          obtain ⟨hin, hf⟩ := og hf
          refine va_zast hx hb hK hP hD hS 6 1 rfl rfl hin dX8_goWash_38 (fun H locs hP hD hS => ?_)
          have hP : va_P (dC, dI) vwCl (wX8 cI cZ cC q0 ((pX8_s s2.2), (pX8_aside s2.2), (pX8_past s2.2), (pX8_known s2.2), (pX8_kept s2.2), (pX8_isKept s2.2), (pX8_pad s2.2), (pX8_length s2.2), (pX8_whyError s2.2), (pX8_whyNumber s2.2), (pX8_whySpot s2.2), (pX8_lots s2.2), (pX8_walker s2.2), (pX8_steps s2.2), (upd (pX8_goes s2.2) s2.1.toNatClampNeg (vp_nar .boolean y0_1)), (pX8_becomes s2.2), (pX8_spot s2.2), (pX8_isForm s2.2), (pX8_letter s2.2), (pX8_told s2.2), (pX8_highest s2.2))) H := hP
          have hD : va_D A (wX8 cI cZ cC q0 ((pX8_s s2.2), (pX8_aside s2.2), (pX8_past s2.2), (pX8_known s2.2), (pX8_kept s2.2), (pX8_isKept s2.2), (pX8_pad s2.2), (pX8_length s2.2), (pX8_whyError s2.2), (pX8_whyNumber s2.2), (pX8_whySpot s2.2), (pX8_lots s2.2), (pX8_walker s2.2), (pX8_steps s2.2), (upd (pX8_goes s2.2) s2.1.toNatClampNeg (vp_nar .boolean y0_1)), (pX8_becomes s2.2), (pX8_spot s2.2), (pX8_isForm s2.2), (pX8_letter s2.2), (pX8_told s2.2), (pX8_highest s2.2))) := hD
          refine lv_iinc (v := (s2.1 + 1)) (lv' := [(1, .int (s2.1 + 1)), (0, .ref (q0 0))]) hx hb dX8_goWash_39 hl (k := 1) rfl rfl (by decide) rfl (fun ls hl => ?_)
          refine lv_goto (tgt := 2) hx hb dX8_goWash_42 (by decide) ?_
          obtain rfl := Option.some.inj hf
          exact ih2 _ _ hn _ _ ls hP hD hS (lv_sub hl [1, 0] rfl) kx
        have hJ2 : jX8_goWash_2 s2 = some r2 → ∀ (H : Heap) (locs : List Loc) (ls : Array Slot), va_P (dC, dI) vwCl (wX8 cI cZ cC q0 s2.2) H → va_D A (wX8 cI cZ cC q0 s2.2) → va_S A s.heap H locs → lv_has ls 2 [(0, .ref (q0 0)), (1, .int s2.1)] → W p l e (headSpec wsX8_goWash rmX8_goWash).room s m args below meth c H locs 0 0 (MQ below (va_Qi (fun r (_ : Unit) => r = out.1) (fun _ => poW (dC, dI) A (wX8 cI cZ cC q0 out.2)) A) args s 0 0 A) (F0 m 37 ls [.int s2.1, .ref (q0 6)]) := by
          intro  hf H locs ls hP hD hS hl
          unfold jX8_goWash_2 at hf
          refine lv_iconst (v := 0) hx hb dX8_goWash_37 (by decide) ?_
          exact hJ1 _ hf _ _ ls hP hD hS (lv_sub hl [0, 1] rfl)
        refine lv_if_lt (tgt := 37) hx hb dX8_goWash_22 (by decide) (fun hc => ?_) (fun hc => ?_)
        · have hf := ot hc hf
          exact hJ2 hf _ _ ls hP hD hS (lv_sub hl [0, 1] rfl)
        · have hf := oe hc hf
          refine lv_aload_n hx hb dX8_goWash_25 rfl (lv_at hl 0 rfl) ?_
          refine lv_iload_n hx hb dX8_goWash_26 rfl (lv_at hl 1 rfl) ?_
          obtain ⟨o27, ho27, hf⟩ := ob hf
          refine rV (rest := [.int s2.1, .ref (q0 6)]) (As := [.int s2.1]) ⟨hx, hb, hml, hown, hts⟩ (mX8_children l dC dI cI cZ cC cO q0 _ _ _ ho27) (cwV 1 hts gX8_goWash_X8_children rfl rfl rfl (by decide +kernel) ⟨Nat.le_of_ble_eq_true rfl, Nat.le_of_ble_eq_true rfl⟩) hK hN hP [0, 1, 2, 3, 4, 5, 6, 7, 8] rfl 7 rfl rfl rfl rfl hl.1 rfl (Nat.le_of_ble_eq_true rfl) dX8_goWash_27 ⟨Nat.zero_le _, Nat.zero_le _⟩ ?_
          refine lv_if_ne (tgt := 37) hx hb dX8_goWash_30 (by decide) (fun hc => ?_) (fun hc => ?_)
          · have hf := oe hc hf
            exact hJ2 hf _ _ ls hP hD hS (lv_sub hl [0, 1] rfl)
          · have hf := ot hc hf
            refine lv_iconst (v := 1) hx hb dX8_goWash_33 (by decide) ?_
            refine lv_goto (tgt := 38) hx hb dX8_goWash_34 (by decide) ?_
            exact hJ1 _ hf _ _ ls hP hD hS (lv_sub hl [0, 1] rfl)
  obtain ⟨o2, ho2, hf⟩ := ob hf
  refine hL2 FU _ _ ho2 _ _ ls hP hD hS (lv_sub hl [1, 0] rfl) (fun H locs ls hP hD hS hl => ?_)
  refine lv_aload_n hx hb dX8_goWash_45 rfl (lv_at hl 0 rfl) ?_
  obtain ⟨o46, ho46, hf⟩ := ob hf
  refine wVi (W1 := (fun _ : Unit => (wX8 cI cZ cC q0 o46.2))) (rest := []) (As := []) ⟨hx, hb, hml, hown, hts⟩ (mX8_takesAway l dC dI cI cZ cC cO q0 _ _ _ ho46) (cwV 0 hts gX8_goWash_X8_takesAway rfl rfl rfl (by decide +kernel) ⟨Nat.le_of_ble_eq_true rfl, Nat.le_of_ble_eq_true rfl⟩) hK hN hP hD hS hA [0, 1, 2, 3, 4, 5, 6, 7, 8] [] [0, 1, 2, 3, 4, 5, 6, 7, 8] rfl rfl (by decide) (by decide) (fun _ => rfl) 7 rfl rfl rfl rfl hl.1 rfl (Nat.le_of_ble_eq_true rfl) dX8_goWash_46 ⟨Nat.zero_le _, Nat.zero_le _⟩ (fun _ H locs hP hD hS => ?_)
  have hP : va_P (dC, dI) vwCl (wX8 cI cZ cC q0 o46.2) H := hP
  have hD : va_D A (wX8 cI cZ cC q0 o46.2) := hD
  obtain rfl := Option.some.inj hf
  exact W.iret (v := o46.1) hx hb hr (fun t ht hW => ⟨⟨_, (), rfl, rfl, by rw [ht]; exact hP, hD⟩, hS.F ht⟩) hS.2.2 dX8_goWash_49
/-- RimGrainsModel.private int errorGo(int); -/
def fX8_errorGo (a1 : Int32) (g0 : GX8) : Option (Int32) :=
  ((fX8_isRim a1).bind fun o1 => (if o1 = 0 then some (-1) else ((fX8_isBlocked a1 g0).bind fun o13 => (if o13 = 0 then some 0 else some (-2)))))
abbrev rmX8_errorGo : Room := { frames := 3, cells := 0, slots := 0, locals := 66 }
set_option maxHeartbeats 4000000 in
set_option maxRecDepth 100000 in
theorem mX8_errorGo (l : Launch) (dC : Nat → ClassId) (dI : Nat → Nat → Nat) (cI cZ cC cO : ClassId) (q0 : Nat → Nat) (a1 : Int32) (g0 : GX8) (out : Int32) (hf : fX8_errorGo a1 g0 = some out) : Met l yX8_errorGo wsX8_errorGo rmX8_errorGo (va_Pc [.ref (q0 0), .int a1] (pcR (dC, dI) (wTys cI cZ cC cO) (wX8 cI cZ cC q0 g0))) (vp_Si (fun r => r = out)) 0 0 (fun _ => False) := by
  refine Met.ofW (cc := cX8_errorGo) (maxL := 2) (ret := (some .int)) (by decide) rfl ?_
  intro p e s m args below meth c s₁ B hml hv
  obtain ⟨hargs, hP, hK, hN⟩ := hv
  have hx := B.exec
  have hb := B.bytes
  have hr := B.returns
  have hts := atoms_spec (ws := wsX8_errorGo) B.pre
  have hown : s.vm.findClass RX8 = some m.cls := findClass_of_methodNamed B.named
  have hlocks := B.notSynchronized
  have hE := lg_entry_eq m [.ref (q0 0), .int a1] 2
  rw [← hargs] at hE
  rw [hE]
  have hl := lv_entry [.ref (q0 0), .int a1] (n := 2) (Nat.le_of_ble_eq_true rfl)
  generalize (lg_sl [.ref (q0 0), .int a1] ++ List.replicate (2 - (lg_sl [.ref (q0 0), .int a1]).length) Slot.unset).toArray = ls at hl ⊢
  have hl : lv_has ls 2 [(0, .ref (q0 0)), (1, .int a1)] := hl
  unfold fX8_errorGo at hf
  refine lv_iload_n hx hb dX8_errorGo_0 rfl (lv_at hl 1 rfl) ?_
  obtain ⟨o1, ho1, hf⟩ := ob hf
  refine rS (rest := []) (As := [.int a1]) ⟨hx, hb, hml, hown, hts⟩ (mX8_isRim l dC dI cI cZ cC cO  _ _ ho1) (va_cwS 1 hts gX8_errorGo_X8_isRim rfl rfl rfl (by decide +kernel) ⟨Nat.le_of_ble_eq_true rfl, Nat.le_of_ble_eq_true rfl⟩) hK hN hP [] rfl rfl hl.1 rfl (Nat.le_of_ble_eq_true rfl) dX8_errorGo_1 ⟨Nat.zero_le _, Nat.zero_le _⟩ ?_
  refine lv_if_ne (tgt := 11) hx hb dX8_errorGo_4 (by decide) (fun hc => ?_) (fun hc => ?_)
  · have hf := oe hc hf
    refine lv_aload_n hx hb dX8_errorGo_11 rfl (lv_at hl 0 rfl) ?_
    refine lv_iload_n hx hb dX8_errorGo_12 rfl (lv_at hl 1 rfl) ?_
    obtain ⟨o13, ho13, hf⟩ := ob hf
    refine rV (rest := []) (As := [.int a1]) ⟨hx, hb, hml, hown, hts⟩ (mX8_isBlocked l dC dI cI cZ cC cO q0 _ _ _ ho13) (cwV 1 hts gX8_errorGo_X8_isBlocked rfl rfl rfl (by decide +kernel) ⟨Nat.le_of_ble_eq_true rfl, Nat.le_of_ble_eq_true rfl⟩) hK hN hP [0, 1, 2, 3, 4, 5, 6, 7, 8] rfl 7 rfl rfl rfl rfl hl.1 rfl (Nat.le_of_ble_eq_true rfl) dX8_errorGo_13 ⟨Nat.zero_le _, Nat.zero_le _⟩ ?_
    refine lv_if_eq (tgt := 24) hx hb dX8_errorGo_16 (by decide) (fun hc => ?_) (fun hc => ?_)
    · have hf := ot hc hf
      refine lv_iconst (v := 0) hx hb dX8_errorGo_24 (by decide) ?_
      obtain rfl := Option.some.inj hf
      exact W.iret (v := 0) hx hb hr (fun t ht hW => ⟨_, rfl, rfl, ht⟩) (fun _ h => by cases h) dX8_errorGo_25
    · have hf := oe hc hf
      refine lv_bipush (v := (-2)) hx hb dX8_errorGo_19 (by decide) ?_
      refine lv_goto (tgt := 25) hx hb dX8_errorGo_21 (by decide) ?_
      obtain rfl := Option.some.inj hf
      exact W.iret (v := (-2)) hx hb hr (fun t ht hW => ⟨_, rfl, rfl, ht⟩) (fun _ h => by cases h) dX8_errorGo_25
  · have hf := ot hc hf
    refine lv_iconst (v := (-1)) hx hb dX8_errorGo_7 (by decide) ?_
    refine lv_goto (tgt := 25) hx hb dX8_errorGo_8 (by decide) ?_
    obtain rfl := Option.some.inj hf
    exact W.iret (v := (-1)) hx hb hr (fun t ht hW => ⟨_, rfl, rfl, ht⟩) (fun _ h => by cases h) dX8_errorGo_25
/-- RimGrainsModel.private int errorBreak(int); -/
def fX8_errorBreak (a1 : Int32) (g0 : GX8) : Option (Int32) :=
  ((fX8_isGrain a1 g0).bind fun o2 => (if o2 = 0 then some (-1) else ((fX8_holder a1 g0).bind fun o14 => (if 0 ≤ o14 then some 0 else some (-2)))))
abbrev rmX8_errorBreak : Room := { frames := 2, cells := 0, slots := 0, locals := 43 }
set_option maxHeartbeats 4000000 in
set_option maxRecDepth 100000 in
theorem mX8_errorBreak (l : Launch) (dC : Nat → ClassId) (dI : Nat → Nat → Nat) (cI cZ cC cO : ClassId) (q0 : Nat → Nat) (a1 : Int32) (g0 : GX8) (out : Int32) (hf : fX8_errorBreak a1 g0 = some out) : Met l yX8_errorBreak wsX8_errorBreak rmX8_errorBreak (va_Pc [.ref (q0 0), .int a1] (pcR (dC, dI) (wTys cI cZ cC cO) (wX8 cI cZ cC q0 g0))) (vp_Si (fun r => r = out)) 0 0 (fun _ => False) := by
  refine Met.ofW (cc := cX8_errorBreak) (maxL := 2) (ret := (some .int)) (by decide) rfl ?_
  intro p e s m args below meth c s₁ B hml hv
  obtain ⟨hargs, hP, hK, hN⟩ := hv
  have hx := B.exec
  have hb := B.bytes
  have hr := B.returns
  have hts := atoms_spec (ws := wsX8_errorBreak) B.pre
  have hown : s.vm.findClass RX8 = some m.cls := findClass_of_methodNamed B.named
  have hlocks := B.notSynchronized
  have hE := lg_entry_eq m [.ref (q0 0), .int a1] 2
  rw [← hargs] at hE
  rw [hE]
  have hl := lv_entry [.ref (q0 0), .int a1] (n := 2) (Nat.le_of_ble_eq_true rfl)
  generalize (lg_sl [.ref (q0 0), .int a1] ++ List.replicate (2 - (lg_sl [.ref (q0 0), .int a1]).length) Slot.unset).toArray = ls at hl ⊢
  have hl : lv_has ls 2 [(0, .ref (q0 0)), (1, .int a1)] := hl
  unfold fX8_errorBreak at hf
  refine lv_aload_n hx hb dX8_errorBreak_0 rfl (lv_at hl 0 rfl) ?_
  refine lv_iload_n hx hb dX8_errorBreak_1 rfl (lv_at hl 1 rfl) ?_
  obtain ⟨o2, ho2, hf⟩ := ob hf
  refine rV (rest := []) (As := [.int a1]) ⟨hx, hb, hml, hown, hts⟩ (mX8_isGrain l dC dI cI cZ cC cO q0 _ _ _ ho2) (cwV 1 hts gX8_errorBreak_X8_isGrain rfl rfl rfl (by decide +kernel) ⟨Nat.le_of_ble_eq_true rfl, Nat.le_of_ble_eq_true rfl⟩) hK hN hP [0, 1, 2, 3, 4, 5, 6, 7, 8] rfl 7 rfl rfl rfl rfl hl.1 rfl (Nat.le_of_ble_eq_true rfl) dX8_errorBreak_2 ⟨Nat.zero_le _, Nat.zero_le _⟩ ?_
  refine lv_if_ne (tgt := 12) hx hb dX8_errorBreak_5 (by decide) (fun hc => ?_) (fun hc => ?_)
  · have hf := oe hc hf
    refine lv_aload_n hx hb dX8_errorBreak_12 rfl (lv_at hl 0 rfl) ?_
    refine lv_iload_n hx hb dX8_errorBreak_13 rfl (lv_at hl 1 rfl) ?_
    obtain ⟨o14, ho14, hf⟩ := ob hf
    refine rV (rest := []) (As := [.int a1]) ⟨hx, hb, hml, hown, hts⟩ (mX8_holder l dC dI cI cZ cC cO q0 _ _ _ ho14) (cwV 1 hts gX8_errorBreak_X8_holder rfl rfl rfl (by decide +kernel) ⟨Nat.le_of_ble_eq_true rfl, Nat.le_of_ble_eq_true rfl⟩) hK hN hP [0, 1, 2, 3, 4, 5, 6, 7, 8] rfl 7 rfl rfl rfl rfl hl.1 rfl (Nat.le_of_ble_eq_true rfl) dX8_errorBreak_14 ⟨Nat.zero_le _, Nat.zero_le _⟩ ?_
    refine lv_if_ge (tgt := 25) hx hb dX8_errorBreak_17 (by decide) (fun hc => ?_) (fun hc => ?_)
    · have hf := ot hc hf
      refine lv_iconst (v := 0) hx hb dX8_errorBreak_25 (by decide) ?_
      obtain rfl := Option.some.inj hf
      exact W.iret (v := 0) hx hb hr (fun t ht hW => ⟨_, rfl, rfl, ht⟩) (fun _ h => by cases h) dX8_errorBreak_26
    · have hf := oe hc hf
      refine lv_bipush (v := (-2)) hx hb dX8_errorBreak_20 (by decide) ?_
      refine lv_goto (tgt := 26) hx hb dX8_errorBreak_22 (by decide) ?_
      obtain rfl := Option.some.inj hf
      exact W.iret (v := (-2)) hx hb hr (fun t ht hW => ⟨_, rfl, rfl, ht⟩) (fun _ h => by cases h) dX8_errorBreak_26
  · have hf := ot hc hf
    refine lv_iconst (v := (-1)) hx hb dX8_errorBreak_8 (by decide) ?_
    refine lv_goto (tgt := 26) hx hb dX8_errorBreak_9 (by decide) ?_
    obtain rfl := Option.some.inj hf
    exact W.iret (v := (-1)) hx hb hr (fun t ht hW => ⟨_, rfl, rfl, ht⟩) (fun _ h => by cases h) dX8_errorBreak_26
/-- RimGrainsModel.public int begin(int); -/
def tX8_begin_18 (s18 : (Int32 × GX8)) : Option ((Int32 × GX8) ⊕ (GX8)) :=
  (if 373 ≤ s18.1 then some (.inr s18.2) else (if s18.1 < 0 ∨ 373 ≤ s18.1.toNatClampNeg then none else some (.inl ((s18.1 + 1), ((upd (pX8_s s18.2) s18.1.toNatClampNeg 0), (pX8_aside s18.2), (pX8_past s18.2), (pX8_known s18.2), (pX8_kept s18.2), (pX8_isKept s18.2), (pX8_pad s18.2), (pX8_length s18.2), (pX8_whyError s18.2), (pX8_whyNumber s18.2), (pX8_whySpot s18.2), (pX8_lots s18.2), (pX8_walker s18.2), (pX8_steps s18.2), (pX8_goes s18.2), (pX8_becomes s18.2), (pX8_spot s18.2), (pX8_isForm s18.2), (pX8_letter s18.2), (pX8_told s18.2), (pX8_highest s18.2))))))
def fX8_begin (a1 : Int32) (g0 : GX8) : Option (Int32 × GX8) :=
  ((fX8_in a1 0 2).bind fun o3 => (if o3 = 0 then some ((-1), g0) else ((fX8_records g0).bind fun o12 => ((lp tX8_begin_18 FU (6, o12)).bind fun o18 => ((fX8_roots a1 o18).bind fun o40 => some (((pX8_s o40) (0 : Int32).toNatClampNeg), o40))))))
abbrev rmX8_begin : Room := { frames := 3, cells := 0, slots := 0, locals := 65 }
set_option maxHeartbeats 4000000 in
set_option maxRecDepth 100000 in
theorem mX8_begin (l : Launch) (dC : Nat → ClassId) (dI : Nat → Nat → Nat) (cI cZ cC cO : ClassId) (q0 : Nat → Nat) (a1 : Int32) (g0 : GX8) (sz : Nat) (out : Int32 × GX8) (hf : fX8_begin a1 g0 = some out) : Met l yX8_begin wsX8_begin rmX8_begin (va_Pc [.ref (q0 0), .int a1] (pcW (dC, dI) (wTys cI cZ cC cO) sz (wX8 cI cZ cC q0 g0))) (va_Qi (fun r (_ : Unit) => r = out.1) (fun _ => poW (dC, dI) (va_A (wX8 cI cZ cC q0 g0) sz) (wX8 cI cZ cC q0 out.2)) (va_A (wX8 cI cZ cC q0 g0) sz)) 0 0 (va_A (wX8 cI cZ cC q0 g0) sz) := by
  refine Met.ofW (cc := cX8_begin) (maxL := 3) (ret := (some .int)) (by decide) rfl ?_
  intro p e s m args below meth c s₁ B hml hv
  obtain ⟨hargs, hsz, hP, hK, hN, hD0⟩ := hv
  have hx := B.exec
  have hb := B.bytes
  have hr := B.returns
  have hts := atoms_spec (ws := wsX8_begin) B.pre
  have hown : s.vm.findClass RX8 = some m.cls := findClass_of_methodNamed B.named
  have hlocks := B.notSynchronized
  have hk0 := hts (.fieldLink RX8 7 "RimGrainsModel" "s" "[I") (by decide +kernel)
  have hin8 : ∀ w ∈ wsX80, w ∈ wsX8_begin := by decide +kernel
  subst hsz
  have hD := hD0.self (sz := s.heap.size)
  generalize hAe : va_A (wX8 cI cZ cC q0 g0) s.heap.size = A at hD ⊢
  have hA : ∀ q : Nat, s.heap.size ≤ q → A q := fun q h => by rw [← hAe]; exact Or.inr h
  have hS : va_S A s.heap s.heap [] := va_S.rf
  have hE := lg_entry_eq m [.ref (q0 0), .int a1] 3
  rw [← hargs] at hE
  rw [hE]
  have hl := lv_entry [.ref (q0 0), .int a1] (n := 3) (Nat.le_of_ble_eq_true rfl)
  generalize (lg_sl [.ref (q0 0), .int a1] ++ List.replicate (3 - (lg_sl [.ref (q0 0), .int a1]).length) Slot.unset).toArray = ls at hl ⊢
  have hl : lv_has ls 3 [(0, .ref (q0 0)), (1, .int a1)] := hl
  have hP : va_P (dC, dI) vwCl (wX8 cI cZ cC q0 g0) s.heap := hP
  unfold fX8_begin at hf
  refine lv_iload_n hx hb dX8_begin_0 rfl (lv_at hl 1 rfl) ?_
  refine lv_iconst (v := 0) hx hb dX8_begin_1 (by decide) ?_
  refine lv_iconst (v := 2) hx hb dX8_begin_2 (by decide) ?_
  obtain ⟨o3, ho3, hf⟩ := ob hf
  refine rS (rest := []) (As := [.int a1, .int 0, .int 2]) ⟨hx, hb, hml, hown, hts⟩ (mX8_in l dC dI cI cZ cC cO  _ _ _ _ ho3) (va_cwS 3 hts gX8_begin_X8_in rfl rfl rfl (by decide +kernel) ⟨Nat.le_of_ble_eq_true rfl, Nat.le_of_ble_eq_true rfl⟩) hK hN hP [] rfl rfl hl.1 rfl (Nat.le_of_ble_eq_true rfl) dX8_begin_3 ⟨Nat.zero_le _, Nat.zero_le _⟩ ?_
  refine lv_if_ne (tgt := 11) hx hb dX8_begin_6 (by decide) (fun hc => ?_) (fun hc => ?_)
  · have hf := oe hc hf
    refine lv_aload_n hx hb dX8_begin_11 rfl (lv_at hl 0 rfl) ?_
    obtain ⟨o12, ho12, hf⟩ := ob hf
    refine wVv (W1 := (fun _ : Unit => (wX8 cI cZ cC q0 o12))) (rest := []) (As := []) ⟨hx, hb, hml, hown, hts⟩ (mX8_records l dC dI cI cZ cC cO q0 _ _ _ ho12) (cwV 0 hts gX8_begin_X8_records rfl rfl rfl (by decide +kernel) ⟨Nat.le_of_ble_eq_true rfl, Nat.le_of_ble_eq_true rfl⟩) hK hN hP hD hS hA [0, 1, 2, 3, 4, 5, 6, 7, 8] [] [0, 1, 2, 3, 4, 5, 6, 7, 8] rfl rfl (by decide) (by decide) (fun _ => rfl) 7 rfl rfl rfl rfl hl.1 rfl (Nat.le_of_ble_eq_true rfl) dX8_begin_12 ⟨Nat.zero_le _, Nat.zero_le _⟩ (fun _ H locs hP hD hS => ?_)
    have hP : va_P (dC, dI) vwCl (wX8 cI cZ cC q0 o12) H := hP
    have hD : va_D A (wX8 cI cZ cC q0 o12) := hD
    refine lv_bipush (v := 6) hx hb dX8_begin_15 (by decide) ?_
    refine lv_istore_n (lv' := [(2, .int 6), (0, .ref (q0 0)), (1, .int a1)]) hx hb dX8_begin_17 rfl hl (by decide) rfl (fun ls hl => ?_)
    have hL18 : ∀ (n : Nat) (s18 : Int32 × GX8) (o18 : GX8), lp tX8_begin_18 n s18 = some o18 → ∀ (H : Heap) (locs : List Loc) (ls : Array Slot), va_P (dC, dI) vwCl (wX8 cI cZ cC q0 s18.2) H → va_D A (wX8 cI cZ cC q0 s18.2) → va_S A s.heap H locs → lv_has ls 3 [(0, .ref (q0 0)), (1, .int a1), (2, .int s18.1)] → (∀ (H : Heap) (locs : List Loc) (ls : Array Slot), va_P (dC, dI) vwCl (wX8 cI cZ cC q0 o18) H → va_D A (wX8 cI cZ cC q0 o18) → va_S A s.heap H locs → lv_has ls 3 [(0, .ref (q0 0)), (1, .int a1)] → W p l e (headSpec wsX8_begin rmX8_begin).room s m args below meth c H locs 0 0 (MQ below (va_Qi (fun r (_ : Unit) => r = out.1) (fun _ => poW (dC, dI) A (wX8 cI cZ cC q0 out.2)) A) args s 0 0 A) (F0 m 38 ls [])) → W p l e (headSpec wsX8_begin rmX8_begin).room s m args below meth c H locs 0 0 (MQ below (va_Qi (fun r (_ : Unit) => r = out.1) (fun _ => poW (dC, dI) A (wX8 cI cZ cC q0 out.2)) A) args s 0 0 A) (F0 m 18 ls []) := by
      intro n
      induction n with
      | zero => intro s18 o18 hf; exact (lp0 hf).elim
      | succ n ih18 =>
        intro s18 o18 hf H locs ls hP hD hS hl kx
        obtain ⟨r18, hf, hn⟩ := lps hf
        unfold tX8_begin_18 at hf
        refine lv_iload_n hx hb dX8_begin_18 rfl (lv_at hl 2 rfl) ?_
        refine lv_sipush (v := 373) hx hb dX8_begin_19 (by decide) ?_
        refine lv_icmp_ge (tgt := 38) hx hb dX8_begin_22 (by decide) (fun hc => ?_) (fun hc => ?_)
        · have hf := ot hc hf
          obtain rfl := Option.some.inj hf
          obtain rfl := Option.some.inj hn
          exact kx _ _ ls hP hD hS (lv_sub hl [0, 1] rfl)
        · have hf := oe hc hf
          refine lv_aload_n hx hb dX8_begin_25 rfl (lv_at hl 0 rfl) ?_
          refine va_get (D := (dC, dI)) (ci := 7) (v := .ref (q0 1)) (C := RX8) (T := TX8) (N := 21) hx hb hts hin8 hown hK hP 0 rfl rfl 0 (by decide) hk0 (fun _ h9 => h9) rfl dX8_begin_26 ?_
          refine lv_iload_n hx hb dX8_begin_29 rfl (lv_at hl 2 rfl) ?_
          refine lv_iconst (v := 0) hx hb dX8_begin_30 (by decide) ?_
          obtain ⟨hin, hf⟩ := og hf
          refine va_iast hx hb hK hP hD hS 1 0 rfl rfl hin dX8_begin_31 (fun H locs hP hD hS => ?_)
          have hP : va_P (dC, dI) vwCl (wX8 cI cZ cC q0 ((upd (pX8_s s18.2) s18.1.toNatClampNeg 0), (pX8_aside s18.2), (pX8_past s18.2), (pX8_known s18.2), (pX8_kept s18.2), (pX8_isKept s18.2), (pX8_pad s18.2), (pX8_length s18.2), (pX8_whyError s18.2), (pX8_whyNumber s18.2), (pX8_whySpot s18.2), (pX8_lots s18.2), (pX8_walker s18.2), (pX8_steps s18.2), (pX8_goes s18.2), (pX8_becomes s18.2), (pX8_spot s18.2), (pX8_isForm s18.2), (pX8_letter s18.2), (pX8_told s18.2), (pX8_highest s18.2))) H := hP
          have hD : va_D A (wX8 cI cZ cC q0 ((upd (pX8_s s18.2) s18.1.toNatClampNeg 0), (pX8_aside s18.2), (pX8_past s18.2), (pX8_known s18.2), (pX8_kept s18.2), (pX8_isKept s18.2), (pX8_pad s18.2), (pX8_length s18.2), (pX8_whyError s18.2), (pX8_whyNumber s18.2), (pX8_whySpot s18.2), (pX8_lots s18.2), (pX8_walker s18.2), (pX8_steps s18.2), (pX8_goes s18.2), (pX8_becomes s18.2), (pX8_spot s18.2), (pX8_isForm s18.2), (pX8_letter s18.2), (pX8_told s18.2), (pX8_highest s18.2))) := hD
          refine lv_iinc (v := (s18.1 + 1)) (lv' := [(2, .int (s18.1 + 1)), (0, .ref (q0 0)), (1, .int a1)]) hx hb dX8_begin_32 hl (k := 2) rfl rfl (by decide) rfl (fun ls hl => ?_)
          refine lv_goto (tgt := 18) hx hb dX8_begin_35 (by decide) ?_
          obtain rfl := Option.some.inj hf
          exact ih18 _ _ hn _ _ ls hP hD hS (lv_sub hl [1, 2, 0] rfl) kx
    obtain ⟨o18, ho18, hf⟩ := ob hf
    refine hL18 FU _ _ ho18 _ _ ls hP hD hS (lv_sub hl [1, 2, 0] rfl) (fun H locs ls hP hD hS hl => ?_)
    refine lv_aload_n hx hb dX8_begin_38 rfl (lv_at hl 0 rfl) ?_
    refine lv_iload_n hx hb dX8_begin_39 rfl (lv_at hl 1 rfl) ?_
    obtain ⟨o40, ho40, hf⟩ := ob hf
    refine wVv (W1 := (fun _ : Unit => (wX8 cI cZ cC q0 o40))) (rest := []) (As := [.int a1]) ⟨hx, hb, hml, hown, hts⟩ (mX8_roots l dC dI cI cZ cC cO q0 _ _ _ _ ho40) (cwV 1 hts gX8_begin_X8_roots rfl rfl rfl (by decide +kernel) ⟨Nat.le_of_ble_eq_true rfl, Nat.le_of_ble_eq_true rfl⟩) hK hN hP hD hS hA [0, 1, 2, 3, 4, 5, 6, 7, 8] [] [0, 1, 2, 3, 4, 5, 6, 7, 8] rfl rfl (by decide) (by decide) (fun _ => rfl) 7 rfl rfl rfl rfl hl.1 rfl (Nat.le_of_ble_eq_true rfl) dX8_begin_40 ⟨Nat.zero_le _, Nat.zero_le _⟩ (fun _ H locs hP hD hS => ?_)
    have hP : va_P (dC, dI) vwCl (wX8 cI cZ cC q0 o40) H := hP
    have hD : va_D A (wX8 cI cZ cC q0 o40) := hD
    refine lv_aload_n hx hb dX8_begin_43 rfl (lv_at hl 0 rfl) ?_
    refine va_get (D := (dC, dI)) (ci := 7) (v := .ref (q0 1)) (C := RX8) (T := TX8) (N := 21) hx hb hts hin8 hown hK hP 0 rfl rfl 0 (by decide) hk0 (fun _ h9 => h9) rfl dX8_begin_44 ?_
    refine lv_iconst (v := 0) hx hb dX8_begin_47 (by decide) ?_
    have hin : vp_in (0 : Int32) 373 := by unfold vp_in; decide
    refine va_iald hx hb hK hP 1 0 rfl rfl hin dX8_begin_48 ?_
    obtain rfl := Option.some.inj hf
    exact W.iret (v := ((pX8_s o40) (0 : Int32).toNatClampNeg)) hx hb hr (fun t ht hW => ⟨⟨_, (), rfl, rfl, by rw [ht]; exact hP, hD⟩, hS.F ht⟩) hS.2.2 dX8_begin_49
  · have hf := ot hc hf
    refine lv_iconst (v := (-1)) hx hb dX8_begin_9 (by decide) ?_
    obtain rfl := Option.some.inj hf
    exact W.iret (v := (-1)) hx hb hr (fun t ht hW => ⟨⟨_, (), rfl, rfl, by rw [ht]; exact hP, hD⟩, hS.F ht⟩) hS.2.2 dX8_begin_10
/-- RimGrainsModel.public int lot(int); -/
def fX8_lot (a1 : Int32) (g0 : GX8) : Option (Int32 × GX8) :=
  ((fX8_in a1 0 9999).bind fun o5 => (if o5 = 0 then some ((-1), g0) else ((fX8_records g0).bind fun o14 => some (((pX8_s o14) (1 : Int32).toNatClampNeg), ((upd (pX8_s o14) (1 : Int32).toNatClampNeg a1), (pX8_aside o14), (pX8_past o14), (pX8_known o14), (pX8_kept o14), (pX8_isKept o14), (pX8_pad o14), (pX8_length o14), (pX8_whyError o14), (pX8_whyNumber o14), (pX8_whySpot o14), (pX8_lots o14), (pX8_walker o14), (pX8_steps o14), (pX8_goes o14), (pX8_becomes o14), (pX8_spot o14), (pX8_isForm o14), (pX8_letter o14), (pX8_told o14), (pX8_highest o14))))))
abbrev rmX8_lot : Room := { frames := 2, cells := 0, slots := 0, locals := 45 }
set_option maxHeartbeats 4000000 in
set_option maxRecDepth 100000 in
theorem mX8_lot (l : Launch) (dC : Nat → ClassId) (dI : Nat → Nat → Nat) (cI cZ cC cO : ClassId) (q0 : Nat → Nat) (a1 : Int32) (g0 : GX8) (sz : Nat) (out : Int32 × GX8) (hf : fX8_lot a1 g0 = some out) : Met l yX8_lot wsX8_lot rmX8_lot (va_Pc [.ref (q0 0), .int a1] (pcW (dC, dI) (wTys cI cZ cC cO) sz (wX8 cI cZ cC q0 g0))) (va_Qi (fun r (_ : Unit) => r = out.1) (fun _ => poW (dC, dI) (va_A (wX8 cI cZ cC q0 g0) sz) (wX8 cI cZ cC q0 out.2)) (va_A (wX8 cI cZ cC q0 g0) sz)) 0 0 (va_A (wX8 cI cZ cC q0 g0) sz) := by
  refine Met.ofW (cc := cX8_lot) (maxL := 3) (ret := (some .int)) (by decide) rfl ?_
  intro p e s m args below meth c s₁ B hml hv
  obtain ⟨hargs, hsz, hP, hK, hN, hD0⟩ := hv
  have hx := B.exec
  have hb := B.bytes
  have hr := B.returns
  have hts := atoms_spec (ws := wsX8_lot) B.pre
  have hown : s.vm.findClass RX8 = some m.cls := findClass_of_methodNamed B.named
  have hlocks := B.notSynchronized
  have hk0 := hts (.fieldLink RX8 7 "RimGrainsModel" "s" "[I") (by decide +kernel)
  have hin8 : ∀ w ∈ wsX80, w ∈ wsX8_lot := by decide +kernel
  subst hsz
  have hD := hD0.self (sz := s.heap.size)
  generalize hAe : va_A (wX8 cI cZ cC q0 g0) s.heap.size = A at hD ⊢
  have hA : ∀ q : Nat, s.heap.size ≤ q → A q := fun q h => by rw [← hAe]; exact Or.inr h
  have hS : va_S A s.heap s.heap [] := va_S.rf
  have hE := lg_entry_eq m [.ref (q0 0), .int a1] 3
  rw [← hargs] at hE
  rw [hE]
  have hl := lv_entry [.ref (q0 0), .int a1] (n := 3) (Nat.le_of_ble_eq_true rfl)
  generalize (lg_sl [.ref (q0 0), .int a1] ++ List.replicate (3 - (lg_sl [.ref (q0 0), .int a1]).length) Slot.unset).toArray = ls at hl ⊢
  have hl : lv_has ls 3 [(0, .ref (q0 0)), (1, .int a1)] := hl
  have hP : va_P (dC, dI) vwCl (wX8 cI cZ cC q0 g0) s.heap := hP
  unfold fX8_lot at hf
  refine lv_iload_n hx hb dX8_lot_0 rfl (lv_at hl 1 rfl) ?_
  refine lv_iconst (v := 0) hx hb dX8_lot_1 (by decide) ?_
  refine lv_sipush (v := 9999) hx hb dX8_lot_2 (by decide) ?_
  obtain ⟨o5, ho5, hf⟩ := ob hf
  refine rS (rest := []) (As := [.int a1, .int 0, .int 9999]) ⟨hx, hb, hml, hown, hts⟩ (mX8_in l dC dI cI cZ cC cO  _ _ _ _ ho5) (va_cwS 3 hts gX8_lot_X8_in rfl rfl rfl (by decide +kernel) ⟨Nat.le_of_ble_eq_true rfl, Nat.le_of_ble_eq_true rfl⟩) hK hN hP [] rfl rfl hl.1 rfl (Nat.le_of_ble_eq_true rfl) dX8_lot_5 ⟨Nat.zero_le _, Nat.zero_le _⟩ ?_
  refine lv_if_ne (tgt := 13) hx hb dX8_lot_8 (by decide) (fun hc => ?_) (fun hc => ?_)
  · have hf := oe hc hf
    refine lv_aload_n hx hb dX8_lot_13 rfl (lv_at hl 0 rfl) ?_
    obtain ⟨o14, ho14, hf⟩ := ob hf
    refine wVv (W1 := (fun _ : Unit => (wX8 cI cZ cC q0 o14))) (rest := []) (As := []) ⟨hx, hb, hml, hown, hts⟩ (mX8_records l dC dI cI cZ cC cO q0 _ _ _ ho14) (cwV 0 hts gX8_lot_X8_records rfl rfl rfl (by decide +kernel) ⟨Nat.le_of_ble_eq_true rfl, Nat.le_of_ble_eq_true rfl⟩) hK hN hP hD hS hA [0, 1, 2, 3, 4, 5, 6, 7, 8] [] [0, 1, 2, 3, 4, 5, 6, 7, 8] rfl rfl (by decide) (by decide) (fun _ => rfl) 7 rfl rfl rfl rfl hl.1 rfl (Nat.le_of_ble_eq_true rfl) dX8_lot_14 ⟨Nat.zero_le _, Nat.zero_le _⟩ (fun _ H locs hP hD hS => ?_)
    have hP : va_P (dC, dI) vwCl (wX8 cI cZ cC q0 o14) H := hP
    have hD : va_D A (wX8 cI cZ cC q0 o14) := hD
    refine lv_aload_n hx hb dX8_lot_17 rfl (lv_at hl 0 rfl) ?_
    refine va_get (D := (dC, dI)) (ci := 7) (v := .ref (q0 1)) (C := RX8) (T := TX8) (N := 21) hx hb hts hin8 hown hK hP 0 rfl rfl 0 (by decide) hk0 (fun _ h9 => h9) rfl dX8_lot_18 ?_
    refine lv_iconst (v := 1) hx hb dX8_lot_21 (by decide) ?_
    have hin : vp_in (1 : Int32) 373 := by unfold vp_in; decide
    refine va_iald hx hb hK hP 1 0 rfl rfl hin dX8_lot_22 ?_
    refine lv_istore_n (lv' := [(2, .int ((pX8_s o14) (1 : Int32).toNatClampNeg)), (0, .ref (q0 0)), (1, .int a1)]) hx hb dX8_lot_23 rfl hl (by decide) rfl (fun ls hl => ?_)
    refine lv_aload_n hx hb dX8_lot_24 rfl (lv_at hl 1 rfl) ?_
    refine va_get (D := (dC, dI)) (ci := 7) (v := .ref (q0 1)) (C := RX8) (T := TX8) (N := 21) hx hb hts hin8 hown hK hP 0 rfl rfl 0 (by decide) hk0 (fun _ h9 => h9) rfl dX8_lot_25 ?_
    refine lv_iconst (v := 1) hx hb dX8_lot_28 (by decide) ?_
    refine lv_iload_n hx hb dX8_lot_29 rfl (lv_at hl 2 rfl) ?_
    have hin : vp_in (1 : Int32) 373 := by unfold vp_in; decide
    refine va_iast hx hb hK hP hD hS 1 0 rfl rfl hin dX8_lot_30 (fun H locs hP hD hS => ?_)
    have hP : va_P (dC, dI) vwCl (wX8 cI cZ cC q0 ((upd (pX8_s o14) (1 : Int32).toNatClampNeg a1), (pX8_aside o14), (pX8_past o14), (pX8_known o14), (pX8_kept o14), (pX8_isKept o14), (pX8_pad o14), (pX8_length o14), (pX8_whyError o14), (pX8_whyNumber o14), (pX8_whySpot o14), (pX8_lots o14), (pX8_walker o14), (pX8_steps o14), (pX8_goes o14), (pX8_becomes o14), (pX8_spot o14), (pX8_isForm o14), (pX8_letter o14), (pX8_told o14), (pX8_highest o14))) H := hP
    have hD : va_D A (wX8 cI cZ cC q0 ((upd (pX8_s o14) (1 : Int32).toNatClampNeg a1), (pX8_aside o14), (pX8_past o14), (pX8_known o14), (pX8_kept o14), (pX8_isKept o14), (pX8_pad o14), (pX8_length o14), (pX8_whyError o14), (pX8_whyNumber o14), (pX8_whySpot o14), (pX8_lots o14), (pX8_walker o14), (pX8_steps o14), (pX8_goes o14), (pX8_becomes o14), (pX8_spot o14), (pX8_isForm o14), (pX8_letter o14), (pX8_told o14), (pX8_highest o14))) := hD
    refine lv_iload_n hx hb dX8_lot_31 rfl (lv_at hl 0 rfl) ?_
    obtain rfl := Option.some.inj hf
    exact W.iret (v := ((pX8_s o14) (1 : Int32).toNatClampNeg)) hx hb hr (fun t ht hW => ⟨⟨_, (), rfl, rfl, by rw [ht]; exact hP, hD⟩, hS.F ht⟩) hS.2.2 dX8_lot_32
  · have hf := ot hc hf
    refine lv_iconst (v := (-1)) hx hb dX8_lot_11 (by decide) ?_
    obtain rfl := Option.some.inj hf
    exact W.iret (v := (-1)) hx hb hr (fun t ht hW => ⟨⟨_, (), rfl, rfl, by rw [ht]; exact hP, hD⟩, hS.F ht⟩) hS.2.2 dX8_lot_12
/-- RimGrainsModel.public int go(int); -/
def fX8_go (a1 : Int32) (g0 : GX8) : Option (Int32 × GX8) :=
  ((fX8_errorGo a1 g0).bind fun o2 => (if 0 ≤ o2 then ((fX8_records g0).bind fun o13 => ((fX8_goGrain a1 o13).bind fun o18 => some (o18.1, o18.2))) else some (o2, g0)))
abbrev rmX8_go : Room := { frames := 5, cells := 0, slots := 0, locals := 115 }
set_option maxHeartbeats 4000000 in
set_option maxRecDepth 100000 in
theorem mX8_go (l : Launch) (dC : Nat → ClassId) (dI : Nat → Nat → Nat) (cI cZ cC cO : ClassId) (q0 : Nat → Nat) (a1 : Int32) (g0 : GX8) (sz : Nat) (out : Int32 × GX8) (hf : fX8_go a1 g0 = some out) : Met l yX8_go wsX8_go rmX8_go (va_Pc [.ref (q0 0), .int a1] (pcW (dC, dI) (wTys cI cZ cC cO) sz (wX8 cI cZ cC q0 g0))) (va_Qi (fun r (_ : Unit) => r = out.1) (fun _ => poW (dC, dI) (va_A (wX8 cI cZ cC q0 g0) sz) (wX8 cI cZ cC q0 out.2)) (va_A (wX8 cI cZ cC q0 g0) sz)) 0 0 (va_A (wX8 cI cZ cC q0 g0) sz) := by
  refine Met.ofW (cc := cX8_go) (maxL := 3) (ret := (some .int)) (by decide) rfl ?_
  intro p e s m args below meth c s₁ B hml hv
  obtain ⟨hargs, hsz, hP, hK, hN, hD0⟩ := hv
  have hx := B.exec
  have hb := B.bytes
  have hr := B.returns
  have hts := atoms_spec (ws := wsX8_go) B.pre
  have hown : s.vm.findClass RX8 = some m.cls := findClass_of_methodNamed B.named
  have hlocks := B.notSynchronized
  subst hsz
  have hD := hD0.self (sz := s.heap.size)
  generalize hAe : va_A (wX8 cI cZ cC q0 g0) s.heap.size = A at hD ⊢
  have hA : ∀ q : Nat, s.heap.size ≤ q → A q := fun q h => by rw [← hAe]; exact Or.inr h
  have hS : va_S A s.heap s.heap [] := va_S.rf
  have hE := lg_entry_eq m [.ref (q0 0), .int a1] 3
  rw [← hargs] at hE
  rw [hE]
  have hl := lv_entry [.ref (q0 0), .int a1] (n := 3) (Nat.le_of_ble_eq_true rfl)
  generalize (lg_sl [.ref (q0 0), .int a1] ++ List.replicate (3 - (lg_sl [.ref (q0 0), .int a1]).length) Slot.unset).toArray = ls at hl ⊢
  have hl : lv_has ls 3 [(0, .ref (q0 0)), (1, .int a1)] := hl
  have hP : va_P (dC, dI) vwCl (wX8 cI cZ cC q0 g0) s.heap := hP
  unfold fX8_go at hf
  refine lv_aload_n hx hb dX8_go_0 rfl (lv_at hl 0 rfl) ?_
  refine lv_iload_n hx hb dX8_go_1 rfl (lv_at hl 1 rfl) ?_
  obtain ⟨o2, ho2, hf⟩ := ob hf
  refine rV (rest := []) (As := [.int a1]) ⟨hx, hb, hml, hown, hts⟩ (mX8_errorGo l dC dI cI cZ cC cO q0 _ _ _ ho2) (cwV 1 hts gX8_go_X8_errorGo rfl rfl rfl (by decide +kernel) ⟨Nat.le_of_ble_eq_true rfl, Nat.le_of_ble_eq_true rfl⟩) hK hN hP [0, 1, 2, 3, 4, 5, 6, 7, 8] rfl 7 rfl rfl rfl rfl hl.1 rfl (Nat.le_of_ble_eq_true rfl) dX8_go_2 ⟨Nat.zero_le _, Nat.zero_le _⟩ ?_
  refine lv_istore_n (lv' := [(2, .int o2), (0, .ref (q0 0)), (1, .int a1)]) hx hb dX8_go_5 rfl hl (by decide) rfl (fun ls hl => ?_)
  refine lv_iload_n hx hb dX8_go_6 rfl (lv_at hl 0 rfl) ?_
  refine lv_if_ge (tgt := 12) hx hb dX8_go_7 (by decide) (fun hc => ?_) (fun hc => ?_)
  · have hf := ot hc hf
    refine lv_aload_n hx hb dX8_go_12 rfl (lv_at hl 1 rfl) ?_
    obtain ⟨o13, ho13, hf⟩ := ob hf
    refine wVv (W1 := (fun _ : Unit => (wX8 cI cZ cC q0 o13))) (rest := []) (As := []) ⟨hx, hb, hml, hown, hts⟩ (mX8_records l dC dI cI cZ cC cO q0 _ _ _ ho13) (cwV 0 hts gX8_go_X8_records rfl rfl rfl (by decide +kernel) ⟨Nat.le_of_ble_eq_true rfl, Nat.le_of_ble_eq_true rfl⟩) hK hN hP hD hS hA [0, 1, 2, 3, 4, 5, 6, 7, 8] [] [0, 1, 2, 3, 4, 5, 6, 7, 8] rfl rfl (by decide) (by decide) (fun _ => rfl) 7 rfl rfl rfl rfl hl.1 rfl (Nat.le_of_ble_eq_true rfl) dX8_go_13 ⟨Nat.zero_le _, Nat.zero_le _⟩ (fun _ H locs hP hD hS => ?_)
    have hP : va_P (dC, dI) vwCl (wX8 cI cZ cC q0 o13) H := hP
    have hD : va_D A (wX8 cI cZ cC q0 o13) := hD
    refine lv_aload_n hx hb dX8_go_16 rfl (lv_at hl 1 rfl) ?_
    refine lv_iload_n hx hb dX8_go_17 rfl (lv_at hl 2 rfl) ?_
    obtain ⟨o18, ho18, hf⟩ := ob hf
    refine wVi (W1 := (fun _ : Unit => (wX8 cI cZ cC q0 o18.2))) (rest := []) (As := [.int a1]) ⟨hx, hb, hml, hown, hts⟩ (mX8_goGrain l dC dI cI cZ cC cO q0 _ _ _ _ ho18) (cwV 1 hts gX8_go_X8_goGrain rfl rfl rfl (by decide +kernel) ⟨Nat.le_of_ble_eq_true rfl, Nat.le_of_ble_eq_true rfl⟩) hK hN hP hD hS hA [0, 1, 2, 3, 4, 5, 6, 7, 8] [] [0, 1, 2, 3, 4, 5, 6, 7, 8] rfl rfl (by decide) (by decide) (fun _ => rfl) 7 rfl rfl rfl rfl hl.1 rfl (Nat.le_of_ble_eq_true rfl) dX8_go_18 ⟨Nat.zero_le _, Nat.zero_le _⟩ (fun _ H locs hP hD hS => ?_)
    have hP : va_P (dC, dI) vwCl (wX8 cI cZ cC q0 o18.2) H := hP
    have hD : va_D A (wX8 cI cZ cC q0 o18.2) := hD
    obtain rfl := Option.some.inj hf
    exact W.iret (v := o18.1) hx hb hr (fun t ht hW => ⟨⟨_, (), rfl, rfl, by rw [ht]; exact hP, hD⟩, hS.F ht⟩) hS.2.2 dX8_go_21
  · have hf := oe hc hf
    refine lv_iload_n hx hb dX8_go_10 rfl (lv_at hl 0 rfl) ?_
    obtain rfl := Option.some.inj hf
    exact W.iret (v := o2) hx hb hr (fun t ht hW => ⟨⟨_, (), rfl, rfl, by rw [ht]; exact hP, hD⟩, hS.F ht⟩) hS.2.2 dX8_go_11
/-- RimGrainsModel.public int rain(int); -/
def fX8_rain (a1 : Int32) (g0 : GX8) : Option (Int32 × GX8) :=
  ((fX8_in a1 1 20).bind fun o4 => (if o4 = 0 then some ((-1), g0) else ((fX8_records g0).bind fun o13 => ((fX8_goRain a1 o13).bind fun o18 => some (o18.1, o18.2)))))
abbrev rmX8_rain : Room := { frames := 6, cells := 0, slots := 0, locals := 139 }
set_option maxHeartbeats 4000000 in
set_option maxRecDepth 100000 in
theorem mX8_rain (l : Launch) (dC : Nat → ClassId) (dI : Nat → Nat → Nat) (cI cZ cC cO : ClassId) (q0 : Nat → Nat) (a1 : Int32) (g0 : GX8) (sz : Nat) (out : Int32 × GX8) (hf : fX8_rain a1 g0 = some out) : Met l yX8_rain wsX8_rain rmX8_rain (va_Pc [.ref (q0 0), .int a1] (pcW (dC, dI) (wTys cI cZ cC cO) sz (wX8 cI cZ cC q0 g0))) (va_Qi (fun r (_ : Unit) => r = out.1) (fun _ => poW (dC, dI) (va_A (wX8 cI cZ cC q0 g0) sz) (wX8 cI cZ cC q0 out.2)) (va_A (wX8 cI cZ cC q0 g0) sz)) 0 0 (va_A (wX8 cI cZ cC q0 g0) sz) := by
  refine Met.ofW (cc := cX8_rain) (maxL := 2) (ret := (some .int)) (by decide) rfl ?_
  intro p e s m args below meth c s₁ B hml hv
  obtain ⟨hargs, hsz, hP, hK, hN, hD0⟩ := hv
  have hx := B.exec
  have hb := B.bytes
  have hr := B.returns
  have hts := atoms_spec (ws := wsX8_rain) B.pre
  have hown : s.vm.findClass RX8 = some m.cls := findClass_of_methodNamed B.named
  have hlocks := B.notSynchronized
  subst hsz
  have hD := hD0.self (sz := s.heap.size)
  generalize hAe : va_A (wX8 cI cZ cC q0 g0) s.heap.size = A at hD ⊢
  have hA : ∀ q : Nat, s.heap.size ≤ q → A q := fun q h => by rw [← hAe]; exact Or.inr h
  have hS : va_S A s.heap s.heap [] := va_S.rf
  have hE := lg_entry_eq m [.ref (q0 0), .int a1] 2
  rw [← hargs] at hE
  rw [hE]
  have hl := lv_entry [.ref (q0 0), .int a1] (n := 2) (Nat.le_of_ble_eq_true rfl)
  generalize (lg_sl [.ref (q0 0), .int a1] ++ List.replicate (2 - (lg_sl [.ref (q0 0), .int a1]).length) Slot.unset).toArray = ls at hl ⊢
  have hl : lv_has ls 2 [(0, .ref (q0 0)), (1, .int a1)] := hl
  have hP : va_P (dC, dI) vwCl (wX8 cI cZ cC q0 g0) s.heap := hP
  unfold fX8_rain at hf
  refine lv_iload_n hx hb dX8_rain_0 rfl (lv_at hl 1 rfl) ?_
  refine lv_iconst (v := 1) hx hb dX8_rain_1 (by decide) ?_
  refine lv_bipush (v := 20) hx hb dX8_rain_2 (by decide) ?_
  obtain ⟨o4, ho4, hf⟩ := ob hf
  refine rS (rest := []) (As := [.int a1, .int 1, .int 20]) ⟨hx, hb, hml, hown, hts⟩ (mX8_in l dC dI cI cZ cC cO  _ _ _ _ ho4) (va_cwS 3 hts gX8_rain_X8_in rfl rfl rfl (by decide +kernel) ⟨Nat.le_of_ble_eq_true rfl, Nat.le_of_ble_eq_true rfl⟩) hK hN hP [] rfl rfl hl.1 rfl (Nat.le_of_ble_eq_true rfl) dX8_rain_4 ⟨Nat.zero_le _, Nat.zero_le _⟩ ?_
  refine lv_if_ne (tgt := 12) hx hb dX8_rain_7 (by decide) (fun hc => ?_) (fun hc => ?_)
  · have hf := oe hc hf
    refine lv_aload_n hx hb dX8_rain_12 rfl (lv_at hl 0 rfl) ?_
    obtain ⟨o13, ho13, hf⟩ := ob hf
    refine wVv (W1 := (fun _ : Unit => (wX8 cI cZ cC q0 o13))) (rest := []) (As := []) ⟨hx, hb, hml, hown, hts⟩ (mX8_records l dC dI cI cZ cC cO q0 _ _ _ ho13) (cwV 0 hts gX8_rain_X8_records rfl rfl rfl (by decide +kernel) ⟨Nat.le_of_ble_eq_true rfl, Nat.le_of_ble_eq_true rfl⟩) hK hN hP hD hS hA [0, 1, 2, 3, 4, 5, 6, 7, 8] [] [0, 1, 2, 3, 4, 5, 6, 7, 8] rfl rfl (by decide) (by decide) (fun _ => rfl) 7 rfl rfl rfl rfl hl.1 rfl (Nat.le_of_ble_eq_true rfl) dX8_rain_13 ⟨Nat.zero_le _, Nat.zero_le _⟩ (fun _ H locs hP hD hS => ?_)
    have hP : va_P (dC, dI) vwCl (wX8 cI cZ cC q0 o13) H := hP
    have hD : va_D A (wX8 cI cZ cC q0 o13) := hD
    refine lv_aload_n hx hb dX8_rain_16 rfl (lv_at hl 0 rfl) ?_
    refine lv_iload_n hx hb dX8_rain_17 rfl (lv_at hl 1 rfl) ?_
    obtain ⟨o18, ho18, hf⟩ := ob hf
    refine wVi (W1 := (fun _ : Unit => (wX8 cI cZ cC q0 o18.2))) (rest := []) (As := [.int a1]) ⟨hx, hb, hml, hown, hts⟩ (mX8_goRain l dC dI cI cZ cC cO q0 _ _ _ _ ho18) (cwV 1 hts gX8_rain_X8_goRain rfl rfl rfl (by decide +kernel) ⟨Nat.le_of_ble_eq_true rfl, Nat.le_of_ble_eq_true rfl⟩) hK hN hP hD hS hA [0, 1, 2, 3, 4, 5, 6, 7, 8] [] [0, 1, 2, 3, 4, 5, 6, 7, 8] rfl rfl (by decide) (by decide) (fun _ => rfl) 7 rfl rfl rfl rfl hl.1 rfl (Nat.le_of_ble_eq_true rfl) dX8_rain_18 ⟨Nat.zero_le _, Nat.zero_le _⟩ (fun _ H locs hP hD hS => ?_)
    have hP : va_P (dC, dI) vwCl (wX8 cI cZ cC q0 o18.2) H := hP
    have hD : va_D A (wX8 cI cZ cC q0 o18.2) := hD
    obtain rfl := Option.some.inj hf
    exact W.iret (v := o18.1) hx hb hr (fun t ht hW => ⟨⟨_, (), rfl, rfl, by rw [ht]; exact hP, hD⟩, hS.F ht⟩) hS.2.2 dX8_rain_21
  · have hf := ot hc hf
    refine lv_iconst (v := (-1)) hx hb dX8_rain_10 (by decide) ?_
    obtain rfl := Option.some.inj hf
    exact W.iret (v := (-1)) hx hb hr (fun t ht hW => ⟨⟨_, (), rfl, rfl, by rw [ht]; exact hP, hD⟩, hS.F ht⟩) hS.2.2 dX8_rain_11
/-- RimGrainsModel.public int breakOff(int); -/
def fX8_breakOff (a1 : Int32) (g0 : GX8) : Option (Int32 × GX8) :=
  ((fX8_errorBreak a1 g0).bind fun o2 => (if 0 ≤ o2 then ((fX8_records g0).bind fun o13 => ((fX8_goBreak a1 o13).bind fun o18 => some (o18.1, o18.2))) else some (o2, g0)))
abbrev rmX8_breakOff : Room := { frames := 4, cells := 0, slots := 0, locals := 91 }
set_option maxHeartbeats 4000000 in
set_option maxRecDepth 100000 in
theorem mX8_breakOff (l : Launch) (dC : Nat → ClassId) (dI : Nat → Nat → Nat) (cI cZ cC cO : ClassId) (q0 : Nat → Nat) (a1 : Int32) (g0 : GX8) (sz : Nat) (out : Int32 × GX8) (hf : fX8_breakOff a1 g0 = some out) : Met l yX8_breakOff wsX8_breakOff rmX8_breakOff (va_Pc [.ref (q0 0), .int a1] (pcW (dC, dI) (wTys cI cZ cC cO) sz (wX8 cI cZ cC q0 g0))) (va_Qi (fun r (_ : Unit) => r = out.1) (fun _ => poW (dC, dI) (va_A (wX8 cI cZ cC q0 g0) sz) (wX8 cI cZ cC q0 out.2)) (va_A (wX8 cI cZ cC q0 g0) sz)) 0 0 (va_A (wX8 cI cZ cC q0 g0) sz) := by
  refine Met.ofW (cc := cX8_breakOff) (maxL := 3) (ret := (some .int)) (by decide) rfl ?_
  intro p e s m args below meth c s₁ B hml hv
  obtain ⟨hargs, hsz, hP, hK, hN, hD0⟩ := hv
  have hx := B.exec
  have hb := B.bytes
  have hr := B.returns
  have hts := atoms_spec (ws := wsX8_breakOff) B.pre
  have hown : s.vm.findClass RX8 = some m.cls := findClass_of_methodNamed B.named
  have hlocks := B.notSynchronized
  subst hsz
  have hD := hD0.self (sz := s.heap.size)
  generalize hAe : va_A (wX8 cI cZ cC q0 g0) s.heap.size = A at hD ⊢
  have hA : ∀ q : Nat, s.heap.size ≤ q → A q := fun q h => by rw [← hAe]; exact Or.inr h
  have hS : va_S A s.heap s.heap [] := va_S.rf
  have hE := lg_entry_eq m [.ref (q0 0), .int a1] 3
  rw [← hargs] at hE
  rw [hE]
  have hl := lv_entry [.ref (q0 0), .int a1] (n := 3) (Nat.le_of_ble_eq_true rfl)
  generalize (lg_sl [.ref (q0 0), .int a1] ++ List.replicate (3 - (lg_sl [.ref (q0 0), .int a1]).length) Slot.unset).toArray = ls at hl ⊢
  have hl : lv_has ls 3 [(0, .ref (q0 0)), (1, .int a1)] := hl
  have hP : va_P (dC, dI) vwCl (wX8 cI cZ cC q0 g0) s.heap := hP
  unfold fX8_breakOff at hf
  refine lv_aload_n hx hb dX8_breakOff_0 rfl (lv_at hl 0 rfl) ?_
  refine lv_iload_n hx hb dX8_breakOff_1 rfl (lv_at hl 1 rfl) ?_
  obtain ⟨o2, ho2, hf⟩ := ob hf
  refine rV (rest := []) (As := [.int a1]) ⟨hx, hb, hml, hown, hts⟩ (mX8_errorBreak l dC dI cI cZ cC cO q0 _ _ _ ho2) (cwV 1 hts gX8_breakOff_X8_errorBreak rfl rfl rfl (by decide +kernel) ⟨Nat.le_of_ble_eq_true rfl, Nat.le_of_ble_eq_true rfl⟩) hK hN hP [0, 1, 2, 3, 4, 5, 6, 7, 8] rfl 7 rfl rfl rfl rfl hl.1 rfl (Nat.le_of_ble_eq_true rfl) dX8_breakOff_2 ⟨Nat.zero_le _, Nat.zero_le _⟩ ?_
  refine lv_istore_n (lv' := [(2, .int o2), (0, .ref (q0 0)), (1, .int a1)]) hx hb dX8_breakOff_5 rfl hl (by decide) rfl (fun ls hl => ?_)
  refine lv_iload_n hx hb dX8_breakOff_6 rfl (lv_at hl 0 rfl) ?_
  refine lv_if_ge (tgt := 12) hx hb dX8_breakOff_7 (by decide) (fun hc => ?_) (fun hc => ?_)
  · have hf := ot hc hf
    refine lv_aload_n hx hb dX8_breakOff_12 rfl (lv_at hl 1 rfl) ?_
    obtain ⟨o13, ho13, hf⟩ := ob hf
    refine wVv (W1 := (fun _ : Unit => (wX8 cI cZ cC q0 o13))) (rest := []) (As := []) ⟨hx, hb, hml, hown, hts⟩ (mX8_records l dC dI cI cZ cC cO q0 _ _ _ ho13) (cwV 0 hts gX8_breakOff_X8_records rfl rfl rfl (by decide +kernel) ⟨Nat.le_of_ble_eq_true rfl, Nat.le_of_ble_eq_true rfl⟩) hK hN hP hD hS hA [0, 1, 2, 3, 4, 5, 6, 7, 8] [] [0, 1, 2, 3, 4, 5, 6, 7, 8] rfl rfl (by decide) (by decide) (fun _ => rfl) 7 rfl rfl rfl rfl hl.1 rfl (Nat.le_of_ble_eq_true rfl) dX8_breakOff_13 ⟨Nat.zero_le _, Nat.zero_le _⟩ (fun _ H locs hP hD hS => ?_)
    have hP : va_P (dC, dI) vwCl (wX8 cI cZ cC q0 o13) H := hP
    have hD : va_D A (wX8 cI cZ cC q0 o13) := hD
    refine lv_aload_n hx hb dX8_breakOff_16 rfl (lv_at hl 1 rfl) ?_
    refine lv_iload_n hx hb dX8_breakOff_17 rfl (lv_at hl 2 rfl) ?_
    obtain ⟨o18, ho18, hf⟩ := ob hf
    refine wVi (W1 := (fun _ : Unit => (wX8 cI cZ cC q0 o18.2))) (rest := []) (As := [.int a1]) ⟨hx, hb, hml, hown, hts⟩ (mX8_goBreak l dC dI cI cZ cC cO q0 _ _ _ _ ho18) (cwV 1 hts gX8_breakOff_X8_goBreak rfl rfl rfl (by decide +kernel) ⟨Nat.le_of_ble_eq_true rfl, Nat.le_of_ble_eq_true rfl⟩) hK hN hP hD hS hA [0, 1, 2, 3, 4, 5, 6, 7, 8] [] [0, 1, 2, 3, 4, 5, 6, 7, 8] rfl rfl (by decide) (by decide) (fun _ => rfl) 7 rfl rfl rfl rfl hl.1 rfl (Nat.le_of_ble_eq_true rfl) dX8_breakOff_18 ⟨Nat.zero_le _, Nat.zero_le _⟩ (fun _ H locs hP hD hS => ?_)
    have hP : va_P (dC, dI) vwCl (wX8 cI cZ cC q0 o18.2) H := hP
    have hD : va_D A (wX8 cI cZ cC q0 o18.2) := hD
    obtain rfl := Option.some.inj hf
    exact W.iret (v := o18.1) hx hb hr (fun t ht hW => ⟨⟨_, (), rfl, rfl, by rw [ht]; exact hP, hD⟩, hS.F ht⟩) hS.2.2 dX8_breakOff_21
  · have hf := oe hc hf
    refine lv_iload_n hx hb dX8_breakOff_10 rfl (lv_at hl 0 rfl) ?_
    obtain rfl := Option.some.inj hf
    exact W.iret (v := o2) hx hb hr (fun t ht hW => ⟨⟨_, (), rfl, rfl, by rw [ht]; exact hP, hD⟩, hS.F ht⟩) hS.2.2 dX8_breakOff_11
/-- RimGrainsModel.public int wash(); -/
def fX8_wash (g0 : GX8) : Option (Int32 × GX8) :=
  ((fX8_records g0).bind fun o1 => ((fX8_goWash o1).bind fun o5 => some (o5.1, o5.2)))
abbrev rmX8_wash : Room := { frames := 4, cells := 0, slots := 0, locals := 90 }
set_option maxHeartbeats 4000000 in
set_option maxRecDepth 100000 in
theorem mX8_wash (l : Launch) (dC : Nat → ClassId) (dI : Nat → Nat → Nat) (cI cZ cC cO : ClassId) (q0 : Nat → Nat) (g0 : GX8) (sz : Nat) (out : Int32 × GX8) (hf : fX8_wash g0 = some out) : Met l yX8_wash wsX8_wash rmX8_wash (va_Pc [.ref (q0 0)] (pcW (dC, dI) (wTys cI cZ cC cO) sz (wX8 cI cZ cC q0 g0))) (va_Qi (fun r (_ : Unit) => r = out.1) (fun _ => poW (dC, dI) (va_A (wX8 cI cZ cC q0 g0) sz) (wX8 cI cZ cC q0 out.2)) (va_A (wX8 cI cZ cC q0 g0) sz)) 0 0 (va_A (wX8 cI cZ cC q0 g0) sz) := by
  refine Met.ofW (cc := cX8_wash) (maxL := 1) (ret := (some .int)) (by decide) rfl ?_
  intro p e s m args below meth c s₁ B hml hv
  obtain ⟨hargs, hsz, hP, hK, hN, hD0⟩ := hv
  have hx := B.exec
  have hb := B.bytes
  have hr := B.returns
  have hts := atoms_spec (ws := wsX8_wash) B.pre
  have hown : s.vm.findClass RX8 = some m.cls := findClass_of_methodNamed B.named
  have hlocks := B.notSynchronized
  subst hsz
  have hD := hD0.self (sz := s.heap.size)
  generalize hAe : va_A (wX8 cI cZ cC q0 g0) s.heap.size = A at hD ⊢
  have hA : ∀ q : Nat, s.heap.size ≤ q → A q := fun q h => by rw [← hAe]; exact Or.inr h
  have hS : va_S A s.heap s.heap [] := va_S.rf
  have hE := lg_entry_eq m [.ref (q0 0)] 1
  rw [← hargs] at hE
  rw [hE]
  have hl := lv_entry [.ref (q0 0)] (n := 1) (Nat.le_of_ble_eq_true rfl)
  generalize (lg_sl [.ref (q0 0)] ++ List.replicate (1 - (lg_sl [.ref (q0 0)]).length) Slot.unset).toArray = ls at hl ⊢
  have hl : lv_has ls 1 [(0, .ref (q0 0))] := hl
  have hP : va_P (dC, dI) vwCl (wX8 cI cZ cC q0 g0) s.heap := hP
  unfold fX8_wash at hf
  refine lv_aload_n hx hb dX8_wash_0 rfl (lv_at hl 0 rfl) ?_
  obtain ⟨o1, ho1, hf⟩ := ob hf
  refine wVv (W1 := (fun _ : Unit => (wX8 cI cZ cC q0 o1))) (rest := []) (As := []) ⟨hx, hb, hml, hown, hts⟩ (mX8_records l dC dI cI cZ cC cO q0 _ _ _ ho1) (cwV 0 hts gX8_wash_X8_records rfl rfl rfl (by decide +kernel) ⟨Nat.le_of_ble_eq_true rfl, Nat.le_of_ble_eq_true rfl⟩) hK hN hP hD hS hA [0, 1, 2, 3, 4, 5, 6, 7, 8] [] [0, 1, 2, 3, 4, 5, 6, 7, 8] rfl rfl (by decide) (by decide) (fun _ => rfl) 7 rfl rfl rfl rfl hl.1 rfl (Nat.le_of_ble_eq_true rfl) dX8_wash_1 ⟨Nat.zero_le _, Nat.zero_le _⟩ (fun _ H locs hP hD hS => ?_)
  have hP : va_P (dC, dI) vwCl (wX8 cI cZ cC q0 o1) H := hP
  have hD : va_D A (wX8 cI cZ cC q0 o1) := hD
  refine lv_aload_n hx hb dX8_wash_4 rfl (lv_at hl 0 rfl) ?_
  obtain ⟨o5, ho5, hf⟩ := ob hf
  refine wVi (W1 := (fun _ : Unit => (wX8 cI cZ cC q0 o5.2))) (rest := []) (As := []) ⟨hx, hb, hml, hown, hts⟩ (mX8_goWash l dC dI cI cZ cC cO q0 _ _ _ ho5) (cwV 0 hts gX8_wash_X8_goWash rfl rfl rfl (by decide +kernel) ⟨Nat.le_of_ble_eq_true rfl, Nat.le_of_ble_eq_true rfl⟩) hK hN hP hD hS hA [0, 1, 2, 3, 4, 5, 6, 7, 8] [] [0, 1, 2, 3, 4, 5, 6, 7, 8] rfl rfl (by decide) (by decide) (fun _ => rfl) 7 rfl rfl rfl rfl hl.1 rfl (Nat.le_of_ble_eq_true rfl) dX8_wash_5 ⟨Nat.zero_le _, Nat.zero_le _⟩ (fun _ H locs hP hD hS => ?_)
  have hP : va_P (dC, dI) vwCl (wX8 cI cZ cC q0 o5.2) H := hP
  have hD : va_D A (wX8 cI cZ cC q0 o5.2) := hD
  obtain rfl := Option.some.inj hf
  exact W.iret (v := o5.1) hx hb hr (fun t ht hW => ⟨⟨_, (), rfl, rfl, by rw [ht]; exact hP, hD⟩, hS.F ht⟩) hS.2.2 dX8_wash_8
/-- RimGrainsModel.private static int leastOf(int); -/
def fX8_leastOf (a0 : Int32) : Option (Int32) :=
  (if a0 = 0 then some 1 else (if a0 = 1 then some 10 else some 0))
abbrev rmX8_leastOf : Room := { frames := 0, cells := 0, slots := 0, locals := 0 }
set_option maxHeartbeats 4000000 in
set_option maxRecDepth 100000 in
theorem mX8_leastOf (l : Launch) (dC : Nat → ClassId) (dI : Nat → Nat → Nat) (cI cZ cC cO : ClassId) (a0 : Int32) (out : Int32) (hf : fX8_leastOf a0 = some out) : Met l yX8_leastOf wsX8_leastOf rmX8_leastOf (va_Pc [.int a0] (pcR (dC, dI) (wTys cI cZ cC cO) ([] : va_W))) (vp_Si (fun r => r = out)) 0 0 (fun _ => False) := by
  refine Met.ofW (cc := cX8_leastOf) (maxL := 1) (ret := (some .int)) (by decide) rfl ?_
  intro p e s m args below meth c s₁ B hml hv
  obtain ⟨hargs, hP, hK, hN⟩ := hv
  have hx := B.exec
  have hb := B.bytes
  have hr := B.returns
  have hts := atoms_spec (ws := wsX8_leastOf) B.pre
  have hown : s.vm.findClass RX8 = some m.cls := findClass_of_methodNamed B.named
  have hlocks := B.notSynchronized
  have hE := lg_entry_eq m [.int a0] 1
  rw [← hargs] at hE
  rw [hE]
  have hl := lv_entry [.int a0] (n := 1) (Nat.le_of_ble_eq_true rfl)
  generalize (lg_sl [.int a0] ++ List.replicate (1 - (lg_sl [.int a0]).length) Slot.unset).toArray = ls at hl ⊢
  have hl : lv_has ls 1 [(0, .int a0)] := hl
  unfold fX8_leastOf at hf
  refine lv_iload_n hx hb dX8_leastOf_0 rfl (lv_at hl 0 rfl) ?_
  refine lv_if_ne (tgt := 8) hx hb dX8_leastOf_1 (by decide) (fun hc => ?_) (fun hc => ?_)
  · have hf := oe hc hf
    refine lv_iload_n hx hb dX8_leastOf_8 rfl (lv_at hl 0 rfl) ?_
    refine lv_iconst (v := 1) hx hb dX8_leastOf_9 (by decide) ?_
    refine lv_icmp_ne (tgt := 18) hx hb dX8_leastOf_10 (by decide) (fun hc => ?_) (fun hc => ?_)
    · have hf := oe hc hf
      refine lv_iconst (v := 0) hx hb dX8_leastOf_18 (by decide) ?_
      obtain rfl := Option.some.inj hf
      exact W.iret (v := 0) hx hb hr (fun t ht hW => ⟨_, rfl, rfl, ht⟩) (fun _ h => by cases h) dX8_leastOf_19
    · have hf := ot hc hf
      refine lv_bipush (v := 10) hx hb dX8_leastOf_13 (by decide) ?_
      refine lv_goto (tgt := 19) hx hb dX8_leastOf_15 (by decide) ?_
      obtain rfl := Option.some.inj hf
      exact W.iret (v := 10) hx hb hr (fun t ht hW => ⟨_, rfl, rfl, ht⟩) (fun _ h => by cases h) dX8_leastOf_19
  · have hf := ot hc hf
    refine lv_iconst (v := 1) hx hb dX8_leastOf_4 (by decide) ?_
    refine lv_goto (tgt := 19) hx hb dX8_leastOf_5 (by decide) ?_
    obtain rfl := Option.some.inj hf
    exact W.iret (v := 1) hx hb hr (fun t ht hW => ⟨_, rfl, rfl, ht⟩) (fun _ h => by cases h) dX8_leastOf_19
/-- RimGrainsModel.private static int mostOf(int); -/
def fX8_mostOf (a0 : Int32) : Option (Int32) :=
  (if a0 = 1 then some 200 else (if a0 = 3 then some 3 else some 4))
abbrev rmX8_mostOf : Room := { frames := 0, cells := 0, slots := 0, locals := 0 }
set_option maxHeartbeats 4000000 in
set_option maxRecDepth 100000 in
theorem mX8_mostOf (l : Launch) (dC : Nat → ClassId) (dI : Nat → Nat → Nat) (cI cZ cC cO : ClassId) (a0 : Int32) (out : Int32) (hf : fX8_mostOf a0 = some out) : Met l yX8_mostOf wsX8_mostOf rmX8_mostOf (va_Pc [.int a0] (pcR (dC, dI) (wTys cI cZ cC cO) ([] : va_W))) (vp_Si (fun r => r = out)) 0 0 (fun _ => False) := by
  refine Met.ofW (cc := cX8_mostOf) (maxL := 1) (ret := (some .int)) (by decide) rfl ?_
  intro p e s m args below meth c s₁ B hml hv
  obtain ⟨hargs, hP, hK, hN⟩ := hv
  have hx := B.exec
  have hb := B.bytes
  have hr := B.returns
  have hts := atoms_spec (ws := wsX8_mostOf) B.pre
  have hown : s.vm.findClass RX8 = some m.cls := findClass_of_methodNamed B.named
  have hlocks := B.notSynchronized
  have hE := lg_entry_eq m [.int a0] 1
  rw [← hargs] at hE
  rw [hE]
  have hl := lv_entry [.int a0] (n := 1) (Nat.le_of_ble_eq_true rfl)
  generalize (lg_sl [.int a0] ++ List.replicate (1 - (lg_sl [.int a0]).length) Slot.unset).toArray = ls at hl ⊢
  have hl : lv_has ls 1 [(0, .int a0)] := hl
  unfold fX8_mostOf at hf
  refine lv_iload_n hx hb dX8_mostOf_0 rfl (lv_at hl 0 rfl) ?_
  refine lv_iconst (v := 1) hx hb dX8_mostOf_1 (by decide) ?_
  refine lv_icmp_ne (tgt := 11) hx hb dX8_mostOf_2 (by decide) (fun hc => ?_) (fun hc => ?_)
  · have hf := oe hc hf
    refine lv_iload_n hx hb dX8_mostOf_11 rfl (lv_at hl 0 rfl) ?_
    refine lv_iconst (v := 3) hx hb dX8_mostOf_12 (by decide) ?_
    refine lv_icmp_ne (tgt := 20) hx hb dX8_mostOf_13 (by decide) (fun hc => ?_) (fun hc => ?_)
    · have hf := oe hc hf
      refine lv_iconst (v := 4) hx hb dX8_mostOf_20 (by decide) ?_
      obtain rfl := Option.some.inj hf
      exact W.iret (v := 4) hx hb hr (fun t ht hW => ⟨_, rfl, rfl, ht⟩) (fun _ h => by cases h) dX8_mostOf_21
    · have hf := ot hc hf
      refine lv_iconst (v := 3) hx hb dX8_mostOf_16 (by decide) ?_
      refine lv_goto (tgt := 21) hx hb dX8_mostOf_17 (by decide) ?_
      obtain rfl := Option.some.inj hf
      exact W.iret (v := 3) hx hb hr (fun t ht hW => ⟨_, rfl, rfl, ht⟩) (fun _ h => by cases h) dX8_mostOf_21
  · have hf := ot hc hf
    refine lv_sipush (v := 200) hx hb dX8_mostOf_5 (by decide) ?_
    refine lv_goto (tgt := 21) hx hb dX8_mostOf_8 (by decide) ?_
    obtain rfl := Option.some.inj hf
    exact W.iret (v := 200) hx hb hr (fun t ht hW => ⟨_, rfl, rfl, ht⟩) (fun _ h => by cases h) dX8_mostOf_21
/-- RimGrainsModel.public int set(int, int); -/
def fX8_set (a1 : Int32) (a2 : Int32) (g0 : GX8) : Option (Int32 × GX8) :=
  ((fX8_in a1 0 3).bind fun o3 => (if o3 = 0 then some ((-1), g0) else ((fX8_leastOf a1).bind fun o11 => ((fX8_mostOf a1).bind fun o15 => ((fX8_in a2 o11 o15).bind fun o18 => (if o18 = 0 then some ((-1), g0) else ((fX8_records g0).bind fun o27 => (if (2 + a1) < 0 ∨ 373 ≤ (2 + a1).toNatClampNeg then none else (if (2 + a1) < 0 ∨ 373 ≤ (2 + a1).toNatClampNeg then none else some (((pX8_s o27) (2 + a1).toNatClampNeg), ((upd (pX8_s o27) (2 + a1).toNatClampNeg a2), (pX8_aside o27), (pX8_past o27), (pX8_known o27), (pX8_kept o27), (pX8_isKept o27), (pX8_pad o27), (pX8_length o27), (pX8_whyError o27), (pX8_whyNumber o27), (pX8_whySpot o27), (pX8_lots o27), (pX8_walker o27), (pX8_steps o27), (pX8_goes o27), (pX8_becomes o27), (pX8_spot o27), (pX8_isForm o27), (pX8_letter o27), (pX8_told o27), (pX8_highest o27))))))))))))
abbrev rmX8_set : Room := { frames := 2, cells := 0, slots := 0, locals := 45 }
set_option maxHeartbeats 4000000 in
set_option maxRecDepth 100000 in
theorem mX8_set (l : Launch) (dC : Nat → ClassId) (dI : Nat → Nat → Nat) (cI cZ cC cO : ClassId) (q0 : Nat → Nat) (a1 : Int32) (a2 : Int32) (g0 : GX8) (sz : Nat) (out : Int32 × GX8) (hf : fX8_set a1 a2 g0 = some out) : Met l yX8_set wsX8_set rmX8_set (va_Pc [.ref (q0 0), .int a1, .int a2] (pcW (dC, dI) (wTys cI cZ cC cO) sz (wX8 cI cZ cC q0 g0))) (va_Qi (fun r (_ : Unit) => r = out.1) (fun _ => poW (dC, dI) (va_A (wX8 cI cZ cC q0 g0) sz) (wX8 cI cZ cC q0 out.2)) (va_A (wX8 cI cZ cC q0 g0) sz)) 0 0 (va_A (wX8 cI cZ cC q0 g0) sz) := by
  refine Met.ofW (cc := cX8_set) (maxL := 4) (ret := (some .int)) (by decide) rfl ?_
  intro p e s m args below meth c s₁ B hml hv
  obtain ⟨hargs, hsz, hP, hK, hN, hD0⟩ := hv
  have hx := B.exec
  have hb := B.bytes
  have hr := B.returns
  have hts := atoms_spec (ws := wsX8_set) B.pre
  have hown : s.vm.findClass RX8 = some m.cls := findClass_of_methodNamed B.named
  have hlocks := B.notSynchronized
  have hk0 := hts (.fieldLink RX8 7 "RimGrainsModel" "s" "[I") (by decide +kernel)
  have hin8 : ∀ w ∈ wsX80, w ∈ wsX8_set := by decide +kernel
  subst hsz
  have hD := hD0.self (sz := s.heap.size)
  generalize hAe : va_A (wX8 cI cZ cC q0 g0) s.heap.size = A at hD ⊢
  have hA : ∀ q : Nat, s.heap.size ≤ q → A q := fun q h => by rw [← hAe]; exact Or.inr h
  have hS : va_S A s.heap s.heap [] := va_S.rf
  have hE := lg_entry_eq m [.ref (q0 0), .int a1, .int a2] 4
  rw [← hargs] at hE
  rw [hE]
  have hl := lv_entry [.ref (q0 0), .int a1, .int a2] (n := 4) (Nat.le_of_ble_eq_true rfl)
  generalize (lg_sl [.ref (q0 0), .int a1, .int a2] ++ List.replicate (4 - (lg_sl [.ref (q0 0), .int a1, .int a2]).length) Slot.unset).toArray = ls at hl ⊢
  have hl : lv_has ls 4 [(0, .ref (q0 0)), (1, .int a1), (2, .int a2)] := hl
  have hP : va_P (dC, dI) vwCl (wX8 cI cZ cC q0 g0) s.heap := hP
  unfold fX8_set at hf
  refine lv_iload_n hx hb dX8_set_0 rfl (lv_at hl 1 rfl) ?_
  refine lv_iconst (v := 0) hx hb dX8_set_1 (by decide) ?_
  refine lv_iconst (v := 3) hx hb dX8_set_2 (by decide) ?_
  obtain ⟨o3, ho3, hf⟩ := ob hf
  refine rS (rest := []) (As := [.int a1, .int 0, .int 3]) ⟨hx, hb, hml, hown, hts⟩ (mX8_in l dC dI cI cZ cC cO  _ _ _ _ ho3) (va_cwS 3 hts gX8_set_X8_in rfl rfl rfl (by decide +kernel) ⟨Nat.le_of_ble_eq_true rfl, Nat.le_of_ble_eq_true rfl⟩) hK hN hP [] rfl rfl hl.1 rfl (Nat.le_of_ble_eq_true rfl) dX8_set_3 ⟨Nat.zero_le _, Nat.zero_le _⟩ ?_
  refine lv_if_eq (tgt := 24) hx hb dX8_set_6 (by decide) (fun hc => ?_) (fun hc => ?_)
  · have hf := ot hc hf
    refine lv_iconst (v := (-1)) hx hb dX8_set_24 (by decide) ?_
    obtain rfl := Option.some.inj hf
    exact W.iret (v := (-1)) hx hb hr (fun t ht hW => ⟨⟨_, (), rfl, rfl, by rw [ht]; exact hP, hD⟩, hS.F ht⟩) hS.2.2 dX8_set_25
  · have hf := oe hc hf
    refine lv_iload_n hx hb dX8_set_9 rfl (lv_at hl 2 rfl) ?_
    refine lv_iload_n hx hb dX8_set_10 rfl (lv_at hl 1 rfl) ?_
    obtain ⟨o11, ho11, hf⟩ := ob hf
    refine rS (rest := [.int a2]) (As := [.int a1]) ⟨hx, hb, hml, hown, hts⟩ (mX8_leastOf l dC dI cI cZ cC cO  _ _ ho11) (va_cwS 1 hts gX8_set_X8_leastOf rfl rfl rfl (by decide +kernel) ⟨Nat.le_of_ble_eq_true rfl, Nat.le_of_ble_eq_true rfl⟩) hK hN hP [] rfl rfl hl.1 rfl (Nat.le_of_ble_eq_true rfl) dX8_set_11 ⟨Nat.zero_le _, Nat.zero_le _⟩ ?_
    refine lv_iload_n hx hb dX8_set_14 rfl (lv_at hl 1 rfl) ?_
    obtain ⟨o15, ho15, hf⟩ := ob hf
    refine rS (rest := [.int o11, .int a2]) (As := [.int a1]) ⟨hx, hb, hml, hown, hts⟩ (mX8_mostOf l dC dI cI cZ cC cO  _ _ ho15) (va_cwS 1 hts gX8_set_X8_mostOf rfl rfl rfl (by decide +kernel) ⟨Nat.le_of_ble_eq_true rfl, Nat.le_of_ble_eq_true rfl⟩) hK hN hP [] rfl rfl hl.1 rfl (Nat.le_of_ble_eq_true rfl) dX8_set_15 ⟨Nat.zero_le _, Nat.zero_le _⟩ ?_
    obtain ⟨o18, ho18, hf⟩ := ob hf
    refine rS (rest := []) (As := [.int a2, .int o11, .int o15]) ⟨hx, hb, hml, hown, hts⟩ (mX8_in l dC dI cI cZ cC cO  _ _ _ _ ho18) (va_cwS 3 hts gX8_set_X8_in rfl rfl rfl (by decide +kernel) ⟨Nat.le_of_ble_eq_true rfl, Nat.le_of_ble_eq_true rfl⟩) hK hN hP [] rfl rfl hl.1 rfl (Nat.le_of_ble_eq_true rfl) dX8_set_18 ⟨Nat.zero_le _, Nat.zero_le _⟩ ?_
    refine lv_if_ne (tgt := 26) hx hb dX8_set_21 (by decide) (fun hc => ?_) (fun hc => ?_)
    · have hf := oe hc hf
      refine lv_aload_n hx hb dX8_set_26 rfl (lv_at hl 0 rfl) ?_
      obtain ⟨o27, ho27, hf⟩ := ob hf
      refine wVv (W1 := (fun _ : Unit => (wX8 cI cZ cC q0 o27))) (rest := []) (As := []) ⟨hx, hb, hml, hown, hts⟩ (mX8_records l dC dI cI cZ cC cO q0 _ _ _ ho27) (cwV 0 hts gX8_set_X8_records rfl rfl rfl (by decide +kernel) ⟨Nat.le_of_ble_eq_true rfl, Nat.le_of_ble_eq_true rfl⟩) hK hN hP hD hS hA [0, 1, 2, 3, 4, 5, 6, 7, 8] [] [0, 1, 2, 3, 4, 5, 6, 7, 8] rfl rfl (by decide) (by decide) (fun _ => rfl) 7 rfl rfl rfl rfl hl.1 rfl (Nat.le_of_ble_eq_true rfl) dX8_set_27 ⟨Nat.zero_le _, Nat.zero_le _⟩ (fun _ H locs hP hD hS => ?_)
      have hP : va_P (dC, dI) vwCl (wX8 cI cZ cC q0 o27) H := hP
      have hD : va_D A (wX8 cI cZ cC q0 o27) := hD
      refine lv_aload_n hx hb dX8_set_30 rfl (lv_at hl 0 rfl) ?_
      refine va_get (D := (dC, dI)) (ci := 7) (v := .ref (q0 1)) (C := RX8) (T := TX8) (N := 21) hx hb hts hin8 hown hK hP 0 rfl rfl 0 (by decide) hk0 (fun _ h9 => h9) rfl dX8_set_31 ?_
      refine lv_iconst (v := 2) hx hb dX8_set_34 (by decide) ?_
      refine lv_iload_n hx hb dX8_set_35 rfl (lv_at hl 1 rfl) ?_
      refine lv_iadd hx hb dX8_set_36 ?_
      obtain ⟨hin, hf⟩ := og hf
      refine va_iald hx hb hK hP 1 0 rfl rfl hin dX8_set_37 ?_
      refine lv_istore_n (lv' := [(3, .int ((pX8_s o27) (2 + a1).toNatClampNeg)), (0, .ref (q0 0)), (1, .int a1), (2, .int a2)]) hx hb dX8_set_38 rfl hl (by decide) rfl (fun ls hl => ?_)
      refine lv_aload_n hx hb dX8_set_39 rfl (lv_at hl 1 rfl) ?_
      refine va_get (D := (dC, dI)) (ci := 7) (v := .ref (q0 1)) (C := RX8) (T := TX8) (N := 21) hx hb hts hin8 hown hK hP 0 rfl rfl 0 (by decide) hk0 (fun _ h9 => h9) rfl dX8_set_40 ?_
      refine lv_iconst (v := 2) hx hb dX8_set_43 (by decide) ?_
      refine lv_iload_n hx hb dX8_set_44 rfl (lv_at hl 2 rfl) ?_
      refine lv_iadd hx hb dX8_set_45 ?_
      refine lv_iload_n hx hb dX8_set_46 rfl (lv_at hl 3 rfl) ?_
      obtain ⟨hin, hf⟩ := og hf
      refine va_iast hx hb hK hP hD hS 1 0 rfl rfl hin dX8_set_47 (fun H locs hP hD hS => ?_)
      have hP : va_P (dC, dI) vwCl (wX8 cI cZ cC q0 ((upd (pX8_s o27) (2 + a1).toNatClampNeg a2), (pX8_aside o27), (pX8_past o27), (pX8_known o27), (pX8_kept o27), (pX8_isKept o27), (pX8_pad o27), (pX8_length o27), (pX8_whyError o27), (pX8_whyNumber o27), (pX8_whySpot o27), (pX8_lots o27), (pX8_walker o27), (pX8_steps o27), (pX8_goes o27), (pX8_becomes o27), (pX8_spot o27), (pX8_isForm o27), (pX8_letter o27), (pX8_told o27), (pX8_highest o27))) H := hP
      have hD : va_D A (wX8 cI cZ cC q0 ((upd (pX8_s o27) (2 + a1).toNatClampNeg a2), (pX8_aside o27), (pX8_past o27), (pX8_known o27), (pX8_kept o27), (pX8_isKept o27), (pX8_pad o27), (pX8_length o27), (pX8_whyError o27), (pX8_whyNumber o27), (pX8_whySpot o27), (pX8_lots o27), (pX8_walker o27), (pX8_steps o27), (pX8_goes o27), (pX8_becomes o27), (pX8_spot o27), (pX8_isForm o27), (pX8_letter o27), (pX8_told o27), (pX8_highest o27))) := hD
      refine lv_iload_n hx hb dX8_set_48 rfl (lv_at hl 0 rfl) ?_
      obtain rfl := Option.some.inj hf
      exact W.iret (v := ((pX8_s o27) (2 + a1).toNatClampNeg)) hx hb hr (fun t ht hW => ⟨⟨_, (), rfl, rfl, by rw [ht]; exact hP, hD⟩, hS.F ht⟩) hS.2.2 dX8_set_49
    · have hf := ot hc hf
      refine lv_iconst (v := (-1)) hx hb dX8_set_24 (by decide) ?_
      obtain rfl := Option.some.inj hf
      exact W.iret (v := (-1)) hx hb hr (fun t ht hW => ⟨⟨_, (), rfl, rfl, by rw [ht]; exact hP, hD⟩, hS.F ht⟩) hS.2.2 dX8_set_25
/-- RimGrainsModel.public int append(int); -/
def fX8_append (a1 : Int32) (g0 : GX8) : Option (Int32 × GX8) :=
  ((fX8_in a1 33 126).bind fun o5 => (if o5 = 0 then some ((-1), g0) else (if (pX8_length g0) = 60 then some ((-3), g0) else (if (pX8_length g0) < 0 ∨ 60 ≤ (pX8_length g0).toNatClampNeg then none else some (((pX8_length g0) + 1), ((pX8_s g0), (pX8_aside g0), (pX8_past g0), (pX8_known g0), (pX8_kept g0), (pX8_isKept g0), (upd (pX8_pad g0) (pX8_length g0).toNatClampNeg a1), ((pX8_length g0) + 1), (pX8_whyError g0), (pX8_whyNumber g0), (pX8_whySpot g0), (pX8_lots g0), (pX8_walker g0), (pX8_steps g0), (pX8_goes g0), (pX8_becomes g0), (pX8_spot g0), (pX8_isForm g0), (pX8_letter g0), (pX8_told g0), (pX8_highest g0)))))))
abbrev rmX8_append : Room := { frames := 1, cells := 0, slots := 0, locals := 22 }
set_option maxHeartbeats 4000000 in
set_option maxRecDepth 100000 in
theorem mX8_append (l : Launch) (dC : Nat → ClassId) (dI : Nat → Nat → Nat) (cI cZ cC cO : ClassId) (q0 : Nat → Nat) (a1 : Int32) (g0 : GX8) (sz : Nat) (out : Int32 × GX8) (hf : fX8_append a1 g0 = some out) : Met l yX8_append wsX8_append rmX8_append (va_Pc [.ref (q0 0), .int a1] (pcW (dC, dI) (wTys cI cZ cC cO) sz (wX8 cI cZ cC q0 g0))) (va_Qi (fun r (_ : Unit) => r = out.1) (fun _ => poW (dC, dI) (va_A (wX8 cI cZ cC q0 g0) sz) (wX8 cI cZ cC q0 out.2)) (va_A (wX8 cI cZ cC q0 g0) sz)) 0 0 (va_A (wX8 cI cZ cC q0 g0) sz) := by
  refine Met.ofW (cc := cX8_append) (maxL := 2) (ret := (some .int)) (by decide) rfl ?_
  intro p e s m args below meth c s₁ B hml hv
  obtain ⟨hargs, hsz, hP, hK, hN, hD0⟩ := hv
  have hx := B.exec
  have hb := B.bytes
  have hr := B.returns
  have hts := atoms_spec (ws := wsX8_append) B.pre
  have hown : s.vm.findClass RX8 = some m.cls := findClass_of_methodNamed B.named
  have hlocks := B.notSynchronized
  have hk0 := hts (.fieldLink RX8 144 "RimGrainsModel" "length" "I") (by decide +kernel)
  have hk1 := hts (.fieldLink RX8 22 "RimGrainsModel" "pad" "[I") (by decide +kernel)
  have hin8 : ∀ w ∈ wsX80, w ∈ wsX8_append := by decide +kernel
  subst hsz
  have hD := hD0.self (sz := s.heap.size)
  generalize hAe : va_A (wX8 cI cZ cC q0 g0) s.heap.size = A at hD ⊢
  have hA : ∀ q : Nat, s.heap.size ≤ q → A q := fun q h => by rw [← hAe]; exact Or.inr h
  have hS : va_S A s.heap s.heap [] := va_S.rf
  have hE := lg_entry_eq m [.ref (q0 0), .int a1] 2
  rw [← hargs] at hE
  rw [hE]
  have hl := lv_entry [.ref (q0 0), .int a1] (n := 2) (Nat.le_of_ble_eq_true rfl)
  generalize (lg_sl [.ref (q0 0), .int a1] ++ List.replicate (2 - (lg_sl [.ref (q0 0), .int a1]).length) Slot.unset).toArray = ls at hl ⊢
  have hl : lv_has ls 2 [(0, .ref (q0 0)), (1, .int a1)] := hl
  have hP : va_P (dC, dI) vwCl (wX8 cI cZ cC q0 g0) s.heap := hP
  unfold fX8_append at hf
  refine lv_iload_n hx hb dX8_append_0 rfl (lv_at hl 1 rfl) ?_
  refine lv_bipush (v := 33) hx hb dX8_append_1 (by decide) ?_
  refine lv_bipush (v := 126) hx hb dX8_append_3 (by decide) ?_
  obtain ⟨o5, ho5, hf⟩ := ob hf
  refine rS (rest := []) (As := [.int a1, .int 33, .int 126]) ⟨hx, hb, hml, hown, hts⟩ (mX8_in l dC dI cI cZ cC cO  _ _ _ _ ho5) (va_cwS 3 hts gX8_append_X8_in rfl rfl rfl (by decide +kernel) ⟨Nat.le_of_ble_eq_true rfl, Nat.le_of_ble_eq_true rfl⟩) hK hN hP [] rfl rfl hl.1 rfl (Nat.le_of_ble_eq_true rfl) dX8_append_5 ⟨Nat.zero_le _, Nat.zero_le _⟩ ?_
  refine lv_if_ne (tgt := 13) hx hb dX8_append_8 (by decide) (fun hc => ?_) (fun hc => ?_)
  · have hf := oe hc hf
    refine lv_aload_n hx hb dX8_append_13 rfl (lv_at hl 0 rfl) ?_
    refine va_get (D := (dC, dI)) (ci := 7) (v := .int (pX8_length g0)) (C := RX8) (T := TX8) (N := 21) hx hb hts hin8 hown hK hP 0 rfl rfl 7 (by decide) hk0 (fun _ h9 => h9) rfl dX8_append_14 ?_
    refine lv_bipush (v := 60) hx hb dX8_append_17 (by decide) ?_
    refine lv_icmp_ne (tgt := 25) hx hb dX8_append_19 (by decide) (fun hc => ?_) (fun hc => ?_)
    · have hf := oe hc hf
      refine lv_aload_n hx hb dX8_append_25 rfl (lv_at hl 0 rfl) ?_
      refine va_get (D := (dC, dI)) (ci := 7) (v := .ref (q0 5)) (C := RX8) (T := TX8) (N := 21) hx hb hts hin8 hown hK hP 0 rfl rfl 6 (by decide) hk1 (fun _ h9 => h9) rfl dX8_append_26 ?_
      refine lv_aload_n hx hb dX8_append_29 rfl (lv_at hl 0 rfl) ?_
      refine va_get (D := (dC, dI)) (ci := 7) (v := .int (pX8_length g0)) (C := RX8) (T := TX8) (N := 21) hx hb hts hin8 hown hK hP 0 rfl rfl 7 (by decide) hk0 (fun _ h9 => h9) rfl dX8_append_30 ?_
      refine lv_iload_n hx hb dX8_append_33 rfl (lv_at hl 1 rfl) ?_
      obtain ⟨hin, hf⟩ := og hf
      refine va_iast hx hb hK hP hD hS 5 0 rfl rfl hin dX8_append_34 (fun H locs hP hD hS => ?_)
      have hP : va_P (dC, dI) vwCl (wX8 cI cZ cC q0 ((pX8_s g0), (pX8_aside g0), (pX8_past g0), (pX8_known g0), (pX8_kept g0), (pX8_isKept g0), (upd (pX8_pad g0) (pX8_length g0).toNatClampNeg a1), (pX8_length g0), (pX8_whyError g0), (pX8_whyNumber g0), (pX8_whySpot g0), (pX8_lots g0), (pX8_walker g0), (pX8_steps g0), (pX8_goes g0), (pX8_becomes g0), (pX8_spot g0), (pX8_isForm g0), (pX8_letter g0), (pX8_told g0), (pX8_highest g0))) H := hP
      have hD : va_D A (wX8 cI cZ cC q0 ((pX8_s g0), (pX8_aside g0), (pX8_past g0), (pX8_known g0), (pX8_kept g0), (pX8_isKept g0), (upd (pX8_pad g0) (pX8_length g0).toNatClampNeg a1), (pX8_length g0), (pX8_whyError g0), (pX8_whyNumber g0), (pX8_whySpot g0), (pX8_lots g0), (pX8_walker g0), (pX8_steps g0), (pX8_goes g0), (pX8_becomes g0), (pX8_spot g0), (pX8_isForm g0), (pX8_letter g0), (pX8_told g0), (pX8_highest g0))) := hD
      refine lv_aload_n hx hb dX8_append_35 rfl (lv_at hl 0 rfl) ?_
      refine lv_dup hx hb dX8_append_36 rfl ?_
      refine va_get (D := (dC, dI)) (ci := 7) (v := .int (pX8_length g0)) (C := RX8) (T := TX8) (N := 21) hx hb hts hin8 hown hK hP 0 rfl rfl 7 (by decide) hk0 (fun _ h9 => h9) rfl dX8_append_37 ?_
      refine lv_iconst (v := 1) hx hb dX8_append_40 (by decide) ?_
      refine lv_iadd hx hb dX8_append_41 ?_
      refine va_put (D := (dC, dI)) (ci := 7) (v := .int ((pX8_length g0) + 1)) (ty := .int) (C := RX8) (T := TX8) (N := 21) hx hb hts hin8 tyX8 tyX8_ok nmX8 hown hK hP hD hS 0 rfl rfl 7 (by decide) hk0 (fun _ h9 => h9) rfl (by decide +kernel) rfl rfl (Nat.le_of_ble_eq_true rfl) dX8_append_42 (fun H locs hP hD hS => ?_)
      have hP : va_P (dC, dI) vwCl (wX8 cI cZ cC q0 ((pX8_s g0), (pX8_aside g0), (pX8_past g0), (pX8_known g0), (pX8_kept g0), (pX8_isKept g0), (upd (pX8_pad g0) (pX8_length g0).toNatClampNeg a1), ((pX8_length g0) + 1), (pX8_whyError g0), (pX8_whyNumber g0), (pX8_whySpot g0), (pX8_lots g0), (pX8_walker g0), (pX8_steps g0), (pX8_goes g0), (pX8_becomes g0), (pX8_spot g0), (pX8_isForm g0), (pX8_letter g0), (pX8_told g0), (pX8_highest g0))) H := hP
      have hD : va_D A (wX8 cI cZ cC q0 ((pX8_s g0), (pX8_aside g0), (pX8_past g0), (pX8_known g0), (pX8_kept g0), (pX8_isKept g0), (upd (pX8_pad g0) (pX8_length g0).toNatClampNeg a1), ((pX8_length g0) + 1), (pX8_whyError g0), (pX8_whyNumber g0), (pX8_whySpot g0), (pX8_lots g0), (pX8_walker g0), (pX8_steps g0), (pX8_goes g0), (pX8_becomes g0), (pX8_spot g0), (pX8_isForm g0), (pX8_letter g0), (pX8_told g0), (pX8_highest g0))) := hD
      refine lv_aload_n hx hb dX8_append_45 rfl (lv_at hl 0 rfl) ?_
      refine va_get (D := (dC, dI)) (ci := 7) (v := .int ((pX8_length g0) + 1)) (C := RX8) (T := TX8) (N := 21) hx hb hts hin8 hown hK hP 0 rfl rfl 7 (by decide) hk0 (fun _ h9 => h9) rfl dX8_append_46 ?_
      obtain rfl := Option.some.inj hf
      exact W.iret (v := ((pX8_length g0) + 1)) hx hb hr (fun t ht hW => ⟨⟨_, (), rfl, rfl, by rw [ht]; exact hP, hD⟩, hS.F ht⟩) hS.2.2 dX8_append_49
    · have hf := ot hc hf
      refine lv_bipush (v := (-3)) hx hb dX8_append_22 (by decide) ?_
      obtain rfl := Option.some.inj hf
      exact W.iret (v := (-3)) hx hb hr (fun t ht hW => ⟨⟨_, (), rfl, rfl, by rw [ht]; exact hP, hD⟩, hS.F ht⟩) hS.2.2 dX8_append_24
  · have hf := ot hc hf
    refine lv_iconst (v := (-1)) hx hb dX8_append_11 (by decide) ?_
    obtain rfl := Option.some.inj hf
    exact W.iret (v := (-1)) hx hb hr (fun t ht hW => ⟨⟨_, (), rfl, rfl, by rw [ht]; exact hP, hD⟩, hS.F ht⟩) hS.2.2 dX8_append_12
/-- RimGrainsModel.public int clear(); -/
def fX8_clear (g0 : GX8) : Option (Int32 × GX8) :=
  some ((pX8_length g0), ((pX8_s g0), (pX8_aside g0), (pX8_past g0), (pX8_known g0), (pX8_kept g0), (pX8_isKept g0), (pX8_pad g0), 0, (pX8_whyError g0), (pX8_whyNumber g0), (pX8_whySpot g0), (pX8_lots g0), (pX8_walker g0), (pX8_steps g0), (pX8_goes g0), (pX8_becomes g0), (pX8_spot g0), (pX8_isForm g0), (pX8_letter g0), (pX8_told g0), (pX8_highest g0)))
abbrev rmX8_clear : Room := { frames := 0, cells := 0, slots := 0, locals := 0 }
set_option maxHeartbeats 4000000 in
set_option maxRecDepth 100000 in
theorem mX8_clear (l : Launch) (dC : Nat → ClassId) (dI : Nat → Nat → Nat) (cI cZ cC cO : ClassId) (q0 : Nat → Nat) (g0 : GX8) (sz : Nat) (out : Int32 × GX8) (hf : fX8_clear g0 = some out) : Met l yX8_clear wsX8_clear rmX8_clear (va_Pc [.ref (q0 0)] (pcW (dC, dI) (wTys cI cZ cC cO) sz (wX8 cI cZ cC q0 g0))) (va_Qi (fun r (_ : Unit) => r = out.1) (fun _ => poW (dC, dI) (va_A (wX8 cI cZ cC q0 g0) sz) (wX8 cI cZ cC q0 out.2)) (va_A (wX8 cI cZ cC q0 g0) sz)) 0 0 (va_A (wX8 cI cZ cC q0 g0) sz) := by
  refine Met.ofW (cc := cX8_clear) (maxL := 2) (ret := (some .int)) (by decide) rfl ?_
  intro p e s m args below meth c s₁ B hml hv
  obtain ⟨hargs, hsz, hP, hK, hN, hD0⟩ := hv
  have hx := B.exec
  have hb := B.bytes
  have hr := B.returns
  have hts := atoms_spec (ws := wsX8_clear) B.pre
  have hown : s.vm.findClass RX8 = some m.cls := findClass_of_methodNamed B.named
  have hlocks := B.notSynchronized
  have hk0 := hts (.fieldLink RX8 144 "RimGrainsModel" "length" "I") (by decide +kernel)
  have hin8 : ∀ w ∈ wsX80, w ∈ wsX8_clear := by decide +kernel
  subst hsz
  have hD := hD0.self (sz := s.heap.size)
  generalize hAe : va_A (wX8 cI cZ cC q0 g0) s.heap.size = A at hD ⊢
  have hA : ∀ q : Nat, s.heap.size ≤ q → A q := fun q h => by rw [← hAe]; exact Or.inr h
  have hS : va_S A s.heap s.heap [] := va_S.rf
  have hE := lg_entry_eq m [.ref (q0 0)] 2
  rw [← hargs] at hE
  rw [hE]
  have hl := lv_entry [.ref (q0 0)] (n := 2) (Nat.le_of_ble_eq_true rfl)
  generalize (lg_sl [.ref (q0 0)] ++ List.replicate (2 - (lg_sl [.ref (q0 0)]).length) Slot.unset).toArray = ls at hl ⊢
  have hl : lv_has ls 2 [(0, .ref (q0 0))] := hl
  have hP : va_P (dC, dI) vwCl (wX8 cI cZ cC q0 g0) s.heap := hP
  unfold fX8_clear at hf
  refine lv_aload_n hx hb dX8_clear_0 rfl (lv_at hl 0 rfl) ?_
  refine va_get (D := (dC, dI)) (ci := 7) (v := .int (pX8_length g0)) (C := RX8) (T := TX8) (N := 21) hx hb hts hin8 hown hK hP 0 rfl rfl 7 (by decide) hk0 (fun _ h9 => h9) rfl dX8_clear_1 ?_
  refine lv_istore_n (lv' := [(1, .int (pX8_length g0)), (0, .ref (q0 0))]) hx hb dX8_clear_4 rfl hl (by decide) rfl (fun ls hl => ?_)
  refine lv_aload_n hx hb dX8_clear_5 rfl (lv_at hl 1 rfl) ?_
  refine lv_iconst (v := 0) hx hb dX8_clear_6 (by decide) ?_
  refine va_put (D := (dC, dI)) (ci := 7) (v := .int 0) (ty := .int) (C := RX8) (T := TX8) (N := 21) hx hb hts hin8 tyX8 tyX8_ok nmX8 hown hK hP hD hS 0 rfl rfl 7 (by decide) hk0 (fun _ h9 => h9) rfl (by decide +kernel) rfl rfl (Nat.le_of_ble_eq_true rfl) dX8_clear_7 (fun H locs hP hD hS => ?_)
  have hP : va_P (dC, dI) vwCl (wX8 cI cZ cC q0 ((pX8_s g0), (pX8_aside g0), (pX8_past g0), (pX8_known g0), (pX8_kept g0), (pX8_isKept g0), (pX8_pad g0), 0, (pX8_whyError g0), (pX8_whyNumber g0), (pX8_whySpot g0), (pX8_lots g0), (pX8_walker g0), (pX8_steps g0), (pX8_goes g0), (pX8_becomes g0), (pX8_spot g0), (pX8_isForm g0), (pX8_letter g0), (pX8_told g0), (pX8_highest g0))) H := hP
  have hD : va_D A (wX8 cI cZ cC q0 ((pX8_s g0), (pX8_aside g0), (pX8_past g0), (pX8_known g0), (pX8_kept g0), (pX8_isKept g0), (pX8_pad g0), 0, (pX8_whyError g0), (pX8_whyNumber g0), (pX8_whySpot g0), (pX8_lots g0), (pX8_walker g0), (pX8_steps g0), (pX8_goes g0), (pX8_becomes g0), (pX8_spot g0), (pX8_isForm g0), (pX8_letter g0), (pX8_told g0), (pX8_highest g0))) := hD
  refine lv_iload_n hx hb dX8_clear_10 rfl (lv_at hl 0 rfl) ?_
  obtain rfl := Option.some.inj hf
  exact W.iret (v := (pX8_length g0)) hx hb hr (fun t ht hW => ⟨⟨_, (), rfl, rfl, by rw [ht]; exact hP, hD⟩, hS.F ht⟩) hS.2.2 dX8_clear_11
/-- RimGrainsModel.private int here(); -/
def fX8_here (g0 : GX8) : Option (Int32) :=
  (if (pX8_length g0) ≤ (pX8_spot g0) then some 0 else (if (pX8_spot g0) < 0 ∨ 60 ≤ (pX8_spot g0).toNatClampNeg then none else some ((pX8_pad g0) (pX8_spot g0).toNatClampNeg)))
abbrev rmX8_here : Room := { frames := 0, cells := 0, slots := 0, locals := 0 }
set_option maxHeartbeats 4000000 in
set_option maxRecDepth 100000 in
theorem mX8_here (l : Launch) (dC : Nat → ClassId) (dI : Nat → Nat → Nat) (cI cZ cC cO : ClassId) (q0 : Nat → Nat) (g0 : GX8) (out : Int32) (hf : fX8_here g0 = some out) : Met l yX8_here wsX8_here rmX8_here (va_Pc [.ref (q0 0)] (pcR (dC, dI) (wTys cI cZ cC cO) (wX8 cI cZ cC q0 g0))) (vp_Si (fun r => r = out)) 0 0 (fun _ => False) := by
  refine Met.ofW (cc := cX8_here) (maxL := 1) (ret := (some .int)) (by decide) rfl ?_
  intro p e s m args below meth c s₁ B hml hv
  obtain ⟨hargs, hP, hK, hN⟩ := hv
  have hx := B.exec
  have hb := B.bytes
  have hr := B.returns
  have hts := atoms_spec (ws := wsX8_here) B.pre
  have hown : s.vm.findClass RX8 = some m.cls := findClass_of_methodNamed B.named
  have hlocks := B.notSynchronized
  have hk0 := hts (.fieldLink RX8 147 "RimGrainsModel" "spot" "I") (by decide +kernel)
  have hk1 := hts (.fieldLink RX8 144 "RimGrainsModel" "length" "I") (by decide +kernel)
  have hk2 := hts (.fieldLink RX8 22 "RimGrainsModel" "pad" "[I") (by decide +kernel)
  have hin8 : ∀ w ∈ wsX80, w ∈ wsX8_here := by decide +kernel
  have hE := lg_entry_eq m [.ref (q0 0)] 1
  rw [← hargs] at hE
  rw [hE]
  have hl := lv_entry [.ref (q0 0)] (n := 1) (Nat.le_of_ble_eq_true rfl)
  generalize (lg_sl [.ref (q0 0)] ++ List.replicate (1 - (lg_sl [.ref (q0 0)]).length) Slot.unset).toArray = ls at hl ⊢
  have hl : lv_has ls 1 [(0, .ref (q0 0))] := hl
  unfold fX8_here at hf
  refine lv_aload_n hx hb dX8_here_0 rfl (lv_at hl 0 rfl) ?_
  refine va_get (D := (dC, dI)) (ci := 7) (v := .int (pX8_spot g0)) (C := RX8) (T := TX8) (N := 21) hx hb hts hin8 hown hK hP 0 rfl rfl 16 (by decide) hk0 (fun _ h9 => h9) rfl dX8_here_1 ?_
  refine lv_aload_n hx hb dX8_here_4 rfl (lv_at hl 0 rfl) ?_
  refine va_get (D := (dC, dI)) (ci := 7) (v := .int (pX8_length g0)) (C := RX8) (T := TX8) (N := 21) hx hb hts hin8 hown hK hP 0 rfl rfl 7 (by decide) hk1 (fun _ h9 => h9) rfl dX8_here_5 ?_
  refine lv_icmp_ge (tgt := 23) hx hb dX8_here_8 (by decide) (fun hc => ?_) (fun hc => ?_)
  · have hf := ot hc hf
    refine lv_iconst (v := 0) hx hb dX8_here_23 (by decide) ?_
    obtain rfl := Option.some.inj hf
    exact W.iret (v := 0) hx hb hr (fun t ht hW => ⟨_, rfl, rfl, ht⟩) (fun _ h => by cases h) dX8_here_24
  · have hf := oe hc hf
    refine lv_aload_n hx hb dX8_here_11 rfl (lv_at hl 0 rfl) ?_
    refine va_get (D := (dC, dI)) (ci := 7) (v := .ref (q0 5)) (C := RX8) (T := TX8) (N := 21) hx hb hts hin8 hown hK hP 0 rfl rfl 6 (by decide) hk2 (fun _ h9 => h9) rfl dX8_here_12 ?_
    refine lv_aload_n hx hb dX8_here_15 rfl (lv_at hl 0 rfl) ?_
    refine va_get (D := (dC, dI)) (ci := 7) (v := .int (pX8_spot g0)) (C := RX8) (T := TX8) (N := 21) hx hb hts hin8 hown hK hP 0 rfl rfl 16 (by decide) hk0 (fun _ h9 => h9) rfl dX8_here_16 ?_
    obtain ⟨hin, hf⟩ := og hf
    refine va_iald hx hb hK hP 5 0 rfl rfl hin dX8_here_19 ?_
    refine lv_goto (tgt := 24) hx hb dX8_here_20 (by decide) ?_
    obtain rfl := Option.some.inj hf
    exact W.iret (v := ((pX8_pad g0) (pX8_spot g0).toNatClampNeg)) hx hb hr (fun t ht hW => ⟨_, rfl, rfl, ht⟩) (fun _ h => by cases h) dX8_here_24
/-- RimGrainsModel.private void takes(boolean); -/
def jX8_takes_2 (g0 : GX8) (y0_1 : Int32) (y0_2 : Int32) : Option (GX8) :=
  some ((pX8_s g0), (pX8_aside g0), (pX8_past g0), (pX8_known g0), (pX8_kept g0), (pX8_isKept g0), (pX8_pad g0), (pX8_length g0), (pX8_whyError g0), (pX8_whyNumber g0), (pX8_whySpot g0), (pX8_lots g0), (pX8_walker g0), (pX8_steps g0), (pX8_goes g0), (pX8_becomes g0), ((pX8_spot g0) + y0_2), y0_1, (pX8_letter g0), (pX8_told g0), (pX8_highest g0))
def jX8_takes_1 (g0 : GX8) (y0_1 : Int32) : Option (GX8) :=
  (jgz y0_1 (if y0_1 = 0 then jX8_takes_2 g0 y0_1 0 else jX8_takes_2 g0 y0_1 1))
def jX8_takes_3 (g0 : GX8) : Option (GX8) :=
  jX8_takes_1 g0 0
def fX8_takes (a1 : Int32) (g0 : GX8) : Option (GX8) :=
  (if (pX8_isForm g0) = 0 then jX8_takes_3 g0 else (if a1 = 0 then jX8_takes_3 g0 else jX8_takes_1 g0 1))
abbrev rmX8_takes : Room := { frames := 0, cells := 0, slots := 0, locals := 0 }
set_option maxHeartbeats 4000000 in
set_option maxRecDepth 100000 in
theorem mX8_takes (l : Launch) (dC : Nat → ClassId) (dI : Nat → Nat → Nat) (cI cZ cC cO : ClassId) (q0 : Nat → Nat) (a1 : Int32) (g0 : GX8) (sz : Nat) (out : GX8) (hf : fX8_takes a1 g0 = some out) : Met l yX8_takes wsX8_takes rmX8_takes (va_Pc [.ref (q0 0), .int a1] (pcW (dC, dI) (wTys cI cZ cC cO) sz (wX8 cI cZ cC q0 g0))) (va_Qv (fun (_ : Unit) => True) (fun _ => poW (dC, dI) (va_A (wX8 cI cZ cC q0 g0) sz) (wX8 cI cZ cC q0 out)) (va_A (wX8 cI cZ cC q0 g0) sz)) 0 0 (va_A (wX8 cI cZ cC q0 g0) sz) := by
  refine Met.ofW (cc := cX8_takes) (maxL := 2) (ret := none) (by decide) rfl ?_
  intro p e s m args below meth c s₁ B hml hv
  obtain ⟨hargs, hsz, hP, hK, hN, hD0⟩ := hv
  have hx := B.exec
  have hb := B.bytes
  have hr := B.returns
  have hts := atoms_spec (ws := wsX8_takes) B.pre
  have hown : s.vm.findClass RX8 = some m.cls := findClass_of_methodNamed B.named
  have hlocks := B.notSynchronized
  have hk0 := hts (.fieldLink RX8 150 "RimGrainsModel" "isForm" "Z") (by decide +kernel)
  have hk1 := hts (.fieldLink RX8 147 "RimGrainsModel" "spot" "I") (by decide +kernel)
  have hin8 : ∀ w ∈ wsX80, w ∈ wsX8_takes := by decide +kernel
  subst hsz
  have hD := hD0.self (sz := s.heap.size)
  generalize hAe : va_A (wX8 cI cZ cC q0 g0) s.heap.size = A at hD ⊢
  have hA : ∀ q : Nat, s.heap.size ≤ q → A q := fun q h => by rw [← hAe]; exact Or.inr h
  have hS : va_S A s.heap s.heap [] := va_S.rf
  have hE := lg_entry_eq m [.ref (q0 0), .int a1] 2
  rw [← hargs] at hE
  rw [hE]
  have hl := lv_entry [.ref (q0 0), .int a1] (n := 2) (Nat.le_of_ble_eq_true rfl)
  generalize (lg_sl [.ref (q0 0), .int a1] ++ List.replicate (2 - (lg_sl [.ref (q0 0), .int a1]).length) Slot.unset).toArray = ls at hl ⊢
  have hl : lv_has ls 2 [(0, .ref (q0 0)), (1, .int a1)] := hl
  have hP : va_P (dC, dI) vwCl (wX8 cI cZ cC q0 g0) s.heap := hP
  unfold fX8_takes at hf
  refine lv_aload_n hx hb dX8_takes_0 rfl (lv_at hl 0 rfl) ?_
  refine lv_aload_n hx hb dX8_takes_1 rfl (lv_at hl 0 rfl) ?_
  refine va_get (D := (dC, dI)) (ci := 7) (v := .int (pX8_isForm g0)) (C := RX8) (T := TX8) (N := 21) hx hb hts hin8 hown hK hP 0 rfl rfl 17 (by decide) hk0 (fun _ h9 => h9) rfl dX8_takes_2 ?_
  have hJ1 : ∀ (y0_1 : Int32), jX8_takes_1 g0 y0_1 = some out → ∀ (H : Heap) (locs : List Loc) (ls : Array Slot), va_P (dC, dI) vwCl (wX8 cI cZ cC q0 g0) H → va_D A (wX8 cI cZ cC q0 g0) → va_S A s.heap H locs → lv_has ls 2 [(0, .ref (q0 0))] → W p l e (headSpec wsX8_takes rmX8_takes).room s m args below meth c H locs 0 0 (MQ below (va_Qv (fun (_ : Unit) => True) (fun _ => poW (dC, dI) A (wX8 cI cZ cC q0 out)) A) args s 0 0 A) (F0 m 17 ls [.int y0_1, .ref (q0 0)]) := by
    intro y0_1 hf H locs ls hP hD hS hl
    unfold jX8_takes_1 at hf
    obtain ⟨hz, hf⟩ := ogz hf
    refine va_put (D := (dC, dI)) (ci := 7) (v := .int y0_1) (ty := .boolean) (C := RX8) (T := TX8) (N := 21) hx hb hts hin8 tyX8 tyX8_ok nmX8 hown hK hP hD hS 0 rfl rfl 17 (by decide) hk0 (fun _ h9 => h9) rfl (by decide +kernel) (jz_n hz) (jz_f hz) (Nat.le_of_ble_eq_true rfl) dX8_takes_17 (fun H locs hP hD hS => ?_)
    have hP : va_P (dC, dI) vwCl (wX8 cI cZ cC q0 ((pX8_s g0), (pX8_aside g0), (pX8_past g0), (pX8_known g0), (pX8_kept g0), (pX8_isKept g0), (pX8_pad g0), (pX8_length g0), (pX8_whyError g0), (pX8_whyNumber g0), (pX8_whySpot g0), (pX8_lots g0), (pX8_walker g0), (pX8_steps g0), (pX8_goes g0), (pX8_becomes g0), (pX8_spot g0), y0_1, (pX8_letter g0), (pX8_told g0), (pX8_highest g0))) H := hP
    have hD : va_D A (wX8 cI cZ cC q0 ((pX8_s g0), (pX8_aside g0), (pX8_past g0), (pX8_known g0), (pX8_kept g0), (pX8_isKept g0), (pX8_pad g0), (pX8_length g0), (pX8_whyError g0), (pX8_whyNumber g0), (pX8_whySpot g0), (pX8_lots g0), (pX8_walker g0), (pX8_steps g0), (pX8_goes g0), (pX8_becomes g0), (pX8_spot g0), y0_1, (pX8_letter g0), (pX8_told g0), (pX8_highest g0))) := hD
    refine lv_aload_n hx hb dX8_takes_20 rfl (lv_at hl 0 rfl) ?_
    refine lv_dup hx hb dX8_takes_21 rfl ?_
    refine va_get (D := (dC, dI)) (ci := 7) (v := .int (pX8_spot g0)) (C := RX8) (T := TX8) (N := 21) hx hb hts hin8 hown hK hP 0 rfl rfl 16 (by decide) hk1 (fun _ h9 => h9) rfl dX8_takes_22 ?_
    refine lv_aload_n hx hb dX8_takes_25 rfl (lv_at hl 0 rfl) ?_
    refine va_get (D := (dC, dI)) (ci := 7) (v := .int y0_1) (C := RX8) (T := TX8) (N := 21) hx hb hts hin8 hown hK hP 0 rfl rfl 17 (by decide) hk0 (fun _ h9 => h9) rfl dX8_takes_26 ?_
    have hJ2 : ∀ (y0_2 : Int32), jX8_takes_2 g0 y0_1 y0_2 = some out → ∀ (H : Heap) (locs : List Loc) (ls : Array Slot), va_P (dC, dI) vwCl (wX8 cI cZ cC q0 ((pX8_s g0), (pX8_aside g0), (pX8_past g0), (pX8_known g0), (pX8_kept g0), (pX8_isKept g0), (pX8_pad g0), (pX8_length g0), (pX8_whyError g0), (pX8_whyNumber g0), (pX8_whySpot g0), (pX8_lots g0), (pX8_walker g0), (pX8_steps g0), (pX8_goes g0), (pX8_becomes g0), (pX8_spot g0), y0_1, (pX8_letter g0), (pX8_told g0), (pX8_highest g0))) H → va_D A (wX8 cI cZ cC q0 ((pX8_s g0), (pX8_aside g0), (pX8_past g0), (pX8_known g0), (pX8_kept g0), (pX8_isKept g0), (pX8_pad g0), (pX8_length g0), (pX8_whyError g0), (pX8_whyNumber g0), (pX8_whySpot g0), (pX8_lots g0), (pX8_walker g0), (pX8_steps g0), (pX8_goes g0), (pX8_becomes g0), (pX8_spot g0), y0_1, (pX8_letter g0), (pX8_told g0), (pX8_highest g0))) → va_S A s.heap H locs → lv_has ls 2 [] → W p l e (headSpec wsX8_takes rmX8_takes).room s m args below meth c H locs 0 0 (MQ below (va_Qv (fun (_ : Unit) => True) (fun _ => poW (dC, dI) A (wX8 cI cZ cC q0 out)) A) args s 0 0 A) (F0 m 37 ls [.int y0_2, .int (pX8_spot g0), .ref (q0 0)]) := by
      intro y0_2 hf H locs ls hP hD hS hl
      unfold jX8_takes_2 at hf
      refine lv_iadd hx hb dX8_takes_37 ?_
      refine va_put (D := (dC, dI)) (ci := 7) (v := .int ((pX8_spot g0) + y0_2)) (ty := .int) (C := RX8) (T := TX8) (N := 21) hx hb hts hin8 tyX8 tyX8_ok nmX8 hown hK hP hD hS 0 rfl rfl 16 (by decide) hk1 (fun _ h9 => h9) rfl (by decide +kernel) rfl rfl (Nat.le_of_ble_eq_true rfl) dX8_takes_38 (fun H locs hP hD hS => ?_)
      have hP : va_P (dC, dI) vwCl (wX8 cI cZ cC q0 ((pX8_s g0), (pX8_aside g0), (pX8_past g0), (pX8_known g0), (pX8_kept g0), (pX8_isKept g0), (pX8_pad g0), (pX8_length g0), (pX8_whyError g0), (pX8_whyNumber g0), (pX8_whySpot g0), (pX8_lots g0), (pX8_walker g0), (pX8_steps g0), (pX8_goes g0), (pX8_becomes g0), ((pX8_spot g0) + y0_2), y0_1, (pX8_letter g0), (pX8_told g0), (pX8_highest g0))) H := hP
      have hD : va_D A (wX8 cI cZ cC q0 ((pX8_s g0), (pX8_aside g0), (pX8_past g0), (pX8_known g0), (pX8_kept g0), (pX8_isKept g0), (pX8_pad g0), (pX8_length g0), (pX8_whyError g0), (pX8_whyNumber g0), (pX8_whySpot g0), (pX8_lots g0), (pX8_walker g0), (pX8_steps g0), (pX8_goes g0), (pX8_becomes g0), ((pX8_spot g0) + y0_2), y0_1, (pX8_letter g0), (pX8_told g0), (pX8_highest g0))) := hD
      obtain rfl := Option.some.inj hf
      exact W.vret hx hb hr (fun t ht hW => ⟨⟨(), rfl, trivial, by rw [ht]; exact hP, hD⟩, hS.F ht⟩) hS.2.2 dX8_takes_41
    refine lv_if_eq (tgt := 36) hx hb dX8_takes_29 (by decide) (fun hc => ?_) (fun hc => ?_)
    · have hf := ot hc hf
      refine lv_iconst (v := 0) hx hb dX8_takes_36 (by decide) ?_
      exact hJ2 _ hf _ _ ls hP hD hS (lv_sub hl [] rfl)
    · have hf := oe hc hf
      refine lv_iconst (v := 1) hx hb dX8_takes_32 (by decide) ?_
      refine lv_goto (tgt := 37) hx hb dX8_takes_33 (by decide) ?_
      exact hJ2 _ hf _ _ ls hP hD hS (lv_sub hl [] rfl)
  have hJ3 : jX8_takes_3 g0 = some out → ∀ (H : Heap) (locs : List Loc) (ls : Array Slot), va_P (dC, dI) vwCl (wX8 cI cZ cC q0 g0) H → va_D A (wX8 cI cZ cC q0 g0) → va_S A s.heap H locs → lv_has ls 2 [(0, .ref (q0 0))] → W p l e (headSpec wsX8_takes rmX8_takes).room s m args below meth c H locs 0 0 (MQ below (va_Qv (fun (_ : Unit) => True) (fun _ => poW (dC, dI) A (wX8 cI cZ cC q0 out)) A) args s 0 0 A) (F0 m 16 ls [.ref (q0 0)]) := by
    intro  hf H locs ls hP hD hS hl
    unfold jX8_takes_3 at hf
    refine lv_iconst (v := 0) hx hb dX8_takes_16 (by decide) ?_
    exact hJ1 _ hf _ _ ls hP hD hS (lv_sub hl [0] rfl)
  refine lv_if_eq (tgt := 16) hx hb dX8_takes_5 (by decide) (fun hc => ?_) (fun hc => ?_)
  · have hf := ot hc hf
    exact hJ3 hf _ _ ls hP hD hS (lv_sub hl [0] rfl)
  · have hf := oe hc hf
    refine lv_iload_n hx hb dX8_takes_8 rfl (lv_at hl 1 rfl) ?_
    refine lv_if_eq (tgt := 16) hx hb dX8_takes_9 (by decide) (fun hc => ?_) (fun hc => ?_)
    · have hf := ot hc hf
      exact hJ3 hf _ _ ls hP hD hS (lv_sub hl [0] rfl)
    · have hf := oe hc hf
      refine lv_iconst (v := 1) hx hb dX8_takes_12 (by decide) ?_
      refine lv_goto (tgt := 17) hx hb dX8_takes_13 (by decide) ?_
      exact hJ1 _ hf _ _ ls hP hD hS (lv_sub hl [0] rfl)
/-- RimGrainsModel.private void takesNumber(int); -/
def tX8_takesNumber_26 (a1 : Int32) (s26 : (GX8)) : Option ((GX8) ⊕ (GX8)) :=
  (if (pX8_isForm s26) = 0 then some (.inr s26) else (if (pX8_told s26) ≤ 0 then some (.inr s26) else ((fX8_here s26).bind fun o41 => ((fX8_in o41 48 57).bind fun o48 => (if o48 = 0 then some (.inr s26) else ((fX8_here s26).bind fun o62 => (if a1 < (((10 * (pX8_told s26)) + o62) - 48) then some (.inr s26) else ((fX8_here s26).bind fun o82 => some (.inl ((pX8_s s26), (pX8_aside s26), (pX8_past s26), (pX8_known s26), (pX8_kept s26), (pX8_isKept s26), (pX8_pad s26), (pX8_length s26), (pX8_whyError s26), (pX8_whyNumber s26), (pX8_whySpot s26), (pX8_lots s26), (pX8_walker s26), (pX8_steps s26), (pX8_goes s26), (pX8_becomes s26), ((pX8_spot s26) + 1), (pX8_isForm s26), (pX8_letter s26), (((10 * (pX8_told s26)) + o82) - 48), (pX8_highest s26)))))))))))
def fX8_takesNumber (a1 : Int32) (g0 : GX8) : Option (GX8) :=
  ((fX8_here g0).bind fun o2 => ((fX8_here ((pX8_s g0), (pX8_aside g0), (pX8_past g0), (pX8_known g0), (pX8_kept g0), (pX8_isKept g0), (pX8_pad g0), (pX8_length g0), (pX8_whyError g0), (pX8_whyNumber g0), (pX8_whySpot g0), (pX8_lots g0), (pX8_walker g0), (pX8_steps g0), (pX8_goes g0), (pX8_becomes g0), (pX8_spot g0), (pX8_isForm g0), (pX8_letter g0), (o2 - 48), (pX8_highest g0))).bind fun o13 => ((fX8_in o13 48 57).bind fun o20 => ((fX8_takes o20 ((pX8_s g0), (pX8_aside g0), (pX8_past g0), (pX8_known g0), (pX8_kept g0), (pX8_isKept g0), (pX8_pad g0), (pX8_length g0), (pX8_whyError g0), (pX8_whyNumber g0), (pX8_whySpot g0), (pX8_lots g0), (pX8_walker g0), (pX8_steps g0), (pX8_goes g0), (pX8_becomes g0), (pX8_spot g0), (pX8_isForm g0), (pX8_letter g0), (o2 - 48), (pX8_highest g0))).bind fun o23 => ((lp (tX8_takesNumber_26 a1) FU o23).bind fun o26 => some o26)))))
abbrev rmX8_takesNumber : Room := { frames := 1, cells := 0, slots := 0, locals := 22 }
set_option maxHeartbeats 4000000 in
set_option maxRecDepth 100000 in
theorem mX8_takesNumber (l : Launch) (dC : Nat → ClassId) (dI : Nat → Nat → Nat) (cI cZ cC cO : ClassId) (q0 : Nat → Nat) (a1 : Int32) (g0 : GX8) (sz : Nat) (out : GX8) (hf : fX8_takesNumber a1 g0 = some out) : Met l yX8_takesNumber wsX8_takesNumber rmX8_takesNumber (va_Pc [.ref (q0 0), .int a1] (pcW (dC, dI) (wTys cI cZ cC cO) sz (wX8 cI cZ cC q0 g0))) (va_Qv (fun (_ : Unit) => True) (fun _ => poW (dC, dI) (va_A (wX8 cI cZ cC q0 g0) sz) (wX8 cI cZ cC q0 out)) (va_A (wX8 cI cZ cC q0 g0) sz)) 0 0 (va_A (wX8 cI cZ cC q0 g0) sz) := by
  refine Met.ofW (cc := cX8_takesNumber) (maxL := 2) (ret := none) (by decide) rfl ?_
  intro p e s m args below meth c s₁ B hml hv
  obtain ⟨hargs, hsz, hP, hK, hN, hD0⟩ := hv
  have hx := B.exec
  have hb := B.bytes
  have hr := B.returns
  have hts := atoms_spec (ws := wsX8_takesNumber) B.pre
  have hown : s.vm.findClass RX8 = some m.cls := findClass_of_methodNamed B.named
  have hlocks := B.notSynchronized
  have hk0 := hts (.fieldLink RX8 157 "RimGrainsModel" "told" "I") (by decide +kernel)
  have hk1 := hts (.fieldLink RX8 150 "RimGrainsModel" "isForm" "Z") (by decide +kernel)
  have hk2 := hts (.fieldLink RX8 147 "RimGrainsModel" "spot" "I") (by decide +kernel)
  have hin8 : ∀ w ∈ wsX80, w ∈ wsX8_takesNumber := by decide +kernel
  subst hsz
  have hD := hD0.self (sz := s.heap.size)
  generalize hAe : va_A (wX8 cI cZ cC q0 g0) s.heap.size = A at hD ⊢
  have hA : ∀ q : Nat, s.heap.size ≤ q → A q := fun q h => by rw [← hAe]; exact Or.inr h
  have hS : va_S A s.heap s.heap [] := va_S.rf
  have hE := lg_entry_eq m [.ref (q0 0), .int a1] 2
  rw [← hargs] at hE
  rw [hE]
  have hl := lv_entry [.ref (q0 0), .int a1] (n := 2) (Nat.le_of_ble_eq_true rfl)
  generalize (lg_sl [.ref (q0 0), .int a1] ++ List.replicate (2 - (lg_sl [.ref (q0 0), .int a1]).length) Slot.unset).toArray = ls at hl ⊢
  have hl : lv_has ls 2 [(0, .ref (q0 0)), (1, .int a1)] := hl
  have hP : va_P (dC, dI) vwCl (wX8 cI cZ cC q0 g0) s.heap := hP
  unfold fX8_takesNumber at hf
  refine lv_aload_n hx hb dX8_takesNumber_0 rfl (lv_at hl 0 rfl) ?_
  refine lv_aload_n hx hb dX8_takesNumber_1 rfl (lv_at hl 0 rfl) ?_
  obtain ⟨o2, ho2, hf⟩ := ob hf
  refine rV (rest := [.ref (q0 0)]) (As := []) ⟨hx, hb, hml, hown, hts⟩ (mX8_here l dC dI cI cZ cC cO q0 _ _ ho2) (cwV 0 hts gX8_takesNumber_X8_here rfl rfl rfl (by decide +kernel) ⟨Nat.le_of_ble_eq_true rfl, Nat.le_of_ble_eq_true rfl⟩) hK hN hP [0, 1, 2, 3, 4, 5, 6, 7, 8] rfl 7 rfl rfl rfl rfl hl.1 rfl (Nat.le_of_ble_eq_true rfl) dX8_takesNumber_2 ⟨Nat.zero_le _, Nat.zero_le _⟩ ?_
  refine lv_bipush (v := 48) hx hb dX8_takesNumber_5 (by decide) ?_
  refine lv_isub hx hb dX8_takesNumber_7 ?_
  refine va_put (D := (dC, dI)) (ci := 7) (v := .int (o2 - 48)) (ty := .int) (C := RX8) (T := TX8) (N := 21) hx hb hts hin8 tyX8 tyX8_ok nmX8 hown hK hP hD hS 0 rfl rfl 19 (by decide) hk0 (fun _ h9 => h9) rfl (by decide +kernel) rfl rfl (Nat.le_of_ble_eq_true rfl) dX8_takesNumber_8 (fun H locs hP hD hS => ?_)
  have hP : va_P (dC, dI) vwCl (wX8 cI cZ cC q0 ((pX8_s g0), (pX8_aside g0), (pX8_past g0), (pX8_known g0), (pX8_kept g0), (pX8_isKept g0), (pX8_pad g0), (pX8_length g0), (pX8_whyError g0), (pX8_whyNumber g0), (pX8_whySpot g0), (pX8_lots g0), (pX8_walker g0), (pX8_steps g0), (pX8_goes g0), (pX8_becomes g0), (pX8_spot g0), (pX8_isForm g0), (pX8_letter g0), (o2 - 48), (pX8_highest g0))) H := hP
  have hD : va_D A (wX8 cI cZ cC q0 ((pX8_s g0), (pX8_aside g0), (pX8_past g0), (pX8_known g0), (pX8_kept g0), (pX8_isKept g0), (pX8_pad g0), (pX8_length g0), (pX8_whyError g0), (pX8_whyNumber g0), (pX8_whySpot g0), (pX8_lots g0), (pX8_walker g0), (pX8_steps g0), (pX8_goes g0), (pX8_becomes g0), (pX8_spot g0), (pX8_isForm g0), (pX8_letter g0), (o2 - 48), (pX8_highest g0))) := hD
  refine lv_aload_n hx hb dX8_takesNumber_11 rfl (lv_at hl 0 rfl) ?_
  refine lv_aload_n hx hb dX8_takesNumber_12 rfl (lv_at hl 0 rfl) ?_
  obtain ⟨o13, ho13, hf⟩ := ob hf
  refine rV (rest := [.ref (q0 0)]) (As := []) ⟨hx, hb, hml, hown, hts⟩ (mX8_here l dC dI cI cZ cC cO q0 _ _ ho13) (cwV 0 hts gX8_takesNumber_X8_here rfl rfl rfl (by decide +kernel) ⟨Nat.le_of_ble_eq_true rfl, Nat.le_of_ble_eq_true rfl⟩) hK hN hP [0, 1, 2, 3, 4, 5, 6, 7, 8] rfl 7 rfl rfl rfl rfl hl.1 rfl (Nat.le_of_ble_eq_true rfl) dX8_takesNumber_13 ⟨Nat.zero_le _, Nat.zero_le _⟩ ?_
  refine lv_bipush (v := 48) hx hb dX8_takesNumber_16 (by decide) ?_
  refine lv_bipush (v := 57) hx hb dX8_takesNumber_18 (by decide) ?_
  obtain ⟨o20, ho20, hf⟩ := ob hf
  refine rS (rest := [.ref (q0 0)]) (As := [.int o13, .int 48, .int 57]) ⟨hx, hb, hml, hown, hts⟩ (mX8_in l dC dI cI cZ cC cO  _ _ _ _ ho20) (va_cwS 3 hts gX8_takesNumber_X8_in rfl rfl rfl (by decide +kernel) ⟨Nat.le_of_ble_eq_true rfl, Nat.le_of_ble_eq_true rfl⟩) hK hN hP [] rfl rfl hl.1 rfl (Nat.le_of_ble_eq_true rfl) dX8_takesNumber_20 ⟨Nat.zero_le _, Nat.zero_le _⟩ ?_
  obtain ⟨o23, ho23, hf⟩ := ob hf
  refine wVv (W1 := (fun _ : Unit => (wX8 cI cZ cC q0 o23))) (rest := []) (As := [.int o20]) ⟨hx, hb, hml, hown, hts⟩ (mX8_takes l dC dI cI cZ cC cO q0 _ _ _ _ ho23) (cwV 1 hts gX8_takesNumber_X8_takes rfl rfl rfl (by decide +kernel) ⟨Nat.le_of_ble_eq_true rfl, Nat.le_of_ble_eq_true rfl⟩) hK hN hP hD hS hA [0, 1, 2, 3, 4, 5, 6, 7, 8] [] [0, 1, 2, 3, 4, 5, 6, 7, 8] rfl rfl (by decide) (by decide) (fun _ => rfl) 7 rfl rfl rfl rfl hl.1 rfl (Nat.le_of_ble_eq_true rfl) dX8_takesNumber_23 ⟨Nat.zero_le _, Nat.zero_le _⟩ (fun _ H locs hP hD hS => ?_)
  have hP : va_P (dC, dI) vwCl (wX8 cI cZ cC q0 o23) H := hP
  have hD : va_D A (wX8 cI cZ cC q0 o23) := hD
  have hL26 : ∀ (n : Nat) (s26 : GX8) (o26 : GX8), lp (tX8_takesNumber_26 a1) n s26 = some o26 → ∀ (H : Heap) (locs : List Loc) (ls : Array Slot), va_P (dC, dI) vwCl (wX8 cI cZ cC q0 s26) H → va_D A (wX8 cI cZ cC q0 s26) → va_S A s.heap H locs → lv_has ls 2 [(0, .ref (q0 0)), (1, .int a1)] → (∀ (H : Heap) (locs : List Loc) (ls : Array Slot), va_P (dC, dI) vwCl (wX8 cI cZ cC q0 o26) H → va_D A (wX8 cI cZ cC q0 o26) → va_S A s.heap H locs → lv_has ls 2 [] → W p l e (headSpec wsX8_takesNumber rmX8_takesNumber).room s m args below meth c H locs 0 0 (MQ below (va_Qv (fun (_ : Unit) => True) (fun _ => poW (dC, dI) A (wX8 cI cZ cC q0 out)) A) args s 0 0 A) (F0 m 105 ls [])) → W p l e (headSpec wsX8_takesNumber rmX8_takesNumber).room s m args below meth c H locs 0 0 (MQ below (va_Qv (fun (_ : Unit) => True) (fun _ => poW (dC, dI) A (wX8 cI cZ cC q0 out)) A) args s 0 0 A) (F0 m 26 ls []) := by
    intro n
    induction n with
    | zero => intro s26 o26 hf; exact (lp0 hf).elim
    | succ n ih26 =>
      intro s26 o26 hf H locs ls hP hD hS hl kx
      obtain ⟨r26, hf, hn⟩ := lps hf
      unfold tX8_takesNumber_26 at hf
      refine lv_aload_n hx hb dX8_takesNumber_26 rfl (lv_at hl 0 rfl) ?_
      refine va_get (D := (dC, dI)) (ci := 7) (v := .int (pX8_isForm s26)) (C := RX8) (T := TX8) (N := 21) hx hb hts hin8 hown hK hP 0 rfl rfl 17 (by decide) hk1 (fun _ h9 => h9) rfl dX8_takesNumber_27 ?_
      refine lv_if_eq (tgt := 105) hx hb dX8_takesNumber_30 (by decide) (fun hc => ?_) (fun hc => ?_)
      · have hf := ot hc hf
        obtain rfl := Option.some.inj hf
        obtain rfl := Option.some.inj hn
        exact kx _ _ ls hP hD hS (lv_sub hl [] rfl)
      · have hf := oe hc hf
        refine lv_aload_n hx hb dX8_takesNumber_33 rfl (lv_at hl 0 rfl) ?_
        refine va_get (D := (dC, dI)) (ci := 7) (v := .int (pX8_told s26)) (C := RX8) (T := TX8) (N := 21) hx hb hts hin8 hown hK hP 0 rfl rfl 19 (by decide) hk0 (fun _ h9 => h9) rfl dX8_takesNumber_34 ?_
        refine lv_if_le (tgt := 105) hx hb dX8_takesNumber_37 (by decide) (fun hc => ?_) (fun hc => ?_)
        · have hf := ot hc hf
          obtain rfl := Option.some.inj hf
          obtain rfl := Option.some.inj hn
          exact kx _ _ ls hP hD hS (lv_sub hl [] rfl)
        · have hf := oe hc hf
          refine lv_aload_n hx hb dX8_takesNumber_40 rfl (lv_at hl 0 rfl) ?_
          obtain ⟨o41, ho41, hf⟩ := ob hf
          refine rV (rest := []) (As := []) ⟨hx, hb, hml, hown, hts⟩ (mX8_here l dC dI cI cZ cC cO q0 _ _ ho41) (cwV 0 hts gX8_takesNumber_X8_here rfl rfl rfl (by decide +kernel) ⟨Nat.le_of_ble_eq_true rfl, Nat.le_of_ble_eq_true rfl⟩) hK hN hP [0, 1, 2, 3, 4, 5, 6, 7, 8] rfl 7 rfl rfl rfl rfl hl.1 rfl (Nat.le_of_ble_eq_true rfl) dX8_takesNumber_41 ⟨Nat.zero_le _, Nat.zero_le _⟩ ?_
          refine lv_bipush (v := 48) hx hb dX8_takesNumber_44 (by decide) ?_
          refine lv_bipush (v := 57) hx hb dX8_takesNumber_46 (by decide) ?_
          obtain ⟨o48, ho48, hf⟩ := ob hf
          refine rS (rest := []) (As := [.int o41, .int 48, .int 57]) ⟨hx, hb, hml, hown, hts⟩ (mX8_in l dC dI cI cZ cC cO  _ _ _ _ ho48) (va_cwS 3 hts gX8_takesNumber_X8_in rfl rfl rfl (by decide +kernel) ⟨Nat.le_of_ble_eq_true rfl, Nat.le_of_ble_eq_true rfl⟩) hK hN hP [] rfl rfl hl.1 rfl (Nat.le_of_ble_eq_true rfl) dX8_takesNumber_48 ⟨Nat.zero_le _, Nat.zero_le _⟩ ?_
          refine lv_if_eq (tgt := 105) hx hb dX8_takesNumber_51 (by decide) (fun hc => ?_) (fun hc => ?_)
          · have hf := ot hc hf
            obtain rfl := Option.some.inj hf
            obtain rfl := Option.some.inj hn
            exact kx _ _ ls hP hD hS (lv_sub hl [] rfl)
          · have hf := oe hc hf
            refine lv_bipush (v := 10) hx hb dX8_takesNumber_54 (by decide) ?_
            refine lv_aload_n hx hb dX8_takesNumber_56 rfl (lv_at hl 0 rfl) ?_
            refine va_get (D := (dC, dI)) (ci := 7) (v := .int (pX8_told s26)) (C := RX8) (T := TX8) (N := 21) hx hb hts hin8 hown hK hP 0 rfl rfl 19 (by decide) hk0 (fun _ h9 => h9) rfl dX8_takesNumber_57 ?_
            refine lv_imul hx hb dX8_takesNumber_60 ?_
            refine lv_aload_n hx hb dX8_takesNumber_61 rfl (lv_at hl 0 rfl) ?_
            obtain ⟨o62, ho62, hf⟩ := ob hf
            refine rV (rest := [.int (10 * (pX8_told s26))]) (As := []) ⟨hx, hb, hml, hown, hts⟩ (mX8_here l dC dI cI cZ cC cO q0 _ _ ho62) (cwV 0 hts gX8_takesNumber_X8_here rfl rfl rfl (by decide +kernel) ⟨Nat.le_of_ble_eq_true rfl, Nat.le_of_ble_eq_true rfl⟩) hK hN hP [0, 1, 2, 3, 4, 5, 6, 7, 8] rfl 7 rfl rfl rfl rfl hl.1 rfl (Nat.le_of_ble_eq_true rfl) dX8_takesNumber_62 ⟨Nat.zero_le _, Nat.zero_le _⟩ ?_
            refine lv_iadd hx hb dX8_takesNumber_65 ?_
            refine lv_bipush (v := 48) hx hb dX8_takesNumber_66 (by decide) ?_
            refine lv_isub hx hb dX8_takesNumber_68 ?_
            refine lv_iload_n hx hb dX8_takesNumber_69 rfl (lv_at hl 1 rfl) ?_
            refine lv_icmp_gt (tgt := 105) hx hb dX8_takesNumber_70 (by decide) (fun hc => ?_) (fun hc => ?_)
            · have hf := ot hc hf
              obtain rfl := Option.some.inj hf
              obtain rfl := Option.some.inj hn
              exact kx _ _ ls hP hD hS (lv_sub hl [] rfl)
            · have hf := oe hc hf
              refine lv_aload_n hx hb dX8_takesNumber_73 rfl (lv_at hl 0 rfl) ?_
              refine lv_bipush (v := 10) hx hb dX8_takesNumber_74 (by decide) ?_
              refine lv_aload_n hx hb dX8_takesNumber_76 rfl (lv_at hl 0 rfl) ?_
              refine va_get (D := (dC, dI)) (ci := 7) (v := .int (pX8_told s26)) (C := RX8) (T := TX8) (N := 21) hx hb hts hin8 hown hK hP 0 rfl rfl 19 (by decide) hk0 (fun _ h9 => h9) rfl dX8_takesNumber_77 ?_
              refine lv_imul hx hb dX8_takesNumber_80 ?_
              refine lv_aload_n hx hb dX8_takesNumber_81 rfl (lv_at hl 0 rfl) ?_
              obtain ⟨o82, ho82, hf⟩ := ob hf
              refine rV (rest := [.int (10 * (pX8_told s26)), .ref (q0 0)]) (As := []) ⟨hx, hb, hml, hown, hts⟩ (mX8_here l dC dI cI cZ cC cO q0 _ _ ho82) (cwV 0 hts gX8_takesNumber_X8_here rfl rfl rfl (by decide +kernel) ⟨Nat.le_of_ble_eq_true rfl, Nat.le_of_ble_eq_true rfl⟩) hK hN hP [0, 1, 2, 3, 4, 5, 6, 7, 8] rfl 7 rfl rfl rfl rfl hl.1 rfl (Nat.le_of_ble_eq_true rfl) dX8_takesNumber_82 ⟨Nat.zero_le _, Nat.zero_le _⟩ ?_
              refine lv_iadd hx hb dX8_takesNumber_85 ?_
              refine lv_bipush (v := 48) hx hb dX8_takesNumber_86 (by decide) ?_
              refine lv_isub hx hb dX8_takesNumber_88 ?_
              refine va_put (D := (dC, dI)) (ci := 7) (v := .int (((10 * (pX8_told s26)) + o82) - 48)) (ty := .int) (C := RX8) (T := TX8) (N := 21) hx hb hts hin8 tyX8 tyX8_ok nmX8 hown hK hP hD hS 0 rfl rfl 19 (by decide) hk0 (fun _ h9 => h9) rfl (by decide +kernel) rfl rfl (Nat.le_of_ble_eq_true rfl) dX8_takesNumber_89 (fun H locs hP hD hS => ?_)
              have hP : va_P (dC, dI) vwCl (wX8 cI cZ cC q0 ((pX8_s s26), (pX8_aside s26), (pX8_past s26), (pX8_known s26), (pX8_kept s26), (pX8_isKept s26), (pX8_pad s26), (pX8_length s26), (pX8_whyError s26), (pX8_whyNumber s26), (pX8_whySpot s26), (pX8_lots s26), (pX8_walker s26), (pX8_steps s26), (pX8_goes s26), (pX8_becomes s26), (pX8_spot s26), (pX8_isForm s26), (pX8_letter s26), (((10 * (pX8_told s26)) + o82) - 48), (pX8_highest s26))) H := hP
              have hD : va_D A (wX8 cI cZ cC q0 ((pX8_s s26), (pX8_aside s26), (pX8_past s26), (pX8_known s26), (pX8_kept s26), (pX8_isKept s26), (pX8_pad s26), (pX8_length s26), (pX8_whyError s26), (pX8_whyNumber s26), (pX8_whySpot s26), (pX8_lots s26), (pX8_walker s26), (pX8_steps s26), (pX8_goes s26), (pX8_becomes s26), (pX8_spot s26), (pX8_isForm s26), (pX8_letter s26), (((10 * (pX8_told s26)) + o82) - 48), (pX8_highest s26))) := hD
              refine lv_aload_n hx hb dX8_takesNumber_92 rfl (lv_at hl 0 rfl) ?_
              refine lv_dup hx hb dX8_takesNumber_93 rfl ?_
              refine va_get (D := (dC, dI)) (ci := 7) (v := .int (pX8_spot s26)) (C := RX8) (T := TX8) (N := 21) hx hb hts hin8 hown hK hP 0 rfl rfl 16 (by decide) hk2 (fun _ h9 => h9) rfl dX8_takesNumber_94 ?_
              refine lv_iconst (v := 1) hx hb dX8_takesNumber_97 (by decide) ?_
              refine lv_iadd hx hb dX8_takesNumber_98 ?_
              refine va_put (D := (dC, dI)) (ci := 7) (v := .int ((pX8_spot s26) + 1)) (ty := .int) (C := RX8) (T := TX8) (N := 21) hx hb hts hin8 tyX8 tyX8_ok nmX8 hown hK hP hD hS 0 rfl rfl 16 (by decide) hk2 (fun _ h9 => h9) rfl (by decide +kernel) rfl rfl (Nat.le_of_ble_eq_true rfl) dX8_takesNumber_99 (fun H locs hP hD hS => ?_)
              have hP : va_P (dC, dI) vwCl (wX8 cI cZ cC q0 ((pX8_s s26), (pX8_aside s26), (pX8_past s26), (pX8_known s26), (pX8_kept s26), (pX8_isKept s26), (pX8_pad s26), (pX8_length s26), (pX8_whyError s26), (pX8_whyNumber s26), (pX8_whySpot s26), (pX8_lots s26), (pX8_walker s26), (pX8_steps s26), (pX8_goes s26), (pX8_becomes s26), ((pX8_spot s26) + 1), (pX8_isForm s26), (pX8_letter s26), (((10 * (pX8_told s26)) + o82) - 48), (pX8_highest s26))) H := hP
              have hD : va_D A (wX8 cI cZ cC q0 ((pX8_s s26), (pX8_aside s26), (pX8_past s26), (pX8_known s26), (pX8_kept s26), (pX8_isKept s26), (pX8_pad s26), (pX8_length s26), (pX8_whyError s26), (pX8_whyNumber s26), (pX8_whySpot s26), (pX8_lots s26), (pX8_walker s26), (pX8_steps s26), (pX8_goes s26), (pX8_becomes s26), ((pX8_spot s26) + 1), (pX8_isForm s26), (pX8_letter s26), (((10 * (pX8_told s26)) + o82) - 48), (pX8_highest s26))) := hD
              refine lv_goto (tgt := 26) hx hb dX8_takesNumber_102 (by decide) ?_
              obtain rfl := Option.some.inj hf
              exact ih26 _ _ hn _ _ ls hP hD hS (lv_sub hl [0, 1] rfl) kx
  obtain ⟨o26, ho26, hf⟩ := ob hf
  refine hL26 FU _ _ ho26 _ _ ls hP hD hS (lv_sub hl [0, 1] rfl) (fun H locs ls hP hD hS hl => ?_)
  obtain rfl := Option.some.inj hf
  exact W.vret hx hb hr (fun t ht hW => ⟨⟨(), rfl, trivial, by rw [ht]; exact hP, hD⟩, hS.F ht⟩) hS.2.2 dX8_takesNumber_105
/-- RimGrainsModel.private void takesDeed(); -/
def jX8_takesDeed_2 (o41 : (GX8)) (y0_2 : Int32) : Option (GX8) :=
  ((fX8_takesNumber y0_2 o41).bind fun o70 => some o70)
def jX8_takesDeed_1 (g0 : GX8) (o2 : (Int32)) (y0_1 : Int32) : Option (GX8) :=
  ((fX8_takes y0_1 ((pX8_s g0), (pX8_aside g0), (pX8_past g0), (pX8_known g0), (pX8_kept g0), (pX8_isKept g0), (pX8_pad g0), (pX8_length g0), (pX8_whyError g0), (pX8_whyNumber g0), (pX8_whySpot g0), (pX8_lots g0), (pX8_walker g0), (pX8_steps g0), (pX8_goes g0), (pX8_becomes g0), (pX8_spot g0), (pX8_isForm g0), o2, (pX8_told g0), (pX8_highest g0))).bind fun o41 => (if (pX8_letter o41) = 119 then some o41 else (if (pX8_letter o41) = 103 then jX8_takesDeed_2 o41 39 else jX8_takesDeed_2 o41 120)))
def jX8_takesDeed_3 (g0 : GX8) (o2 : (Int32)) : Option (GX8) :=
  jX8_takesDeed_1 g0 o2 1
def fX8_takesDeed (g0 : GX8) : Option (GX8) :=
  ((fX8_here g0).bind fun o2 => (if o2 = 103 then jX8_takesDeed_3 g0 o2 else (if o2 = 98 then jX8_takesDeed_3 g0 o2 else (if o2 = 119 then jX8_takesDeed_3 g0 o2 else jX8_takesDeed_1 g0 o2 0))))
abbrev rmX8_takesDeed : Room := { frames := 2, cells := 0, slots := 0, locals := 43 }
set_option maxHeartbeats 4000000 in
set_option maxRecDepth 100000 in
theorem mX8_takesDeed (l : Launch) (dC : Nat → ClassId) (dI : Nat → Nat → Nat) (cI cZ cC cO : ClassId) (q0 : Nat → Nat) (g0 : GX8) (sz : Nat) (out : GX8) (hf : fX8_takesDeed g0 = some out) : Met l yX8_takesDeed wsX8_takesDeed rmX8_takesDeed (va_Pc [.ref (q0 0)] (pcW (dC, dI) (wTys cI cZ cC cO) sz (wX8 cI cZ cC q0 g0))) (va_Qv (fun (_ : Unit) => True) (fun _ => poW (dC, dI) (va_A (wX8 cI cZ cC q0 g0) sz) (wX8 cI cZ cC q0 out)) (va_A (wX8 cI cZ cC q0 g0) sz)) 0 0 (va_A (wX8 cI cZ cC q0 g0) sz) := by
  refine Met.ofW (cc := cX8_takesDeed) (maxL := 1) (ret := none) (by decide) rfl ?_
  intro p e s m args below meth c s₁ B hml hv
  obtain ⟨hargs, hsz, hP, hK, hN, hD0⟩ := hv
  have hx := B.exec
  have hb := B.bytes
  have hr := B.returns
  have hts := atoms_spec (ws := wsX8_takesDeed) B.pre
  have hown : s.vm.findClass RX8 = some m.cls := findClass_of_methodNamed B.named
  have hlocks := B.notSynchronized
  have hk0 := hts (.fieldLink RX8 164 "RimGrainsModel" "letter" "I") (by decide +kernel)
  have hin8 : ∀ w ∈ wsX80, w ∈ wsX8_takesDeed := by decide +kernel
  subst hsz
  have hD := hD0.self (sz := s.heap.size)
  generalize hAe : va_A (wX8 cI cZ cC q0 g0) s.heap.size = A at hD ⊢
  have hA : ∀ q : Nat, s.heap.size ≤ q → A q := fun q h => by rw [← hAe]; exact Or.inr h
  have hS : va_S A s.heap s.heap [] := va_S.rf
  have hE := lg_entry_eq m [.ref (q0 0)] 1
  rw [← hargs] at hE
  rw [hE]
  have hl := lv_entry [.ref (q0 0)] (n := 1) (Nat.le_of_ble_eq_true rfl)
  generalize (lg_sl [.ref (q0 0)] ++ List.replicate (1 - (lg_sl [.ref (q0 0)]).length) Slot.unset).toArray = ls at hl ⊢
  have hl : lv_has ls 1 [(0, .ref (q0 0))] := hl
  have hP : va_P (dC, dI) vwCl (wX8 cI cZ cC q0 g0) s.heap := hP
  unfold fX8_takesDeed at hf
  refine lv_aload_n hx hb dX8_takesDeed_0 rfl (lv_at hl 0 rfl) ?_
  refine lv_aload_n hx hb dX8_takesDeed_1 rfl (lv_at hl 0 rfl) ?_
  obtain ⟨o2, ho2, hf⟩ := ob hf
  refine rV (rest := [.ref (q0 0)]) (As := []) ⟨hx, hb, hml, hown, hts⟩ (mX8_here l dC dI cI cZ cC cO q0 _ _ ho2) (cwV 0 hts gX8_takesDeed_X8_here rfl rfl rfl (by decide +kernel) ⟨Nat.le_of_ble_eq_true rfl, Nat.le_of_ble_eq_true rfl⟩) hK hN hP [0, 1, 2, 3, 4, 5, 6, 7, 8] rfl 7 rfl rfl rfl rfl hl.1 rfl (Nat.le_of_ble_eq_true rfl) dX8_takesDeed_2 ⟨Nat.zero_le _, Nat.zero_le _⟩ ?_
  refine va_put (D := (dC, dI)) (ci := 7) (v := .int o2) (ty := .int) (C := RX8) (T := TX8) (N := 21) hx hb hts hin8 tyX8 tyX8_ok nmX8 hown hK hP hD hS 0 rfl rfl 18 (by decide) hk0 (fun _ h9 => h9) rfl (by decide +kernel) rfl rfl (Nat.le_of_ble_eq_true rfl) dX8_takesDeed_5 (fun H locs hP hD hS => ?_)
  have hP : va_P (dC, dI) vwCl (wX8 cI cZ cC q0 ((pX8_s g0), (pX8_aside g0), (pX8_past g0), (pX8_known g0), (pX8_kept g0), (pX8_isKept g0), (pX8_pad g0), (pX8_length g0), (pX8_whyError g0), (pX8_whyNumber g0), (pX8_whySpot g0), (pX8_lots g0), (pX8_walker g0), (pX8_steps g0), (pX8_goes g0), (pX8_becomes g0), (pX8_spot g0), (pX8_isForm g0), o2, (pX8_told g0), (pX8_highest g0))) H := hP
  have hD : va_D A (wX8 cI cZ cC q0 ((pX8_s g0), (pX8_aside g0), (pX8_past g0), (pX8_known g0), (pX8_kept g0), (pX8_isKept g0), (pX8_pad g0), (pX8_length g0), (pX8_whyError g0), (pX8_whyNumber g0), (pX8_whySpot g0), (pX8_lots g0), (pX8_walker g0), (pX8_steps g0), (pX8_goes g0), (pX8_becomes g0), (pX8_spot g0), (pX8_isForm g0), o2, (pX8_told g0), (pX8_highest g0))) := hD
  refine lv_aload_n hx hb dX8_takesDeed_8 rfl (lv_at hl 0 rfl) ?_
  refine lv_aload_n hx hb dX8_takesDeed_9 rfl (lv_at hl 0 rfl) ?_
  refine va_get (D := (dC, dI)) (ci := 7) (v := .int o2) (C := RX8) (T := TX8) (N := 21) hx hb hts hin8 hown hK hP 0 rfl rfl 18 (by decide) hk0 (fun _ h9 => h9) rfl dX8_takesDeed_10 ?_
  refine lv_bipush (v := 103) hx hb dX8_takesDeed_13 (by decide) ?_
  have hJ1 : ∀ (y0_1 : Int32), jX8_takesDeed_1 g0 o2 y0_1 = some out → ∀ (H : Heap) (locs : List Loc) (ls : Array Slot), va_P (dC, dI) vwCl (wX8 cI cZ cC q0 ((pX8_s g0), (pX8_aside g0), (pX8_past g0), (pX8_known g0), (pX8_kept g0), (pX8_isKept g0), (pX8_pad g0), (pX8_length g0), (pX8_whyError g0), (pX8_whyNumber g0), (pX8_whySpot g0), (pX8_lots g0), (pX8_walker g0), (pX8_steps g0), (pX8_goes g0), (pX8_becomes g0), (pX8_spot g0), (pX8_isForm g0), o2, (pX8_told g0), (pX8_highest g0))) H → va_D A (wX8 cI cZ cC q0 ((pX8_s g0), (pX8_aside g0), (pX8_past g0), (pX8_known g0), (pX8_kept g0), (pX8_isKept g0), (pX8_pad g0), (pX8_length g0), (pX8_whyError g0), (pX8_whyNumber g0), (pX8_whySpot g0), (pX8_lots g0), (pX8_walker g0), (pX8_steps g0), (pX8_goes g0), (pX8_becomes g0), (pX8_spot g0), (pX8_isForm g0), o2, (pX8_told g0), (pX8_highest g0))) → va_S A s.heap H locs → lv_has ls 1 [(0, .ref (q0 0))] → W p l e (headSpec wsX8_takesDeed rmX8_takesDeed).room s m args below meth c H locs 0 0 (MQ below (va_Qv (fun (_ : Unit) => True) (fun _ => poW (dC, dI) A (wX8 cI cZ cC q0 out)) A) args s 0 0 A) (F0 m 41 ls [.int y0_1, .ref (q0 0)]) := by
    intro y0_1 hf H locs ls hP hD hS hl
    unfold jX8_takesDeed_1 at hf
    obtain ⟨o41, ho41, hf⟩ := ob hf
    refine wVv (W1 := (fun _ : Unit => (wX8 cI cZ cC q0 o41))) (rest := []) (As := [.int y0_1]) ⟨hx, hb, hml, hown, hts⟩ (mX8_takes l dC dI cI cZ cC cO q0 _ _ _ _ ho41) (cwV 1 hts gX8_takesDeed_X8_takes rfl rfl rfl (by decide +kernel) ⟨Nat.le_of_ble_eq_true rfl, Nat.le_of_ble_eq_true rfl⟩) hK hN hP hD hS hA [0, 1, 2, 3, 4, 5, 6, 7, 8] [] [0, 1, 2, 3, 4, 5, 6, 7, 8] rfl rfl (by decide) (by decide) (fun _ => rfl) 7 rfl rfl rfl rfl hl.1 rfl (Nat.le_of_ble_eq_true rfl) dX8_takesDeed_41 ⟨Nat.zero_le _, Nat.zero_le _⟩ (fun _ H locs hP hD hS => ?_)
    have hP : va_P (dC, dI) vwCl (wX8 cI cZ cC q0 o41) H := hP
    have hD : va_D A (wX8 cI cZ cC q0 o41) := hD
    refine lv_aload_n hx hb dX8_takesDeed_44 rfl (lv_at hl 0 rfl) ?_
    refine va_get (D := (dC, dI)) (ci := 7) (v := .int (pX8_letter o41)) (C := RX8) (T := TX8) (N := 21) hx hb hts hin8 hown hK hP 0 rfl rfl 18 (by decide) hk0 (fun _ h9 => h9) rfl dX8_takesDeed_45 ?_
    refine lv_bipush (v := 119) hx hb dX8_takesDeed_48 (by decide) ?_
    refine lv_icmp_eq (tgt := 73) hx hb dX8_takesDeed_50 (by decide) (fun hc => ?_) (fun hc => ?_)
    · have hf := ot hc hf
      obtain rfl := Option.some.inj hf
      exact W.vret hx hb hr (fun t ht hW => ⟨⟨(), rfl, trivial, by rw [ht]; exact hP, hD⟩, hS.F ht⟩) hS.2.2 dX8_takesDeed_73
    · have hf := oe hc hf
      refine lv_aload_n hx hb dX8_takesDeed_53 rfl (lv_at hl 0 rfl) ?_
      refine lv_aload_n hx hb dX8_takesDeed_54 rfl (lv_at hl 0 rfl) ?_
      refine va_get (D := (dC, dI)) (ci := 7) (v := .int (pX8_letter o41)) (C := RX8) (T := TX8) (N := 21) hx hb hts hin8 hown hK hP 0 rfl rfl 18 (by decide) hk0 (fun _ h9 => h9) rfl dX8_takesDeed_55 ?_
      refine lv_bipush (v := 103) hx hb dX8_takesDeed_58 (by decide) ?_
      have hJ2 : ∀ (y0_2 : Int32), jX8_takesDeed_2 o41 y0_2 = some out → ∀ (H : Heap) (locs : List Loc) (ls : Array Slot), va_P (dC, dI) vwCl (wX8 cI cZ cC q0 o41) H → va_D A (wX8 cI cZ cC q0 o41) → va_S A s.heap H locs → lv_has ls 1 [] → W p l e (headSpec wsX8_takesDeed rmX8_takesDeed).room s m args below meth c H locs 0 0 (MQ below (va_Qv (fun (_ : Unit) => True) (fun _ => poW (dC, dI) A (wX8 cI cZ cC q0 out)) A) args s 0 0 A) (F0 m 70 ls [.int y0_2, .ref (q0 0)]) := by
        intro y0_2 hf H locs ls hP hD hS hl
        unfold jX8_takesDeed_2 at hf
        obtain ⟨o70, ho70, hf⟩ := ob hf
        refine wVv (W1 := (fun _ : Unit => (wX8 cI cZ cC q0 o70))) (rest := []) (As := [.int y0_2]) ⟨hx, hb, hml, hown, hts⟩ (mX8_takesNumber l dC dI cI cZ cC cO q0 _ _ _ _ ho70) (cwV 1 hts gX8_takesDeed_X8_takesNumber rfl rfl rfl (by decide +kernel) ⟨Nat.le_of_ble_eq_true rfl, Nat.le_of_ble_eq_true rfl⟩) hK hN hP hD hS hA [0, 1, 2, 3, 4, 5, 6, 7, 8] [] [0, 1, 2, 3, 4, 5, 6, 7, 8] rfl rfl (by decide) (by decide) (fun _ => rfl) 7 rfl rfl rfl rfl hl.1 rfl (Nat.le_of_ble_eq_true rfl) dX8_takesDeed_70 ⟨Nat.zero_le _, Nat.zero_le _⟩ (fun _ H locs hP hD hS => ?_)
        have hP : va_P (dC, dI) vwCl (wX8 cI cZ cC q0 o70) H := hP
        have hD : va_D A (wX8 cI cZ cC q0 o70) := hD
        obtain rfl := Option.some.inj hf
        exact W.vret hx hb hr (fun t ht hW => ⟨⟨(), rfl, trivial, by rw [ht]; exact hP, hD⟩, hS.F ht⟩) hS.2.2 dX8_takesDeed_73
      refine lv_icmp_ne (tgt := 68) hx hb dX8_takesDeed_60 (by decide) (fun hc => ?_) (fun hc => ?_)
      · have hf := oe hc hf
        refine lv_bipush (v := 120) hx hb dX8_takesDeed_68 (by decide) ?_
        exact hJ2 _ hf _ _ ls hP hD hS (lv_sub hl [] rfl)
      · have hf := ot hc hf
        refine lv_bipush (v := 39) hx hb dX8_takesDeed_63 (by decide) ?_
        refine lv_goto (tgt := 70) hx hb dX8_takesDeed_65 (by decide) ?_
        exact hJ2 _ hf _ _ ls hP hD hS (lv_sub hl [] rfl)
  have hJ3 : jX8_takesDeed_3 g0 o2 = some out → ∀ (H : Heap) (locs : List Loc) (ls : Array Slot), va_P (dC, dI) vwCl (wX8 cI cZ cC q0 ((pX8_s g0), (pX8_aside g0), (pX8_past g0), (pX8_known g0), (pX8_kept g0), (pX8_isKept g0), (pX8_pad g0), (pX8_length g0), (pX8_whyError g0), (pX8_whyNumber g0), (pX8_whySpot g0), (pX8_lots g0), (pX8_walker g0), (pX8_steps g0), (pX8_goes g0), (pX8_becomes g0), (pX8_spot g0), (pX8_isForm g0), o2, (pX8_told g0), (pX8_highest g0))) H → va_D A (wX8 cI cZ cC q0 ((pX8_s g0), (pX8_aside g0), (pX8_past g0), (pX8_known g0), (pX8_kept g0), (pX8_isKept g0), (pX8_pad g0), (pX8_length g0), (pX8_whyError g0), (pX8_whyNumber g0), (pX8_whySpot g0), (pX8_lots g0), (pX8_walker g0), (pX8_steps g0), (pX8_goes g0), (pX8_becomes g0), (pX8_spot g0), (pX8_isForm g0), o2, (pX8_told g0), (pX8_highest g0))) → va_S A s.heap H locs → lv_has ls 1 [(0, .ref (q0 0))] → W p l e (headSpec wsX8_takesDeed rmX8_takesDeed).room s m args below meth c H locs 0 0 (MQ below (va_Qv (fun (_ : Unit) => True) (fun _ => poW (dC, dI) A (wX8 cI cZ cC q0 out)) A) args s 0 0 A) (F0 m 36 ls [.ref (q0 0)]) := by
    intro  hf H locs ls hP hD hS hl
    unfold jX8_takesDeed_3 at hf
    refine lv_iconst (v := 1) hx hb dX8_takesDeed_36 (by decide) ?_
    refine lv_goto (tgt := 41) hx hb dX8_takesDeed_37 (by decide) ?_
    exact hJ1 _ hf _ _ ls hP hD hS (lv_sub hl [0] rfl)
  refine lv_icmp_eq (tgt := 36) hx hb dX8_takesDeed_15 (by decide) (fun hc => ?_) (fun hc => ?_)
  · have hf := ot hc hf
    exact hJ3 hf _ _ ls hP hD hS (lv_sub hl [0] rfl)
  · have hf := oe hc hf
    refine lv_aload_n hx hb dX8_takesDeed_18 rfl (lv_at hl 0 rfl) ?_
    refine va_get (D := (dC, dI)) (ci := 7) (v := .int o2) (C := RX8) (T := TX8) (N := 21) hx hb hts hin8 hown hK hP 0 rfl rfl 18 (by decide) hk0 (fun _ h9 => h9) rfl dX8_takesDeed_19 ?_
    refine lv_bipush (v := 98) hx hb dX8_takesDeed_22 (by decide) ?_
    refine lv_icmp_eq (tgt := 36) hx hb dX8_takesDeed_24 (by decide) (fun hc => ?_) (fun hc => ?_)
    · have hf := ot hc hf
      exact hJ3 hf _ _ ls hP hD hS (lv_sub hl [0] rfl)
    · have hf := oe hc hf
      refine lv_aload_n hx hb dX8_takesDeed_27 rfl (lv_at hl 0 rfl) ?_
      refine va_get (D := (dC, dI)) (ci := 7) (v := .int o2) (C := RX8) (T := TX8) (N := 21) hx hb hts hin8 hown hK hP 0 rfl rfl 18 (by decide) hk0 (fun _ h9 => h9) rfl dX8_takesDeed_28 ?_
      refine lv_bipush (v := 119) hx hb dX8_takesDeed_31 (by decide) ?_
      refine lv_icmp_ne (tgt := 40) hx hb dX8_takesDeed_33 (by decide) (fun hc => ?_) (fun hc => ?_)
      · have hf := oe hc hf
        refine lv_iconst (v := 0) hx hb dX8_takesDeed_40 (by decide) ?_
        exact hJ1 _ hf _ _ ls hP hD hS (lv_sub hl [0] rfl)
      · have hf := ot hc hf
        exact hJ3 hf _ _ ls hP hD hS (lv_sub hl [0] rfl)
/-- RimGrainsModel.private boolean isText(); -/
def jX8_isText_1 (s14 : (GX8)) (y0_1 : Int32) : Option ((GX8) ⊕ (GX8)) :=
  ((fX8_takes y0_1 s14).bind fun o47 => (if (pX8_isForm o47) = 0 then some (.inl o47) else ((fX8_takesDeed o47).bind fun o58 => some (.inl o58))))
def tX8_isText_14 (s14 : (GX8)) : Option ((GX8) ⊕ (GX8)) :=
  (if (pX8_isForm s14) = 0 then some (.inr s14) else (if (pX8_length s14) ≤ (pX8_spot s14) then some (.inr s14) else ((fX8_here s14).bind fun o34 => (if o34 = 59 then jX8_isText_1 s14 1 else jX8_isText_1 s14 0))))
def fX8_isText (g0 : GX8) : Option (Int32 × GX8) :=
  ((fX8_takesDeed ((pX8_s g0), (pX8_aside g0), (pX8_past g0), (pX8_known g0), (pX8_kept g0), (pX8_isKept g0), (pX8_pad g0), (pX8_length g0), (pX8_whyError g0), (pX8_whyNumber g0), (pX8_whySpot g0), (pX8_lots g0), (pX8_walker g0), (pX8_steps g0), (pX8_goes g0), (pX8_becomes g0), 0, 1, (pX8_letter g0), (pX8_told g0), (pX8_highest g0))).bind fun o11 => ((lp tX8_isText_14 FU o11).bind fun o14 => (jgz (pX8_isForm o14) (some ((pX8_isForm o14), o14)))))
abbrev rmX8_isText : Room := { frames := 3, cells := 0, slots := 0, locals := 63 }
set_option maxHeartbeats 4000000 in
set_option maxRecDepth 100000 in
theorem mX8_isText (l : Launch) (dC : Nat → ClassId) (dI : Nat → Nat → Nat) (cI cZ cC cO : ClassId) (q0 : Nat → Nat) (g0 : GX8) (sz : Nat) (out : Int32 × GX8) (hf : fX8_isText g0 = some out) : Met l yX8_isText wsX8_isText rmX8_isText (va_Pc [.ref (q0 0)] (pcW (dC, dI) (wTys cI cZ cC cO) sz (wX8 cI cZ cC q0 g0))) (va_Qi (fun r (_ : Unit) => r = out.1) (fun _ => poW (dC, dI) (va_A (wX8 cI cZ cC q0 g0) sz) (wX8 cI cZ cC q0 out.2)) (va_A (wX8 cI cZ cC q0 g0) sz)) 0 0 (va_A (wX8 cI cZ cC q0 g0) sz) := by
  refine Met.ofW (cc := cX8_isText) (maxL := 1) (ret := (some .boolean)) (by decide) rfl ?_
  intro p e s m args below meth c s₁ B hml hv
  obtain ⟨hargs, hsz, hP, hK, hN, hD0⟩ := hv
  have hx := B.exec
  have hb := B.bytes
  have hr := B.returns
  have hts := atoms_spec (ws := wsX8_isText) B.pre
  have hown : s.vm.findClass RX8 = some m.cls := findClass_of_methodNamed B.named
  have hlocks := B.notSynchronized
  have hk0 := hts (.fieldLink RX8 147 "RimGrainsModel" "spot" "I") (by decide +kernel)
  have hk1 := hts (.fieldLink RX8 150 "RimGrainsModel" "isForm" "Z") (by decide +kernel)
  have hk2 := hts (.fieldLink RX8 144 "RimGrainsModel" "length" "I") (by decide +kernel)
  have hin8 : ∀ w ∈ wsX80, w ∈ wsX8_isText := by decide +kernel
  subst hsz
  have hD := hD0.self (sz := s.heap.size)
  generalize hAe : va_A (wX8 cI cZ cC q0 g0) s.heap.size = A at hD ⊢
  have hA : ∀ q : Nat, s.heap.size ≤ q → A q := fun q h => by rw [← hAe]; exact Or.inr h
  have hS : va_S A s.heap s.heap [] := va_S.rf
  have hE := lg_entry_eq m [.ref (q0 0)] 1
  rw [← hargs] at hE
  rw [hE]
  have hl := lv_entry [.ref (q0 0)] (n := 1) (Nat.le_of_ble_eq_true rfl)
  generalize (lg_sl [.ref (q0 0)] ++ List.replicate (1 - (lg_sl [.ref (q0 0)]).length) Slot.unset).toArray = ls at hl ⊢
  have hl : lv_has ls 1 [(0, .ref (q0 0))] := hl
  have hP : va_P (dC, dI) vwCl (wX8 cI cZ cC q0 g0) s.heap := hP
  unfold fX8_isText at hf
  refine lv_aload_n hx hb dX8_isText_0 rfl (lv_at hl 0 rfl) ?_
  refine lv_iconst (v := 0) hx hb dX8_isText_1 (by decide) ?_
  refine va_put (D := (dC, dI)) (ci := 7) (v := .int 0) (ty := .int) (C := RX8) (T := TX8) (N := 21) hx hb hts hin8 tyX8 tyX8_ok nmX8 hown hK hP hD hS 0 rfl rfl 16 (by decide) hk0 (fun _ h9 => h9) rfl (by decide +kernel) rfl rfl (Nat.le_of_ble_eq_true rfl) dX8_isText_2 (fun H locs hP hD hS => ?_)
  have hP : va_P (dC, dI) vwCl (wX8 cI cZ cC q0 ((pX8_s g0), (pX8_aside g0), (pX8_past g0), (pX8_known g0), (pX8_kept g0), (pX8_isKept g0), (pX8_pad g0), (pX8_length g0), (pX8_whyError g0), (pX8_whyNumber g0), (pX8_whySpot g0), (pX8_lots g0), (pX8_walker g0), (pX8_steps g0), (pX8_goes g0), (pX8_becomes g0), 0, (pX8_isForm g0), (pX8_letter g0), (pX8_told g0), (pX8_highest g0))) H := hP
  have hD : va_D A (wX8 cI cZ cC q0 ((pX8_s g0), (pX8_aside g0), (pX8_past g0), (pX8_known g0), (pX8_kept g0), (pX8_isKept g0), (pX8_pad g0), (pX8_length g0), (pX8_whyError g0), (pX8_whyNumber g0), (pX8_whySpot g0), (pX8_lots g0), (pX8_walker g0), (pX8_steps g0), (pX8_goes g0), (pX8_becomes g0), 0, (pX8_isForm g0), (pX8_letter g0), (pX8_told g0), (pX8_highest g0))) := hD
  refine lv_aload_n hx hb dX8_isText_5 rfl (lv_at hl 0 rfl) ?_
  refine lv_iconst (v := 1) hx hb dX8_isText_6 (by decide) ?_
  refine va_put (D := (dC, dI)) (ci := 7) (v := .int 1) (ty := .boolean) (C := RX8) (T := TX8) (N := 21) hx hb hts hin8 tyX8 tyX8_ok nmX8 hown hK hP hD hS 0 rfl rfl 17 (by decide) hk1 (fun _ h9 => h9) rfl (by decide +kernel) rfl rfl (Nat.le_of_ble_eq_true rfl) dX8_isText_7 (fun H locs hP hD hS => ?_)
  have hP : va_P (dC, dI) vwCl (wX8 cI cZ cC q0 ((pX8_s g0), (pX8_aside g0), (pX8_past g0), (pX8_known g0), (pX8_kept g0), (pX8_isKept g0), (pX8_pad g0), (pX8_length g0), (pX8_whyError g0), (pX8_whyNumber g0), (pX8_whySpot g0), (pX8_lots g0), (pX8_walker g0), (pX8_steps g0), (pX8_goes g0), (pX8_becomes g0), 0, 1, (pX8_letter g0), (pX8_told g0), (pX8_highest g0))) H := hP
  have hD : va_D A (wX8 cI cZ cC q0 ((pX8_s g0), (pX8_aside g0), (pX8_past g0), (pX8_known g0), (pX8_kept g0), (pX8_isKept g0), (pX8_pad g0), (pX8_length g0), (pX8_whyError g0), (pX8_whyNumber g0), (pX8_whySpot g0), (pX8_lots g0), (pX8_walker g0), (pX8_steps g0), (pX8_goes g0), (pX8_becomes g0), 0, 1, (pX8_letter g0), (pX8_told g0), (pX8_highest g0))) := hD
  refine lv_aload_n hx hb dX8_isText_10 rfl (lv_at hl 0 rfl) ?_
  obtain ⟨o11, ho11, hf⟩ := ob hf
  refine wVv (W1 := (fun _ : Unit => (wX8 cI cZ cC q0 o11))) (rest := []) (As := []) ⟨hx, hb, hml, hown, hts⟩ (mX8_takesDeed l dC dI cI cZ cC cO q0 _ _ _ ho11) (cwV 0 hts gX8_isText_X8_takesDeed rfl rfl rfl (by decide +kernel) ⟨Nat.le_of_ble_eq_true rfl, Nat.le_of_ble_eq_true rfl⟩) hK hN hP hD hS hA [0, 1, 2, 3, 4, 5, 6, 7, 8] [] [0, 1, 2, 3, 4, 5, 6, 7, 8] rfl rfl (by decide) (by decide) (fun _ => rfl) 7 rfl rfl rfl rfl hl.1 rfl (Nat.le_of_ble_eq_true rfl) dX8_isText_11 ⟨Nat.zero_le _, Nat.zero_le _⟩ (fun _ H locs hP hD hS => ?_)
  have hP : va_P (dC, dI) vwCl (wX8 cI cZ cC q0 o11) H := hP
  have hD : va_D A (wX8 cI cZ cC q0 o11) := hD
  have hL14 : ∀ (n : Nat) (s14 : GX8) (o14 : GX8), lp tX8_isText_14 n s14 = some o14 → ∀ (H : Heap) (locs : List Loc) (ls : Array Slot), va_P (dC, dI) vwCl (wX8 cI cZ cC q0 s14) H → va_D A (wX8 cI cZ cC q0 s14) → va_S A s.heap H locs → lv_has ls 1 [(0, .ref (q0 0))] → (∀ (H : Heap) (locs : List Loc) (ls : Array Slot), va_P (dC, dI) vwCl (wX8 cI cZ cC q0 o14) H → va_D A (wX8 cI cZ cC q0 o14) → va_S A s.heap H locs → lv_has ls 1 [(0, .ref (q0 0))] → W p l e (headSpec wsX8_isText rmX8_isText).room s m args below meth c H locs 0 0 (MQ below (va_Qi (fun r (_ : Unit) => r = out.1) (fun _ => poW (dC, dI) A (wX8 cI cZ cC q0 out.2)) A) args s 0 0 A) (F0 m 64 ls [])) → W p l e (headSpec wsX8_isText rmX8_isText).room s m args below meth c H locs 0 0 (MQ below (va_Qi (fun r (_ : Unit) => r = out.1) (fun _ => poW (dC, dI) A (wX8 cI cZ cC q0 out.2)) A) args s 0 0 A) (F0 m 14 ls []) := by
    intro n
    induction n with
    | zero => intro s14 o14 hf; exact (lp0 hf).elim
    | succ n ih14 =>
      intro s14 o14 hf H locs ls hP hD hS hl kx
      obtain ⟨r14, hf, hn⟩ := lps hf
      unfold tX8_isText_14 at hf
      refine lv_aload_n hx hb dX8_isText_14 rfl (lv_at hl 0 rfl) ?_
      refine va_get (D := (dC, dI)) (ci := 7) (v := .int (pX8_isForm s14)) (C := RX8) (T := TX8) (N := 21) hx hb hts hin8 hown hK hP 0 rfl rfl 17 (by decide) hk1 (fun _ h9 => h9) rfl dX8_isText_15 ?_
      refine lv_if_eq (tgt := 64) hx hb dX8_isText_18 (by decide) (fun hc => ?_) (fun hc => ?_)
      · have hf := ot hc hf
        obtain rfl := Option.some.inj hf
        obtain rfl := Option.some.inj hn
        exact kx _ _ ls hP hD hS (lv_sub hl [0] rfl)
      · have hf := oe hc hf
        refine lv_aload_n hx hb dX8_isText_21 rfl (lv_at hl 0 rfl) ?_
        refine va_get (D := (dC, dI)) (ci := 7) (v := .int (pX8_spot s14)) (C := RX8) (T := TX8) (N := 21) hx hb hts hin8 hown hK hP 0 rfl rfl 16 (by decide) hk0 (fun _ h9 => h9) rfl dX8_isText_22 ?_
        refine lv_aload_n hx hb dX8_isText_25 rfl (lv_at hl 0 rfl) ?_
        refine va_get (D := (dC, dI)) (ci := 7) (v := .int (pX8_length s14)) (C := RX8) (T := TX8) (N := 21) hx hb hts hin8 hown hK hP 0 rfl rfl 7 (by decide) hk2 (fun _ h9 => h9) rfl dX8_isText_26 ?_
        refine lv_icmp_ge (tgt := 64) hx hb dX8_isText_29 (by decide) (fun hc => ?_) (fun hc => ?_)
        · have hf := ot hc hf
          obtain rfl := Option.some.inj hf
          obtain rfl := Option.some.inj hn
          exact kx _ _ ls hP hD hS (lv_sub hl [0] rfl)
        · have hf := oe hc hf
          refine lv_aload_n hx hb dX8_isText_32 rfl (lv_at hl 0 rfl) ?_
          refine lv_aload_n hx hb dX8_isText_33 rfl (lv_at hl 0 rfl) ?_
          obtain ⟨o34, ho34, hf⟩ := ob hf
          refine rV (rest := [.ref (q0 0)]) (As := []) ⟨hx, hb, hml, hown, hts⟩ (mX8_here l dC dI cI cZ cC cO q0 _ _ ho34) (cwV 0 hts gX8_isText_X8_here rfl rfl rfl (by decide +kernel) ⟨Nat.le_of_ble_eq_true rfl, Nat.le_of_ble_eq_true rfl⟩) hK hN hP [0, 1, 2, 3, 4, 5, 6, 7, 8] rfl 7 rfl rfl rfl rfl hl.1 rfl (Nat.le_of_ble_eq_true rfl) dX8_isText_34 ⟨Nat.zero_le _, Nat.zero_le _⟩ ?_
          refine lv_bipush (v := 59) hx hb dX8_isText_37 (by decide) ?_
          have hJ1 : ∀ (y0_1 : Int32), jX8_isText_1 s14 y0_1 = some r14 → ∀ (H : Heap) (locs : List Loc) (ls : Array Slot), va_P (dC, dI) vwCl (wX8 cI cZ cC q0 s14) H → va_D A (wX8 cI cZ cC q0 s14) → va_S A s.heap H locs → lv_has ls 1 [(0, .ref (q0 0))] → W p l e (headSpec wsX8_isText rmX8_isText).room s m args below meth c H locs 0 0 (MQ below (va_Qi (fun r (_ : Unit) => r = out.1) (fun _ => poW (dC, dI) A (wX8 cI cZ cC q0 out.2)) A) args s 0 0 A) (F0 m 47 ls [.int y0_1, .ref (q0 0)]) := by
            intro y0_1 hf H locs ls hP hD hS hl
            unfold jX8_isText_1 at hf
            obtain ⟨o47, ho47, hf⟩ := ob hf
            refine wVv (W1 := (fun _ : Unit => (wX8 cI cZ cC q0 o47))) (rest := []) (As := [.int y0_1]) ⟨hx, hb, hml, hown, hts⟩ (mX8_takes l dC dI cI cZ cC cO q0 _ _ _ _ ho47) (cwV 1 hts gX8_isText_X8_takes rfl rfl rfl (by decide +kernel) ⟨Nat.le_of_ble_eq_true rfl, Nat.le_of_ble_eq_true rfl⟩) hK hN hP hD hS hA [0, 1, 2, 3, 4, 5, 6, 7, 8] [] [0, 1, 2, 3, 4, 5, 6, 7, 8] rfl rfl (by decide) (by decide) (fun _ => rfl) 7 rfl rfl rfl rfl hl.1 rfl (Nat.le_of_ble_eq_true rfl) dX8_isText_47 ⟨Nat.zero_le _, Nat.zero_le _⟩ (fun _ H locs hP hD hS => ?_)
            have hP : va_P (dC, dI) vwCl (wX8 cI cZ cC q0 o47) H := hP
            have hD : va_D A (wX8 cI cZ cC q0 o47) := hD
            refine lv_aload_n hx hb dX8_isText_50 rfl (lv_at hl 0 rfl) ?_
            refine va_get (D := (dC, dI)) (ci := 7) (v := .int (pX8_isForm o47)) (C := RX8) (T := TX8) (N := 21) hx hb hts hin8 hown hK hP 0 rfl rfl 17 (by decide) hk1 (fun _ h9 => h9) rfl dX8_isText_51 ?_
            refine lv_if_eq (tgt := 14) hx hb dX8_isText_54 (by decide) (fun hc => ?_) (fun hc => ?_)
            · have hf := ot hc hf
              obtain rfl := Option.some.inj hf
              exact ih14 _ _ hn _ _ ls hP hD hS (lv_sub hl [0] rfl) kx
            · have hf := oe hc hf
              refine lv_aload_n hx hb dX8_isText_57 rfl (lv_at hl 0 rfl) ?_
              obtain ⟨o58, ho58, hf⟩ := ob hf
              refine wVv (W1 := (fun _ : Unit => (wX8 cI cZ cC q0 o58))) (rest := []) (As := []) ⟨hx, hb, hml, hown, hts⟩ (mX8_takesDeed l dC dI cI cZ cC cO q0 _ _ _ ho58) (cwV 0 hts gX8_isText_X8_takesDeed rfl rfl rfl (by decide +kernel) ⟨Nat.le_of_ble_eq_true rfl, Nat.le_of_ble_eq_true rfl⟩) hK hN hP hD hS hA [0, 1, 2, 3, 4, 5, 6, 7, 8] [] [0, 1, 2, 3, 4, 5, 6, 7, 8] rfl rfl (by decide) (by decide) (fun _ => rfl) 7 rfl rfl rfl rfl hl.1 rfl (Nat.le_of_ble_eq_true rfl) dX8_isText_58 ⟨Nat.zero_le _, Nat.zero_le _⟩ (fun _ H locs hP hD hS => ?_)
              have hP : va_P (dC, dI) vwCl (wX8 cI cZ cC q0 o58) H := hP
              have hD : va_D A (wX8 cI cZ cC q0 o58) := hD
              refine lv_goto (tgt := 14) hx hb dX8_isText_61 (by decide) ?_
              obtain rfl := Option.some.inj hf
              exact ih14 _ _ hn _ _ ls hP hD hS (lv_sub hl [0] rfl) kx
          refine lv_icmp_ne (tgt := 46) hx hb dX8_isText_39 (by decide) (fun hc => ?_) (fun hc => ?_)
          · have hf := oe hc hf
            refine lv_iconst (v := 0) hx hb dX8_isText_46 (by decide) ?_
            exact hJ1 _ hf _ _ ls hP hD hS (lv_sub hl [0] rfl)
          · have hf := ot hc hf
            refine lv_iconst (v := 1) hx hb dX8_isText_42 (by decide) ?_
            refine lv_goto (tgt := 47) hx hb dX8_isText_43 (by decide) ?_
            exact hJ1 _ hf _ _ ls hP hD hS (lv_sub hl [0] rfl)
  obtain ⟨o14, ho14, hf⟩ := ob hf
  refine hL14 FU _ _ ho14 _ _ ls hP hD hS (lv_sub hl [0] rfl) (fun H locs ls hP hD hS hl => ?_)
  refine lv_aload_n hx hb dX8_isText_64 rfl (lv_at hl 0 rfl) ?_
  refine va_get (D := (dC, dI)) (ci := 7) (v := .int (pX8_isForm o14)) (C := RX8) (T := TX8) (N := 21) hx hb hts hin8 hown hK hP 0 rfl rfl 17 (by decide) hk1 (fun _ h9 => h9) rfl dX8_isText_65 ?_
  obtain ⟨hz, hf⟩ := ogz hf
  obtain rfl := Option.some.inj hf
  exact W.zret (v := (pX8_isForm o14)) (ty := .boolean) hx hb hr (jz_n hz) (fun t ht hW => ⟨⟨_, (), rfl, rfl, by rw [ht]; exact hP, hD⟩, hS.F ht⟩) hS.2.2 dX8_isText_68
/-- RimGrainsModel.public int fault(); -/
def fX8_fault (g0 : GX8) : Option (Int32 × GX8) :=
  ((fX8_isText g0).bind fun o1 => (if o1.1 = 0 then some ((pX8_spot o1.2), o1.2) else some ((-4), o1.2)))
abbrev rmX8_fault : Room := { frames := 4, cells := 0, slots := 0, locals := 83 }
set_option maxHeartbeats 4000000 in
set_option maxRecDepth 100000 in
theorem mX8_fault (l : Launch) (dC : Nat → ClassId) (dI : Nat → Nat → Nat) (cI cZ cC cO : ClassId) (q0 : Nat → Nat) (g0 : GX8) (sz : Nat) (out : Int32 × GX8) (hf : fX8_fault g0 = some out) : Met l yX8_fault wsX8_fault rmX8_fault (va_Pc [.ref (q0 0)] (pcW (dC, dI) (wTys cI cZ cC cO) sz (wX8 cI cZ cC q0 g0))) (va_Qi (fun r (_ : Unit) => r = out.1) (fun _ => poW (dC, dI) (va_A (wX8 cI cZ cC q0 g0) sz) (wX8 cI cZ cC q0 out.2)) (va_A (wX8 cI cZ cC q0 g0) sz)) 0 0 (va_A (wX8 cI cZ cC q0 g0) sz) := by
  refine Met.ofW (cc := cX8_fault) (maxL := 1) (ret := (some .int)) (by decide) rfl ?_
  intro p e s m args below meth c s₁ B hml hv
  obtain ⟨hargs, hsz, hP, hK, hN, hD0⟩ := hv
  have hx := B.exec
  have hb := B.bytes
  have hr := B.returns
  have hts := atoms_spec (ws := wsX8_fault) B.pre
  have hown : s.vm.findClass RX8 = some m.cls := findClass_of_methodNamed B.named
  have hlocks := B.notSynchronized
  have hk0 := hts (.fieldLink RX8 147 "RimGrainsModel" "spot" "I") (by decide +kernel)
  have hin8 : ∀ w ∈ wsX80, w ∈ wsX8_fault := by decide +kernel
  subst hsz
  have hD := hD0.self (sz := s.heap.size)
  generalize hAe : va_A (wX8 cI cZ cC q0 g0) s.heap.size = A at hD ⊢
  have hA : ∀ q : Nat, s.heap.size ≤ q → A q := fun q h => by rw [← hAe]; exact Or.inr h
  have hS : va_S A s.heap s.heap [] := va_S.rf
  have hE := lg_entry_eq m [.ref (q0 0)] 1
  rw [← hargs] at hE
  rw [hE]
  have hl := lv_entry [.ref (q0 0)] (n := 1) (Nat.le_of_ble_eq_true rfl)
  generalize (lg_sl [.ref (q0 0)] ++ List.replicate (1 - (lg_sl [.ref (q0 0)]).length) Slot.unset).toArray = ls at hl ⊢
  have hl : lv_has ls 1 [(0, .ref (q0 0))] := hl
  have hP : va_P (dC, dI) vwCl (wX8 cI cZ cC q0 g0) s.heap := hP
  unfold fX8_fault at hf
  refine lv_aload_n hx hb dX8_fault_0 rfl (lv_at hl 0 rfl) ?_
  obtain ⟨o1, ho1, hf⟩ := ob hf
  refine wVi (W1 := (fun _ : Unit => (wX8 cI cZ cC q0 o1.2))) (rest := []) (As := []) ⟨hx, hb, hml, hown, hts⟩ (mX8_isText l dC dI cI cZ cC cO q0 _ _ _ ho1) (cwV 0 hts gX8_fault_X8_isText rfl rfl rfl (by decide +kernel) ⟨Nat.le_of_ble_eq_true rfl, Nat.le_of_ble_eq_true rfl⟩) hK hN hP hD hS hA [0, 1, 2, 3, 4, 5, 6, 7, 8] [] [0, 1, 2, 3, 4, 5, 6, 7, 8] rfl rfl (by decide) (by decide) (fun _ => rfl) 7 rfl rfl rfl rfl hl.1 rfl (Nat.le_of_ble_eq_true rfl) dX8_fault_1 ⟨Nat.zero_le _, Nat.zero_le _⟩ (fun _ H locs hP hD hS => ?_)
  have hP : va_P (dC, dI) vwCl (wX8 cI cZ cC q0 o1.2) H := hP
  have hD : va_D A (wX8 cI cZ cC q0 o1.2) := hD
  refine lv_if_eq (tgt := 12) hx hb dX8_fault_4 (by decide) (fun hc => ?_) (fun hc => ?_)
  · have hf := ot hc hf
    refine lv_aload_n hx hb dX8_fault_12 rfl (lv_at hl 0 rfl) ?_
    refine va_get (D := (dC, dI)) (ci := 7) (v := .int (pX8_spot o1.2)) (C := RX8) (T := TX8) (N := 21) hx hb hts hin8 hown hK hP 0 rfl rfl 16 (by decide) hk0 (fun _ h9 => h9) rfl dX8_fault_13 ?_
    obtain rfl := Option.some.inj hf
    exact W.iret (v := (pX8_spot o1.2)) hx hb hr (fun t ht hW => ⟨⟨_, (), rfl, rfl, by rw [ht]; exact hP, hD⟩, hS.F ht⟩) hS.2.2 dX8_fault_16
  · have hf := oe hc hf
    refine lv_bipush (v := (-4)) hx hb dX8_fault_7 (by decide) ?_
    refine lv_goto (tgt := 16) hx hb dX8_fault_9 (by decide) ?_
    obtain rfl := Option.some.inj hf
    exact W.iret (v := (-4)) hx hb hr (fun t ht hW => ⟨⟨_, (), rfl, rfl, by rw [ht]; exact hP, hD⟩, hS.F ht⟩) hS.2.2 dX8_fault_16
/-- RimGrainsModel.private int doesDeed(); -/
def jX8_doesDeed_2 (y0_2 : Int32) (g0_2 : GX8) : Option (Int32 × GX8) :=
  some (0, g0_2)
def jX8_doesDeed_1 (g0 : GX8) (y0_1 : Int32) : Option (Int32 × GX8) :=
  (if 0 ≤ y0_1 then (if (pX8_letter g0) = 103 then ((fX8_goGrain (pX8_told g0) g0).bind fun o62 => jX8_doesDeed_2 o62.1 o62.2) else (if (pX8_letter g0) = 98 then ((fX8_goBreak (pX8_told g0) g0).bind fun o82 => jX8_doesDeed_2 o82.1 o82.2) else ((fX8_goWash g0).bind fun o89 => jX8_doesDeed_2 o89.1 o89.2))) else some (y0_1, g0))
def fX8_doesDeed (g0 : GX8) : Option (Int32 × GX8) :=
  (if (pX8_letter g0) = 103 then ((fX8_errorGo (pX8_told g0) g0).bind fun o14 => jX8_doesDeed_1 g0 o14) else (if (pX8_letter g0) = 98 then ((fX8_errorBreak (pX8_told g0) g0).bind fun o34 => jX8_doesDeed_1 g0 o34) else jX8_doesDeed_1 g0 0))
abbrev rmX8_doesDeed : Room := { frames := 5, cells := 0, slots := 0, locals := 115 }
set_option maxHeartbeats 4000000 in
set_option maxRecDepth 100000 in
theorem mX8_doesDeed (l : Launch) (dC : Nat → ClassId) (dI : Nat → Nat → Nat) (cI cZ cC cO : ClassId) (q0 : Nat → Nat) (g0 : GX8) (sz : Nat) (out : Int32 × GX8) (hf : fX8_doesDeed g0 = some out) : Met l yX8_doesDeed wsX8_doesDeed rmX8_doesDeed (va_Pc [.ref (q0 0)] (pcW (dC, dI) (wTys cI cZ cC cO) sz (wX8 cI cZ cC q0 g0))) (va_Qi (fun r (_ : Unit) => r = out.1) (fun _ => poW (dC, dI) (va_A (wX8 cI cZ cC q0 g0) sz) (wX8 cI cZ cC q0 out.2)) (va_A (wX8 cI cZ cC q0 g0) sz)) 0 0 (va_A (wX8 cI cZ cC q0 g0) sz) := by
  refine Met.ofW (cc := cX8_doesDeed) (maxL := 3) (ret := (some .int)) (by decide) rfl ?_
  intro p e s m args below meth c s₁ B hml hv
  obtain ⟨hargs, hsz, hP, hK, hN, hD0⟩ := hv
  have hx := B.exec
  have hb := B.bytes
  have hr := B.returns
  have hts := atoms_spec (ws := wsX8_doesDeed) B.pre
  have hown : s.vm.findClass RX8 = some m.cls := findClass_of_methodNamed B.named
  have hlocks := B.notSynchronized
  have hk0 := hts (.fieldLink RX8 164 "RimGrainsModel" "letter" "I") (by decide +kernel)
  have hk1 := hts (.fieldLink RX8 157 "RimGrainsModel" "told" "I") (by decide +kernel)
  have hin8 : ∀ w ∈ wsX80, w ∈ wsX8_doesDeed := by decide +kernel
  subst hsz
  have hD := hD0.self (sz := s.heap.size)
  generalize hAe : va_A (wX8 cI cZ cC q0 g0) s.heap.size = A at hD ⊢
  have hA : ∀ q : Nat, s.heap.size ≤ q → A q := fun q h => by rw [← hAe]; exact Or.inr h
  have hS : va_S A s.heap s.heap [] := va_S.rf
  have hE := lg_entry_eq m [.ref (q0 0)] 3
  rw [← hargs] at hE
  rw [hE]
  have hl := lv_entry [.ref (q0 0)] (n := 3) (Nat.le_of_ble_eq_true rfl)
  generalize (lg_sl [.ref (q0 0)] ++ List.replicate (3 - (lg_sl [.ref (q0 0)]).length) Slot.unset).toArray = ls at hl ⊢
  have hl : lv_has ls 3 [(0, .ref (q0 0))] := hl
  have hP : va_P (dC, dI) vwCl (wX8 cI cZ cC q0 g0) s.heap := hP
  unfold fX8_doesDeed at hf
  refine lv_aload_n hx hb dX8_doesDeed_0 rfl (lv_at hl 0 rfl) ?_
  refine va_get (D := (dC, dI)) (ci := 7) (v := .int (pX8_letter g0)) (C := RX8) (T := TX8) (N := 21) hx hb hts hin8 hown hK hP 0 rfl rfl 18 (by decide) hk0 (fun _ h9 => h9) rfl dX8_doesDeed_1 ?_
  refine lv_bipush (v := 103) hx hb dX8_doesDeed_4 (by decide) ?_
  have hJ1 : ∀ (y0_1 : Int32), jX8_doesDeed_1 g0 y0_1 = some out → ∀ (H : Heap) (locs : List Loc) (ls : Array Slot), va_P (dC, dI) vwCl (wX8 cI cZ cC q0 g0) H → va_D A (wX8 cI cZ cC q0 g0) → va_S A s.heap H locs → lv_has ls 3 [(0, .ref (q0 0))] → W p l e (headSpec wsX8_doesDeed rmX8_doesDeed).room s m args below meth c H locs 0 0 (MQ below (va_Qi (fun r (_ : Unit) => r = out.1) (fun _ => poW (dC, dI) A (wX8 cI cZ cC q0 out.2)) A) args s 0 0 A) (F0 m 41 ls [.int y0_1]) := by
    intro y0_1 hf H locs ls hP hD hS hl
    unfold jX8_doesDeed_1 at hf
    refine lv_istore_n (lv' := [(1, .int y0_1), (0, .ref (q0 0))]) hx hb dX8_doesDeed_41 rfl hl (by decide) rfl (fun ls hl => ?_)
    refine lv_iload_n hx hb dX8_doesDeed_42 rfl (lv_at hl 0 rfl) ?_
    refine lv_if_ge (tgt := 48) hx hb dX8_doesDeed_43 (by decide) (fun hc => ?_) (fun hc => ?_)
    · have hf := ot hc hf
      refine lv_aload_n hx hb dX8_doesDeed_48 rfl (lv_at hl 1 rfl) ?_
      refine va_get (D := (dC, dI)) (ci := 7) (v := .int (pX8_letter g0)) (C := RX8) (T := TX8) (N := 21) hx hb hts hin8 hown hK hP 0 rfl rfl 18 (by decide) hk0 (fun _ h9 => h9) rfl dX8_doesDeed_49 ?_
      refine lv_bipush (v := 103) hx hb dX8_doesDeed_52 (by decide) ?_
      have hJ2 : ∀ (y0_2 : Int32) (g0_2 : GX8), jX8_doesDeed_2 y0_2 g0_2 = some out → ∀ (H : Heap) (locs : List Loc) (ls : Array Slot), va_P (dC, dI) vwCl (wX8 cI cZ cC q0 g0_2) H → va_D A (wX8 cI cZ cC q0 g0_2) → va_S A s.heap H locs → lv_has ls 3 [] → W p l e (headSpec wsX8_doesDeed rmX8_doesDeed).room s m args below meth c H locs 0 0 (MQ below (va_Qi (fun r (_ : Unit) => r = out.1) (fun _ => poW (dC, dI) A (wX8 cI cZ cC q0 out.2)) A) args s 0 0 A) (F0 m 92 ls [.int y0_2]) := by
        intro y0_2 g0_2 hf H locs ls hP hD hS hl
        unfold jX8_doesDeed_2 at hf
        refine lv_istore_n (lv' := [(2, .int y0_2)]) hx hb dX8_doesDeed_92 rfl hl (by decide) rfl (fun ls hl => ?_)
        refine lv_iconst (v := 0) hx hb dX8_doesDeed_93 (by decide) ?_
        obtain rfl := Option.some.inj hf
        exact W.iret (v := 0) hx hb hr (fun t ht hW => ⟨⟨_, (), rfl, rfl, by rw [ht]; exact hP, hD⟩, hS.F ht⟩) hS.2.2 dX8_doesDeed_94
      refine lv_icmp_ne (tgt := 68) hx hb dX8_doesDeed_54 (by decide) (fun hc => ?_) (fun hc => ?_)
      · have hf := oe hc hf
        refine lv_aload_n hx hb dX8_doesDeed_68 rfl (lv_at hl 1 rfl) ?_
        refine va_get (D := (dC, dI)) (ci := 7) (v := .int (pX8_letter g0)) (C := RX8) (T := TX8) (N := 21) hx hb hts hin8 hown hK hP 0 rfl rfl 18 (by decide) hk0 (fun _ h9 => h9) rfl dX8_doesDeed_69 ?_
        refine lv_bipush (v := 98) hx hb dX8_doesDeed_72 (by decide) ?_
        refine lv_icmp_ne (tgt := 88) hx hb dX8_doesDeed_74 (by decide) (fun hc => ?_) (fun hc => ?_)
        · have hf := oe hc hf
          refine lv_aload_n hx hb dX8_doesDeed_88 rfl (lv_at hl 1 rfl) ?_
          obtain ⟨o89, ho89, hf⟩ := ob hf
          refine wVi (W1 := (fun _ : Unit => (wX8 cI cZ cC q0 o89.2))) (rest := []) (As := []) ⟨hx, hb, hml, hown, hts⟩ (mX8_goWash l dC dI cI cZ cC cO q0 _ _ _ ho89) (cwV 0 hts gX8_doesDeed_X8_goWash rfl rfl rfl (by decide +kernel) ⟨Nat.le_of_ble_eq_true rfl, Nat.le_of_ble_eq_true rfl⟩) hK hN hP hD hS hA [0, 1, 2, 3, 4, 5, 6, 7, 8] [] [0, 1, 2, 3, 4, 5, 6, 7, 8] rfl rfl (by decide) (by decide) (fun _ => rfl) 7 rfl rfl rfl rfl hl.1 rfl (Nat.le_of_ble_eq_true rfl) dX8_doesDeed_89 ⟨Nat.zero_le _, Nat.zero_le _⟩ (fun _ H locs hP hD hS => ?_)
          have hP : va_P (dC, dI) vwCl (wX8 cI cZ cC q0 o89.2) H := hP
          have hD : va_D A (wX8 cI cZ cC q0 o89.2) := hD
          exact hJ2 _ _ hf _ _ ls hP hD hS (lv_sub hl [] rfl)
        · have hf := ot hc hf
          refine lv_aload_n hx hb dX8_doesDeed_77 rfl (lv_at hl 1 rfl) ?_
          refine lv_aload_n hx hb dX8_doesDeed_78 rfl (lv_at hl 1 rfl) ?_
          refine va_get (D := (dC, dI)) (ci := 7) (v := .int (pX8_told g0)) (C := RX8) (T := TX8) (N := 21) hx hb hts hin8 hown hK hP 0 rfl rfl 19 (by decide) hk1 (fun _ h9 => h9) rfl dX8_doesDeed_79 ?_
          obtain ⟨o82, ho82, hf⟩ := ob hf
          refine wVi (W1 := (fun _ : Unit => (wX8 cI cZ cC q0 o82.2))) (rest := []) (As := [.int (pX8_told g0)]) ⟨hx, hb, hml, hown, hts⟩ (mX8_goBreak l dC dI cI cZ cC cO q0 _ _ _ _ ho82) (cwV 1 hts gX8_doesDeed_X8_goBreak rfl rfl rfl (by decide +kernel) ⟨Nat.le_of_ble_eq_true rfl, Nat.le_of_ble_eq_true rfl⟩) hK hN hP hD hS hA [0, 1, 2, 3, 4, 5, 6, 7, 8] [] [0, 1, 2, 3, 4, 5, 6, 7, 8] rfl rfl (by decide) (by decide) (fun _ => rfl) 7 rfl rfl rfl rfl hl.1 rfl (Nat.le_of_ble_eq_true rfl) dX8_doesDeed_82 ⟨Nat.zero_le _, Nat.zero_le _⟩ (fun _ H locs hP hD hS => ?_)
          have hP : va_P (dC, dI) vwCl (wX8 cI cZ cC q0 o82.2) H := hP
          have hD : va_D A (wX8 cI cZ cC q0 o82.2) := hD
          refine lv_goto (tgt := 92) hx hb dX8_doesDeed_85 (by decide) ?_
          exact hJ2 _ _ hf _ _ ls hP hD hS (lv_sub hl [] rfl)
      · have hf := ot hc hf
        refine lv_aload_n hx hb dX8_doesDeed_57 rfl (lv_at hl 1 rfl) ?_
        refine lv_aload_n hx hb dX8_doesDeed_58 rfl (lv_at hl 1 rfl) ?_
        refine va_get (D := (dC, dI)) (ci := 7) (v := .int (pX8_told g0)) (C := RX8) (T := TX8) (N := 21) hx hb hts hin8 hown hK hP 0 rfl rfl 19 (by decide) hk1 (fun _ h9 => h9) rfl dX8_doesDeed_59 ?_
        obtain ⟨o62, ho62, hf⟩ := ob hf
        refine wVi (W1 := (fun _ : Unit => (wX8 cI cZ cC q0 o62.2))) (rest := []) (As := [.int (pX8_told g0)]) ⟨hx, hb, hml, hown, hts⟩ (mX8_goGrain l dC dI cI cZ cC cO q0 _ _ _ _ ho62) (cwV 1 hts gX8_doesDeed_X8_goGrain rfl rfl rfl (by decide +kernel) ⟨Nat.le_of_ble_eq_true rfl, Nat.le_of_ble_eq_true rfl⟩) hK hN hP hD hS hA [0, 1, 2, 3, 4, 5, 6, 7, 8] [] [0, 1, 2, 3, 4, 5, 6, 7, 8] rfl rfl (by decide) (by decide) (fun _ => rfl) 7 rfl rfl rfl rfl hl.1 rfl (Nat.le_of_ble_eq_true rfl) dX8_doesDeed_62 ⟨Nat.zero_le _, Nat.zero_le _⟩ (fun _ H locs hP hD hS => ?_)
        have hP : va_P (dC, dI) vwCl (wX8 cI cZ cC q0 o62.2) H := hP
        have hD : va_D A (wX8 cI cZ cC q0 o62.2) := hD
        refine lv_goto (tgt := 92) hx hb dX8_doesDeed_65 (by decide) ?_
        exact hJ2 _ _ hf _ _ ls hP hD hS (lv_sub hl [] rfl)
    · have hf := oe hc hf
      refine lv_iload_n hx hb dX8_doesDeed_46 rfl (lv_at hl 0 rfl) ?_
      obtain rfl := Option.some.inj hf
      exact W.iret (v := y0_1) hx hb hr (fun t ht hW => ⟨⟨_, (), rfl, rfl, by rw [ht]; exact hP, hD⟩, hS.F ht⟩) hS.2.2 dX8_doesDeed_47
  refine lv_icmp_ne (tgt := 20) hx hb dX8_doesDeed_6 (by decide) (fun hc => ?_) (fun hc => ?_)
  · have hf := oe hc hf
    refine lv_aload_n hx hb dX8_doesDeed_20 rfl (lv_at hl 0 rfl) ?_
    refine va_get (D := (dC, dI)) (ci := 7) (v := .int (pX8_letter g0)) (C := RX8) (T := TX8) (N := 21) hx hb hts hin8 hown hK hP 0 rfl rfl 18 (by decide) hk0 (fun _ h9 => h9) rfl dX8_doesDeed_21 ?_
    refine lv_bipush (v := 98) hx hb dX8_doesDeed_24 (by decide) ?_
    refine lv_icmp_ne (tgt := 40) hx hb dX8_doesDeed_26 (by decide) (fun hc => ?_) (fun hc => ?_)
    · have hf := oe hc hf
      refine lv_iconst (v := 0) hx hb dX8_doesDeed_40 (by decide) ?_
      exact hJ1 _ hf _ _ ls hP hD hS (lv_sub hl [0] rfl)
    · have hf := ot hc hf
      refine lv_aload_n hx hb dX8_doesDeed_29 rfl (lv_at hl 0 rfl) ?_
      refine lv_aload_n hx hb dX8_doesDeed_30 rfl (lv_at hl 0 rfl) ?_
      refine va_get (D := (dC, dI)) (ci := 7) (v := .int (pX8_told g0)) (C := RX8) (T := TX8) (N := 21) hx hb hts hin8 hown hK hP 0 rfl rfl 19 (by decide) hk1 (fun _ h9 => h9) rfl dX8_doesDeed_31 ?_
      obtain ⟨o34, ho34, hf⟩ := ob hf
      refine rV (rest := []) (As := [.int (pX8_told g0)]) ⟨hx, hb, hml, hown, hts⟩ (mX8_errorBreak l dC dI cI cZ cC cO q0 _ _ _ ho34) (cwV 1 hts gX8_doesDeed_X8_errorBreak rfl rfl rfl (by decide +kernel) ⟨Nat.le_of_ble_eq_true rfl, Nat.le_of_ble_eq_true rfl⟩) hK hN hP [0, 1, 2, 3, 4, 5, 6, 7, 8] rfl 7 rfl rfl rfl rfl hl.1 rfl (Nat.le_of_ble_eq_true rfl) dX8_doesDeed_34 ⟨Nat.zero_le _, Nat.zero_le _⟩ ?_
      refine lv_goto (tgt := 41) hx hb dX8_doesDeed_37 (by decide) ?_
      exact hJ1 _ hf _ _ ls hP hD hS (lv_sub hl [0] rfl)
  · have hf := ot hc hf
    refine lv_aload_n hx hb dX8_doesDeed_9 rfl (lv_at hl 0 rfl) ?_
    refine lv_aload_n hx hb dX8_doesDeed_10 rfl (lv_at hl 0 rfl) ?_
    refine va_get (D := (dC, dI)) (ci := 7) (v := .int (pX8_told g0)) (C := RX8) (T := TX8) (N := 21) hx hb hts hin8 hown hK hP 0 rfl rfl 19 (by decide) hk1 (fun _ h9 => h9) rfl dX8_doesDeed_11 ?_
    obtain ⟨o14, ho14, hf⟩ := ob hf
    refine rV (rest := []) (As := [.int (pX8_told g0)]) ⟨hx, hb, hml, hown, hts⟩ (mX8_errorGo l dC dI cI cZ cC cO q0 _ _ _ ho14) (cwV 1 hts gX8_doesDeed_X8_errorGo rfl rfl rfl (by decide +kernel) ⟨Nat.le_of_ble_eq_true rfl, Nat.le_of_ble_eq_true rfl⟩) hK hN hP [0, 1, 2, 3, 4, 5, 6, 7, 8] rfl 7 rfl rfl rfl rfl hl.1 rfl (Nat.le_of_ble_eq_true rfl) dX8_doesDeed_14 ⟨Nat.zero_le _, Nat.zero_le _⟩ ?_
    refine lv_goto (tgt := 41) hx hb dX8_doesDeed_17 (by decide) ?_
    exact hJ1 _ hf _ _ ls hP hD hS (lv_sub hl [0] rfl)
/-- RimGrainsModel.public int carryOut(); -/
def jX8_carryOut_1 (s26 : (Int32 × GX8)) (o73 : (Int32 × GX8)) (y0_1 : Int32) : Option ((Int32 × GX8) ⊕ (Int32 × GX8)) :=
  some (.inl ((s26.1 + y0_1), ((pX8_s o73.2), (pX8_aside o73.2), (pX8_past o73.2), (pX8_known o73.2), (pX8_kept o73.2), (pX8_isKept o73.2), (pX8_pad o73.2), (pX8_length o73.2), o73.1, (pX8_whyNumber o73.2), (pX8_whySpot o73.2), (pX8_lots o73.2), (pX8_walker o73.2), (pX8_steps o73.2), (pX8_goes o73.2), (pX8_becomes o73.2), (pX8_spot o73.2), (pX8_isForm o73.2), (pX8_letter o73.2), (pX8_told o73.2), (pX8_highest o73.2))))
def tX8_carryOut_26 (s26 : (Int32 × GX8)) : Option ((Int32 × GX8) ⊕ (Int32 × GX8)) :=
  (if (pX8_whyError s26.2) = 0 then (if (pX8_length s26.2) ≤ (pX8_spot s26.2) then some (.inr (s26.1, s26.2)) else ((fX8_takesDeed ((pX8_s s26.2), (pX8_aside s26.2), (pX8_past s26.2), (pX8_known s26.2), (pX8_kept s26.2), (pX8_isKept s26.2), (pX8_pad s26.2), (pX8_length s26.2), (pX8_whyError s26.2), s26.1, (pX8_spot s26.2), (pX8_lots s26.2), (pX8_walker s26.2), (pX8_steps s26.2), (pX8_goes s26.2), (pX8_becomes s26.2), (pX8_spot s26.2), (pX8_isForm s26.2), (pX8_letter s26.2), (pX8_told s26.2), (pX8_highest s26.2))).bind fun o58 => ((fX8_doesDeed ((pX8_s o58), (pX8_aside o58), (pX8_past o58), (pX8_known o58), (pX8_kept o58), (pX8_isKept o58), (pX8_pad o58), (pX8_length o58), (pX8_whyError o58), (pX8_whyNumber o58), (pX8_whySpot o58), (pX8_lots o58), (pX8_walker o58), (pX8_steps o58), (pX8_goes o58), (pX8_becomes o58), ((pX8_spot o58) + 1), (pX8_isForm o58), (pX8_letter o58), (pX8_told o58), (pX8_highest o58))).bind fun o73 => (if o73.1 = 0 then jX8_carryOut_1 s26 o73 1 else jX8_carryOut_1 s26 o73 0)))) else some (.inr (s26.1, s26.2)))
def fX8_carryOut (g0 : GX8) : Option (Int32 × GX8) :=
  ((fX8_isText g0).bind fun o1 => (if o1.1 = 0 then some ((-2), o1.2) else ((fX8_records o1.2).bind fun o11 => ((lp tX8_carryOut_26 FU (0, ((pX8_s o11), (pX8_aside o11), (pX8_past o11), (pX8_known o11), (pX8_kept o11), (pX8_isKept o11), (pX8_pad o11), (pX8_length o11), 0, (pX8_whyNumber o11), (pX8_whySpot o11), (pX8_lots o11), (pX8_walker o11), (pX8_steps o11), (pX8_goes o11), (pX8_becomes o11), 0, (pX8_isForm o11), (pX8_letter o11), (pX8_told o11), (pX8_highest o11)))).bind fun o26 => some (o26.1, ((pX8_s o26.2), (pX8_aside o26.2), (pX8_past o26.2), (pX8_known o26.2), (pX8_kept o26.2), (pX8_isKept o26.2), (pX8_pad o26.2), 0, (pX8_whyError o26.2), (pX8_whyNumber o26.2), (pX8_whySpot o26.2), (pX8_lots o26.2), (pX8_walker o26.2), (pX8_steps o26.2), (pX8_goes o26.2), (pX8_becomes o26.2), (pX8_spot o26.2), (pX8_isForm o26.2), (pX8_letter o26.2), (pX8_told o26.2), (pX8_highest o26.2)))))))
abbrev rmX8_carryOut : Room := { frames := 6, cells := 0, slots := 0, locals := 137 }
set_option maxHeartbeats 4000000 in
set_option maxRecDepth 100000 in
theorem mX8_carryOut (l : Launch) (dC : Nat → ClassId) (dI : Nat → Nat → Nat) (cI cZ cC cO : ClassId) (q0 : Nat → Nat) (g0 : GX8) (sz : Nat) (out : Int32 × GX8) (hf : fX8_carryOut g0 = some out) : Met l yX8_carryOut wsX8_carryOut rmX8_carryOut (va_Pc [.ref (q0 0)] (pcW (dC, dI) (wTys cI cZ cC cO) sz (wX8 cI cZ cC q0 g0))) (va_Qi (fun r (_ : Unit) => r = out.1) (fun _ => poW (dC, dI) (va_A (wX8 cI cZ cC q0 g0) sz) (wX8 cI cZ cC q0 out.2)) (va_A (wX8 cI cZ cC q0 g0) sz)) 0 0 (va_A (wX8 cI cZ cC q0 g0) sz) := by
  refine Met.ofW (cc := cX8_carryOut) (maxL := 2) (ret := (some .int)) (by decide) rfl ?_
  intro p e s m args below meth c s₁ B hml hv
  obtain ⟨hargs, hsz, hP, hK, hN, hD0⟩ := hv
  have hx := B.exec
  have hb := B.bytes
  have hr := B.returns
  have hts := atoms_spec (ws := wsX8_carryOut) B.pre
  have hown : s.vm.findClass RX8 = some m.cls := findClass_of_methodNamed B.named
  have hlocks := B.notSynchronized
  have hk0 := hts (.fieldLink RX8 147 "RimGrainsModel" "spot" "I") (by decide +kernel)
  have hk1 := hts (.fieldLink RX8 176 "RimGrainsModel" "whyError" "I") (by decide +kernel)
  have hk2 := hts (.fieldLink RX8 144 "RimGrainsModel" "length" "I") (by decide +kernel)
  have hk3 := hts (.fieldLink RX8 179 "RimGrainsModel" "whySpot" "I") (by decide +kernel)
  have hk4 := hts (.fieldLink RX8 182 "RimGrainsModel" "whyNumber" "I") (by decide +kernel)
  have hin8 : ∀ w ∈ wsX80, w ∈ wsX8_carryOut := by decide +kernel
  subst hsz
  have hD := hD0.self (sz := s.heap.size)
  generalize hAe : va_A (wX8 cI cZ cC q0 g0) s.heap.size = A at hD ⊢
  have hA : ∀ q : Nat, s.heap.size ≤ q → A q := fun q h => by rw [← hAe]; exact Or.inr h
  have hS : va_S A s.heap s.heap [] := va_S.rf
  have hE := lg_entry_eq m [.ref (q0 0)] 2
  rw [← hargs] at hE
  rw [hE]
  have hl := lv_entry [.ref (q0 0)] (n := 2) (Nat.le_of_ble_eq_true rfl)
  generalize (lg_sl [.ref (q0 0)] ++ List.replicate (2 - (lg_sl [.ref (q0 0)]).length) Slot.unset).toArray = ls at hl ⊢
  have hl : lv_has ls 2 [(0, .ref (q0 0))] := hl
  have hP : va_P (dC, dI) vwCl (wX8 cI cZ cC q0 g0) s.heap := hP
  unfold fX8_carryOut at hf
  refine lv_aload_n hx hb dX8_carryOut_0 rfl (lv_at hl 0 rfl) ?_
  obtain ⟨o1, ho1, hf⟩ := ob hf
  refine wVi (W1 := (fun _ : Unit => (wX8 cI cZ cC q0 o1.2))) (rest := []) (As := []) ⟨hx, hb, hml, hown, hts⟩ (mX8_isText l dC dI cI cZ cC cO q0 _ _ _ ho1) (cwV 0 hts gX8_carryOut_X8_isText rfl rfl rfl (by decide +kernel) ⟨Nat.le_of_ble_eq_true rfl, Nat.le_of_ble_eq_true rfl⟩) hK hN hP hD hS hA [0, 1, 2, 3, 4, 5, 6, 7, 8] [] [0, 1, 2, 3, 4, 5, 6, 7, 8] rfl rfl (by decide) (by decide) (fun _ => rfl) 7 rfl rfl rfl rfl hl.1 rfl (Nat.le_of_ble_eq_true rfl) dX8_carryOut_1 ⟨Nat.zero_le _, Nat.zero_le _⟩ (fun _ H locs hP hD hS => ?_)
  have hP : va_P (dC, dI) vwCl (wX8 cI cZ cC q0 o1.2) H := hP
  have hD : va_D A (wX8 cI cZ cC q0 o1.2) := hD
  refine lv_if_ne (tgt := 10) hx hb dX8_carryOut_4 (by decide) (fun hc => ?_) (fun hc => ?_)
  · have hf := oe hc hf
    refine lv_aload_n hx hb dX8_carryOut_10 rfl (lv_at hl 0 rfl) ?_
    obtain ⟨o11, ho11, hf⟩ := ob hf
    refine wVv (W1 := (fun _ : Unit => (wX8 cI cZ cC q0 o11))) (rest := []) (As := []) ⟨hx, hb, hml, hown, hts⟩ (mX8_records l dC dI cI cZ cC cO q0 _ _ _ ho11) (cwV 0 hts gX8_carryOut_X8_records rfl rfl rfl (by decide +kernel) ⟨Nat.le_of_ble_eq_true rfl, Nat.le_of_ble_eq_true rfl⟩) hK hN hP hD hS hA [0, 1, 2, 3, 4, 5, 6, 7, 8] [] [0, 1, 2, 3, 4, 5, 6, 7, 8] rfl rfl (by decide) (by decide) (fun _ => rfl) 7 rfl rfl rfl rfl hl.1 rfl (Nat.le_of_ble_eq_true rfl) dX8_carryOut_11 ⟨Nat.zero_le _, Nat.zero_le _⟩ (fun _ H locs hP hD hS => ?_)
    have hP : va_P (dC, dI) vwCl (wX8 cI cZ cC q0 o11) H := hP
    have hD : va_D A (wX8 cI cZ cC q0 o11) := hD
    refine lv_aload_n hx hb dX8_carryOut_14 rfl (lv_at hl 0 rfl) ?_
    refine lv_iconst (v := 0) hx hb dX8_carryOut_15 (by decide) ?_
    refine va_put (D := (dC, dI)) (ci := 7) (v := .int 0) (ty := .int) (C := RX8) (T := TX8) (N := 21) hx hb hts hin8 tyX8 tyX8_ok nmX8 hown hK hP hD hS 0 rfl rfl 16 (by decide) hk0 (fun _ h9 => h9) rfl (by decide +kernel) rfl rfl (Nat.le_of_ble_eq_true rfl) dX8_carryOut_16 (fun H locs hP hD hS => ?_)
    have hP : va_P (dC, dI) vwCl (wX8 cI cZ cC q0 ((pX8_s o11), (pX8_aside o11), (pX8_past o11), (pX8_known o11), (pX8_kept o11), (pX8_isKept o11), (pX8_pad o11), (pX8_length o11), (pX8_whyError o11), (pX8_whyNumber o11), (pX8_whySpot o11), (pX8_lots o11), (pX8_walker o11), (pX8_steps o11), (pX8_goes o11), (pX8_becomes o11), 0, (pX8_isForm o11), (pX8_letter o11), (pX8_told o11), (pX8_highest o11))) H := hP
    have hD : va_D A (wX8 cI cZ cC q0 ((pX8_s o11), (pX8_aside o11), (pX8_past o11), (pX8_known o11), (pX8_kept o11), (pX8_isKept o11), (pX8_pad o11), (pX8_length o11), (pX8_whyError o11), (pX8_whyNumber o11), (pX8_whySpot o11), (pX8_lots o11), (pX8_walker o11), (pX8_steps o11), (pX8_goes o11), (pX8_becomes o11), 0, (pX8_isForm o11), (pX8_letter o11), (pX8_told o11), (pX8_highest o11))) := hD
    refine lv_aload_n hx hb dX8_carryOut_19 rfl (lv_at hl 0 rfl) ?_
    refine lv_iconst (v := 0) hx hb dX8_carryOut_20 (by decide) ?_
    refine va_put (D := (dC, dI)) (ci := 7) (v := .int 0) (ty := .int) (C := RX8) (T := TX8) (N := 21) hx hb hts hin8 tyX8 tyX8_ok nmX8 hown hK hP hD hS 0 rfl rfl 8 (by decide) hk1 (fun _ h9 => h9) rfl (by decide +kernel) rfl rfl (Nat.le_of_ble_eq_true rfl) dX8_carryOut_21 (fun H locs hP hD hS => ?_)
    have hP : va_P (dC, dI) vwCl (wX8 cI cZ cC q0 ((pX8_s o11), (pX8_aside o11), (pX8_past o11), (pX8_known o11), (pX8_kept o11), (pX8_isKept o11), (pX8_pad o11), (pX8_length o11), 0, (pX8_whyNumber o11), (pX8_whySpot o11), (pX8_lots o11), (pX8_walker o11), (pX8_steps o11), (pX8_goes o11), (pX8_becomes o11), 0, (pX8_isForm o11), (pX8_letter o11), (pX8_told o11), (pX8_highest o11))) H := hP
    have hD : va_D A (wX8 cI cZ cC q0 ((pX8_s o11), (pX8_aside o11), (pX8_past o11), (pX8_known o11), (pX8_kept o11), (pX8_isKept o11), (pX8_pad o11), (pX8_length o11), 0, (pX8_whyNumber o11), (pX8_whySpot o11), (pX8_lots o11), (pX8_walker o11), (pX8_steps o11), (pX8_goes o11), (pX8_becomes o11), 0, (pX8_isForm o11), (pX8_letter o11), (pX8_told o11), (pX8_highest o11))) := hD
    refine lv_iconst (v := 0) hx hb dX8_carryOut_24 (by decide) ?_
    refine lv_istore_n (lv' := [(1, .int 0), (0, .ref (q0 0))]) hx hb dX8_carryOut_25 rfl hl (by decide) rfl (fun ls hl => ?_)
    have hL26 : ∀ (n : Nat) (s26 : Int32 × GX8) (o26 : Int32 × GX8), lp tX8_carryOut_26 n s26 = some o26 → ∀ (H : Heap) (locs : List Loc) (ls : Array Slot), va_P (dC, dI) vwCl (wX8 cI cZ cC q0 s26.2) H → va_D A (wX8 cI cZ cC q0 s26.2) → va_S A s.heap H locs → lv_has ls 2 [(0, .ref (q0 0)), (1, .int s26.1)] → (∀ (H : Heap) (locs : List Loc) (ls : Array Slot), va_P (dC, dI) vwCl (wX8 cI cZ cC q0 o26.2) H → va_D A (wX8 cI cZ cC q0 o26.2) → va_S A s.heap H locs → lv_has ls 2 [(0, .ref (q0 0)), (1, .int o26.1)] → W p l e (headSpec wsX8_carryOut rmX8_carryOut).room s m args below meth c H locs 0 0 (MQ below (va_Qi (fun r (_ : Unit) => r = out.1) (fun _ => poW (dC, dI) A (wX8 cI cZ cC q0 out.2)) A) args s 0 0 A) (F0 m 97 ls [])) → W p l e (headSpec wsX8_carryOut rmX8_carryOut).room s m args below meth c H locs 0 0 (MQ below (va_Qi (fun r (_ : Unit) => r = out.1) (fun _ => poW (dC, dI) A (wX8 cI cZ cC q0 out.2)) A) args s 0 0 A) (F0 m 26 ls []) := by
      intro n
      induction n with
      | zero => intro s26 o26 hf; exact (lp0 hf).elim
      | succ n ih26 =>
        intro s26 o26 hf H locs ls hP hD hS hl kx
        obtain ⟨r26, hf, hn⟩ := lps hf
        unfold tX8_carryOut_26 at hf
        refine lv_aload_n hx hb dX8_carryOut_26 rfl (lv_at hl 0 rfl) ?_
        refine va_get (D := (dC, dI)) (ci := 7) (v := .int (pX8_whyError s26.2)) (C := RX8) (T := TX8) (N := 21) hx hb hts hin8 hown hK hP 0 rfl rfl 8 (by decide) hk1 (fun _ h9 => h9) rfl dX8_carryOut_27 ?_
        refine lv_if_ne (tgt := 97) hx hb dX8_carryOut_30 (by decide) (fun hc => ?_) (fun hc => ?_)
        · have hf := oe hc hf
          obtain rfl := Option.some.inj hf
          obtain rfl := Option.some.inj hn
          exact kx _ _ ls hP hD hS (lv_sub hl [0, 1] rfl)
        · have hf := ot hc hf
          refine lv_aload_n hx hb dX8_carryOut_33 rfl (lv_at hl 0 rfl) ?_
          refine va_get (D := (dC, dI)) (ci := 7) (v := .int (pX8_spot s26.2)) (C := RX8) (T := TX8) (N := 21) hx hb hts hin8 hown hK hP 0 rfl rfl 16 (by decide) hk0 (fun _ h9 => h9) rfl dX8_carryOut_34 ?_
          refine lv_aload_n hx hb dX8_carryOut_37 rfl (lv_at hl 0 rfl) ?_
          refine va_get (D := (dC, dI)) (ci := 7) (v := .int (pX8_length s26.2)) (C := RX8) (T := TX8) (N := 21) hx hb hts hin8 hown hK hP 0 rfl rfl 7 (by decide) hk2 (fun _ h9 => h9) rfl dX8_carryOut_38 ?_
          refine lv_icmp_ge (tgt := 97) hx hb dX8_carryOut_41 (by decide) (fun hc => ?_) (fun hc => ?_)
          · have hf := ot hc hf
            obtain rfl := Option.some.inj hf
            obtain rfl := Option.some.inj hn
            exact kx _ _ ls hP hD hS (lv_sub hl [0, 1] rfl)
          · have hf := oe hc hf
            refine lv_aload_n hx hb dX8_carryOut_44 rfl (lv_at hl 0 rfl) ?_
            refine lv_aload_n hx hb dX8_carryOut_45 rfl (lv_at hl 0 rfl) ?_
            refine va_get (D := (dC, dI)) (ci := 7) (v := .int (pX8_spot s26.2)) (C := RX8) (T := TX8) (N := 21) hx hb hts hin8 hown hK hP 0 rfl rfl 16 (by decide) hk0 (fun _ h9 => h9) rfl dX8_carryOut_46 ?_
            refine va_put (D := (dC, dI)) (ci := 7) (v := .int (pX8_spot s26.2)) (ty := .int) (C := RX8) (T := TX8) (N := 21) hx hb hts hin8 tyX8 tyX8_ok nmX8 hown hK hP hD hS 0 rfl rfl 10 (by decide) hk3 (fun _ h9 => h9) rfl (by decide +kernel) rfl rfl (Nat.le_of_ble_eq_true rfl) dX8_carryOut_49 (fun H locs hP hD hS => ?_)
            have hP : va_P (dC, dI) vwCl (wX8 cI cZ cC q0 ((pX8_s s26.2), (pX8_aside s26.2), (pX8_past s26.2), (pX8_known s26.2), (pX8_kept s26.2), (pX8_isKept s26.2), (pX8_pad s26.2), (pX8_length s26.2), (pX8_whyError s26.2), (pX8_whyNumber s26.2), (pX8_spot s26.2), (pX8_lots s26.2), (pX8_walker s26.2), (pX8_steps s26.2), (pX8_goes s26.2), (pX8_becomes s26.2), (pX8_spot s26.2), (pX8_isForm s26.2), (pX8_letter s26.2), (pX8_told s26.2), (pX8_highest s26.2))) H := hP
            have hD : va_D A (wX8 cI cZ cC q0 ((pX8_s s26.2), (pX8_aside s26.2), (pX8_past s26.2), (pX8_known s26.2), (pX8_kept s26.2), (pX8_isKept s26.2), (pX8_pad s26.2), (pX8_length s26.2), (pX8_whyError s26.2), (pX8_whyNumber s26.2), (pX8_spot s26.2), (pX8_lots s26.2), (pX8_walker s26.2), (pX8_steps s26.2), (pX8_goes s26.2), (pX8_becomes s26.2), (pX8_spot s26.2), (pX8_isForm s26.2), (pX8_letter s26.2), (pX8_told s26.2), (pX8_highest s26.2))) := hD
            refine lv_aload_n hx hb dX8_carryOut_52 rfl (lv_at hl 0 rfl) ?_
            refine lv_iload_n hx hb dX8_carryOut_53 rfl (lv_at hl 1 rfl) ?_
            refine va_put (D := (dC, dI)) (ci := 7) (v := .int s26.1) (ty := .int) (C := RX8) (T := TX8) (N := 21) hx hb hts hin8 tyX8 tyX8_ok nmX8 hown hK hP hD hS 0 rfl rfl 9 (by decide) hk4 (fun _ h9 => h9) rfl (by decide +kernel) rfl rfl (Nat.le_of_ble_eq_true rfl) dX8_carryOut_54 (fun H locs hP hD hS => ?_)
            have hP : va_P (dC, dI) vwCl (wX8 cI cZ cC q0 ((pX8_s s26.2), (pX8_aside s26.2), (pX8_past s26.2), (pX8_known s26.2), (pX8_kept s26.2), (pX8_isKept s26.2), (pX8_pad s26.2), (pX8_length s26.2), (pX8_whyError s26.2), s26.1, (pX8_spot s26.2), (pX8_lots s26.2), (pX8_walker s26.2), (pX8_steps s26.2), (pX8_goes s26.2), (pX8_becomes s26.2), (pX8_spot s26.2), (pX8_isForm s26.2), (pX8_letter s26.2), (pX8_told s26.2), (pX8_highest s26.2))) H := hP
            have hD : va_D A (wX8 cI cZ cC q0 ((pX8_s s26.2), (pX8_aside s26.2), (pX8_past s26.2), (pX8_known s26.2), (pX8_kept s26.2), (pX8_isKept s26.2), (pX8_pad s26.2), (pX8_length s26.2), (pX8_whyError s26.2), s26.1, (pX8_spot s26.2), (pX8_lots s26.2), (pX8_walker s26.2), (pX8_steps s26.2), (pX8_goes s26.2), (pX8_becomes s26.2), (pX8_spot s26.2), (pX8_isForm s26.2), (pX8_letter s26.2), (pX8_told s26.2), (pX8_highest s26.2))) := hD
            refine lv_aload_n hx hb dX8_carryOut_57 rfl (lv_at hl 0 rfl) ?_
            obtain ⟨o58, ho58, hf⟩ := ob hf
            refine wVv (W1 := (fun _ : Unit => (wX8 cI cZ cC q0 o58))) (rest := []) (As := []) ⟨hx, hb, hml, hown, hts⟩ (mX8_takesDeed l dC dI cI cZ cC cO q0 _ _ _ ho58) (cwV 0 hts gX8_carryOut_X8_takesDeed rfl rfl rfl (by decide +kernel) ⟨Nat.le_of_ble_eq_true rfl, Nat.le_of_ble_eq_true rfl⟩) hK hN hP hD hS hA [0, 1, 2, 3, 4, 5, 6, 7, 8] [] [0, 1, 2, 3, 4, 5, 6, 7, 8] rfl rfl (by decide) (by decide) (fun _ => rfl) 7 rfl rfl rfl rfl hl.1 rfl (Nat.le_of_ble_eq_true rfl) dX8_carryOut_58 ⟨Nat.zero_le _, Nat.zero_le _⟩ (fun _ H locs hP hD hS => ?_)
            have hP : va_P (dC, dI) vwCl (wX8 cI cZ cC q0 o58) H := hP
            have hD : va_D A (wX8 cI cZ cC q0 o58) := hD
            refine lv_aload_n hx hb dX8_carryOut_61 rfl (lv_at hl 0 rfl) ?_
            refine lv_dup hx hb dX8_carryOut_62 rfl ?_
            refine va_get (D := (dC, dI)) (ci := 7) (v := .int (pX8_spot o58)) (C := RX8) (T := TX8) (N := 21) hx hb hts hin8 hown hK hP 0 rfl rfl 16 (by decide) hk0 (fun _ h9 => h9) rfl dX8_carryOut_63 ?_
            refine lv_iconst (v := 1) hx hb dX8_carryOut_66 (by decide) ?_
            refine lv_iadd hx hb dX8_carryOut_67 ?_
            refine va_put (D := (dC, dI)) (ci := 7) (v := .int ((pX8_spot o58) + 1)) (ty := .int) (C := RX8) (T := TX8) (N := 21) hx hb hts hin8 tyX8 tyX8_ok nmX8 hown hK hP hD hS 0 rfl rfl 16 (by decide) hk0 (fun _ h9 => h9) rfl (by decide +kernel) rfl rfl (Nat.le_of_ble_eq_true rfl) dX8_carryOut_68 (fun H locs hP hD hS => ?_)
            have hP : va_P (dC, dI) vwCl (wX8 cI cZ cC q0 ((pX8_s o58), (pX8_aside o58), (pX8_past o58), (pX8_known o58), (pX8_kept o58), (pX8_isKept o58), (pX8_pad o58), (pX8_length o58), (pX8_whyError o58), (pX8_whyNumber o58), (pX8_whySpot o58), (pX8_lots o58), (pX8_walker o58), (pX8_steps o58), (pX8_goes o58), (pX8_becomes o58), ((pX8_spot o58) + 1), (pX8_isForm o58), (pX8_letter o58), (pX8_told o58), (pX8_highest o58))) H := hP
            have hD : va_D A (wX8 cI cZ cC q0 ((pX8_s o58), (pX8_aside o58), (pX8_past o58), (pX8_known o58), (pX8_kept o58), (pX8_isKept o58), (pX8_pad o58), (pX8_length o58), (pX8_whyError o58), (pX8_whyNumber o58), (pX8_whySpot o58), (pX8_lots o58), (pX8_walker o58), (pX8_steps o58), (pX8_goes o58), (pX8_becomes o58), ((pX8_spot o58) + 1), (pX8_isForm o58), (pX8_letter o58), (pX8_told o58), (pX8_highest o58))) := hD
            refine lv_aload_n hx hb dX8_carryOut_71 rfl (lv_at hl 0 rfl) ?_
            refine lv_aload_n hx hb dX8_carryOut_72 rfl (lv_at hl 0 rfl) ?_
            obtain ⟨o73, ho73, hf⟩ := ob hf
            refine wVi (W1 := (fun _ : Unit => (wX8 cI cZ cC q0 o73.2))) (rest := [.ref (q0 0)]) (As := []) ⟨hx, hb, hml, hown, hts⟩ (mX8_doesDeed l dC dI cI cZ cC cO q0 _ _ _ ho73) (cwV 0 hts gX8_carryOut_X8_doesDeed rfl rfl rfl (by decide +kernel) ⟨Nat.le_of_ble_eq_true rfl, Nat.le_of_ble_eq_true rfl⟩) hK hN hP hD hS hA [0, 1, 2, 3, 4, 5, 6, 7, 8] [] [0, 1, 2, 3, 4, 5, 6, 7, 8] rfl rfl (by decide) (by decide) (fun _ => rfl) 7 rfl rfl rfl rfl hl.1 rfl (Nat.le_of_ble_eq_true rfl) dX8_carryOut_73 ⟨Nat.zero_le _, Nat.zero_le _⟩ (fun _ H locs hP hD hS => ?_)
            have hP : va_P (dC, dI) vwCl (wX8 cI cZ cC q0 o73.2) H := hP
            have hD : va_D A (wX8 cI cZ cC q0 o73.2) := hD
            refine va_put (D := (dC, dI)) (ci := 7) (v := .int o73.1) (ty := .int) (C := RX8) (T := TX8) (N := 21) hx hb hts hin8 tyX8 tyX8_ok nmX8 hown hK hP hD hS 0 rfl rfl 8 (by decide) hk1 (fun _ h9 => h9) rfl (by decide +kernel) rfl rfl (Nat.le_of_ble_eq_true rfl) dX8_carryOut_76 (fun H locs hP hD hS => ?_)
            have hP : va_P (dC, dI) vwCl (wX8 cI cZ cC q0 ((pX8_s o73.2), (pX8_aside o73.2), (pX8_past o73.2), (pX8_known o73.2), (pX8_kept o73.2), (pX8_isKept o73.2), (pX8_pad o73.2), (pX8_length o73.2), o73.1, (pX8_whyNumber o73.2), (pX8_whySpot o73.2), (pX8_lots o73.2), (pX8_walker o73.2), (pX8_steps o73.2), (pX8_goes o73.2), (pX8_becomes o73.2), (pX8_spot o73.2), (pX8_isForm o73.2), (pX8_letter o73.2), (pX8_told o73.2), (pX8_highest o73.2))) H := hP
            have hD : va_D A (wX8 cI cZ cC q0 ((pX8_s o73.2), (pX8_aside o73.2), (pX8_past o73.2), (pX8_known o73.2), (pX8_kept o73.2), (pX8_isKept o73.2), (pX8_pad o73.2), (pX8_length o73.2), o73.1, (pX8_whyNumber o73.2), (pX8_whySpot o73.2), (pX8_lots o73.2), (pX8_walker o73.2), (pX8_steps o73.2), (pX8_goes o73.2), (pX8_becomes o73.2), (pX8_spot o73.2), (pX8_isForm o73.2), (pX8_letter o73.2), (pX8_told o73.2), (pX8_highest o73.2))) := hD
            refine lv_iload_n hx hb dX8_carryOut_79 rfl (lv_at hl 1 rfl) ?_
            refine lv_aload_n hx hb dX8_carryOut_80 rfl (lv_at hl 0 rfl) ?_
            refine va_get (D := (dC, dI)) (ci := 7) (v := .int o73.1) (C := RX8) (T := TX8) (N := 21) hx hb hts hin8 hown hK hP 0 rfl rfl 8 (by decide) hk1 (fun _ h9 => h9) rfl dX8_carryOut_81 ?_
            have hJ1 : ∀ (y0_1 : Int32), jX8_carryOut_1 s26 o73 y0_1 = some r26 → ∀ (H : Heap) (locs : List Loc) (ls : Array Slot), va_P (dC, dI) vwCl (wX8 cI cZ cC q0 ((pX8_s o73.2), (pX8_aside o73.2), (pX8_past o73.2), (pX8_known o73.2), (pX8_kept o73.2), (pX8_isKept o73.2), (pX8_pad o73.2), (pX8_length o73.2), o73.1, (pX8_whyNumber o73.2), (pX8_whySpot o73.2), (pX8_lots o73.2), (pX8_walker o73.2), (pX8_steps o73.2), (pX8_goes o73.2), (pX8_becomes o73.2), (pX8_spot o73.2), (pX8_isForm o73.2), (pX8_letter o73.2), (pX8_told o73.2), (pX8_highest o73.2))) H → va_D A (wX8 cI cZ cC q0 ((pX8_s o73.2), (pX8_aside o73.2), (pX8_past o73.2), (pX8_known o73.2), (pX8_kept o73.2), (pX8_isKept o73.2), (pX8_pad o73.2), (pX8_length o73.2), o73.1, (pX8_whyNumber o73.2), (pX8_whySpot o73.2), (pX8_lots o73.2), (pX8_walker o73.2), (pX8_steps o73.2), (pX8_goes o73.2), (pX8_becomes o73.2), (pX8_spot o73.2), (pX8_isForm o73.2), (pX8_letter o73.2), (pX8_told o73.2), (pX8_highest o73.2))) → va_S A s.heap H locs → lv_has ls 2 [(0, .ref (q0 0))] → W p l e (headSpec wsX8_carryOut rmX8_carryOut).room s m args below meth c H locs 0 0 (MQ below (va_Qi (fun r (_ : Unit) => r = out.1) (fun _ => poW (dC, dI) A (wX8 cI cZ cC q0 out.2)) A) args s 0 0 A) (F0 m 92 ls [.int y0_1, .int s26.1]) := by
              intro y0_1 hf H locs ls hP hD hS hl
              unfold jX8_carryOut_1 at hf
              refine lv_iadd hx hb dX8_carryOut_92 ?_
              refine lv_istore_n (lv' := [(1, .int (s26.1 + y0_1)), (0, .ref (q0 0))]) hx hb dX8_carryOut_93 rfl hl (by decide) rfl (fun ls hl => ?_)
              refine lv_goto (tgt := 26) hx hb dX8_carryOut_94 (by decide) ?_
              obtain rfl := Option.some.inj hf
              exact ih26 _ _ hn _ _ ls hP hD hS (lv_sub hl [1, 0] rfl) kx
            refine lv_if_ne (tgt := 91) hx hb dX8_carryOut_84 (by decide) (fun hc => ?_) (fun hc => ?_)
            · have hf := oe hc hf
              refine lv_iconst (v := 0) hx hb dX8_carryOut_91 (by decide) ?_
              exact hJ1 _ hf _ _ ls hP hD hS (lv_sub hl [0] rfl)
            · have hf := ot hc hf
              refine lv_iconst (v := 1) hx hb dX8_carryOut_87 (by decide) ?_
              refine lv_goto (tgt := 92) hx hb dX8_carryOut_88 (by decide) ?_
              exact hJ1 _ hf _ _ ls hP hD hS (lv_sub hl [0] rfl)
    obtain ⟨o26, ho26, hf⟩ := ob hf
    refine hL26 FU _ _ ho26 _ _ ls hP hD hS (lv_sub hl [1, 0] rfl) (fun H locs ls hP hD hS hl => ?_)
    refine lv_aload_n hx hb dX8_carryOut_97 rfl (lv_at hl 0 rfl) ?_
    refine lv_iconst (v := 0) hx hb dX8_carryOut_98 (by decide) ?_
    refine va_put (D := (dC, dI)) (ci := 7) (v := .int 0) (ty := .int) (C := RX8) (T := TX8) (N := 21) hx hb hts hin8 tyX8 tyX8_ok nmX8 hown hK hP hD hS 0 rfl rfl 7 (by decide) hk2 (fun _ h9 => h9) rfl (by decide +kernel) rfl rfl (Nat.le_of_ble_eq_true rfl) dX8_carryOut_99 (fun H locs hP hD hS => ?_)
    have hP : va_P (dC, dI) vwCl (wX8 cI cZ cC q0 ((pX8_s o26.2), (pX8_aside o26.2), (pX8_past o26.2), (pX8_known o26.2), (pX8_kept o26.2), (pX8_isKept o26.2), (pX8_pad o26.2), 0, (pX8_whyError o26.2), (pX8_whyNumber o26.2), (pX8_whySpot o26.2), (pX8_lots o26.2), (pX8_walker o26.2), (pX8_steps o26.2), (pX8_goes o26.2), (pX8_becomes o26.2), (pX8_spot o26.2), (pX8_isForm o26.2), (pX8_letter o26.2), (pX8_told o26.2), (pX8_highest o26.2))) H := hP
    have hD : va_D A (wX8 cI cZ cC q0 ((pX8_s o26.2), (pX8_aside o26.2), (pX8_past o26.2), (pX8_known o26.2), (pX8_kept o26.2), (pX8_isKept o26.2), (pX8_pad o26.2), 0, (pX8_whyError o26.2), (pX8_whyNumber o26.2), (pX8_whySpot o26.2), (pX8_lots o26.2), (pX8_walker o26.2), (pX8_steps o26.2), (pX8_goes o26.2), (pX8_becomes o26.2), (pX8_spot o26.2), (pX8_isForm o26.2), (pX8_letter o26.2), (pX8_told o26.2), (pX8_highest o26.2))) := hD
    refine lv_iload_n hx hb dX8_carryOut_102 rfl (lv_at hl 1 rfl) ?_
    obtain rfl := Option.some.inj hf
    exact W.iret (v := o26.1) hx hb hr (fun t ht hW => ⟨⟨_, (), rfl, rfl, by rw [ht]; exact hP, hD⟩, hS.F ht⟩) hS.2.2 dX8_carryOut_103
  · have hf := ot hc hf
    refine lv_bipush (v := (-2)) hx hb dX8_carryOut_7 (by decide) ?_
    obtain rfl := Option.some.inj hf
    exact W.iret (v := (-2)) hx hb hr (fun t ht hW => ⟨⟨_, (), rfl, rfl, by rw [ht]; exact hP, hD⟩, hS.F ht⟩) hS.2.2 dX8_carryOut_9
/-- RimGrainsModel.public int why(int); -/
def fX8_why (a1 : Int32) (g0 : GX8) : Option (Int32) :=
  ((fX8_in a1 0 2).bind fun o3 => (if o3 = 0 then some (-1) else (if (pX8_whyError g0) = 0 then some (-4) else (if a1 = 0 then some (pX8_whyError g0) else (if a1 = 1 then some (pX8_whyNumber g0) else some (pX8_whySpot g0))))))
abbrev rmX8_why : Room := { frames := 1, cells := 0, slots := 0, locals := 22 }
set_option maxHeartbeats 4000000 in
set_option maxRecDepth 100000 in
theorem mX8_why (l : Launch) (dC : Nat → ClassId) (dI : Nat → Nat → Nat) (cI cZ cC cO : ClassId) (q0 : Nat → Nat) (a1 : Int32) (g0 : GX8) (out : Int32) (hf : fX8_why a1 g0 = some out) : Met l yX8_why wsX8_why rmX8_why (va_Pc [.ref (q0 0), .int a1] (pcR (dC, dI) (wTys cI cZ cC cO) (wX8 cI cZ cC q0 g0))) (vp_Si (fun r => r = out)) 0 0 (fun _ => False) := by
  refine Met.ofW (cc := cX8_why) (maxL := 2) (ret := (some .int)) (by decide) rfl ?_
  intro p e s m args below meth c s₁ B hml hv
  obtain ⟨hargs, hP, hK, hN⟩ := hv
  have hx := B.exec
  have hb := B.bytes
  have hr := B.returns
  have hts := atoms_spec (ws := wsX8_why) B.pre
  have hown : s.vm.findClass RX8 = some m.cls := findClass_of_methodNamed B.named
  have hlocks := B.notSynchronized
  have hk0 := hts (.fieldLink RX8 176 "RimGrainsModel" "whyError" "I") (by decide +kernel)
  have hk1 := hts (.fieldLink RX8 179 "RimGrainsModel" "whySpot" "I") (by decide +kernel)
  have hk2 := hts (.fieldLink RX8 182 "RimGrainsModel" "whyNumber" "I") (by decide +kernel)
  have hin8 : ∀ w ∈ wsX80, w ∈ wsX8_why := by decide +kernel
  have hE := lg_entry_eq m [.ref (q0 0), .int a1] 2
  rw [← hargs] at hE
  rw [hE]
  have hl := lv_entry [.ref (q0 0), .int a1] (n := 2) (Nat.le_of_ble_eq_true rfl)
  generalize (lg_sl [.ref (q0 0), .int a1] ++ List.replicate (2 - (lg_sl [.ref (q0 0), .int a1]).length) Slot.unset).toArray = ls at hl ⊢
  have hl : lv_has ls 2 [(0, .ref (q0 0)), (1, .int a1)] := hl
  unfold fX8_why at hf
  refine lv_iload_n hx hb dX8_why_0 rfl (lv_at hl 1 rfl) ?_
  refine lv_iconst (v := 0) hx hb dX8_why_1 (by decide) ?_
  refine lv_iconst (v := 2) hx hb dX8_why_2 (by decide) ?_
  obtain ⟨o3, ho3, hf⟩ := ob hf
  refine rS (rest := []) (As := [.int a1, .int 0, .int 2]) ⟨hx, hb, hml, hown, hts⟩ (mX8_in l dC dI cI cZ cC cO  _ _ _ _ ho3) (va_cwS 3 hts gX8_why_X8_in rfl rfl rfl (by decide +kernel) ⟨Nat.le_of_ble_eq_true rfl, Nat.le_of_ble_eq_true rfl⟩) hK hN hP [] rfl rfl hl.1 rfl (Nat.le_of_ble_eq_true rfl) dX8_why_3 ⟨Nat.zero_le _, Nat.zero_le _⟩ ?_
  refine lv_if_ne (tgt := 11) hx hb dX8_why_6 (by decide) (fun hc => ?_) (fun hc => ?_)
  · have hf := oe hc hf
    refine lv_aload_n hx hb dX8_why_11 rfl (lv_at hl 0 rfl) ?_
    refine va_get (D := (dC, dI)) (ci := 7) (v := .int (pX8_whyError g0)) (C := RX8) (T := TX8) (N := 21) hx hb hts hin8 hown hK hP 0 rfl rfl 8 (by decide) hk0 (fun _ h9 => h9) rfl dX8_why_12 ?_
    refine lv_if_ne (tgt := 23) hx hb dX8_why_15 (by decide) (fun hc => ?_) (fun hc => ?_)
    · have hf := oe hc hf
      refine lv_iload_n hx hb dX8_why_23 rfl (lv_at hl 1 rfl) ?_
      refine lv_if_ne (tgt := 34) hx hb dX8_why_24 (by decide) (fun hc => ?_) (fun hc => ?_)
      · have hf := oe hc hf
        refine lv_iload_n hx hb dX8_why_34 rfl (lv_at hl 1 rfl) ?_
        refine lv_iconst (v := 1) hx hb dX8_why_35 (by decide) ?_
        refine lv_icmp_ne (tgt := 46) hx hb dX8_why_36 (by decide) (fun hc => ?_) (fun hc => ?_)
        · have hf := oe hc hf
          refine lv_aload_n hx hb dX8_why_46 rfl (lv_at hl 0 rfl) ?_
          refine va_get (D := (dC, dI)) (ci := 7) (v := .int (pX8_whySpot g0)) (C := RX8) (T := TX8) (N := 21) hx hb hts hin8 hown hK hP 0 rfl rfl 10 (by decide) hk1 (fun _ h9 => h9) rfl dX8_why_47 ?_
          obtain rfl := Option.some.inj hf
          exact W.iret (v := (pX8_whySpot g0)) hx hb hr (fun t ht hW => ⟨_, rfl, rfl, ht⟩) (fun _ h => by cases h) dX8_why_50
        · have hf := ot hc hf
          refine lv_aload_n hx hb dX8_why_39 rfl (lv_at hl 0 rfl) ?_
          refine va_get (D := (dC, dI)) (ci := 7) (v := .int (pX8_whyNumber g0)) (C := RX8) (T := TX8) (N := 21) hx hb hts hin8 hown hK hP 0 rfl rfl 9 (by decide) hk2 (fun _ h9 => h9) rfl dX8_why_40 ?_
          refine lv_goto (tgt := 50) hx hb dX8_why_43 (by decide) ?_
          obtain rfl := Option.some.inj hf
          exact W.iret (v := (pX8_whyNumber g0)) hx hb hr (fun t ht hW => ⟨_, rfl, rfl, ht⟩) (fun _ h => by cases h) dX8_why_50
      · have hf := ot hc hf
        refine lv_aload_n hx hb dX8_why_27 rfl (lv_at hl 0 rfl) ?_
        refine va_get (D := (dC, dI)) (ci := 7) (v := .int (pX8_whyError g0)) (C := RX8) (T := TX8) (N := 21) hx hb hts hin8 hown hK hP 0 rfl rfl 8 (by decide) hk0 (fun _ h9 => h9) rfl dX8_why_28 ?_
        refine lv_goto (tgt := 50) hx hb dX8_why_31 (by decide) ?_
        obtain rfl := Option.some.inj hf
        exact W.iret (v := (pX8_whyError g0)) hx hb hr (fun t ht hW => ⟨_, rfl, rfl, ht⟩) (fun _ h => by cases h) dX8_why_50
    · have hf := ot hc hf
      refine lv_bipush (v := (-4)) hx hb dX8_why_18 (by decide) ?_
      refine lv_goto (tgt := 50) hx hb dX8_why_20 (by decide) ?_
      obtain rfl := Option.some.inj hf
      exact W.iret (v := (-4)) hx hb hr (fun t ht hW => ⟨_, rfl, rfl, ht⟩) (fun _ h => by cases h) dX8_why_50
  · have hf := ot hc hf
    refine lv_iconst (v := (-1)) hx hb dX8_why_9 (by decide) ?_
    obtain rfl := Option.some.inj hf
    exact W.iret (v := (-1)) hx hb hr (fun t ht hW => ⟨_, rfl, rfl, ht⟩) (fun _ h => by cases h) dX8_why_10
