/-- RimGrains$State.int grainAt(int); -/
def fX4_grainAt (a1 : Int32) (g0 : GX4) : Option (Int32) :=
  (if a1 < 0 then some (-4) else (if 121 ≤ a1 then some (-4) else (if a1 < 0 ∨ 121 ≤ a1.toNatClampNeg then none else some ((pX4_grainsByCell g0) a1.toNatClampNeg))))
abbrev rmX4_grainAt : Room := { frames := 0, cells := 0, slots := 0, locals := 0 }
set_option maxHeartbeats 4000000 in
set_option maxRecDepth 100000 in
theorem cX4_grainAt (l : Launch) (dC : Nat → ClassId) (dI : Nat → Nat → Nat) (cI cZ cC cO : ClassId) (q0 : Nat → Nat) (a1 : Int32) (g0 : GX4) (out : Int32) (hf : fX4_grainAt a1 g0 = some out) : Met l yX4_grainAt wsX4_grainAt rmX4_grainAt (va_Pc [.ref (q0 0), .int a1] (pcR (dC, dI) (wTys cI cZ cC cO) (wX4 cI cZ cC q0 g0))) (vp_Si (fun r => r = out)) 0 0 (fun _ => False) := by
  refine Met.ofW (cc := cX4_grainAt) (maxL := 2) (ret := (some .int)) (by decide) rfl ?_
  intro p e s m args below meth c s₁ B hml hv
  obtain ⟨hargs, hP, hK, hN⟩ := hv
  have hx := B.exec
  have hb := B.bytes
  have hr := B.returns
  have hts := atoms_spec (ws := wsX4_grainAt) B.pre
  have hown : s.vm.findClass RX4 = some m.cls := findClass_of_methodNamed B.named
  have hlocks := B.notSynchronized
  have hk0 := hts (.fieldLink RX4 21 "RimGrains$State" "grainsByCell" "[I") (by decide +kernel)
  have hin4 : ∀ w ∈ wsX40, w ∈ wsX4_grainAt := by decide +kernel
  have hE := lg_entry_eq m [.ref (q0 0), .int a1] 2
  rw [← hargs] at hE
  rw [hE]
  have hl := lv_entry [.ref (q0 0), .int a1] (n := 2) (Nat.le_of_ble_eq_true rfl)
  generalize (lg_sl [.ref (q0 0), .int a1] ++ List.replicate (2 - (lg_sl [.ref (q0 0), .int a1]).length) Slot.unset).toArray = ls at hl ⊢
  have hl : lv_has ls 2 [(0, .ref (q0 0)), (1, .int a1)] := hl
  unfold fX4_grainAt at hf
  refine lv_iload_n hx hb dX4_grainAt_0 rfl (lv_at hl 1 rfl) ?_
  refine lv_if_lt (tgt := 19) hx hb dX4_grainAt_1 (by decide) (fun hc => ?_) (fun hc => ?_)
  · have hf := ot hc hf
    refine lv_bipush (v := (-4)) hx hb dX4_grainAt_19 (by decide) ?_
    obtain rfl := Option.some.inj hf
    exact W.iret (v := (-4)) hx hb hr (fun t ht hW => ⟨_, rfl, rfl, ht⟩) (fun _ h => by cases h) dX4_grainAt_21
  · have hf := oe hc hf
    refine lv_iload_n hx hb dX4_grainAt_4 rfl (lv_at hl 1 rfl) ?_
    refine lv_bipush (v := 121) hx hb dX4_grainAt_5 (by decide) ?_
    refine lv_icmp_ge (tgt := 19) hx hb dX4_grainAt_7 (by decide) (fun hc => ?_) (fun hc => ?_)
    · have hf := ot hc hf
      refine lv_bipush (v := (-4)) hx hb dX4_grainAt_19 (by decide) ?_
      obtain rfl := Option.some.inj hf
      exact W.iret (v := (-4)) hx hb hr (fun t ht hW => ⟨_, rfl, rfl, ht⟩) (fun _ h => by cases h) dX4_grainAt_21
    · have hf := oe hc hf
      refine lv_aload_n hx hb dX4_grainAt_10 rfl (lv_at hl 0 rfl) ?_
      refine va_get (D := (dC, dI)) (ci := 3) (v := .ref (q0 4)) (C := RX4) (T := TX4) (N := 11) hx hb hts hin4 hown hK hP 0 rfl rfl 3 (by decide) hk0 (fun _ h9 => h9) rfl dX4_grainAt_11 ?_
      refine lv_iload_n hx hb dX4_grainAt_14 rfl (lv_at hl 1 rfl) ?_
      obtain ⟨hin, hf⟩ := og hf
      refine va_iald hx hb hK hP 4 0 rfl rfl hin dX4_grainAt_15 ?_
      refine lv_goto (tgt := 21) hx hb dX4_grainAt_16 (by decide) ?_
      obtain rfl := Option.some.inj hf
      exact W.iret (v := ((pX4_grainsByCell g0) a1.toNatClampNeg)) hx hb hr (fun t ht hW => ⟨_, rfl, rfl, ht⟩) (fun _ h => by cases h) dX4_grainAt_21

/-- RimGrains$Plate.static int neighbour(int, int); -/
def fX2_neighbour (a0 : Int32) (a1 : Int32) : Option (Int32) :=
  (if a0 < 0 then some (-4) else (if a0 < 121 then (if a1 = 0 then (if (a0 / 11) ≤ 0 then some (-4) else some (a0 - 11)) else (if a1 = 1 then (if 10 ≤ (jrem a0 11) then some (-4) else some (a0 + 1)) else (if a1 = 2 then (if 10 ≤ (a0 / 11) then some (-4) else some (a0 + 11)) else (if a1 = 3 then (if (jrem a0 11) ≤ 0 then some (-4) else some (a0 - 1)) else some (-4))))) else some (-4)))
abbrev rmX2_neighbour : Room := { frames := 0, cells := 0, slots := 0, locals := 0 }
set_option maxHeartbeats 4000000 in
set_option maxRecDepth 100000 in
theorem cX2_neighbour (l : Launch) (dC : Nat → ClassId) (dI : Nat → Nat → Nat) (cI cZ cC cO : ClassId) (a0 : Int32) (a1 : Int32) (out : Int32) (hf : fX2_neighbour a0 a1 = some out) : Met l yX2_neighbour wsX2_neighbour rmX2_neighbour (va_Pc [.int a0, .int a1] (pcR (dC, dI) (wTys cI cZ cC cO) ([] : va_W))) (vp_Si (fun r => r = out)) 0 0 (fun _ => False) := by
  refine Met.ofW (cc := cX2_neighbour) (maxL := 4) (ret := (some .int)) (by decide) rfl ?_
  intro p e s m args below meth c s₁ B hml hv
  obtain ⟨hargs, hP, hK, hN⟩ := hv
  have hx := B.exec
  have hb := B.bytes
  have hr := B.returns
  have hts := atoms_spec (ws := wsX2_neighbour) B.pre
  have hown : s.vm.findClass RX2 = some m.cls := findClass_of_methodNamed B.named
  have hlocks := B.notSynchronized
  have hE := lg_entry_eq m [.int a0, .int a1] 4
  rw [← hargs] at hE
  rw [hE]
  have hl := lv_entry [.int a0, .int a1] (n := 4) (Nat.le_of_ble_eq_true rfl)
  generalize (lg_sl [.int a0, .int a1] ++ List.replicate (4 - (lg_sl [.int a0, .int a1]).length) Slot.unset).toArray = ls at hl ⊢
  have hl : lv_has ls 4 [(0, .int a0), (1, .int a1)] := hl
  unfold fX2_neighbour at hf
  refine lv_iload_n hx hb dX2_neighbour_0 rfl (lv_at hl 0 rfl) ?_
  refine lv_if_lt (tgt := 10) hx hb dX2_neighbour_1 (by decide) (fun hc => ?_) (fun hc => ?_)
  · have hf := ot hc hf
    refine lv_bipush (v := (-4)) hx hb dX2_neighbour_10 (by decide) ?_
    obtain rfl := Option.some.inj hf
    exact W.iret (v := (-4)) hx hb hr (fun t ht hW => ⟨_, rfl, rfl, ht⟩) (fun _ h => by cases h) dX2_neighbour_12
  · have hf := oe hc hf
    refine lv_iload_n hx hb dX2_neighbour_4 rfl (lv_at hl 0 rfl) ?_
    refine lv_bipush (v := 121) hx hb dX2_neighbour_5 (by decide) ?_
    refine lv_icmp_lt (tgt := 13) hx hb dX2_neighbour_7 (by decide) (fun hc => ?_) (fun hc => ?_)
    · have hf := ot hc hf
      refine lv_iload_n hx hb dX2_neighbour_13 rfl (lv_at hl 0 rfl) ?_
      refine lv_bipush (v := 11) hx hb dX2_neighbour_14 (by decide) ?_
      refine lv_idiv hx hb dX2_neighbour_16 (by decide) ?_
      refine lv_istore_n (lv' := [(2, .int (a0 / 11)), (0, .int a0), (1, .int a1)]) hx hb dX2_neighbour_17 rfl hl (by decide) rfl (fun ls hl => ?_)
      refine lv_iload_n hx hb dX2_neighbour_18 rfl (lv_at hl 1 rfl) ?_
      refine lv_bipush (v := 11) hx hb dX2_neighbour_19 (by decide) ?_
      refine jirem hx hb dX2_neighbour_21 (by decide) ?_
      refine lv_istore_n (lv' := [(3, .int (jrem a0 11)), (2, .int (a0 / 11)), (0, .int a0), (1, .int a1)]) hx hb dX2_neighbour_22 rfl hl (by decide) rfl (fun ls hl => ?_)
      refine lv_iload_n hx hb dX2_neighbour_23 rfl (lv_at hl 3 rfl) ?_
      by_cases hs24_0 : a1 = 0
      · have hf := ot hs24_0 hf
        refine lv_tableIn (off := 32) (tgt := 56) hx hb dX2_neighbour_24 (by rw [hs24_0]; decide) (by rw [hs24_0]; decide) (by rw [hs24_0]; rfl) (by decide) ?_
        refine lv_iload_n hx hb dX2_neighbour_56 rfl (lv_at hl 1 rfl) ?_
        refine lv_if_le (tgt := 67) hx hb dX2_neighbour_57 (by decide) (fun hc => ?_) (fun hc => ?_)
        · have hf := ot hc hf
          refine lv_bipush (v := (-4)) hx hb dX2_neighbour_67 (by decide) ?_
          obtain rfl := Option.some.inj hf
          exact W.iret (v := (-4)) hx hb hr (fun t ht hW => ⟨_, rfl, rfl, ht⟩) (fun _ h => by cases h) dX2_neighbour_69
        · have hf := oe hc hf
          refine lv_iload_n hx hb dX2_neighbour_60 rfl (lv_at hl 2 rfl) ?_
          refine lv_bipush (v := 11) hx hb dX2_neighbour_61 (by decide) ?_
          refine lv_isub hx hb dX2_neighbour_63 ?_
          refine lv_goto (tgt := 69) hx hb dX2_neighbour_64 (by decide) ?_
          obtain rfl := Option.some.inj hf
          exact W.iret (v := (a0 - 11)) hx hb hr (fun t ht hW => ⟨_, rfl, rfl, ht⟩) (fun _ h => by cases h) dX2_neighbour_69
      have hf := oe hs24_0 hf
      by_cases hs24_1 : a1 = 1
      · have hf := ot hs24_1 hf
        refine lv_tableIn (off := 46) (tgt := 70) hx hb dX2_neighbour_24 (by rw [hs24_1]; decide) (by rw [hs24_1]; decide) (by rw [hs24_1]; rfl) (by decide) ?_
        refine lv_iload_n hx hb dX2_neighbour_70 rfl (lv_at hl 0 rfl) ?_
        refine lv_bipush (v := 10) hx hb dX2_neighbour_71 (by decide) ?_
        refine lv_icmp_ge (tgt := 82) hx hb dX2_neighbour_73 (by decide) (fun hc => ?_) (fun hc => ?_)
        · have hf := ot hc hf
          refine lv_bipush (v := (-4)) hx hb dX2_neighbour_82 (by decide) ?_
          obtain rfl := Option.some.inj hf
          exact W.iret (v := (-4)) hx hb hr (fun t ht hW => ⟨_, rfl, rfl, ht⟩) (fun _ h => by cases h) dX2_neighbour_84
        · have hf := oe hc hf
          refine lv_iload_n hx hb dX2_neighbour_76 rfl (lv_at hl 2 rfl) ?_
          refine lv_iconst (v := 1) hx hb dX2_neighbour_77 (by decide) ?_
          refine lv_iadd hx hb dX2_neighbour_78 ?_
          refine lv_goto (tgt := 84) hx hb dX2_neighbour_79 (by decide) ?_
          obtain rfl := Option.some.inj hf
          exact W.iret (v := (a0 + 1)) hx hb hr (fun t ht hW => ⟨_, rfl, rfl, ht⟩) (fun _ h => by cases h) dX2_neighbour_84
      have hf := oe hs24_1 hf
      by_cases hs24_2 : a1 = 2
      · have hf := ot hs24_2 hf
        refine lv_tableIn (off := 61) (tgt := 85) hx hb dX2_neighbour_24 (by rw [hs24_2]; decide) (by rw [hs24_2]; decide) (by rw [hs24_2]; rfl) (by decide) ?_
        refine lv_iload_n hx hb dX2_neighbour_85 rfl (lv_at hl 1 rfl) ?_
        refine lv_bipush (v := 10) hx hb dX2_neighbour_86 (by decide) ?_
        refine lv_icmp_ge (tgt := 98) hx hb dX2_neighbour_88 (by decide) (fun hc => ?_) (fun hc => ?_)
        · have hf := ot hc hf
          refine lv_bipush (v := (-4)) hx hb dX2_neighbour_98 (by decide) ?_
          obtain rfl := Option.some.inj hf
          exact W.iret (v := (-4)) hx hb hr (fun t ht hW => ⟨_, rfl, rfl, ht⟩) (fun _ h => by cases h) dX2_neighbour_100
        · have hf := oe hc hf
          refine lv_iload_n hx hb dX2_neighbour_91 rfl (lv_at hl 2 rfl) ?_
          refine lv_bipush (v := 11) hx hb dX2_neighbour_92 (by decide) ?_
          refine lv_iadd hx hb dX2_neighbour_94 ?_
          refine lv_goto (tgt := 100) hx hb dX2_neighbour_95 (by decide) ?_
          obtain rfl := Option.some.inj hf
          exact W.iret (v := (a0 + 11)) hx hb hr (fun t ht hW => ⟨_, rfl, rfl, ht⟩) (fun _ h => by cases h) dX2_neighbour_100
      have hf := oe hs24_2 hf
      by_cases hs24_3 : a1 = 3
      · have hf := ot hs24_3 hf
        refine lv_tableIn (off := 77) (tgt := 101) hx hb dX2_neighbour_24 (by rw [hs24_3]; decide) (by rw [hs24_3]; decide) (by rw [hs24_3]; rfl) (by decide) ?_
        refine lv_iload_n hx hb dX2_neighbour_101 rfl (lv_at hl 0 rfl) ?_
        refine lv_if_le (tgt := 111) hx hb dX2_neighbour_102 (by decide) (fun hc => ?_) (fun hc => ?_)
        · have hf := ot hc hf
          refine lv_bipush (v := (-4)) hx hb dX2_neighbour_111 (by decide) ?_
          obtain rfl := Option.some.inj hf
          exact W.iret (v := (-4)) hx hb hr (fun t ht hW => ⟨_, rfl, rfl, ht⟩) (fun _ h => by cases h) dX2_neighbour_113
        · have hf := oe hc hf
          refine lv_iload_n hx hb dX2_neighbour_105 rfl (lv_at hl 2 rfl) ?_
          refine lv_iconst (v := 1) hx hb dX2_neighbour_106 (by decide) ?_
          refine lv_isub hx hb dX2_neighbour_107 ?_
          refine lv_goto (tgt := 113) hx hb dX2_neighbour_108 (by decide) ?_
          obtain rfl := Option.some.inj hf
          exact W.iret (v := (a0 - 1)) hx hb hr (fun t ht hW => ⟨_, rfl, rfl, ht⟩) (fun _ h => by cases h) dX2_neighbour_113
      have hf := oe hs24_3 hf
      have hs24_0T := lv_neT (a := 0) hs24_0 rfl
      have hs24_1T := lv_neT (a := 1) hs24_1 rfl
      have hs24_2T := lv_neT (a := 2) hs24_2 rfl
      have hs24_3T := lv_neT (a := 3) hs24_3 rfl
      refine lv_tableOut (tgt := 114) hx hb dX2_neighbour_24 (by omega) (by decide) ?_
      refine lv_bipush (v := (-4)) hx hb dX2_neighbour_114 (by decide) ?_
      obtain rfl := Option.some.inj hf
      exact W.iret (v := (-4)) hx hb hr (fun t ht hW => ⟨_, rfl, rfl, ht⟩) (fun _ h => by cases h) dX2_neighbour_116
    · have hf := oe hc hf
      refine lv_bipush (v := (-4)) hx hb dX2_neighbour_10 (by decide) ?_
      obtain rfl := Option.some.inj hf
      exact W.iret (v := (-4)) hx hb hr (fun t ht hW => ⟨_, rfl, rfl, ht⟩) (fun _ h => by cases h) dX2_neighbour_12

/-- RimGrains$State.boolean isGrain(int); -/
def fX4_isGrain (a1 : Int32) (g0 : GX4) : Option (Int32) :=
  (if a1 < 0 then some 0 else (if (pX4_grains g0) ≤ a1 then some 0 else some 1))
abbrev rmX4_isGrain : Room := { frames := 0, cells := 0, slots := 0, locals := 0 }
set_option maxHeartbeats 4000000 in
set_option maxRecDepth 100000 in
theorem cX4_isGrain (l : Launch) (dC : Nat → ClassId) (dI : Nat → Nat → Nat) (cI cZ cC cO : ClassId) (q0 : Nat → Nat) (a1 : Int32) (g0 : GX4) (out : Int32) (hf : fX4_isGrain a1 g0 = some out) : Met l yX4_isGrain wsX4_isGrain rmX4_isGrain (va_Pc [.ref (q0 0), .int a1] (pcR (dC, dI) (wTys cI cZ cC cO) (wX4 cI cZ cC q0 g0))) (vp_Si (fun r => r = out)) 0 0 (fun _ => False) := by
  refine Met.ofW (cc := cX4_isGrain) (maxL := 2) (ret := (some .boolean)) (by decide) rfl ?_
  intro p e s m args below meth c s₁ B hml hv
  obtain ⟨hargs, hP, hK, hN⟩ := hv
  have hx := B.exec
  have hb := B.bytes
  have hr := B.returns
  have hts := atoms_spec (ws := wsX4_isGrain) B.pre
  have hown : s.vm.findClass RX4 = some m.cls := findClass_of_methodNamed B.named
  have hlocks := B.notSynchronized
  have hk0 := hts (.fieldLink RX4 27 "RimGrains$State" "grains" "I") (by decide +kernel)
  have hin4 : ∀ w ∈ wsX40, w ∈ wsX4_isGrain := by decide +kernel
  have hE := lg_entry_eq m [.ref (q0 0), .int a1] 2
  rw [← hargs] at hE
  rw [hE]
  have hl := lv_entry [.ref (q0 0), .int a1] (n := 2) (Nat.le_of_ble_eq_true rfl)
  generalize (lg_sl [.ref (q0 0), .int a1] ++ List.replicate (2 - (lg_sl [.ref (q0 0), .int a1]).length) Slot.unset).toArray = ls at hl ⊢
  have hl : lv_has ls 2 [(0, .ref (q0 0)), (1, .int a1)] := hl
  unfold fX4_isGrain at hf
  refine lv_iload_n hx hb dX4_isGrain_0 rfl (lv_at hl 1 rfl) ?_
  refine lv_if_lt (tgt := 16) hx hb dX4_isGrain_1 (by decide) (fun hc => ?_) (fun hc => ?_)
  · have hf := ot hc hf
    refine lv_iconst (v := 0) hx hb dX4_isGrain_16 (by decide) ?_
    obtain rfl := Option.some.inj hf
    exact W.zret (v := 0) (ty := .boolean) hx hb hr rfl (fun t ht hW => ⟨_, rfl, rfl, ht⟩) (fun _ h => by cases h) dX4_isGrain_17
  · have hf := oe hc hf
    refine lv_iload_n hx hb dX4_isGrain_4 rfl (lv_at hl 1 rfl) ?_
    refine lv_aload_n hx hb dX4_isGrain_5 rfl (lv_at hl 0 rfl) ?_
    refine va_get (D := (dC, dI)) (ci := 3) (v := .int (pX4_grains g0)) (C := RX4) (T := TX4) (N := 11) hx hb hts hin4 hown hK hP 0 rfl rfl 5 (by decide) hk0 (fun _ h9 => h9) rfl dX4_isGrain_6 ?_
    refine lv_icmp_ge (tgt := 16) hx hb dX4_isGrain_9 (by decide) (fun hc => ?_) (fun hc => ?_)
    · have hf := ot hc hf
      refine lv_iconst (v := 0) hx hb dX4_isGrain_16 (by decide) ?_
      obtain rfl := Option.some.inj hf
      exact W.zret (v := 0) (ty := .boolean) hx hb hr rfl (fun t ht hW => ⟨_, rfl, rfl, ht⟩) (fun _ h => by cases h) dX4_isGrain_17
    · have hf := oe hc hf
      refine lv_iconst (v := 1) hx hb dX4_isGrain_12 (by decide) ?_
      refine lv_goto (tgt := 17) hx hb dX4_isGrain_13 (by decide) ?_
      obtain rfl := Option.some.inj hf
      exact W.zret (v := 1) (ty := .boolean) hx hb hr rfl (fun t ht hW => ⟨_, rfl, rfl, ht⟩) (fun _ h => by cases h) dX4_isGrain_17

/-- RimGrains$State.void loseAtOnce(); -/
def fX4_loseAtOnce (g0 : GX4) : Option (GX4) :=
  some ((pX4_cells g0), (pX4_holders g0), (pX4_steps g0), (pX4_grainsByCell g0), (pX4_settings g0), (pX4_grains g0), (pX4_lot g0), ((pX4_released g0) + 1), ((pX4_lost g0) + 1), (pX4_gone g0), (pX4_walked g0))
abbrev rmX4_loseAtOnce : Room := { frames := 0, cells := 0, slots := 0, locals := 0 }
set_option maxHeartbeats 4000000 in
set_option maxRecDepth 100000 in
theorem cX4_loseAtOnce (l : Launch) (dC : Nat → ClassId) (dI : Nat → Nat → Nat) (cI cZ cC cO : ClassId) (q0 : Nat → Nat) (g0 : GX4) (sz : Nat) (out : GX4) (hf : fX4_loseAtOnce g0 = some out) : Met l yX4_loseAtOnce wsX4_loseAtOnce rmX4_loseAtOnce (va_Pc [.ref (q0 0)] (pcW (dC, dI) (wTys cI cZ cC cO) sz (wX4 cI cZ cC q0 g0))) (va_Qv (fun (_ : Unit) => True) (fun _ => poW (dC, dI) (va_A (wX4 cI cZ cC q0 g0) sz) (wX4 cI cZ cC q0 out)) (va_A (wX4 cI cZ cC q0 g0) sz)) 0 0 (va_A (wX4 cI cZ cC q0 g0) sz) := by
  refine Met.ofW (cc := cX4_loseAtOnce) (maxL := 1) (ret := none) (by decide) rfl ?_
  intro p e s m args below meth c s₁ B hml hv
  obtain ⟨hargs, hsz, hP, hK, hN, hD0⟩ := hv
  have hx := B.exec
  have hb := B.bytes
  have hr := B.returns
  have hts := atoms_spec (ws := wsX4_loseAtOnce) B.pre
  have hown : s.vm.findClass RX4 = some m.cls := findClass_of_methodNamed B.named
  have hlocks := B.notSynchronized
  have hk0 := hts (.fieldLink RX4 34 "RimGrains$State" "released" "I") (by decide +kernel)
  have hk1 := hts (.fieldLink RX4 37 "RimGrains$State" "lost" "I") (by decide +kernel)
  have hin4 : ∀ w ∈ wsX40, w ∈ wsX4_loseAtOnce := by decide +kernel
  subst hsz
  have hD := hD0.self (sz := s.heap.size)
  generalize hAe : va_A (wX4 cI cZ cC q0 g0) s.heap.size = A at hD ⊢
  have hA : ∀ q : Nat, s.heap.size ≤ q → A q := fun q h => by rw [← hAe]; exact Or.inr h
  have hS : va_S A s.heap s.heap [] := va_S.rf
  have hE := lg_entry_eq m [.ref (q0 0)] 1
  rw [← hargs] at hE
  rw [hE]
  have hl := lv_entry [.ref (q0 0)] (n := 1) (Nat.le_of_ble_eq_true rfl)
  generalize (lg_sl [.ref (q0 0)] ++ List.replicate (1 - (lg_sl [.ref (q0 0)]).length) Slot.unset).toArray = ls at hl ⊢
  have hl : lv_has ls 1 [(0, .ref (q0 0))] := hl
  have hP : va_P (dC, dI) vwCl (wX4 cI cZ cC q0 g0) s.heap := hP
  unfold fX4_loseAtOnce at hf
  refine lv_aload_n hx hb dX4_loseAtOnce_0 rfl (lv_at hl 0 rfl) ?_
  refine lv_dup hx hb dX4_loseAtOnce_1 rfl ?_
  refine va_get (D := (dC, dI)) (ci := 3) (v := .int (pX4_released g0)) (C := RX4) (T := TX4) (N := 11) hx hb hts hin4 hown hK hP 0 rfl rfl 7 (by decide) hk0 (fun _ h9 => h9) rfl dX4_loseAtOnce_2 ?_
  refine lv_iconst (v := 1) hx hb dX4_loseAtOnce_5 (by decide) ?_
  refine lv_iadd hx hb dX4_loseAtOnce_6 ?_
  refine va_put (D := (dC, dI)) (ci := 3) (v := .int ((pX4_released g0) + 1)) (ty := .int) (C := RX4) (T := TX4) (N := 11) hx hb hts hin4 tyX4 tyX4_ok nmX4 hown hK hP hD hS 0 rfl rfl 7 (by decide) hk0 (fun _ h9 => h9) rfl (by decide +kernel) rfl rfl (Nat.le_of_ble_eq_true rfl) dX4_loseAtOnce_7 (fun H locs hP hD hS => ?_)
  have hP : va_P (dC, dI) vwCl (wX4 cI cZ cC q0 ((pX4_cells g0), (pX4_holders g0), (pX4_steps g0), (pX4_grainsByCell g0), (pX4_settings g0), (pX4_grains g0), (pX4_lot g0), ((pX4_released g0) + 1), (pX4_lost g0), (pX4_gone g0), (pX4_walked g0))) H := hP
  have hD : va_D A (wX4 cI cZ cC q0 ((pX4_cells g0), (pX4_holders g0), (pX4_steps g0), (pX4_grainsByCell g0), (pX4_settings g0), (pX4_grains g0), (pX4_lot g0), ((pX4_released g0) + 1), (pX4_lost g0), (pX4_gone g0), (pX4_walked g0))) := hD
  refine lv_aload_n hx hb dX4_loseAtOnce_10 rfl (lv_at hl 0 rfl) ?_
  refine lv_dup hx hb dX4_loseAtOnce_11 rfl ?_
  refine va_get (D := (dC, dI)) (ci := 3) (v := .int (pX4_lost g0)) (C := RX4) (T := TX4) (N := 11) hx hb hts hin4 hown hK hP 0 rfl rfl 8 (by decide) hk1 (fun _ h9 => h9) rfl dX4_loseAtOnce_12 ?_
  refine lv_iconst (v := 1) hx hb dX4_loseAtOnce_15 (by decide) ?_
  refine lv_iadd hx hb dX4_loseAtOnce_16 ?_
  refine va_put (D := (dC, dI)) (ci := 3) (v := .int ((pX4_lost g0) + 1)) (ty := .int) (C := RX4) (T := TX4) (N := 11) hx hb hts hin4 tyX4 tyX4_ok nmX4 hown hK hP hD hS 0 rfl rfl 8 (by decide) hk1 (fun _ h9 => h9) rfl (by decide +kernel) rfl rfl (Nat.le_of_ble_eq_true rfl) dX4_loseAtOnce_17 (fun H locs hP hD hS => ?_)
  have hP : va_P (dC, dI) vwCl (wX4 cI cZ cC q0 ((pX4_cells g0), (pX4_holders g0), (pX4_steps g0), (pX4_grainsByCell g0), (pX4_settings g0), (pX4_grains g0), (pX4_lot g0), ((pX4_released g0) + 1), ((pX4_lost g0) + 1), (pX4_gone g0), (pX4_walked g0))) H := hP
  have hD : va_D A (wX4 cI cZ cC q0 ((pX4_cells g0), (pX4_holders g0), (pX4_steps g0), (pX4_grainsByCell g0), (pX4_settings g0), (pX4_grains g0), (pX4_lot g0), ((pX4_released g0) + 1), ((pX4_lost g0) + 1), (pX4_gone g0), (pX4_walked g0))) := hD
  obtain rfl := Option.some.inj hf
  exact W.vret hx hb hr (fun t ht hW => ⟨⟨(), rfl, trivial, by rw [ht]; exact hP, hD⟩, hS.F ht⟩) hS.2.2 dX4_loseAtOnce_20

/-- RimGrains.private static int nextLot(int); -/
def fX7_nextLot (a0 : Int32) : Option (Int32) :=
  some (jrem ((421 * a0) + 1663) 10000)
abbrev rmX7_nextLot : Room := { frames := 0, cells := 0, slots := 0, locals := 0 }
set_option maxHeartbeats 4000000 in
set_option maxRecDepth 100000 in
theorem cX7_nextLot (l : Launch) (dC : Nat → ClassId) (dI : Nat → Nat → Nat) (cI cZ cC cO : ClassId) (a0 : Int32) (out : Int32) (hf : fX7_nextLot a0 = some out) : Met l yX7_nextLot wsX7_nextLot rmX7_nextLot (va_Pc [.int a0] (pcR (dC, dI) (wTys cI cZ cC cO) ([] : va_W))) (vp_Si (fun r => r = out)) 0 0 (fun _ => False) := by
  refine Met.ofW (cc := cX7_nextLot) (maxL := 1) (ret := (some .int)) (by decide) rfl ?_
  intro p e s m args below meth c s₁ B hml hv
  obtain ⟨hargs, hP, hK, hN⟩ := hv
  have hx := B.exec
  have hb := B.bytes
  have hr := B.returns
  have hts := atoms_spec (ws := wsX7_nextLot) B.pre
  have hown : s.vm.findClass RX7 = some m.cls := findClass_of_methodNamed B.named
  have hlocks := B.notSynchronized
  have hE := lg_entry_eq m [.int a0] 1
  rw [← hargs] at hE
  rw [hE]
  have hl := lv_entry [.int a0] (n := 1) (Nat.le_of_ble_eq_true rfl)
  generalize (lg_sl [.int a0] ++ List.replicate (1 - (lg_sl [.int a0]).length) Slot.unset).toArray = ls at hl ⊢
  have hl : lv_has ls 1 [(0, .int a0)] := hl
  unfold fX7_nextLot at hf
  refine lv_sipush (v := 421) hx hb dX7_nextLot_0 (by decide) ?_
  refine lv_iload_n hx hb dX7_nextLot_3 rfl (lv_at hl 0 rfl) ?_
  refine lv_imul hx hb dX7_nextLot_4 ?_
  refine lv_sipush (v := 1663) hx hb dX7_nextLot_5 (by decide) ?_
  refine lv_iadd hx hb dX7_nextLot_8 ?_
  refine lv_sipush (v := 10000) hx hb dX7_nextLot_9 (by decide) ?_
  refine jirem hx hb dX7_nextLot_12 (by decide) ?_
  obtain rfl := Option.some.inj hf
  exact W.iret (v := (jrem ((421 * a0) + 1663) 10000)) hx hb hr (fun t ht hW => ⟨_, rfl, rfl, ht⟩) (fun _ h => by cases h) dX7_nextLot_13

/-- RimGrains$Walk.private int draw(); -/
def fX6_draw (g0 : GX6) : Option (Int32 × GX6) :=
  ((fX7_nextLot (pX6_lot g0)).bind fun o5 => some (o5, ((pX6_place g0), (pX6_steps g0), ((pX6_draws g0) + 1), o5, (pX6_holder g0))))
abbrev rmX6_draw : Room := { frames := 1, cells := 0, slots := 0, locals := 20 }
set_option maxHeartbeats 4000000 in
set_option maxRecDepth 100000 in
theorem cX6_draw (l : Launch) (dC : Nat → ClassId) (dI : Nat → Nat → Nat) (cI cZ cC cO : ClassId) (q0 : Nat → Nat) (g0 : GX6) (sz : Nat) (out : Int32 × GX6) (hf : fX6_draw g0 = some out) : Met l yX6_draw wsX6_draw rmX6_draw (va_Pc [.ref (q0 0)] (pcW (dC, dI) (wTys cI cZ cC cO) sz (wX6 cI cZ cC q0 g0))) (va_Qi (fun r (_ : Unit) => r = out.1) (fun _ => poW (dC, dI) (va_A (wX6 cI cZ cC q0 g0) sz) (wX6 cI cZ cC q0 out.2)) (va_A (wX6 cI cZ cC q0 g0) sz)) 0 0 (va_A (wX6 cI cZ cC q0 g0) sz) := by
  refine Met.ofW (cc := cX6_draw) (maxL := 1) (ret := (some .int)) (by decide) rfl ?_
  intro p e s m args below meth c s₁ B hml hv
  obtain ⟨hargs, hsz, hP, hK, hN, hD0⟩ := hv
  have hx := B.exec
  have hb := B.bytes
  have hr := B.returns
  have hts := atoms_spec (ws := wsX6_draw) B.pre
  have hown : s.vm.findClass RX6 = some m.cls := findClass_of_methodNamed B.named
  have hlocks := B.notSynchronized
  have hk0 := hts (.fieldLink RX6 21 "RimGrains$Walk" "lot" "I") (by decide +kernel)
  have hk1 := hts (.fieldLink RX6 18 "RimGrains$Walk" "draws" "I") (by decide +kernel)
  have hin6 : ∀ w ∈ wsX60, w ∈ wsX6_draw := by decide +kernel
  subst hsz
  have hD := hD0.self (sz := s.heap.size)
  generalize hAe : va_A (wX6 cI cZ cC q0 g0) s.heap.size = A at hD ⊢
  have hA : ∀ q : Nat, s.heap.size ≤ q → A q := fun q h => by rw [← hAe]; exact Or.inr h
  have hS : va_S A s.heap s.heap [] := va_S.rf
  have hE := lg_entry_eq m [.ref (q0 0)] 1
  rw [← hargs] at hE
  rw [hE]
  have hl := lv_entry [.ref (q0 0)] (n := 1) (Nat.le_of_ble_eq_true rfl)
  generalize (lg_sl [.ref (q0 0)] ++ List.replicate (1 - (lg_sl [.ref (q0 0)]).length) Slot.unset).toArray = ls at hl ⊢
  have hl : lv_has ls 1 [(0, .ref (q0 0))] := hl
  have hP : va_P (dC, dI) vwCl (wX6 cI cZ cC q0 g0) s.heap := hP
  unfold fX6_draw at hf
  refine lv_aload_n hx hb dX6_draw_0 rfl (lv_at hl 0 rfl) ?_
  refine lv_aload_n hx hb dX6_draw_1 rfl (lv_at hl 0 rfl) ?_
  refine va_get (D := (dC, dI)) (ci := 5) (v := .int (pX6_lot g0)) (C := RX6) (T := TX6) (N := 5) hx hb hts hin6 hown hK hP 0 rfl rfl 3 (by decide) hk0 (fun _ h9 => h9) rfl dX6_draw_2 ?_
  obtain ⟨o5, ho5, hf⟩ := ob hf
  refine rSN (rest := [.ref (q0 0)]) (As := [.int (pX6_lot g0)]) ⟨hx, hb, hml, hown, hts⟩ (cX7_nextLot l dC dI cI cZ cC cO  _ _ ho5) ⟨va_cnB 1 hts gX6_draw_X7_nextLot_n57 rfl rfl rfl (hN.m 6 rfl) (hts (.initialized RX7) (by decide +kernel)) (by decide +kernel) ⟨Nat.le_of_ble_eq_true rfl, Nat.le_of_ble_eq_true rfl⟩, hts (.static yX7_nextLot) (by decide +kernel), trivial⟩ hK hN hP [] rfl rfl hl.1 rfl (Nat.le_of_ble_eq_true rfl) dX6_draw_5 ⟨Nat.zero_le _, Nat.zero_le _⟩ ?_
  refine va_put (D := (dC, dI)) (ci := 5) (v := .int o5) (ty := .int) (C := RX6) (T := TX6) (N := 5) hx hb hts hin6 tyX6 tyX6_ok nmX6 hown hK hP hD hS 0 rfl rfl 3 (by decide) hk0 (fun _ h9 => h9) rfl (by decide +kernel) rfl rfl (Nat.le_of_ble_eq_true rfl) dX6_draw_8 (fun H locs hP hD hS => ?_)
  have hP : va_P (dC, dI) vwCl (wX6 cI cZ cC q0 ((pX6_place g0), (pX6_steps g0), (pX6_draws g0), o5, (pX6_holder g0))) H := hP
  have hD : va_D A (wX6 cI cZ cC q0 ((pX6_place g0), (pX6_steps g0), (pX6_draws g0), o5, (pX6_holder g0))) := hD
  refine lv_aload_n hx hb dX6_draw_11 rfl (lv_at hl 0 rfl) ?_
  refine lv_dup hx hb dX6_draw_12 rfl ?_
  refine va_get (D := (dC, dI)) (ci := 5) (v := .int (pX6_draws g0)) (C := RX6) (T := TX6) (N := 5) hx hb hts hin6 hown hK hP 0 rfl rfl 2 (by decide) hk1 (fun _ h9 => h9) rfl dX6_draw_13 ?_
  refine lv_iconst (v := 1) hx hb dX6_draw_16 (by decide) ?_
  refine lv_iadd hx hb dX6_draw_17 ?_
  refine va_put (D := (dC, dI)) (ci := 5) (v := .int ((pX6_draws g0) + 1)) (ty := .int) (C := RX6) (T := TX6) (N := 5) hx hb hts hin6 tyX6 tyX6_ok nmX6 hown hK hP hD hS 0 rfl rfl 2 (by decide) hk1 (fun _ h9 => h9) rfl (by decide +kernel) rfl rfl (Nat.le_of_ble_eq_true rfl) dX6_draw_18 (fun H locs hP hD hS => ?_)
  have hP : va_P (dC, dI) vwCl (wX6 cI cZ cC q0 ((pX6_place g0), (pX6_steps g0), ((pX6_draws g0) + 1), o5, (pX6_holder g0))) H := hP
  have hD : va_D A (wX6 cI cZ cC q0 ((pX6_place g0), (pX6_steps g0), ((pX6_draws g0) + 1), o5, (pX6_holder g0))) := hD
  refine lv_aload_n hx hb dX6_draw_21 rfl (lv_at hl 0 rfl) ?_
  refine va_get (D := (dC, dI)) (ci := 5) (v := .int o5) (C := RX6) (T := TX6) (N := 5) hx hb hts hin6 hown hK hP 0 rfl rfl 3 (by decide) hk0 (fun _ h9 => h9) rfl dX6_draw_22 ?_
  obtain rfl := Option.some.inj hf
  exact W.iret (v := o5) hx hb hr (fun t ht hW => ⟨⟨_, (), rfl, rfl, by rw [ht]; exact hP, hD⟩, hS.F ht⟩) hS.2.2 dX6_draw_25

/-- RimGrains$State.int firstGrainBeside(int); -/
def tX4_firstGrainBeside_2 (a1 : Int32) (g0 : GX4) (s2 : (Int32)) : Option ((Int32) ⊕ (Int32)) :=
  (if 4 ≤ s2 then some (.inr (-4)) else ((fX2_neighbour a1 s2).bind fun o10 => ((fX4_grainAt o10 g0).bind fun o13 => (if o13 = (-4) then some (.inl (s2 + 1)) else some (.inr o13)))))
def fX4_firstGrainBeside (a1 : Int32) (g0 : GX4) : Option (Int32) :=
  lp (tX4_firstGrainBeside_2 a1 g0) FU 0
abbrev rmX4_firstGrainBeside : Room := { frames := 1, cells := 0, slots := 0, locals := 23 }
set_option maxHeartbeats 4000000 in
set_option maxRecDepth 100000 in
theorem cX4_firstGrainBeside (l : Launch) (dC : Nat → ClassId) (dI : Nat → Nat → Nat) (cI cZ cC cO : ClassId) (q0 : Nat → Nat) (a1 : Int32) (g0 : GX4) (out : Int32) (hf : fX4_firstGrainBeside a1 g0 = some out) : Met l yX4_firstGrainBeside wsX4_firstGrainBeside rmX4_firstGrainBeside (va_Pc [.ref (q0 0), .int a1] (pcR (dC, dI) (wTys cI cZ cC cO) (wX4 cI cZ cC q0 g0))) (vp_Si (fun r => r = out)) 0 0 (fun _ => False) := by
  refine Met.ofW (cc := cX4_firstGrainBeside) (maxL := 4) (ret := (some .int)) (by decide) rfl ?_
  intro p e s m args below meth c s₁ B hml hv
  obtain ⟨hargs, hP, hK, hN⟩ := hv
  have hx := B.exec
  have hb := B.bytes
  have hr := B.returns
  have hts := atoms_spec (ws := wsX4_firstGrainBeside) B.pre
  have hown : s.vm.findClass RX4 = some m.cls := findClass_of_methodNamed B.named
  have hlocks := B.notSynchronized
  have hE := lg_entry_eq m [.ref (q0 0), .int a1] 4
  rw [← hargs] at hE
  rw [hE]
  have hl := lv_entry [.ref (q0 0), .int a1] (n := 4) (Nat.le_of_ble_eq_true rfl)
  generalize (lg_sl [.ref (q0 0), .int a1] ++ List.replicate (4 - (lg_sl [.ref (q0 0), .int a1]).length) Slot.unset).toArray = ls at hl ⊢
  have hl : lv_has ls 4 [(0, .ref (q0 0)), (1, .int a1)] := hl
  unfold fX4_firstGrainBeside at hf
  refine lv_iconst (v := 0) hx hb dX4_firstGrainBeside_0 (by decide) ?_
  refine lv_istore_n (lv' := [(2, .int 0), (0, .ref (q0 0)), (1, .int a1)]) hx hb dX4_firstGrainBeside_1 rfl hl (by decide) rfl (fun ls hl => ?_)
  have hL2 : ∀ (n : Nat) (s2 : Int32), lp (tX4_firstGrainBeside_2 a1 g0) n s2 = some out → ∀ (ls : Array Slot), lv_has ls 4 [(0, .ref (q0 0)), (1, .int a1), (2, .int s2)] → W p l e (headSpec wsX4_firstGrainBeside rmX4_firstGrainBeside).room s m args below meth c s.heap [] 0 0 (MQ below (vp_Si (fun r => r = out)) args s 0 0 (fun _ => False)) (F0 m 2 ls []) := by
    intro n
    induction n with
    | zero => intro s2 hf; exact (lp0 hf).elim
    | succ n ih2 =>
      intro s2 hf ls hl
      obtain ⟨r2, hf, hn⟩ := lps hf
      unfold tX4_firstGrainBeside_2 at hf
      refine lv_iload_n hx hb dX4_firstGrainBeside_2 rfl (lv_at hl 2 rfl) ?_
      refine lv_iconst (v := 4) hx hb dX4_firstGrainBeside_3 (by decide) ?_
      refine lv_icmp_ge (tgt := 31) hx hb dX4_firstGrainBeside_4 (by decide) (fun hc => ?_) (fun hc => ?_)
      · have hf := ot hc hf
        refine lv_bipush (v := (-4)) hx hb dX4_firstGrainBeside_31 (by decide) ?_
        obtain rfl := Option.some.inj hf
        obtain rfl := Option.some.inj hn
        exact W.iret (v := (-4)) hx hb hr (fun t ht hW => ⟨_, rfl, rfl, ht⟩) (fun _ h => by cases h) dX4_firstGrainBeside_33
      · have hf := oe hc hf
        refine lv_aload_n hx hb dX4_firstGrainBeside_7 rfl (lv_at hl 0 rfl) ?_
        refine lv_iload_n hx hb dX4_firstGrainBeside_8 rfl (lv_at hl 1 rfl) ?_
        refine lv_iload_n hx hb dX4_firstGrainBeside_9 rfl (lv_at hl 2 rfl) ?_
        obtain ⟨o10, ho10, hf⟩ := ob hf
        refine rS (rest := [.ref (q0 0)]) (As := [.int a1, .int s2]) ⟨hx, hb, hml, hown, hts⟩ (cX2_neighbour l dC dI cI cZ cC cO  _ _ _ ho10) (va_cwS 2 hts gX4_firstGrainBeside_X2_neighbour rfl rfl rfl (by decide +kernel) ⟨Nat.le_of_ble_eq_true rfl, Nat.le_of_ble_eq_true rfl⟩) hK hN hP [] rfl rfl hl.1 rfl (Nat.le_of_ble_eq_true rfl) dX4_firstGrainBeside_10 ⟨Nat.zero_le _, Nat.zero_le _⟩ ?_
        obtain ⟨o13, ho13, hf⟩ := ob hf
        refine rV (rest := []) (As := [.int o10]) ⟨hx, hb, hml, hown, hts⟩ (cX4_grainAt l dC dI cI cZ cC cO q0 _ _ _ ho13) (cwV 1 hts gX4_firstGrainBeside_X4_grainAt rfl rfl rfl (by decide +kernel) ⟨Nat.le_of_ble_eq_true rfl, Nat.le_of_ble_eq_true rfl⟩) hK hN hP [0, 1, 2, 3, 4, 5] rfl 3 rfl rfl rfl rfl hl.1 rfl (Nat.le_of_ble_eq_true rfl) dX4_firstGrainBeside_13 ⟨Nat.zero_le _, Nat.zero_le _⟩ ?_
        refine lv_istore_n (lv' := [(3, .int o13), (0, .ref (q0 0)), (1, .int a1), (2, .int s2)]) hx hb dX4_firstGrainBeside_16 rfl hl (by decide) rfl (fun ls hl => ?_)
        refine lv_iload_n hx hb dX4_firstGrainBeside_17 rfl (lv_at hl 0 rfl) ?_
        refine lv_bipush (v := (-4)) hx hb dX4_firstGrainBeside_18 (by decide) ?_
        refine lv_icmp_eq (tgt := 25) hx hb dX4_firstGrainBeside_20 (by decide) (fun hc => ?_) (fun hc => ?_)
        · have hf := ot hc hf
          refine lv_iinc (v := (s2 + 1)) (lv' := [(2, .int (s2 + 1)), (3, .int o13), (0, .ref (q0 0)), (1, .int a1)]) hx hb dX4_firstGrainBeside_25 hl (k := 3) rfl rfl (by decide) rfl (fun ls hl => ?_)
          refine lv_goto (tgt := 2) hx hb dX4_firstGrainBeside_28 (by decide) ?_
          obtain rfl := Option.some.inj hf
          exact ih2 _ _ hn ls (lv_sub hl [2, 3, 0] rfl)
        · have hf := oe hc hf
          refine lv_iload_n hx hb dX4_firstGrainBeside_23 rfl (lv_at hl 0 rfl) ?_
          obtain rfl := Option.some.inj hf
          obtain rfl := Option.some.inj hn
          exact W.iret (v := o13) hx hb hr (fun t ht hW => ⟨_, rfl, rfl, ht⟩) (fun _ h => by cases h) dX4_firstGrainBeside_24
  exact hL2 FU _ hf ls (lv_sub hl [1, 2, 0] rfl)

/-- RimGrains$Plate.static int ringOf(int); -/
def fX2_ringOf (a0 : Int32) : Option (Int32) :=
  some (jmax (jabs ((a0 / 11) - 5)) (jabs ((jrem a0 11) - 5)))
abbrev rmX2_ringOf : Room := { frames := 1, cells := 0, slots := 0, locals := 21 }
set_option maxHeartbeats 4000000 in
set_option maxRecDepth 100000 in
theorem cX2_ringOf (l : Launch) (dC : Nat → ClassId) (dI : Nat → Nat → Nat) (cI cZ cC cO : ClassId) (a0 : Int32) (out : Int32) (hf : fX2_ringOf a0 = some out) : Met l yX2_ringOf wsX2_ringOf rmX2_ringOf (va_Pc [.int a0] (pcR (dC, dI) (wTys cI cZ cC cO) ([] : va_W))) (vp_Si (fun r => r = out)) 0 0 (fun _ => False) := by
  refine Met.ofW (cc := cX2_ringOf) (maxL := 1) (ret := (some .int)) (by decide) rfl ?_
  intro p e s m args below meth c s₁ B hml hv
  obtain ⟨hargs, hP, hK, hN⟩ := hv
  have hx := B.exec
  have hb := B.bytes
  have hr := B.returns
  have hts := atoms_spec (ws := wsX2_ringOf) B.pre
  have hown : s.vm.findClass RX2 = some m.cls := findClass_of_methodNamed B.named
  have hlocks := B.notSynchronized
  have hk0 := hts (.methodLink RX2 9 Lib.Math.abs.name) (by decide +kernel)
  have hk0S := hts (.static Lib.Math.abs.name) (by decide +kernel)
  have hk0I := hts (.initialized "java/lang/Math") (by decide +kernel)
  have hk0C := hts (.code Lib.Math.abs.name Lib.Math.abs.code 1 (some .int)) (by decide +kernel)
  have hk1 := hts (.methodLink RX2 15 Lib.Math.max.name) (by decide +kernel)
  have hk1S := hts (.static Lib.Math.max.name) (by decide +kernel)
  have hk1I := hts (.initialized "java/lang/Math") (by decide +kernel)
  have hk1C := hts (.code Lib.Math.max.name Lib.Math.max.code 2 (some .int)) (by decide +kernel)
  have hE := lg_entry_eq m [.int a0] 1
  rw [← hargs] at hE
  rw [hE]
  have hl := lv_entry [.int a0] (n := 1) (Nat.le_of_ble_eq_true rfl)
  generalize (lg_sl [.int a0] ++ List.replicate (1 - (lg_sl [.int a0]).length) Slot.unset).toArray = ls at hl ⊢
  have hl : lv_has ls 1 [(0, .int a0)] := hl
  unfold fX2_ringOf at hf
  refine lv_iload_n hx hb dX2_ringOf_0 rfl (lv_at hl 0 rfl) ?_
  refine lv_bipush (v := 11) hx hb dX2_ringOf_1 (by decide) ?_
  refine lv_idiv hx hb dX2_ringOf_3 (by decide) ?_
  refine lv_iconst (v := 5) hx hb dX2_ringOf_4 (by decide) ?_
  refine lv_isub hx hb dX2_ringOf_5 ?_
  refine mabs hx hb hml hl.1 hown hk0 hk0S hk0I hk0C (Nat.le_of_ble_eq_true rfl) (Nat.le_of_ble_eq_true rfl) ⟨Nat.zero_le _, Nat.zero_le _⟩ dX2_ringOf_6 ?_
  refine lv_iload_n hx hb dX2_ringOf_9 rfl (lv_at hl 0 rfl) ?_
  refine lv_bipush (v := 11) hx hb dX2_ringOf_10 (by decide) ?_
  refine jirem hx hb dX2_ringOf_12 (by decide) ?_
  refine lv_iconst (v := 5) hx hb dX2_ringOf_13 (by decide) ?_
  refine lv_isub hx hb dX2_ringOf_14 ?_
  refine mabs hx hb hml hl.1 hown hk0 hk0S hk0I hk0C (Nat.le_of_ble_eq_true rfl) (Nat.le_of_ble_eq_true rfl) ⟨Nat.zero_le _, Nat.zero_le _⟩ dX2_ringOf_15 ?_
  refine mmax hx hb hml hl.1 hown hk1 hk1S hk1I hk1C (Nat.le_of_ble_eq_true rfl) (Nat.le_of_ble_eq_true rfl) ⟨Nat.zero_le _, Nat.zero_le _⟩ dX2_ringOf_18 ?_
  obtain rfl := Option.some.inj hf
  exact W.iret (v := (jmax (jabs ((a0 / 11) - 5)) (jabs ((jrem a0 11) - 5)))) hx hb hr (fun t ht hW => ⟨_, rfl, rfl, ht⟩) (fun _ h => by cases h) dX2_ringOf_21

/-- RimGrains$State.int reach(); -/
def tX4_reach_4 (g0 : GX4) (s4 : (Int32 × Int32)) : Option ((Int32 × Int32) ⊕ (Int32)) :=
  (if (pX4_grains g0) ≤ s4.2 then some (.inr s4.1) else (if s4.2 < 0 ∨ 121 ≤ s4.2.toNatClampNeg then none else ((fX2_ringOf ((pX4_cells g0) s4.2.toNatClampNeg)).bind fun o19 => some (.inl ((jmax s4.1 o19), (s4.2 + 1))))))
def fX4_reach (g0 : GX4) : Option (Int32) :=
  ((lp (tX4_reach_4 g0) FU (0, 0)).bind fun o4 => some o4)
abbrev rmX4_reach : Room := { frames := 2, cells := 0, slots := 0, locals := 41 }
set_option maxHeartbeats 4000000 in
set_option maxRecDepth 100000 in
theorem cX4_reach (l : Launch) (dC : Nat → ClassId) (dI : Nat → Nat → Nat) (cI cZ cC cO : ClassId) (q0 : Nat → Nat) (g0 : GX4) (out : Int32) (hf : fX4_reach g0 = some out) : Met l yX4_reach wsX4_reach rmX4_reach (va_Pc [.ref (q0 0)] (pcR (dC, dI) (wTys cI cZ cC cO) (wX4 cI cZ cC q0 g0))) (vp_Si (fun r => r = out)) 0 0 (fun _ => False) := by
  refine Met.ofW (cc := cX4_reach) (maxL := 3) (ret := (some .int)) (by decide) rfl ?_
  intro p e s m args below meth c s₁ B hml hv
  obtain ⟨hargs, hP, hK, hN⟩ := hv
  have hx := B.exec
  have hb := B.bytes
  have hr := B.returns
  have hts := atoms_spec (ws := wsX4_reach) B.pre
  have hown : s.vm.findClass RX4 = some m.cls := findClass_of_methodNamed B.named
  have hlocks := B.notSynchronized
  have hk0 := hts (.fieldLink RX4 27 "RimGrains$State" "grains" "I") (by decide +kernel)
  have hk1 := hts (.fieldLink RX4 9 "RimGrains$State" "cells" "[I") (by decide +kernel)
  have hk2 := hts (.methodLink RX4 110 Lib.Math.max.name) (by decide +kernel)
  have hk2S := hts (.static Lib.Math.max.name) (by decide +kernel)
  have hk2I := hts (.initialized "java/lang/Math") (by decide +kernel)
  have hk2C := hts (.code Lib.Math.max.name Lib.Math.max.code 2 (some .int)) (by decide +kernel)
  have hin4 : ∀ w ∈ wsX40, w ∈ wsX4_reach := by decide +kernel
  have hE := lg_entry_eq m [.ref (q0 0)] 3
  rw [← hargs] at hE
  rw [hE]
  have hl := lv_entry [.ref (q0 0)] (n := 3) (Nat.le_of_ble_eq_true rfl)
  generalize (lg_sl [.ref (q0 0)] ++ List.replicate (3 - (lg_sl [.ref (q0 0)]).length) Slot.unset).toArray = ls at hl ⊢
  have hl : lv_has ls 3 [(0, .ref (q0 0))] := hl
  unfold fX4_reach at hf
  refine lv_iconst (v := 0) hx hb dX4_reach_0 (by decide) ?_
  refine lv_istore_n (lv' := [(1, .int 0), (0, .ref (q0 0))]) hx hb dX4_reach_1 rfl hl (by decide) rfl (fun ls hl => ?_)
  refine lv_iconst (v := 0) hx hb dX4_reach_2 (by decide) ?_
  refine lv_istore_n (lv' := [(2, .int 0), (1, .int 0), (0, .ref (q0 0))]) hx hb dX4_reach_3 rfl hl (by decide) rfl (fun ls hl => ?_)
  have hL4 : ∀ (n : Nat) (s4 : Int32 × Int32) (o4 : Int32), lp (tX4_reach_4 g0) n s4 = some o4 → ∀ (ls : Array Slot), lv_has ls 3 [(0, .ref (q0 0)), (1, .int s4.1), (2, .int s4.2)] → (∀ (ls : Array Slot), lv_has ls 3 [(1, .int o4)] → W p l e (headSpec wsX4_reach rmX4_reach).room s m args below meth c s.heap [] 0 0 (MQ below (vp_Si (fun r => r = out)) args s 0 0 (fun _ => False)) (F0 m 32 ls [])) → W p l e (headSpec wsX4_reach rmX4_reach).room s m args below meth c s.heap [] 0 0 (MQ below (vp_Si (fun r => r = out)) args s 0 0 (fun _ => False)) (F0 m 4 ls []) := by
    intro n
    induction n with
    | zero => intro s4 o4 hf; exact (lp0 hf).elim
    | succ n ih4 =>
      intro s4 o4 hf ls hl kx
      obtain ⟨r4, hf, hn⟩ := lps hf
      unfold tX4_reach_4 at hf
      refine lv_iload_n hx hb dX4_reach_4 rfl (lv_at hl 2 rfl) ?_
      refine lv_aload_n hx hb dX4_reach_5 rfl (lv_at hl 0 rfl) ?_
      refine va_get (D := (dC, dI)) (ci := 3) (v := .int (pX4_grains g0)) (C := RX4) (T := TX4) (N := 11) hx hb hts hin4 hown hK hP 0 rfl rfl 5 (by decide) hk0 (fun _ h9 => h9) rfl dX4_reach_6 ?_
      refine lv_icmp_ge (tgt := 32) hx hb dX4_reach_9 (by decide) (fun hc => ?_) (fun hc => ?_)
      · have hf := ot hc hf
        obtain rfl := Option.some.inj hf
        obtain rfl := Option.some.inj hn
        exact kx ls (lv_sub hl [1] rfl)
      · have hf := oe hc hf
        refine lv_iload_n hx hb dX4_reach_12 rfl (lv_at hl 1 rfl) ?_
        refine lv_aload_n hx hb dX4_reach_13 rfl (lv_at hl 0 rfl) ?_
        refine va_get (D := (dC, dI)) (ci := 3) (v := .ref (q0 1)) (C := RX4) (T := TX4) (N := 11) hx hb hts hin4 hown hK hP 0 rfl rfl 0 (by decide) hk1 (fun _ h9 => h9) rfl dX4_reach_14 ?_
        refine lv_iload_n hx hb dX4_reach_17 rfl (lv_at hl 2 rfl) ?_
        obtain ⟨hin, hf⟩ := og hf
        refine va_iald hx hb hK hP 1 0 rfl rfl hin dX4_reach_18 ?_
        obtain ⟨o19, ho19, hf⟩ := ob hf
        refine rS (rest := [.int s4.1]) (As := [.int ((pX4_cells g0) s4.2.toNatClampNeg)]) ⟨hx, hb, hml, hown, hts⟩ (cX2_ringOf l dC dI cI cZ cC cO  _ _ ho19) (va_cwS 1 hts gX4_reach_X2_ringOf rfl rfl rfl (by decide +kernel) ⟨Nat.le_of_ble_eq_true rfl, Nat.le_of_ble_eq_true rfl⟩) hK hN hP [] rfl rfl hl.1 rfl (Nat.le_of_ble_eq_true rfl) dX4_reach_19 ⟨Nat.zero_le _, Nat.zero_le _⟩ ?_
        refine mmax hx hb hml hl.1 hown hk2 hk2S hk2I hk2C (Nat.le_of_ble_eq_true rfl) (Nat.le_of_ble_eq_true rfl) ⟨Nat.zero_le _, Nat.zero_le _⟩ dX4_reach_22 ?_
        refine lv_istore_n (lv' := [(1, .int (jmax s4.1 o19)), (0, .ref (q0 0)), (2, .int s4.2)]) hx hb dX4_reach_25 rfl hl (by decide) rfl (fun ls hl => ?_)
        refine lv_iinc (v := (s4.2 + 1)) (lv' := [(2, .int (s4.2 + 1)), (1, .int (jmax s4.1 o19)), (0, .ref (q0 0))]) hx hb dX4_reach_26 hl (k := 2) rfl rfl (by decide) rfl (fun ls hl => ?_)
        refine lv_goto (tgt := 4) hx hb dX4_reach_29 (by decide) ?_
        obtain rfl := Option.some.inj hf
        exact ih4 _ _ hn ls (lv_sub hl [2, 1, 0] rfl) kx
  obtain ⟨o4, ho4, hf⟩ := ob hf
  refine hL4 FU _ _ ho4 ls (lv_sub hl [2, 1, 0] rfl) (fun ls hl => ?_)
  refine lv_iload_n hx hb dX4_reach_32 rfl (lv_at hl 0 rfl) ?_
  obtain rfl := Option.some.inj hf
  exact W.iret (v := o4) hx hb hr (fun t ht hW => ⟨_, rfl, rfl, ht⟩) (fun _ h => by cases h) dX4_reach_33

