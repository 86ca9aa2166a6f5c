set_option maxHeartbeats 4000000 in
set_option maxRecDepth 100000 in
theorem mX2_isCell (l : Launch) (dC : Nat → ClassId) (dI : Nat → Nat → Nat) (cI cZ cC cO : ClassId) (a0 : Int32) (out : Int32) (hf : fX2_isCell a0 = some out) : Met l yX2_isCell wsX2_isCell rmX2_isCell (va_Pc [.int a0] (pcR (dC, dI) (wTys cI cZ cC cO) ([] : va_W))) (vp_Si (fun r => r = out)) 0 0 (fun _ => False) := by
  refine Met.ofW (cc := cX2_isCell) (maxL := 1) (ret := (some .boolean)) (by decide) rfl ?_
  intro p e s m args below meth c s₁ B hml hv
  obtain ⟨hargs, hP, hK, hN⟩ := hv
  have hx := B.exec
  have hb := B.bytes
  have hr := B.returns
  have hts := atoms_spec (ws := wsX2_isCell) B.pre
  have hown : s.vm.findClass RX2 = some m.cls := findClass_of_methodNamed B.named
  have hlocks := B.notSynchronized
  have hE := lg_entry_eq m [.int a0] 1
  rw [← hargs] at hE
  rw [hE]
  have hl := lv_entry [.int a0] (n := 1) (Nat.le_of_ble_eq_true rfl)
  generalize (lg_sl [.int a0] ++ List.replicate (1 - (lg_sl [.int a0]).length) Slot.unset).toArray = ls at hl ⊢
  have hl : lv_has ls 1 [(0, .int a0)] := hl
  unfold fX2_isCell at hf
  refine lv_iload_n hx hb dX2_isCell_0 rfl (lv_at hl 0 rfl) ?_
  refine lv_if_lt (tgt := 14) hx hb dX2_isCell_1 (by decide) (fun hc => ?_) (fun hc => ?_)
  · have hf := ot hc hf
    refine lv_iconst (v := 0) hx hb dX2_isCell_14 (by decide) ?_
    obtain rfl := Option.some.inj hf
    exact W.zret (v := 0) (ty := .boolean) hx hb hr rfl (fun t ht hW => ⟨_, rfl, rfl, ht⟩) (fun _ h => by cases h) dX2_isCell_15
  · have hf := oe hc hf
    refine lv_iload_n hx hb dX2_isCell_4 rfl (lv_at hl 0 rfl) ?_
    refine lv_bipush (v := 121) hx hb dX2_isCell_5 (by decide) ?_
    refine lv_icmp_ge (tgt := 14) hx hb dX2_isCell_7 (by decide) (fun hc => ?_) (fun hc => ?_)
    · have hf := ot hc hf
      refine lv_iconst (v := 0) hx hb dX2_isCell_14 (by decide) ?_
      obtain rfl := Option.some.inj hf
      exact W.zret (v := 0) (ty := .boolean) hx hb hr rfl (fun t ht hW => ⟨_, rfl, rfl, ht⟩) (fun _ h => by cases h) dX2_isCell_15
    · have hf := oe hc hf
      refine lv_iconst (v := 1) hx hb dX2_isCell_10 (by decide) ?_
      refine lv_goto (tgt := 15) hx hb dX2_isCell_11 (by decide) ?_
      obtain rfl := Option.some.inj hf
      exact W.zret (v := 1) (ty := .boolean) hx hb hr rfl (fun t ht hW => ⟨_, rfl, rfl, ht⟩) (fun _ h => by cases h) dX2_isCell_15
set_option maxHeartbeats 4000000 in
set_option maxRecDepth 100000 in
theorem mX2_ringOf (l : Launch) (dC : Nat → ClassId) (dI : Nat → Nat → Nat) (cI cZ cC cO : ClassId) (a0 : Int32) (out : Int32) (hf : fX2_ringOf a0 = some out) : Met l yX2_ringOf wsX2_ringOf rmX2_ringOf (va_Pc [.int a0] (pcR (dC, dI) (wTys cI cZ cC cO) ([] : va_W))) (vp_Si (fun r => r = out)) 0 0 (fun _ => False) := by
  refine Met.ofW (cc := cX2_ringOf) (maxL := 1) (ret := (some .int)) (by decide) rfl ?_
  intro p e s m args below meth c s₁ B hml hv
  obtain ⟨hargs, hP, hK, hN⟩ := hv
  have hx := B.exec
  have hb := B.bytes
  have hr := B.returns
  have hts := atoms_spec (ws := wsX2_ringOf) B.pre
  have hown : s.vm.findClass RX2 = some m.cls := findClass_of_methodNamed B.named
  have hlocks := B.notSynchronized
  have hk0 := hts (.methodLink RX2 9 Lib.Math.abs.name) (by decide +kernel)
  have hk0S := hts (.static Lib.Math.abs.name) (by decide +kernel)
  have hk0I := hts (.initialized "java/lang/Math") (by decide +kernel)
  have hk0C := hts (.code Lib.Math.abs.name Lib.Math.abs.code 1 (some .int)) (by decide +kernel)
  have hk1 := hts (.methodLink RX2 15 Lib.Math.max.name) (by decide +kernel)
  have hk1S := hts (.static Lib.Math.max.name) (by decide +kernel)
  have hk1I := hts (.initialized "java/lang/Math") (by decide +kernel)
  have hk1C := hts (.code Lib.Math.max.name Lib.Math.max.code 2 (some .int)) (by decide +kernel)
  have hE := lg_entry_eq m [.int a0] 1
  rw [← hargs] at hE
  rw [hE]
  have hl := lv_entry [.int a0] (n := 1) (Nat.le_of_ble_eq_true rfl)
  generalize (lg_sl [.int a0] ++ List.replicate (1 - (lg_sl [.int a0]).length) Slot.unset).toArray = ls at hl ⊢
  have hl : lv_has ls 1 [(0, .int a0)] := hl
  unfold fX2_ringOf at hf
  refine lv_iload_n hx hb dX2_ringOf_0 rfl (lv_at hl 0 rfl) ?_
  refine lv_bipush (v := 11) hx hb dX2_ringOf_1 (by decide) ?_
  refine lv_idiv hx hb dX2_ringOf_3 (by decide) ?_
  refine lv_iconst (v := 5) hx hb dX2_ringOf_4 (by decide) ?_
  refine lv_isub hx hb dX2_ringOf_5 ?_
  refine mabs hx hb hml hl.1 hown hk0 hk0S hk0I hk0C (Nat.le_of_ble_eq_true rfl) (Nat.le_of_ble_eq_true rfl) ⟨Nat.zero_le _, Nat.zero_le _⟩ dX2_ringOf_6 ?_
  refine lv_iload_n hx hb dX2_ringOf_9 rfl (lv_at hl 0 rfl) ?_
  refine lv_bipush (v := 11) hx hb dX2_ringOf_10 (by decide) ?_
  refine jirem hx hb dX2_ringOf_12 (by decide) ?_
  refine lv_iconst (v := 5) hx hb dX2_ringOf_13 (by decide) ?_
  refine lv_isub hx hb dX2_ringOf_14 ?_
  refine mabs hx hb hml hl.1 hown hk0 hk0S hk0I hk0C (Nat.le_of_ble_eq_true rfl) (Nat.le_of_ble_eq_true rfl) ⟨Nat.zero_le _, Nat.zero_le _⟩ dX2_ringOf_15 ?_
  refine mmax hx hb hml hl.1 hown hk1 hk1S hk1I hk1C (Nat.le_of_ble_eq_true rfl) (Nat.le_of_ble_eq_true rfl) ⟨Nat.zero_le _, Nat.zero_le _⟩ dX2_ringOf_18 ?_
  obtain rfl := Option.some.inj hf
  exact W.iret (v := (jmax (jabs ((a0 / 11) - 5)) (jabs ((jrem a0 11) - 5)))) hx hb hr (fun t ht hW => ⟨_, rfl, rfl, ht⟩) (fun _ h => by cases h) dX2_ringOf_21
set_option maxHeartbeats 4000000 in
set_option maxRecDepth 100000 in
theorem mX2_isRim (l : Launch) (dC : Nat → ClassId) (dI : Nat → Nat → Nat) (cI cZ cC cO : ClassId) (a0 : Int32) (out : Int32) (hf : fX2_isRim a0 = some out) : Met l yX2_isRim wsX2_isRim rmX2_isRim (va_Pc [.int a0] (pcR (dC, dI) (wTys cI cZ cC cO) ([] : va_W))) (vp_Si (fun r => r = out)) 0 0 (fun _ => False) := by
  refine Met.ofW (cc := cX2_isRim) (maxL := 1) (ret := (some .boolean)) (by decide) rfl ?_
  intro p e s m args below meth c s₁ B hml hv
  obtain ⟨hargs, hP, hK, hN⟩ := hv
  have hx := B.exec
  have hb := B.bytes
  have hr := B.returns
  have hts := atoms_spec (ws := wsX2_isRim) B.pre
  have hown : s.vm.findClass RX2 = some m.cls := findClass_of_methodNamed B.named
  have hlocks := B.notSynchronized
  have hE := lg_entry_eq m [.int a0] 1
  rw [← hargs] at hE
  rw [hE]
  have hl := lv_entry [.int a0] (n := 1) (Nat.le_of_ble_eq_true rfl)
  generalize (lg_sl [.int a0] ++ List.replicate (1 - (lg_sl [.int a0]).length) Slot.unset).toArray = ls at hl ⊢
  have hl : lv_has ls 1 [(0, .int a0)] := hl
  unfold fX2_isRim at hf
  refine lv_iload_n hx hb dX2_isRim_0 rfl (lv_at hl 0 rfl) ?_
  refine lv_if_lt (tgt := 14) hx hb dX2_isRim_1 (by decide) (fun hc => ?_) (fun hc => ?_)
  · have hf := ot hc hf
    refine lv_iconst (v := 0) hx hb dX2_isRim_14 (by decide) ?_
    obtain rfl := Option.some.inj hf
    exact W.zret (v := 0) (ty := .boolean) hx hb hr rfl (fun t ht hW => ⟨_, rfl, rfl, ht⟩) (fun _ h => by cases h) dX2_isRim_15
  · have hf := oe hc hf
    refine lv_iload_n hx hb dX2_isRim_4 rfl (lv_at hl 0 rfl) ?_
    refine lv_bipush (v := 40) hx hb dX2_isRim_5 (by decide) ?_
    refine lv_icmp_ge (tgt := 14) hx hb dX2_isRim_7 (by decide) (fun hc => ?_) (fun hc => ?_)
    · have hf := ot hc hf
      refine lv_iconst (v := 0) hx hb dX2_isRim_14 (by decide) ?_
      obtain rfl := Option.some.inj hf
      exact W.zret (v := 0) (ty := .boolean) hx hb hr rfl (fun t ht hW => ⟨_, rfl, rfl, ht⟩) (fun _ h => by cases h) dX2_isRim_15
    · have hf := oe hc hf
      refine lv_iconst (v := 1) hx hb dX2_isRim_10 (by decide) ?_
      refine lv_goto (tgt := 15) hx hb dX2_isRim_11 (by decide) ?_
      obtain rfl := Option.some.inj hf
      exact W.zret (v := 1) (ty := .boolean) hx hb hr rfl (fun t ht hW => ⟨_, rfl, rfl, ht⟩) (fun _ h => by cases h) dX2_isRim_15
set_option maxHeartbeats 4000000 in
set_option maxRecDepth 100000 in
theorem mX2_cellOfRim (l : Launch) (dC : Nat → ClassId) (dI : Nat → Nat → Nat) (cI cZ cC cO : ClassId) (a0 : Int32) (out : Int32) (hf : fX2_cellOfRim a0 = some out) : Met l yX2_cellOfRim wsX2_cellOfRim rmX2_cellOfRim (va_Pc [.int a0] (pcR (dC, dI) (wTys cI cZ cC cO) ([] : va_W))) (vp_Si (fun r => r = out)) 0 0 (fun _ => False) := by
  refine Met.ofW (cc := cX2_cellOfRim) (maxL := 1) (ret := (some .int)) (by decide) rfl ?_
  intro p e s m args below meth c s₁ B hml hv
  obtain ⟨hargs, hP, hK, hN⟩ := hv
  have hx := B.exec
  have hb := B.bytes
  have hr := B.returns
  have hts := atoms_spec (ws := wsX2_cellOfRim) B.pre
  have hown : s.vm.findClass RX2 = some m.cls := findClass_of_methodNamed B.named
  have hlocks := B.notSynchronized
  have hE := lg_entry_eq m [.int a0] 1
  rw [← hargs] at hE
  rw [hE]
  have hl := lv_entry [.int a0] (n := 1) (Nat.le_of_ble_eq_true rfl)
  generalize (lg_sl [.int a0] ++ List.replicate (1 - (lg_sl [.int a0]).length) Slot.unset).toArray = ls at hl ⊢
  have hl : lv_has ls 1 [(0, .int a0)] := hl
  unfold fX2_cellOfRim at hf
  refine lv_iload_n hx hb dX2_cellOfRim_0 rfl (lv_at hl 0 rfl) ?_
  refine lv_bipush (v := 10) hx hb dX2_cellOfRim_1 (by decide) ?_
  refine lv_icmp_gt (tgt := 8) hx hb dX2_cellOfRim_3 (by decide) (fun hc => ?_) (fun hc => ?_)
  · have hf := ot hc hf
    refine lv_iload_n hx hb dX2_cellOfRim_8 rfl (lv_at hl 0 rfl) ?_
    refine lv_bipush (v := 20) hx hb dX2_cellOfRim_9 (by decide) ?_
    refine lv_icmp_gt (tgt := 27) hx hb dX2_cellOfRim_11 (by decide) (fun hc => ?_) (fun hc => ?_)
    · have hf := ot hc hf
      refine lv_iload_n hx hb dX2_cellOfRim_27 rfl (lv_at hl 0 rfl) ?_
      refine lv_bipush (v := 30) hx hb dX2_cellOfRim_28 (by decide) ?_
      refine lv_icmp_gt (tgt := 39) hx hb dX2_cellOfRim_30 (by decide) (fun hc => ?_) (fun hc => ?_)
      · have hf := ot hc hf
        refine lv_bipush (v := 11) hx hb dX2_cellOfRim_39 (by decide) ?_
        refine lv_bipush (v := 40) hx hb dX2_cellOfRim_41 (by decide) ?_
        refine lv_iload_n hx hb dX2_cellOfRim_43 rfl (lv_at hl 0 rfl) ?_
        refine lv_isub hx hb dX2_cellOfRim_44 ?_
        refine lv_imul hx hb dX2_cellOfRim_45 ?_
        obtain rfl := Option.some.inj hf
        exact W.iret (v := (11 * (40 - a0))) hx hb hr (fun t ht hW => ⟨_, rfl, rfl, ht⟩) (fun _ h => by cases h) dX2_cellOfRim_46
      · have hf := oe hc hf
        refine lv_sipush (v := 140) hx hb dX2_cellOfRim_33 (by decide) ?_
        refine lv_iload_n hx hb dX2_cellOfRim_36 rfl (lv_at hl 0 rfl) ?_
        refine lv_isub hx hb dX2_cellOfRim_37 ?_
        obtain rfl := Option.some.inj hf
        exact W.iret (v := (140 - a0)) hx hb hr (fun t ht hW => ⟨_, rfl, rfl, ht⟩) (fun _ h => by cases h) dX2_cellOfRim_38
    · have hf := oe hc hf
      refine lv_bipush (v := 11) hx hb dX2_cellOfRim_14 (by decide) ?_
      refine lv_iload_n hx hb dX2_cellOfRim_16 rfl (lv_at hl 0 rfl) ?_
      refine lv_bipush (v := 10) hx hb dX2_cellOfRim_17 (by decide) ?_
      refine lv_isub hx hb dX2_cellOfRim_19 ?_
      refine lv_imul hx hb dX2_cellOfRim_20 ?_
      refine lv_bipush (v := 11) hx hb dX2_cellOfRim_21 (by decide) ?_
      refine lv_iadd hx hb dX2_cellOfRim_23 ?_
      refine lv_iconst (v := 1) hx hb dX2_cellOfRim_24 (by decide) ?_
      refine lv_isub hx hb dX2_cellOfRim_25 ?_
      obtain rfl := Option.some.inj hf
      exact W.iret (v := (((11 * (a0 - 10)) + 11) - 1)) hx hb hr (fun t ht hW => ⟨_, rfl, rfl, ht⟩) (fun _ h => by cases h) dX2_cellOfRim_26
  · have hf := oe hc hf
    refine lv_iload_n hx hb dX2_cellOfRim_6 rfl (lv_at hl 0 rfl) ?_
    obtain rfl := Option.some.inj hf
    exact W.iret (v := a0) hx hb hr (fun t ht hW => ⟨_, rfl, rfl, ht⟩) (fun _ h => by cases h) dX2_cellOfRim_7
set_option maxHeartbeats 4000000 in
set_option maxRecDepth 100000 in
theorem mX2_neighbour (l : Launch) (dC : Nat → ClassId) (dI : Nat → Nat → Nat) (cI cZ cC cO : ClassId) (a0 : Int32) (a1 : Int32) (out : Int32) (hf : fX2_neighbour a0 a1 = some out) : Met l yX2_neighbour wsX2_neighbour rmX2_neighbour (va_Pc [.int a0, .int a1] (pcR (dC, dI) (wTys cI cZ cC cO) ([] : va_W))) (vp_Si (fun r => r = out)) 0 0 (fun _ => False) := by
  refine Met.ofW (cc := cX2_neighbour) (maxL := 4) (ret := (some .int)) (by decide) rfl ?_
  intro p e s m args below meth c s₁ B hml hv
  obtain ⟨hargs, hP, hK, hN⟩ := hv
  have hx := B.exec
  have hb := B.bytes
  have hr := B.returns
  have hts := atoms_spec (ws := wsX2_neighbour) B.pre
  have hown : s.vm.findClass RX2 = some m.cls := findClass_of_methodNamed B.named
  have hlocks := B.notSynchronized
  have hE := lg_entry_eq m [.int a0, .int a1] 4
  rw [← hargs] at hE
  rw [hE]
  have hl := lv_entry [.int a0, .int a1] (n := 4) (Nat.le_of_ble_eq_true rfl)
  generalize (lg_sl [.int a0, .int a1] ++ List.replicate (4 - (lg_sl [.int a0, .int a1]).length) Slot.unset).toArray = ls at hl ⊢
  have hl : lv_has ls 4 [(0, .int a0), (1, .int a1)] := hl
  unfold fX2_neighbour at hf
  refine lv_iload_n hx hb dX2_neighbour_0 rfl (lv_at hl 0 rfl) ?_
  refine lv_if_lt (tgt := 10) hx hb dX2_neighbour_1 (by decide) (fun hc => ?_) (fun hc => ?_)
  · have hf := ot hc hf
    refine lv_bipush (v := (-4)) hx hb dX2_neighbour_10 (by decide) ?_
    obtain rfl := Option.some.inj hf
    exact W.iret (v := (-4)) hx hb hr (fun t ht hW => ⟨_, rfl, rfl, ht⟩) (fun _ h => by cases h) dX2_neighbour_12
  · have hf := oe hc hf
    refine lv_iload_n hx hb dX2_neighbour_4 rfl (lv_at hl 0 rfl) ?_
    refine lv_bipush (v := 121) hx hb dX2_neighbour_5 (by decide) ?_
    refine lv_icmp_lt (tgt := 13) hx hb dX2_neighbour_7 (by decide) (fun hc => ?_) (fun hc => ?_)
    · have hf := ot hc hf
      refine lv_iload_n hx hb dX2_neighbour_13 rfl (lv_at hl 0 rfl) ?_
      refine lv_bipush (v := 11) hx hb dX2_neighbour_14 (by decide) ?_
      refine lv_idiv hx hb dX2_neighbour_16 (by decide) ?_
      refine lv_istore_n (lv' := [(2, .int (a0 / 11)), (0, .int a0), (1, .int a1)]) hx hb dX2_neighbour_17 rfl hl (by decide) rfl (fun ls hl => ?_)
      refine lv_iload_n hx hb dX2_neighbour_18 rfl (lv_at hl 1 rfl) ?_
      refine lv_bipush (v := 11) hx hb dX2_neighbour_19 (by decide) ?_
      refine jirem hx hb dX2_neighbour_21 (by decide) ?_
      refine lv_istore_n (lv' := [(3, .int (jrem a0 11)), (2, .int (a0 / 11)), (0, .int a0), (1, .int a1)]) hx hb dX2_neighbour_22 rfl hl (by decide) rfl (fun ls hl => ?_)
      refine lv_iload_n hx hb dX2_neighbour_23 rfl (lv_at hl 3 rfl) ?_
      by_cases hs24_0 : a1 = 0
      · have hf := ot hs24_0 hf
        refine lv_tableIn (off := 32) (tgt := 56) hx hb dX2_neighbour_24 (by rw [hs24_0]; decide) (by rw [hs24_0]; decide) (by rw [hs24_0]; rfl) (by decide) ?_
        refine lv_iload_n hx hb dX2_neighbour_56 rfl (lv_at hl 1 rfl) ?_
        refine lv_if_le (tgt := 67) hx hb dX2_neighbour_57 (by decide) (fun hc => ?_) (fun hc => ?_)
        · have hf := ot hc hf
          refine lv_bipush (v := (-4)) hx hb dX2_neighbour_67 (by decide) ?_
          obtain rfl := Option.some.inj hf
          exact W.iret (v := (-4)) hx hb hr (fun t ht hW => ⟨_, rfl, rfl, ht⟩) (fun _ h => by cases h) dX2_neighbour_69
        · have hf := oe hc hf
          refine lv_iload_n hx hb dX2_neighbour_60 rfl (lv_at hl 2 rfl) ?_
          refine lv_bipush (v := 11) hx hb dX2_neighbour_61 (by decide) ?_
          refine lv_isub hx hb dX2_neighbour_63 ?_
          refine lv_goto (tgt := 69) hx hb dX2_neighbour_64 (by decide) ?_
          obtain rfl := Option.some.inj hf
          exact W.iret (v := (a0 - 11)) hx hb hr (fun t ht hW => ⟨_, rfl, rfl, ht⟩) (fun _ h => by cases h) dX2_neighbour_69
      have hf := oe hs24_0 hf
      by_cases hs24_1 : a1 = 1
      · have hf := ot hs24_1 hf
        refine lv_tableIn (off := 46) (tgt := 70) hx hb dX2_neighbour_24 (by rw [hs24_1]; decide) (by rw [hs24_1]; decide) (by rw [hs24_1]; rfl) (by decide) ?_
        refine lv_iload_n hx hb dX2_neighbour_70 rfl (lv_at hl 0 rfl) ?_
        refine lv_bipush (v := 10) hx hb dX2_neighbour_71 (by decide) ?_
        refine lv_icmp_ge (tgt := 82) hx hb dX2_neighbour_73 (by decide) (fun hc => ?_) (fun hc => ?_)
        · have hf := ot hc hf
          refine lv_bipush (v := (-4)) hx hb dX2_neighbour_82 (by decide) ?_
          obtain rfl := Option.some.inj hf
          exact W.iret (v := (-4)) hx hb hr (fun t ht hW => ⟨_, rfl, rfl, ht⟩) (fun _ h => by cases h) dX2_neighbour_84
        · have hf := oe hc hf
          refine lv_iload_n hx hb dX2_neighbour_76 rfl (lv_at hl 2 rfl) ?_
          refine lv_iconst (v := 1) hx hb dX2_neighbour_77 (by decide) ?_
          refine lv_iadd hx hb dX2_neighbour_78 ?_
          refine lv_goto (tgt := 84) hx hb dX2_neighbour_79 (by decide) ?_
          obtain rfl := Option.some.inj hf
          exact W.iret (v := (a0 + 1)) hx hb hr (fun t ht hW => ⟨_, rfl, rfl, ht⟩) (fun _ h => by cases h) dX2_neighbour_84
      have hf := oe hs24_1 hf
      by_cases hs24_2 : a1 = 2
      · have hf := ot hs24_2 hf
        refine lv_tableIn (off := 61) (tgt := 85) hx hb dX2_neighbour_24 (by rw [hs24_2]; decide) (by rw [hs24_2]; decide) (by rw [hs24_2]; rfl) (by decide) ?_
        refine lv_iload_n hx hb dX2_neighbour_85 rfl (lv_at hl 1 rfl) ?_
        refine lv_bipush (v := 10) hx hb dX2_neighbour_86 (by decide) ?_
        refine lv_icmp_ge (tgt := 98) hx hb dX2_neighbour_88 (by decide) (fun hc => ?_) (fun hc => ?_)
        · have hf := ot hc hf
          refine lv_bipush (v := (-4)) hx hb dX2_neighbour_98 (by decide) ?_
          obtain rfl := Option.some.inj hf
          exact W.iret (v := (-4)) hx hb hr (fun t ht hW => ⟨_, rfl, rfl, ht⟩) (fun _ h => by cases h) dX2_neighbour_100
        · have hf := oe hc hf
          refine lv_iload_n hx hb dX2_neighbour_91 rfl (lv_at hl 2 rfl) ?_
          refine lv_bipush (v := 11) hx hb dX2_neighbour_92 (by decide) ?_
          refine lv_iadd hx hb dX2_neighbour_94 ?_
          refine lv_goto (tgt := 100) hx hb dX2_neighbour_95 (by decide) ?_
          obtain rfl := Option.some.inj hf
          exact W.iret (v := (a0 + 11)) hx hb hr (fun t ht hW => ⟨_, rfl, rfl, ht⟩) (fun _ h => by cases h) dX2_neighbour_100
      have hf := oe hs24_2 hf
      by_cases hs24_3 : a1 = 3
      · have hf := ot hs24_3 hf
        refine lv_tableIn (off := 77) (tgt := 101) hx hb dX2_neighbour_24 (by rw [hs24_3]; decide) (by rw [hs24_3]; decide) (by rw [hs24_3]; rfl) (by decide) ?_
        refine lv_iload_n hx hb dX2_neighbour_101 rfl (lv_at hl 0 rfl) ?_
        refine lv_if_le (tgt := 111) hx hb dX2_neighbour_102 (by decide) (fun hc => ?_) (fun hc => ?_)
        · have hf := ot hc hf
          refine lv_bipush (v := (-4)) hx hb dX2_neighbour_111 (by decide) ?_
          obtain rfl := Option.some.inj hf
          exact W.iret (v := (-4)) hx hb hr (fun t ht hW => ⟨_, rfl, rfl, ht⟩) (fun _ h => by cases h) dX2_neighbour_113
        · have hf := oe hc hf
          refine lv_iload_n hx hb dX2_neighbour_105 rfl (lv_at hl 2 rfl) ?_
          refine lv_iconst (v := 1) hx hb dX2_neighbour_106 (by decide) ?_
          refine lv_isub hx hb dX2_neighbour_107 ?_
          refine lv_goto (tgt := 113) hx hb dX2_neighbour_108 (by decide) ?_
          obtain rfl := Option.some.inj hf
          exact W.iret (v := (a0 - 1)) hx hb hr (fun t ht hW => ⟨_, rfl, rfl, ht⟩) (fun _ h => by cases h) dX2_neighbour_113
      have hf := oe hs24_3 hf
      have hs24_0T := lv_neT (a := 0) hs24_0 rfl
      have hs24_1T := lv_neT (a := 1) hs24_1 rfl
      have hs24_2T := lv_neT (a := 2) hs24_2 rfl
      have hs24_3T := lv_neT (a := 3) hs24_3 rfl
      refine lv_tableOut (tgt := 114) hx hb dX2_neighbour_24 (by omega) (by decide) ?_
      refine lv_bipush (v := (-4)) hx hb dX2_neighbour_114 (by decide) ?_
      obtain rfl := Option.some.inj hf
      exact W.iret (v := (-4)) hx hb hr (fun t ht hW => ⟨_, rfl, rfl, ht⟩) (fun _ h => by cases h) dX2_neighbour_116
    · have hf := oe hc hf
      refine lv_bipush (v := (-4)) hx hb dX2_neighbour_10 (by decide) ?_
      obtain rfl := Option.some.inj hf
      exact W.iret (v := (-4)) hx hb hr (fun t ht hW => ⟨_, rfl, rfl, ht⟩) (fun _ h => by cases h) dX2_neighbour_12
set_option maxHeartbeats 4000000 in
set_option maxRecDepth 100000 in
theorem mX7_nextLot (l : Launch) (dC : Nat → ClassId) (dI : Nat → Nat → Nat) (cI cZ cC cO : ClassId) (a0 : Int32) (out : Int32) (hf : fX7_nextLot a0 = some out) : Met l yX7_nextLot wsX7_nextLot rmX7_nextLot (va_Pc [.int a0] (pcR (dC, dI) (wTys cI cZ cC cO) ([] : va_W))) (vp_Si (fun r => r = out)) 0 0 (fun _ => False) := by
  refine Met.ofW (cc := cX7_nextLot) (maxL := 1) (ret := (some .int)) (by decide) rfl ?_
  intro p e s m args below meth c s₁ B hml hv
  obtain ⟨hargs, hP, hK, hN⟩ := hv
  have hx := B.exec
  have hb := B.bytes
  have hr := B.returns
  have hts := atoms_spec (ws := wsX7_nextLot) B.pre
  have hown : s.vm.findClass RX7 = some m.cls := findClass_of_methodNamed B.named
  have hlocks := B.notSynchronized
  have hE := lg_entry_eq m [.int a0] 1
  rw [← hargs] at hE
  rw [hE]
  have hl := lv_entry [.int a0] (n := 1) (Nat.le_of_ble_eq_true rfl)
  generalize (lg_sl [.int a0] ++ List.replicate (1 - (lg_sl [.int a0]).length) Slot.unset).toArray = ls at hl ⊢
  have hl : lv_has ls 1 [(0, .int a0)] := hl
  unfold fX7_nextLot at hf
  refine lv_sipush (v := 421) hx hb dX7_nextLot_0 (by decide) ?_
  refine lv_iload_n hx hb dX7_nextLot_3 rfl (lv_at hl 0 rfl) ?_
  refine lv_imul hx hb dX7_nextLot_4 ?_
  refine lv_sipush (v := 1663) hx hb dX7_nextLot_5 (by decide) ?_
  refine lv_iadd hx hb dX7_nextLot_8 ?_
  refine lv_sipush (v := 10000) hx hb dX7_nextLot_9 (by decide) ?_
  refine jirem hx hb dX7_nextLot_12 (by decide) ?_
  obtain rfl := Option.some.inj hf
  exact W.iret (v := (jrem ((421 * a0) + 1663) 10000)) hx hb hr (fun t ht hW => ⟨_, rfl, rfl, ht⟩) (fun _ h => by cases h) dX7_nextLot_13
set_option maxHeartbeats 4000000 in
set_option maxRecDepth 100000 in
theorem mX6_sticks (l : Launch) (dC : Nat → ClassId) (dI : Nat → Nat → Nat) (cI cZ cC cO : ClassId) (q0 : Nat → Nat) (g0 : GX6) (out : Int32) (hf : fX6_sticks g0 = some out) : Met l yX6_sticks wsX6_sticks rmX6_sticks (va_Pc [.ref (q0 0)] (pcR (dC, dI) (wTys cI cZ cC cO) (wX6 cI cZ cC q0 g0))) (vp_Si (fun r => r = out)) 0 0 (fun _ => False) := by
  refine Met.ofW (cc := cX6_sticks) (maxL := 1) (ret := (some .boolean)) (by decide) rfl ?_
  intro p e s m args below meth c s₁ B hml hv
  obtain ⟨hargs, hP, hK, hN⟩ := hv
  have hx := B.exec
  have hb := B.bytes
  have hr := B.returns
  have hts := atoms_spec (ws := wsX6_sticks) B.pre
  have hown : s.vm.findClass RX6 = some m.cls := findClass_of_methodNamed B.named
  have hlocks := B.notSynchronized
  have hk0 := hts (.fieldLink RX6 24 "RimGrains$Walk" "holder" "I") (by decide +kernel)
  have hin6 : ∀ w ∈ wsX60, w ∈ wsX6_sticks := by decide +kernel
  have hE := lg_entry_eq m [.ref (q0 0)] 1
  rw [← hargs] at hE
  rw [hE]
  have hl := lv_entry [.ref (q0 0)] (n := 1) (Nat.le_of_ble_eq_true rfl)
  generalize (lg_sl [.ref (q0 0)] ++ List.replicate (1 - (lg_sl [.ref (q0 0)]).length) Slot.unset).toArray = ls at hl ⊢
  have hl : lv_has ls 1 [(0, .ref (q0 0))] := hl
  unfold fX6_sticks at hf
  refine lv_aload_n hx hb dX6_sticks_0 rfl (lv_at hl 0 rfl) ?_
  refine va_get (D := (dC, dI)) (ci := 5) (v := .int (pX6_holder g0)) (C := RX6) (T := TX6) (N := 5) hx hb hts hin6 hown hK hP 0 rfl rfl 4 (by decide) hk0 (fun _ h9 => h9) rfl dX6_sticks_1 ?_
  refine lv_bipush (v := (-4)) hx hb dX6_sticks_4 (by decide) ?_
  refine lv_icmp_eq (tgt := 13) hx hb dX6_sticks_6 (by decide) (fun hc => ?_) (fun hc => ?_)
  · have hf := ot hc hf
    refine lv_iconst (v := 0) hx hb dX6_sticks_13 (by decide) ?_
    obtain rfl := Option.some.inj hf
    exact W.zret (v := 0) (ty := .boolean) hx hb hr rfl (fun t ht hW => ⟨_, rfl, rfl, ht⟩) (fun _ h => by cases h) dX6_sticks_14
  · have hf := oe hc hf
    refine lv_iconst (v := 1) hx hb dX6_sticks_9 (by decide) ?_
    refine lv_goto (tgt := 14) hx hb dX6_sticks_10 (by decide) ?_
    obtain rfl := Option.some.inj hf
    exact W.zret (v := 1) (ty := .boolean) hx hb hr rfl (fun t ht hW => ⟨_, rfl, rfl, ht⟩) (fun _ h => by cases h) dX6_sticks_14
set_option maxHeartbeats 4000000 in
set_option maxRecDepth 100000 in
theorem mX7_isSettingValue (l : Launch) (dC : Nat → ClassId) (dI : Nat → Nat → Nat) (cI cZ cC cO : ClassId) (a0 : Int32) (a1 : Int32) (out : Int32) (hf : fX7_isSettingValue a0 a1 = some out) : Met l yX7_isSettingValue wsX7_isSettingValue rmX7_isSettingValue (va_Pc [.int a0, .int a1] (pcR (dC, dI) (wTys cI cZ cC cO) ([] : va_W))) (vp_Si (fun r => r = out)) 0 0 (fun _ => False) := by
  refine Met.ofW (cc := cX7_isSettingValue) (maxL := 2) (ret := (some .boolean)) (by decide) rfl ?_
  intro p e s m args below meth c s₁ B hml hv
  obtain ⟨hargs, hP, hK, hN⟩ := hv
  have hx := B.exec
  have hb := B.bytes
  have hr := B.returns
  have hts := atoms_spec (ws := wsX7_isSettingValue) B.pre
  have hown : s.vm.findClass RX7 = some m.cls := findClass_of_methodNamed B.named
  have hlocks := B.notSynchronized
  have hE := lg_entry_eq m [.int a0, .int a1] 2
  rw [← hargs] at hE
  rw [hE]
  have hl := lv_entry [.int a0, .int a1] (n := 2) (Nat.le_of_ble_eq_true rfl)
  generalize (lg_sl [.int a0, .int a1] ++ List.replicate (2 - (lg_sl [.int a0, .int a1]).length) Slot.unset).toArray = ls at hl ⊢
  have hl : lv_has ls 2 [(0, .int a0), (1, .int a1)] := hl
  unfold fX7_isSettingValue at hf
  refine lv_iload_n hx hb dX7_isSettingValue_0 rfl (lv_at hl 0 rfl) ?_
  by_cases hs1_0 : a0 = 0
  · have hf := ot hs1_0 hf
    refine lv_tableIn (off := 31) (tgt := 32) hx hb dX7_isSettingValue_1 (by rw [hs1_0]; decide) (by rw [hs1_0]; decide) (by rw [hs1_0]; rfl) (by decide) ?_
    refine lv_iload_n hx hb dX7_isSettingValue_32 rfl (lv_at hl 1 rfl) ?_
    refine lv_iconst (v := 1) hx hb dX7_isSettingValue_33 (by decide) ?_
    refine lv_icmp_lt (tgt := 46) hx hb dX7_isSettingValue_34 (by decide) (fun hc => ?_) (fun hc => ?_)
    · have hf := ot hc hf
      refine lv_iconst (v := 0) hx hb dX7_isSettingValue_46 (by decide) ?_
      obtain rfl := Option.some.inj hf
      exact W.zret (v := 0) (ty := .boolean) hx hb hr rfl (fun t ht hW => ⟨_, rfl, rfl, ht⟩) (fun _ h => by cases h) dX7_isSettingValue_47
    · have hf := oe hc hf
      refine lv_iload_n hx hb dX7_isSettingValue_37 rfl (lv_at hl 1 rfl) ?_
      refine lv_iconst (v := 4) hx hb dX7_isSettingValue_38 (by decide) ?_
      refine lv_icmp_gt (tgt := 46) hx hb dX7_isSettingValue_39 (by decide) (fun hc => ?_) (fun hc => ?_)
      · have hf := ot hc hf
        refine lv_iconst (v := 0) hx hb dX7_isSettingValue_46 (by decide) ?_
        obtain rfl := Option.some.inj hf
        exact W.zret (v := 0) (ty := .boolean) hx hb hr rfl (fun t ht hW => ⟨_, rfl, rfl, ht⟩) (fun _ h => by cases h) dX7_isSettingValue_47
      · have hf := oe hc hf
        refine lv_iconst (v := 1) hx hb dX7_isSettingValue_42 (by decide) ?_
        refine lv_goto (tgt := 47) hx hb dX7_isSettingValue_43 (by decide) ?_
        obtain rfl := Option.some.inj hf
        exact W.zret (v := 1) (ty := .boolean) hx hb hr rfl (fun t ht hW => ⟨_, rfl, rfl, ht⟩) (fun _ h => by cases h) dX7_isSettingValue_47
  have hf := oe hs1_0 hf
  by_cases hs1_1 : a0 = 1
  · have hf := ot hs1_1 hf
    refine lv_tableIn (off := 47) (tgt := 48) hx hb dX7_isSettingValue_1 (by rw [hs1_1]; decide) (by rw [hs1_1]; decide) (by rw [hs1_1]; rfl) (by decide) ?_
    refine lv_iload_n hx hb dX7_isSettingValue_48 rfl (lv_at hl 1 rfl) ?_
    refine lv_bipush (v := 10) hx hb dX7_isSettingValue_49 (by decide) ?_
    refine lv_icmp_lt (tgt := 65) hx hb dX7_isSettingValue_51 (by decide) (fun hc => ?_) (fun hc => ?_)
    · have hf := ot hc hf
      refine lv_iconst (v := 0) hx hb dX7_isSettingValue_65 (by decide) ?_
      obtain rfl := Option.some.inj hf
      exact W.zret (v := 0) (ty := .boolean) hx hb hr rfl (fun t ht hW => ⟨_, rfl, rfl, ht⟩) (fun _ h => by cases h) dX7_isSettingValue_66
    · have hf := oe hc hf
      refine lv_iload_n hx hb dX7_isSettingValue_54 rfl (lv_at hl 1 rfl) ?_
      refine lv_sipush (v := 200) hx hb dX7_isSettingValue_55 (by decide) ?_
      refine lv_icmp_gt (tgt := 65) hx hb dX7_isSettingValue_58 (by decide) (fun hc => ?_) (fun hc => ?_)
      · have hf := ot hc hf
        refine lv_iconst (v := 0) hx hb dX7_isSettingValue_65 (by decide) ?_
        obtain rfl := Option.some.inj hf
        exact W.zret (v := 0) (ty := .boolean) hx hb hr rfl (fun t ht hW => ⟨_, rfl, rfl, ht⟩) (fun _ h => by cases h) dX7_isSettingValue_66
      · have hf := oe hc hf
        refine lv_iconst (v := 1) hx hb dX7_isSettingValue_61 (by decide) ?_
        refine lv_goto (tgt := 66) hx hb dX7_isSettingValue_62 (by decide) ?_
        obtain rfl := Option.some.inj hf
        exact W.zret (v := 1) (ty := .boolean) hx hb hr rfl (fun t ht hW => ⟨_, rfl, rfl, ht⟩) (fun _ h => by cases h) dX7_isSettingValue_66
  have hf := oe hs1_1 hf
  by_cases hs1_2 : a0 = 2
  · have hf := ot hs1_2 hf
    refine lv_tableIn (off := 66) (tgt := 67) hx hb dX7_isSettingValue_1 (by rw [hs1_2]; decide) (by rw [hs1_2]; decide) (by rw [hs1_2]; rfl) (by decide) ?_
    refine lv_iload_n hx hb dX7_isSettingValue_67 rfl (lv_at hl 1 rfl) ?_
    refine lv_if_lt (tgt := 80) hx hb dX7_isSettingValue_68 (by decide) (fun hc => ?_) (fun hc => ?_)
    · have hf := ot hc hf
      refine lv_iconst (v := 0) hx hb dX7_isSettingValue_80 (by decide) ?_
      obtain rfl := Option.some.inj hf
      exact W.zret (v := 0) (ty := .boolean) hx hb hr rfl (fun t ht hW => ⟨_, rfl, rfl, ht⟩) (fun _ h => by cases h) dX7_isSettingValue_81
    · have hf := oe hc hf
      refine lv_iload_n hx hb dX7_isSettingValue_71 rfl (lv_at hl 1 rfl) ?_
      refine lv_iconst (v := 4) hx hb dX7_isSettingValue_72 (by decide) ?_
      refine lv_icmp_gt (tgt := 80) hx hb dX7_isSettingValue_73 (by decide) (fun hc => ?_) (fun hc => ?_)
      · have hf := ot hc hf
        refine lv_iconst (v := 0) hx hb dX7_isSettingValue_80 (by decide) ?_
        obtain rfl := Option.some.inj hf
        exact W.zret (v := 0) (ty := .boolean) hx hb hr rfl (fun t ht hW => ⟨_, rfl, rfl, ht⟩) (fun _ h => by cases h) dX7_isSettingValue_81
      · have hf := oe hc hf
        refine lv_iconst (v := 1) hx hb dX7_isSettingValue_76 (by decide) ?_
        refine lv_goto (tgt := 81) hx hb dX7_isSettingValue_77 (by decide) ?_
        obtain rfl := Option.some.inj hf
        exact W.zret (v := 1) (ty := .boolean) hx hb hr rfl (fun t ht hW => ⟨_, rfl, rfl, ht⟩) (fun _ h => by cases h) dX7_isSettingValue_81
  have hf := oe hs1_2 hf
  by_cases hs1_3 : a0 = 3
  · have hf := ot hs1_3 hf
    refine lv_tableIn (off := 81) (tgt := 82) hx hb dX7_isSettingValue_1 (by rw [hs1_3]; decide) (by rw [hs1_3]; decide) (by rw [hs1_3]; rfl) (by decide) ?_
    refine lv_iload_n hx hb dX7_isSettingValue_82 rfl (lv_at hl 1 rfl) ?_
    refine lv_if_lt (tgt := 95) hx hb dX7_isSettingValue_83 (by decide) (fun hc => ?_) (fun hc => ?_)
    · have hf := ot hc hf
      refine lv_iconst (v := 0) hx hb dX7_isSettingValue_95 (by decide) ?_
      obtain rfl := Option.some.inj hf
      exact W.zret (v := 0) (ty := .boolean) hx hb hr rfl (fun t ht hW => ⟨_, rfl, rfl, ht⟩) (fun _ h => by cases h) dX7_isSettingValue_96
    · have hf := oe hc hf
      refine lv_iload_n hx hb dX7_isSettingValue_86 rfl (lv_at hl 1 rfl) ?_
      refine lv_iconst (v := 4) hx hb dX7_isSettingValue_87 (by decide) ?_
      refine lv_icmp_ge (tgt := 95) hx hb dX7_isSettingValue_88 (by decide) (fun hc => ?_) (fun hc => ?_)
      · have hf := ot hc hf
        refine lv_iconst (v := 0) hx hb dX7_isSettingValue_95 (by decide) ?_
        obtain rfl := Option.some.inj hf
        exact W.zret (v := 0) (ty := .boolean) hx hb hr rfl (fun t ht hW => ⟨_, rfl, rfl, ht⟩) (fun _ h => by cases h) dX7_isSettingValue_96
      · have hf := oe hc hf
        refine lv_iconst (v := 1) hx hb dX7_isSettingValue_91 (by decide) ?_
        refine lv_goto (tgt := 96) hx hb dX7_isSettingValue_92 (by decide) ?_
        obtain rfl := Option.some.inj hf
        exact W.zret (v := 1) (ty := .boolean) hx hb hr rfl (fun t ht hW => ⟨_, rfl, rfl, ht⟩) (fun _ h => by cases h) dX7_isSettingValue_96
  have hf := oe hs1_3 hf
  have hs1_0T := lv_neT (a := 0) hs1_0 rfl
  have hs1_1T := lv_neT (a := 1) hs1_1 rfl
  have hs1_2T := lv_neT (a := 2) hs1_2 rfl
  have hs1_3T := lv_neT (a := 3) hs1_3 rfl
  refine lv_tableOut (tgt := 97) hx hb dX7_isSettingValue_1 (by omega) (by decide) ?_
  refine lv_iconst (v := 0) hx hb dX7_isSettingValue_97 (by decide) ?_
  obtain rfl := Option.some.inj hf
  exact W.zret (v := 0) (ty := .boolean) hx hb hr rfl (fun t ht hW => ⟨_, rfl, rfl, ht⟩) (fun _ h => by cases h) dX7_isSettingValue_98
set_option maxHeartbeats 4000000 in
set_option maxRecDepth 100000 in
theorem mX1_write (l : Launch) (dC : Nat → ClassId) (dI : Nat → Nat → Nat) (cI cZ cC cO : ClassId) (q0 : Nat → Nat) (a1 : Int32) (g0 : GX1) (sz : Nat) (out : GX1) (hf : fX1_write a1 g0 = some out) : Met l yX1_write wsX1_write rmX1_write (va_Pc [.ref (q0 0), .int a1] (pcW (dC, dI) (wTys cI cZ cC cO) sz (wX1 cI cZ cC q0 g0))) (va_Qv (fun (_ : Unit) => True) (fun _ => poW (dC, dI) (va_A (wX1 cI cZ cC q0 g0) sz) (wX1 cI cZ cC q0 out)) (va_A (wX1 cI cZ cC q0 g0) sz)) 0 0 (va_A (wX1 cI cZ cC q0 g0) sz) := by
  refine Met.ofW (cc := cX1_write) (maxL := 2) (ret := none) (by decide) rfl ?_
  intro p e s m args below meth c s₁ B hml hv
  obtain ⟨hargs, hsz, hP, hK, hN, hD0⟩ := hv
  have hx := B.exec
  have hb := B.bytes
  have hr := B.returns
  have hts := atoms_spec (ws := wsX1_write) B.pre
  have hown : s.vm.findClass RX1 = some m.cls := findClass_of_methodNamed B.named
  have hlocks := B.notSynchronized
  have hk0 := hts (.fieldLink RX1 15 "RimGrains$Pad" "length" "I") (by decide +kernel)
  have hk1 := hts (.fieldLink RX1 9 "RimGrains$Pad" "signs" "[C") (by decide +kernel)
  have hin1 : ∀ w ∈ wsX10, w ∈ wsX1_write := by decide +kernel
  subst hsz
  have hD := hD0.self (sz := s.heap.size)
  generalize hAe : va_A (wX1 cI cZ cC q0 g0) s.heap.size = A at hD ⊢
  have hA : ∀ q : Nat, s.heap.size ≤ q → A q := fun q h => by rw [← hAe]; exact Or.inr h
  have hS : va_S A s.heap s.heap [] := va_S.rf
  have hE := lg_entry_eq m [.ref (q0 0), .int a1] 2
  rw [← hargs] at hE
  rw [hE]
  have hl := lv_entry [.ref (q0 0), .int a1] (n := 2) (Nat.le_of_ble_eq_true rfl)
  generalize (lg_sl [.ref (q0 0), .int a1] ++ List.replicate (2 - (lg_sl [.ref (q0 0), .int a1]).length) Slot.unset).toArray = ls at hl ⊢
  have hl : lv_has ls 2 [(0, .ref (q0 0)), (1, .int a1)] := hl
  have hP : va_P (dC, dI) vwCl (wX1 cI cZ cC q0 g0) s.heap := hP
  unfold fX1_write at hf
  refine lv_aload_n hx hb dX1_write_0 rfl (lv_at hl 0 rfl) ?_
  refine va_get (D := (dC, dI)) (ci := 1) (v := .int (pX1_length g0)) (C := RX1) (T := TX1) (N := 6) hx hb hts hin1 hown hK hP 0 rfl rfl 1 (by decide) hk0 (fun _ h9 => h9) rfl dX1_write_1 ?_
  refine lv_aload_n hx hb dX1_write_4 rfl (lv_at hl 0 rfl) ?_
  refine va_get (D := (dC, dI)) (ci := 1) (v := .ref (q0 1)) (C := RX1) (T := TX1) (N := 6) hx hb hts hin1 hown hK hP 0 rfl rfl 0 (by decide) hk1 (fun _ h9 => h9) rfl dX1_write_5 ?_
  refine va_alen (v := 60) hx hb hK hP 1 2 rfl rfl rfl dX1_write_8 ?_
  refine lv_icmp_ge (tgt := 32) hx hb dX1_write_9 (by decide) (fun hc => ?_) (fun hc => ?_)
  · have hf := ot hc hf
    obtain rfl := Option.some.inj hf
    exact W.vret hx hb hr (fun t ht hW => ⟨⟨(), rfl, trivial, by rw [ht]; exact hP, hD⟩, hS.F ht⟩) hS.2.2 dX1_write_32
  · have hf := oe hc hf
    refine lv_aload_n hx hb dX1_write_12 rfl (lv_at hl 0 rfl) ?_
    refine va_get (D := (dC, dI)) (ci := 1) (v := .ref (q0 1)) (C := RX1) (T := TX1) (N := 6) hx hb hts hin1 hown hK hP 0 rfl rfl 0 (by decide) hk1 (fun _ h9 => h9) rfl dX1_write_13 ?_
    refine lv_aload_n hx hb dX1_write_16 rfl (lv_at hl 0 rfl) ?_
    refine va_get (D := (dC, dI)) (ci := 1) (v := .int (pX1_length g0)) (C := RX1) (T := TX1) (N := 6) hx hb hts hin1 hown hK hP 0 rfl rfl 1 (by decide) hk0 (fun _ h9 => h9) rfl dX1_write_17 ?_
    refine lv_iload_n hx hb dX1_write_20 rfl (lv_at hl 1 rfl) ?_
    obtain ⟨hin, hf⟩ := og hf
    refine va_cast hx hb hK hP hD hS 1 2 rfl rfl hin dX1_write_21 (fun H locs hP hD hS => ?_)
    have hP : va_P (dC, dI) vwCl (wX1 cI cZ cC q0 ((upd (pX1_signs g0) (pX1_length g0).toNatClampNeg (vp_nar .char a1)), (pX1_length g0), (pX1_next g0), (pX1_place g0), (pX1_letter g0), (pX1_number g0))) H := hP
    have hD : va_D A (wX1 cI cZ cC q0 ((upd (pX1_signs g0) (pX1_length g0).toNatClampNeg (vp_nar .char a1)), (pX1_length g0), (pX1_next g0), (pX1_place g0), (pX1_letter g0), (pX1_number g0))) := hD
    refine lv_aload_n hx hb dX1_write_22 rfl (lv_at hl 0 rfl) ?_
    refine lv_dup hx hb dX1_write_23 rfl ?_
    refine va_get (D := (dC, dI)) (ci := 1) (v := .int (pX1_length g0)) (C := RX1) (T := TX1) (N := 6) hx hb hts hin1 hown hK hP 0 rfl rfl 1 (by decide) hk0 (fun _ h9 => h9) rfl dX1_write_24 ?_
    refine lv_iconst (v := 1) hx hb dX1_write_27 (by decide) ?_
    refine lv_iadd hx hb dX1_write_28 ?_
    refine va_put (D := (dC, dI)) (ci := 1) (v := .int ((pX1_length g0) + 1)) (ty := .int) (C := RX1) (T := TX1) (N := 6) hx hb hts hin1 tyX1 tyX1_ok nmX1 hown hK hP hD hS 0 rfl rfl 1 (by decide) hk0 (fun _ h9 => h9) rfl (by decide +kernel) rfl rfl (Nat.le_of_ble_eq_true rfl) dX1_write_29 (fun H locs hP hD hS => ?_)
    have hP : va_P (dC, dI) vwCl (wX1 cI cZ cC q0 ((upd (pX1_signs g0) (pX1_length g0).toNatClampNeg (vp_nar .char a1)), ((pX1_length g0) + 1), (pX1_next g0), (pX1_place g0), (pX1_letter g0), (pX1_number g0))) H := hP
    have hD : va_D A (wX1 cI cZ cC q0 ((upd (pX1_signs g0) (pX1_length g0).toNatClampNeg (vp_nar .char a1)), ((pX1_length g0) + 1), (pX1_next g0), (pX1_place g0), (pX1_letter g0), (pX1_number g0))) := hD
    obtain rfl := Option.some.inj hf
    exact W.vret hx hb hr (fun t ht hW => ⟨⟨(), rfl, trivial, by rw [ht]; exact hP, hD⟩, hS.F ht⟩) hS.2.2 dX1_write_32
set_option maxHeartbeats 4000000 in
set_option maxRecDepth 100000 in
theorem mX1_wipe (l : Launch) (dC : Nat → ClassId) (dI : Nat → Nat → Nat) (cI cZ cC cO : ClassId) (q0 : Nat → Nat) (g0 : GX1) (sz : Nat) (out : GX1) (hf : fX1_wipe g0 = some out) : Met l yX1_wipe wsX1_wipe rmX1_wipe (va_Pc [.ref (q0 0)] (pcW (dC, dI) (wTys cI cZ cC cO) sz (wX1 cI cZ cC q0 g0))) (va_Qv (fun (_ : Unit) => True) (fun _ => poW (dC, dI) (va_A (wX1 cI cZ cC q0 g0) sz) (wX1 cI cZ cC q0 out)) (va_A (wX1 cI cZ cC q0 g0) sz)) 0 0 (va_A (wX1 cI cZ cC q0 g0) sz) := by
  refine Met.ofW (cc := cX1_wipe) (maxL := 1) (ret := none) (by decide) rfl ?_
  intro p e s m args below meth c s₁ B hml hv
  obtain ⟨hargs, hsz, hP, hK, hN, hD0⟩ := hv
  have hx := B.exec
  have hb := B.bytes
  have hr := B.returns
  have hts := atoms_spec (ws := wsX1_wipe) B.pre
  have hown : s.vm.findClass RX1 = some m.cls := findClass_of_methodNamed B.named
  have hlocks := B.notSynchronized
  have hk0 := hts (.fieldLink RX1 15 "RimGrains$Pad" "length" "I") (by decide +kernel)
  have hin1 : ∀ w ∈ wsX10, w ∈ wsX1_wipe := by decide +kernel
  subst hsz
  have hD := hD0.self (sz := s.heap.size)
  generalize hAe : va_A (wX1 cI cZ cC q0 g0) s.heap.size = A at hD ⊢
  have hA : ∀ q : Nat, s.heap.size ≤ q → A q := fun q h => by rw [← hAe]; exact Or.inr h
  have hS : va_S A s.heap s.heap [] := va_S.rf
  have hE := lg_entry_eq m [.ref (q0 0)] 1
  rw [← hargs] at hE
  rw [hE]
  have hl := lv_entry [.ref (q0 0)] (n := 1) (Nat.le_of_ble_eq_true rfl)
  generalize (lg_sl [.ref (q0 0)] ++ List.replicate (1 - (lg_sl [.ref (q0 0)]).length) Slot.unset).toArray = ls at hl ⊢
  have hl : lv_has ls 1 [(0, .ref (q0 0))] := hl
  have hP : va_P (dC, dI) vwCl (wX1 cI cZ cC q0 g0) s.heap := hP
  unfold fX1_wipe at hf
  refine lv_aload_n hx hb dX1_wipe_0 rfl (lv_at hl 0 rfl) ?_
  refine lv_iconst (v := 0) hx hb dX1_wipe_1 (by decide) ?_
  refine va_put (D := (dC, dI)) (ci := 1) (v := .int 0) (ty := .int) (C := RX1) (T := TX1) (N := 6) hx hb hts hin1 tyX1 tyX1_ok nmX1 hown hK hP hD hS 0 rfl rfl 1 (by decide) hk0 (fun _ h9 => h9) rfl (by decide +kernel) rfl rfl (Nat.le_of_ble_eq_true rfl) dX1_wipe_2 (fun H locs hP hD hS => ?_)
  have hP : va_P (dC, dI) vwCl (wX1 cI cZ cC q0 ((pX1_signs g0), 0, (pX1_next g0), (pX1_place g0), (pX1_letter g0), (pX1_number g0))) H := hP
  have hD : va_D A (wX1 cI cZ cC q0 ((pX1_signs g0), 0, (pX1_next g0), (pX1_place g0), (pX1_letter g0), (pX1_number g0))) := hD
  obtain rfl := Option.some.inj hf
  exact W.vret hx hb hr (fun t ht hW => ⟨⟨(), rfl, trivial, by rw [ht]; exact hP, hD⟩, hS.F ht⟩) hS.2.2 dX1_wipe_5
set_option maxHeartbeats 4000000 in
set_option maxRecDepth 100000 in
theorem mX1_isLetter (l : Launch) (dC : Nat → ClassId) (dI : Nat → Nat → Nat) (cI cZ cC cO : ClassId) (a0 : Int32) (out : Int32) (hf : fX1_isLetter a0 = some out) : Met l yX1_isLetter wsX1_isLetter rmX1_isLetter (va_Pc [.int a0] (pcR (dC, dI) (wTys cI cZ cC cO) ([] : va_W))) (vp_Si (fun r => r = out)) 0 0 (fun _ => False) := by
  refine Met.ofW (cc := cX1_isLetter) (maxL := 1) (ret := (some .boolean)) (by decide) rfl ?_
  intro p e s m args below meth c s₁ B hml hv
  obtain ⟨hargs, hP, hK, hN⟩ := hv
  have hx := B.exec
  have hb := B.bytes
  have hr := B.returns
  have hts := atoms_spec (ws := wsX1_isLetter) B.pre
  have hown : s.vm.findClass RX1 = some m.cls := findClass_of_methodNamed B.named
  have hlocks := B.notSynchronized
  have hE := lg_entry_eq m [.int a0] 1
  rw [← hargs] at hE
  rw [hE]
  have hl := lv_entry [.int a0] (n := 1) (Nat.le_of_ble_eq_true rfl)
  generalize (lg_sl [.int a0] ++ List.replicate (1 - (lg_sl [.int a0]).length) Slot.unset).toArray = ls at hl ⊢
  have hl : lv_has ls 1 [(0, .int a0)] := hl
  unfold fX1_isLetter at hf
  refine lv_iload_n hx hb dX1_isLetter_0 rfl (lv_at hl 0 rfl) ?_
  refine lv_bipush (v := 103) hx hb dX1_isLetter_1 (by decide) ?_
  have hJ1 : jX1_isLetter_1 = some out → ∀ ls : Array Slot, lv_has ls 1 [] → W p l e (headSpec wsX1_isLetter rmX1_isLetter).room s m args below meth c s.heap [] 0 0 (MQ below (vp_Si (fun r => r = out)) args s 0 0 (fun _ => False)) (F0 m 18 ls []) := by
    intro  hf ls hl
    unfold jX1_isLetter_1 at hf
    refine lv_iconst (v := 1) hx hb dX1_isLetter_18 (by decide) ?_
    refine lv_goto (tgt := 23) hx hb dX1_isLetter_19 (by decide) ?_
    obtain rfl := Option.some.inj hf
    exact W.zret (v := 1) (ty := .boolean) hx hb hr rfl (fun t ht hW => ⟨_, rfl, rfl, ht⟩) (fun _ h => by cases h) dX1_isLetter_23
  refine lv_icmp_eq (tgt := 18) hx hb dX1_isLetter_3 (by decide) (fun hc => ?_) (fun hc => ?_)
  · have hf := ot hc hf
    exact hJ1 hf ls (lv_sub hl [] rfl)
  · have hf := oe hc hf
    refine lv_iload_n hx hb dX1_isLetter_6 rfl (lv_at hl 0 rfl) ?_
    refine lv_bipush (v := 98) hx hb dX1_isLetter_7 (by decide) ?_
    refine lv_icmp_eq (tgt := 18) hx hb dX1_isLetter_9 (by decide) (fun hc => ?_) (fun hc => ?_)
    · have hf := ot hc hf
      exact hJ1 hf ls (lv_sub hl [] rfl)
    · have hf := oe hc hf
      refine lv_iload_n hx hb dX1_isLetter_12 rfl (lv_at hl 0 rfl) ?_
      refine lv_bipush (v := 119) hx hb dX1_isLetter_13 (by decide) ?_
      refine lv_icmp_ne (tgt := 22) hx hb dX1_isLetter_15 (by decide) (fun hc => ?_) (fun hc => ?_)
      · have hf := oe hc hf
        refine lv_iconst (v := 0) hx hb dX1_isLetter_22 (by decide) ?_
        obtain rfl := Option.some.inj hf
        exact W.zret (v := 0) (ty := .boolean) hx hb hr rfl (fun t ht hW => ⟨_, rfl, rfl, ht⟩) (fun _ h => by cases h) dX1_isLetter_23
      · have hf := ot hc hf
        exact hJ1 hf ls (lv_sub hl [] rfl)
set_option maxHeartbeats 4000000 in
set_option maxRecDepth 100000 in
theorem mX1_isWhole (l : Launch) (dC : Nat → ClassId) (dI : Nat → Nat → Nat) (cI cZ cC cO : ClassId) (a0 : Int32) (a1 : Int32) (out : Int32) (hf : fX1_isWhole a0 a1 = some out) : Met l yX1_isWhole wsX1_isWhole rmX1_isWhole (va_Pc [.int a0, .int a1] (pcR (dC, dI) (wTys cI cZ cC cO) ([] : va_W))) (vp_Si (fun r => r = out)) 0 0 (fun _ => False) := by
  refine Met.ofW (cc := cX1_isWhole) (maxL := 2) (ret := (some .boolean)) (by decide) rfl ?_
  intro p e s m args below meth c s₁ B hml hv
  obtain ⟨hargs, hP, hK, hN⟩ := hv
  have hx := B.exec
  have hb := B.bytes
  have hr := B.returns
  have hts := atoms_spec (ws := wsX1_isWhole) B.pre
  have hown : s.vm.findClass RX1 = some m.cls := findClass_of_methodNamed B.named
  have hlocks := B.notSynchronized
  have hE := lg_entry_eq m [.int a0, .int a1] 2
  rw [← hargs] at hE
  rw [hE]
  have hl := lv_entry [.int a0, .int a1] (n := 2) (Nat.le_of_ble_eq_true rfl)
  generalize (lg_sl [.int a0, .int a1] ++ List.replicate (2 - (lg_sl [.int a0, .int a1]).length) Slot.unset).toArray = ls at hl ⊢
  have hl : lv_has ls 2 [(0, .int a0), (1, .int a1)] := hl
  unfold fX1_isWhole at hf
  refine lv_iload_n hx hb dX1_isWhole_0 rfl (lv_at hl 0 rfl) ?_
  refine lv_bipush (v := 119) hx hb dX1_isWhole_1 (by decide) ?_
  have hJ1 : jX1_isWhole_1 = some out → ∀ ls : Array Slot, lv_has ls 2 [] → W p l e (headSpec wsX1_isWhole rmX1_isWhole).room s m args below meth c s.heap [] 0 0 (MQ below (vp_Si (fun r => r = out)) args s 0 0 (fun _ => False)) (F0 m 17 ls []) := by
    intro  hf ls hl
    unfold jX1_isWhole_1 at hf
    refine lv_iconst (v := 1) hx hb dX1_isWhole_17 (by decide) ?_
    refine lv_goto (tgt := 22) hx hb dX1_isWhole_18 (by decide) ?_
    obtain rfl := Option.some.inj hf
    exact W.zret (v := 1) (ty := .boolean) hx hb hr rfl (fun t ht hW => ⟨_, rfl, rfl, ht⟩) (fun _ h => by cases h) dX1_isWhole_22
  refine lv_icmp_eq (tgt := 17) hx hb dX1_isWhole_3 (by decide) (fun hc => ?_) (fun hc => ?_)
  · have hf := ot hc hf
    exact hJ1 hf ls (lv_sub hl [] rfl)
  · have hf := oe hc hf
    refine lv_iload_n hx hb dX1_isWhole_6 rfl (lv_at hl 0 rfl) ?_
    refine lv_bipush (v := 32) hx hb dX1_isWhole_7 (by decide) ?_
    refine lv_icmp_eq (tgt := 21) hx hb dX1_isWhole_9 (by decide) (fun hc => ?_) (fun hc => ?_)
    · have hf := ot hc hf
      refine lv_iconst (v := 0) hx hb dX1_isWhole_21 (by decide) ?_
      obtain rfl := Option.some.inj hf
      exact W.zret (v := 0) (ty := .boolean) hx hb hr rfl (fun t ht hW => ⟨_, rfl, rfl, ht⟩) (fun _ h => by cases h) dX1_isWhole_22
    · have hf := oe hc hf
      refine lv_iload_n hx hb dX1_isWhole_12 rfl (lv_at hl 1 rfl) ?_
      refine lv_iconst (v := (-1)) hx hb dX1_isWhole_13 (by decide) ?_
      refine lv_icmp_eq (tgt := 21) hx hb dX1_isWhole_14 (by decide) (fun hc => ?_) (fun hc => ?_)
      · have hf := ot hc hf
        refine lv_iconst (v := 0) hx hb dX1_isWhole_21 (by decide) ?_
        obtain rfl := Option.some.inj hf
        exact W.zret (v := 0) (ty := .boolean) hx hb hr rfl (fun t ht hW => ⟨_, rfl, rfl, ht⟩) (fun _ h => by cases h) dX1_isWhole_22
      · have hf := oe hc hf
        exact hJ1 hf ls (lv_sub hl [] rfl)
set_option maxHeartbeats 4000000 in
set_option maxRecDepth 100000 in
theorem mX1_withDigit (l : Launch) (dC : Nat → ClassId) (dI : Nat → Nat → Nat) (cI cZ cC cO : ClassId) (a0 : Int32) (a1 : Int32) (a2 : Int32) (out : Int32) (hf : fX1_withDigit a0 a1 a2 = some out) : Met l yX1_withDigit wsX1_withDigit rmX1_withDigit (va_Pc [.int a0, .int a1, .int a2] (pcR (dC, dI) (wTys cI cZ cC cO) ([] : va_W))) (vp_Si (fun r => r = out)) 0 0 (fun _ => False) := by
  refine Met.ofW (cc := cX1_withDigit) (maxL := 6) (ret := (some .int)) (by decide) rfl ?_
  intro p e s m args below meth c s₁ B hml hv
  obtain ⟨hargs, hP, hK, hN⟩ := hv
  have hx := B.exec
  have hb := B.bytes
  have hr := B.returns
  have hts := atoms_spec (ws := wsX1_withDigit) B.pre
  have hown : s.vm.findClass RX1 = some m.cls := findClass_of_methodNamed B.named
  have hlocks := B.notSynchronized
  have hE := lg_entry_eq m [.int a0, .int a1, .int a2] 6
  rw [← hargs] at hE
  rw [hE]
  have hl := lv_entry [.int a0, .int a1, .int a2] (n := 6) (Nat.le_of_ble_eq_true rfl)
  generalize (lg_sl [.int a0, .int a1, .int a2] ++ List.replicate (6 - (lg_sl [.int a0, .int a1, .int a2]).length) Slot.unset).toArray = ls at hl ⊢
  have hl : lv_has ls 6 [(0, .int a0), (1, .int a1), (2, .int a2)] := hl
  unfold fX1_withDigit at hf
  refine lv_iload_n hx hb dX1_withDigit_0 rfl (lv_at hl 0 rfl) ?_
  refine lv_bipush (v := 119) hx hb dX1_withDigit_1 (by decide) ?_
  refine lv_icmp_eq (tgt := 22) hx hb dX1_withDigit_3 (by decide) (fun hc => ?_) (fun hc => ?_)
  · have hf := ot hc hf
    refine lv_bipush (v := (-2)) hx hb dX1_withDigit_22 (by decide) ?_
    obtain rfl := Option.some.inj hf
    exact W.iret (v := (-2)) hx hb hr (fun t ht hW => ⟨_, rfl, rfl, ht⟩) (fun _ h => by cases h) dX1_withDigit_24
  · have hf := oe hc hf
    refine lv_iload_n hx hb dX1_withDigit_6 rfl (lv_at hl 2 rfl) ?_
    refine lv_bipush (v := 48) hx hb dX1_withDigit_7 (by decide) ?_
    refine lv_icmp_lt (tgt := 22) hx hb dX1_withDigit_9 (by decide) (fun hc => ?_) (fun hc => ?_)
    · have hf := ot hc hf
      refine lv_bipush (v := (-2)) hx hb dX1_withDigit_22 (by decide) ?_
      obtain rfl := Option.some.inj hf
      exact W.iret (v := (-2)) hx hb hr (fun t ht hW => ⟨_, rfl, rfl, ht⟩) (fun _ h => by cases h) dX1_withDigit_24
    · have hf := oe hc hf
      refine lv_iload_n hx hb dX1_withDigit_12 rfl (lv_at hl 2 rfl) ?_
      refine lv_bipush (v := 57) hx hb dX1_withDigit_13 (by decide) ?_
      refine lv_icmp_gt (tgt := 22) hx hb dX1_withDigit_15 (by decide) (fun hc => ?_) (fun hc => ?_)
      · have hf := ot hc hf
        refine lv_bipush (v := (-2)) hx hb dX1_withDigit_22 (by decide) ?_
        obtain rfl := Option.some.inj hf
        exact W.iret (v := (-2)) hx hb hr (fun t ht hW => ⟨_, rfl, rfl, ht⟩) (fun _ h => by cases h) dX1_withDigit_24
      · have hf := oe hc hf
        refine lv_iload_n hx hb dX1_withDigit_18 rfl (lv_at hl 1 rfl) ?_
        refine lv_if_ne (tgt := 25) hx hb dX1_withDigit_19 (by decide) (fun hc => ?_) (fun hc => ?_)
        · have hf := oe hc hf
          refine lv_iload_n hx hb dX1_withDigit_25 rfl (lv_at hl 2 rfl) ?_
          refine lv_bipush (v := 48) hx hb dX1_withDigit_26 (by decide) ?_
          refine lv_isub hx hb dX1_withDigit_28 ?_
          refine lv_istore_n (lv' := [(3, .int (a2 - 48)), (0, .int a0), (1, .int a1), (2, .int a2)]) hx hb dX1_withDigit_29 rfl hl (by decide) rfl (fun ls hl => ?_)
          refine lv_iload_n hx hb dX1_withDigit_30 rfl (lv_at hl 2 rfl) ?_
          refine lv_iconst (v := (-1)) hx hb dX1_withDigit_31 (by decide) ?_
          have hJ1 : ∀ (y0_1 : Int32), jX1_withDigit_1 a0 y0_1 = some out → ∀ ls : Array Slot, lv_has ls 6 [(0, .int a0)] → W p l e (headSpec wsX1_withDigit rmX1_withDigit).room s m args below meth c s.heap [] 0 0 (MQ below (vp_Si (fun r => r = out)) args s 0 0 (fun _ => False)) (F0 m 45 ls [.int y0_1]) := by
            intro y0_1 hf ls hl
            unfold jX1_withDigit_1 at hf
            refine lv_istore (lv' := [(4, .int y0_1), (0, .int a0)]) hx hb dX1_withDigit_45 hl (by decide) rfl (fun ls hl => ?_)
            refine lv_iload_n hx hb dX1_withDigit_47 rfl (lv_at hl 1 rfl) ?_
            refine lv_bipush (v := 103) hx hb dX1_withDigit_48 (by decide) ?_
            have hJ2 : ∀ (y0_2 : Int32), jX1_withDigit_2 y0_1 y0_2 = some out → ∀ ls : Array Slot, lv_has ls 6 [(4, .int y0_1)] → W p l e (headSpec wsX1_withDigit rmX1_withDigit).room s m args below meth c s.heap [] 0 0 (MQ below (vp_Si (fun r => r = out)) args s 0 0 (fun _ => False)) (F0 m 60 ls [.int y0_2]) := by
              intro y0_2 hf ls hl
              unfold jX1_withDigit_2 at hf
              refine lv_istore (lv' := [(5, .int y0_2), (4, .int y0_1)]) hx hb dX1_withDigit_60 hl (by decide) rfl (fun ls hl => ?_)
              refine lv_iload hx hb dX1_withDigit_62 (lv_at hl 1 rfl) ?_
              refine lv_iload hx hb dX1_withDigit_64 (lv_at hl 0 rfl) ?_
              refine lv_icmp_gt (tgt := 74) hx hb dX1_withDigit_66 (by decide) (fun hc => ?_) (fun hc => ?_)
              · have hf := ot hc hf
                refine lv_bipush (v := (-2)) hx hb dX1_withDigit_74 (by decide) ?_
                obtain rfl := Option.some.inj hf
                exact W.iret (v := (-2)) hx hb hr (fun t ht hW => ⟨_, rfl, rfl, ht⟩) (fun _ h => by cases h) dX1_withDigit_76
              · have hf := oe hc hf
                refine lv_iload hx hb dX1_withDigit_69 (lv_at hl 1 rfl) ?_
                refine lv_goto (tgt := 76) hx hb dX1_withDigit_71 (by decide) ?_
                obtain rfl := Option.some.inj hf
                exact W.iret (v := y0_1) hx hb hr (fun t ht hW => ⟨_, rfl, rfl, ht⟩) (fun _ h => by cases h) dX1_withDigit_76
            refine lv_icmp_ne (tgt := 58) hx hb dX1_withDigit_50 (by decide) (fun hc => ?_) (fun hc => ?_)
            · have hf := oe hc hf
              refine lv_bipush (v := 120) hx hb dX1_withDigit_58 (by decide) ?_
              exact hJ2 _ hf ls (lv_sub hl [0] rfl)
            · have hf := ot hc hf
              refine lv_bipush (v := 39) hx hb dX1_withDigit_53 (by decide) ?_
              refine lv_goto (tgt := 60) hx hb dX1_withDigit_55 (by decide) ?_
              exact hJ2 _ hf ls (lv_sub hl [0] rfl)
          refine lv_icmp_ne (tgt := 39) hx hb dX1_withDigit_32 (by decide) (fun hc => ?_) (fun hc => ?_)
          · have hf := oe hc hf
            refine lv_bipush (v := 10) hx hb dX1_withDigit_39 (by decide) ?_
            refine lv_iload_n hx hb dX1_withDigit_41 rfl (lv_at hl 2 rfl) ?_
            refine lv_imul hx hb dX1_withDigit_42 ?_
            refine lv_iload_n hx hb dX1_withDigit_43 rfl (lv_at hl 0 rfl) ?_
            refine lv_iadd hx hb dX1_withDigit_44 ?_
            exact hJ1 _ hf ls (lv_sub hl [1] rfl)
          · have hf := ot hc hf
            refine lv_iload_n hx hb dX1_withDigit_35 rfl (lv_at hl 0 rfl) ?_
            refine lv_goto (tgt := 45) hx hb dX1_withDigit_36 (by decide) ?_
            exact hJ1 _ hf ls (lv_sub hl [1] rfl)
        · have hf := ot hc hf
          refine lv_bipush (v := (-2)) hx hb dX1_withDigit_22 (by decide) ?_
          obtain rfl := Option.some.inj hf
          exact W.iret (v := (-2)) hx hb hr (fun t ht hW => ⟨_, rfl, rfl, ht⟩) (fun _ h => by cases h) dX1_withDigit_24
set_option maxHeartbeats 4000000 in
set_option maxRecDepth 100000 in
theorem mX1_firstWrong (l : Launch) (dC : Nat → ClassId) (dI : Nat → Nat → Nat) (cI cZ cC cO : ClassId) (q0 : Nat → Nat) (g0 : GX1) (out : Int32) (hf : fX1_firstWrong g0 = some out) : Met l yX1_firstWrong wsX1_firstWrong rmX1_firstWrong (va_Pc [.ref (q0 0)] (pcR (dC, dI) (wTys cI cZ cC cO) (wX1 cI cZ cC q0 g0))) (vp_Si (fun r => r = out)) 0 0 (fun _ => False) := by
  refine Met.ofW (cc := cX1_firstWrong) (maxL := 5) (ret := (some .int)) (by decide) rfl ?_
  intro p e s m args below meth c s₁ B hml hv
  obtain ⟨hargs, hP, hK, hN⟩ := hv
  have hx := B.exec
  have hb := B.bytes
  have hr := B.returns
  have hts := atoms_spec (ws := wsX1_firstWrong) B.pre
  have hown : s.vm.findClass RX1 = some m.cls := findClass_of_methodNamed B.named
  have hlocks := B.notSynchronized
  have hk0 := hts (.fieldLink RX1 15 "RimGrains$Pad" "length" "I") (by decide +kernel)
  have hk1 := hts (.fieldLink RX1 9 "RimGrains$Pad" "signs" "[C") (by decide +kernel)
  have hin1 : ∀ w ∈ wsX10, w ∈ wsX1_firstWrong := by decide +kernel
  have hE := lg_entry_eq m [.ref (q0 0)] 5
  rw [← hargs] at hE
  rw [hE]
  have hl := lv_entry [.ref (q0 0)] (n := 5) (Nat.le_of_ble_eq_true rfl)
  generalize (lg_sl [.ref (q0 0)] ++ List.replicate (5 - (lg_sl [.ref (q0 0)]).length) Slot.unset).toArray = ls at hl ⊢
  have hl : lv_has ls 5 [(0, .ref (q0 0))] := hl
  unfold fX1_firstWrong at hf
  refine lv_bipush (v := 32) hx hb dX1_firstWrong_0 (by decide) ?_
  refine lv_istore_n (lv' := [(1, .int 32), (0, .ref (q0 0))]) hx hb dX1_firstWrong_2 rfl hl (by decide) rfl (fun ls hl => ?_)
  refine lv_iconst (v := (-1)) hx hb dX1_firstWrong_3 (by decide) ?_
  refine lv_istore_n (lv' := [(2, .int (-1)), (1, .int 32), (0, .ref (q0 0))]) hx hb dX1_firstWrong_4 rfl hl (by decide) rfl (fun ls hl => ?_)
  refine lv_iconst (v := 0) hx hb dX1_firstWrong_5 (by decide) ?_
  refine lv_istore_n (lv' := [(3, .int 0), (2, .int (-1)), (1, .int 32), (0, .ref (q0 0))]) hx hb dX1_firstWrong_6 rfl hl (by decide) rfl (fun ls hl => ?_)
  have hL7 : ∀ (n : Nat) (s7 : Int32 × Int32 × Int32), lp (tX1_firstWrong_7 g0) n s7 = some out → ∀ (ls : Array Slot), lv_has ls 5 [(0, .ref (q0 0)), (1, .int s7.1), (2, .int s7.2.1), (3, .int s7.2.2)] → W p l e (headSpec wsX1_firstWrong rmX1_firstWrong).room s m args below meth c s.heap [] 0 0 (MQ below (vp_Si (fun r => r = out)) args s 0 0 (fun _ => False)) (F0 m 7 ls []) := by
    intro n
    induction n with
    | zero => intro s7 hf; exact (lp0 hf).elim
    | succ n ih7 =>
      intro s7 hf ls hl
      obtain ⟨r7, hf, hn⟩ := lps hf
      unfold tX1_firstWrong_7 at hf
      refine lv_iload_n hx hb dX1_firstWrong_7 rfl (lv_at hl 3 rfl) ?_
      refine lv_aload_n hx hb dX1_firstWrong_8 rfl (lv_at hl 0 rfl) ?_
      refine va_get (D := (dC, dI)) (ci := 1) (v := .int (pX1_length g0)) (C := RX1) (T := TX1) (N := 6) hx hb hts hin1 hown hK hP 0 rfl rfl 1 (by decide) hk0 (fun _ h9 => h9) rfl dX1_firstWrong_9 ?_
      refine lv_icmp_ge (tgt := 92) hx hb dX1_firstWrong_12 (by decide) (fun hc => ?_) (fun hc => ?_)
      · have hf := ot hc hf
        refine lv_iload_n hx hb dX1_firstWrong_92 rfl (lv_at hl 1 rfl) ?_
        refine lv_iload_n hx hb dX1_firstWrong_93 rfl (lv_at hl 2 rfl) ?_
        obtain ⟨o94, ho94, hf⟩ := ob hf
        refine rS (rest := []) (As := [.int s7.1, .int s7.2.1]) ⟨hx, hb, hml, hown, hts⟩ (mX1_isWhole l dC dI cI cZ cC cO  _ _ _ ho94) (va_cwS 2 hts gX1_firstWrong_X1_isWhole rfl rfl rfl (by decide +kernel) ⟨Nat.le_of_ble_eq_true rfl, Nat.le_of_ble_eq_true rfl⟩) hK hN hP [] rfl rfl hl.1 rfl (Nat.le_of_ble_eq_true rfl) dX1_firstWrong_94 ⟨Nat.zero_le _, Nat.zero_le _⟩ ?_
        refine lv_if_eq (tgt := 105) hx hb dX1_firstWrong_97 (by decide) (fun hc => ?_) (fun hc => ?_)
        · have hf := ot hc hf
          refine lv_aload_n hx hb dX1_firstWrong_105 rfl (lv_at hl 0 rfl) ?_
          refine va_get (D := (dC, dI)) (ci := 1) (v := .int (pX1_length g0)) (C := RX1) (T := TX1) (N := 6) hx hb hts hin1 hown hK hP 0 rfl rfl 1 (by decide) hk0 (fun _ h9 => h9) rfl dX1_firstWrong_106 ?_
          obtain rfl := Option.some.inj hf
          obtain rfl := Option.some.inj hn
          exact W.iret (v := (pX1_length g0)) hx hb hr (fun t ht hW => ⟨_, rfl, rfl, ht⟩) (fun _ h => by cases h) dX1_firstWrong_109
        · have hf := oe hc hf
          refine lv_bipush (v := (-4)) hx hb dX1_firstWrong_100 (by decide) ?_
          refine lv_goto (tgt := 109) hx hb dX1_firstWrong_102 (by decide) ?_
          obtain rfl := Option.some.inj hf
          obtain rfl := Option.some.inj hn
          exact W.iret (v := (-4)) hx hb hr (fun t ht hW => ⟨_, rfl, rfl, ht⟩) (fun _ h => by cases h) dX1_firstWrong_109
      · have hf := oe hc hf
        refine lv_aload_n hx hb dX1_firstWrong_15 rfl (lv_at hl 0 rfl) ?_
        refine va_get (D := (dC, dI)) (ci := 1) (v := .ref (q0 1)) (C := RX1) (T := TX1) (N := 6) hx hb hts hin1 hown hK hP 0 rfl rfl 0 (by decide) hk1 (fun _ h9 => h9) rfl dX1_firstWrong_16 ?_
        refine lv_iload_n hx hb dX1_firstWrong_19 rfl (lv_at hl 3 rfl) ?_
        obtain ⟨hin, hf⟩ := og hf
        refine va_cald hx hb hK hP 1 2 rfl rfl hin dX1_firstWrong_20 ?_
        refine lv_istore (lv' := [(4, .int ((pX1_signs g0) s7.2.2.toNatClampNeg)), (0, .ref (q0 0)), (1, .int s7.1), (2, .int s7.2.1), (3, .int s7.2.2)]) hx hb dX1_firstWrong_21 hl (by decide) rfl (fun ls hl => ?_)
        refine lv_iload_n hx hb dX1_firstWrong_23 rfl (lv_at hl 2 rfl) ?_
        refine lv_bipush (v := 32) hx hb dX1_firstWrong_24 (by decide) ?_
        have hJ1 : ∀ (x1_1 : Int32) (x2_1 : Int32), jX1_firstWrong_1 s7 x1_1 x2_1 = some r7 → ∀ ls : Array Slot, lv_has ls 5 [(0, .ref (q0 0)), (1, .int x1_1), (2, .int x2_1), (3, .int s7.2.2)] → W p l e (headSpec wsX1_firstWrong rmX1_firstWrong).room s m args below meth c s.heap [] 0 0 (MQ below (vp_Si (fun r => r = out)) args s 0 0 (fun _ => False)) (F0 m 86 ls []) := by
          intro x1_1 x2_1 hf ls hl
          unfold jX1_firstWrong_1 at hf
          refine lv_iinc (v := (s7.2.2 + 1)) (lv' := [(3, .int (s7.2.2 + 1)), (0, .ref (q0 0)), (1, .int x1_1), (2, .int x2_1)]) hx hb dX1_firstWrong_86 hl (k := 3) rfl rfl (by decide) rfl (fun ls hl => ?_)
          refine lv_goto (tgt := 7) hx hb dX1_firstWrong_89 (by decide) ?_
          obtain rfl := Option.some.inj hf
          exact ih7 _ hn ls (lv_sub hl [1, 2, 3, 0] rfl)
        refine lv_icmp_ne (tgt := 47) hx hb dX1_firstWrong_26 (by decide) (fun hc => ?_) (fun hc => ?_)
        · have hf := oe hc hf
          refine lv_iload hx hb dX1_firstWrong_47 (lv_at hl 0 rfl) ?_
          refine lv_bipush (v := 59) hx hb dX1_firstWrong_49 (by decide) ?_
          refine lv_icmp_ne (tgt := 70) hx hb dX1_firstWrong_51 (by decide) (fun hc => ?_) (fun hc => ?_)
          · have hf := oe hc hf
            refine lv_iload_n hx hb dX1_firstWrong_70 rfl (lv_at hl 2 rfl) ?_
            refine lv_iload_n hx hb dX1_firstWrong_71 rfl (lv_at hl 3 rfl) ?_
            refine lv_iload hx hb dX1_firstWrong_72 (lv_at hl 0 rfl) ?_
            obtain ⟨o74, ho74, hf⟩ := ob hf
            refine rS (rest := []) (As := [.int s7.1, .int s7.2.1, .int ((pX1_signs g0) s7.2.2.toNatClampNeg)]) ⟨hx, hb, hml, hown, hts⟩ (mX1_withDigit l dC dI cI cZ cC cO  _ _ _ _ ho74) (va_cwS 3 hts gX1_firstWrong_X1_withDigit rfl rfl rfl (by decide +kernel) ⟨Nat.le_of_ble_eq_true rfl, Nat.le_of_ble_eq_true rfl⟩) hK hN hP [] rfl rfl hl.1 rfl (Nat.le_of_ble_eq_true rfl) dX1_firstWrong_74 ⟨Nat.zero_le _, Nat.zero_le _⟩ ?_
            refine lv_istore_n (lv' := [(2, .int o74), (4, .int ((pX1_signs g0) s7.2.2.toNatClampNeg)), (0, .ref (q0 0)), (1, .int s7.1), (3, .int s7.2.2)]) hx hb dX1_firstWrong_77 rfl hl (by decide) rfl (fun ls hl => ?_)
            refine lv_iload_n hx hb dX1_firstWrong_78 rfl (lv_at hl 0 rfl) ?_
            refine lv_bipush (v := (-2)) hx hb dX1_firstWrong_79 (by decide) ?_
            refine lv_icmp_ne (tgt := 86) hx hb dX1_firstWrong_81 (by decide) (fun hc => ?_) (fun hc => ?_)
            · have hf := oe hc hf
              exact hJ1 _ _ hf ls (lv_sub hl [2, 3, 0, 4] rfl)
            · have hf := ot hc hf
              refine lv_iload_n hx hb dX1_firstWrong_84 rfl (lv_at hl 4 rfl) ?_
              obtain rfl := Option.some.inj hf
              obtain rfl := Option.some.inj hn
              exact W.iret (v := s7.2.2) hx hb hr (fun t ht hW => ⟨_, rfl, rfl, ht⟩) (fun _ h => by cases h) dX1_firstWrong_85
          · have hf := ot hc hf
            refine lv_iload_n hx hb dX1_firstWrong_54 rfl (lv_at hl 2 rfl) ?_
            refine lv_iload_n hx hb dX1_firstWrong_55 rfl (lv_at hl 3 rfl) ?_
            obtain ⟨o56, ho56, hf⟩ := ob hf
            refine rS (rest := []) (As := [.int s7.1, .int s7.2.1]) ⟨hx, hb, hml, hown, hts⟩ (mX1_isWhole l dC dI cI cZ cC cO  _ _ _ ho56) (va_cwS 2 hts gX1_firstWrong_X1_isWhole rfl rfl rfl (by decide +kernel) ⟨Nat.le_of_ble_eq_true rfl, Nat.le_of_ble_eq_true rfl⟩) hK hN hP [] rfl rfl hl.1 rfl (Nat.le_of_ble_eq_true rfl) dX1_firstWrong_56 ⟨Nat.zero_le _, Nat.zero_le _⟩ ?_
            refine lv_if_ne (tgt := 64) hx hb dX1_firstWrong_59 (by decide) (fun hc => ?_) (fun hc => ?_)
            · have hf := oe hc hf
              refine lv_bipush (v := 32) hx hb dX1_firstWrong_64 (by decide) ?_
              refine lv_istore_n (lv' := [(1, .int 32), (4, .int ((pX1_signs g0) s7.2.2.toNatClampNeg)), (0, .ref (q0 0)), (2, .int s7.2.1), (3, .int s7.2.2)]) hx hb dX1_firstWrong_66 rfl hl (by decide) rfl (fun ls hl => ?_)
              refine lv_goto (tgt := 86) hx hb dX1_firstWrong_67 (by decide) ?_
              exact hJ1 _ _ hf ls (lv_sub hl [2, 0, 3, 4] rfl)
            · have hf := ot hc hf
              refine lv_iload_n hx hb dX1_firstWrong_62 rfl (lv_at hl 4 rfl) ?_
              obtain rfl := Option.some.inj hf
              obtain rfl := Option.some.inj hn
              exact W.iret (v := s7.2.2) hx hb hr (fun t ht hW => ⟨_, rfl, rfl, ht⟩) (fun _ h => by cases h) dX1_firstWrong_63
        · have hf := ot hc hf
          refine lv_iload hx hb dX1_firstWrong_29 (lv_at hl 0 rfl) ?_
          obtain ⟨o31, ho31, hf⟩ := ob hf
          refine rS (rest := []) (As := [.int ((pX1_signs g0) s7.2.2.toNatClampNeg)]) ⟨hx, hb, hml, hown, hts⟩ (mX1_isLetter l dC dI cI cZ cC cO  _ _ ho31) (va_cwS 1 hts gX1_firstWrong_X1_isLetter rfl rfl rfl (by decide +kernel) ⟨Nat.le_of_ble_eq_true rfl, Nat.le_of_ble_eq_true rfl⟩) hK hN hP [] rfl rfl hl.1 rfl (Nat.le_of_ble_eq_true rfl) dX1_firstWrong_31 ⟨Nat.zero_le _, Nat.zero_le _⟩ ?_
          refine lv_if_ne (tgt := 39) hx hb dX1_firstWrong_34 (by decide) (fun hc => ?_) (fun hc => ?_)
          · have hf := oe hc hf
            refine lv_iload hx hb dX1_firstWrong_39 (lv_at hl 0 rfl) ?_
            refine lv_istore_n (lv' := [(1, .int ((pX1_signs g0) s7.2.2.toNatClampNeg)), (4, .int ((pX1_signs g0) s7.2.2.toNatClampNeg)), (0, .ref (q0 0)), (2, .int s7.2.1), (3, .int s7.2.2)]) hx hb dX1_firstWrong_41 rfl hl (by decide) rfl (fun ls hl => ?_)
            refine lv_iconst (v := (-1)) hx hb dX1_firstWrong_42 (by decide) ?_
            refine lv_istore_n (lv' := [(2, .int (-1)), (1, .int ((pX1_signs g0) s7.2.2.toNatClampNeg)), (4, .int ((pX1_signs g0) s7.2.2.toNatClampNeg)), (0, .ref (q0 0)), (3, .int s7.2.2)]) hx hb dX1_firstWrong_43 rfl hl (by decide) rfl (fun ls hl => ?_)
            refine lv_goto (tgt := 86) hx hb dX1_firstWrong_44 (by decide) ?_
            exact hJ1 _ _ hf ls (lv_sub hl [3, 1, 0, 4] rfl)
          · have hf := ot hc hf
            refine lv_iload_n hx hb dX1_firstWrong_37 rfl (lv_at hl 4 rfl) ?_
            obtain rfl := Option.some.inj hf
            obtain rfl := Option.some.inj hn
            exact W.iret (v := s7.2.2) hx hb hr (fun t ht hW => ⟨_, rfl, rfl, ht⟩) (fun _ h => by cases h) dX1_firstWrong_38
  exact hL7 FU _ hf ls (lv_sub hl [3, 2, 1, 0] rfl)
set_option maxHeartbeats 4000000 in
set_option maxRecDepth 100000 in
theorem mX1_startReading (l : Launch) (dC : Nat → ClassId) (dI : Nat → Nat → Nat) (cI cZ cC cO : ClassId) (q0 : Nat → Nat) (g0 : GX1) (sz : Nat) (out : GX1) (hf : fX1_startReading g0 = some out) : Met l yX1_startReading wsX1_startReading rmX1_startReading (va_Pc [.ref (q0 0)] (pcW (dC, dI) (wTys cI cZ cC cO) sz (wX1 cI cZ cC q0 g0))) (va_Qv (fun (_ : Unit) => True) (fun _ => poW (dC, dI) (va_A (wX1 cI cZ cC q0 g0) sz) (wX1 cI cZ cC q0 out)) (va_A (wX1 cI cZ cC q0 g0) sz)) 0 0 (va_A (wX1 cI cZ cC q0 g0) sz) := by
  refine Met.ofW (cc := cX1_startReading) (maxL := 1) (ret := none) (by decide) rfl ?_
  intro p e s m args below meth c s₁ B hml hv
  obtain ⟨hargs, hsz, hP, hK, hN, hD0⟩ := hv
  have hx := B.exec
  have hb := B.bytes
  have hr := B.returns
  have hts := atoms_spec (ws := wsX1_startReading) B.pre
  have hown : s.vm.findClass RX1 = some m.cls := findClass_of_methodNamed B.named
  have hlocks := B.notSynchronized
  have hk0 := hts (.fieldLink RX1 19 "RimGrains$Pad" "next" "I") (by decide +kernel)
  have hin1 : ∀ w ∈ wsX10, w ∈ wsX1_startReading := by decide +kernel
  subst hsz
  have hD := hD0.self (sz := s.heap.size)
  generalize hAe : va_A (wX1 cI cZ cC q0 g0) s.heap.size = A at hD ⊢
  have hA : ∀ q : Nat, s.heap.size ≤ q → A q := fun q h => by rw [← hAe]; exact Or.inr h
  have hS : va_S A s.heap s.heap [] := va_S.rf
  have hE := lg_entry_eq m [.ref (q0 0)] 1
  rw [← hargs] at hE
  rw [hE]
  have hl := lv_entry [.ref (q0 0)] (n := 1) (Nat.le_of_ble_eq_true rfl)
  generalize (lg_sl [.ref (q0 0)] ++ List.replicate (1 - (lg_sl [.ref (q0 0)]).length) Slot.unset).toArray = ls at hl ⊢
  have hl : lv_has ls 1 [(0, .ref (q0 0))] := hl
  have hP : va_P (dC, dI) vwCl (wX1 cI cZ cC q0 g0) s.heap := hP
  unfold fX1_startReading at hf
  refine lv_aload_n hx hb dX1_startReading_0 rfl (lv_at hl 0 rfl) ?_
  refine lv_iconst (v := 0) hx hb dX1_startReading_1 (by decide) ?_
  refine va_put (D := (dC, dI)) (ci := 1) (v := .int 0) (ty := .int) (C := RX1) (T := TX1) (N := 6) hx hb hts hin1 tyX1 tyX1_ok nmX1 hown hK hP hD hS 0 rfl rfl 2 (by decide) hk0 (fun _ h9 => h9) rfl (by decide +kernel) rfl rfl (Nat.le_of_ble_eq_true rfl) dX1_startReading_2 (fun H locs hP hD hS => ?_)
  have hP : va_P (dC, dI) vwCl (wX1 cI cZ cC q0 ((pX1_signs g0), (pX1_length g0), 0, (pX1_place g0), (pX1_letter g0), (pX1_number g0))) H := hP
  have hD : va_D A (wX1 cI cZ cC q0 ((pX1_signs g0), (pX1_length g0), 0, (pX1_place g0), (pX1_letter g0), (pX1_number g0))) := hD
  obtain rfl := Option.some.inj hf
  exact W.vret hx hb hr (fun t ht hW => ⟨⟨(), rfl, trivial, by rw [ht]; exact hP, hD⟩, hS.F ht⟩) hS.2.2 dX1_startReading_5
set_option maxHeartbeats 4000000 in
set_option maxRecDepth 100000 in
theorem mX1_readDeed (l : Launch) (dC : Nat → ClassId) (dI : Nat → Nat → Nat) (cI cZ cC cO : ClassId) (q0 : Nat → Nat) (g0 : GX1) (sz : Nat) (out : Int32 × GX1) (hf : fX1_readDeed g0 = some out) : Met l yX1_readDeed wsX1_readDeed rmX1_readDeed (va_Pc [.ref (q0 0)] (pcW (dC, dI) (wTys cI cZ cC cO) sz (wX1 cI cZ cC q0 g0))) (va_Qi (fun r (_ : Unit) => r = out.1) (fun _ => poW (dC, dI) (va_A (wX1 cI cZ cC q0 g0) sz) (wX1 cI cZ cC q0 out.2)) (va_A (wX1 cI cZ cC q0 g0) sz)) 0 0 (va_A (wX1 cI cZ cC q0 g0) sz) := by
  refine Met.ofW (cc := cX1_readDeed) (maxL := 1) (ret := (some .boolean)) (by decide) rfl ?_
  intro p e s m args below meth c s₁ B hml hv
  obtain ⟨hargs, hsz, hP, hK, hN, hD0⟩ := hv
  have hx := B.exec
  have hb := B.bytes
  have hr := B.returns
  have hts := atoms_spec (ws := wsX1_readDeed) B.pre
  have hown : s.vm.findClass RX1 = some m.cls := findClass_of_methodNamed B.named
  have hlocks := B.notSynchronized
  have hk0 := hts (.fieldLink RX1 19 "RimGrains$Pad" "next" "I") (by decide +kernel)
  have hk1 := hts (.fieldLink RX1 15 "RimGrains$Pad" "length" "I") (by decide +kernel)
  have hk2 := hts (.fieldLink RX1 22 "RimGrains$Pad" "place" "I") (by decide +kernel)
  have hk3 := hts (.fieldLink RX1 9 "RimGrains$Pad" "signs" "[C") (by decide +kernel)
  have hk4 := hts (.fieldLink RX1 25 "RimGrains$Pad" "letter" "C") (by decide +kernel)
  have hk5 := hts (.fieldLink RX1 29 "RimGrains$Pad" "number" "I") (by decide +kernel)
  have hin1 : ∀ w ∈ wsX10, w ∈ wsX1_readDeed := by decide +kernel
  subst hsz
  have hD := hD0.self (sz := s.heap.size)
  generalize hAe : va_A (wX1 cI cZ cC q0 g0) s.heap.size = A at hD ⊢
  have hA : ∀ q : Nat, s.heap.size ≤ q → A q := fun q h => by rw [← hAe]; exact Or.inr h
  have hS : va_S A s.heap s.heap [] := va_S.rf
  have hE := lg_entry_eq m [.ref (q0 0)] 1
  rw [← hargs] at hE
  rw [hE]
  have hl := lv_entry [.ref (q0 0)] (n := 1) (Nat.le_of_ble_eq_true rfl)
  generalize (lg_sl [.ref (q0 0)] ++ List.replicate (1 - (lg_sl [.ref (q0 0)]).length) Slot.unset).toArray = ls at hl ⊢
  have hl : lv_has ls 1 [(0, .ref (q0 0))] := hl
  have hP : va_P (dC, dI) vwCl (wX1 cI cZ cC q0 g0) s.heap := hP
  unfold fX1_readDeed at hf
  refine lv_aload_n hx hb dX1_readDeed_0 rfl (lv_at hl 0 rfl) ?_
  refine va_get (D := (dC, dI)) (ci := 1) (v := .int (pX1_next g0)) (C := RX1) (T := TX1) (N := 6) hx hb hts hin1 hown hK hP 0 rfl rfl 2 (by decide) hk0 (fun _ h9 => h9) rfl dX1_readDeed_1 ?_
  refine lv_aload_n hx hb dX1_readDeed_4 rfl (lv_at hl 0 rfl) ?_
  refine va_get (D := (dC, dI)) (ci := 1) (v := .int (pX1_length g0)) (C := RX1) (T := TX1) (N := 6) hx hb hts hin1 hown hK hP 0 rfl rfl 1 (by decide) hk1 (fun _ h9 => h9) rfl dX1_readDeed_5 ?_
  refine lv_icmp_lt (tgt := 13) hx hb dX1_readDeed_8 (by decide) (fun hc => ?_) (fun hc => ?_)
  · have hf := ot hc hf
    refine lv_aload_n hx hb dX1_readDeed_13 rfl (lv_at hl 0 rfl) ?_
    refine lv_aload_n hx hb dX1_readDeed_14 rfl (lv_at hl 0 rfl) ?_
    refine va_get (D := (dC, dI)) (ci := 1) (v := .int (pX1_next g0)) (C := RX1) (T := TX1) (N := 6) hx hb hts hin1 hown hK hP 0 rfl rfl 2 (by decide) hk0 (fun _ h9 => h9) rfl dX1_readDeed_15 ?_
    refine va_put (D := (dC, dI)) (ci := 1) (v := .int (pX1_next g0)) (ty := .int) (C := RX1) (T := TX1) (N := 6) hx hb hts hin1 tyX1 tyX1_ok nmX1 hown hK hP hD hS 0 rfl rfl 3 (by decide) hk2 (fun _ h9 => h9) rfl (by decide +kernel) rfl rfl (Nat.le_of_ble_eq_true rfl) dX1_readDeed_18 (fun H locs hP hD hS => ?_)
    have hP : va_P (dC, dI) vwCl (wX1 cI cZ cC q0 ((pX1_signs g0), (pX1_length g0), (pX1_next g0), (pX1_next g0), (pX1_letter g0), (pX1_number g0))) H := hP
    have hD : va_D A (wX1 cI cZ cC q0 ((pX1_signs g0), (pX1_length g0), (pX1_next g0), (pX1_next g0), (pX1_letter g0), (pX1_number g0))) := hD
    refine lv_aload_n hx hb dX1_readDeed_21 rfl (lv_at hl 0 rfl) ?_
    refine lv_aload_n hx hb dX1_readDeed_22 rfl (lv_at hl 0 rfl) ?_
    refine va_get (D := (dC, dI)) (ci := 1) (v := .ref (q0 1)) (C := RX1) (T := TX1) (N := 6) hx hb hts hin1 hown hK hP 0 rfl rfl 0 (by decide) hk3 (fun _ h9 => h9) rfl dX1_readDeed_23 ?_
    refine lv_aload_n hx hb dX1_readDeed_26 rfl (lv_at hl 0 rfl) ?_
    refine va_get (D := (dC, dI)) (ci := 1) (v := .int (pX1_next g0)) (C := RX1) (T := TX1) (N := 6) hx hb hts hin1 hown hK hP 0 rfl rfl 2 (by decide) hk0 (fun _ h9 => h9) rfl dX1_readDeed_27 ?_
    obtain ⟨hin, hf⟩ := og hf
    refine va_cald hx hb hK hP 1 2 rfl rfl hin dX1_readDeed_30 ?_
    obtain ⟨hz, hf⟩ := ogc hf
    refine va_put (D := (dC, dI)) (ci := 1) (v := .int ((pX1_signs g0) (pX1_next g0).toNatClampNeg)) (ty := .char) (C := RX1) (T := TX1) (N := 6) hx hb hts hin1 tyX1 tyX1_ok nmX1 hown hK hP hD hS 0 rfl rfl 4 (by decide) hk4 (fun _ h9 => h9) rfl (by decide +kernel) (jc_n hz) (jc_f hz) (Nat.le_of_ble_eq_true rfl) dX1_readDeed_31 (fun H locs hP hD hS => ?_)
    have hP : va_P (dC, dI) vwCl (wX1 cI cZ cC q0 ((pX1_signs g0), (pX1_length g0), (pX1_next g0), (pX1_next g0), ((pX1_signs g0) (pX1_next g0).toNatClampNeg), (pX1_number g0))) H := hP
    have hD : va_D A (wX1 cI cZ cC q0 ((pX1_signs g0), (pX1_length g0), (pX1_next g0), (pX1_next g0), ((pX1_signs g0) (pX1_next g0).toNatClampNeg), (pX1_number g0))) := hD
    refine lv_aload_n hx hb dX1_readDeed_34 rfl (lv_at hl 0 rfl) ?_
    refine lv_iconst (v := 0) hx hb dX1_readDeed_35 (by decide) ?_
    refine va_put (D := (dC, dI)) (ci := 1) (v := .int 0) (ty := .int) (C := RX1) (T := TX1) (N := 6) hx hb hts hin1 tyX1 tyX1_ok nmX1 hown hK hP hD hS 0 rfl rfl 5 (by decide) hk5 (fun _ h9 => h9) rfl (by decide +kernel) rfl rfl (Nat.le_of_ble_eq_true rfl) dX1_readDeed_36 (fun H locs hP hD hS => ?_)
    have hP : va_P (dC, dI) vwCl (wX1 cI cZ cC q0 ((pX1_signs g0), (pX1_length g0), (pX1_next g0), (pX1_next g0), ((pX1_signs g0) (pX1_next g0).toNatClampNeg), 0)) H := hP
    have hD : va_D A (wX1 cI cZ cC q0 ((pX1_signs g0), (pX1_length g0), (pX1_next g0), (pX1_next g0), ((pX1_signs g0) (pX1_next g0).toNatClampNeg), 0)) := hD
    refine lv_aload_n hx hb dX1_readDeed_39 rfl (lv_at hl 0 rfl) ?_
    refine lv_dup hx hb dX1_readDeed_40 rfl ?_
    refine va_get (D := (dC, dI)) (ci := 1) (v := .int (pX1_next g0)) (C := RX1) (T := TX1) (N := 6) hx hb hts hin1 hown hK hP 0 rfl rfl 2 (by decide) hk0 (fun _ h9 => h9) rfl dX1_readDeed_41 ?_
    refine lv_iconst (v := 1) hx hb dX1_readDeed_44 (by decide) ?_
    refine lv_iadd hx hb dX1_readDeed_45 ?_
    refine va_put (D := (dC, dI)) (ci := 1) (v := .int ((pX1_next g0) + 1)) (ty := .int) (C := RX1) (T := TX1) (N := 6) hx hb hts hin1 tyX1 tyX1_ok nmX1 hown hK hP hD hS 0 rfl rfl 2 (by decide) hk0 (fun _ h9 => h9) rfl (by decide +kernel) rfl rfl (Nat.le_of_ble_eq_true rfl) dX1_readDeed_46 (fun H locs hP hD hS => ?_)
    have hP : va_P (dC, dI) vwCl (wX1 cI cZ cC q0 ((pX1_signs g0), (pX1_length g0), ((pX1_next g0) + 1), (pX1_next g0), ((pX1_signs g0) (pX1_next g0).toNatClampNeg), 0)) H := hP
    have hD : va_D A (wX1 cI cZ cC q0 ((pX1_signs g0), (pX1_length g0), ((pX1_next g0) + 1), (pX1_next g0), ((pX1_signs g0) (pX1_next g0).toNatClampNeg), 0)) := hD
    have hL49 : ∀ (n : Nat) (s49 : GX1) (o49 : GX1), lp tX1_readDeed_49 n s49 = some o49 → ∀ (H : Heap) (locs : List Loc) (ls : Array Slot), va_P (dC, dI) vwCl (wX1 cI cZ cC q0 s49) H → va_D A (wX1 cI cZ cC q0 s49) → va_S A s.heap H locs → lv_has ls 1 [(0, .ref (q0 0))] → (∀ (H : Heap) (locs : List Loc) (ls : Array Slot), va_P (dC, dI) vwCl (wX1 cI cZ cC q0 o49) H → va_D A (wX1 cI cZ cC q0 o49) → va_S A s.heap H locs → lv_has ls 1 [(0, .ref (q0 0))] → W p l e (headSpec wsX1_readDeed rmX1_readDeed).room s m args below meth c H locs 0 0 (MQ below (va_Qi (fun r (_ : Unit) => r = out.1) (fun _ => poW (dC, dI) A (wX1 cI cZ cC q0 out.2)) A) args s 0 0 A) (F0 m 111 ls [])) → W p l e (headSpec wsX1_readDeed rmX1_readDeed).room s m args below meth c H locs 0 0 (MQ below (va_Qi (fun r (_ : Unit) => r = out.1) (fun _ => poW (dC, dI) A (wX1 cI cZ cC q0 out.2)) A) args s 0 0 A) (F0 m 49 ls []) := by
      intro n
      induction n with
      | zero => intro s49 o49 hf; exact (lp0 hf).elim
      | succ n ih49 =>
        intro s49 o49 hf H locs ls hP hD hS hl kx
        obtain ⟨r49, hf, hn⟩ := lps hf
        unfold tX1_readDeed_49 at hf
        refine lv_aload_n hx hb dX1_readDeed_49 rfl (lv_at hl 0 rfl) ?_
        refine va_get (D := (dC, dI)) (ci := 1) (v := .int (pX1_next s49)) (C := RX1) (T := TX1) (N := 6) hx hb hts hin1 hown hK hP 0 rfl rfl 2 (by decide) hk0 (fun _ h9 => h9) rfl dX1_readDeed_50 ?_
        refine lv_aload_n hx hb dX1_readDeed_53 rfl (lv_at hl 0 rfl) ?_
        refine va_get (D := (dC, dI)) (ci := 1) (v := .int (pX1_length s49)) (C := RX1) (T := TX1) (N := 6) hx hb hts hin1 hown hK hP 0 rfl rfl 1 (by decide) hk1 (fun _ h9 => h9) rfl dX1_readDeed_54 ?_
        refine lv_icmp_ge (tgt := 111) hx hb dX1_readDeed_57 (by decide) (fun hc => ?_) (fun hc => ?_)
        · have hf := ot hc hf
          obtain rfl := Option.some.inj hf
          obtain rfl := Option.some.inj hn
          exact kx _ _ ls hP hD hS (lv_sub hl [0] rfl)
        · have hf := oe hc hf
          refine lv_aload_n hx hb dX1_readDeed_60 rfl (lv_at hl 0 rfl) ?_
          refine va_get (D := (dC, dI)) (ci := 1) (v := .ref (q0 1)) (C := RX1) (T := TX1) (N := 6) hx hb hts hin1 hown hK hP 0 rfl rfl 0 (by decide) hk3 (fun _ h9 => h9) rfl dX1_readDeed_61 ?_
          refine lv_aload_n hx hb dX1_readDeed_64 rfl (lv_at hl 0 rfl) ?_
          refine va_get (D := (dC, dI)) (ci := 1) (v := .int (pX1_next s49)) (C := RX1) (T := TX1) (N := 6) hx hb hts hin1 hown hK hP 0 rfl rfl 2 (by decide) hk0 (fun _ h9 => h9) rfl dX1_readDeed_65 ?_
          obtain ⟨hin, hf⟩ := og hf
          refine va_cald hx hb hK hP 1 2 rfl rfl hin dX1_readDeed_68 ?_
          refine lv_bipush (v := 59) hx hb dX1_readDeed_69 (by decide) ?_
          refine lv_icmp_eq (tgt := 111) hx hb dX1_readDeed_71 (by decide) (fun hc => ?_) (fun hc => ?_)
          · have hf := ot hc hf
            obtain rfl := Option.some.inj hf
            obtain rfl := Option.some.inj hn
            exact kx _ _ ls hP hD hS (lv_sub hl [0] rfl)
          · have hf := oe hc hf
            refine lv_aload_n hx hb dX1_readDeed_74 rfl (lv_at hl 0 rfl) ?_
            refine lv_bipush (v := 10) hx hb dX1_readDeed_75 (by decide) ?_
            refine lv_aload_n hx hb dX1_readDeed_77 rfl (lv_at hl 0 rfl) ?_
            refine va_get (D := (dC, dI)) (ci := 1) (v := .int (pX1_number s49)) (C := RX1) (T := TX1) (N := 6) hx hb hts hin1 hown hK hP 0 rfl rfl 5 (by decide) hk5 (fun _ h9 => h9) rfl dX1_readDeed_78 ?_
            refine lv_imul hx hb dX1_readDeed_81 ?_
            refine lv_aload_n hx hb dX1_readDeed_82 rfl (lv_at hl 0 rfl) ?_
            refine va_get (D := (dC, dI)) (ci := 1) (v := .ref (q0 1)) (C := RX1) (T := TX1) (N := 6) hx hb hts hin1 hown hK hP 0 rfl rfl 0 (by decide) hk3 (fun _ h9 => h9) rfl dX1_readDeed_83 ?_
            refine lv_aload_n hx hb dX1_readDeed_86 rfl (lv_at hl 0 rfl) ?_
            refine va_get (D := (dC, dI)) (ci := 1) (v := .int (pX1_next s49)) (C := RX1) (T := TX1) (N := 6) hx hb hts hin1 hown hK hP 0 rfl rfl 2 (by decide) hk0 (fun _ h9 => h9) rfl dX1_readDeed_87 ?_
            obtain ⟨hin, hf⟩ := og hf
            refine va_cald hx hb hK hP 1 2 rfl rfl hin dX1_readDeed_90 ?_
            refine lv_iadd hx hb dX1_readDeed_91 ?_
            refine lv_bipush (v := 48) hx hb dX1_readDeed_92 (by decide) ?_
            refine lv_isub hx hb dX1_readDeed_94 ?_
            refine va_put (D := (dC, dI)) (ci := 1) (v := .int (((10 * (pX1_number s49)) + ((pX1_signs s49) (pX1_next s49).toNatClampNeg)) - 48)) (ty := .int) (C := RX1) (T := TX1) (N := 6) hx hb hts hin1 tyX1 tyX1_ok nmX1 hown hK hP hD hS 0 rfl rfl 5 (by decide) hk5 (fun _ h9 => h9) rfl (by decide +kernel) rfl rfl (Nat.le_of_ble_eq_true rfl) dX1_readDeed_95 (fun H locs hP hD hS => ?_)
            have hP : va_P (dC, dI) vwCl (wX1 cI cZ cC q0 ((pX1_signs s49), (pX1_length s49), (pX1_next s49), (pX1_place s49), (pX1_letter s49), (((10 * (pX1_number s49)) + ((pX1_signs s49) (pX1_next s49).toNatClampNeg)) - 48))) H := hP
            have hD : va_D A (wX1 cI cZ cC q0 ((pX1_signs s49), (pX1_length s49), (pX1_next s49), (pX1_place s49), (pX1_letter s49), (((10 * (pX1_number s49)) + ((pX1_signs s49) (pX1_next s49).toNatClampNeg)) - 48))) := hD
            refine lv_aload_n hx hb dX1_readDeed_98 rfl (lv_at hl 0 rfl) ?_
            refine lv_dup hx hb dX1_readDeed_99 rfl ?_
            refine va_get (D := (dC, dI)) (ci := 1) (v := .int (pX1_next s49)) (C := RX1) (T := TX1) (N := 6) hx hb hts hin1 hown hK hP 0 rfl rfl 2 (by decide) hk0 (fun _ h9 => h9) rfl dX1_readDeed_100 ?_
            refine lv_iconst (v := 1) hx hb dX1_readDeed_103 (by decide) ?_
            refine lv_iadd hx hb dX1_readDeed_104 ?_
            refine va_put (D := (dC, dI)) (ci := 1) (v := .int ((pX1_next s49) + 1)) (ty := .int) (C := RX1) (T := TX1) (N := 6) hx hb hts hin1 tyX1 tyX1_ok nmX1 hown hK hP hD hS 0 rfl rfl 2 (by decide) hk0 (fun _ h9 => h9) rfl (by decide +kernel) rfl rfl (Nat.le_of_ble_eq_true rfl) dX1_readDeed_105 (fun H locs hP hD hS => ?_)
            have hP : va_P (dC, dI) vwCl (wX1 cI cZ cC q0 ((pX1_signs s49), (pX1_length s49), ((pX1_next s49) + 1), (pX1_place s49), (pX1_letter s49), (((10 * (pX1_number s49)) + ((pX1_signs s49) (pX1_next s49).toNatClampNeg)) - 48))) H := hP
            have hD : va_D A (wX1 cI cZ cC q0 ((pX1_signs s49), (pX1_length s49), ((pX1_next s49) + 1), (pX1_place s49), (pX1_letter s49), (((10 * (pX1_number s49)) + ((pX1_signs s49) (pX1_next s49).toNatClampNeg)) - 48))) := hD
            refine lv_goto (tgt := 49) hx hb dX1_readDeed_108 (by decide) ?_
            obtain rfl := Option.some.inj hf
            exact ih49 _ _ hn _ _ ls hP hD hS (lv_sub hl [0] rfl) kx
    obtain ⟨o49, ho49, hf⟩ := ob hf
    refine hL49 FU _ _ ho49 _ _ ls hP hD hS (lv_sub hl [0] rfl) (fun H locs ls hP hD hS hl => ?_)
    refine lv_aload_n hx hb dX1_readDeed_111 rfl (lv_at hl 0 rfl) ?_
    refine lv_dup hx hb dX1_readDeed_112 rfl ?_
    refine va_get (D := (dC, dI)) (ci := 1) (v := .int (pX1_next o49)) (C := RX1) (T := TX1) (N := 6) hx hb hts hin1 hown hK hP 0 rfl rfl 2 (by decide) hk0 (fun _ h9 => h9) rfl dX1_readDeed_113 ?_
    refine lv_iconst (v := 1) hx hb dX1_readDeed_116 (by decide) ?_
    refine lv_iadd hx hb dX1_readDeed_117 ?_
    refine va_put (D := (dC, dI)) (ci := 1) (v := .int ((pX1_next o49) + 1)) (ty := .int) (C := RX1) (T := TX1) (N := 6) hx hb hts hin1 tyX1 tyX1_ok nmX1 hown hK hP hD hS 0 rfl rfl 2 (by decide) hk0 (fun _ h9 => h9) rfl (by decide +kernel) rfl rfl (Nat.le_of_ble_eq_true rfl) dX1_readDeed_118 (fun H locs hP hD hS => ?_)
    have hP : va_P (dC, dI) vwCl (wX1 cI cZ cC q0 ((pX1_signs o49), (pX1_length o49), ((pX1_next o49) + 1), (pX1_place o49), (pX1_letter o49), (pX1_number o49))) H := hP
    have hD : va_D A (wX1 cI cZ cC q0 ((pX1_signs o49), (pX1_length o49), ((pX1_next o49) + 1), (pX1_place o49), (pX1_letter o49), (pX1_number o49))) := hD
    refine lv_iconst (v := 1) hx hb dX1_readDeed_121 (by decide) ?_
    obtain rfl := Option.some.inj hf
    exact W.zret (v := 1) (ty := .boolean) hx hb hr rfl (fun t ht hW => ⟨⟨_, (), rfl, rfl, by rw [ht]; exact hP, hD⟩, hS.F ht⟩) hS.2.2 dX1_readDeed_122
  · have hf := oe hc hf
    refine lv_iconst (v := 0) hx hb dX1_readDeed_11 (by decide) ?_
    obtain rfl := Option.some.inj hf
    exact W.zret (v := 0) (ty := .boolean) hx hb hr rfl (fun t ht hW => ⟨⟨_, (), rfl, rfl, by rw [ht]; exact hP, hD⟩, hS.F ht⟩) hS.2.2 dX1_readDeed_12
set_option maxHeartbeats 4000000 in
set_option maxRecDepth 100000 in
theorem mX2_rimOf (l : Launch) (dC : Nat → ClassId) (dI : Nat → Nat → Nat) (cI cZ cC cO : ClassId) (a0 : Int32) (out : Int32) (hf : fX2_rimOf a0 = some out) : Met l yX2_rimOf wsX2_rimOf rmX2_rimOf (va_Pc [.int a0] (pcR (dC, dI) (wTys cI cZ cC cO) ([] : va_W))) (vp_Si (fun r => r = out)) 0 0 (fun _ => False) := by
  refine Met.ofW (cc := cX2_rimOf) (maxL := 3) (ret := (some .int)) (by decide) rfl ?_
  intro p e s m args below meth c s₁ B hml hv
  obtain ⟨hargs, hP, hK, hN⟩ := hv
  have hx := B.exec
  have hb := B.bytes
  have hr := B.returns
  have hts := atoms_spec (ws := wsX2_rimOf) B.pre
  have hown : s.vm.findClass RX2 = some m.cls := findClass_of_methodNamed B.named
  have hlocks := B.notSynchronized
  have hE := lg_entry_eq m [.int a0] 3
  rw [← hargs] at hE
  rw [hE]
  have hl := lv_entry [.int a0] (n := 3) (Nat.le_of_ble_eq_true rfl)
  generalize (lg_sl [.int a0] ++ List.replicate (3 - (lg_sl [.int a0]).length) Slot.unset).toArray = ls at hl ⊢
  have hl : lv_has ls 3 [(0, .int a0)] := hl
  unfold fX2_rimOf at hf
  refine lv_iload_n hx hb dX2_rimOf_0 rfl (lv_at hl 0 rfl) ?_
  refine lv_bipush (v := 11) hx hb dX2_rimOf_1 (by decide) ?_
  refine lv_idiv hx hb dX2_rimOf_3 (by decide) ?_
  refine lv_istore_n (lv' := [(1, .int (a0 / 11)), (0, .int a0)]) hx hb dX2_rimOf_4 rfl hl (by decide) rfl (fun ls hl => ?_)
  refine lv_iload_n hx hb dX2_rimOf_5 rfl (lv_at hl 1 rfl) ?_
  refine lv_bipush (v := 11) hx hb dX2_rimOf_6 (by decide) ?_
  refine jirem hx hb dX2_rimOf_8 (by decide) ?_
  refine lv_istore_n (lv' := [(2, .int (jrem a0 11)), (1, .int (a0 / 11)), (0, .int a0)]) hx hb dX2_rimOf_9 rfl hl (by decide) rfl (fun ls hl => ?_)
  refine lv_iload_n hx hb dX2_rimOf_10 rfl (lv_at hl 1 rfl) ?_
  refine lv_if_ne (tgt := 16) hx hb dX2_rimOf_11 (by decide) (fun hc => ?_) (fun hc => ?_)
  · have hf := oe hc hf
    refine lv_iload_n hx hb dX2_rimOf_16 rfl (lv_at hl 0 rfl) ?_
    refine lv_bipush (v := 10) hx hb dX2_rimOf_17 (by decide) ?_
    refine lv_icmp_ne (tgt := 27) hx hb dX2_rimOf_19 (by decide) (fun hc => ?_) (fun hc => ?_)
    · have hf := oe hc hf
      refine lv_iload_n hx hb dX2_rimOf_27 rfl (lv_at hl 1 rfl) ?_
      refine lv_bipush (v := 10) hx hb dX2_rimOf_28 (by decide) ?_
      refine lv_icmp_ne (tgt := 38) hx hb dX2_rimOf_30 (by decide) (fun hc => ?_) (fun hc => ?_)
      · have hf := oe hc hf
        refine lv_iload_n hx hb dX2_rimOf_38 rfl (lv_at hl 0 rfl) ?_
        refine lv_if_ne (tgt := 49) hx hb dX2_rimOf_39 (by decide) (fun hc => ?_) (fun hc => ?_)
        · have hf := oe hc hf
          refine lv_bipush (v := (-4)) hx hb dX2_rimOf_49 (by decide) ?_
          obtain rfl := Option.some.inj hf
          exact W.iret (v := (-4)) hx hb hr (fun t ht hW => ⟨_, rfl, rfl, ht⟩) (fun _ h => by cases h) dX2_rimOf_51
        · have hf := ot hc hf
          refine lv_bipush (v := 40) hx hb dX2_rimOf_42 (by decide) ?_
          refine lv_iload_n hx hb dX2_rimOf_44 rfl (lv_at hl 1 rfl) ?_
          refine lv_isub hx hb dX2_rimOf_45 ?_
          refine lv_goto (tgt := 51) hx hb dX2_rimOf_46 (by decide) ?_
          obtain rfl := Option.some.inj hf
          exact W.iret (v := (40 - (a0 / 11))) hx hb hr (fun t ht hW => ⟨_, rfl, rfl, ht⟩) (fun _ h => by cases h) dX2_rimOf_51
      · have hf := ot hc hf
        refine lv_bipush (v := 30) hx hb dX2_rimOf_33 (by decide) ?_
        refine lv_iload_n hx hb dX2_rimOf_35 rfl (lv_at hl 0 rfl) ?_
        refine lv_isub hx hb dX2_rimOf_36 ?_
        obtain rfl := Option.some.inj hf
        exact W.iret (v := (30 - (jrem a0 11))) hx hb hr (fun t ht hW => ⟨_, rfl, rfl, ht⟩) (fun _ h => by cases h) dX2_rimOf_37
    · have hf := ot hc hf
      refine lv_bipush (v := 10) hx hb dX2_rimOf_22 (by decide) ?_
      refine lv_iload_n hx hb dX2_rimOf_24 rfl (lv_at hl 1 rfl) ?_
      refine lv_iadd hx hb dX2_rimOf_25 ?_
      obtain rfl := Option.some.inj hf
      exact W.iret (v := (10 + (a0 / 11))) hx hb hr (fun t ht hW => ⟨_, rfl, rfl, ht⟩) (fun _ h => by cases h) dX2_rimOf_26
  · have hf := ot hc hf
    refine lv_iload_n hx hb dX2_rimOf_14 rfl (lv_at hl 0 rfl) ?_
    obtain rfl := Option.some.inj hf
    exact W.iret (v := (jrem a0 11)) hx hb hr (fun t ht hW => ⟨_, rfl, rfl, ht⟩) (fun _ h => by cases h) dX2_rimOf_15
set_option maxHeartbeats 4000000 in
set_option maxRecDepth 100000 in
theorem mX2_directionInward (l : Launch) (dC : Nat → ClassId) (dI : Nat → Nat → Nat) (cI cZ cC cO : ClassId) (a0 : Int32) (out : Int32) (hf : fX2_directionInward a0 = some out) : Met l yX2_directionInward wsX2_directionInward rmX2_directionInward (va_Pc [.int a0] (pcR (dC, dI) (wTys cI cZ cC cO) ([] : va_W))) (vp_Si (fun r => r = out)) 0 0 (fun _ => False) := by
  refine Met.ofW (cc := cX2_directionInward) (maxL := 1) (ret := (some .int)) (by decide) rfl ?_
  intro p e s m args below meth c s₁ B hml hv
  obtain ⟨hargs, hP, hK, hN⟩ := hv
  have hx := B.exec
  have hb := B.bytes
  have hr := B.returns
  have hts := atoms_spec (ws := wsX2_directionInward) B.pre
  have hown : s.vm.findClass RX2 = some m.cls := findClass_of_methodNamed B.named
  have hlocks := B.notSynchronized
  have hE := lg_entry_eq m [.int a0] 1
  rw [← hargs] at hE
  rw [hE]
  have hl := lv_entry [.int a0] (n := 1) (Nat.le_of_ble_eq_true rfl)
  generalize (lg_sl [.int a0] ++ List.replicate (1 - (lg_sl [.int a0]).length) Slot.unset).toArray = ls at hl ⊢
  have hl : lv_has ls 1 [(0, .int a0)] := hl
  unfold fX2_directionInward at hf
  refine lv_iload_n hx hb dX2_directionInward_0 rfl (lv_at hl 0 rfl) ?_
  refine lv_bipush (v := 10) hx hb dX2_directionInward_1 (by decide) ?_
  refine lv_icmp_gt (tgt := 8) hx hb dX2_directionInward_3 (by decide) (fun hc => ?_) (fun hc => ?_)
  · have hf := ot hc hf
    refine lv_iload_n hx hb dX2_directionInward_8 rfl (lv_at hl 0 rfl) ?_
    refine lv_bipush (v := 19) hx hb dX2_directionInward_9 (by decide) ?_
    refine lv_icmp_gt (tgt := 16) hx hb dX2_directionInward_11 (by decide) (fun hc => ?_) (fun hc => ?_)
    · have hf := ot hc hf
      refine lv_iload_n hx hb dX2_directionInward_16 rfl (lv_at hl 0 rfl) ?_
      refine lv_bipush (v := 30) hx hb dX2_directionInward_17 (by decide) ?_
      refine lv_icmp_gt (tgt := 26) hx hb dX2_directionInward_19 (by decide) (fun hc => ?_) (fun hc => ?_)
      · have hf := ot hc hf
        refine lv_iconst (v := 1) hx hb dX2_directionInward_26 (by decide) ?_
        obtain rfl := Option.some.inj hf
        exact W.iret (v := 1) hx hb hr (fun t ht hW => ⟨_, rfl, rfl, ht⟩) (fun _ h => by cases h) dX2_directionInward_27
      · have hf := oe hc hf
        refine lv_iconst (v := 0) hx hb dX2_directionInward_22 (by decide) ?_
        refine lv_goto (tgt := 27) hx hb dX2_directionInward_23 (by decide) ?_
        obtain rfl := Option.some.inj hf
        exact W.iret (v := 0) hx hb hr (fun t ht hW => ⟨_, rfl, rfl, ht⟩) (fun _ h => by cases h) dX2_directionInward_27
    · have hf := oe hc hf
      refine lv_iconst (v := 3) hx hb dX2_directionInward_14 (by decide) ?_
      obtain rfl := Option.some.inj hf
      exact W.iret (v := 3) hx hb hr (fun t ht hW => ⟨_, rfl, rfl, ht⟩) (fun _ h => by cases h) dX2_directionInward_15
  · have hf := oe hc hf
    refine lv_iconst (v := 2) hx hb dX2_directionInward_6 (by decide) ?_
    obtain rfl := Option.some.inj hf
    exact W.iret (v := 2) hx hb hr (fun t ht hW => ⟨_, rfl, rfl, ht⟩) (fun _ h => by cases h) dX2_directionInward_7
