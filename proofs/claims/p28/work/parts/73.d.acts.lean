set_option maxHeartbeats 20000000 in
set_option maxRecDepth 100000 in
theorem mL_acts (l : Launch) (dC : Nat → ClassId) (dI : Nat → Nat → Nat) (cI cZ cC cO : ClassId) (Q : Nat → Nat → Nat) (u : QH) (V : GV) (i1 : Int32) (i2 : Int32) (a : AS) (K : Int32 → AS → Prop) (sz : Nat) (hR : RepA V a) (hf : gL_acts i1 i2 a K) : Met l yL_acts wsL_acts rmL_acts (va_Pc [.ref (Q 0 0), .int i1, .int i2] (pcW (dC, dI) (wTys cI cZ cC cO) sz (WB cI cZ cC cO Q u V).flatten)) (va_Qi (fun r (w : QH × GV × AS) => K r w.2.2 ∧ RepA w.2.1 w.2.2) (fun w => poW (dC, dI) (va_A (WB cI cZ cC cO Q u V).flatten sz) (WB cI cZ cC cO Q w.1 w.2.1).flatten) (va_A (WB cI cZ cC cO Q u V).flatten sz)) 0 0 (va_A (WB cI cZ cC cO Q u V).flatten sz) := by
  refine Met.ofW (cc := cL_acts) (maxL := 10) (ret := (some .boolean)) (by decide) rfl ?_
  intro p e s m args below meth c s₁ B hml hv
  obtain ⟨hargs, hsz, hP, hK, hN, hD0⟩ := hv
  have hx := B.exec
  have hb := B.bytes
  have hr := B.returns
  have hts := atoms_spec (ws := wsL_acts) B.pre
  have hown : s.vm.findClass RL = some m.cls := findClass_of_methodNamed B.named
  have hlocks := B.notSynchronized
  subst hsz
  have hD := hD0.self (sz := s.heap.size)
  generalize hAe : va_A (WB cI cZ cC cO Q u V).flatten s.heap.size = A at hD ⊢
  have hA : ∀ q : Nat, s.heap.size ≤ q → A q := fun q h => by rw [← hAe]; exact Or.inr h
  have hS : va_S A s.heap s.heap [] := va_S.rf
  have hE := lg_entry_eq m [.ref (Q 0 0), .int i1, .int i2] 10
  rw [← hargs] at hE
  rw [hE]
  have hl := lv_entry [.ref (Q 0 0), .int i1, .int i2] (n := 10) (Nat.le_of_ble_eq_true rfl)
  generalize (lg_sl [.ref (Q 0 0), .int i1, .int i2] ++ List.replicate (10 - (lg_sl [.ref (Q 0 0), .int i1, .int i2]).length) Slot.unset).toArray = ls at hl ⊢
  have hl : lv_has ls 10 [(0, .ref (Q 0 0)), (1, .int i1), (2, .int i2)] := hl
  have hP : va_P (dC, dI) vwCl (WB cI cZ cC cO Q u V).flatten s.heap := hP
  unfold gL_acts at hf
  refine lv_iload_n hx hb dL_acts_0 rfl (lv_at hl 1 rfl) ?_
  refine lv_bipush (v := 24) hx hb dL_acts_1 (by decide) ?_
  refine rS (w := []) (W0 := (WB cI cZ cC cO Q u V).flatten) (rest := []) (As := [.int i1, .int 24]) ⟨hx, hb, hml, hown, hts⟩ (mL_low l dC dI cI cZ cC cO i1 24 (by decide)) (va_cwS 2 hts gL_acts_L_low rfl rfl rfl (by decide +kernel) ⟨Nat.le_of_ble_eq_true rfl, Nat.le_of_ble_eq_true rfl⟩) hK hN hP [] rfl rfl hl.1 rfl (Nat.le_of_ble_eq_true rfl) dL_acts_3 ⟨Nat.le_of_ble_eq_true rfl, Nat.le_of_ble_eq_true rfl⟩ ?_
  refine lv_istore_n (lv' := [(3, .int (lwA28 i1 24)), (0, .ref (Q 0 0)), (1, .int i1), (2, .int i2)]) hx hb dL_acts_6 rfl hl (by decide) rfl (fun ls hl => ?_)
  refine lv_aload_n hx hb dL_acts_7 rfl (lv_at hl 1 rfl) ?_
  refine lv_iconst (v := 0) hx hb dL_acts_8 (by decide) ?_
  refine rb_count (x0 := 0) (rest := []) ⟨hx, hb, hml, hown, hts⟩ (cwV 1 hts gL_acts_X7_count rfl rfl rfl (by decide +kernel) ⟨Nat.le_of_ble_eq_true rfl, Nat.le_of_ble_eq_true rfl⟩) hK hN hP hD hS hA hR hl.1 rfl (Nat.le_of_ble_eq_true rfl) dL_acts_9 ⟨Nat.le_of_ble_eq_true rfl, Nat.le_of_ble_eq_true rfl⟩ (fun V u H locs hR hP hD hS => ?_)
  refine lv_istore (lv' := [(4, .int (cotA a 0)), (3, .int (lwA28 i1 24)), (0, .ref (Q 0 0)), (1, .int i1), (2, .int i2)]) hx hb dL_acts_12 hl (by decide) rfl (fun ls hl => ?_)
  refine lv_iload_n hx hb dL_acts_14 rfl (lv_at hl 1 rfl) ?_
  refine lv_bipush (v := 8) hx hb dL_acts_15 (by decide) ?_
  refine lv_icmp_ge (tgt := 152) hx hb dL_acts_17 (by decide) (fun hc => ?_) (fun hc => ?_)
  · have hf := pt hc hf
    refine lv_iload_n hx hb dL_acts_152 rfl (lv_at hl 1 rfl) ?_
    refine lv_bipush (v := 12) hx hb dL_acts_153 (by decide) ?_
    refine lv_icmp_ge (tgt := 276) hx hb dL_acts_155 (by decide) (fun hc => ?_) (fun hc => ?_)
    · have hf := pt hc hf
      refine lv_iload_n hx hb dL_acts_276 rfl (lv_at hl 1 rfl) ?_
      refine lv_bipush (v := 12) hx hb dL_acts_277 (by decide) ?_
      refine lv_icmp_ne (tgt := 433) hx hb dL_acts_279 (by decide) (fun hc => ?_) (fun hc => ?_)
      · have hf := pe hc hf
        refine lv_iload_n hx hb dL_acts_433 rfl (lv_at hl 1 rfl) ?_
        refine lv_bipush (v := 13) hx hb dL_acts_434 (by decide) ?_
        refine lv_icmp_ne (tgt := 512) hx hb dL_acts_436 (by decide) (fun hc => ?_) (fun hc => ?_)
        · have hf := pe hc hf
          refine lv_iload_n hx hb dL_acts_512 rfl (lv_at hl 1 rfl) ?_
          refine lv_bipush (v := 16) hx hb dL_acts_513 (by decide) ?_
          refine lv_icmp_ge (tgt := 604) hx hb dL_acts_515 (by decide) (fun hc => ?_) (fun hc => ?_)
          · have hf := pt hc hf
            refine lv_iload_n hx hb dL_acts_604 rfl (lv_at hl 1 rfl) ?_
            refine lv_bipush (v := 19) hx hb dL_acts_605 (by decide) ?_
            refine lv_icmp_ge (tgt := 792) hx hb dL_acts_607 (by decide) (fun hc => ?_) (fun hc => ?_)
            · have hf := pt hc hf
              refine lv_iload_n hx hb dL_acts_792 rfl (lv_at hl 1 rfl) ?_
              refine lv_bipush (v := 23) hx hb dL_acts_793 (by decide) ?_
              refine lv_icmp_ge (tgt := 804) hx hb dL_acts_795 (by decide) (fun hc => ?_) (fun hc => ?_)
              · have hf := pt hc hf
                refine lv_iload_n hx hb dL_acts_804 rfl (lv_at hl 4 rfl) ?_
                refine lv_iconst (v := 4) hx hb dL_acts_805 (by decide) ?_
                refine rS (w := []) (W0 := (WB cI cZ cC cO Q u V).flatten) (rest := []) (As := [.int i2, .int 4]) ⟨hx, hb, hml, hown, hts⟩ (mL_low l dC dI cI cZ cC cO i2 4 (by decide)) (va_cwS 2 hts gL_acts_L_low rfl rfl rfl (by decide +kernel) ⟨Nat.le_of_ble_eq_true rfl, Nat.le_of_ble_eq_true rfl⟩) hK hN hP [] rfl rfl hl.1 rfl (Nat.le_of_ble_eq_true rfl) dL_acts_806 ⟨Nat.le_of_ble_eq_true rfl, Nat.le_of_ble_eq_true rfl⟩ ?_
                refine lv_istore (lv' := [(5, .int (lwA28 i2 4)), (4, .int (cotA a 0)), (3, .int (lwA28 i1 24)), (0, .ref (Q 0 0)), (1, .int i1), (2, .int i2)]) hx hb dL_acts_809 hl (by decide) rfl (fun ls hl => ?_)
                refine lv_aload_n hx hb dL_acts_811 rfl (lv_at hl 3 rfl) ?_
                refine lv_bipush (v := 17) hx hb dL_acts_812 (by decide) ?_
                refine rb_count (x0 := 17) (rest := []) ⟨hx, hb, hml, hown, hts⟩ (cwV 1 hts gL_acts_X7_count rfl rfl rfl (by decide +kernel) ⟨Nat.le_of_ble_eq_true rfl, Nat.le_of_ble_eq_true rfl⟩) hK hN hP hD hS hA hR hl.1 rfl (Nat.le_of_ble_eq_true rfl) dL_acts_814 ⟨Nat.le_of_ble_eq_true rfl, Nat.le_of_ble_eq_true rfl⟩ (fun V u H locs hR hP hD hS => ?_)
                refine lv_istore (lv' := [(6, .int (cotA a 17)), (5, .int (lwA28 i2 4)), (4, .int (cotA a 0)), (3, .int (lwA28 i1 24)), (0, .ref (Q 0 0)), (1, .int i1), (2, .int i2)]) hx hb dL_acts_817 hl (by decide) rfl (fun ls hl => ?_)
                refine lv_iload_n hx hb dL_acts_819 rfl (lv_at hl 6 rfl) ?_
                refine lv_iconst (v := 3) hx hb dL_acts_820 (by decide) ?_
                refine lv_ishr hx hb dL_acts_821 ?_
                refine lv_iconst (v := 2) hx hb dL_acts_822 (by decide) ?_
                refine rS (w := []) (W0 := (WB cI cZ cC cO Q u V).flatten) (rest := []) (As := [.int (i2 >>> (3 &&& 31)), .int 2]) ⟨hx, hb, hml, hown, hts⟩ (mL_low l dC dI cI cZ cC cO ((i2 >>> (3 &&& 31))) 2 (by decide)) (va_cwS 2 hts gL_acts_L_low rfl rfl rfl (by decide +kernel) ⟨Nat.le_of_ble_eq_true rfl, Nat.le_of_ble_eq_true rfl⟩) hK hN hP [] rfl rfl hl.1 rfl (Nat.le_of_ble_eq_true rfl) dL_acts_823 ⟨Nat.le_of_ble_eq_true rfl, Nat.le_of_ble_eq_true rfl⟩ ?_
                have hJ1 : ∀ (y0_1 : Int32) (a_1 : AS), jL_acts_1 i2 a K y0_1 a_1 → ∀ (V : GV) (u : QH) (H : Heap) (locs : List Loc) (ls : Array Slot), RepA V a_1 → va_P (dC, dI) vwCl (WB cI cZ cC cO Q u V).flatten H → va_D A (WB cI cZ cC cO Q u V).flatten → va_S A s.heap H locs → lv_has ls 10 [(0, .ref (Q 0 0)), (2, .int i2), (5, .int (lwA28 i2 4)), (6, .int (cotA a 17))] → W p l e (headSpec wsL_acts rmL_acts).room s m args below meth c H locs 0 0 (MQ below (va_Qi (fun r (w : QH × GV × AS) => K r w.2.2 ∧ RepA w.2.1 w.2.2) (fun w => poW (dC, dI) A (WB cI cZ cC cO Q w.1 w.2.1).flatten) A) args s 0 0 A) (F0 m 839 ls [.int y0_1]) := by
                  intro y0_1 a_1 hf V u H locs ls hR hP hD hS hl
                  unfold jL_acts_1 at hf
                  refine lv_istore (lv' := [(7, .int y0_1), (0, .ref (Q 0 0)), (2, .int i2), (5, .int (lwA28 i2 4)), (6, .int (cotA a 17))]) hx hb dL_acts_839 hl (by decide) rfl (fun ls hl => ?_)
                  refine lv_iload_n hx hb dL_acts_841 rfl (lv_at hl 2 rfl) ?_
                  refine lv_iconst (v := 3) hx hb dL_acts_842 (by decide) ?_
                  refine lv_ishr hx hb dL_acts_843 ?_
                  refine lv_iconst (v := 2) hx hb dL_acts_844 (by decide) ?_
                  refine rS (w := []) (W0 := (WB cI cZ cC cO Q u V).flatten) (rest := []) (As := [.int (i2 >>> (3 &&& 31)), .int 2]) ⟨hx, hb, hml, hown, hts⟩ (mL_low l dC dI cI cZ cC cO ((i2 >>> (3 &&& 31))) 2 (by decide)) (va_cwS 2 hts gL_acts_L_low rfl rfl rfl (by decide +kernel) ⟨Nat.le_of_ble_eq_true rfl, Nat.le_of_ble_eq_true rfl⟩) hK hN hP [] rfl rfl hl.1 rfl (Nat.le_of_ble_eq_true rfl) dL_acts_845 ⟨Nat.le_of_ble_eq_true rfl, Nat.le_of_ble_eq_true rfl⟩ ?_
                  have hJ2 : jL_acts_2 K a_1 → ∀ (V : GV) (u : QH) (H : Heap) (locs : List Loc) (ls : Array Slot), RepA V a_1 → va_P (dC, dI) vwCl (WB cI cZ cC cO Q u V).flatten H → va_D A (WB cI cZ cC cO Q u V).flatten → va_S A s.heap H locs → lv_has ls 10 [] → W p l e (headSpec wsL_acts rmL_acts).room s m args below meth c H locs 0 0 (MQ below (va_Qi (fun r (w : QH × GV × AS) => K r w.2.2 ∧ RepA w.2.1 w.2.2) (fun w => poW (dC, dI) A (WB cI cZ cC cO Q w.1 w.2.1).flatten) A) args s 0 0 A) (F0 m 962 ls []) := by
                    intro hf V u H locs ls hR hP hD hS hl
                    unfold jL_acts_2 at hf
                    refine lv_iconst (v := 1) hx hb dL_acts_962 (by decide) ?_
                    refine lv_goto (tgt := 967) hx hb dL_acts_963 (by decide) ?_
                    exact W.zret (v := 1) (ty := .boolean) hx hb hr rfl (fun t ht hW => ⟨⟨_, (u, V, a_1), rfl, ⟨hf, hR⟩, by rw [ht]; exact hP, hD⟩, hS.F ht⟩) hS.2.2 dL_acts_967
                  refine lv_if_eq (tgt := 962) hx hb dL_acts_848 (by decide) (fun hc => ?_) (fun hc => ?_)
                  · have hf := pt hc hf
                    exact hJ2 hf _ _ _ _ ls hR hP hD hS (lv_sub hl [] rfl)
                  · have hf := pe hc hf
                    refine lv_iload hx hb dL_acts_851 (lv_at hl 3 rfl) ?_
                    refine lv_iconst (v := 3) hx hb dL_acts_853 (by decide) ?_
                    refine lv_icmp_ne (tgt := 866) hx hb dL_acts_854 (by decide) (fun hc => ?_) (fun hc => ?_)
                    · have hf := pe hc hf
                      refine lv_iload hx hb dL_acts_866 (lv_at hl 0 rfl) ?_
                      refine lv_iload hx hb dL_acts_868 (lv_at hl 3 rfl) ?_
                      have hJ3 : ∀ (y0_3 : Int32), jL_acts_3 a K y0_1 a_1 y0_3 → ∀ (V : GV) (u : QH) (H : Heap) (locs : List Loc) (ls : Array Slot), RepA V a_1 → va_P (dC, dI) vwCl (WB cI cZ cC cO Q u V).flatten H → va_D A (WB cI cZ cC cO Q u V).flatten → va_S A s.heap H locs → lv_has ls 10 [(0, .ref (Q 0 0)), (6, .int (cotA a 17)), (7, .int y0_1)] → W p l e (headSpec wsL_acts rmL_acts).room s m args below meth c H locs 0 0 (MQ below (va_Qi (fun r (w : QH × GV × AS) => K r w.2.2 ∧ RepA w.2.1 w.2.2) (fun w => poW (dC, dI) A (WB cI cZ cC cO Q w.1 w.2.1).flatten) A) args s 0 0 A) (F0 m 890 ls [.int y0_3, .int y0_1]) := by
                        intro y0_3 hf V u H locs ls hR hP hD hS hl
                        unfold jL_acts_3 at hf
                        refine lv_icmp_ne (tgt := 966) hx hb dL_acts_890 (by decide) (fun hc => ?_) (fun hc => ?_)
                        · have hf := pe hc hf
                          refine lv_iconst (v := 0) hx hb dL_acts_966 (by decide) ?_
                          exact W.zret (v := 0) (ty := .boolean) hx hb hr rfl (fun t ht hW => ⟨⟨_, (u, V, a_1), rfl, ⟨hf, hR⟩, by rw [ht]; exact hP, hD⟩, hS.F ht⟩) hS.2.2 dL_acts_967
                        · have hf := pt hc hf
                          refine lv_aload_n hx hb dL_acts_893 rfl (lv_at hl 0 rfl) ?_
                          refine lv_iconst (v := 0) hx hb dL_acts_894 (by decide) ?_
                          refine rb_count (x0 := 0) (rest := []) ⟨hx, hb, hml, hown, hts⟩ (cwV 1 hts gL_acts_X7_count rfl rfl rfl (by decide +kernel) ⟨Nat.le_of_ble_eq_true rfl, Nat.le_of_ble_eq_true rfl⟩) hK hN hP hD hS hA hR hl.1 rfl (Nat.le_of_ble_eq_true rfl) dL_acts_895 ⟨Nat.le_of_ble_eq_true rfl, Nat.le_of_ble_eq_true rfl⟩ (fun V u H locs hR hP hD hS => ?_)
                          refine lv_iload hx hb dL_acts_898 (lv_at hl 2 rfl) ?_
                          refine lv_icmp_ne (tgt := 966) hx hb dL_acts_900 (by decide) (fun hc => ?_) (fun hc => ?_)
                          · have hf := pe hc hf
                            refine lv_iconst (v := 0) hx hb dL_acts_966 (by decide) ?_
                            exact W.zret (v := 0) (ty := .boolean) hx hb hr rfl (fun t ht hW => ⟨⟨_, (u, V, a_1), rfl, ⟨hf, hR⟩, by rw [ht]; exact hP, hD⟩, hS.F ht⟩) hS.2.2 dL_acts_967
                          · have hf := pt hc hf
                            refine lv_aload_n hx hb dL_acts_903 rfl (lv_at hl 0 rfl) ?_
                            refine lv_iconst (v := 1) hx hb dL_acts_904 (by decide) ?_
                            refine rb_count (x0 := 1) (rest := []) ⟨hx, hb, hml, hown, hts⟩ (cwV 1 hts gL_acts_X7_count rfl rfl rfl (by decide +kernel) ⟨Nat.le_of_ble_eq_true rfl, Nat.le_of_ble_eq_true rfl⟩) hK hN hP hD hS hA hR hl.1 rfl (Nat.le_of_ble_eq_true rfl) dL_acts_905 ⟨Nat.le_of_ble_eq_true rfl, Nat.le_of_ble_eq_true rfl⟩ (fun V u H locs hR hP hD hS => ?_)
                            refine lv_iload hx hb dL_acts_908 (lv_at hl 2 rfl) ?_
                            refine lv_icmp_ne (tgt := 966) hx hb dL_acts_910 (by decide) (fun hc => ?_) (fun hc => ?_)
                            · have hf := pe hc hf
                              refine lv_iconst (v := 0) hx hb dL_acts_966 (by decide) ?_
                              exact W.zret (v := 0) (ty := .boolean) hx hb hr rfl (fun t ht hW => ⟨⟨_, (u, V, a_1), rfl, ⟨hf, hR⟩, by rw [ht]; exact hP, hD⟩, hS.F ht⟩) hS.2.2 dL_acts_967
                            · have hf := pt hc hf
                              refine lv_aload_n hx hb dL_acts_913 rfl (lv_at hl 0 rfl) ?_
                              refine lv_bipush (v := 7) hx hb dL_acts_914 (by decide) ?_
                              refine rb_count (x0 := 7) (rest := []) ⟨hx, hb, hml, hown, hts⟩ (cwV 1 hts gL_acts_X7_count rfl rfl rfl (by decide +kernel) ⟨Nat.le_of_ble_eq_true rfl, Nat.le_of_ble_eq_true rfl⟩) hK hN hP hD hS hA hR hl.1 rfl (Nat.le_of_ble_eq_true rfl) dL_acts_916 ⟨Nat.le_of_ble_eq_true rfl, Nat.le_of_ble_eq_true rfl⟩ (fun V u H locs hR hP hD hS => ?_)
                              refine lv_aload_n hx hb dL_acts_919 rfl (lv_at hl 0 rfl) ?_
                              refine lv_bipush (v := 8) hx hb dL_acts_920 (by decide) ?_
                              refine rb_count (x0 := 8) (rest := [.int (cotA a_1 7)]) ⟨hx, hb, hml, hown, hts⟩ (cwV 1 hts gL_acts_X7_count rfl rfl rfl (by decide +kernel) ⟨Nat.le_of_ble_eq_true rfl, Nat.le_of_ble_eq_true rfl⟩) hK hN hP hD hS hA hR hl.1 rfl (Nat.le_of_ble_eq_true rfl) dL_acts_922 ⟨Nat.le_of_ble_eq_true rfl, Nat.le_of_ble_eq_true rfl⟩ (fun V u H locs hR hP hD hS => ?_)
                              refine lv_iadd hx hb dL_acts_925 ?_
                              refine lv_aload_n hx hb dL_acts_926 rfl (lv_at hl 0 rfl) ?_
                              refine lv_bipush (v := 9) hx hb dL_acts_927 (by decide) ?_
                              refine rb_count (x0 := 9) (rest := [.int ((cotA a_1 7) + (cotA a_1 8))]) ⟨hx, hb, hml, hown, hts⟩ (cwV 1 hts gL_acts_X7_count rfl rfl rfl (by decide +kernel) ⟨Nat.le_of_ble_eq_true rfl, Nat.le_of_ble_eq_true rfl⟩) hK hN hP hD hS hA hR hl.1 rfl (Nat.le_of_ble_eq_true rfl) dL_acts_929 ⟨Nat.le_of_ble_eq_true rfl, Nat.le_of_ble_eq_true rfl⟩ (fun V u H locs hR hP hD hS => ?_)
                              refine lv_iadd hx hb dL_acts_932 ?_
                              refine lv_aload_n hx hb dL_acts_933 rfl (lv_at hl 0 rfl) ?_
                              refine lv_bipush (v := 10) hx hb dL_acts_934 (by decide) ?_
                              refine rb_count (x0 := 10) (rest := [.int (((cotA a_1 7) + (cotA a_1 8)) + (cotA a_1 9))]) ⟨hx, hb, hml, hown, hts⟩ (cwV 1 hts gL_acts_X7_count rfl rfl rfl (by decide +kernel) ⟨Nat.le_of_ble_eq_true rfl, Nat.le_of_ble_eq_true rfl⟩) hK hN hP hD hS hA hR hl.1 rfl (Nat.le_of_ble_eq_true rfl) dL_acts_936 ⟨Nat.le_of_ble_eq_true rfl, Nat.le_of_ble_eq_true rfl⟩ (fun V u H locs hR hP hD hS => ?_)
                              refine lv_iadd hx hb dL_acts_939 ?_
                              refine lv_if_ne (tgt := 966) hx hb dL_acts_940 (by decide) (fun hc => ?_) (fun hc => ?_)
                              · have hf := pe hc hf
                                refine lv_iconst (v := 0) hx hb dL_acts_966 (by decide) ?_
                                exact W.zret (v := 0) (ty := .boolean) hx hb hr rfl (fun t ht hW => ⟨⟨_, (u, V, a_1), rfl, ⟨hf, hR⟩, by rw [ht]; exact hP, hD⟩, hS.F ht⟩) hS.2.2 dL_acts_967
                              · have hf := pt hc hf
                                refine lv_aload_n hx hb dL_acts_943 rfl (lv_at hl 0 rfl) ?_
                                refine lv_bipush (v := 17) hx hb dL_acts_944 (by decide) ?_
                                refine rb_count (x0 := 17) (rest := []) ⟨hx, hb, hml, hown, hts⟩ (cwV 1 hts gL_acts_X7_count rfl rfl rfl (by decide +kernel) ⟨Nat.le_of_ble_eq_true rfl, Nat.le_of_ble_eq_true rfl⟩) hK hN hP hD hS hA hR hl.1 rfl (Nat.le_of_ble_eq_true rfl) dL_acts_946 ⟨Nat.le_of_ble_eq_true rfl, Nat.le_of_ble_eq_true rfl⟩ (fun V u H locs hR hP hD hS => ?_)
                                refine lv_iload hx hb dL_acts_949 (lv_at hl 1 rfl) ?_
                                refine lv_icmp_ne (tgt := 966) hx hb dL_acts_951 (by decide) (fun hc => ?_) (fun hc => ?_)
                                · have hf := pe hc hf
                                  refine lv_iconst (v := 0) hx hb dL_acts_966 (by decide) ?_
                                  exact W.zret (v := 0) (ty := .boolean) hx hb hr rfl (fun t ht hW => ⟨⟨_, (u, V, a_1), rfl, ⟨hf, hR⟩, by rw [ht]; exact hP, hD⟩, hS.F ht⟩) hS.2.2 dL_acts_967
                                · have hf := pt hc hf
                                  refine lv_aload_n hx hb dL_acts_954 rfl (lv_at hl 0 rfl) ?_
                                  refine lv_iconst (v := 0) hx hb dL_acts_955 (by decide) ?_
                                  refine rb_longest (x0 := 0) (rest := []) ⟨hx, hb, hml, hown, hts⟩ (cwV 1 hts gL_acts_X7_longest rfl rfl rfl (by decide +kernel) ⟨Nat.le_of_ble_eq_true rfl, Nat.le_of_ble_eq_true rfl⟩) hK hN hP hD hS hA hR hl.1 rfl (Nat.le_of_ble_eq_true rfl) dL_acts_956 ⟨Nat.le_of_ble_eq_true rfl, Nat.le_of_ble_eq_true rfl⟩ (fun V u H locs hR hP hD hS => ?_)
                                  refine lv_if_ne (tgt := 966) hx hb dL_acts_959 (by decide) (fun hc => ?_) (fun hc => ?_)
                                  · have hf := pe hc hf
                                    refine lv_iconst (v := 0) hx hb dL_acts_966 (by decide) ?_
                                    exact W.zret (v := 0) (ty := .boolean) hx hb hr rfl (fun t ht hW => ⟨⟨_, (u, V, a_1), rfl, ⟨hf, hR⟩, by rw [ht]; exact hP, hD⟩, hS.F ht⟩) hS.2.2 dL_acts_967
                                  · have hf := pt hc hf
                                    exact hJ2 hf _ _ _ _ ls hR hP hD hS (lv_sub hl [] rfl)
                      refine lv_if_ne (tgt := 877) hx hb dL_acts_870 (by decide) (fun hc => ?_) (fun hc => ?_)
                      · have hf := pe hc hf
                        refine lv_iload hx hb dL_acts_877 (lv_at hl 3 rfl) ?_
                        refine lv_iconst (v := 1) hx hb dL_acts_879 (by decide) ?_
                        refine lv_icmp_ne (tgt := 888) hx hb dL_acts_880 (by decide) (fun hc => ?_) (fun hc => ?_)
                        · have hf := pe hc hf
                          refine lv_bipush (v := 16) hx hb dL_acts_888 (by decide) ?_
                          exact hJ3 _ hf _ _ _ _ ls hR hP hD hS (lv_sub hl [1, 4, 0] rfl)
                        · have hf := pt hc hf
                          refine lv_bipush (v := 11) hx hb dL_acts_883 (by decide) ?_
                          refine lv_goto (tgt := 890) hx hb dL_acts_885 (by decide) ?_
                          exact hJ3 _ hf _ _ _ _ ls hR hP hD hS (lv_sub hl [1, 4, 0] rfl)
                      · have hf := pt hc hf
                        refine lv_iconst (v := 1) hx hb dL_acts_873 (by decide) ?_
                        refine lv_goto (tgt := 890) hx hb dL_acts_874 (by decide) ?_
                        exact hJ3 _ hf _ _ _ _ ls hR hP hD hS (lv_sub hl [1, 4, 0] rfl)
                    · have hf := pt hc hf
                      refine lv_iload hx hb dL_acts_857 (lv_at hl 0 rfl) ?_
                      refine lv_iconst (v := (-1)) hx hb dL_acts_859 (by decide) ?_
                      refine lv_icmp_ne (tgt := 966) hx hb dL_acts_860 (by decide) (fun hc => ?_) (fun hc => ?_)
                      · have hf := pe hc hf
                        refine lv_iconst (v := 0) hx hb dL_acts_966 (by decide) ?_
                        exact W.zret (v := 0) (ty := .boolean) hx hb hr rfl (fun t ht hW => ⟨⟨_, (u, V, a_1), rfl, ⟨hf, hR⟩, by rw [ht]; exact hP, hD⟩, hS.F ht⟩) hS.2.2 dL_acts_967
                      · have hf := pt hc hf
                        refine lv_goto (tgt := 962) hx hb dL_acts_863 (by decide) ?_
                        exact hJ2 hf _ _ _ _ ls hR hP hD hS (lv_sub hl [] rfl)
                refine lv_if_ne (tgt := 833) hx hb dL_acts_826 (by decide) (fun hc => ?_) (fun hc => ?_)
                · have hf := pe hc hf
                  refine lv_aload_n hx hb dL_acts_833 rfl (lv_at hl 4 rfl) ?_
                  refine lv_iload hx hb dL_acts_834 (lv_at hl 1 rfl) ?_
                  obtain ⟨o836, ho836, hf⟩ := bdE hf
                  refine rb_begin (ho := ho836) (rest := []) ⟨hx, hb, hml, hown, hts⟩ (cwV 1 hts gL_acts_X7_begin rfl rfl rfl (by decide +kernel) ⟨Nat.le_of_ble_eq_true rfl, Nat.le_of_ble_eq_true rfl⟩) hK hN hP hD hS hA hR hl.1 rfl (Nat.le_of_ble_eq_true rfl) dL_acts_836 ⟨Nat.le_of_ble_eq_true rfl, Nat.le_of_ble_eq_true rfl⟩ (fun V u H locs hR hP hD hS => ?_)
                  exact hJ1 _ _ hf _ _ _ _ ls hR hP hD hS (lv_sub hl [4, 6, 1, 0] rfl)
                · have hf := pt hc hf
                  refine lv_iconst (v := 0) hx hb dL_acts_829 (by decide) ?_
                  refine lv_goto (tgt := 839) hx hb dL_acts_830 (by decide) ?_
                  exact hJ1 _ _ hf _ _ _ _ ls hR hP hD hS (lv_sub hl [4, 6, 1, 0] rfl)
              · have hf := pe hc hf
                refine lv_aload_n hx hb dL_acts_798 rfl (lv_at hl 2 rfl) ?_
                refine lv_iload_n hx hb dL_acts_799 rfl (lv_at hl 4 rfl) ?_
                refine rsI (rest := []) (As := [.ref (Q 0 0), .int i2]) ⟨hx, hb, hml, hown, hts⟩ (mL_carries l dC dI cI cZ cC cO Q u V i2 a _ _ hR hf) (va_cwS 2 hts gL_acts_L_carries rfl rfl rfl (by decide +kernel) ⟨Nat.le_of_ble_eq_true rfl, Nat.le_of_ble_eq_true rfl⟩) hK hN hP hD hS hA rfl hl.1 rfl (Nat.le_of_ble_eq_true rfl) dL_acts_800 ⟨Nat.le_of_ble_eq_true rfl, Nat.le_of_ble_eq_true rfl⟩ (fun r800 w9 hk9 H locs hP hD hS => ?_)
                obtain ⟨u, V, a800⟩ := w9
                obtain ⟨hf, hR⟩ := hk9
                have hR : RepA V a800 := hR
                have hP : va_P (dC, dI) vwCl (WB cI cZ cC cO Q u V).flatten H := hP
                have hD : va_D A (WB cI cZ cC cO Q u V).flatten := hD
                obtain ⟨hz, hf⟩ := hf
                exact W.zret (v := r800) (ty := .boolean) hx hb hr (jz_n hz) (fun t ht hW => ⟨⟨_, (u, V, a800), rfl, ⟨hf, hR⟩, by rw [ht]; exact hP, hD⟩, hS.F ht⟩) hS.2.2 dL_acts_803
            · have hf := pe hc hf
              refine lv_iload_n hx hb dL_acts_610 rfl (lv_at hl 4 rfl) ?_
              refine lv_iconst (v := 5) hx hb dL_acts_611 (by decide) ?_
              refine rS (w := []) (W0 := (WB cI cZ cC cO Q u V).flatten) (rest := []) (As := [.int i2, .int 5]) ⟨hx, hb, hml, hown, hts⟩ (mL_low l dC dI cI cZ cC cO i2 5 (by decide)) (va_cwS 2 hts gL_acts_L_low rfl rfl rfl (by decide +kernel) ⟨Nat.le_of_ble_eq_true rfl, Nat.le_of_ble_eq_true rfl⟩) hK hN hP [] rfl rfl hl.1 rfl (Nat.le_of_ble_eq_true rfl) dL_acts_612 ⟨Nat.le_of_ble_eq_true rfl, Nat.le_of_ble_eq_true rfl⟩ ?_
              refine lv_istore (lv' := [(5, .int (lwA28 i2 5)), (4, .int (cotA a 0)), (3, .int (lwA28 i1 24)), (0, .ref (Q 0 0)), (1, .int i1), (2, .int i2)]) hx hb dL_acts_615 hl (by decide) rfl (fun ls hl => ?_)
              refine lv_iload_n hx hb dL_acts_617 rfl (lv_at hl 5 rfl) ?_
              refine lv_iconst (v := 3) hx hb dL_acts_618 (by decide) ?_
              refine lv_ishr hx hb dL_acts_619 ?_
              refine lv_iload_n hx hb dL_acts_620 rfl (lv_at hl 5 rfl) ?_
              refine lv_bipush (v := 12) hx hb dL_acts_621 (by decide) ?_
              refine lv_ishr hx hb dL_acts_623 ?_
              refine lv_iconst (v := 2) hx hb dL_acts_624 (by decide) ?_
              refine rS (w := []) (W0 := (WB cI cZ cC cO Q u V).flatten) (rest := [.int (i2 >>> (3 &&& 31))]) (As := [.int (i2 >>> (12 &&& 31)), .int 2]) ⟨hx, hb, hml, hown, hts⟩ (mL_low l dC dI cI cZ cC cO ((i2 >>> (12 &&& 31))) 2 (by decide)) (va_cwS 2 hts gL_acts_L_low rfl rfl rfl (by decide +kernel) ⟨Nat.le_of_ble_eq_true rfl, Nat.le_of_ble_eq_true rfl⟩) hK hN hP [] rfl rfl hl.1 rfl (Nat.le_of_ble_eq_true rfl) dL_acts_625 ⟨Nat.le_of_ble_eq_true rfl, Nat.le_of_ble_eq_true rfl⟩ ?_
              have hJ4 : ∀ (y0_4 : Int32), jL_acts_4 i2 a K y0_4 → ∀ (V : GV) (u : QH) (H : Heap) (locs : List Loc) (ls : Array Slot), RepA V a → va_P (dC, dI) vwCl (WB cI cZ cC cO Q u V).flatten H → va_D A (WB cI cZ cC cO Q u V).flatten → va_S A s.heap H locs → lv_has ls 10 [(0, .ref (Q 0 0)), (5, .int (lwA28 i2 5))] → W p l e (headSpec wsL_acts rmL_acts).room s m args below meth c H locs 0 0 (MQ below (va_Qi (fun r (w : QH × GV × AS) => K r w.2.2 ∧ RepA w.2.1 w.2.2) (fun w => poW (dC, dI) A (WB cI cZ cC cO Q w.1 w.2.1).flatten) A) args s 0 0 A) (F0 m 639 ls [.int y0_4, .int (i2 >>> (3 &&& 31))]) := by
                intro y0_4 hf V u H locs ls hR hP hD hS hl
                unfold jL_acts_4 at hf
                obtain ⟨hne, hf⟩ := hf
                refine rS (w := []) (W0 := (WB cI cZ cC cO Q u V).flatten) (rest := []) (As := [.int (i2 >>> (3 &&& 31)), .int y0_4]) ⟨hx, hb, hml, hown, hts⟩ (mL_low l dC dI cI cZ cC cO ((i2 >>> (3 &&& 31))) y0_4 hne) (va_cwS 2 hts gL_acts_L_low rfl rfl rfl (by decide +kernel) ⟨Nat.le_of_ble_eq_true rfl, Nat.le_of_ble_eq_true rfl⟩) hK hN hP [] rfl rfl hl.1 rfl (Nat.le_of_ble_eq_true rfl) dL_acts_639 ⟨Nat.le_of_ble_eq_true rfl, Nat.le_of_ble_eq_true rfl⟩ ?_
                refine lv_iconst (v := 1) hx hb dL_acts_642 (by decide) ?_
                refine lv_isub hx hb dL_acts_643 ?_
                refine lv_istore (lv' := [(6, .int ((lwA28 ((i2 >>> (3 &&& 31))) y0_4) - 1)), (0, .ref (Q 0 0)), (5, .int (lwA28 i2 5))]) hx hb dL_acts_644 hl (by decide) rfl (fun ls hl => ?_)
                refine lv_iload hx hb dL_acts_646 (lv_at hl 2 rfl) ?_
                refine lv_iconst (v := 4) hx hb dL_acts_648 (by decide) ?_
                have hJ5 : ∀ (y0_5 : Int32), jL_acts_5 i2 a K y0_4 y0_5 → ∀ (V : GV) (u : QH) (H : Heap) (locs : List Loc) (ls : Array Slot), RepA V a → va_P (dC, dI) vwCl (WB cI cZ cC cO Q u V).flatten H → va_D A (WB cI cZ cC cO Q u V).flatten → va_S A s.heap H locs → lv_has ls 10 [(0, .ref (Q 0 0)), (5, .int (lwA28 i2 5)), (6, .int ((lwA28 ((i2 >>> (3 &&& 31))) y0_4) - 1))] → W p l e (headSpec wsL_acts rmL_acts).room s m args below meth c H locs 0 0 (MQ below (va_Qi (fun r (w : QH × GV × AS) => K r w.2.2 ∧ RepA w.2.1 w.2.2) (fun w => poW (dC, dI) A (WB cI cZ cC cO Q w.1 w.2.1).flatten) A) args s 0 0 A) (F0 m 711 ls [.int y0_5]) := by
                  intro y0_5 hf V u H locs ls hR hP hD hS hl
                  unfold jL_acts_5 at hf
                  refine lv_istore (lv' := [(7, .int y0_5), (0, .ref (Q 0 0)), (5, .int (lwA28 i2 5)), (6, .int ((lwA28 ((i2 >>> (3 &&& 31))) y0_4) - 1))]) hx hb dL_acts_711 hl (by decide) rfl (fun ls hl => ?_)
                  refine lv_iload hx hb dL_acts_713 (lv_at hl 2 rfl) ?_
                  refine lv_iconst (v := 4) hx hb dL_acts_715 (by decide) ?_
                  have hJ6 : ∀ (y0_6 : Int32), jL_acts_6 i2 a K y0_4 y0_5 y0_6 → ∀ (V : GV) (u : QH) (H : Heap) (locs : List Loc) (ls : Array Slot), RepA V a → va_P (dC, dI) vwCl (WB cI cZ cC cO Q u V).flatten H → va_D A (WB cI cZ cC cO Q u V).flatten → va_S A s.heap H locs → lv_has ls 10 [(0, .ref (Q 0 0)), (5, .int (lwA28 i2 5)), (6, .int ((lwA28 ((i2 >>> (3 &&& 31))) y0_4) - 1)), (7, .int y0_5)] → W p l e (headSpec wsL_acts rmL_acts).room s m args below meth c H locs 0 0 (MQ below (va_Qi (fun r (w : QH × GV × AS) => K r w.2.2 ∧ RepA w.2.1 w.2.2) (fun w => poW (dC, dI) A (WB cI cZ cC cO Q w.1 w.2.1).flatten) A) args s 0 0 A) (F0 m 732 ls [.int y0_6]) := by
                    intro y0_6 hf V u H locs ls hR hP hD hS hl
                    unfold jL_acts_6 at hf
                    refine lv_istore (lv' := [(8, .int y0_6), (0, .ref (Q 0 0)), (5, .int (lwA28 i2 5)), (6, .int ((lwA28 ((i2 >>> (3 &&& 31))) y0_4) - 1)), (7, .int y0_5)]) hx hb dL_acts_732 hl (by decide) rfl (fun ls hl => ?_)
                    refine lv_aload_n hx hb dL_acts_734 rfl (lv_at hl 1 rfl) ?_
                    refine lv_iload hx hb dL_acts_735 (lv_at hl 2 rfl) ?_
                    refine lv_iload hx hb dL_acts_737 (lv_at hl 3 rfl) ?_
                    obtain ⟨o739, ho739, hf⟩ := bdE hf
                    refine rb_set (ho := ho739) (rest := []) ⟨hx, hb, hml, hown, hts⟩ (cwV 2 hts gL_acts_X7_set rfl rfl rfl (by decide +kernel) ⟨Nat.le_of_ble_eq_true rfl, Nat.le_of_ble_eq_true rfl⟩) hK hN hP hD hS hA hR hl.1 rfl (Nat.le_of_ble_eq_true rfl) dL_acts_739 ⟨Nat.le_of_ble_eq_true rfl, Nat.le_of_ble_eq_true rfl⟩ (fun V u H locs hR hP hD hS => ?_)
                    refine lv_iload hx hb dL_acts_742 (lv_at hl 4 rfl) ?_
                    have hJ7 : ∀ (y0_7 : Int32), jL_acts_7 i2 K y0_4 y0_5 y0_6 o739 y0_7 → ∀ (V : GV) (u : QH) (H : Heap) (locs : List Loc) (ls : Array Slot), RepA V o739.2 → va_P (dC, dI) vwCl (WB cI cZ cC cO Q u V).flatten H → va_D A (WB cI cZ cC cO Q u V).flatten → va_S A s.heap H locs → lv_has ls 10 [(0, .ref (Q 0 0)), (5, .int (lwA28 i2 5)), (6, .int ((lwA28 ((i2 >>> (3 &&& 31))) y0_4) - 1)), (7, .int y0_5), (8, .int y0_6)] → W p l e (headSpec wsL_acts rmL_acts).room s m args below meth c H locs 0 0 (MQ below (va_Qi (fun r (w : QH × GV × AS) => K r w.2.2 ∧ RepA w.2.1 w.2.2) (fun w => poW (dC, dI) A (WB cI cZ cC cO Q w.1 w.2.1).flatten) A) args s 0 0 A) (F0 m 753 ls [.int y0_7, .int o739.1]) := by
                      intro y0_7 hf V u H locs ls hR hP hD hS hl
                      unfold jL_acts_7 at hf
                      refine lv_icmp_ne (tgt := 790) hx hb dL_acts_753 (by decide) (fun hc => ?_) (fun hc => ?_)
                      · have hf := pe hc hf
                        refine lv_iconst (v := 0) hx hb dL_acts_790 (by decide) ?_
                        exact W.zret (v := 0) (ty := .boolean) hx hb hr rfl (fun t ht hW => ⟨⟨_, (u, V, o739.2), rfl, ⟨hf, hR⟩, by rw [ht]; exact hP, hD⟩, hS.F ht⟩) hS.2.2 dL_acts_791
                      · have hf := pt hc hf
                        refine lv_iload hx hb dL_acts_756 (lv_at hl 1 rfl) ?_
                        refine lv_iconst (v := 4) hx hb dL_acts_758 (by decide) ?_
                        have hJ8 : jL_acts_8 K o739 → ∀ (V : GV) (u : QH) (H : Heap) (locs : List Loc) (ls : Array Slot), RepA V o739.2 → va_P (dC, dI) vwCl (WB cI cZ cC cO Q u V).flatten H → va_D A (WB cI cZ cC cO Q u V).flatten → va_S A s.heap H locs → lv_has ls 10 [] → W p l e (headSpec wsL_acts rmL_acts).room s m args below meth c H locs 0 0 (MQ below (va_Qi (fun r (w : QH × GV × AS) => K r w.2.2 ∧ RepA w.2.1 w.2.2) (fun w => poW (dC, dI) A (WB cI cZ cC cO Q w.1 w.2.1).flatten) A) args s 0 0 A) (F0 m 786 ls []) := by
                          intro hf V u H locs ls hR hP hD hS hl
                          unfold jL_acts_8 at hf
                          refine lv_iconst (v := 1) hx hb dL_acts_786 (by decide) ?_
                          refine lv_goto (tgt := 791) hx hb dL_acts_787 (by decide) ?_
                          exact W.zret (v := 1) (ty := .boolean) hx hb hr rfl (fun t ht hW => ⟨⟨_, (u, V, o739.2), rfl, ⟨hf, hR⟩, by rw [ht]; exact hP, hD⟩, hS.F ht⟩) hS.2.2 dL_acts_791
                        refine lv_icmp_eq (tgt := 786) hx hb dL_acts_759 (by decide) (fun hc => ?_) (fun hc => ?_)
                        · have hf := pt hc hf
                          exact hJ8 hf _ _ _ _ ls hR hP hD hS (lv_sub hl [] rfl)
                        · have hf := pe hc hf
                          refine lv_aload_n hx hb dL_acts_762 rfl (lv_at hl 0 rfl) ?_
                          refine lv_bipush (v := 13) hx hb dL_acts_763 (by decide) ?_
                          refine lv_iload hx hb dL_acts_765 (lv_at hl 1 rfl) ?_
                          refine lv_iadd hx hb dL_acts_767 ?_
                          refine rb_count (x0 := ((13 + (lwA28 i2 5)))) (rest := []) ⟨hx, hb, hml, hown, hts⟩ (cwV 1 hts gL_acts_X7_count rfl rfl rfl (by decide +kernel) ⟨Nat.le_of_ble_eq_true rfl, Nat.le_of_ble_eq_true rfl⟩) hK hN hP hD hS hA hR hl.1 rfl (Nat.le_of_ble_eq_true rfl) dL_acts_768 ⟨Nat.le_of_ble_eq_true rfl, Nat.le_of_ble_eq_true rfl⟩ (fun V u H locs hR hP hD hS => ?_)
                          refine lv_iload hx hb dL_acts_771 (lv_at hl 3 rfl) ?_
                          have hJ9 : ∀ (y0_9 : Int32), jL_acts_9 i2 K o739 y0_9 → ∀ (V : GV) (u : QH) (H : Heap) (locs : List Loc) (ls : Array Slot), RepA V o739.2 → va_P (dC, dI) vwCl (WB cI cZ cC cO Q u V).flatten H → va_D A (WB cI cZ cC cO Q u V).flatten → va_S A s.heap H locs → lv_has ls 10 [] → W p l e (headSpec wsL_acts rmL_acts).room s m args below meth c H locs 0 0 (MQ below (va_Qi (fun r (w : QH × GV × AS) => K r w.2.2 ∧ RepA w.2.1 w.2.2) (fun w => poW (dC, dI) A (WB cI cZ cC cO Q w.1 w.2.1).flatten) A) args s 0 0 A) (F0 m 783 ls [.int y0_9, .int (cotA o739.2 ((13 + (lwA28 i2 5))))]) := by
                            intro y0_9 hf V u H locs ls hR hP hD hS hl
                            unfold jL_acts_9 at hf
                            refine lv_icmp_ne (tgt := 790) hx hb dL_acts_783 (by decide) (fun hc => ?_) (fun hc => ?_)
                            · have hf := pe hc hf
                              refine lv_iconst (v := 0) hx hb dL_acts_790 (by decide) ?_
                              exact W.zret (v := 0) (ty := .boolean) hx hb hr rfl (fun t ht hW => ⟨⟨_, (u, V, o739.2), rfl, ⟨hf, hR⟩, by rw [ht]; exact hP, hD⟩, hS.F ht⟩) hS.2.2 dL_acts_791
                            · have hf := pt hc hf
                              exact hJ8 hf _ _ _ _ ls hR hP hD hS (lv_sub hl [] rfl)
                          refine lv_if_eq (tgt := 781) hx hb dL_acts_773 (by decide) (fun hc => ?_) (fun hc => ?_)
                          · have hf := pt hc hf
                            refine lv_iload hx hb dL_acts_781 (lv_at hl 2 rfl) ?_
                            exact hJ9 _ hf _ _ _ _ ls hR hP hD hS (lv_sub hl [] rfl)
                          · have hf := pe hc hf
                            refine lv_iload hx hb dL_acts_776 (lv_at hl 4 rfl) ?_
                            refine lv_goto (tgt := 783) hx hb dL_acts_778 (by decide) ?_
                            exact hJ9 _ hf _ _ _ _ ls hR hP hD hS (lv_sub hl [] rfl)
                    refine lv_if_eq (tgt := 751) hx hb dL_acts_744 (by decide) (fun hc => ?_) (fun hc => ?_)
                    · have hf := pt hc hf
                      refine lv_iload hx hb dL_acts_751 (lv_at hl 0 rfl) ?_
                      exact hJ7 _ hf _ _ _ _ ls hR hP hD hS (lv_sub hl [1, 2, 3, 4, 0] rfl)
                    · have hf := pe hc hf
                      refine lv_iconst (v := (-1)) hx hb dL_acts_747 (by decide) ?_
                      refine lv_goto (tgt := 753) hx hb dL_acts_748 (by decide) ?_
                      exact hJ7 _ hf _ _ _ _ ls hR hP hD hS (lv_sub hl [1, 2, 3, 4, 0] rfl)
                  refine lv_icmp_ne (tgt := 723) hx hb dL_acts_716 (by decide) (fun hc => ?_) (fun hc => ?_)
                  · have hf := pe hc hf
                    refine lv_aload_n hx hb dL_acts_723 rfl (lv_at hl 1 rfl) ?_
                    refine lv_bipush (v := 13) hx hb dL_acts_724 (by decide) ?_
                    refine lv_iload hx hb dL_acts_726 (lv_at hl 2 rfl) ?_
                    refine lv_iadd hx hb dL_acts_728 ?_
                    refine rb_count (x0 := ((13 + (lwA28 i2 5)))) (rest := []) ⟨hx, hb, hml, hown, hts⟩ (cwV 1 hts gL_acts_X7_count rfl rfl rfl (by decide +kernel) ⟨Nat.le_of_ble_eq_true rfl, Nat.le_of_ble_eq_true rfl⟩) hK hN hP hD hS hA hR hl.1 rfl (Nat.le_of_ble_eq_true rfl) dL_acts_729 ⟨Nat.le_of_ble_eq_true rfl, Nat.le_of_ble_eq_true rfl⟩ (fun V u H locs hR hP hD hS => ?_)
                    exact hJ6 _ hf _ _ _ _ ls hR hP hD hS (lv_sub hl [1, 2, 3, 0] rfl)
                  · have hf := pt hc hf
                    refine lv_iconst (v := 0) hx hb dL_acts_719 (by decide) ?_
                    refine lv_goto (tgt := 732) hx hb dL_acts_720 (by decide) ?_
                    exact hJ6 _ hf _ _ _ _ ls hR hP hD hS (lv_sub hl [1, 2, 3, 0] rfl)
                have hJ10 : jL_acts_10 i2 a K y0_4 → ∀ (V : GV) (u : QH) (H : Heap) (locs : List Loc) (ls : Array Slot), RepA V a → va_P (dC, dI) vwCl (WB cI cZ cC cO Q u V).flatten H → va_D A (WB cI cZ cC cO Q u V).flatten → va_S A s.heap H locs → lv_has ls 10 [(0, .ref (Q 0 0)), (5, .int (lwA28 i2 5)), (6, .int ((lwA28 ((i2 >>> (3 &&& 31))) y0_4) - 1))] → W p l e (headSpec wsL_acts rmL_acts).room s m args below meth c H locs 0 0 (MQ below (va_Qi (fun r (w : QH × GV × AS) => K r w.2.2 ∧ RepA w.2.1 w.2.2) (fun w => poW (dC, dI) A (WB cI cZ cC cO Q w.1 w.2.1).flatten) A) args s 0 0 A) (F0 m 706 ls []) := by
                  intro hf V u H locs ls hR hP hD hS hl
                  unfold jL_acts_10 at hf
                  refine lv_iconst (v := 1) hx hb dL_acts_706 (by decide) ?_
                  refine lv_goto (tgt := 711) hx hb dL_acts_707 (by decide) ?_
                  exact hJ5 _ hf _ _ _ _ ls hR hP hD hS (lv_sub hl [0, 1, 2] rfl)
                refine lv_icmp_eq (tgt := 706) hx hb dL_acts_649 (by decide) (fun hc => ?_) (fun hc => ?_)
                · have hf := pt hc hf
                  exact hJ10 hf _ _ _ _ ls hR hP hD hS (lv_sub hl [1, 2, 0] rfl)
                · have hf := pe hc hf
                  refine lv_iload hx hb dL_acts_652 (lv_at hl 0 rfl) ?_
                  refine lv_iload hx hb dL_acts_654 (lv_at hl 2 rfl) ?_
                  have hJ11 : ∀ (y0_11 : Int32), jL_acts_11 i2 a K y0_4 y0_11 → ∀ (V : GV) (u : QH) (H : Heap) (locs : List Loc) (ls : Array Slot), RepA V a → va_P (dC, dI) vwCl (WB cI cZ cC cO Q u V).flatten H → va_D A (WB cI cZ cC cO Q u V).flatten → va_S A s.heap H locs → lv_has ls 10 [(0, .ref (Q 0 0)), (5, .int (lwA28 i2 5)), (6, .int ((lwA28 ((i2 >>> (3 &&& 31))) y0_4) - 1))] → W p l e (headSpec wsL_acts rmL_acts).room s m args below meth c H locs 0 0 (MQ below (va_Qi (fun r (w : QH × GV × AS) => K r w.2.2 ∧ RepA w.2.1 w.2.2) (fun w => poW (dC, dI) A (WB cI cZ cC cO Q w.1 w.2.1).flatten) A) args s 0 0 A) (F0 m 675 ls [.int y0_11, .int ((lwA28 ((i2 >>> (3 &&& 31))) y0_4) - 1)]) := by
                    intro y0_11 hf V u H locs ls hR hP hD hS hl
                    unfold jL_acts_11 at hf
                    refine lv_icmp_lt (tgt := 706) hx hb dL_acts_675 (by decide) (fun hc => ?_) (fun hc => ?_)
                    · have hf := pt hc hf
                      exact hJ10 hf _ _ _ _ ls hR hP hD hS (lv_sub hl [0, 1, 2] rfl)
                    · have hf := pe hc hf
                      refine lv_iload hx hb dL_acts_678 (lv_at hl 2 rfl) ?_
                      refine lv_iload hx hb dL_acts_680 (lv_at hl 1 rfl) ?_
                      refine lv_iconst (v := 1) hx hb dL_acts_682 (by decide) ?_
                      have hJ12 : ∀ (y0_12 : Int32), jL_acts_12 i2 a K y0_4 y0_12 → ∀ (V : GV) (u : QH) (H : Heap) (locs : List Loc) (ls : Array Slot), RepA V a → va_P (dC, dI) vwCl (WB cI cZ cC cO Q u V).flatten H → va_D A (WB cI cZ cC cO Q u V).flatten → va_S A s.heap H locs → lv_has ls 10 [(0, .ref (Q 0 0)), (5, .int (lwA28 i2 5)), (6, .int ((lwA28 ((i2 >>> (3 &&& 31))) y0_4) - 1))] → W p l e (headSpec wsL_acts rmL_acts).room s m args below meth c H locs 0 0 (MQ below (va_Qi (fun r (w : QH × GV × AS) => K r w.2.2 ∧ RepA w.2.1 w.2.2) (fun w => poW (dC, dI) A (WB cI cZ cC cO Q w.1 w.2.1).flatten) A) args s 0 0 A) (F0 m 703 ls [.int y0_12, .int ((lwA28 ((i2 >>> (3 &&& 31))) y0_4) - 1)]) := by
                        intro y0_12 hf V u H locs ls hR hP hD hS hl
                        unfold jL_acts_12 at hf
                        refine lv_icmp_le (tgt := 710) hx hb dL_acts_703 (by decide) (fun hc => ?_) (fun hc => ?_)
                        · have hf := pt hc hf
                          refine lv_iconst (v := 0) hx hb dL_acts_710 (by decide) ?_
                          exact hJ5 _ hf _ _ _ _ ls hR hP hD hS (lv_sub hl [0, 1, 2] rfl)
                        · have hf := pe hc hf
                          exact hJ10 hf _ _ _ _ ls hR hP hD hS (lv_sub hl [0, 1, 2] rfl)
                      refine lv_icmp_ne (tgt := 692) hx hb dL_acts_683 (by decide) (fun hc => ?_) (fun hc => ?_)
                      · have hf := pe hc hf
                        refine lv_iload hx hb dL_acts_692 (lv_at hl 1 rfl) ?_
                        refine lv_iconst (v := 3) hx hb dL_acts_694 (by decide) ?_
                        refine lv_icmp_ne (tgt := 702) hx hb dL_acts_695 (by decide) (fun hc => ?_) (fun hc => ?_)
                        · have hf := pe hc hf
                          refine lv_iconst (v := 4) hx hb dL_acts_702 (by decide) ?_
                          exact hJ12 _ hf _ _ _ _ ls hR hP hD hS (lv_sub hl [0, 1, 2] rfl)
                        · have hf := pt hc hf
                          refine lv_iconst (v := 3) hx hb dL_acts_698 (by decide) ?_
                          refine lv_goto (tgt := 703) hx hb dL_acts_699 (by decide) ?_
                          exact hJ12 _ hf _ _ _ _ ls hR hP hD hS (lv_sub hl [0, 1, 2] rfl)
                      · have hf := pt hc hf
                        refine lv_sipush (v := 200) hx hb dL_acts_686 (by decide) ?_
                        refine lv_goto (tgt := 703) hx hb dL_acts_689 (by decide) ?_
                        exact hJ12 _ hf _ _ _ _ ls hR hP hD hS (lv_sub hl [0, 1, 2] rfl)
                  refine lv_if_ne (tgt := 663) hx hb dL_acts_656 (by decide) (fun hc => ?_) (fun hc => ?_)
                  · have hf := pe hc hf
                    refine lv_iload hx hb dL_acts_663 (lv_at hl 2 rfl) ?_
                    refine lv_iconst (v := 1) hx hb dL_acts_665 (by decide) ?_
                    refine lv_icmp_ne (tgt := 674) hx hb dL_acts_666 (by decide) (fun hc => ?_) (fun hc => ?_)
                    · have hf := pe hc hf
                      refine lv_iconst (v := 0) hx hb dL_acts_674 (by decide) ?_
                      exact hJ11 _ hf _ _ _ _ ls hR hP hD hS (lv_sub hl [1, 2, 0] rfl)
                    · have hf := pt hc hf
                      refine lv_bipush (v := 10) hx hb dL_acts_669 (by decide) ?_
                      refine lv_goto (tgt := 675) hx hb dL_acts_671 (by decide) ?_
                      exact hJ11 _ hf _ _ _ _ ls hR hP hD hS (lv_sub hl [1, 2, 0] rfl)
                  · have hf := pt hc hf
                    refine lv_iconst (v := 1) hx hb dL_acts_659 (by decide) ?_
                    refine lv_goto (tgt := 675) hx hb dL_acts_660 (by decide) ?_
                    exact hJ11 _ hf _ _ _ _ ls hR hP hD hS (lv_sub hl [1, 2, 0] rfl)
              refine lv_if_ne (tgt := 637) hx hb dL_acts_628 (by decide) (fun hc => ?_) (fun hc => ?_)
              · have hf := pe hc hf
                refine lv_bipush (v := 6) hx hb dL_acts_637 (by decide) ?_
                exact hJ4 _ hf _ _ _ _ ls hR hP hD hS (lv_sub hl [3, 0] rfl)
              · have hf := pt hc hf
                refine lv_sipush (v := 203) hx hb dL_acts_631 (by decide) ?_
                refine lv_goto (tgt := 639) hx hb dL_acts_634 (by decide) ?_
                exact hJ4 _ hf _ _ _ _ ls hR hP hD hS (lv_sub hl [3, 0] rfl)
          · have hf := pe hc hf
            refine lv_iload_n hx hb dL_acts_518 rfl (lv_at hl 4 rfl) ?_
            refine lv_sipush (v := 10002) hx hb dL_acts_519 (by decide) ?_
            refine rS (w := []) (W0 := (WB cI cZ cC cO Q u V).flatten) (rest := []) (As := [.int i2, .int 10002]) ⟨hx, hb, hml, hown, hts⟩ (mL_low l dC dI cI cZ cC cO i2 10002 (by decide)) (va_cwS 2 hts gL_acts_L_low rfl rfl rfl (by decide +kernel) ⟨Nat.le_of_ble_eq_true rfl, Nat.le_of_ble_eq_true rfl⟩) hK hN hP [] rfl rfl hl.1 rfl (Nat.le_of_ble_eq_true rfl) dL_acts_522 ⟨Nat.le_of_ble_eq_true rfl, Nat.le_of_ble_eq_true rfl⟩ ?_
            refine lv_iconst (v := 1) hx hb dL_acts_525 (by decide) ?_
            refine lv_isub hx hb dL_acts_526 ?_
            refine lv_istore (lv' := [(5, .int ((lwA28 i2 10002) - 1)), (4, .int (cotA a 0)), (3, .int (lwA28 i1 24)), (0, .ref (Q 0 0)), (1, .int i1), (2, .int i2)]) hx hb dL_acts_527 hl (by decide) rfl (fun ls hl => ?_)
            refine lv_iload hx hb dL_acts_529 (lv_at hl 0 rfl) ?_
            have hJ13 : ∀ (y0_13 : Int32), jL_acts_13 i2 a K y0_13 → ∀ (V : GV) (u : QH) (H : Heap) (locs : List Loc) (ls : Array Slot), RepA V a → va_P (dC, dI) vwCl (WB cI cZ cC cO Q u V).flatten H → va_D A (WB cI cZ cC cO Q u V).flatten → va_S A s.heap H locs → lv_has ls 10 [(0, .ref (Q 0 0)), (5, .int ((lwA28 i2 10002) - 1))] → W p l e (headSpec wsL_acts rmL_acts).room s m args below meth c H locs 0 0 (MQ below (va_Qi (fun r (w : QH × GV × AS) => K r w.2.2 ∧ RepA w.2.1 w.2.2) (fun w => poW (dC, dI) A (WB cI cZ cC cO Q w.1 w.2.1).flatten) A) args s 0 0 A) (F0 m 547 ls [.int y0_13]) := by
              intro y0_13 hf V u H locs ls hR hP hD hS hl
              unfold jL_acts_13 at hf
              refine lv_istore (lv' := [(6, .int y0_13), (0, .ref (Q 0 0)), (5, .int ((lwA28 i2 10002) - 1))]) hx hb dL_acts_547 hl (by decide) rfl (fun ls hl => ?_)
              refine lv_aload_n hx hb dL_acts_549 rfl (lv_at hl 1 rfl) ?_
              refine lv_bipush (v := 17) hx hb dL_acts_550 (by decide) ?_
              refine rb_count (x0 := 17) (rest := []) ⟨hx, hb, hml, hown, hts⟩ (cwV 1 hts gL_acts_X7_count rfl rfl rfl (by decide +kernel) ⟨Nat.le_of_ble_eq_true rfl, Nat.le_of_ble_eq_true rfl⟩) hK hN hP hD hS hA hR hl.1 rfl (Nat.le_of_ble_eq_true rfl) dL_acts_552 ⟨Nat.le_of_ble_eq_true rfl, Nat.le_of_ble_eq_true rfl⟩ (fun V u H locs hR hP hD hS => ?_)
              refine lv_istore (lv' := [(7, .int (cotA a 17)), (6, .int y0_13), (0, .ref (Q 0 0)), (5, .int ((lwA28 i2 10002) - 1))]) hx hb dL_acts_555 hl (by decide) rfl (fun ls hl => ?_)
              refine lv_aload_n hx hb dL_acts_557 rfl (lv_at hl 2 rfl) ?_
              refine lv_iload hx hb dL_acts_558 (lv_at hl 3 rfl) ?_
              obtain ⟨o560, ho560, hf⟩ := bdE hf
              refine rb_lot (ho := ho560) (rest := []) ⟨hx, hb, hml, hown, hts⟩ (cwV 1 hts gL_acts_X7_lot rfl rfl rfl (by decide +kernel) ⟨Nat.le_of_ble_eq_true rfl, Nat.le_of_ble_eq_true rfl⟩) hK hN hP hD hS hA hR hl.1 rfl (Nat.le_of_ble_eq_true rfl) dL_acts_560 ⟨Nat.le_of_ble_eq_true rfl, Nat.le_of_ble_eq_true rfl⟩ (fun V u H locs hR hP hD hS => ?_)
              refine lv_iload hx hb dL_acts_563 (lv_at hl 1 rfl) ?_
              have hJ14 : ∀ (y0_14 : Int32), jL_acts_14 i2 a K y0_13 o560 y0_14 → ∀ (V : GV) (u : QH) (H : Heap) (locs : List Loc) (ls : Array Slot), RepA V o560.2 → va_P (dC, dI) vwCl (WB cI cZ cC cO Q u V).flatten H → va_D A (WB cI cZ cC cO Q u V).flatten → va_S A s.heap H locs → lv_has ls 10 [(0, .ref (Q 0 0)), (5, .int ((lwA28 i2 10002) - 1)), (6, .int y0_13), (7, .int (cotA a 17))] → W p l e (headSpec wsL_acts rmL_acts).room s m args below meth c H locs 0 0 (MQ below (va_Qi (fun r (w : QH × GV × AS) => K r w.2.2 ∧ RepA w.2.1 w.2.2) (fun w => poW (dC, dI) A (WB cI cZ cC cO Q w.1 w.2.1).flatten) A) args s 0 0 A) (F0 m 574 ls [.int y0_14, .int o560.1]) := by
                intro y0_14 hf V u H locs ls hR hP hD hS hl
                unfold jL_acts_14 at hf
                refine lv_icmp_ne (tgt := 602) hx hb dL_acts_574 (by decide) (fun hc => ?_) (fun hc => ?_)
                · have hf := pe hc hf
                  refine lv_iconst (v := 0) hx hb dL_acts_602 (by decide) ?_
                  exact W.zret (v := 0) (ty := .boolean) hx hb hr rfl (fun t ht hW => ⟨⟨_, (u, V, o560.2), rfl, ⟨hf, hR⟩, by rw [ht]; exact hP, hD⟩, hS.F ht⟩) hS.2.2 dL_acts_603
                · have hf := pt hc hf
                  refine lv_aload_n hx hb dL_acts_577 rfl (lv_at hl 0 rfl) ?_
                  refine lv_bipush (v := 17) hx hb dL_acts_578 (by decide) ?_
                  refine rb_count (x0 := 17) (rest := []) ⟨hx, hb, hml, hown, hts⟩ (cwV 1 hts gL_acts_X7_count rfl rfl rfl (by decide +kernel) ⟨Nat.le_of_ble_eq_true rfl, Nat.le_of_ble_eq_true rfl⟩) hK hN hP hD hS hA hR hl.1 rfl (Nat.le_of_ble_eq_true rfl) dL_acts_580 ⟨Nat.le_of_ble_eq_true rfl, Nat.le_of_ble_eq_true rfl⟩ (fun V u H locs hR hP hD hS => ?_)
                  refine lv_iload hx hb dL_acts_583 (lv_at hl 2 rfl) ?_
                  have hJ15 : ∀ (y0_15 : Int32), jL_acts_15 K o560 y0_15 → ∀ (V : GV) (u : QH) (H : Heap) (locs : List Loc) (ls : Array Slot), RepA V o560.2 → va_P (dC, dI) vwCl (WB cI cZ cC cO Q u V).flatten H → va_D A (WB cI cZ cC cO Q u V).flatten → va_S A s.heap H locs → lv_has ls 10 [] → W p l e (headSpec wsL_acts rmL_acts).room s m args below meth c H locs 0 0 (MQ below (va_Qi (fun r (w : QH × GV × AS) => K r w.2.2 ∧ RepA w.2.1 w.2.2) (fun w => poW (dC, dI) A (WB cI cZ cC cO Q w.1 w.2.1).flatten) A) args s 0 0 A) (F0 m 595 ls [.int y0_15, .int (cotA o560.2 17)]) := by
                    intro y0_15 hf V u H locs ls hR hP hD hS hl
                    unfold jL_acts_15 at hf
                    refine lv_icmp_ne (tgt := 602) hx hb dL_acts_595 (by decide) (fun hc => ?_) (fun hc => ?_)
                    · have hf := pe hc hf
                      refine lv_iconst (v := 0) hx hb dL_acts_602 (by decide) ?_
                      exact W.zret (v := 0) (ty := .boolean) hx hb hr rfl (fun t ht hW => ⟨⟨_, (u, V, o560.2), rfl, ⟨hf, hR⟩, by rw [ht]; exact hP, hD⟩, hS.F ht⟩) hS.2.2 dL_acts_603
                    · have hf := pt hc hf
                      refine lv_iconst (v := 1) hx hb dL_acts_598 (by decide) ?_
                      refine lv_goto (tgt := 603) hx hb dL_acts_599 (by decide) ?_
                      exact W.zret (v := 1) (ty := .boolean) hx hb hr rfl (fun t ht hW => ⟨⟨_, (u, V, o560.2), rfl, ⟨hf, hR⟩, by rw [ht]; exact hP, hD⟩, hS.F ht⟩) hS.2.2 dL_acts_603
                  refine lv_if_eq (tgt := 593) hx hb dL_acts_585 (by decide) (fun hc => ?_) (fun hc => ?_)
                  · have hf := pt hc hf
                    refine lv_iload hx hb dL_acts_593 (lv_at hl 1 rfl) ?_
                    exact hJ15 _ hf _ _ _ _ ls hR hP hD hS (lv_sub hl [] rfl)
                  · have hf := pe hc hf
                    refine lv_iload hx hb dL_acts_588 (lv_at hl 3 rfl) ?_
                    refine lv_goto (tgt := 595) hx hb dL_acts_590 (by decide) ?_
                    exact hJ15 _ hf _ _ _ _ ls hR hP hD hS (lv_sub hl [] rfl)
              refine lv_if_eq (tgt := 572) hx hb dL_acts_565 (by decide) (fun hc => ?_) (fun hc => ?_)
              · have hf := pt hc hf
                refine lv_iload hx hb dL_acts_572 (lv_at hl 0 rfl) ?_
                exact hJ14 _ hf _ _ _ _ ls hR hP hD hS (lv_sub hl [2, 3, 1, 0] rfl)
              · have hf := pe hc hf
                refine lv_iconst (v := (-1)) hx hb dL_acts_568 (by decide) ?_
                refine lv_goto (tgt := 574) hx hb dL_acts_569 (by decide) ?_
                exact hJ14 _ hf _ _ _ _ ls hR hP hD hS (lv_sub hl [2, 3, 1, 0] rfl)
            have hJ16 : jL_acts_16 i2 a K → ∀ (V : GV) (u : QH) (H : Heap) (locs : List Loc) (ls : Array Slot), RepA V a → va_P (dC, dI) vwCl (WB cI cZ cC cO Q u V).flatten H → va_D A (WB cI cZ cC cO Q u V).flatten → va_S A s.heap H locs → lv_has ls 10 [(0, .ref (Q 0 0)), (5, .int ((lwA28 i2 10002) - 1))] → W p l e (headSpec wsL_acts rmL_acts).room s m args below meth c H locs 0 0 (MQ below (va_Qi (fun r (w : QH × GV × AS) => K r w.2.2 ∧ RepA w.2.1 w.2.2) (fun w => poW (dC, dI) A (WB cI cZ cC cO Q w.1 w.2.1).flatten) A) args s 0 0 A) (F0 m 542 ls []) := by
              intro hf V u H locs ls hR hP hD hS hl
              unfold jL_acts_16 at hf
              refine lv_iconst (v := 1) hx hb dL_acts_542 (by decide) ?_
              refine lv_goto (tgt := 547) hx hb dL_acts_543 (by decide) ?_
              exact hJ13 _ hf _ _ _ _ ls hR hP hD hS (lv_sub hl [0, 1] rfl)
            refine lv_if_lt (tgt := 542) hx hb dL_acts_531 (by decide) (fun hc => ?_) (fun hc => ?_)
            · have hf := pt hc hf
              exact hJ16 hf _ _ _ _ ls hR hP hD hS (lv_sub hl [3, 0] rfl)
            · have hf := pe hc hf
              refine lv_iload hx hb dL_acts_534 (lv_at hl 0 rfl) ?_
              refine lv_sipush (v := 10000) hx hb dL_acts_536 (by decide) ?_
              refine lv_icmp_ne (tgt := 546) hx hb dL_acts_539 (by decide) (fun hc => ?_) (fun hc => ?_)
              · have hf := pe hc hf
                refine lv_iconst (v := 0) hx hb dL_acts_546 (by decide) ?_
                exact hJ13 _ hf _ _ _ _ ls hR hP hD hS (lv_sub hl [3, 0] rfl)
              · have hf := pt hc hf
                exact hJ16 hf _ _ _ _ ls hR hP hD hS (lv_sub hl [3, 0] rfl)
        · have hf := pt hc hf
          refine lv_aload_n hx hb dL_acts_439 rfl (lv_at hl 2 rfl) ?_
          refine lv_iconst (v := 1) hx hb dL_acts_440 (by decide) ?_
          refine rb_count (x0 := 1) (rest := []) ⟨hx, hb, hml, hown, hts⟩ (cwV 1 hts gL_acts_X7_count rfl rfl rfl (by decide +kernel) ⟨Nat.le_of_ble_eq_true rfl, Nat.le_of_ble_eq_true rfl⟩) hK hN hP hD hS hA hR hl.1 rfl (Nat.le_of_ble_eq_true rfl) dL_acts_441 ⟨Nat.le_of_ble_eq_true rfl, Nat.le_of_ble_eq_true rfl⟩ (fun V u H locs hR hP hD hS => ?_)
          refine lv_istore (lv' := [(5, .int (cotA a 1)), (4, .int (cotA a 0)), (3, .int (lwA28 i1 24)), (0, .ref (Q 0 0)), (1, .int i1), (2, .int i2)]) hx hb dL_acts_444 hl (by decide) rfl (fun ls hl => ?_)
          refine lv_aload_n hx hb dL_acts_446 rfl (lv_at hl 3 rfl) ?_
          refine lv_iconst (v := 2) hx hb dL_acts_447 (by decide) ?_
          refine rb_count (x0 := 2) (rest := []) ⟨hx, hb, hml, hown, hts⟩ (cwV 1 hts gL_acts_X7_count rfl rfl rfl (by decide +kernel) ⟨Nat.le_of_ble_eq_true rfl, Nat.le_of_ble_eq_true rfl⟩) hK hN hP hD hS hA hR hl.1 rfl (Nat.le_of_ble_eq_true rfl) dL_acts_448 ⟨Nat.le_of_ble_eq_true rfl, Nat.le_of_ble_eq_true rfl⟩ (fun V u H locs hR hP hD hS => ?_)
          refine lv_istore (lv' := [(6, .int (cotA a 2)), (5, .int (cotA a 1)), (4, .int (cotA a 0)), (3, .int (lwA28 i1 24)), (0, .ref (Q 0 0)), (1, .int i1), (2, .int i2)]) hx hb dL_acts_451 hl (by decide) rfl (fun ls hl => ?_)
          refine lv_iload_n hx hb dL_acts_453 rfl (lv_at hl 6 rfl) ?_
          refine lv_iconst (v := 3) hx hb dL_acts_454 (by decide) ?_
          refine rS (w := []) (W0 := (WB cI cZ cC cO Q u V).flatten) (rest := []) (As := [.int i2, .int 3]) ⟨hx, hb, hml, hown, hts⟩ (mL_low l dC dI cI cZ cC cO i2 3 (by decide)) (va_cwS 2 hts gL_acts_L_low rfl rfl rfl (by decide +kernel) ⟨Nat.le_of_ble_eq_true rfl, Nat.le_of_ble_eq_true rfl⟩) hK hN hP [] rfl rfl hl.1 rfl (Nat.le_of_ble_eq_true rfl) dL_acts_455 ⟨Nat.le_of_ble_eq_true rfl, Nat.le_of_ble_eq_true rfl⟩ ?_
          have hJ17 : ∀ (y0_17 : Int32) (a_17 : AS), jL_acts_17 a K y0_17 a_17 → ∀ (V : GV) (u : QH) (H : Heap) (locs : List Loc) (ls : Array Slot), RepA V a_17 → va_P (dC, dI) vwCl (WB cI cZ cC cO Q u V).flatten H → va_D A (WB cI cZ cC cO Q u V).flatten → va_S A s.heap H locs → lv_has ls 10 [(0, .ref (Q 0 0)), (4, .int (cotA a 0)), (5, .int (cotA a 1)), (6, .int (cotA a 2))] → W p l e (headSpec wsL_acts rmL_acts).room s m args below meth c H locs 0 0 (MQ below (va_Qi (fun r (w : QH × GV × AS) => K r w.2.2 ∧ RepA w.2.1 w.2.2) (fun w => poW (dC, dI) A (WB cI cZ cC cO Q w.1 w.2.1).flatten) A) args s 0 0 A) (F0 m 469 ls [.int y0_17]) := by
            intro y0_17 a_17 hf V u H locs ls hR hP hD hS hl
            unfold jL_acts_17 at hf
            refine lv_istore (lv' := [(7, .int y0_17), (0, .ref (Q 0 0)), (4, .int (cotA a 0)), (5, .int (cotA a 1)), (6, .int (cotA a 2))]) hx hb dL_acts_469 hl (by decide) rfl (fun ls hl => ?_)
            refine lv_iload hx hb dL_acts_471 (lv_at hl 0 rfl) ?_
            refine lv_if_lt (tgt := 510) hx hb dL_acts_473 (by decide) (fun hc => ?_) (fun hc => ?_)
            · have hf := pt hc hf
              refine lv_iconst (v := 0) hx hb dL_acts_510 (by decide) ?_
              exact W.zret (v := 0) (ty := .boolean) hx hb hr rfl (fun t ht hW => ⟨⟨_, (u, V, a_17), rfl, ⟨hf, hR⟩, by rw [ht]; exact hP, hD⟩, hS.F ht⟩) hS.2.2 dL_acts_511
            · have hf := pe hc hf
              refine lv_iload hx hb dL_acts_476 (lv_at hl 0 rfl) ?_
              refine lv_iload hx hb dL_acts_478 (lv_at hl 4 rfl) ?_
              refine lv_icmp_gt (tgt := 510) hx hb dL_acts_480 (by decide) (fun hc => ?_) (fun hc => ?_)
              · have hf := pt hc hf
                refine lv_iconst (v := 0) hx hb dL_acts_510 (by decide) ?_
                exact W.zret (v := 0) (ty := .boolean) hx hb hr rfl (fun t ht hW => ⟨⟨_, (u, V, a_17), rfl, ⟨hf, hR⟩, by rw [ht]; exact hP, hD⟩, hS.F ht⟩) hS.2.2 dL_acts_511
              · have hf := pe hc hf
                refine lv_aload_n hx hb dL_acts_483 rfl (lv_at hl 1 rfl) ?_
                refine lv_iconst (v := 0) hx hb dL_acts_484 (by decide) ?_
                refine rb_count (x0 := 0) (rest := []) ⟨hx, hb, hml, hown, hts⟩ (cwV 1 hts gL_acts_X7_count rfl rfl rfl (by decide +kernel) ⟨Nat.le_of_ble_eq_true rfl, Nat.le_of_ble_eq_true rfl⟩) hK hN hP hD hS hA hR hl.1 rfl (Nat.le_of_ble_eq_true rfl) dL_acts_485 ⟨Nat.le_of_ble_eq_true rfl, Nat.le_of_ble_eq_true rfl⟩ (fun V u H locs hR hP hD hS => ?_)
                refine lv_iload hx hb dL_acts_488 (lv_at hl 2 rfl) ?_
                refine lv_iload hx hb dL_acts_490 (lv_at hl 0 rfl) ?_
                refine lv_isub hx hb dL_acts_492 ?_
                refine lv_icmp_ne (tgt := 510) hx hb dL_acts_493 (by decide) (fun hc => ?_) (fun hc => ?_)
                · have hf := pe hc hf
                  refine lv_iconst (v := 0) hx hb dL_acts_510 (by decide) ?_
                  exact W.zret (v := 0) (ty := .boolean) hx hb hr rfl (fun t ht hW => ⟨⟨_, (u, V, a_17), rfl, ⟨hf, hR⟩, by rw [ht]; exact hP, hD⟩, hS.F ht⟩) hS.2.2 dL_acts_511
                · have hf := pt hc hf
                  refine lv_aload_n hx hb dL_acts_496 rfl (lv_at hl 1 rfl) ?_
                  refine lv_iconst (v := 1) hx hb dL_acts_497 (by decide) ?_
                  refine rb_count (x0 := 1) (rest := []) ⟨hx, hb, hml, hown, hts⟩ (cwV 1 hts gL_acts_X7_count rfl rfl rfl (by decide +kernel) ⟨Nat.le_of_ble_eq_true rfl, Nat.le_of_ble_eq_true rfl⟩) hK hN hP hD hS hA hR hl.1 rfl (Nat.le_of_ble_eq_true rfl) dL_acts_498 ⟨Nat.le_of_ble_eq_true rfl, Nat.le_of_ble_eq_true rfl⟩ (fun V u H locs hR hP hD hS => ?_)
                  refine lv_iload hx hb dL_acts_501 (lv_at hl 3 rfl) ?_
                  refine lv_icmp_ne (tgt := 510) hx hb dL_acts_503 (by decide) (fun hc => ?_) (fun hc => ?_)
                  · have hf := pe hc hf
                    refine lv_iconst (v := 0) hx hb dL_acts_510 (by decide) ?_
                    exact W.zret (v := 0) (ty := .boolean) hx hb hr rfl (fun t ht hW => ⟨⟨_, (u, V, a_17), rfl, ⟨hf, hR⟩, by rw [ht]; exact hP, hD⟩, hS.F ht⟩) hS.2.2 dL_acts_511
                  · have hf := pt hc hf
                    refine lv_iconst (v := 1) hx hb dL_acts_506 (by decide) ?_
                    refine lv_goto (tgt := 511) hx hb dL_acts_507 (by decide) ?_
                    exact W.zret (v := 1) (ty := .boolean) hx hb hr rfl (fun t ht hW => ⟨⟨_, (u, V, a_17), rfl, ⟨hf, hR⟩, by rw [ht]; exact hP, hD⟩, hS.F ht⟩) hS.2.2 dL_acts_511
          refine lv_if_le (tgt := 465) hx hb dL_acts_458 (by decide) (fun hc => ?_) (fun hc => ?_)
          · have hf := pt hc hf
            refine lv_aload_n hx hb dL_acts_465 rfl (lv_at hl 4 rfl) ?_
            obtain ⟨o466, ho466, hf⟩ := bdE hf
            refine rb_wash (ho := ho466) (rest := []) ⟨hx, hb, hml, hown, hts⟩ (cwV 0 hts gL_acts_X7_wash rfl rfl rfl (by decide +kernel) ⟨Nat.le_of_ble_eq_true rfl, Nat.le_of_ble_eq_true rfl⟩) hK hN hP hD hS hA hR hl.1 rfl (Nat.le_of_ble_eq_true rfl) dL_acts_466 ⟨Nat.le_of_ble_eq_true rfl, Nat.le_of_ble_eq_true rfl⟩ (fun V u H locs hR hP hD hS => ?_)
            exact hJ17 _ _ hf _ _ _ _ ls hR hP hD hS (lv_sub hl [4, 2, 1, 0] rfl)
          · have hf := pe hc hf
            refine lv_iconst (v := 0) hx hb dL_acts_461 (by decide) ?_
            refine lv_goto (tgt := 469) hx hb dL_acts_462 (by decide) ?_
            exact hJ17 _ _ hf _ _ _ _ ls hR hP hD hS (lv_sub hl [4, 2, 1, 0] rfl)
      · have hf := pt hc hf
        refine lv_iload_n hx hb dL_acts_282 rfl (lv_at hl 4 rfl) ?_
        refine lv_iload hx hb dL_acts_283 (lv_at hl 0 rfl) ?_
        refine lv_iconst (v := 1) hx hb dL_acts_285 (by decide) ?_
        refine lv_iadd hx hb dL_acts_286 ?_
        obtain ⟨hne, hf⟩ := hf
        refine rS (w := []) (W0 := (WB cI cZ cC cO Q u V).flatten) (rest := []) (As := [.int i2, .int ((cotA a 0) + 1)]) ⟨hx, hb, hml, hown, hts⟩ (mL_low l dC dI cI cZ cC cO i2 (((cotA a 0) + 1)) hne) (va_cwS 2 hts gL_acts_L_low rfl rfl rfl (by decide +kernel) ⟨Nat.le_of_ble_eq_true rfl, Nat.le_of_ble_eq_true rfl⟩) hK hN hP [] rfl rfl hl.1 rfl (Nat.le_of_ble_eq_true rfl) dL_acts_287 ⟨Nat.le_of_ble_eq_true rfl, Nat.le_of_ble_eq_true rfl⟩ ?_
        refine lv_istore (lv' := [(5, .int (lwA28 i2 (((cotA a 0) + 1)))), (4, .int (cotA a 0)), (3, .int (lwA28 i1 24)), (0, .ref (Q 0 0)), (1, .int i1), (2, .int i2)]) hx hb dL_acts_290 hl (by decide) rfl (fun ls hl => ?_)
        refine lv_iload hx hb dL_acts_292 (lv_at hl 0 rfl) ?_
        refine lv_iload hx hb dL_acts_294 (lv_at hl 1 rfl) ?_
        have hJ18 : ∀ (y0_18 : Int32), jL_acts_18 i2 a K y0_18 → ∀ (V : GV) (u : QH) (H : Heap) (locs : List Loc) (ls : Array Slot), RepA V a → va_P (dC, dI) vwCl (WB cI cZ cC cO Q u V).flatten H → va_D A (WB cI cZ cC cO Q u V).flatten → va_S A s.heap H locs → lv_has ls 10 [(0, .ref (Q 0 0)), (4, .int (cotA a 0)), (5, .int (lwA28 i2 (((cotA a 0) + 1))))] → W p l e (headSpec wsL_acts rmL_acts).room s m args below meth c H locs 0 0 (MQ below (va_Qi (fun r (w : QH × GV × AS) => K r w.2.2 ∧ RepA w.2.1 w.2.2) (fun w => poW (dC, dI) A (WB cI cZ cC cO Q w.1 w.2.1).flatten) A) args s 0 0 A) (F0 m 310 ls [.int y0_18]) := by
          intro y0_18 hf V u H locs ls hR hP hD hS hl
          unfold jL_acts_18 at hf
          refine lv_istore (lv' := [(6, .int y0_18), (0, .ref (Q 0 0)), (4, .int (cotA a 0)), (5, .int (lwA28 i2 (((cotA a 0) + 1))))]) hx hb dL_acts_310 hl (by decide) rfl (fun ls hl => ?_)
          refine lv_iload hx hb dL_acts_312 (lv_at hl 3 rfl) ?_
          refine lv_iload hx hb dL_acts_314 (lv_at hl 2 rfl) ?_
          have hJ19 : ∀ (y0_19 : Int32), jL_acts_19 i2 a K y0_18 y0_19 → ∀ (V : GV) (u : QH) (H : Heap) (locs : List Loc) (ls : Array Slot), RepA V a → va_P (dC, dI) vwCl (WB cI cZ cC cO Q u V).flatten H → va_D A (WB cI cZ cC cO Q u V).flatten → va_S A s.heap H locs → lv_has ls 10 [(0, .ref (Q 0 0)), (4, .int (cotA a 0)), (5, .int (lwA28 i2 (((cotA a 0) + 1)))), (6, .int y0_18)] → W p l e (headSpec wsL_acts rmL_acts).room s m args below meth c H locs 0 0 (MQ below (va_Qi (fun r (w : QH × GV × AS) => K r w.2.2 ∧ RepA w.2.1 w.2.2) (fun w => poW (dC, dI) A (WB cI cZ cC cO Q w.1 w.2.1).flatten) A) args s 0 0 A) (F0 m 336 ls [.int y0_19]) := by
            intro y0_19 hf V u H locs ls hR hP hD hS hl
            unfold jL_acts_19 at hf
            refine lv_istore (lv' := [(7, .int y0_19), (0, .ref (Q 0 0)), (4, .int (cotA a 0)), (5, .int (lwA28 i2 (((cotA a 0) + 1)))), (6, .int y0_18)]) hx hb dL_acts_336 hl (by decide) rfl (fun ls hl => ?_)
            refine lv_aload_n hx hb dL_acts_338 rfl (lv_at hl 1 rfl) ?_
            refine lv_bipush (v := 9) hx hb dL_acts_339 (by decide) ?_
            refine rb_count (x0 := 9) (rest := []) ⟨hx, hb, hml, hown, hts⟩ (cwV 1 hts gL_acts_X7_count rfl rfl rfl (by decide +kernel) ⟨Nat.le_of_ble_eq_true rfl, Nat.le_of_ble_eq_true rfl⟩) hK hN hP hD hS hA hR hl.1 rfl (Nat.le_of_ble_eq_true rfl) dL_acts_341 ⟨Nat.le_of_ble_eq_true rfl, Nat.le_of_ble_eq_true rfl⟩ (fun V u H locs hR hP hD hS => ?_)
            refine lv_istore (lv' := [(8, .int (cotA a 9)), (7, .int y0_19), (0, .ref (Q 0 0)), (4, .int (cotA a 0)), (5, .int (lwA28 i2 (((cotA a 0) + 1)))), (6, .int y0_18)]) hx hb dL_acts_344 hl (by decide) rfl (fun ls hl => ?_)
            refine lv_aload_n hx hb dL_acts_346 rfl (lv_at hl 2 rfl) ?_
            refine lv_iload hx hb dL_acts_347 (lv_at hl 4 rfl) ?_
            obtain ⟨o349, ho349, hf⟩ := bdE hf
            refine rb_breakOff (ho := ho349) (rest := []) ⟨hx, hb, hml, hown, hts⟩ (cwV 1 hts gL_acts_X7_breakOff rfl rfl rfl (by decide +kernel) ⟨Nat.le_of_ble_eq_true rfl, Nat.le_of_ble_eq_true rfl⟩) hK hN hP hD hS hA hR hl.1 rfl (Nat.le_of_ble_eq_true rfl) dL_acts_349 ⟨Nat.le_of_ble_eq_true rfl, Nat.le_of_ble_eq_true rfl⟩ (fun V u H locs hR hP hD hS => ?_)
            refine lv_istore (lv' := [(9, .int o349.1), (8, .int (cotA a 9)), (7, .int y0_19), (0, .ref (Q 0 0)), (4, .int (cotA a 0)), (5, .int (lwA28 i2 (((cotA a 0) + 1)))), (6, .int y0_18)]) hx hb dL_acts_352 hl (by decide) rfl (fun ls hl => ?_)
            refine lv_iload hx hb dL_acts_354 (lv_at hl 0 rfl) ?_
            refine lv_iload hx hb dL_acts_356 (lv_at hl 5 rfl) ?_
            refine lv_iload hx hb dL_acts_358 (lv_at hl 4 rfl) ?_
            have hJ20 : ∀ (y0_20 : Int32), jL_acts_20 a K o349 y0_20 → ∀ (V : GV) (u : QH) (H : Heap) (locs : List Loc) (ls : Array Slot), RepA V o349.2 → va_P (dC, dI) vwCl (WB cI cZ cC cO Q u V).flatten H → va_D A (WB cI cZ cC cO Q u V).flatten → va_S A s.heap H locs → lv_has ls 10 [(0, .ref (Q 0 0)), (4, .int (cotA a 0)), (8, .int (cotA a 9)), (9, .int o349.1)] → W p l e (headSpec wsL_acts rmL_acts).room s m args below meth c H locs 0 0 (MQ below (va_Qi (fun r (w : QH × GV × AS) => K r w.2.2 ∧ RepA w.2.1 w.2.2) (fun w => poW (dC, dI) A (WB cI cZ cC cO Q w.1 w.2.1).flatten) A) args s 0 0 A) (F0 m 379 ls [.int y0_20, .int o349.1]) := by
              intro y0_20 hf V u H locs ls hR hP hD hS hl
              unfold jL_acts_20 at hf
              refine lv_icmp_ne (tgt := 431) hx hb dL_acts_379 (by decide) (fun hc => ?_) (fun hc => ?_)
              · have hf := pe hc hf
                refine lv_iconst (v := 0) hx hb dL_acts_431 (by decide) ?_
                exact W.zret (v := 0) (ty := .boolean) hx hb hr rfl (fun t ht hW => ⟨⟨_, (u, V, o349.2), rfl, ⟨hf, hR⟩, by rw [ht]; exact hP, hD⟩, hS.F ht⟩) hS.2.2 dL_acts_432
              · have hf := pt hc hf
                refine lv_aload_n hx hb dL_acts_382 rfl (lv_at hl 0 rfl) ?_
                refine lv_iconst (v := 0) hx hb dL_acts_383 (by decide) ?_
                refine rb_count (x0 := 0) (rest := []) ⟨hx, hb, hml, hown, hts⟩ (cwV 1 hts gL_acts_X7_count rfl rfl rfl (by decide +kernel) ⟨Nat.le_of_ble_eq_true rfl, Nat.le_of_ble_eq_true rfl⟩) hK hN hP hD hS hA hR hl.1 rfl (Nat.le_of_ble_eq_true rfl) dL_acts_384 ⟨Nat.le_of_ble_eq_true rfl, Nat.le_of_ble_eq_true rfl⟩ (fun V u H locs hR hP hD hS => ?_)
                refine lv_iload hx hb dL_acts_387 (lv_at hl 1 rfl) ?_
                refine lv_iload hx hb dL_acts_389 (lv_at hl 3 rfl) ?_
                have hJ21 : ∀ (y0_21 : Int32), jL_acts_21 a K o349 y0_21 → ∀ (V : GV) (u : QH) (H : Heap) (locs : List Loc) (ls : Array Slot), RepA V o349.2 → va_P (dC, dI) vwCl (WB cI cZ cC cO Q u V).flatten H → va_D A (WB cI cZ cC cO Q u V).flatten → va_S A s.heap H locs → lv_has ls 10 [(0, .ref (Q 0 0)), (8, .int (cotA a 9)), (9, .int o349.1)] → W p l e (headSpec wsL_acts rmL_acts).room s m args below meth c H locs 0 0 (MQ below (va_Qi (fun r (w : QH × GV × AS) => K r w.2.2 ∧ RepA w.2.1 w.2.2) (fun w => poW (dC, dI) A (WB cI cZ cC cO Q w.1 w.2.1).flatten) A) args s 0 0 A) (F0 m 400 ls [.int y0_21, .int (cotA a 0), .int (cotA o349.2 0)]) := by
                  intro y0_21 hf V u H locs ls hR hP hD hS hl
                  unfold jL_acts_21 at hf
                  refine lv_isub hx hb dL_acts_400 ?_
                  refine lv_icmp_ne (tgt := 431) hx hb dL_acts_401 (by decide) (fun hc => ?_) (fun hc => ?_)
                  · have hf := pe hc hf
                    refine lv_iconst (v := 0) hx hb dL_acts_431 (by decide) ?_
                    exact W.zret (v := 0) (ty := .boolean) hx hb hr rfl (fun t ht hW => ⟨⟨_, (u, V, o349.2), rfl, ⟨hf, hR⟩, by rw [ht]; exact hP, hD⟩, hS.F ht⟩) hS.2.2 dL_acts_432
                  · have hf := pt hc hf
                    refine lv_aload_n hx hb dL_acts_404 rfl (lv_at hl 0 rfl) ?_
                    refine lv_bipush (v := 9) hx hb dL_acts_405 (by decide) ?_
                    refine rb_count (x0 := 9) (rest := []) ⟨hx, hb, hml, hown, hts⟩ (cwV 1 hts gL_acts_X7_count rfl rfl rfl (by decide +kernel) ⟨Nat.le_of_ble_eq_true rfl, Nat.le_of_ble_eq_true rfl⟩) hK hN hP hD hS hA hR hl.1 rfl (Nat.le_of_ble_eq_true rfl) dL_acts_407 ⟨Nat.le_of_ble_eq_true rfl, Nat.le_of_ble_eq_true rfl⟩ (fun V u H locs hR hP hD hS => ?_)
                    refine lv_iload hx hb dL_acts_410 (lv_at hl 1 rfl) ?_
                    refine lv_iload hx hb dL_acts_412 (lv_at hl 2 rfl) ?_
                    have hJ22 : ∀ (y0_22 : Int32), jL_acts_22 a K o349 y0_22 → ∀ (V : GV) (u : QH) (H : Heap) (locs : List Loc) (ls : Array Slot), RepA V o349.2 → va_P (dC, dI) vwCl (WB cI cZ cC cO Q u V).flatten H → va_D A (WB cI cZ cC cO Q u V).flatten → va_S A s.heap H locs → lv_has ls 10 [] → W p l e (headSpec wsL_acts rmL_acts).room s m args below meth c H locs 0 0 (MQ below (va_Qi (fun r (w : QH × GV × AS) => K r w.2.2 ∧ RepA w.2.1 w.2.2) (fun w => poW (dC, dI) A (WB cI cZ cC cO Q w.1 w.2.1).flatten) A) args s 0 0 A) (F0 m 423 ls [.int y0_22, .int (cotA a 9), .int (cotA o349.2 9)]) := by
                      intro y0_22 hf V u H locs ls hR hP hD hS hl
                      unfold jL_acts_22 at hf
                      refine lv_iadd hx hb dL_acts_423 ?_
                      refine lv_icmp_ne (tgt := 431) hx hb dL_acts_424 (by decide) (fun hc => ?_) (fun hc => ?_)
                      · have hf := pe hc hf
                        refine lv_iconst (v := 0) hx hb dL_acts_431 (by decide) ?_
                        exact W.zret (v := 0) (ty := .boolean) hx hb hr rfl (fun t ht hW => ⟨⟨_, (u, V, o349.2), rfl, ⟨hf, hR⟩, by rw [ht]; exact hP, hD⟩, hS.F ht⟩) hS.2.2 dL_acts_432
                      · have hf := pt hc hf
                        refine lv_iconst (v := 1) hx hb dL_acts_427 (by decide) ?_
                        refine lv_goto (tgt := 432) hx hb dL_acts_428 (by decide) ?_
                        exact W.zret (v := 1) (ty := .boolean) hx hb hr rfl (fun t ht hW => ⟨⟨_, (u, V, o349.2), rfl, ⟨hf, hR⟩, by rw [ht]; exact hP, hD⟩, hS.F ht⟩) hS.2.2 dL_acts_432
                    refine lv_if_ge (tgt := 421) hx hb dL_acts_414 (by decide) (fun hc => ?_) (fun hc => ?_)
                    · have hf := pt hc hf
                      refine lv_iload hx hb dL_acts_421 (lv_at hl 2 rfl) ?_
                      exact hJ22 _ hf _ _ _ _ ls hR hP hD hS (lv_sub hl [] rfl)
                    · have hf := pe hc hf
                      refine lv_iconst (v := 0) hx hb dL_acts_417 (by decide) ?_
                      refine lv_goto (tgt := 423) hx hb dL_acts_418 (by decide) ?_
                      exact hJ22 _ hf _ _ _ _ ls hR hP hD hS (lv_sub hl [] rfl)
                refine lv_if_ge (tgt := 398) hx hb dL_acts_391 (by decide) (fun hc => ?_) (fun hc => ?_)
                · have hf := pt hc hf
                  refine lv_iload hx hb dL_acts_398 (lv_at hl 3 rfl) ?_
                  exact hJ21 _ hf _ _ _ _ ls hR hP hD hS (lv_sub hl [0, 2, 3] rfl)
                · have hf := pe hc hf
                  refine lv_iconst (v := 0) hx hb dL_acts_394 (by decide) ?_
                  refine lv_goto (tgt := 400) hx hb dL_acts_395 (by decide) ?_
                  exact hJ21 _ hf _ _ _ _ ls hR hP hD hS (lv_sub hl [0, 2, 3] rfl)
            refine lv_icmp_ne (tgt := 367) hx hb dL_acts_360 (by decide) (fun hc => ?_) (fun hc => ?_)
            · have hf := pe hc hf
              refine lv_iload hx hb dL_acts_367 (lv_at hl 2 rfl) ?_
              refine lv_if_eq (tgt := 377) hx hb dL_acts_369 (by decide) (fun hc => ?_) (fun hc => ?_)
              · have hf := pt hc hf
                refine lv_iload hx hb dL_acts_377 (lv_at hl 6 rfl) ?_
                exact hJ20 _ hf _ _ _ _ ls hR hP hD hS (lv_sub hl [3, 4, 1, 0] rfl)
              · have hf := pe hc hf
                refine lv_bipush (v := (-2)) hx hb dL_acts_372 (by decide) ?_
                refine lv_goto (tgt := 379) hx hb dL_acts_374 (by decide) ?_
                exact hJ20 _ hf _ _ _ _ ls hR hP hD hS (lv_sub hl [3, 4, 1, 0] rfl)
            · have hf := pt hc hf
              refine lv_iconst (v := (-1)) hx hb dL_acts_363 (by decide) ?_
              refine lv_goto (tgt := 379) hx hb dL_acts_364 (by decide) ?_
              exact hJ20 _ hf _ _ _ _ ls hR hP hD hS (lv_sub hl [3, 4, 1, 0] rfl)
          have hJ23 : jL_acts_23 i2 a K y0_18 → ∀ (V : GV) (u : QH) (H : Heap) (locs : List Loc) (ls : Array Slot), RepA V a → va_P (dC, dI) vwCl (WB cI cZ cC cO Q u V).flatten H → va_D A (WB cI cZ cC cO Q u V).flatten → va_S A s.heap H locs → lv_has ls 10 [(0, .ref (Q 0 0)), (4, .int (cotA a 0)), (5, .int (lwA28 i2 (((cotA a 0) + 1)))), (6, .int y0_18)] → W p l e (headSpec wsL_acts rmL_acts).room s m args below meth c H locs 0 0 (MQ below (va_Qi (fun r (w : QH × GV × AS) => K r w.2.2 ∧ RepA w.2.1 w.2.2) (fun w => poW (dC, dI) A (WB cI cZ cC cO Q w.1 w.2.1).flatten) A) args s 0 0 A) (F0 m 335 ls []) := by
            intro hf V u H locs ls hR hP hD hS hl
            unfold jL_acts_23 at hf
            refine lv_iconst (v := 0) hx hb dL_acts_335 (by decide) ?_
            exact hJ19 _ hf _ _ _ _ ls hR hP hD hS (lv_sub hl [0, 1, 2, 3] rfl)
          refine lv_icmp_ge (tgt := 335) hx hb dL_acts_316 (by decide) (fun hc => ?_) (fun hc => ?_)
          · have hf := pt hc hf
            exact hJ23 hf _ _ _ _ ls hR hP hD hS (lv_sub hl [1, 2, 3, 0] rfl)
          · have hf := pe hc hf
            refine lv_aload_n hx hb dL_acts_319 rfl (lv_at hl 1 rfl) ?_
            refine lv_iload hx hb dL_acts_320 (lv_at hl 3 rfl) ?_
            refine lv_iconst (v := 1) hx hb dL_acts_322 (by decide) ?_
            refine rb_grain (x0 := ((lwA28 i2 (((cotA a 0) + 1))))) (x1 := 1) (rest := []) ⟨hx, hb, hml, hown, hts⟩ (cwV 2 hts gL_acts_X7_grain rfl rfl rfl (by decide +kernel) ⟨Nat.le_of_ble_eq_true rfl, Nat.le_of_ble_eq_true rfl⟩) hK hN hP hD hS hA hR hl.1 rfl (Nat.le_of_ble_eq_true rfl) dL_acts_323 ⟨Nat.le_of_ble_eq_true rfl, Nat.le_of_ble_eq_true rfl⟩ (fun V u H locs hR hP hD hS => ?_)
            refine lv_bipush (v := (-4)) hx hb dL_acts_326 (by decide) ?_
            refine lv_icmp_ne (tgt := 335) hx hb dL_acts_328 (by decide) (fun hc => ?_) (fun hc => ?_)
            · have hf := pe hc hf
              exact hJ23 hf _ _ _ _ ls hR hP hD hS (lv_sub hl [1, 2, 3, 0] rfl)
            · have hf := pt hc hf
              refine lv_iconst (v := 1) hx hb dL_acts_331 (by decide) ?_
              refine lv_goto (tgt := 336) hx hb dL_acts_332 (by decide) ?_
              exact hJ19 _ hf _ _ _ _ ls hR hP hD hS (lv_sub hl [1, 2, 3, 0] rfl)
        refine lv_icmp_ne (tgt := 303) hx hb dL_acts_296 (by decide) (fun hc => ?_) (fun hc => ?_)
        · have hf := pe hc hf
          refine lv_aload_n hx hb dL_acts_303 rfl (lv_at hl 3 rfl) ?_
          refine lv_iload hx hb dL_acts_304 (lv_at hl 0 rfl) ?_
          refine lv_iconst (v := 4) hx hb dL_acts_306 (by decide) ?_
          refine rb_grain (x0 := ((lwA28 i2 (((cotA a 0) + 1))))) (x1 := 4) (rest := []) ⟨hx, hb, hml, hown, hts⟩ (cwV 2 hts gL_acts_X7_grain rfl rfl rfl (by decide +kernel) ⟨Nat.le_of_ble_eq_true rfl, Nat.le_of_ble_eq_true rfl⟩) hK hN hP hD hS hA hR hl.1 rfl (Nat.le_of_ble_eq_true rfl) dL_acts_307 ⟨Nat.le_of_ble_eq_true rfl, Nat.le_of_ble_eq_true rfl⟩ (fun V u H locs hR hP hD hS => ?_)
          exact hJ18 _ hf _ _ _ _ ls hR hP hD hS (lv_sub hl [3, 1, 0] rfl)
        · have hf := pt hc hf
          refine lv_iconst (v := 0) hx hb dL_acts_299 (by decide) ?_
          refine lv_goto (tgt := 310) hx hb dL_acts_300 (by decide) ?_
          exact hJ18 _ hf _ _ _ _ ls hR hP hD hS (lv_sub hl [3, 1, 0] rfl)
    · have hf := pe hc hf
      refine lv_iload_n hx hb dL_acts_158 rfl (lv_at hl 4 rfl) ?_
      refine lv_bipush (v := 22) hx hb dL_acts_159 (by decide) ?_
      refine rS (w := []) (W0 := (WB cI cZ cC cO Q u V).flatten) (rest := []) (As := [.int i2, .int 22]) ⟨hx, hb, hml, hown, hts⟩ (mL_low l dC dI cI cZ cC cO i2 22 (by decide)) (va_cwS 2 hts gL_acts_L_low rfl rfl rfl (by decide +kernel) ⟨Nat.le_of_ble_eq_true rfl, Nat.le_of_ble_eq_true rfl⟩) hK hN hP [] rfl rfl hl.1 rfl (Nat.le_of_ble_eq_true rfl) dL_acts_161 ⟨Nat.le_of_ble_eq_true rfl, Nat.le_of_ble_eq_true rfl⟩ ?_
      refine lv_istore (lv' := [(5, .int (lwA28 i2 22)), (4, .int (cotA a 0)), (3, .int (lwA28 i1 24)), (0, .ref (Q 0 0)), (1, .int i1), (2, .int i2)]) hx hb dL_acts_164 hl (by decide) rfl (fun ls hl => ?_)
      refine lv_iload hx hb dL_acts_166 (lv_at hl 0 rfl) ?_
      have hJ24 : ∀ (y0_24 : Int32), jL_acts_24 i2 a K y0_24 → ∀ (V : GV) (u : QH) (H : Heap) (locs : List Loc) (ls : Array Slot), RepA V a → va_P (dC, dI) vwCl (WB cI cZ cC cO Q u V).flatten H → va_D A (WB cI cZ cC cO Q u V).flatten → va_S A s.heap H locs → lv_has ls 10 [(0, .ref (Q 0 0)), (4, .int (cotA a 0)), (5, .int (lwA28 i2 22))] → W p l e (headSpec wsL_acts rmL_acts).room s m args below meth c H locs 0 0 (MQ below (va_Qi (fun r (w : QH × GV × AS) => K r w.2.2 ∧ RepA w.2.1 w.2.2) (fun w => poW (dC, dI) A (WB cI cZ cC cO Q w.1 w.2.1).flatten) A) args s 0 0 A) (F0 m 183 ls [.int y0_24]) := by
        intro y0_24 hf V u H locs ls hR hP hD hS hl
        unfold jL_acts_24 at hf
        refine lv_istore (lv' := [(6, .int y0_24), (0, .ref (Q 0 0)), (4, .int (cotA a 0)), (5, .int (lwA28 i2 22))]) hx hb dL_acts_183 hl (by decide) rfl (fun ls hl => ?_)
        refine lv_aload_n hx hb dL_acts_185 rfl (lv_at hl 1 rfl) ?_
        refine lv_bipush (v := 7) hx hb dL_acts_186 (by decide) ?_
        refine rb_count (x0 := 7) (rest := []) ⟨hx, hb, hml, hown, hts⟩ (cwV 1 hts gL_acts_X7_count rfl rfl rfl (by decide +kernel) ⟨Nat.le_of_ble_eq_true rfl, Nat.le_of_ble_eq_true rfl⟩) hK hN hP hD hS hA hR hl.1 rfl (Nat.le_of_ble_eq_true rfl) dL_acts_188 ⟨Nat.le_of_ble_eq_true rfl, Nat.le_of_ble_eq_true rfl⟩ (fun V u H locs hR hP hD hS => ?_)
        refine lv_istore (lv' := [(7, .int (cotA a 7)), (6, .int y0_24), (0, .ref (Q 0 0)), (4, .int (cotA a 0)), (5, .int (lwA28 i2 22))]) hx hb dL_acts_191 hl (by decide) rfl (fun ls hl => ?_)
        refine lv_aload_n hx hb dL_acts_193 rfl (lv_at hl 2 rfl) ?_
        refine lv_iload hx hb dL_acts_194 (lv_at hl 4 rfl) ?_
        obtain ⟨o196, ho196, hf⟩ := bdE hf
        refine rb_rain (ho := ho196) (rest := []) ⟨hx, hb, hml, hown, hts⟩ (cwV 1 hts gL_acts_X7_rain rfl rfl rfl (by decide +kernel) ⟨Nat.le_of_ble_eq_true rfl, Nat.le_of_ble_eq_true rfl⟩) hK hN hP hD hS hA hR hl.1 rfl (Nat.le_of_ble_eq_true rfl) dL_acts_196 ⟨Nat.le_of_ble_eq_true rfl, Nat.le_of_ble_eq_true rfl⟩ (fun V u H locs hR hP hD hS => ?_)
        refine lv_istore (lv' := [(8, .int o196.1), (7, .int (cotA a 7)), (6, .int y0_24), (0, .ref (Q 0 0)), (4, .int (cotA a 0)), (5, .int (lwA28 i2 22))]) hx hb dL_acts_199 hl (by decide) rfl (fun ls hl => ?_)
        refine lv_iload hx hb dL_acts_201 (lv_at hl 2 rfl) ?_
        refine lv_if_eq (tgt := 231) hx hb dL_acts_203 (by decide) (fun hc => ?_) (fun hc => ?_)
        · have hf := pt hc hf
          refine lv_iload hx hb dL_acts_231 (lv_at hl 0 rfl) ?_
          refine lv_if_lt (tgt := 274) hx hb dL_acts_233 (by decide) (fun hc => ?_) (fun hc => ?_)
          · have hf := pt hc hf
            refine lv_iconst (v := 0) hx hb dL_acts_274 (by decide) ?_
            exact W.zret (v := 0) (ty := .boolean) hx hb hr rfl (fun t ht hW => ⟨⟨_, (u, V, o196.2), rfl, ⟨hf, hR⟩, by rw [ht]; exact hP, hD⟩, hS.F ht⟩) hS.2.2 dL_acts_275
          · have hf := pe hc hf
            refine lv_iload hx hb dL_acts_236 (lv_at hl 0 rfl) ?_
            refine lv_iload hx hb dL_acts_238 (lv_at hl 5 rfl) ?_
            refine lv_icmp_gt (tgt := 274) hx hb dL_acts_240 (by decide) (fun hc => ?_) (fun hc => ?_)
            · have hf := pt hc hf
              refine lv_iconst (v := 0) hx hb dL_acts_274 (by decide) ?_
              exact W.zret (v := 0) (ty := .boolean) hx hb hr rfl (fun t ht hW => ⟨⟨_, (u, V, o196.2), rfl, ⟨hf, hR⟩, by rw [ht]; exact hP, hD⟩, hS.F ht⟩) hS.2.2 dL_acts_275
            · have hf := pe hc hf
              refine lv_aload_n hx hb dL_acts_243 rfl (lv_at hl 3 rfl) ?_
              refine lv_iconst (v := 0) hx hb dL_acts_244 (by decide) ?_
              refine rb_count (x0 := 0) (rest := []) ⟨hx, hb, hml, hown, hts⟩ (cwV 1 hts gL_acts_X7_count rfl rfl rfl (by decide +kernel) ⟨Nat.le_of_ble_eq_true rfl, Nat.le_of_ble_eq_true rfl⟩) hK hN hP hD hS hA hR hl.1 rfl (Nat.le_of_ble_eq_true rfl) dL_acts_245 ⟨Nat.le_of_ble_eq_true rfl, Nat.le_of_ble_eq_true rfl⟩ (fun V u H locs hR hP hD hS => ?_)
              refine lv_iload hx hb dL_acts_248 (lv_at hl 4 rfl) ?_
              refine lv_iload hx hb dL_acts_250 (lv_at hl 0 rfl) ?_
              refine lv_iadd hx hb dL_acts_252 ?_
              refine lv_icmp_ne (tgt := 274) hx hb dL_acts_253 (by decide) (fun hc => ?_) (fun hc => ?_)
              · have hf := pe hc hf
                refine lv_iconst (v := 0) hx hb dL_acts_274 (by decide) ?_
                exact W.zret (v := 0) (ty := .boolean) hx hb hr rfl (fun t ht hW => ⟨⟨_, (u, V, o196.2), rfl, ⟨hf, hR⟩, by rw [ht]; exact hP, hD⟩, hS.F ht⟩) hS.2.2 dL_acts_275
              · have hf := pt hc hf
                refine lv_aload_n hx hb dL_acts_256 rfl (lv_at hl 3 rfl) ?_
                refine lv_bipush (v := 7) hx hb dL_acts_257 (by decide) ?_
                refine rb_count (x0 := 7) (rest := []) ⟨hx, hb, hml, hown, hts⟩ (cwV 1 hts gL_acts_X7_count rfl rfl rfl (by decide +kernel) ⟨Nat.le_of_ble_eq_true rfl, Nat.le_of_ble_eq_true rfl⟩) hK hN hP hD hS hA hR hl.1 rfl (Nat.le_of_ble_eq_true rfl) dL_acts_259 ⟨Nat.le_of_ble_eq_true rfl, Nat.le_of_ble_eq_true rfl⟩ (fun V u H locs hR hP hD hS => ?_)
                refine lv_iload hx hb dL_acts_262 (lv_at hl 1 rfl) ?_
                refine lv_iload hx hb dL_acts_264 (lv_at hl 5 rfl) ?_
                refine lv_iadd hx hb dL_acts_266 ?_
                refine lv_icmp_ne (tgt := 274) hx hb dL_acts_267 (by decide) (fun hc => ?_) (fun hc => ?_)
                · have hf := pe hc hf
                  refine lv_iconst (v := 0) hx hb dL_acts_274 (by decide) ?_
                  exact W.zret (v := 0) (ty := .boolean) hx hb hr rfl (fun t ht hW => ⟨⟨_, (u, V, o196.2), rfl, ⟨hf, hR⟩, by rw [ht]; exact hP, hD⟩, hS.F ht⟩) hS.2.2 dL_acts_275
                · have hf := pt hc hf
                  refine lv_iconst (v := 1) hx hb dL_acts_270 (by decide) ?_
                  refine lv_goto (tgt := 275) hx hb dL_acts_271 (by decide) ?_
                  exact W.zret (v := 1) (ty := .boolean) hx hb hr rfl (fun t ht hW => ⟨⟨_, (u, V, o196.2), rfl, ⟨hf, hR⟩, by rw [ht]; exact hP, hD⟩, hS.F ht⟩) hS.2.2 dL_acts_275
        · have hf := pe hc hf
          refine lv_iload hx hb dL_acts_206 (lv_at hl 0 rfl) ?_
          refine lv_iconst (v := (-1)) hx hb dL_acts_208 (by decide) ?_
          have hJ25 : jL_acts_25 K o196 → ∀ (V : GV) (u : QH) (H : Heap) (locs : List Loc) (ls : Array Slot), RepA V o196.2 → va_P (dC, dI) vwCl (WB cI cZ cC cO Q u V).flatten H → va_D A (WB cI cZ cC cO Q u V).flatten → va_S A s.heap H locs → lv_has ls 10 [] → W p l e (headSpec wsL_acts rmL_acts).room s m args below meth c H locs 0 0 (MQ below (va_Qi (fun r (w : QH × GV × AS) => K r w.2.2 ∧ RepA w.2.1 w.2.2) (fun w => poW (dC, dI) A (WB cI cZ cC cO Q w.1 w.2.1).flatten) A) args s 0 0 A) (F0 m 227 ls []) := by
            intro hf V u H locs ls hR hP hD hS hl
            unfold jL_acts_25 at hf
            refine lv_iconst (v := 0) hx hb dL_acts_227 (by decide) ?_
            refine lv_goto (tgt := 275) hx hb dL_acts_228 (by decide) ?_
            exact W.zret (v := 0) (ty := .boolean) hx hb hr rfl (fun t ht hW => ⟨⟨_, (u, V, o196.2), rfl, ⟨hf, hR⟩, by rw [ht]; exact hP, hD⟩, hS.F ht⟩) hS.2.2 dL_acts_275
          refine lv_icmp_ne (tgt := 227) hx hb dL_acts_209 (by decide) (fun hc => ?_) (fun hc => ?_)
          · have hf := pe hc hf
            exact hJ25 hf _ _ _ _ ls hR hP hD hS (lv_sub hl [] rfl)
          · have hf := pt hc hf
            refine lv_aload_n hx hb dL_acts_212 rfl (lv_at hl 3 rfl) ?_
            refine lv_bipush (v := 7) hx hb dL_acts_213 (by decide) ?_
            refine rb_count (x0 := 7) (rest := []) ⟨hx, hb, hml, hown, hts⟩ (cwV 1 hts gL_acts_X7_count rfl rfl rfl (by decide +kernel) ⟨Nat.le_of_ble_eq_true rfl, Nat.le_of_ble_eq_true rfl⟩) hK hN hP hD hS hA hR hl.1 rfl (Nat.le_of_ble_eq_true rfl) dL_acts_215 ⟨Nat.le_of_ble_eq_true rfl, Nat.le_of_ble_eq_true rfl⟩ (fun V u H locs hR hP hD hS => ?_)
            refine lv_iload hx hb dL_acts_218 (lv_at hl 1 rfl) ?_
            refine lv_icmp_ne (tgt := 227) hx hb dL_acts_220 (by decide) (fun hc => ?_) (fun hc => ?_)
            · have hf := pe hc hf
              exact hJ25 hf _ _ _ _ ls hR hP hD hS (lv_sub hl [] rfl)
            · have hf := pt hc hf
              refine lv_iconst (v := 1) hx hb dL_acts_223 (by decide) ?_
              refine lv_goto (tgt := 275) hx hb dL_acts_224 (by decide) ?_
              exact W.zret (v := 1) (ty := .boolean) hx hb hr rfl (fun t ht hW => ⟨⟨_, (u, V, o196.2), rfl, ⟨hf, hR⟩, by rw [ht]; exact hP, hD⟩, hS.F ht⟩) hS.2.2 dL_acts_275
      have hJ26 : jL_acts_26 i2 a K → ∀ (V : GV) (u : QH) (H : Heap) (locs : List Loc) (ls : Array Slot), RepA V a → va_P (dC, dI) vwCl (WB cI cZ cC cO Q u V).flatten H → va_D A (WB cI cZ cC cO Q u V).flatten → va_S A s.heap H locs → lv_has ls 10 [(0, .ref (Q 0 0)), (4, .int (cotA a 0)), (5, .int (lwA28 i2 22))] → W p l e (headSpec wsL_acts rmL_acts).room s m args below meth c H locs 0 0 (MQ below (va_Qi (fun r (w : QH × GV × AS) => K r w.2.2 ∧ RepA w.2.1 w.2.2) (fun w => poW (dC, dI) A (WB cI cZ cC cO Q w.1 w.2.1).flatten) A) args s 0 0 A) (F0 m 178 ls []) := by
        intro hf V u H locs ls hR hP hD hS hl
        unfold jL_acts_26 at hf
        refine lv_iconst (v := 1) hx hb dL_acts_178 (by decide) ?_
        refine lv_goto (tgt := 183) hx hb dL_acts_179 (by decide) ?_
        exact hJ24 _ hf _ _ _ _ ls hR hP hD hS (lv_sub hl [0, 1, 2] rfl)
      refine lv_if_eq (tgt := 178) hx hb dL_acts_168 (by decide) (fun hc => ?_) (fun hc => ?_)
      · have hf := pt hc hf
        exact hJ26 hf _ _ _ _ ls hR hP hD hS (lv_sub hl [3, 1, 0] rfl)
      · have hf := pe hc hf
        refine lv_iload hx hb dL_acts_171 (lv_at hl 0 rfl) ?_
        refine lv_bipush (v := 21) hx hb dL_acts_173 (by decide) ?_
        refine lv_icmp_ne (tgt := 182) hx hb dL_acts_175 (by decide) (fun hc => ?_) (fun hc => ?_)
        · have hf := pe hc hf
          refine lv_iconst (v := 0) hx hb dL_acts_182 (by decide) ?_
          exact hJ24 _ hf _ _ _ _ ls hR hP hD hS (lv_sub hl [3, 1, 0] rfl)
        · have hf := pt hc hf
          exact hJ26 hf _ _ _ _ ls hR hP hD hS (lv_sub hl [3, 1, 0] rfl)
  · have hf := pe hc hf
    refine lv_iload_n hx hb dL_acts_20 rfl (lv_at hl 4 rfl) ?_
    refine lv_bipush (v := 42) hx hb dL_acts_21 (by decide) ?_
    refine rS (w := []) (W0 := (WB cI cZ cC cO Q u V).flatten) (rest := []) (As := [.int i2, .int 42]) ⟨hx, hb, hml, hown, hts⟩ (mL_low l dC dI cI cZ cC cO i2 42 (by decide)) (va_cwS 2 hts gL_acts_L_low rfl rfl rfl (by decide +kernel) ⟨Nat.le_of_ble_eq_true rfl, Nat.le_of_ble_eq_true rfl⟩) hK hN hP [] rfl rfl hl.1 rfl (Nat.le_of_ble_eq_true rfl) dL_acts_23 ⟨Nat.le_of_ble_eq_true rfl, Nat.le_of_ble_eq_true rfl⟩ ?_
    refine lv_iconst (v := 1) hx hb dL_acts_26 (by decide) ?_
    refine lv_isub hx hb dL_acts_27 ?_
    refine lv_istore (lv' := [(5, .int ((lwA28 i2 42) - 1)), (4, .int (cotA a 0)), (3, .int (lwA28 i1 24)), (0, .ref (Q 0 0)), (1, .int i1), (2, .int i2)]) hx hb dL_acts_28 hl (by decide) rfl (fun ls hl => ?_)
    refine lv_aload_n hx hb dL_acts_30 rfl (lv_at hl 3 rfl) ?_
    refine lv_iload hx hb dL_acts_31 (lv_at hl 0 rfl) ?_
    refine lv_iconst (v := 0) hx hb dL_acts_33 (by decide) ?_
    refine rb_ifGone (x0 := (((lwA28 i2 42) - 1))) (x1 := 0) (rest := []) ⟨hx, hb, hml, hown, hts⟩ (cwV 2 hts gL_acts_X7_ifGone rfl rfl rfl (by decide +kernel) ⟨Nat.le_of_ble_eq_true rfl, Nat.le_of_ble_eq_true rfl⟩) hK hN hP hD hS hA hR hl.1 rfl (Nat.le_of_ble_eq_true rfl) dL_acts_34 ⟨Nat.le_of_ble_eq_true rfl, Nat.le_of_ble_eq_true rfl⟩ (fun V u H locs hR hP hD hS => ?_)
    refine lv_istore (lv' := [(6, .int (ifgA a.1 (((lwA28 i2 42) - 1)) 0)), (5, .int ((lwA28 i2 42) - 1)), (4, .int (cotA a 0)), (3, .int (lwA28 i1 24)), (0, .ref (Q 0 0)), (1, .int i1), (2, .int i2)]) hx hb dL_acts_37 hl (by decide) rfl (fun ls hl => ?_)
    refine lv_aload_n hx hb dL_acts_39 rfl (lv_at hl 4 rfl) ?_
    refine lv_bipush (v := 7) hx hb dL_acts_40 (by decide) ?_
    refine rb_count (x0 := 7) (rest := []) ⟨hx, hb, hml, hown, hts⟩ (cwV 1 hts gL_acts_X7_count rfl rfl rfl (by decide +kernel) ⟨Nat.le_of_ble_eq_true rfl, Nat.le_of_ble_eq_true rfl⟩) hK hN hP hD hS hA hR hl.1 rfl (Nat.le_of_ble_eq_true rfl) dL_acts_42 ⟨Nat.le_of_ble_eq_true rfl, Nat.le_of_ble_eq_true rfl⟩ (fun V u H locs hR hP hD hS => ?_)
    refine lv_istore (lv' := [(7, .int (cotA a 7)), (6, .int (ifgA a.1 (((lwA28 i2 42) - 1)) 0)), (5, .int ((lwA28 i2 42) - 1)), (4, .int (cotA a 0)), (3, .int (lwA28 i1 24)), (0, .ref (Q 0 0)), (1, .int i1), (2, .int i2)]) hx hb dL_acts_45 hl (by decide) rfl (fun ls hl => ?_)
    refine lv_aload_n hx hb dL_acts_47 rfl (lv_at hl 5 rfl) ?_
    refine lv_bipush (v := 8) hx hb dL_acts_48 (by decide) ?_
    refine rb_count (x0 := 8) (rest := []) ⟨hx, hb, hml, hown, hts⟩ (cwV 1 hts gL_acts_X7_count rfl rfl rfl (by decide +kernel) ⟨Nat.le_of_ble_eq_true rfl, Nat.le_of_ble_eq_true rfl⟩) hK hN hP hD hS hA hR hl.1 rfl (Nat.le_of_ble_eq_true rfl) dL_acts_50 ⟨Nat.le_of_ble_eq_true rfl, Nat.le_of_ble_eq_true rfl⟩ (fun V u H locs hR hP hD hS => ?_)
    refine lv_istore (lv' := [(8, .int (cotA a 8)), (7, .int (cotA a 7)), (6, .int (ifgA a.1 (((lwA28 i2 42) - 1)) 0)), (5, .int ((lwA28 i2 42) - 1)), (4, .int (cotA a 0)), (3, .int (lwA28 i1 24)), (0, .ref (Q 0 0)), (1, .int i1), (2, .int i2)]) hx hb dL_acts_53 hl (by decide) rfl (fun ls hl => ?_)
    refine lv_aload_n hx hb dL_acts_55 rfl (lv_at hl 6 rfl) ?_
    refine lv_iload hx hb dL_acts_56 (lv_at hl 3 rfl) ?_
    obtain ⟨o58, ho58, hf⟩ := bdE hf
    refine rb_go (ho := ho58) (rest := []) ⟨hx, hb, hml, hown, hts⟩ (cwV 1 hts gL_acts_X7_go rfl rfl rfl (by decide +kernel) ⟨Nat.le_of_ble_eq_true rfl, Nat.le_of_ble_eq_true rfl⟩) hK hN hP hD hS hA hR hl.1 rfl (Nat.le_of_ble_eq_true rfl) dL_acts_58 ⟨Nat.le_of_ble_eq_true rfl, Nat.le_of_ble_eq_true rfl⟩ (fun V u H locs hR hP hD hS => ?_)
    refine lv_istore (lv' := [(9, .int o58.1), (8, .int (cotA a 8)), (7, .int (cotA a 7)), (6, .int (ifgA a.1 (((lwA28 i2 42) - 1)) 0)), (5, .int ((lwA28 i2 42) - 1)), (4, .int (cotA a 0)), (3, .int (lwA28 i1 24)), (0, .ref (Q 0 0)), (1, .int i1), (2, .int i2)]) hx hb dL_acts_61 hl (by decide) rfl (fun ls hl => ?_)
    refine lv_iload hx hb dL_acts_63 (lv_at hl 0 rfl) ?_
    refine lv_iload hx hb dL_acts_65 (lv_at hl 3 rfl) ?_
    refine lv_icmp_ne (tgt := 150) hx hb dL_acts_67 (by decide) (fun hc => ?_) (fun hc => ?_)
    · have hf := pe hc hf
      refine lv_iconst (v := 0) hx hb dL_acts_150 (by decide) ?_
      exact W.zret (v := 0) (ty := .boolean) hx hb hr rfl (fun t ht hW => ⟨⟨_, (u, V, o58.2), rfl, ⟨hf, hR⟩, by rw [ht]; exact hP, hD⟩, hS.F ht⟩) hS.2.2 dL_acts_151
    · have hf := pt hc hf
      refine lv_aload_n hx hb dL_acts_70 rfl (lv_at hl 7 rfl) ?_
      refine lv_iconst (v := 0) hx hb dL_acts_71 (by decide) ?_
      refine rb_count (x0 := 0) (rest := []) ⟨hx, hb, hml, hown, hts⟩ (cwV 1 hts gL_acts_X7_count rfl rfl rfl (by decide +kernel) ⟨Nat.le_of_ble_eq_true rfl, Nat.le_of_ble_eq_true rfl⟩) hK hN hP hD hS hA hR hl.1 rfl (Nat.le_of_ble_eq_true rfl) dL_acts_72 ⟨Nat.le_of_ble_eq_true rfl, Nat.le_of_ble_eq_true rfl⟩ (fun V u H locs hR hP hD hS => ?_)
      refine lv_iload hx hb dL_acts_75 (lv_at hl 5 rfl) ?_
      refine lv_iload hx hb dL_acts_77 (lv_at hl 0 rfl) ?_
      refine lv_sipush (v := 1000) hx hb dL_acts_79 (by decide) ?_
      have hJ27 : ∀ (y0_27 : Int32), jL_acts_27 a K o58 y0_27 → ∀ (V : GV) (u : QH) (H : Heap) (locs : List Loc) (ls : Array Slot), RepA V o58.2 → va_P (dC, dI) vwCl (WB cI cZ cC cO Q u V).flatten H → va_D A (WB cI cZ cC cO Q u V).flatten → va_S A s.heap H locs → lv_has ls 10 [(0, .ref (Q 0 0)), (7, .int (cotA a 7)), (8, .int (cotA a 8)), (9, .int o58.1)] → W p l e (headSpec wsL_acts rmL_acts).room s m args below meth c H locs 0 0 (MQ below (va_Qi (fun r (w : QH × GV × AS) => K r w.2.2 ∧ RepA w.2.1 w.2.2) (fun w => poW (dC, dI) A (WB cI cZ cC cO Q w.1 w.2.1).flatten) A) args s 0 0 A) (F0 m 90 ls [.int y0_27, .int (cotA a 0), .int (cotA o58.2 0)]) := by
        intro y0_27 hf V u H locs ls hR hP hD hS hl
        unfold jL_acts_27 at hf
        refine lv_iadd hx hb dL_acts_90 ?_
        refine lv_icmp_ne (tgt := 150) hx hb dL_acts_91 (by decide) (fun hc => ?_) (fun hc => ?_)
        · have hf := pe hc hf
          refine lv_iconst (v := 0) hx hb dL_acts_150 (by decide) ?_
          exact W.zret (v := 0) (ty := .boolean) hx hb hr rfl (fun t ht hW => ⟨⟨_, (u, V, o58.2), rfl, ⟨hf, hR⟩, by rw [ht]; exact hP, hD⟩, hS.F ht⟩) hS.2.2 dL_acts_151
        · have hf := pt hc hf
          refine lv_aload_n hx hb dL_acts_94 rfl (lv_at hl 0 rfl) ?_
          refine lv_bipush (v := 7) hx hb dL_acts_95 (by decide) ?_
          refine rb_count (x0 := 7) (rest := []) ⟨hx, hb, hml, hown, hts⟩ (cwV 1 hts gL_acts_X7_count rfl rfl rfl (by decide +kernel) ⟨Nat.le_of_ble_eq_true rfl, Nat.le_of_ble_eq_true rfl⟩) hK hN hP hD hS hA hR hl.1 rfl (Nat.le_of_ble_eq_true rfl) dL_acts_97 ⟨Nat.le_of_ble_eq_true rfl, Nat.le_of_ble_eq_true rfl⟩ (fun V u H locs hR hP hD hS => ?_)
          refine lv_iload hx hb dL_acts_100 (lv_at hl 1 rfl) ?_
          refine lv_iload hx hb dL_acts_102 (lv_at hl 3 rfl) ?_
          have hJ28 : ∀ (y0_28 : Int32), jL_acts_28 a K o58 y0_28 → ∀ (V : GV) (u : QH) (H : Heap) (locs : List Loc) (ls : Array Slot), RepA V o58.2 → va_P (dC, dI) vwCl (WB cI cZ cC cO Q u V).flatten H → va_D A (WB cI cZ cC cO Q u V).flatten → va_S A s.heap H locs → lv_has ls 10 [(0, .ref (Q 0 0)), (8, .int (cotA a 8)), (9, .int o58.1)] → W p l e (headSpec wsL_acts rmL_acts).room s m args below meth c H locs 0 0 (MQ below (va_Qi (fun r (w : QH × GV × AS) => K r w.2.2 ∧ RepA w.2.1 w.2.2) (fun w => poW (dC, dI) A (WB cI cZ cC cO Q w.1 w.2.1).flatten) A) args s 0 0 A) (F0 m 112 ls [.int y0_28, .int (cotA a 7), .int (cotA o58.2 7)]) := by
            intro y0_28 hf V u H locs ls hR hP hD hS hl
            unfold jL_acts_28 at hf
            refine lv_iadd hx hb dL_acts_112 ?_
            refine lv_icmp_ne (tgt := 150) hx hb dL_acts_113 (by decide) (fun hc => ?_) (fun hc => ?_)
            · have hf := pe hc hf
              refine lv_iconst (v := 0) hx hb dL_acts_150 (by decide) ?_
              exact W.zret (v := 0) (ty := .boolean) hx hb hr rfl (fun t ht hW => ⟨⟨_, (u, V, o58.2), rfl, ⟨hf, hR⟩, by rw [ht]; exact hP, hD⟩, hS.F ht⟩) hS.2.2 dL_acts_151
            · have hf := pt hc hf
              refine lv_aload_n hx hb dL_acts_116 rfl (lv_at hl 0 rfl) ?_
              refine lv_bipush (v := 8) hx hb dL_acts_117 (by decide) ?_
              refine rb_count (x0 := 8) (rest := []) ⟨hx, hb, hml, hown, hts⟩ (cwV 1 hts gL_acts_X7_count rfl rfl rfl (by decide +kernel) ⟨Nat.le_of_ble_eq_true rfl, Nat.le_of_ble_eq_true rfl⟩) hK hN hP hD hS hA hR hl.1 rfl (Nat.le_of_ble_eq_true rfl) dL_acts_119 ⟨Nat.le_of_ble_eq_true rfl, Nat.le_of_ble_eq_true rfl⟩ (fun V u H locs hR hP hD hS => ?_)
              refine lv_iload hx hb dL_acts_122 (lv_at hl 1 rfl) ?_
              refine lv_iload hx hb dL_acts_124 (lv_at hl 2 rfl) ?_
              have hJ29 : ∀ (y0_29 : Int32), jL_acts_29 a K o58 y0_29 → ∀ (V : GV) (u : QH) (H : Heap) (locs : List Loc) (ls : Array Slot), RepA V o58.2 → va_P (dC, dI) vwCl (WB cI cZ cC cO Q u V).flatten H → va_D A (WB cI cZ cC cO Q u V).flatten → va_S A s.heap H locs → lv_has ls 10 [] → W p l e (headSpec wsL_acts rmL_acts).room s m args below meth c H locs 0 0 (MQ below (va_Qi (fun r (w : QH × GV × AS) => K r w.2.2 ∧ RepA w.2.1 w.2.2) (fun w => poW (dC, dI) A (WB cI cZ cC cO Q w.1 w.2.1).flatten) A) args s 0 0 A) (F0 m 142 ls [.int y0_29, .int (cotA a 8), .int (cotA o58.2 8)]) := by
                intro y0_29 hf V u H locs ls hR hP hD hS hl
                unfold jL_acts_29 at hf
                refine lv_iadd hx hb dL_acts_142 ?_
                refine lv_icmp_ne (tgt := 150) hx hb dL_acts_143 (by decide) (fun hc => ?_) (fun hc => ?_)
                · have hf := pe hc hf
                  refine lv_iconst (v := 0) hx hb dL_acts_150 (by decide) ?_
                  exact W.zret (v := 0) (ty := .boolean) hx hb hr rfl (fun t ht hW => ⟨⟨_, (u, V, o58.2), rfl, ⟨hf, hR⟩, by rw [ht]; exact hP, hD⟩, hS.F ht⟩) hS.2.2 dL_acts_151
                · have hf := pt hc hf
                  refine lv_iconst (v := 1) hx hb dL_acts_146 (by decide) ?_
                  refine lv_goto (tgt := 151) hx hb dL_acts_147 (by decide) ?_
                  exact W.zret (v := 1) (ty := .boolean) hx hb hr rfl (fun t ht hW => ⟨⟨_, (u, V, o58.2), rfl, ⟨hf, hR⟩, by rw [ht]; exact hP, hD⟩, hS.F ht⟩) hS.2.2 dL_acts_151
              have hJ30 : jL_acts_30 a K o58 → ∀ (V : GV) (u : QH) (H : Heap) (locs : List Loc) (ls : Array Slot), RepA V o58.2 → va_P (dC, dI) vwCl (WB cI cZ cC cO Q u V).flatten H → va_D A (WB cI cZ cC cO Q u V).flatten → va_S A s.heap H locs → lv_has ls 10 [] → W p l e (headSpec wsL_acts rmL_acts).room s m args below meth c H locs 0 0 (MQ below (va_Qi (fun r (w : QH × GV × AS) => K r w.2.2 ∧ RepA w.2.1 w.2.2) (fun w => poW (dC, dI) A (WB cI cZ cC cO Q w.1 w.2.1).flatten) A) args s 0 0 A) (F0 m 137 ls [.int (cotA a 8), .int (cotA o58.2 8)]) := by
                intro hf V u H locs ls hR hP hD hS hl
                unfold jL_acts_30 at hf
                refine lv_iconst (v := 0) hx hb dL_acts_137 (by decide) ?_
                refine lv_goto (tgt := 142) hx hb dL_acts_138 (by decide) ?_
                exact hJ29 _ hf _ _ _ _ ls hR hP hD hS (lv_sub hl [] rfl)
              refine lv_if_lt (tgt := 137) hx hb dL_acts_126 (by decide) (fun hc => ?_) (fun hc => ?_)
              · have hf := pt hc hf
                exact hJ30 hf _ _ _ _ ls hR hP hD hS (lv_sub hl [] rfl)
              · have hf := pe hc hf
                refine lv_iload hx hb dL_acts_129 (lv_at hl 2 rfl) ?_
                refine lv_sipush (v := 1000) hx hb dL_acts_131 (by decide) ?_
                refine lv_icmp_lt (tgt := 141) hx hb dL_acts_134 (by decide) (fun hc => ?_) (fun hc => ?_)
                · have hf := pt hc hf
                  refine lv_iconst (v := 1) hx hb dL_acts_141 (by decide) ?_
                  exact hJ29 _ hf _ _ _ _ ls hR hP hD hS (lv_sub hl [] rfl)
                · have hf := pe hc hf
                  exact hJ30 hf _ _ _ _ ls hR hP hD hS (lv_sub hl [] rfl)
          refine lv_if_ge (tgt := 111) hx hb dL_acts_104 (by decide) (fun hc => ?_) (fun hc => ?_)
          · have hf := pt hc hf
            refine lv_iconst (v := 1) hx hb dL_acts_111 (by decide) ?_
            exact hJ28 _ hf _ _ _ _ ls hR hP hD hS (lv_sub hl [0, 2, 3] rfl)
          · have hf := pe hc hf
            refine lv_iconst (v := 0) hx hb dL_acts_107 (by decide) ?_
            refine lv_goto (tgt := 112) hx hb dL_acts_108 (by decide) ?_
            exact hJ28 _ hf _ _ _ _ ls hR hP hD hS (lv_sub hl [0, 2, 3] rfl)
      refine lv_icmp_lt (tgt := 89) hx hb dL_acts_82 (by decide) (fun hc => ?_) (fun hc => ?_)
      · have hf := pt hc hf
        refine lv_iconst (v := 0) hx hb dL_acts_89 (by decide) ?_
        exact hJ27 _ hf _ _ _ _ ls hR hP hD hS (lv_sub hl [7, 2, 1, 0] rfl)
      · have hf := pe hc hf
        refine lv_iconst (v := 1) hx hb dL_acts_85 (by decide) ?_
        refine lv_goto (tgt := 90) hx hb dL_acts_86 (by decide) ?_
        exact hJ27 _ hf _ _ _ _ ls hR hP hD hS (lv_sub hl [7, 2, 1, 0] rfl)
