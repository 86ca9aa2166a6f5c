set_option maxHeartbeats 20000000 in
set_option maxRecDepth 100000 in
theorem law_loop_open {p : Program} {l : Launch} {e : Env} {s : State} {m : MethodId} {below : List Frame} {meth : Method} {c : Code} {dC : Nat → ClassId} {dI : Nat → Nat → Nat} {cI cZ cC cO : ClassId} {b L : Nat} {xs : Nat → Int32} {I : GV → GX8 → Prop} (hL : L ≤ 1536) (C0 : lw_At p s m meth c b L xs) (hK0 : va_K (dC, dI) vwCl (wTys cI cZ cC cO) s) (hN0 : NN s) (Q : Nat → Nat → Nat) (q8 : Nat → Nat) (h_begin : st_begin I) (h_lot : st_lot I) (h_go : st_go I) (h_rain : st_rain I) (h_breakOff : st_breakOff I) (h_wash : st_wash I) (h_set : st_set I) (h_append : st_append I) (h_clear : st_clear I) (h_fault : st_fault I) (h_carryOut : st_carryOut I) (h_why : st_why I) (h_cell : st_cell I) (h_grain : st_grain I) (h_screens : st_screens I) (h_ring : st_ring I) (h_apart : st_apart I) (h_longest : st_longest I) (h_count : st_count I) (h_density : st_density I) (h_ifGone : st_ifGone I) (h_ifBroken : st_ifBroken I) (h_undo : st_undo I) (h_save : st_save I) (h_restore : st_restore I) : ∀ (n k : Nat), k ≤ L + 2 → L + 3 ≤ k + n → LC p l e s m below meth c b k dC dI cI cZ cC cO Q q8 I 18 := by
  obtain ⟨hx, hb, hr, hml, hown, hts00, hX, hbl, hlocks, hgv⟩ := C0
  have hts0 : ∀ w ∈ wsL_law, w.before #[Value.ref b] s = true := fun w h => hts00 w (wsL_law_in w h)
  have hA : ∀ q : Nat, s.heap.size ≤ q → (fun q : Nat => s.heap.size ≤ q) q := fun _ h => h
  have hbA : ¬ (fun q : Nat => s.heap.size ≤ q) b := Nat.not_le.mpr hbl
  have F : LF p s m c b L xs dC dI cI cZ cC cO := ⟨hx, hb, hml, hown, hts0, hX, hbl, hK0, hN0⟩
  intro n
  induction n with
  | zero => intro k h1 h2; exact absurd h2 (by omega)
  | succ n ih =>
    intro k hk hkn V G hI u d0 hd0 H locs ls hP hD hS hl
    have hts : ∀ w ∈ wsL_law, w.before #[Value.ref b] (s.setDrawn d0) = true := dr_words hts0 d0
    have hK : va_K (dC, dI) vwCl (wTys cI cZ cC cO) (s.setDrawn d0) := hK0
    have hN : NN (s.setDrawn d0) := hN0
    have hX : va_X b L xs (s.setDrawn d0) s.heap := hX
    refine lv_iload_n hx hb dL_law_18 rfl (lv_at hl 0 rfl) ?_
    refine lv_aload_n hx hb dL_law_19 rfl (lv_at hl 3 rfl) ?_
    refine va_slen hx hb hX hbl hbA hS dL_law_20 ?_
    refine lv_iconst (v := 3) hx hb dL_law_21 (by decide) ?_
    refine lv_isub hx hb dL_law_22 ?_
    refine lv_icmp_gt (tgt := 737) hx hb dL_law_23 (by decide) (fun hc => ?_) (fun hc => ?_)
    · refine lv_iconst (v := 1) hx hb dL_law_737 (by decide) ?_
      refine va_forget (fun q hq => hS.2.2 q hq) ?_
      refine W.widen (k := 600000) (n := 7302250) (Nat.le_of_ble_eq_true rfl) (Nat.le_of_ble_eq_true rfl) ?_
      exact lw_ret hd0 hx hb hr hlocks dL_law_738
    have hk3 : k + 3 ≤ L := law_le hL hk hc
    have hJ : LC p l e s m below meth c b k dC dI cI cZ cC cO Q q8 I 731 := by
      intro V G hI u d0 hd0 H locs ls hP hD hS hl
      refine lv_iinc (v := nI (k + 3)) (lv' := [(3, .int (nI (k + 3))), (2, .ref (q8 0)), (1, .ref (Q 0 0)), (0, .ref b)]) hx hb dL_law_731 hl (k := 0) rfl (nI_add k 3) (by decide) rfl (fun ls hl => ?_)
      refine lv_goto (tgt := 18) hx hb dL_law_734 (by decide) ?_
      exact ih (k + 3) (by omega) (by omega) V G hI u d0 hd0 H locs ls hP hD hS hl
    have hi0 : vp_in (nI k) L := vp_in_nI (by omega) (by omega)
    refine lv_aload_n hx hb dL_law_26 rfl (lv_at hl 3 rfl) ?_
    refine lv_iload_n hx hb dL_law_27 rfl (lv_at hl 0 rfl) ?_
    refine va_sld hx hb hX hbl hbA hS hi0 dL_law_28 ?_
    refine lv_bipush (v := 31) hx hb dL_law_29 (by decide) ?_
    refine lv_iand hx hb dL_law_31 ?_
    obtain ⟨sw, hsw⟩ : ∃ z : Int32, z = xs (nI k).toNatClampNeg &&& 31 := ⟨_, rfl⟩
    rw [← hsw]
    by_cases hs0 : sw = 0
    · refine lv_tableIn (off := 116) (tgt := 148) hx hb dL_law_32 (by rw [hs0]; decide) (by rw [hs0]; decide) (by rw [hs0]; rfl) (by decide) ?_
      exact lc_begin F hL hk3 h_begin hJ V G hI u d0 hd0 H locs ls hP hD hS hl
    by_cases hs1 : sw = 1
    · refine lv_tableIn (off := 139) (tgt := 171) hx hb dL_law_32 (by rw [hs1]; decide) (by rw [hs1]; decide) (by rw [hs1]; rfl) (by decide) ?_
      exact lc_lot F hL hk3 h_lot hJ V G hI u d0 hd0 H locs ls hP hD hS hl
    by_cases hs2 : sw = 2
    · refine lv_tableIn (off := 162) (tgt := 194) hx hb dL_law_32 (by rw [hs2]; decide) (by rw [hs2]; decide) (by rw [hs2]; rfl) (by decide) ?_
      exact lc_go F hL hk3 h_go hJ V G hI u d0 hd0 H locs ls hP hD hS hl
    by_cases hs3 : sw = 3
    · refine lv_tableIn (off := 185) (tgt := 217) hx hb dL_law_32 (by rw [hs3]; decide) (by rw [hs3]; decide) (by rw [hs3]; rfl) (by decide) ?_
      exact lc_rain F hL hk3 h_rain hJ V G hI u d0 hd0 H locs ls hP hD hS hl
    by_cases hs4 : sw = 4
    · refine lv_tableIn (off := 208) (tgt := 240) hx hb dL_law_32 (by rw [hs4]; decide) (by rw [hs4]; decide) (by rw [hs4]; rfl) (by decide) ?_
      exact lc_breakOff F hL hk3 h_breakOff hJ V G hI u d0 hd0 H locs ls hP hD hS hl
    by_cases hs5 : sw = 5
    · refine lv_tableIn (off := 231) (tgt := 263) hx hb dL_law_32 (by rw [hs5]; decide) (by rw [hs5]; decide) (by rw [hs5]; rfl) (by decide) ?_
      exact lc_wash F hL hk3 h_wash hJ V G hI u d0 hd0 H locs ls hP hD hS hl
    by_cases hs6 : sw = 6
    · refine lv_tableIn (off := 244) (tgt := 276) hx hb dL_law_32 (by rw [hs6]; decide) (by rw [hs6]; decide) (by rw [hs6]; rfl) (by decide) ?_
      exact lc_set F hL hk3 h_set hJ V G hI u d0 hd0 H locs ls hP hD hS hl
    by_cases hs7 : sw = 7
    · refine lv_tableIn (off := 277) (tgt := 309) hx hb dL_law_32 (by rw [hs7]; decide) (by rw [hs7]; decide) (by rw [hs7]; rfl) (by decide) ?_
      exact lc_append F hL hk3 h_append hJ V G hI u d0 hd0 H locs ls hP hD hS hl
    by_cases hs8 : sw = 8
    · refine lv_tableIn (off := 300) (tgt := 332) hx hb dL_law_32 (by rw [hs8]; decide) (by rw [hs8]; decide) (by rw [hs8]; rfl) (by decide) ?_
      exact lc_clear F hL hk3 h_clear hJ V G hI u d0 hd0 H locs ls hP hD hS hl
    by_cases hs9 : sw = 9
    · refine lv_tableIn (off := 313) (tgt := 345) hx hb dL_law_32 (by rw [hs9]; decide) (by rw [hs9]; decide) (by rw [hs9]; rfl) (by decide) ?_
      exact lc_fault F hL hk3 h_fault hJ V G hI u d0 hd0 H locs ls hP hD hS hl
    by_cases hs10 : sw = 10
    · refine lv_tableIn (off := 326) (tgt := 358) hx hb dL_law_32 (by rw [hs10]; decide) (by rw [hs10]; decide) (by rw [hs10]; rfl) (by decide) ?_
      exact lc_carryOut F hL hk3 h_carryOut hJ V G hI u d0 hd0 H locs ls hP hD hS hl
    by_cases hs11 : sw = 11
    · refine lv_tableIn (off := 339) (tgt := 371) hx hb dL_law_32 (by rw [hs11]; decide) (by rw [hs11]; decide) (by rw [hs11]; rfl) (by decide) ?_
      exact lc_why F hL hk3 h_why hJ V G hI u d0 hd0 H locs ls hP hD hS hl
    by_cases hs12 : sw = 12
    · refine lv_tableIn (off := 362) (tgt := 394) hx hb dL_law_32 (by rw [hs12]; decide) (by rw [hs12]; decide) (by rw [hs12]; rfl) (by decide) ?_
      exact lc_cell F hL hk3 h_cell hJ V G hI u d0 hd0 H locs ls hP hD hS hl
    by_cases hs13 : sw = 13
    · refine lv_tableIn (off := 395) (tgt := 427) hx hb dL_law_32 (by rw [hs13]; decide) (by rw [hs13]; decide) (by rw [hs13]; rfl) (by decide) ?_
      exact lc_grain F hL hk3 h_grain hJ V G hI u d0 hd0 H locs ls hP hD hS hl
    by_cases hs14 : sw = 14
    · refine lv_tableIn (off := 428) (tgt := 460) hx hb dL_law_32 (by rw [hs14]; decide) (by rw [hs14]; decide) (by rw [hs14]; rfl) (by decide) ?_
      exact lc_screens F hL hk3 h_screens hJ V G hI u d0 hd0 H locs ls hP hD hS hl
    by_cases hs15 : sw = 15
    · refine lv_tableIn (off := 451) (tgt := 483) hx hb dL_law_32 (by rw [hs15]; decide) (by rw [hs15]; decide) (by rw [hs15]; rfl) (by decide) ?_
      exact lc_ring F hL hk3 h_ring hJ V G hI u d0 hd0 H locs ls hP hD hS hl
    by_cases hs16 : sw = 16
    · refine lv_tableIn (off := 474) (tgt := 506) hx hb dL_law_32 (by rw [hs16]; decide) (by rw [hs16]; decide) (by rw [hs16]; rfl) (by decide) ?_
      exact lc_apart F hL hk3 h_apart hJ V G hI u d0 hd0 H locs ls hP hD hS hl
    by_cases hs17 : sw = 17
    · refine lv_tableIn (off := 507) (tgt := 539) hx hb dL_law_32 (by rw [hs17]; decide) (by rw [hs17]; decide) (by rw [hs17]; rfl) (by decide) ?_
      exact lc_longest F hL hk3 h_longest hJ V G hI u d0 hd0 H locs ls hP hD hS hl
    by_cases hs18 : sw = 18
    · refine lv_tableIn (off := 530) (tgt := 562) hx hb dL_law_32 (by rw [hs18]; decide) (by rw [hs18]; decide) (by rw [hs18]; rfl) (by decide) ?_
      exact lc_count F hL hk3 h_count hJ V G hI u d0 hd0 H locs ls hP hD hS hl
    by_cases hs19 : sw = 19
    · refine lv_tableIn (off := 553) (tgt := 585) hx hb dL_law_32 (by rw [hs19]; decide) (by rw [hs19]; decide) (by rw [hs19]; rfl) (by decide) ?_
      exact lc_density F hL hk3 h_density hJ V G hI u d0 hd0 H locs ls hP hD hS hl
    by_cases hs20 : sw = 20
    · refine lv_tableIn (off := 594) (tgt := 626) hx hb dL_law_32 (by rw [hs20]; decide) (by rw [hs20]; decide) (by rw [hs20]; rfl) (by decide) ?_
      exact lc_ifGone F hL hk3 h_ifGone hJ V G hI u d0 hd0 H locs ls hP hD hS hl
    by_cases hs21 : sw = 21
    · refine lv_tableIn (off := 627) (tgt := 659) hx hb dL_law_32 (by rw [hs21]; decide) (by rw [hs21]; decide) (by rw [hs21]; rfl) (by decide) ?_
      exact lc_ifBroken F hL hk3 h_ifBroken hJ V G hI u d0 hd0 H locs ls hP hD hS hl
    by_cases hs22 : sw = 22
    · refine lv_tableIn (off := 660) (tgt := 692) hx hb dL_law_32 (by rw [hs22]; decide) (by rw [hs22]; decide) (by rw [hs22]; rfl) (by decide) ?_
      exact lc_undo F hL hk3 h_undo hJ V G hI u d0 hd0 H locs ls hP hD hS hl
    by_cases hs23 : sw = 23
    · refine lv_tableIn (off := 673) (tgt := 705) hx hb dL_law_32 (by rw [hs23]; decide) (by rw [hs23]; decide) (by rw [hs23]; rfl) (by decide) ?_
      exact lc_save F hL hk3 h_save hJ V G hI u d0 hd0 H locs ls hP hD hS hl
    by_cases hs24 : sw = 24
    · refine lv_tableIn (off := 686) (tgt := 718) hx hb dL_law_32 (by rw [hs24]; decide) (by rw [hs24]; decide) (by rw [hs24]; rfl) (by decide) ?_
      exact lc_restore F hL hk3 h_restore hJ V G hI u d0 hd0 H locs ls hP hD hS hl
    have hT0 := lv_neT (a := 0) hs0 rfl
    have hT1 := lv_neT (a := 1) hs1 rfl
    have hT2 := lv_neT (a := 2) hs2 rfl
    have hT3 := lv_neT (a := 3) hs3 rfl
    have hT4 := lv_neT (a := 4) hs4 rfl
    have hT5 := lv_neT (a := 5) hs5 rfl
    have hT6 := lv_neT (a := 6) hs6 rfl
    have hT7 := lv_neT (a := 7) hs7 rfl
    have hT8 := lv_neT (a := 8) hs8 rfl
    have hT9 := lv_neT (a := 9) hs9 rfl
    have hT10 := lv_neT (a := 10) hs10 rfl
    have hT11 := lv_neT (a := 11) hs11 rfl
    have hT12 := lv_neT (a := 12) hs12 rfl
    have hT13 := lv_neT (a := 13) hs13 rfl
    have hT14 := lv_neT (a := 14) hs14 rfl
    have hT15 := lv_neT (a := 15) hs15 rfl
    have hT16 := lv_neT (a := 16) hs16 rfl
    have hT17 := lv_neT (a := 17) hs17 rfl
    have hT18 := lv_neT (a := 18) hs18 rfl
    have hT19 := lv_neT (a := 19) hs19 rfl
    have hT20 := lv_neT (a := 20) hs20 rfl
    have hT21 := lv_neT (a := 21) hs21 rfl
    have hT22 := lv_neT (a := 22) hs22 rfl
    have hT23 := lv_neT (a := 23) hs23 rfl
    have hT24 := lv_neT (a := 24) hs24 rfl
    refine lv_tableOut (tgt := 731) hx hb dL_law_32 (by omega) (by decide) ?_
    exact hJ V G hI u d0 hd0 H locs ls hP hD hS hl
