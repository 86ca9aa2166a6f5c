def tL_look_32 (a : AS) (s32 : Int64 × Int32) (KB32 : (Int64 × Int32) → Prop) (KX32 : (Int64) → Prop) : Prop :=
  (if (11 : Int32) ≤ s32.2 then KX32 s32.1 else KB32 ((((31 : Int64) * s32.1) + (Int32.toInt64 ((cotA a s32.2)))), (s32.2 + 1)))
def tL_look_60 (a : AS) (s60 : Int64 × Int32) (KB60 : (Int64 × Int32) → Prop) (KX60 : (Int64) → Prop) : Prop :=
  (if (17 : Int32) ≤ s60.2 then KX60 s60.1 else KB60 ((((31 : Int64) * s60.1) + (Int32.toInt64 ((cotA a s60.2)))), (s60.2 + 1)))
def tL_look_87 (a : AS) (s87 : Int64 × Int32) (KB87 : (Int64 × Int32) → Prop) (KX87 : (Int64) → Prop) : Prop :=
  (if (cotA a 0) ≤ s87.2 then KX87 s87.1 else KB87 ((((31 : Int64) * (((31 : Int64) * (((31 : Int64) * s87.1) + (Int32.toInt64 ((grnA a.1 s87.2 0))))) + (Int32.toInt64 ((grnA a.1 s87.2 1))))) + (Int32.toInt64 ((grnA a.1 s87.2 8)))), (s87.2 + 1)))
def gL_look (a : AS) (K : Int64 → Prop) : Prop :=
  (lpP (tL_look_32 a) FU ((((31 : Int64) * (((31 : Int64) * (379 : Int64)) + (Int32.toInt64 ((cotA a 0))))) + (Int32.toInt64 ((cotA a 17)))), 7) fun o32 => (lpP (tL_look_60 a) FU (o32, 13) fun o60 => (lpP (tL_look_87 a) FU (o60, 0) fun o87 => K o87)))
abbrev rmL_look : Room := { frames := 5, cells := 0, slots := 0, locals := 114 }
def jL_number_2 (i1 : Int32) (K : Int32 → AS → Prop) (a_2 : AS) : Prop :=
  (bd (padA a_2 (appA a_2.2.2.2.1 ((48 + (jrem i1 10))))) fun o51 => (if o51.1 ≤ 0 then K 0 o51.2 else K 1 o51.2))
def jL_number_1 (i1 : Int32) (K : Int32 → AS → Prop) (a_1 : AS) : Prop :=
  (if i1 < (10 : Int32) then jL_number_2 i1 K a_1 else (bd (padA a_1 (appA a_1.2.2.2.1 ((48 + (jrem (i1 / 10) 10))))) fun o37 => (if o37.1 ≤ 0 then K 0 o37.2 else jL_number_2 i1 K o37.2)))
def gL_number (i1 : Int32) (a : AS) (K : Int32 → AS → Prop) : Prop :=
  (if i1 < (100 : Int32) then jL_number_1 i1 K a else (bd (padA a (appA a.2.2.2.1 ((48 + (i1 / 100))))) fun o14 => (if o14.1 ≤ 0 then K 0 o14.2 else jL_number_1 i1 K o14.2)))
abbrev rmL_number : Room := { frames := 2, cells := 0, slots := 0, locals := 42 }
def jL_types_2 (s23 : Int32 × Int32 × AS) (KB23 : (Int32 × Int32 × AS) → Prop) (y0_2 : Int32) (a_2 : AS) : Prop :=
  KB23 (y0_2, (s23.2.1 + 1), a_2)
def jL_types_3 (s23 : Int32 × Int32 × AS) (KB23 : (Int32 × Int32 × AS) → Prop) (a_3 : AS) : Prop :=
  jL_types_2 s23 KB23 0 a_3
def jL_types_6 (s23 : Int32 × Int32 × AS) (KB23 : (Int32 × Int32 × AS) → Prop) (a_6 : AS) : Prop :=
  jL_types_2 s23 KB23 1 a_6
def jL_types_7 (s23 : Int32 × Int32 × AS) (KB23 : (Int32 × Int32 × AS) → Prop) (o91 : Int32 × AS) (y0_7 : Int32) : Prop :=
  (gL_number y0_7 o91.2 fun r165 a165 => (if r165 = 0 then jL_types_3 s23 KB23 a165 else jL_types_6 s23 KB23 a165))
def jL_types_8 (i1 : Int32) (s23 : Int32 × Int32 × AS) (KB23 : (Int32 × Int32 × AS) → Prop) (o91 : Int32 × AS) (y0_8 : Int32) : Prop :=
  (¬ y0_8 = 0 ∧ jL_types_7 s23 KB23 o91 ((lwA28 (((i1 >>> ((2 + (2 * s23.2.1)) &&& 31)) >>> (2 &&& 31))) y0_8)))
def jL_types_9 (i1 : Int32) (s23 : Int32 × Int32 × AS) (KB23 : (Int32 × Int32 × AS) → Prop) (o91 : Int32 × AS) (y0_9 : Int32) : Prop :=
  (¬ y0_9 = 0 ∧ jL_types_7 s23 KB23 o91 ((lwA28 (((i1 >>> ((2 + (2 * s23.2.1)) &&& 31)) >>> (2 &&& 31))) y0_9)))
def jL_types_5 (i1 : Int32) (s23 : Int32 × Int32 × AS) (KB23 : (Int32 × Int32 × AS) → Prop) (a_4 : AS) (y0_5 : Int32) : Prop :=
  (bd (padA a_4 (appA a_4.2.2.2.1 y0_5)) fun o91 => (if o91.1 ≤ 0 then jL_types_3 s23 KB23 o91.2 else (if (lwA28 ((i1 >>> ((2 + (2 * s23.2.1)) &&& 31))) 7) = (6 : Int32) then jL_types_6 s23 KB23 o91.2 else (if (5 : Int32) ≤ (lwA28 ((i1 >>> ((2 + (2 * s23.2.1)) &&& 31))) 7) then (if (lwA28 ((i1 >>> (23 &&& 31))) 5) = 0 then jL_types_8 i1 s23 KB23 o91 125 else jL_types_8 i1 s23 KB23 o91 9) else (if (lwA28 ((i1 >>> (22 &&& 31))) 9) = 0 then jL_types_9 i1 s23 KB23 o91 44 else jL_types_9 i1 s23 KB23 o91 40)))))
def jL_types_4 (i1 : Int32) (s23 : Int32 × Int32 × AS) (KB23 : (Int32 × Int32 × AS) → Prop) (a_4 : AS) : Prop :=
  (if (5 : Int32) ≤ (lwA28 ((i1 >>> ((2 + (2 * s23.2.1)) &&& 31))) 7) then (if (lwA28 ((i1 >>> ((2 + (2 * s23.2.1)) &&& 31))) 7) = (5 : Int32) then jL_types_5 i1 s23 KB23 a_4 98 else jL_types_5 i1 s23 KB23 a_4 119) else jL_types_5 i1 s23 KB23 a_4 103)
def tL_types_23 (i1 : Int32) (s23 : Int32 × Int32 × AS) (KB23 : (Int32 × Int32 × AS) → Prop) (KX23 : (Int32 × AS) → Prop) : Prop :=
  (if (lwA28 i1 9) ≤ s23.2.1 then KX23 (s23.1, s23.2.2) else (if s23.1 = 0 then jL_types_3 s23 KB23 s23.2.2 else (if s23.2.1 = 0 then jL_types_4 i1 s23 KB23 s23.2.2 else (bd (padA s23.2.2 (appA s23.2.2.2.2.2.1 59)) fun o60 => (if o60.1 ≤ 0 then jL_types_3 s23 KB23 o60.2 else jL_types_4 i1 s23 KB23 o60.2)))))
def jL_types_10 (K : Int32 → AS → Prop) (a_10 : AS) : Prop :=
  K 1 a_10
def jL_types_1 (i1 : Int32) (K : Int32 → AS → Prop) (o8 : Int32 × AS) (y0_1 : Int32) : Prop :=
  (lpP (tL_types_23 i1) FU (y0_1, 0, o8.2) fun o23 => (if o23.1 = 0 then K 0 o23.2 else (if (0 : Int32) < (lwA28 ((i1 >>> (26 &&& 31))) 6) then jL_types_10 K o23.2 else (bd (padA o23.2 (appA o23.2.2.2.2.1 59)) fun o202 => (if o202.1 ≤ 0 then K 0 o202.2 else jL_types_10 K o202.2)))))
def gL_types (i1 : Int32) (a : AS) (K : Int32 → AS → Prop) : Prop :=
  (bd (padA a (clrA a.2.2.2.1)) fun o8 => (if o8.1 < 0 then jL_types_1 i1 K o8 0 else jL_types_1 i1 K o8 1))
abbrev rmL_types : Room := { frames := 3, cells := 0, slots := 0, locals := 63 }
def jL_carries_3 (K : Int32 → AS → Prop) (o63 : Int32 × AS) : Prop :=
  K 1 o63.2
def jL_carries_4 (K : Int32 → AS → Prop) (a37 : AS) (r57 : Int32) (o63 : Int32 × AS) : Prop :=
  (if (whyA o63.2.2.2.2.2 1) = r57 then (if (whyA o63.2.2.2.2.2 2) < (2 * r57) then K 0 o63.2 else (if (cotA a37 18) ≤ (whyA o63.2.2.2.2.2 2) then K 0 o63.2 else jL_carries_3 K o63)) else K 0 o63.2)
def jL_carries_2 (i1 : Int32) (K : Int32 → AS → Prop) (a37 : AS) (r57 : Int32) (o63 : Int32 × AS) (y0_2 : Int32) : Prop :=
  (if (cotA o63.2 19) = y0_2 then (if r57 = (lwA28 i1 9) then (if (whyA o63.2.2.2.2.2 0) = (-4 : Int32) then (if (whyA o63.2.2.2.2.2 1) = (-4 : Int32) then (if (whyA o63.2.2.2.2.2 2) = (-4 : Int32) then jL_carries_3 K o63 else K 0 o63.2) else K 0 o63.2) else K 0 o63.2) else (if (whyA o63.2.2.2.2.2 0) = (-1 : Int32) then jL_carries_4 K a37 r57 o63 else (if (whyA o63.2.2.2.2.2 0) = (-2 : Int32) then jL_carries_4 K a37 r57 o63 else K 0 o63.2))) else K 0 o63.2)
def jL_carries_1 (i1 : Int32) (a : AS) (K : Int32 → AS → Prop) (r1 : Int64) (a37 : AS) (r57 : Int32) (o63 : Int32 × AS) (y0_1 : Int32) : Prop :=
  (if (oI (fwT a37.2.2.2.1.2 a37.2.2.2.1.1)) = (-4 : Int32) then (if y0_1 = 0 then K 0 o63.2 else (if r57 < 0 then K 0 o63.2 else (if (lwA28 i1 9) < r57 then K 0 o63.2 else (if o63.1 = 0 then (if (4 : Int32) ≤ (cotA a 19) then jL_carries_2 i1 K a37 r57 o63 4 else jL_carries_2 i1 K a37 r57 o63 (((cotA a 19) + 1))) else K 0 o63.2)))) else (if y0_1 = 0 then K 0 o63.2 else (if (oI (fwT a37.2.2.2.1.2 a37.2.2.2.1.1)) < 0 then K 0 o63.2 else (if (cotA a37 18) < (oI (fwT a37.2.2.2.1.2 a37.2.2.2.1.1)) then K 0 o63.2 else (if o63.1 = (cotA a37 18) then (gL_look o63.2 fun r139 => (if (lg_cmp r139 r1) = 0 then (if (cotA o63.2 19) = (cotA a 19) then (if (whyA o63.2.2.2.2.2 0) = (whyA a.2.2.2.2 0) then (if (whyA o63.2.2.2.2.2 2) = (whyA a.2.2.2.2 2) then K 1 o63.2 else K 0 o63.2) else K 0 o63.2) else K 0 o63.2) else K 0 o63.2)) else K 0 o63.2)))))
def jL_carries_5 (i1 : Int32) (a : AS) (K : Int32 → AS → Prop) (r1 : Int64) (a37 : AS) (r57 : Int32) (o63 : Int32 × AS) : Prop :=
  jL_carries_1 i1 a K r1 a37 r57 o63 0
def jL_carries_7 (i1 : Int32) (a : AS) (K : Int32 → AS → Prop) (r1 : Int64) (a37 : AS) (r57 : Int32) (o63 : Int32 × AS) (y0_6 : Int32) (y0_7 : Int32) : Prop :=
  (if y0_6 = y0_7 then jL_carries_1 i1 a K r1 a37 r57 o63 1 else jL_carries_5 i1 a K r1 a37 r57 o63)
def jL_carries_6 (i1 : Int32) (a : AS) (K : Int32 → AS → Prop) (r1 : Int64) (a37 : AS) (r57 : Int32) (o63 : Int32 × AS) (y0_6 : Int32) : Prop :=
  (if (oI (fwT a37.2.2.2.1.2 a37.2.2.2.1.1)) = (-4 : Int32) then jL_carries_7 i1 a K r1 a37 r57 o63 y0_6 0 else jL_carries_7 i1 a K r1 a37 r57 o63 y0_6 1)
def gL_carries (i1 : Int32) (a : AS) (K : Int32 → AS → Prop) : Prop :=
  (gL_look a fun r1 => (gL_types i1 a fun r37 a37 => (∀ (r57 : Int32) (a57 : AS), carP a37 r57 a57 → IA a57 → (bd (padA a57 (clrA a57.2.2.2.1)) fun o63 => (if r37 = 0 then jL_carries_5 i1 a K r1 a37 r57 o63 else (if r57 = (-2 : Int32) then jL_carries_6 i1 a K r1 a37 r57 o63 1 else jL_carries_6 i1 a K r1 a37 r57 o63 0))))))
abbrev rmL_carries : Room := { frames := 7, cells := 0, slots := 0, locals := 159 }
def jL_would_10 (i1 : Int32) (a : AS) (K : Int32 → Prop) (y0_9 : Int32) (y0_10 : Int32) : Prop :=
  (if y0_9 = y0_10 then (if (lngA a.1 0) < (aptA a.1 ((lwA28 ((i1 >>> (4 &&& 31))) ((cotA a 0)))) ((lwA28 ((i1 >>> (12 &&& 31))) ((cotA a 0))))) then K 0 else K 1) else K 0)
def jL_would_9 (i1 : Int32) (a : AS) (K : Int32 → Prop) (y0_9 : Int32) : Prop :=
  (if (grnA a.1 ((lwA28 ((i1 >>> (4 &&& 31))) ((cotA a 0)))) 7) = (grnA a.1 ((lwA28 ((i1 >>> (12 &&& 31))) ((cotA a 0)))) 7) then jL_would_10 i1 a K y0_9 0 else jL_would_10 i1 a K y0_9 1)
def jL_would_8 (i1 : Int32) (a : AS) (K : Int32 → Prop) (y0_7 : Int32) (y0_8 : Int32) : Prop :=
  (if y0_7 = y0_8 then (if (aptA a.1 ((lwA28 ((i1 >>> (4 &&& 31))) ((cotA a 0)))) ((lwA28 ((i1 >>> (12 &&& 31))) ((cotA a 0))))) = (-4 : Int32) then jL_would_9 i1 a K 1 else jL_would_9 i1 a K 0) else K 0)
def jL_would_7 (i1 : Int32) (a : AS) (K : Int32 → Prop) (y0_7 : Int32) : Prop :=
  (if (lwA28 ((i1 >>> (4 &&& 31))) ((cotA a 0))) = (lwA28 ((i1 >>> (12 &&& 31))) ((cotA a 0))) then jL_would_8 i1 a K y0_7 1 else jL_would_8 i1 a K y0_7 0)
def jL_would_6 (i1 : Int32) (a : AS) (K : Int32 → Prop) (y0_6 : Int32) : Prop :=
  (if y0_6 = 0 then K 0 else (if (aptA a.1 ((lwA28 ((i1 >>> (4 &&& 31))) ((cotA a 0)))) ((lwA28 ((i1 >>> (12 &&& 31))) ((cotA a 0))))) = (aptA a.1 ((lwA28 ((i1 >>> (12 &&& 31))) ((cotA a 0)))) ((lwA28 ((i1 >>> (4 &&& 31))) ((cotA a 0))))) then (if (aptA a.1 ((lwA28 ((i1 >>> (4 &&& 31))) ((cotA a 0)))) ((lwA28 ((i1 >>> (12 &&& 31))) ((cotA a 0))))) = 0 then jL_would_7 i1 a K 1 else jL_would_7 i1 a K 0) else K 0))
def jL_would_11 (i1 : Int32) (a : AS) (K : Int32 → Prop) : Prop :=
  jL_would_6 i1 a K 0
def jL_would_13 (i1 : Int32) (a : AS) (K : Int32 → Prop) : Prop :=
  jL_would_6 i1 a K 1
def jL_would_14 (i1 : Int32) (a : AS) (K : Int32 → Prop) (y0_14 : Int32) : Prop :=
  (if y0_14 < (ifbA a.1 ((lwA28 ((i1 >>> (9 &&& 31))) (((cotA a 0) + 1)))) (((lwA28 ((i1 >>> (16 &&& 31))) 6) - 1))) then jL_would_11 i1 a K else jL_would_13 i1 a K)
def jL_would_12 (i1 : Int32) (a : AS) (K : Int32 → Prop) (y0_5 : Int32) : Prop :=
  (if y0_5 = 0 then (if (grnA a.1 ((lwA28 ((i1 >>> (9 &&& 31))) (((cotA a 0) + 1)))) 1) = (-4 : Int32) then (if (ifbA a.1 ((lwA28 ((i1 >>> (9 &&& 31))) (((cotA a 0) + 1)))) (((lwA28 ((i1 >>> (16 &&& 31))) 6) - 1))) = (-2 : Int32) then jL_would_13 i1 a K else jL_would_11 i1 a K) else (if (ifbA a.1 ((lwA28 ((i1 >>> (9 &&& 31))) (((cotA a 0) + 1)))) (((lwA28 ((i1 >>> (16 &&& 31))) 6) - 1))) < 0 then jL_would_11 i1 a K else (if ((lwA28 ((i1 >>> (16 &&& 31))) 6) - 1) = 0 then jL_would_14 i1 a K (((cotA a 0) - 1)) else (if ((lwA28 ((i1 >>> (16 &&& 31))) 6) - 1) = (1 : Int32) then jL_would_14 i1 a K ((cotA a 5)) else (if ((lwA28 ((i1 >>> (16 &&& 31))) 6) - 1) = (2 : Int32) then jL_would_14 i1 a K ((cotA a 4)) else jL_would_14 i1 a K 40))))) else (if (ifbA a.1 ((lwA28 ((i1 >>> (9 &&& 31))) (((cotA a 0) + 1)))) (((lwA28 ((i1 >>> (16 &&& 31))) 6) - 1))) = (-1 : Int32) then jL_would_13 i1 a K else jL_would_11 i1 a K))
def jL_would_5 (i1 : Int32) (a : AS) (K : Int32 → Prop) (y0_3 : Int32) (y0_4 : Int32) (y0_5 : Int32) : Prop :=
  (¬ (cotA a 0) = 0 ∧ (¬ (cotA a 0) = 0 ∧ (if y0_3 = 0 then (if y0_4 = 0 then (if ((lwA28 ((i1 >>> (6 &&& 31))) 5) - 1) = (1 : Int32) then (if (ifgA a.1 (((lwA28 i1 42) - 1)) (((lwA28 ((i1 >>> (6 &&& 31))) 5) - 1))) < 0 then jL_would_11 i1 a K else (if (121 : Int32) ≤ (ifgA a.1 (((lwA28 i1 42) - 1)) (((lwA28 ((i1 >>> (6 &&& 31))) 5) - 1))) then jL_would_11 i1 a K else (if (celA a.1 ((ifgA a.1 (((lwA28 i1 42) - 1)) (((lwA28 ((i1 >>> (6 &&& 31))) 5) - 1)))) 0) = (-4 : Int32) then jL_would_12 i1 a K y0_5 else jL_would_11 i1 a K))) else (if ((lwA28 ((i1 >>> (6 &&& 31))) 5) - 1) = (2 : Int32) then (if (ifgA a.1 (((lwA28 i1 42) - 1)) (((lwA28 ((i1 >>> (6 &&& 31))) 5) - 1))) < (1 : Int32) then jL_would_11 i1 a K else (if (401 : Int32) < (ifgA a.1 (((lwA28 i1 42) - 1)) (((lwA28 ((i1 >>> (6 &&& 31))) 5) - 1))) then jL_would_11 i1 a K else jL_would_12 i1 a K y0_5)) else (if (ifgA a.1 (((lwA28 i1 42) - 1)) (((lwA28 ((i1 >>> (6 &&& 31))) 5) - 1))) < (1000 : Int32) then (if (ifgA a.1 (((lwA28 i1 42) - 1)) (((lwA28 ((i1 >>> (6 &&& 31))) 5) - 1))) < (1 : Int32) then jL_would_11 i1 a K else (if (cotA a 14) < (ifgA a.1 (((lwA28 i1 42) - 1)) (((lwA28 ((i1 >>> (6 &&& 31))) 5) - 1))) then jL_would_11 i1 a K else jL_would_12 i1 a K y0_5)) else (if (celA a.1 (((ifgA a.1 (((lwA28 i1 42) - 1)) (((lwA28 ((i1 >>> (6 &&& 31))) 5) - 1))) - 1000)) 2) ≤ 0 then jL_would_11 i1 a K else jL_would_12 i1 a K y0_5)))) else (if (ifgA a.1 (((lwA28 i1 42) - 1)) (((lwA28 ((i1 >>> (6 &&& 31))) 5) - 1))) = (-2 : Int32) then jL_would_12 i1 a K y0_5 else jL_would_11 i1 a K)) else (if (ifgA a.1 (((lwA28 i1 42) - 1)) (((lwA28 ((i1 >>> (6 &&& 31))) 5) - 1))) = (-1 : Int32) then jL_would_12 i1 a K y0_5 else jL_would_11 i1 a K))))
def jL_would_15 (i1 : Int32) (a : AS) (K : Int32 → Prop) (y0_3 : Int32) (y0_4 : Int32) : Prop :=
  jL_would_5 i1 a K y0_3 y0_4 1
def jL_would_4 (i1 : Int32) (a : AS) (K : Int32 → Prop) (y0_3 : Int32) (y0_4 : Int32) : Prop :=
  (¬ ((cotA a 0) + 1) = 0 ∧ (if (lwA28 ((i1 >>> (9 &&& 31))) (((cotA a 0) + 1))) = (cotA a 0) then jL_would_15 i1 a K y0_3 y0_4 else (if ((lwA28 ((i1 >>> (16 &&& 31))) 6) - 1) < 0 then jL_would_15 i1 a K y0_3 y0_4 else (if ((lwA28 ((i1 >>> (16 &&& 31))) 6) - 1) ≤ (3 : Int32) then jL_would_5 i1 a K y0_3 y0_4 0 else jL_would_15 i1 a K y0_3 y0_4))))
def jL_would_16 (i1 : Int32) (a : AS) (K : Int32 → Prop) (y0_3 : Int32) : Prop :=
  jL_would_4 i1 a K y0_3 0
def jL_would_3 (i1 : Int32) (a : AS) (K : Int32 → Prop) (y0_1 : Int32) (y0_2 : Int32) (y0_3 : Int32) : Prop :=
  (if y0_1 < 0 then jL_would_16 i1 a K y0_3 else (if (grnA a.1 y0_1 0) = y0_2 then jL_would_4 i1 a K y0_3 1 else jL_would_16 i1 a K y0_3))
def jL_would_17 (i1 : Int32) (a : AS) (K : Int32 → Prop) (y0_1 : Int32) (y0_2 : Int32) : Prop :=
  jL_would_3 i1 a K y0_1 y0_2 1
def jL_would_2 (i1 : Int32) (a : AS) (K : Int32 → Prop) (y0_1 : Int32) (y0_2 : Int32) : Prop :=
  (if ((lwA28 i1 42) - 1) < 0 then jL_would_17 i1 a K y0_1 y0_2 else (if (39 : Int32) < ((lwA28 i1 42) - 1) then jL_would_17 i1 a K y0_1 y0_2 else (if ((lwA28 ((i1 >>> (6 &&& 31))) 5) - 1) < 0 then jL_would_17 i1 a K y0_1 y0_2 else (if ((lwA28 ((i1 >>> (6 &&& 31))) 5) - 1) ≤ (2 : Int32) then jL_would_3 i1 a K y0_1 y0_2 0 else jL_would_17 i1 a K y0_1 y0_2))))
def jL_would_18 (i1 : Int32) (a : AS) (K : Int32 → Prop) (y0_1 : Int32) : Prop :=
  jL_would_2 i1 a K y0_1 0
def jL_would_1 (i1 : Int32) (a : AS) (K : Int32 → Prop) (y0_1 : Int32) : Prop :=
  (if ((lwA28 i1 42) - 1) < 0 then jL_would_18 i1 a K y0_1 else (if ((lwA28 i1 42) - 1) ≤ (39 : Int32) then (if (11 : Int32) ≤ ((lwA28 i1 42) - 1) then (if (21 : Int32) ≤ ((lwA28 i1 42) - 1) then (if (31 : Int32) ≤ ((lwA28 i1 42) - 1) then jL_would_2 i1 a K y0_1 ((11 * (40 - ((lwA28 i1 42) - 1)))) else jL_would_2 i1 a K y0_1 ((140 - ((lwA28 i1 42) - 1)))) else jL_would_2 i1 a K y0_1 (((11 * (((lwA28 i1 42) - 1) - 10)) + 10))) else jL_would_2 i1 a K y0_1 (((lwA28 i1 42) - 1))) else jL_would_18 i1 a K y0_1))
def jL_would_19 (i1 : Int32) (a : AS) (K : Int32 → Prop) : Prop :=
  jL_would_1 i1 a K ((-4))
def gL_would (i1 : Int32) (a : AS) (K : Int32 → Prop) : Prop :=
  (if ((lwA28 i1 42) - 1) < 0 then jL_would_19 i1 a K else (if ((lwA28 i1 42) - 1) ≤ (39 : Int32) then jL_would_1 i1 a K ((scrA a.1 (((lwA28 i1 42) - 1)))) else jL_would_19 i1 a K))
abbrev rmL_would : Room := { frames := 5, cells := 0, slots := 0, locals := 116 }
def jL_acts_2 (K : Int32 → AS → Prop) (a_1 : AS) : Prop :=
  K 1 a_1
def jL_acts_3 (a : AS) (K : Int32 → AS → Prop) (y0_1 : Int32) (a_1 : AS) (y0_3 : Int32) : Prop :=
  (if y0_1 = y0_3 then (if (cotA a_1 0) = y0_1 then (if (cotA a_1 1) = y0_1 then (if ((((cotA a_1 7) + (cotA a_1 8)) + (cotA a_1 9)) + (cotA a_1 10)) = 0 then (if (cotA a_1 17) = (cotA a 17) then (if (lngA a_1.1 0) = 0 then jL_acts_2 K a_1 else K 0 a_1) else K 0 a_1) else K 0 a_1) else K 0 a_1) else K 0 a_1) else K 0 a_1)
def jL_acts_1 (i2 : Int32) (a : AS) (K : Int32 → AS → Prop) (y0_1 : Int32) (a_1 : AS) : Prop :=
  (if (lwA28 ((i2 >>> (3 &&& 31))) 2) = 0 then jL_acts_2 K a_1 else (if (lwA28 i2 4) = (3 : Int32) then (if y0_1 = (-1 : Int32) then jL_acts_2 K a_1 else K 0 a_1) else (if (lwA28 i2 4) = 0 then jL_acts_3 a K y0_1 a_1 1 else (if (lwA28 i2 4) = (1 : Int32) then jL_acts_3 a K y0_1 a_1 11 else jL_acts_3 a K y0_1 a_1 16))))
def jL_acts_8 (K : Int32 → AS → Prop) (o739 : Int32 × AS) : Prop :=
  K 1 o739.2
def jL_acts_9 (i2 : Int32) (K : Int32 → AS → Prop) (o739 : Int32 × AS) (y0_9 : Int32) : Prop :=
  (if (cotA o739.2 ((13 + (lwA28 i2 5)))) = y0_9 then jL_acts_8 K o739 else K 0 o739.2)
def jL_acts_7 (i2 : Int32) (K : Int32 → AS → Prop) (y0_4 : Int32) (y0_5 : Int32) (y0_6 : Int32) (o739 : Int32 × AS) (y0_7 : Int32) : Prop :=
  (if o739.1 = y0_7 then (if (lwA28 i2 5) = (4 : Int32) then jL_acts_8 K o739 else (if y0_5 = 0 then jL_acts_9 i2 K o739 (((lwA28 ((i2 >>> (3 &&& 31))) y0_4) - 1)) else jL_acts_9 i2 K o739 y0_6)) else K 0 o739.2)
def jL_acts_6 (i2 : Int32) (a : AS) (K : Int32 → AS → Prop) (y0_4 : Int32) (y0_5 : Int32) (y0_6 : Int32) : Prop :=
  (bd (chA a (setA a.1 ((lwA28 i2 5)) (((lwA28 ((i2 >>> (3 &&& 31))) y0_4) - 1)))) fun o739 => (if y0_5 = 0 then jL_acts_7 i2 K y0_4 y0_5 y0_6 o739 y0_6 else jL_acts_7 i2 K y0_4 y0_5 y0_6 o739 ((-1))))
def jL_acts_5 (i2 : Int32) (a : AS) (K : Int32 → AS → Prop) (y0_4 : Int32) (y0_5 : Int32) : Prop :=
  (if (lwA28 i2 5) = (4 : Int32) then jL_acts_6 i2 a K y0_4 y0_5 0 else jL_acts_6 i2 a K y0_4 y0_5 ((cotA a ((13 + (lwA28 i2 5))))))
def jL_acts_10 (i2 : Int32) (a : AS) (K : Int32 → AS → Prop) (y0_4 : Int32) : Prop :=
  jL_acts_5 i2 a K y0_4 1
def jL_acts_12 (i2 : Int32) (a : AS) (K : Int32 → AS → Prop) (y0_4 : Int32) (y0_12 : Int32) : Prop :=
  (if ((lwA28 ((i2 >>> (3 &&& 31))) y0_4) - 1) ≤ y0_12 then jL_acts_5 i2 a K y0_4 0 else jL_acts_10 i2 a K y0_4)
def jL_acts_11 (i2 : Int32) (a : AS) (K : Int32 → AS → Prop) (y0_4 : Int32) (y0_11 : Int32) : Prop :=
  (if ((lwA28 ((i2 >>> (3 &&& 31))) y0_4) - 1) < y0_11 then jL_acts_10 i2 a K y0_4 else (if (lwA28 i2 5) = (1 : Int32) then jL_acts_12 i2 a K y0_4 200 else (if (lwA28 i2 5) = (3 : Int32) then jL_acts_12 i2 a K y0_4 3 else jL_acts_12 i2 a K y0_4 4)))
def jL_acts_4 (i2 : Int32) (a : AS) (K : Int32 → AS → Prop) (y0_4 : Int32) : Prop :=
  (¬ y0_4 = 0 ∧ (if (lwA28 i2 5) = (4 : Int32) then jL_acts_10 i2 a K y0_4 else (if (lwA28 i2 5) = 0 then jL_acts_11 i2 a K y0_4 1 else (if (lwA28 i2 5) = (1 : Int32) then jL_acts_11 i2 a K y0_4 10 else jL_acts_11 i2 a K y0_4 0))))
def jL_acts_15 (K : Int32 → AS → Prop) (o560 : Int32 × AS) (y0_15 : Int32) : Prop :=
  (if (cotA o560.2 17) = y0_15 then K 1 o560.2 else K 0 o560.2)
def jL_acts_14 (i2 : Int32) (a : AS) (K : Int32 → AS → Prop) (y0_13 : Int32) (o560 : Int32 × AS) (y0_14 : Int32) : Prop :=
  (if o560.1 = y0_14 then (if y0_13 = 0 then jL_acts_15 K o560 (((lwA28 i2 10002) - 1)) else jL_acts_15 K o560 ((cotA a 17))) else K 0 o560.2)
def jL_acts_13 (i2 : Int32) (a : AS) (K : Int32 → AS → Prop) (y0_13 : Int32) : Prop :=
  (bd (chA a (lotA a.1 (((lwA28 i2 10002) - 1)))) fun o560 => (if y0_13 = 0 then jL_acts_14 i2 a K y0_13 o560 ((cotA a 17)) else jL_acts_14 i2 a K y0_13 o560 ((-1))))
def jL_acts_16 (i2 : Int32) (a : AS) (K : Int32 → AS → Prop) : Prop :=
  jL_acts_13 i2 a K 1
def jL_acts_17 (a : AS) (K : Int32 → AS → Prop) (y0_17 : Int32) (a_17 : AS) : Prop :=
  (if y0_17 < 0 then K 0 a_17 else (if (cotA a 2) < y0_17 then K 0 a_17 else (if (cotA a_17 0) = ((cotA a 0) - y0_17) then (if (cotA a_17 1) = (cotA a 1) then K 1 a_17 else K 0 a_17) else K 0 a_17)))
def jL_acts_22 (a : AS) (K : Int32 → AS → Prop) (o349 : Int32 × AS) (y0_22 : Int32) : Prop :=
  (if (cotA o349.2 9) = ((cotA a 9) + y0_22) then K 1 o349.2 else K 0 o349.2)
def jL_acts_21 (a : AS) (K : Int32 → AS → Prop) (o349 : Int32 × AS) (y0_21 : Int32) : Prop :=
  (if (cotA o349.2 0) = ((cotA a 0) - y0_21) then (if (0 : Int32) ≤ o349.1 then jL_acts_22 a K o349 o349.1 else jL_acts_22 a K o349 0) else K 0 o349.2)
def jL_acts_20 (a : AS) (K : Int32 → AS → Prop) (o349 : Int32 × AS) (y0_20 : Int32) : Prop :=
  (if o349.1 = y0_20 then (if (0 : Int32) ≤ o349.1 then jL_acts_21 a K o349 o349.1 else jL_acts_21 a K o349 0) else K 0 o349.2)
def jL_acts_19 (i2 : Int32) (a : AS) (K : Int32 → AS → Prop) (y0_18 : Int32) (y0_19 : Int32) : Prop :=
  (bd (chA a (brkA a.1 ((lwA28 i2 (((cotA a 0) + 1)))))) fun o349 => (if (lwA28 i2 (((cotA a 0) + 1))) = (cotA a 0) then jL_acts_20 a K o349 ((-1)) else (if y0_19 = 0 then jL_acts_20 a K o349 y0_18 else jL_acts_20 a K o349 ((-2)))))
def jL_acts_23 (i2 : Int32) (a : AS) (K : Int32 → AS → Prop) (y0_18 : Int32) : Prop :=
  jL_acts_19 i2 a K y0_18 0
def jL_acts_18 (i2 : Int32) (a : AS) (K : Int32 → AS → Prop) (y0_18 : Int32) : Prop :=
  (if (cotA a 0) ≤ (lwA28 i2 (((cotA a 0) + 1))) then jL_acts_23 i2 a K y0_18 else (if (grnA a.1 ((lwA28 i2 (((cotA a 0) + 1)))) 1) = (-4 : Int32) then jL_acts_19 i2 a K y0_18 1 else jL_acts_23 i2 a K y0_18))
def jL_acts_25 (K : Int32 → AS → Prop) (o196 : Int32 × AS) : Prop :=
  K 0 o196.2
def jL_acts_24 (i2 : Int32) (a : AS) (K : Int32 → AS → Prop) (y0_24 : Int32) : Prop :=
  (bd (chA a (rainA a.1 ((lwA28 i2 22)))) fun o196 => (if y0_24 = 0 then (if o196.1 < 0 then K 0 o196.2 else (if (lwA28 i2 22) < o196.1 then K 0 o196.2 else (if (cotA o196.2 0) = ((cotA a 0) + o196.1) then (if (cotA o196.2 7) = ((cotA a 7) + (lwA28 i2 22)) then K 1 o196.2 else K 0 o196.2) else K 0 o196.2))) else (if o196.1 = (-1 : Int32) then (if (cotA o196.2 7) = (cotA a 7) then K 1 o196.2 else jL_acts_25 K o196) else jL_acts_25 K o196)))
def jL_acts_26 (i2 : Int32) (a : AS) (K : Int32 → AS → Prop) : Prop :=
  jL_acts_24 i2 a K 1
def jL_acts_29 (a : AS) (K : Int32 → AS → Prop) (o58 : Int32 × AS) (y0_29 : Int32) : Prop :=
  (if (cotA o58.2 8) = ((cotA a 8) + y0_29) then K 1 o58.2 else K 0 o58.2)
def jL_acts_30 (a : AS) (K : Int32 → AS → Prop) (o58 : Int32 × AS) : Prop :=
  jL_acts_29 a K o58 0
def jL_acts_28 (a : AS) (K : Int32 → AS → Prop) (o58 : Int32 × AS) (y0_28 : Int32) : Prop :=
  (if (cotA o58.2 7) = ((cotA a 7) + y0_28) then (if o58.1 < 0 then jL_acts_30 a K o58 else (if o58.1 < (1000 : Int32) then jL_acts_29 a K o58 1 else jL_acts_30 a K o58)) else K 0 o58.2)
def jL_acts_27 (a : AS) (K : Int32 → AS → Prop) (o58 : Int32 × AS) (y0_27 : Int32) : Prop :=
  (if (cotA o58.2 0) = ((cotA a 0) + y0_27) then (if (0 : Int32) ≤ o58.1 then jL_acts_28 a K o58 1 else jL_acts_28 a K o58 0) else K 0 o58.2)
def gL_acts (i1 : Int32) (i2 : Int32) (a : AS) (K : Int32 → AS → Prop) : Prop :=
  (if (8 : Int32) ≤ (lwA28 i1 24) then (if (12 : Int32) ≤ (lwA28 i1 24) then (if (lwA28 i1 24) = (12 : Int32) then (¬ ((cotA a 0) + 1) = 0 ∧ (if (lwA28 i2 (((cotA a 0) + 1))) = (cotA a 0) then jL_acts_18 i2 a K 0 else jL_acts_18 i2 a K ((grnA a.1 ((lwA28 i2 (((cotA a 0) + 1)))) 4)))) else (if (lwA28 i1 24) = (13 : Int32) then (if (lwA28 i2 3) ≤ 0 then (bd (chA a (wshA a.1)) fun o466 => jL_acts_17 a K o466.1 o466.2) else jL_acts_17 a K 0 a) else (if (16 : Int32) ≤ (lwA28 i1 24) then (if (19 : Int32) ≤ (lwA28 i1 24) then (if (23 : Int32) ≤ (lwA28 i1 24) then (if (lwA28 ((i2 >>> (3 &&& 31))) 2) = 0 then jL_acts_1 i2 a K 0 a else (bd (chA a (begA a.1 ((lwA28 i2 4)))) fun o836 => jL_acts_1 i2 a K o836.1 o836.2)) else (gL_carries i2 a fun r800 a800 => ((r800 = 0 ∨ r800 = 1) ∧ K r800 a800))) else (if (lwA28 ((i2 >>> (12 &&& 31))) 2) = 0 then jL_acts_4 i2 a K 203 else jL_acts_4 i2 a K 6)) else (if ((lwA28 i2 10002) - 1) < 0 then jL_acts_16 i2 a K else (if ((lwA28 i2 10002) - 1) = (10000 : Int32) then jL_acts_16 i2 a K else jL_acts_13 i2 a K 0))))) else (if (lwA28 i2 22) = 0 then jL_acts_26 i2 a K else (if (lwA28 i2 22) = (21 : Int32) then jL_acts_26 i2 a K else jL_acts_24 i2 a K 0))) else (bd (chA a (goA a.1 (((lwA28 i2 42) - 1)))) fun o58 => (if o58.1 = (ifgA a.1 (((lwA28 i2 42) - 1)) 0) then (if o58.1 < (1000 : Int32) then jL_acts_27 a K o58 0 else jL_acts_27 a K o58 1) else K 0 o58.2)))
abbrev rmL_acts : Room := { frames := 8, cells := 0, slots := 0, locals := 192 }
def jL_holds_7 (a : AS) (s100 : Int32 × Int32 × Int32 × Int32 × Int32 × Int32) (KB100 : (Int32 × Int32 × Int32 × Int32 × Int32 × Int32) → Prop) (y0_4 : Int32) (y0_5 : Int32) (y0_6 : Int32) (y0_7 : Int32) : Prop :=
  KB100 ((s100.1 + y0_4), (s100.2.1 + y0_5), (s100.2.2.1 + y0_6), (s100.2.2.2.1 + (grnA a.1 s100.2.2.2.2.2 3)), y0_7, (s100.2.2.2.2.2 + 1))
def jL_holds_8 (a : AS) (s100 : Int32 × Int32 × Int32 × Int32 × Int32 × Int32) (KB100 : (Int32 × Int32 × Int32 × Int32 × Int32 × Int32) → Prop) (y0_4 : Int32) (y0_5 : Int32) (y0_6 : Int32) : Prop :=
  jL_holds_7 a s100 KB100 y0_4 y0_5 y0_6 0
def jL_holds_9 (a : AS) (s100 : Int32 × Int32 × Int32 × Int32 × Int32 × Int32) (KB100 : (Int32 × Int32 × Int32 × Int32 × Int32 × Int32) → Prop) (y0_4 : Int32) (y0_5 : Int32) (y0_6 : Int32) : Prop :=
  (if (200 : Int32) < (grnA a.1 s100.2.2.2.2.2 8) then jL_holds_8 a s100 KB100 y0_4 y0_5 y0_6 else (if (cotA a 5) < (celA a.1 ((grnA a.1 s100.2.2.2.2.2 0)) 1) then jL_holds_8 a s100 KB100 y0_4 y0_5 y0_6 else jL_holds_7 a s100 KB100 y0_4 y0_5 y0_6 1))
def jL_holds_10 (a : AS) (s100 : Int32 × Int32 × Int32 × Int32 × Int32 × Int32) (KB100 : (Int32 × Int32 × Int32 × Int32 × Int32 × Int32) → Prop) (y0_4 : Int32) (y0_5 : Int32) (y0_6 : Int32) : Prop :=
  (if (grnA a.1 s100.2.2.2.2.2 7) = (grnA a.1 ((grnA a.1 s100.2.2.2.2.2 1)) 7) then (if (grnA a.1 s100.2.2.2.2.2 2) = ((grnA a.1 ((grnA a.1 s100.2.2.2.2.2 1)) 2) + 1) then jL_holds_9 a s100 KB100 y0_4 y0_5 y0_6 else jL_holds_8 a s100 KB100 y0_4 y0_5 y0_6) else jL_holds_8 a s100 KB100 y0_4 y0_5 y0_6)
def jL_holds_6 (a : AS) (s100 : Int32 × Int32 × Int32 × Int32 × Int32 × Int32) (KB100 : (Int32 × Int32 × Int32 × Int32 × Int32 × Int32) → Prop) (y0_2 : Int32) (y0_3 : Int32) (y0_4 : Int32) (y0_5 : Int32) (y0_6 : Int32) : Prop :=
  (if (celA a.1 ((grnA a.1 s100.2.2.2.2.2 0)) 0) = s100.2.2.2.2.2 then (if (grnA a.1 s100.2.2.2.2.2 1) = (-4 : Int32) then (if (grnA a.1 s100.2.2.2.2.2 8) = 0 then (if (grnA a.1 s100.2.2.2.2.2 7) = s100.2.2.2.2.2 then jL_holds_9 a s100 KB100 y0_4 y0_5 y0_6 else jL_holds_8 a s100 KB100 y0_4 y0_5 y0_6) else jL_holds_8 a s100 KB100 y0_4 y0_5 y0_6) else (if (grnA a.1 s100.2.2.2.2.2 1) < 0 then jL_holds_8 a s100 KB100 y0_4 y0_5 y0_6 else (if s100.2.2.2.2.2 ≤ (grnA a.1 s100.2.2.2.2.2 1) then jL_holds_8 a s100 KB100 y0_4 y0_5 y0_6 else (if y0_3 = (11 : Int32) then jL_holds_10 a s100 KB100 y0_4 y0_5 y0_6 else (if y0_3 = (1 : Int32) then (if ((grnA a.1 s100.2.2.2.2.2 0) / 11) = (y0_2 / 11) then jL_holds_10 a s100 KB100 y0_4 y0_5 y0_6 else jL_holds_8 a s100 KB100 y0_4 y0_5 y0_6) else jL_holds_8 a s100 KB100 y0_4 y0_5 y0_6))))) else jL_holds_8 a s100 KB100 y0_4 y0_5 y0_6)
def jL_holds_5 (a : AS) (s100 : Int32 × Int32 × Int32 × Int32 × Int32 × Int32) (KB100 : (Int32 × Int32 × Int32 × Int32 × Int32 × Int32) → Prop) (y0_2 : Int32) (y0_3 : Int32) (y0_4 : Int32) (y0_5 : Int32) : Prop :=
  (if (grnA a.1 s100.2.2.2.2.2 3) ≤ (1 : Int32) then jL_holds_6 a s100 KB100 y0_2 y0_3 y0_4 y0_5 0 else jL_holds_6 a s100 KB100 y0_2 y0_3 y0_4 y0_5 1)
def jL_holds_4 (a : AS) (s100 : Int32 × Int32 × Int32 × Int32 × Int32 × Int32) (KB100 : (Int32 × Int32 × Int32 × Int32 × Int32 × Int32) → Prop) (y0_2 : Int32) (y0_3 : Int32) (y0_4 : Int32) : Prop :=
  (if (grnA a.1 s100.2.2.2.2.2 3) = 0 then jL_holds_5 a s100 KB100 y0_2 y0_3 y0_4 1 else jL_holds_5 a s100 KB100 y0_2 y0_3 y0_4 0)
def jL_holds_3 (a : AS) (s100 : Int32 × Int32 × Int32 × Int32 × Int32 × Int32) (KB100 : (Int32 × Int32 × Int32 × Int32 × Int32 × Int32) → Prop) (y0_2 : Int32) (y0_3 : Int32) : Prop :=
  (if (grnA a.1 s100.2.2.2.2.2 1) = (-4 : Int32) then jL_holds_4 a s100 KB100 y0_2 y0_3 1 else jL_holds_4 a s100 KB100 y0_2 y0_3 0)
def jL_holds_2 (a : AS) (s100 : Int32 × Int32 × Int32 × Int32 × Int32 × Int32) (KB100 : (Int32 × Int32 × Int32 × Int32 × Int32 × Int32) → Prop) (y0_2 : Int32) : Prop :=
  (if (grnA a.1 s100.2.2.2.2.2 0) ≤ y0_2 then jL_holds_3 a s100 KB100 y0_2 ((y0_2 - (grnA a.1 s100.2.2.2.2.2 0))) else jL_holds_3 a s100 KB100 y0_2 (((grnA a.1 s100.2.2.2.2.2 0) - y0_2)))
def tL_holds_100 (a : AS) (s100 : Int32 × Int32 × Int32 × Int32 × Int32 × Int32) (KB100 : (Int32 × Int32 × Int32 × Int32 × Int32 × Int32) → Prop) (KX100 : (Int32 × Int32 × Int32 × Int32 × Int32) → Prop) : Prop :=
  (if (cotA a 0) ≤ s100.2.2.2.2.2 then KX100 (s100.1, s100.2.1, s100.2.2.1, s100.2.2.2.1, s100.2.2.2.2.1) else (if s100.2.2.2.2.1 = 0 then KX100 (s100.1, s100.2.1, s100.2.2.1, s100.2.2.2.1, s100.2.2.2.2.1) else (if (grnA a.1 s100.2.2.2.2.2 1) = (-4 : Int32) then jL_holds_2 a s100 KB100 ((grnA a.1 s100.2.2.2.2.2 0)) else jL_holds_2 a s100 KB100 ((grnA a.1 ((grnA a.1 s100.2.2.2.2.2 1)) 0)))))
def tL_holds_405 (a : AS) (s405 : Int32 × Int32) (KB405 : (Int32 × Int32) → Prop) (KX405 : (Int32) → Prop) : Prop :=
  (if (6 : Int32) ≤ s405.2 then KX405 s405.1 else KB405 ((s405.1 + (rngA a.1 s405.2)), (s405.2 + 1)))
def jL_holds_1 (a : AS) (K : Int32 → Prop) (y0_1 : Int32) : Prop :=
  (lpP (tL_holds_100 a) FU (0, 0, 0, 0, y0_1, 0) fun o100 => (lpP (tL_holds_405 a) FU (0, 0) fun o405 => (if o100.2.2.2.2 = 0 then K 0 else (if o100.1 = (cotA a 1) then (if o100.2.1 = (cotA a 2) then (if o100.2.2.1 = (cotA a 3) then (if o100.2.2.2.1 = ((cotA a 0) - o100.1) then (if o405 = (cotA a 0) then (if (lngA a.1 0) = (lngA a.1 1) then (if (grnA a.1 ((cotA a 12)) 6) = (cotA a 11) then (∀ (r511 : UInt64), alike64 r511 (dnsA a) = true → (if (Op.cmpValue (FP.dcmp r511 FP.dconst0) CmpOp.l) ≤ 0 then K 0 else (∀ (r520 : UInt64), alike64 r520 (dnsA a) = true → (if (0 : Int32) < (Op.cmpValue (FP.dcmp r520 FP.dconst1) CmpOp.g) then K 0 else K 1)))) else K 0) else K 0) else K 0) else K 0) else K 0) else K 0) else K 0))))
def jL_holds_11 (a : AS) (K : Int32 → Prop) : Prop :=
  jL_holds_1 a K 0
def gL_holds (a : AS) (K : Int32 → Prop) : Prop :=
  (if (cotA a 0) ≤ 0 then jL_holds_11 a K else (if (121 : Int32) < (cotA a 0) then jL_holds_11 a K else (if ((cotA a 0) - (cotA a 1)) = (((cotA a 7) - (cotA a 8)) - (cotA a 9)) then (if (cotA a 17) < 0 then jL_holds_11 a K else (if (10000 : Int32) ≤ (cotA a 17) then jL_holds_11 a K else (if (grnA a.1 ((cotA a 0)) 0) = (-1 : Int32) then jL_holds_1 a K 1 else jL_holds_11 a K))) else jL_holds_11 a K)))
abbrev rmL_holds : Room := { frames := 5, cells := 0, slots := 0, locals := 114 }
def jL_law_6 (s63 : Int32 × Int64 × Int32 × AS) (KB63 : (Int32 × Int64 × Int32 × AS) → Prop) (x3_5 : Int64) (x2_6 : Int32) (a_6 : AS) : Prop :=
  KB63 (x2_6, x3_5, (s63.2.2.1 + 1), a_6)
def jL_law_8 (s63 : Int32 × Int64 × Int32 × AS) (KB63 : (Int32 × Int64 × Int32 × AS) → Prop) (x3_5 : Int64) (o350 : Int32 × AS) (y0_8 : Int32) : Prop :=
  jL_law_6 s63 KB63 x3_5 y0_8 o350.2
def jL_law_7 (s63 : Int32 × Int64 × Int32 × AS) (KB63 : (Int32 × Int64 × Int32 × AS) → Prop) (x3_5 : Int64) (o350 : Int32 × AS) (y0_7 : Int32) : Prop :=
  (if o350.1 = y0_7 then jL_law_8 s63 KB63 x3_5 o350 1 else jL_law_8 s63 KB63 x3_5 o350 0)
def jL_law_5 (s63 : Int32 × Int64 × Int32 × AS) (KB63 : (Int32 × Int64 × Int32 × AS) → Prop) (x2_5 : Int32) (x3_5 : Int64) (a_5 : AS) : Prop :=
  (if x2_5 = 0 then jL_law_6 s63 KB63 x3_5 x2_5 a_5 else (if (jrem s63.2.2.1 11) = (10 : Int32) then (bd (undA a_5) fun o350 => (if (cotA a_5 19) = 0 then jL_law_7 s63 KB63 x3_5 o350 ((-2)) else jL_law_7 s63 KB63 x3_5 o350 (((cotA a_5 19) - 1)))) else jL_law_6 s63 KB63 x3_5 x2_5 a_5))
def jL_law_9 (s63 : Int32 × Int64 × Int32 × AS) (KB63 : (Int32 × Int64 × Int32 × AS) → Prop) (y0_9 : Int32) (a_9 : AS) : Prop :=
  (gL_look a_9 fun r323 => jL_law_5 s63 KB63 y0_9 r323 a_9)
def jL_law_10 (s63 : Int32 × Int64 × Int32 × AS) (KB63 : (Int32 × Int64 × Int32 × AS) → Prop) (a_10 : AS) : Prop :=
  jL_law_9 s63 KB63 0 a_10
def jL_law_4 (s63 : Int32 × Int64 × Int32 × AS) (KB63 : (Int32 × Int64 × Int32 × AS) → Prop) (x2_4 : Int32) (a_4 : AS) : Prop :=
  (if x2_4 = 0 then jL_law_5 s63 KB63 x2_4 s63.2.1 a_4 else (if (jrem s63.2.2.1 15) = (14 : Int32) then (bd (rstA a_4) fun o273 => (if o273.1 = (cotA o273.2 0) then (gL_look o273.2 fun r289 => (if (lg_cmp r289 s63.2.1) = 0 then (bd (undA o273.2) fun o298 => (if o298.1 < 0 then jL_law_10 s63 KB63 o298.2 else (bd (savA o298.2) fun o305 => (if o305.1 = (cotA o305.2 0) then jL_law_9 s63 KB63 1 o305.2 else jL_law_10 s63 KB63 o305.2)))) else jL_law_10 s63 KB63 o273.2)) else jL_law_10 s63 KB63 o273.2)) else jL_law_5 s63 KB63 x2_4 s63.2.1 a_4))
def jL_law_11 (s63 : Int32 × Int64 × Int32 × AS) (KB63 : (Int32 × Int64 × Int32 × AS) → Prop) (o234 : Int32 × AS) (y0_11 : Int32) : Prop :=
  jL_law_4 s63 KB63 y0_11 o234.2
def jL_law_12 (s63 : Int32 × Int64 × Int32 × AS) (KB63 : (Int32 × Int64 × Int32 × AS) → Prop) (o234 : Int32 × AS) : Prop :=
  jL_law_11 s63 KB63 o234 0
def jL_law_3 (L : Nat) (xs : Nat → Int32) (s63 : Int32 × Int64 × Int32 × AS) (KB63 : (Int32 × Int64 × Int32 × AS) → Prop) (r97 : Int64) (a115 : AS) (y0_3 : Int32) : Prop :=
  (if y0_3 = 0 then jL_law_4 s63 KB63 y0_3 a115 else (if (cotA a115 19) = ((cotA s63.2.2.2 19) + 1) then (if (lwA28 (((sctA L xs (((2 * s63.2.2.1) + 1))) >>> (8 &&& 31))) 3) = 0 then (bd (undA a115) fun o234 => (if o234.1 = (cotA s63.2.2.2 19) then (gL_look o234.2 fun r243 => (if (lg_cmp r243 r97) = 0 then jL_law_11 s63 KB63 o234 1 else jL_law_12 s63 KB63 o234)) else jL_law_12 s63 KB63 o234)) else jL_law_4 s63 KB63 y0_3 a115) else jL_law_4 s63 KB63 y0_3 a115))
def jL_law_13 (L : Nat) (xs : Nat → Int32) (s63 : Int32 × Int64 × Int32 × AS) (KB63 : (Int32 × Int64 × Int32 × AS) → Prop) (r97 : Int64) (a115 : AS) : Prop :=
  jL_law_3 L xs s63 KB63 r97 a115 0
def jL_law_14 (L : Nat) (xs : Nat → Int32) (s63 : Int32 × Int64 × Int32 × AS) (KB63 : (Int32 × Int64 × Int32 × AS) → Prop) (r97 : Int64) (a115 : AS) : Prop :=
  jL_law_3 L xs s63 KB63 r97 a115 1
def jL_law_15 (L : Nat) (xs : Nat → Int32) (s63 : Int32 × Int64 × Int32 × AS) (KB63 : (Int32 × Int64 × Int32 × AS) → Prop) (r97 : Int64) (a115 : AS) : Prop :=
  (if (cotA a115 19) = ((cotA s63.2.2.2 19) + 1) then jL_law_14 L xs s63 KB63 r97 a115 else jL_law_13 L xs s63 KB63 r97 a115)
def jL_law_2 (L : Nat) (xs : Nat → Int32) (s63 : Int32 × Int64 × Int32 × AS) (KB63 : (Int32 × Int64 × Int32 × AS) → Prop) (r97 : Int64) (a115 : AS) (y0_2 : Int32) : Prop :=
  (if y0_2 = 0 then jL_law_13 L xs s63 KB63 r97 a115 else (if (cotA a115 19) = (cotA s63.2.2.2 19) then (if (cotA s63.2.2.2 19) = (4 : Int32) then jL_law_14 L xs s63 KB63 r97 a115 else (gL_look a115 fun r184 => (if (lg_cmp r184 r97) = 0 then jL_law_14 L xs s63 KB63 r97 a115 else jL_law_15 L xs s63 KB63 r97 a115))) else jL_law_15 L xs s63 KB63 r97 a115))
def jL_law_16 (L : Nat) (xs : Nat → Int32) (s63 : Int32 × Int64 × Int32 × AS) (KB63 : (Int32 × Int64 × Int32 × AS) → Prop) (r97 : Int64) (a115 : AS) : Prop :=
  jL_law_2 L xs s63 KB63 r97 a115 0
def jL_law_18 (L : Nat) (xs : Nat → Int32) (s63 : Int32 × Int64 × Int32 × AS) (KB63 : (Int32 × Int64 × Int32 × AS) → Prop) (r97 : Int64) (a115 : AS) : Prop :=
  jL_law_2 L xs s63 KB63 r97 a115 1
def jL_law_17 (L : Nat) (xs : Nat → Int32) (s63 : Int32 × Int64 × Int32 × AS) (KB63 : (Int32 × Int64 × Int32 × AS) → Prop) (r97 : Int64) (a115 : AS) : Prop :=
  (if (jrem s63.2.2.1 4) = (2 : Int32) then (gL_would ((sctA L xs (((2 * s63.2.2.1) + 1)))) a115 fun r146 => (if r146 = 0 then jL_law_16 L xs s63 KB63 r97 a115 else jL_law_18 L xs s63 KB63 r97 a115)) else jL_law_18 L xs s63 KB63 r97 a115)
def tL_law_63 (L : Nat) (xs : Nat → Int32) (s63 : Int32 × Int64 × Int32 × AS) (KB63 : (Int32 × Int64 × Int32 × AS) → Prop) (KX63 : (Int32 × AS) → Prop) : Prop :=
  (if (46 : Int32) ≤ s63.2.2.1 then KX63 (s63.1, s63.2.2.2) else (if s63.1 = 0 then KX63 (s63.1, s63.2.2.2) else (¬ (2 * s63.2.2.1) < 0 ∧ (¬ ((2 * s63.2.2.1) + 1) < 0 ∧ (gL_look s63.2.2.2 fun r97 => (gL_acts ((sctA L xs ((2 * s63.2.2.1)))) ((sctA L xs (((2 * s63.2.2.1) + 1)))) s63.2.2.2 fun r115 a115 => (if r115 = 0 then jL_law_16 L xs s63 KB63 r97 a115 else (if (0 : Int32) < (jrem s63.2.2.1 3) then jL_law_17 L xs s63 KB63 r97 a115 else (gL_holds a115 fun r129 => (if r129 = 0 then jL_law_16 L xs s63 KB63 r97 a115 else jL_law_17 L xs s63 KB63 r97 a115))))))))))
def jL_law_1 (L : Nat) (xs : Nat → Int32) (K : Int32 → Prop) (y0_1 : Int32) (a_1 : AS) : Prop :=
  (gL_look a_1 fun r56 => (lpP (tL_law_63 L xs) FU (y0_1, r56, 0, a_1) fun o63 => (if o63.1 = 0 then K 0 else (gL_holds o63.2 fun r387 => (if r387 = 0 then K 0 else K 1)))))
def jL_law_19 (L : Nat) (xs : Nat → Int32) (K : Int32 → Prop) (a_19 : AS) : Prop :=
  jL_law_1 L xs K 0 a_19
def gL_law (L : Nat) (xs : Nat → Int32) (a : AS) (K : Int32 → Prop) : Prop :=
  (gL_holds a fun r9 => (if r9 = 0 then jL_law_19 L xs K a else (gL_would 0 a fun r17 => (if r17 = 0 then jL_law_19 L xs K a else (bd (undA a) fun o24 => (if o24.1 = (-2 : Int32) then (bd (rstA o24.2) fun o33 => (if o33.1 = (-2 : Int32) then (bd (savA o33.2) fun o42 => (if o42.1 = (1 : Int32) then jL_law_1 L xs K 1 o42.2 else jL_law_19 L xs K o42.2)) else jL_law_19 L xs K o33.2)) else jL_law_19 L xs K o24.2))))))
