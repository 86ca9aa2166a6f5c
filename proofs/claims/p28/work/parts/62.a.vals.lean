/-! ===== p28: the values of count and grain ===== -/
theorem cot_0 (a : AS) : cotA a 0 = nI (mN a.1) := by
  unfold cotA
  rw [show ix (0 : Int32) 20 = some 0 from ix_nI (j := 0) (by omega) (by omega)]
  rfl
theorem cot_1 (a : AS) : cotA a 1 = nI (knd a.1 1) := by
  unfold cotA
  rw [show ix (1 : Int32) 20 = some 1 from ix_nI (j := 1) (by omega) (by omega)]
  rfl
theorem cot_2 (a : AS) : cotA a 2 = nI (knd a.1 2) := by
  unfold cotA
  rw [show ix (2 : Int32) 20 = some 2 from ix_nI (j := 2) (by omega) (by omega)]
  rfl
theorem cot_3 (a : AS) : cotA a 3 = nI (knd a.1 3) := by
  unfold cotA
  rw [show ix (3 : Int32) 20 = some 3 from ix_nI (j := 3) (by omega) (by omega)]
  rfl
theorem cot_4 (a : AS) : cotA a 4 = nI (dpt a.1) := by
  unfold cotA
  rw [show ix (4 : Int32) 20 = some 4 from ix_nI (j := 4) (by omega) (by omega)]
  rfl
theorem cot_5 (a : AS) : cotA a 5 = nI (reachM a.1) := by
  unfold cotA
  rw [show ix (5 : Int32) 20 = some 5 from ix_nI (j := 5) (by omega) (by omega)]
  rfl
theorem cot_6 (a : AS) : cotA a 6 = nI (shoreM a.1) := by
  unfold cotA
  rw [show ix (6 : Int32) 20 = some 6 from ix_nI (j := 6) (by omega) (by omega)]
  rfl
theorem cot_7 (a : AS) : cotA a 7 = mR a.1 := by
  unfold cotA
  rw [show ix (7 : Int32) 20 = some 7 from ix_nI (j := 7) (by omega) (by omega)]
  rfl
theorem cot_8 (a : AS) : cotA a 8 = mT a.1 := by
  unfold cotA
  rw [show ix (8 : Int32) 20 = some 8 from ix_nI (j := 8) (by omega) (by omega)]
  rfl
theorem cot_9 (a : AS) : cotA a 9 = mA a.1 := by
  unfold cotA
  rw [show ix (9 : Int32) 20 = some 9 from ix_nI (j := 9) (by omega) (by omega)]
  rfl
theorem cot_10 (a : AS) : cotA a 10 = mK a.1 := by
  unfold cotA
  rw [show ix (10 : Int32) 20 = some 10 from ix_nI (j := 10) (by omega) (by omega)]
  rfl
theorem cot_11 (a : AS) : cotA a 11 = nI (cth a.1 (bst a.1)) := by
  unfold cotA
  rw [show ix (11 : Int32) 20 = some 11 from ix_nI (j := 11) (by omega) (by omega)]
  rfl
theorem cot_12 (a : AS) : cotA a 12 = nI (bst a.1) := by
  unfold cotA
  rw [show ix (12 : Int32) 20 = some 12 from ix_nI (j := 12) (by omega) (by omega)]
  rfl
theorem cot_13 (a : AS) : cotA a 13 = nI (mS a.1 0) := by
  unfold cotA
  rw [show ix (13 : Int32) 20 = some 13 from ix_nI (j := 13) (by omega) (by omega)]
  rfl
theorem cot_14 (a : AS) : cotA a 14 = nI (mS a.1 1) := by
  unfold cotA
  rw [show ix (14 : Int32) 20 = some 14 from ix_nI (j := 14) (by omega) (by omega)]
  rfl
theorem cot_15 (a : AS) : cotA a 15 = nI (mS a.1 2) := by
  unfold cotA
  rw [show ix (15 : Int32) 20 = some 15 from ix_nI (j := 15) (by omega) (by omega)]
  rfl
theorem cot_16 (a : AS) : cotA a 16 = nI (mS a.1 3) := by
  unfold cotA
  rw [show ix (16 : Int32) 20 = some 16 from ix_nI (j := 16) (by omega) (by omega)]
  rfl
theorem cot_17 (a : AS) : cotA a 17 = nI (mL a.1) := by
  unfold cotA
  rw [show ix (17 : Int32) 20 = some 17 from ix_nI (j := 17) (by omega) (by omega)]
  rfl
theorem cot_18 (a : AS) : cotA a 18 = nI a.2.2.2.1.1 := by
  unfold cotA
  rw [show ix (18 : Int32) 20 = some 18 from ix_nI (j := 18) (by omega) (by omega)]
  rfl
theorem cot_19 (a : AS) : cotA a 19 = nI a.2.1.length := by
  unfold cotA
  rw [show ix (19 : Int32) 20 = some 19 from ix_nI (j := 19) (by omega) (by omega)]
  rfl
theorem grn_0 {M : GM} {g : Nat} (hg : g < mN M) (h1 : mN M ≤ 121) : grnA M (nI g) 0 = nI (mC M g) := by
  unfold grnA
  rw [ix_nI hg (by omega), show ix (0 : Int32) 9 = some 0 from ix_nI (j := 0) (by omega) (by omega)]
  rfl
theorem grn_1 {M : GM} {g : Nat} (hg : g < mN M) (h1 : mN M ≤ 121) : grnA M (nI g) 1 = hI (mH M g) := by
  unfold grnA
  rw [ix_nI hg (by omega), show ix (1 : Int32) 9 = some 1 from ix_nI (j := 1) (by omega) (by omega)]
  rfl
theorem grn_2 {M : GM} {g : Nat} (hg : g < mN M) (h1 : mN M ≤ 121) : grnA M (nI g) 2 = nI (dep M g) := by
  unfold grnA
  rw [ix_nI hg (by omega), show ix (2 : Int32) 9 = some 2 from ix_nI (j := 2) (by omega) (by omega)]
  rfl
theorem grn_3 {M : GM} {g : Nat} (hg : g < mN M) (h1 : mN M ≤ 121) : grnA M (nI g) 3 = nI (chl M g) := by
  unfold grnA
  rw [ix_nI hg (by omega), show ix (3 : Int32) 9 = some 3 from ix_nI (j := 3) (by omega) (by omega)]
  rfl
theorem grn_4 {M : GM} {g : Nat} (hg : g < mN M) (h1 : mN M ≤ 121) : grnA M (nI g) 4 = nI (siz M g) := by
  unfold grnA
  rw [ix_nI hg (by omega), show ix (4 : Int32) 9 = some 4 from ix_nI (j := 4) (by omega) (by omega)]
  rfl
theorem grn_5 {M : GM} {g : Nat} (hg : g < mN M) (h1 : mN M ≤ 121) : grnA M (nI g) 5 = nI (hgt M g) := by
  unfold grnA
  rw [ix_nI hg (by omega), show ix (5 : Int32) 9 = some 5 from ix_nI (j := 5) (by omega) (by omega)]
  rfl
theorem grn_6 {M : GM} {g : Nat} (hg : g < mN M) (h1 : mN M ≤ 121) : grnA M (nI g) 6 = nI (cth M g) := by
  unfold grnA
  rw [ix_nI hg (by omega), show ix (6 : Int32) 9 = some 6 from ix_nI (j := 6) (by omega) (by omega)]
  rfl
theorem grn_7 {M : GM} {g : Nat} (hg : g < mN M) (h1 : mN M ≤ 121) : grnA M (nI g) 7 = nI (rot M g) := by
  unfold grnA
  rw [ix_nI hg (by omega), show ix (7 : Int32) 9 = some 7 from ix_nI (j := 7) (by omega) (by omega)]
  rfl
theorem grn_8 {M : GM} {g : Nat} (hg : g < mN M) (h1 : mN M ≤ 121) : grnA M (nI g) 8 = mW M g := by
  unfold grnA
  rw [ix_nI hg (by omega), show ix (8 : Int32) 9 = some 8 from ix_nI (j := 8) (by omega) (by omega)]
  rfl
theorem cot_ext {a b : AS} (h : a.1 = b.1) {j : Nat} (hj : j < 18) : cotA a (nI j) = cotA b (nI j) := by
  rcases (show j = 0 ∨ j = 1 ∨ j = 2 ∨ j = 3 ∨ j = 4 ∨ j = 5 ∨ j = 6 ∨ j = 7 ∨ j = 8 ∨ j = 9 ∨ j = 10 ∨ j = 11 ∨ j = 12 ∨ j = 13 ∨ j = 14 ∨ j = 15 ∨ j = 16 ∨ j = 17 by omega) with rfl | rfl | rfl | rfl | rfl | rfl | rfl | rfl | rfl | rfl | rfl | rfl | rfl | rfl | rfl | rfl | rfl | rfl
  · rw [show nI 0 = (0 : Int32) from rfl, cot_0, cot_0, h]
  · rw [show nI 1 = (1 : Int32) from rfl, cot_1, cot_1, h]
  · rw [show nI 2 = (2 : Int32) from rfl, cot_2, cot_2, h]
  · rw [show nI 3 = (3 : Int32) from rfl, cot_3, cot_3, h]
  · rw [show nI 4 = (4 : Int32) from rfl, cot_4, cot_4, h]
  · rw [show nI 5 = (5 : Int32) from rfl, cot_5, cot_5, h]
  · rw [show nI 6 = (6 : Int32) from rfl, cot_6, cot_6, h]
  · rw [show nI 7 = (7 : Int32) from rfl, cot_7, cot_7, h]
  · rw [show nI 8 = (8 : Int32) from rfl, cot_8, cot_8, h]
  · rw [show nI 9 = (9 : Int32) from rfl, cot_9, cot_9, h]
  · rw [show nI 10 = (10 : Int32) from rfl, cot_10, cot_10, h]
  · rw [show nI 11 = (11 : Int32) from rfl, cot_11, cot_11, h]
  · rw [show nI 12 = (12 : Int32) from rfl, cot_12, cot_12, h]
  · rw [show nI 13 = (13 : Int32) from rfl, cot_13, cot_13, h]
  · rw [show nI 14 = (14 : Int32) from rfl, cot_14, cot_14, h]
  · rw [show nI 15 = (15 : Int32) from rfl, cot_15, cot_15, h]
  · rw [show nI 16 = (16 : Int32) from rfl, cot_16, cot_16, h]
  · rw [show nI 17 = (17 : Int32) from rfl, cot_17, cot_17, h]
