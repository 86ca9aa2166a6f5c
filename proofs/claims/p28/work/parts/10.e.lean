/-! ===== the reference: reads ===== -/
/-- the holder as the reference has it -/
def hR (h : Nat) : Int32 := if h = 0 then -1 else nI (h - 1)
theorem hR_of {h : Nat} (hh : h < 2147483648) : nI h - 1 = hR h := by
  unfold hR
  by_cases q : h = 0
  · subst q; decide
  · rw [if_neg q, i_1, i_sub (by omega)]
theorem hR_neg {h : Nat} (hh : h < 2147483648) : hR h < 0 ↔ h = 0 := by
  unfold hR
  by_cases q : h = 0
  · rw [if_pos q]; exact ⟨fun _ => q, fun _ => by decide⟩
  · rw [if_neg q, i_0, i_lt (by omega) (by omega)]; omega
theorem hR_nn {h : Nat} (hh : h < 2147483648) : 0 ≤ hR h ↔ h ≠ 0 := by
  rw [← Int32.not_lt, hR_neg hh]
theorem oI_neg {o : Option Nat} (h : ∀ k, o = some k → k < 2147483648) : oI o < 0 ↔ o = none := by
  cases o with
  | none => exact ⟨fun _ => rfl, fun _ => by decide⟩
  | some k => rw [oI_some, i_0, i_lt (h k rfl) (by omega)]; exact ⟨fun q => by omega, fun q => by cases q⟩
theorem oI_nn {o : Option Nat} (h : ∀ k, o = some k → k < 2147483648) : 0 ≤ oI o ↔ o ≠ none := by
  rw [← Int32.not_lt, oI_neg h]
theorem n_cl0 : (0 : Int32).toNatClampNeg = 0 := rfl
theorem n_cl1 : (1 : Int32).toNatClampNeg = 1 := rfl
theorem n_cl2 : (2 : Int32).toNatClampNeg = 2 := rfl
theorem n_cl3 : (3 : Int32).toNatClampNeg = 3 := rfl
theorem n_cl4 : (4 : Int32).toNatClampNeg = 4 := rfl
theorem n_cl5 : (5 : Int32).toNatClampNeg = 5 := rfl
theorem n_cl6 : (6 : Int32).toNatClampNeg = 6 := rfl
theorem n_cl7 : (7 : Int32).toNatClampNeg = 7 := rfl
theorem n_cl8 : (8 : Int32).toNatClampNeg = 8 := rfl
theorem n_cl9 : (9 : Int32).toNatClampNeg = 9 := rfl
theorem fgb_none {M : GM} {c : Nat} : (fgb M c).isSome = decide (0 < bsd M c) := by
  unfold fgb bsd cnt cnt cnt cnt cnt
  cases e0 : nbAt M c 0 <;> cases e1 : nbAt M c 1 <;> cases e2 : nbAt M c 2 <;> cases e3 : nbAt M c 3 <;> simp [e0, e1, e2, e3]
