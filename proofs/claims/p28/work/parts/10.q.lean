def atT (c : Nat → Nat) (len p : Nat) : Nat := if p < len then c p else 0
/-- the number of n signs from q on, behind t -/
def valF (c : Nat → Nat) (q t : Nat) : Nat → Nat
  | 0 => t
  | n + 1 => 10 * valF c q t n + (c (q + n) - 48)
theorem valF_cons (c : Nat → Nat) (q t : Nat) : ∀ n, valF c q t (n + 1) = valF c (q + 1) (10 * t + (c q - 48)) n
  | 0 => rfl
  | n + 1 => by
    rw [valF, valF_cons c q t n, valF, show q + (n + 1) = q + 1 + n by omega]
def mo (o : Nat) : Nat := if o = 103 then 39 else 120
theorem mo_le (o : Nat) : mo o ≤ 120 := by unfold mo; split <;> omega
theorem fwA_dig {c : Nat → Nat} {len q o v : Nat} (hq : q < len) (ho : o = 103 ∨ o = 98) (h1 : 48 ≤ c q) (h2 : c q ≤ 57) (hv : v ≠ 1) (hm : (if v = 0 then c q - 48 else 10 * (v - 1) + (c q - 48)) ≤ mo o) : fwA c len (len - q) o v = fwA c len (len - (q + 1)) o ((if v = 0 then c q - 48 else 10 * (v - 1) + (c q - 48)) + 1) := by
  rw [show len - q = (len - (q + 1)) + 1 by omega, fwA, show len - (len - (q + 1) + 1) = q by omega, if_neg (show ¬ o = 32 by omega), if_neg (show ¬ c q = 59 by omega), if_neg (by omega)]
  unfold mo at hm
  rw [if_pos hm]
theorem fwA_stop {c : Nat → Nat} {len q o v : Nat} (hq : q < len) (ho : o = 103 ∨ o = 98) (hne : c q ≠ 59) (hs : 48 ≤ c q → c q ≤ 57 → v ≠ 1 → mo o < (if v = 0 then c q - 48 else 10 * (v - 1) + (c q - 48))) : fwA c len (len - q) o v = some q := by
  rw [show len - q = (len - (q + 1)) + 1 by omega, fwA, show len - (len - (q + 1) + 1) = q by omega, if_neg (show ¬ o = 32 by omega), if_neg hne]
  by_cases q5 : o = 119 ∨ c q < 48 ∨ 57 < c q ∨ v = 1
  · rw [if_pos q5]
  · rw [if_neg q5]
    have := hs (by omega) (by omega) (by omega)
    unfold mo at this
    rw [if_neg (by omega)]
theorem fwA_32 (c : Nat → Nat) (len v : Nat) : ∀ m, fwA c len m 32 v = fwA c len m 32 0
  | 0 => by rw [fwA, fwA, if_neg (by omega), if_pos rfl, if_neg (by omega), if_pos rfl]
  | m + 1 => by rw [fwA, fwA, if_pos rfl, if_pos rfl]
/-- what is left behind a deed that ends at q -/
def nxt (c : Nat → Nat) (len q : Nat) : Option Nat := if q = len then none else if c q = 59 then fwA c len (len - (q + 1)) 32 0 else some q
/-- a deed at p, of the letter L and n signs more, with the number t -/
def Dd (c : Nat → Nat) (len p L n t : Nat) : Prop := p < len ∧ c p = L ∧ p + 1 + n ≤ len ∧ ((L = 119 ∧ n = 0) ∨ ((L = 103 ∨ L = 98) ∧ 0 < n ∧ (∀ i, i < n → 48 ≤ c (p + 1 + i) ∧ c (p + 1 + i) ≤ 57) ∧ t = valF c (p + 1) 0 n ∧ (∀ j, j ≤ n → valF c (p + 1) 0 j ≤ mo L)))
