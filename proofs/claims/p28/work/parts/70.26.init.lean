theorem dfX7 : ∀ j, j < 14 → defaultValue (tyX7 j) = vp_V [.null, .null, .null, .null, .null, .null, .null, .null, .null, .int 0, .int 0, .int 0, .int 0, .int 0] j := fun j hj => by
  match j, hj with
  | 0, _ => rfl
  | 1, _ => rfl
  | 2, _ => rfl
  | 3, _ => rfl
  | 4, _ => rfl
  | 5, _ => rfl
  | 6, _ => rfl
  | 7, _ => rfl
  | 8, _ => rfl
  | 9, _ => rfl
  | 10, _ => rfl
  | 11, _ => rfl
  | 12, _ => rfl
  | 13, _ => rfl
  | k + 14, h => exact absurd h (by omega)
abbrev wAll (cI cZ cC cO : ClassId) (Q : Nat → Nat → Nat) (R : GX7) (N S T : GX4) (Hi : GH) (K : GX6) (F : GX0) (Tr : GX5) (Sc : GX3) (P : GX1) : va_W := wX7 cI cZ cC (Q 0) (Q 1) (Q 2) (Q 3) (Q 4) (Q 5) (Q 6) (Q 7) (Q 8) (Q 9) R ++ wX4 cI cZ cC (Q 1) N ++ wX4 cI cZ cC (Q 2) S ++ wX4 cI cZ cC (Q 3) T ++ wH cI cZ cC cO (Q 4) (Q 10, Q 11, Q 12, Q 13) Hi ++ wX6 cI cZ cC (Q 5) K ++ wX0 cI cZ cC (Q 6) F ++ wX5 cI cZ cC (Q 7) Tr ++ wX3 cI cZ cC (Q 8) Sc ++ wX1 cI cZ cC (Q 9) P
abbrev rmX7_init : Room := { frames := 4, cells := 58, slots := 4669, locals := 87 }
set_option maxHeartbeats 40000000 in
set_option maxRecDepth 100000 in
theorem mX7_init (l : Launch) (dC : Nat → ClassId) (dI : Nat → Nat → Nat) (cI cZ cC cO : ClassId) (h0 : Nat) (sz : Nat) (out : Int32 × GX4) (hf : fX4_plant 0 S0X4 = some out) : Met l yX7_init wsX7_init rmX7_init (va_Pc [.ref h0] (pcA (dC, dI) (wTys cI cZ cC cO) sz ([(h0, .inr (6, [.null, .null, .null, .null, .null, .null, .null, .null, .null, .int 0, .int 0, .int 0, .int 0, .int 0]))] : va_W))) (va_Qv (fun u : Nat → Nat → Nat => u 0 0 = h0) (fun u => poW (dC, dI) (va_A ([(h0, .inr (6, [.null, .null, .null, .null, .null, .null, .null, .null, .null, .int 0, .int 0, .int 0, .int 0, .int 0]))] : va_W) sz) (wAll cI cZ cC cO u (0, 0, 0, 0, 0) out.2 S0X4 S0X4 (S0X4, S0X4, S0X4, S0X4) S0X6 S0X0 S0X5 S0X3 S0X1)) (va_A ([(h0, .inr (6, [.null, .null, .null, .null, .null, .null, .null, .null, .null, .int 0, .int 0, .int 0, .int 0, .int 0]))] : va_W) sz)) 58 4669 (va_A ([(h0, .inr (6, [.null, .null, .null, .null, .null, .null, .null, .null, .null, .int 0, .int 0, .int 0, .int 0, .int 0]))] : va_W) sz) := by
  sorry
