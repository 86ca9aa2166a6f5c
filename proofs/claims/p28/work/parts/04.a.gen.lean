/-- RimGrains$Fall: falling, newNumbers -/
abbrev GX0 : Type := (Nat → Int32) × (Nat → Int32)
abbrev pX0_falling (S : GX0) : Nat → Int32 := S.1
abbrev pX0_newNumbers (S : GX0) : Nat → Int32 := S.2
/-- RimGrains$Pad: signs, length, next, place, letter, number -/
abbrev GX1 : Type := (Nat → Int32) × Int32 × Int32 × Int32 × Int32 × Int32
abbrev pX1_signs (S : GX1) : Nat → Int32 := S.1
abbrev pX1_length (S : GX1) : Int32 := S.2.1
abbrev pX1_next (S : GX1) : Int32 := S.2.2.1
abbrev pX1_place (S : GX1) : Int32 := S.2.2.2.1
abbrev pX1_letter (S : GX1) : Int32 := S.2.2.2.2.1
abbrev pX1_number (S : GX1) : Int32 := S.2.2.2.2.2
/-- RimGrains$Screens: catches, grains, open -/
abbrev GX3 : Type := (Nat → Int32) × Int32 × Int32
abbrev pX3_catches (S : GX3) : Nat → Int32 := S.1
abbrev pX3_grains (S : GX3) : Int32 := S.2.1
abbrev pX3_open (S : GX3) : Int32 := S.2.2
/-- RimGrains$State: cells, holders, steps, grainsByCell, settings, grains, lot, released, lost, gone, walked -/
abbrev GX4 : Type := (Nat → Int32) × (Nat → Int32) × (Nat → Int32) × (Nat → Int32) × (Nat → Int32) × Int32 × Int32 × Int32 × Int32 × Int32 × Int32
abbrev pX4_cells (S : GX4) : Nat → Int32 := S.1
abbrev pX4_holders (S : GX4) : Nat → Int32 := S.2.1
abbrev pX4_steps (S : GX4) : Nat → Int32 := S.2.2.1
abbrev pX4_grainsByCell (S : GX4) : Nat → Int32 := S.2.2.2.1
abbrev pX4_settings (S : GX4) : Nat → Int32 := S.2.2.2.2.1
abbrev pX4_grains (S : GX4) : Int32 := S.2.2.2.2.2.1
abbrev pX4_lot (S : GX4) : Int32 := S.2.2.2.2.2.2.1
abbrev pX4_released (S : GX4) : Int32 := S.2.2.2.2.2.2.2.1
abbrev pX4_lost (S : GX4) : Int32 := S.2.2.2.2.2.2.2.2.1
abbrev pX4_gone (S : GX4) : Int32 := S.2.2.2.2.2.2.2.2.2.1
abbrev pX4_walked (S : GX4) : Int32 := S.2.2.2.2.2.2.2.2.2.2
/-- RimGrains$Trees: depths, roots, holding, members, highest, second, grains -/
abbrev GX5 : Type := (Nat → Int32) × (Nat → Int32) × (Nat → Int32) × (Nat → Int32) × (Nat → Int32) × (Nat → Int32) × Int32
abbrev pX5_depths (S : GX5) : Nat → Int32 := S.1
abbrev pX5_roots (S : GX5) : Nat → Int32 := S.2.1
abbrev pX5_holding (S : GX5) : Nat → Int32 := S.2.2.1
abbrev pX5_members (S : GX5) : Nat → Int32 := S.2.2.2.1
abbrev pX5_highest (S : GX5) : Nat → Int32 := S.2.2.2.2.1
abbrev pX5_second (S : GX5) : Nat → Int32 := S.2.2.2.2.2.1
abbrev pX5_grains (S : GX5) : Int32 := S.2.2.2.2.2.2
/-- RimGrains$Walk: place, steps, draws, lot, holder -/
abbrev GX6 : Type := Int32 × Int32 × Int32 × Int32 × Int32
abbrev pX6_place (S : GX6) : Int32 := S.1
abbrev pX6_steps (S : GX6) : Int32 := S.2.1
abbrev pX6_draws (S : GX6) : Int32 := S.2.2.1
abbrev pX6_lot (S : GX6) : Int32 := S.2.2.2.1
abbrev pX6_holder (S : GX6) : Int32 := S.2.2.2.2
/-- RimGrains: states, saved, stopError, stopDeed, stopPlace -/
abbrev GX7 : Type := Int32 × Int32 × Int32 × Int32 × Int32
abbrev pX7_states (S : GX7) : Int32 := S.1
abbrev pX7_saved (S : GX7) : Int32 := S.2.1
abbrev pX7_stopError (S : GX7) : Int32 := S.2.2.1
abbrev pX7_stopDeed (S : GX7) : Int32 := S.2.2.2.1
abbrev pX7_stopPlace (S : GX7) : Int32 := S.2.2.2.2
abbrev wX0 (cI cZ cC : ClassId) (q : Nat → Nat) (S : GX0) : va_W := [(q 0, .inr (0, [.ref (q 1), .ref (q 2)])), (q 1, .inl (cZ, 121, .inl S.1)), (q 2, .inl (cI, 121, .inl S.2))]
abbrev wX1 (cI cZ cC : ClassId) (q : Nat → Nat) (S : GX1) : va_W := [(q 0, .inr (1, [.ref (q 1), .int S.2.1, .int S.2.2.1, .int S.2.2.2.1, .int S.2.2.2.2.1, .int S.2.2.2.2.2])), (q 1, .inl (cC, 60, .inl S.1))]
abbrev wX3 (cI cZ cC : ClassId) (q : Nat → Nat) (S : GX3) : va_W := [(q 0, .inr (2, [.ref (q 1), .int S.2.1, .int S.2.2])), (q 1, .inl (cI, 121, .inl S.1))]
abbrev wX4 (cI cZ cC : ClassId) (q : Nat → Nat) (S : GX4) : va_W := [(q 0, .inr (3, [.ref (q 1), .ref (q 2), .ref (q 3), .ref (q 4), .ref (q 5), .int S.2.2.2.2.2.1, .int S.2.2.2.2.2.2.1, .int S.2.2.2.2.2.2.2.1, .int S.2.2.2.2.2.2.2.2.1, .int S.2.2.2.2.2.2.2.2.2.1, .int S.2.2.2.2.2.2.2.2.2.2])), (q 1, .inl (cI, 121, .inl S.1)), (q 2, .inl (cI, 121, .inl S.2.1)), (q 3, .inl (cI, 121, .inl S.2.2.1)), (q 4, .inl (cI, 121, .inl S.2.2.2.1)), (q 5, .inl (cI, 4, .inl S.2.2.2.2.1))]
abbrev wX5 (cI cZ cC : ClassId) (q : Nat → Nat) (S : GX5) : va_W := [(q 0, .inr (4, [.ref (q 1), .ref (q 2), .ref (q 3), .ref (q 4), .ref (q 5), .ref (q 6), .int S.2.2.2.2.2.2])), (q 1, .inl (cI, 121, .inl S.1)), (q 2, .inl (cI, 121, .inl S.2.1)), (q 3, .inl (cI, 121, .inl S.2.2.1)), (q 4, .inl (cI, 121, .inl S.2.2.2.1)), (q 5, .inl (cI, 121, .inl S.2.2.2.2.1)), (q 6, .inl (cI, 121, .inl S.2.2.2.2.2.1))]
abbrev wX6 (cI cZ cC : ClassId) (q : Nat → Nat) (S : GX6) : va_W := [(q 0, .inr (5, [.int S.1, .int S.2.1, .int S.2.2.1, .int S.2.2.2.1, .int S.2.2.2.2]))]
abbrev wX7 (cI cZ cC : ClassId) (q : Nat → Nat) (qn qs qt qh qw qf qr qc qp : Nat → Nat) (S : GX7) : va_W := [(q 0, .inr (6, [.ref (qn 0), .ref (qs 0), .ref (qt 0), .ref (qh 0), .ref (qw 0), .ref (qf 0), .ref (qr 0), .ref (qc 0), .ref (qp 0), .int S.1, .int S.2.1, .int S.2.2.1, .int S.2.2.2.1, .int S.2.2.2.2]))]
abbrev GH : Type := GX4 × GX4 × GX4 × GX4
abbrev QH : Type := (Nat → Nat) × (Nat → Nat) × (Nat → Nat) × (Nat → Nat)
/-- the history: the row of four states, and the states in its order -/
abbrev wH (cI cZ cC cO : ClassId) (q : Nat → Nat) (u : QH) (S : GH) : va_W := (q 0, .inl (cO, 4, .inr (.inr (.inr (.inr (fun j => [some (u.1 0), some (u.2.1 0), some (u.2.2.1 0), some (u.2.2.2 0)].getD j none)))))) :: (wX4 cI cZ cC u.1 S.1 ++ wX4 cI cZ cC u.2.1 S.2.1 ++ wX4 cI cZ cC u.2.2.1 S.2.2.1 ++ wX4 cI cZ cC u.2.2.2 S.2.2.2)
abbrev wA (cA : ClassId) (n q : Nat) (f : Nat → Int32) : va_W := [(q, .inl (cA, n, .inl f))]
def nestF : List (String × Nat × String × String × String) := [(RX3, 22, "RimGrains$State", "grains", "I"), (RX5, 34, "RimGrains$State", "grains", "I"), (RX0, 19, "RimGrains$State", "grains", "I"), (RX7, 210, "RimGrains$State", "grains", "I"), (RX6, 27, "RimGrains$State", "lot", "I"), (RX7, 85, "RimGrains$State", "lot", "I"), (RX7, 228, "RimGrains$State", "released", "I"), (RX7, 231, "RimGrains$State", "lost", "I"), (RX7, 234, "RimGrains$State", "gone", "I"), (RX7, 237, "RimGrains$State", "walked", "I"), (RX4, 86, "RimGrains$Walk", "place", "I"), (RX7, 259, "RimGrains$Walk", "place", "I"), (RX4, 80, "RimGrains$Walk", "steps", "I"), (RX7, 260, "RimGrains$Walk", "draws", "I"), (RX4, 77, "RimGrains$Walk", "lot", "I"), (RX4, 89, "RimGrains$Walk", "holder", "I"), (RX7, 182, "RimGrains$Trees", "depths", "[I"), (RX7, 198, "RimGrains$Trees", "roots", "[I"), (RX7, 186, "RimGrains$Trees", "holding", "[I"), (RX7, 189, "RimGrains$Trees", "members", "[I"), (RX7, 192, "RimGrains$Trees", "highest", "[I"), (RX7, 289, "RimGrains$Screens", "catches", "[I"), (RX7, 270, "RimGrains$Screens", "open", "I"), (RX7, 117, "RimGrains$Pad", "length", "I"), (RX7, 148, "RimGrains$Pad", "place", "I"), (RX7, 137, "RimGrains$Pad", "letter", "C"), (RX7, 141, "RimGrains$Pad", "number", "I")]
def nestM : List (String × Nat × MethodName) := [(RX7, 11, yX4_init), (RX7, 28, yX6_init), (RX7, 35, yX0_init), (RX7, 42, yX5_init), (RX7, 49, yX3_init), (RX7, 56, yX1_init), (RX6, 57, yX7_nextLot)]

