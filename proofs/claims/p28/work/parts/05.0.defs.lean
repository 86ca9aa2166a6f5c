/-- RimGrains$Plate.static boolean isCell(int); -/
def fX2_isCell (a0 : Int32) : Option (Int32) :=
  (if a0 < 0 then some 0 else (if 121 ≤ a0 then some 0 else some 1))
abbrev rmX2_isCell : Room := { frames := 0, cells := 0, slots := 0, locals := 0 }
/-- RimGrains$Plate.static int ringOf(int); -/
def fX2_ringOf (a0 : Int32) : Option (Int32) :=
  some (jmax (jabs ((a0 / 11) - 5)) (jabs ((jrem a0 11) - 5)))
abbrev rmX2_ringOf : Room := { frames := 1, cells := 0, slots := 0, locals := 21 }
/-- RimGrains$Plate.static boolean isRim(int); -/
def fX2_isRim (a0 : Int32) : Option (Int32) :=
  (if a0 < 0 then some 0 else (if 40 ≤ a0 then some 0 else some 1))
abbrev rmX2_isRim : Room := { frames := 0, cells := 0, slots := 0, locals := 0 }
/-- RimGrains$Plate.static int cellOfRim(int); -/
def fX2_cellOfRim (a0 : Int32) : Option (Int32) :=
  (if 10 < a0 then (if 20 < a0 then (if 30 < a0 then some (11 * (40 - a0)) else some (140 - a0)) else some (((11 * (a0 - 10)) + 11) - 1)) else some a0)
abbrev rmX2_cellOfRim : Room := { frames := 0, cells := 0, slots := 0, locals := 0 }
/-- RimGrains$Plate.static int neighbour(int, int); -/
def fX2_neighbour (a0 : Int32) (a1 : Int32) : Option (Int32) :=
  (if a0 < 0 then some (-4) else (if a0 < 121 then (if a1 = 0 then (if (a0 / 11) ≤ 0 then some (-4) else some (a0 - 11)) else (if a1 = 1 then (if 10 ≤ (jrem a0 11) then some (-4) else some (a0 + 1)) else (if a1 = 2 then (if 10 ≤ (a0 / 11) then some (-4) else some (a0 + 11)) else (if a1 = 3 then (if (jrem a0 11) ≤ 0 then some (-4) else some (a0 - 1)) else some (-4))))) else some (-4)))
abbrev rmX2_neighbour : Room := { frames := 0, cells := 0, slots := 0, locals := 0 }
/-- RimGrains.private static int nextLot(int); -/
def fX7_nextLot (a0 : Int32) : Option (Int32) :=
  some (jrem ((421 * a0) + 1663) 10000)
abbrev rmX7_nextLot : Room := { frames := 0, cells := 0, slots := 0, locals := 0 }
/-- RimGrains$Walk.boolean sticks(); -/
def fX6_sticks (g0 : GX6) : Option (Int32) :=
  (if (pX6_holder g0) = (-4) then some 0 else some 1)
abbrev rmX6_sticks : Room := { frames := 0, cells := 0, slots := 0, locals := 0 }
/-- RimGrains.private static boolean isSettingValue(int, int); -/
def fX7_isSettingValue (a0 : Int32) (a1 : Int32) : Option (Int32) :=
  (if a0 = 0 then (if a1 < 1 then some 0 else (if 4 < a1 then some 0 else some 1)) else (if a0 = 1 then (if a1 < 10 then some 0 else (if 200 < a1 then some 0 else some 1)) else (if a0 = 2 then (if a1 < 0 then some 0 else (if 4 < a1 then some 0 else some 1)) else (if a0 = 3 then (if a1 < 0 then some 0 else (if 4 ≤ a1 then some 0 else some 1)) else some 0))))
abbrev rmX7_isSettingValue : Room := { frames := 0, cells := 0, slots := 0, locals := 0 }
/-- RimGrains$Pad.void write(char); -/
def fX1_write (a1 : Int32) (g0 : GX1) : Option (GX1) :=
  (if 60 ≤ (pX1_length g0) then some g0 else (if (pX1_length g0) < 0 ∨ 60 ≤ (pX1_length g0).toNatClampNeg then none else some ((upd (pX1_signs g0) (pX1_length g0).toNatClampNeg (vp_nar .char a1)), ((pX1_length g0) + 1), (pX1_next g0), (pX1_place g0), (pX1_letter g0), (pX1_number g0))))
abbrev rmX1_write : Room := { frames := 0, cells := 0, slots := 0, locals := 0 }
/-- RimGrains$Pad.void wipe(); -/
def fX1_wipe (g0 : GX1) : Option (GX1) :=
  some ((pX1_signs g0), 0, (pX1_next g0), (pX1_place g0), (pX1_letter g0), (pX1_number g0))
abbrev rmX1_wipe : Room := { frames := 0, cells := 0, slots := 0, locals := 0 }
/-- RimGrains$Pad.private static boolean isLetter(char); -/
def jX1_isLetter_1 : Option (Int32) :=
  some 1
def fX1_isLetter (a0 : Int32) : Option (Int32) :=
  (if a0 = 103 then jX1_isLetter_1 else (if a0 = 98 then jX1_isLetter_1 else (if a0 = 119 then jX1_isLetter_1 else some 0)))
abbrev rmX1_isLetter : Room := { frames := 0, cells := 0, slots := 0, locals := 0 }
/-- RimGrains$Pad.private static boolean isWhole(char, int); -/
def jX1_isWhole_1 : Option (Int32) :=
  some 1
def fX1_isWhole (a0 : Int32) (a1 : Int32) : Option (Int32) :=
  (if a0 = 119 then jX1_isWhole_1 else (if a0 = 32 then some 0 else (if a1 = (-1) then some 0 else jX1_isWhole_1)))
abbrev rmX1_isWhole : Room := { frames := 0, cells := 0, slots := 0, locals := 0 }
/-- RimGrains$Pad.private static int withDigit(char, int, char); -/
def jX1_withDigit_2 (y0_1 : Int32) (y0_2 : Int32) : Option (Int32) :=
  (if y0_2 < y0_1 then some (-2) else some y0_1)
def jX1_withDigit_1 (a0 : Int32) (y0_1 : Int32) : Option (Int32) :=
  (if a0 = 103 then jX1_withDigit_2 y0_1 39 else jX1_withDigit_2 y0_1 120)
def fX1_withDigit (a0 : Int32) (a1 : Int32) (a2 : Int32) : Option (Int32) :=
  (if a0 = 119 then some (-2) else (if a2 < 48 then some (-2) else (if 57 < a2 then some (-2) else (if a1 = 0 then some (-2) else (if a1 = (-1) then jX1_withDigit_1 a0 (a2 - 48) else jX1_withDigit_1 a0 ((10 * a1) + (a2 - 48)))))))
abbrev rmX1_withDigit : Room := { frames := 0, cells := 0, slots := 0, locals := 0 }
/-- RimGrains$Pad.int firstWrong(); -/
def jX1_firstWrong_1 (s7 : (Int32 × Int32 × Int32)) (x1_1 : Int32) (x2_1 : Int32) : Option ((Int32 × Int32 × Int32) ⊕ (Int32)) :=
  some (.inl (x1_1, x2_1, (s7.2.2 + 1)))
def tX1_firstWrong_7 (g0 : GX1) (s7 : (Int32 × Int32 × Int32)) : Option ((Int32 × Int32 × Int32) ⊕ (Int32)) :=
  (if (pX1_length g0) ≤ s7.2.2 then ((fX1_isWhole s7.1 s7.2.1).bind fun o94 => (if o94 = 0 then some (.inr (pX1_length g0)) else some (.inr (-4)))) else (if s7.2.2 < 0 ∨ 60 ≤ s7.2.2.toNatClampNeg then none else (if s7.1 = 32 then ((fX1_isLetter ((pX1_signs g0) s7.2.2.toNatClampNeg)).bind fun o31 => (if o31 = 0 then some (.inr s7.2.2) else jX1_firstWrong_1 s7 ((pX1_signs g0) s7.2.2.toNatClampNeg) (-1))) else (if ((pX1_signs g0) s7.2.2.toNatClampNeg) = 59 then ((fX1_isWhole s7.1 s7.2.1).bind fun o56 => (if o56 = 0 then some (.inr s7.2.2) else jX1_firstWrong_1 s7 32 s7.2.1)) else ((fX1_withDigit s7.1 s7.2.1 ((pX1_signs g0) s7.2.2.toNatClampNeg)).bind fun o74 => (if o74 = (-2) then some (.inr s7.2.2) else jX1_firstWrong_1 s7 s7.1 o74))))))
def fX1_firstWrong (g0 : GX1) : Option (Int32) :=
  lp (tX1_firstWrong_7 g0) FU (32, (-1), 0)
abbrev rmX1_firstWrong : Room := { frames := 1, cells := 0, slots := 0, locals := 25 }
/-- RimGrains$Pad.void startReading(); -/
def fX1_startReading (g0 : GX1) : Option (GX1) :=
  some ((pX1_signs g0), (pX1_length g0), 0, (pX1_place g0), (pX1_letter g0), (pX1_number g0))
abbrev rmX1_startReading : Room := { frames := 0, cells := 0, slots := 0, locals := 0 }
/-- RimGrains$Pad.boolean readDeed(); -/
def tX1_readDeed_49 (s49 : (GX1)) : Option ((GX1) ⊕ (GX1)) :=
  (if (pX1_length s49) ≤ (pX1_next s49) then some (.inr s49) else (if (pX1_next s49) < 0 ∨ 60 ≤ (pX1_next s49).toNatClampNeg then none else (if ((pX1_signs s49) (pX1_next s49).toNatClampNeg) = 59 then some (.inr s49) else (if (pX1_next s49) < 0 ∨ 60 ≤ (pX1_next s49).toNatClampNeg then none else some (.inl ((pX1_signs s49), (pX1_length s49), ((pX1_next s49) + 1), (pX1_place s49), (pX1_letter s49), (((10 * (pX1_number s49)) + ((pX1_signs s49) (pX1_next s49).toNatClampNeg)) - 48)))))))
def fX1_readDeed (g0 : GX1) : Option (Int32 × GX1) :=
  (if (pX1_next g0) < (pX1_length g0) then (if (pX1_next g0) < 0 ∨ 60 ≤ (pX1_next g0).toNatClampNeg then none else (jgc ((pX1_signs g0) (pX1_next g0).toNatClampNeg) ((lp tX1_readDeed_49 FU ((pX1_signs g0), (pX1_length g0), ((pX1_next g0) + 1), (pX1_next g0), ((pX1_signs g0) (pX1_next g0).toNatClampNeg), 0)).bind fun o49 => some (1, ((pX1_signs o49), (pX1_length o49), ((pX1_next o49) + 1), (pX1_place o49), (pX1_letter o49), (pX1_number o49)))))) else some (0, g0))
abbrev rmX1_readDeed : Room := { frames := 0, cells := 0, slots := 0, locals := 0 }
/-- RimGrains$Plate.static int rimOf(int); -/
def fX2_rimOf (a0 : Int32) : Option (Int32) :=
  (if (a0 / 11) = 0 then some (jrem a0 11) else (if (jrem a0 11) = 10 then some (10 + (a0 / 11)) else (if (a0 / 11) = 10 then some (30 - (jrem a0 11)) else (if (jrem a0 11) = 0 then some (40 - (a0 / 11)) else some (-4)))))
abbrev rmX2_rimOf : Room := { frames := 0, cells := 0, slots := 0, locals := 0 }
/-- RimGrains$Plate.static int directionInward(int); -/
def fX2_directionInward (a0 : Int32) : Option (Int32) :=
  (if 10 < a0 then (if 19 < a0 then (if 30 < a0 then some 1 else some 0) else some 3) else some 2)
abbrev rmX2_directionInward : Room := { frames := 0, cells := 0, slots := 0, locals := 0 }
/-- RimGrains$State.private void mark(int, int); -/
def fX4_mark (a1 : Int32) (a2 : Int32) (g0 : GX4) : Option (GX4) :=
  ((fX2_isCell a1).bind fun o1 => (if o1 = 0 then some g0 else (if a1 < 0 ∨ 121 ≤ a1.toNatClampNeg then none else some ((pX4_cells g0), (pX4_holders g0), (pX4_steps g0), (upd (pX4_grainsByCell g0) a1.toNatClampNeg a2), (pX4_settings g0), (pX4_grains g0), (pX4_lot g0), (pX4_released g0), (pX4_lost g0), (pX4_gone g0), (pX4_walked g0)))))
abbrev rmX4_mark : Room := { frames := 1, cells := 0, slots := 0, locals := 20 }
/-- RimGrains$State.private static boolean isRootCell(int, int); -/
def fX4_isRootCell (a0 : Int32) (a1 : Int32) : Option (Int32) :=
  (if a0 = 0 then ((fX2_ringOf a1).bind fun o29 => (if o29 = 0 then some 1 else some 0)) else (if a0 = 1 then (if (a1 / 11) = 10 then some 1 else some 0) else ((fX2_ringOf a1).bind fun o57 => (if o57 = 2 then some 1 else some 0))))
abbrev rmX4_isRootCell : Room := { frames := 2, cells := 0, slots := 0, locals := 41 }
/-- RimGrains$State.private void add(int, int, int); -/
def fX4_add (a1 : Int32) (a2 : Int32) (a3 : Int32) (g0 : GX4) : Option (GX4) :=
  (if 121 ≤ (pX4_grains g0) then some g0 else ((fX2_isCell a1).bind fun o10 => (if o10 = 0 then some g0 else (if (pX4_grains g0) < 0 ∨ 121 ≤ (pX4_grains g0).toNatClampNeg then none else (if (pX4_grains g0) < 0 ∨ 121 ≤ (pX4_grains g0).toNatClampNeg then none else (if (pX4_grains g0) < 0 ∨ 121 ≤ (pX4_grains g0).toNatClampNeg then none else ((fX4_mark a1 (pX4_grains g0) ((upd (pX4_cells g0) (pX4_grains g0).toNatClampNeg a1), (upd (pX4_holders g0) (pX4_grains g0).toNatClampNeg a2), (upd (pX4_steps g0) (pX4_grains g0).toNatClampNeg a3), (pX4_grainsByCell g0), (pX4_settings g0), (pX4_grains g0), (pX4_lot g0), (pX4_released g0), (pX4_lost g0), (pX4_gone g0), (pX4_walked g0))).bind fun o53 => some ((pX4_cells o53), (pX4_holders o53), (pX4_steps o53), (pX4_grainsByCell o53), (pX4_settings o53), ((pX4_grains o53) + 1), (pX4_lot o53), (pX4_released o53), (pX4_lost o53), (pX4_gone o53), (pX4_walked o53)))))))))
abbrev rmX4_add : Room := { frames := 2, cells := 0, slots := 0, locals := 42 }
/-- RimGrains$State.int plant(int); -/
def tX4_plant_27 (s27 : (Int32 × GX4)) : Option ((Int32 × GX4) ⊕ (GX4)) :=
  (if 121 ≤ s27.1 then some (.inr s27.2) else ((fX4_mark s27.1 (-4) s27.2).bind fun o37 => some (.inl ((s27.1 + 1), o37))))
def jX4_plant_1 (s48 : (Int32 × GX4)) (g0_1 : GX4) : Option ((Int32 × GX4) ⊕ (GX4)) :=
  some (.inl ((s48.1 + 1), g0_1))
def tX4_plant_48 (a1 : Int32) (s48 : (Int32 × GX4)) : Option ((Int32 × GX4) ⊕ (GX4)) :=
  (if 121 ≤ s48.1 then some (.inr s48.2) else ((fX4_isRootCell a1 s48.1).bind fun o56 => (if o56 = 0 then jX4_plant_1 s48 s48.2 else ((fX4_add s48.1 (-4) 0 s48.2).bind fun o67 => jX4_plant_1 s48 o67))))
def fX4_plant (a1 : Int32) (g0 : GX4) : Option (Int32 × GX4) :=
  ((lp tX4_plant_27 FU (0, ((pX4_cells g0), (pX4_holders g0), (pX4_steps g0), (pX4_grainsByCell g0), (pX4_settings g0), 0, (pX4_lot g0), 0, 0, 0, 0))).bind fun o27 => ((lp (tX4_plant_48 a1) FU (0, o27)).bind fun o48 => some ((pX4_grains o48), o48)))
abbrev rmX4_plant : Room := { frames := 3, cells := 0, slots := 0, locals := 65 }
/-- RimGrains$State.void takeOver(RimGrains$State); -/
def fX4_takeOver (g0 : GX4) (g1 : GX4) : Option (GX4) :=
  some ((pX4_cells g1), (pX4_holders g1), (pX4_steps g1), (pX4_grainsByCell g1), (pX4_settings g1), (pX4_grains g1), (pX4_lot g1), (pX4_released g1), (pX4_lost g1), (pX4_gone g1), (pX4_walked g1))
abbrev rmX4_takeOver : Room := { frames := 1, cells := 0, slots := 0, locals := 28 }
/-- RimGrains$State.int grainAt(int); -/
def fX4_grainAt (a1 : Int32) (g0 : GX4) : Option (Int32) :=
  (if a1 < 0 then some (-4) else (if 121 ≤ a1 then some (-4) else (if a1 < 0 ∨ 121 ≤ a1.toNatClampNeg then none else some ((pX4_grainsByCell g0) a1.toNatClampNeg))))
abbrev rmX4_grainAt : Room := { frames := 0, cells := 0, slots := 0, locals := 0 }
/-- RimGrains$State.int refusalToGo(int); -/
def fX4_refusalToGo (a1 : Int32) (g0 : GX4) : Option (Int32) :=
  ((fX2_isRim a1).bind fun o1 => (if o1 = 0 then some (-1) else ((fX2_cellOfRim a1).bind fun o11 => ((fX4_grainAt o11 g0).bind fun o14 => (if o14 = (-4) then some 0 else some (-2))))))
abbrev rmX4_refusalToGo : Room := { frames := 1, cells := 0, slots := 0, locals := 21 }
/-- RimGrains$State.int setting(int); -/
def fX4_setting (a1 : Int32) (g0 : GX4) : Option (Int32) :=
  (if a1 < 0 then some 0 else (if 4 ≤ a1 then some 0 else (if a1 < 0 ∨ 4 ≤ a1.toNatClampNeg then none else some ((pX4_settings g0) a1.toNatClampNeg))))
abbrev rmX4_setting : Room := { frames := 0, cells := 0, slots := 0, locals := 0 }
/-- RimGrains$State.int firstGrainBeside(int); -/
def tX4_firstGrainBeside_2 (a1 : Int32) (g0 : GX4) (s2 : (Int32)) : Option ((Int32) ⊕ (Int32)) :=
  (if 4 ≤ s2 then some (.inr (-4)) else ((fX2_neighbour a1 s2).bind fun o10 => ((fX4_grainAt o10 g0).bind fun o13 => (if o13 = (-4) then some (.inl (s2 + 1)) else some (.inr o13)))))
def fX4_firstGrainBeside (a1 : Int32) (g0 : GX4) : Option (Int32) :=
  lp (tX4_firstGrainBeside_2 a1 g0) FU 0
abbrev rmX4_firstGrainBeside : Room := { frames := 1, cells := 0, slots := 0, locals := 23 }
/-- RimGrains$State.void settle(RimGrains$Walk); -/
def fX4_settle (g0 : GX4) (g1 : GX6) : Option (GX4) :=
  ((fX6_sticks g1).bind fun o32 => (if o32 = 0 then some ((pX4_cells g0), (pX4_holders g0), (pX4_steps g0), (pX4_grainsByCell g0), (pX4_settings g0), (pX4_grains g0), (pX6_lot g1), ((pX4_released g0) + 1), ((pX4_lost g0) + 1), (pX4_gone g0), ((pX4_walked g0) + (pX6_steps g1))) else ((fX4_add (pX6_place g1) (pX6_holder g1) (pX6_steps g1) ((pX4_cells g0), (pX4_holders g0), (pX4_steps g0), (pX4_grainsByCell g0), (pX4_settings g0), (pX4_grains g0), (pX6_lot g1), ((pX4_released g0) + 1), (pX4_lost g0), (pX4_gone g0), ((pX4_walked g0) + (pX6_steps g1)))).bind fun o51 => some o51)))
abbrev rmX4_settle : Room := { frames := 3, cells := 0, slots := 0, locals := 65 }
/-- RimGrains$State.void loseAtOnce(); -/
def fX4_loseAtOnce (g0 : GX4) : Option (GX4) :=
  some ((pX4_cells g0), (pX4_holders g0), (pX4_steps g0), (pX4_grainsByCell g0), (pX4_settings g0), (pX4_grains g0), (pX4_lot g0), ((pX4_released g0) + 1), ((pX4_lost g0) + 1), (pX4_gone g0), (pX4_walked g0))
abbrev rmX4_loseAtOnce : Room := { frames := 0, cells := 0, slots := 0, locals := 0 }
/-- RimGrains$State.boolean isGrain(int); -/
def fX4_isGrain (a1 : Int32) (g0 : GX4) : Option (Int32) :=
  (if a1 < 0 then some 0 else (if (pX4_grains g0) ≤ a1 then some 0 else some 1))
abbrev rmX4_isGrain : Room := { frames := 0, cells := 0, slots := 0, locals := 0 }
/-- RimGrains$State.int holderOf(int); -/
def fX4_holderOf (a1 : Int32) (g0 : GX4) : Option (Int32) :=
  ((fX4_isGrain a1 g0).bind fun o2 => (if o2 = 0 then some (-4) else (if a1 < 0 ∨ 121 ≤ a1.toNatClampNeg then none else some ((pX4_holders g0) a1.toNatClampNeg))))
abbrev rmX4_holderOf : Room := { frames := 1, cells := 0, slots := 0, locals := 21 }
/-- RimGrains$State.int refusalToBreak(int); -/
def fX4_refusalToBreak (a1 : Int32) (g0 : GX4) : Option (Int32) :=
  ((fX4_isGrain a1 g0).bind fun o2 => (if o2 = 0 then some (-1) else ((fX4_holderOf a1 g0).bind fun o12 => (if o12 = (-4) then some (-2) else some 0))))
abbrev rmX4_refusalToBreak : Room := { frames := 2, cells := 0, slots := 0, locals := 42 }
/-- RimGrains$State.int drop(boolean[], int[]); -/
def jX4_drop_1 (s5 : (Int32 × Int32 × GX4 × (Nat → Int32))) (x3_1 : Int32) (g0_1 : GX4) (g2_1 : (Nat → Int32)) : Option ((Int32 × Int32 × GX4 × (Nat → Int32)) ⊕ (Int32 × GX4 × (Nat → Int32))) :=
  some (.inl (x3_1, (s5.2.1 + 1), g0_1, g2_1))
def jX4_drop_2 (s5 : (Int32 × Int32 × GX4 × (Nat → Int32))) (y0_2 : Int32) : Option ((Int32 × Int32 × GX4 × (Nat → Int32)) ⊕ (Int32 × GX4 × (Nat → Int32))) :=
  (if s5.1 < 0 ∨ 121 ≤ s5.1.toNatClampNeg then none else (if s5.2.1 < 0 ∨ 121 ≤ s5.2.1.toNatClampNeg then none else (if s5.1 < 0 ∨ 121 ≤ s5.1.toNatClampNeg then none else ((fX4_mark ((pX4_cells s5.2.2.1) s5.2.1.toNatClampNeg) s5.1 ((upd (pX4_cells s5.2.2.1) s5.1.toNatClampNeg ((pX4_cells s5.2.2.1) s5.2.1.toNatClampNeg)), (upd (pX4_holders s5.2.2.1) s5.1.toNatClampNeg y0_2), (upd (pX4_steps s5.2.2.1) s5.1.toNatClampNeg ((pX4_steps s5.2.2.1) s5.2.1.toNatClampNeg)), (pX4_grainsByCell s5.2.2.1), (pX4_settings s5.2.2.1), (pX4_grains s5.2.2.1), (pX4_lot s5.2.2.1), (pX4_released s5.2.2.1), (pX4_lost s5.2.2.1), (pX4_gone s5.2.2.1), (pX4_walked s5.2.2.1))).bind fun o110 => jX4_drop_1 s5 (s5.1 + 1) o110 (upd s5.2.2.2 s5.2.1.toNatClampNeg s5.1)))))
def tX4_drop_5 (n1 : Nat) (g1 : (Nat → Int32)) (n2 : Nat) (s5 : (Int32 × Int32 × GX4 × (Nat → Int32))) : Option ((Int32 × Int32 × GX4 × (Nat → Int32)) ⊕ (Int32 × GX4 × (Nat → Int32))) :=
  (if (pX4_grains s5.2.2.1) ≤ s5.2.1 then some (.inr (s5.1, s5.2.2.1, s5.2.2.2)) else (if s5.2.1 < 0 ∨ 121 ≤ s5.2.1.toNatClampNeg then none else (if s5.2.1 < 0 ∨ n1 ≤ s5.2.1.toNatClampNeg then none else (if (g1 s5.2.1.toNatClampNeg) = 0 then (if s5.2.1 < 0 ∨ 121 ≤ s5.2.1.toNatClampNeg then none else (if s5.2.1 < 0 ∨ n2 ≤ s5.2.1.toNatClampNeg then none else (if s5.1 < 0 ∨ 121 ≤ s5.1.toNatClampNeg then none else ((fX4_isGrain ((pX4_holders s5.2.2.1) s5.2.1.toNatClampNeg) ((upd (pX4_cells s5.2.2.1) s5.1.toNatClampNeg ((pX4_cells s5.2.2.1) s5.2.1.toNatClampNeg)), (pX4_holders s5.2.2.1), (pX4_steps s5.2.2.1), (pX4_grainsByCell s5.2.2.1), (pX4_settings s5.2.2.1), (pX4_grains s5.2.2.1), (pX4_lot s5.2.2.1), (pX4_released s5.2.2.1), (pX4_lost s5.2.2.1), (pX4_gone s5.2.2.1), (pX4_walked s5.2.2.1))).bind fun o77 => (if o77 = 0 then jX4_drop_2 s5 (-4) else (if ((pX4_holders s5.2.2.1) s5.2.1.toNatClampNeg) < 0 ∨ n2 ≤ ((pX4_holders s5.2.2.1) s5.2.1.toNatClampNeg).toNatClampNeg then none else jX4_drop_2 s5 ((upd s5.2.2.2 s5.2.1.toNatClampNeg s5.1) ((pX4_holders s5.2.2.1) s5.2.1.toNatClampNeg).toNatClampNeg))))))) else (if s5.2.1 < 0 ∨ n2 ≤ s5.2.1.toNatClampNeg then none else ((fX4_mark ((pX4_cells s5.2.2.1) s5.2.1.toNatClampNeg) (-4) s5.2.2.1).bind fun o41 => jX4_drop_1 s5 s5.1 o41 (upd s5.2.2.2 s5.2.1.toNatClampNeg (-4))))))))
def fX4_drop (g0 : GX4) (n1 : Nat) (g1 : (Nat → Int32)) (n2 : Nat) (g2 : (Nat → Int32)) : Option (Int32 × GX4 × (Nat → Int32)) :=
  ((lp (tX4_drop_5 n1 g1 n2) FU (0, 0, g0, g2)).bind fun o5 => some (((pX4_grains o5.2.1) - o5.1), ((pX4_cells o5.2.1), (pX4_holders o5.2.1), (pX4_steps o5.2.1), (pX4_grainsByCell o5.2.1), (pX4_settings o5.2.1), o5.1, (pX4_lot o5.2.1), (pX4_released o5.2.1), (pX4_lost o5.2.1), ((pX4_gone o5.2.1) + ((pX4_grains o5.2.1) - o5.1)), (pX4_walked o5.2.1)), o5.2.2))
abbrev rmX4_drop : Room := { frames := 2, cells := 0, slots := 0, locals := 42 }
/-- RimGrains$State.int change(int, int); -/
def fX4_change (a1 : Int32) (a2 : Int32) (g0 : GX4) : Option (Int32 × GX4) :=
  ((fX4_setting a1 g0).bind fun o2 => (if a1 < 0 then some (o2, g0) else (if 4 ≤ a1 then some (o2, g0) else (if a1 < 0 ∨ 4 ≤ a1.toNatClampNeg then none else some (o2, ((pX4_cells g0), (pX4_holders g0), (pX4_steps g0), (pX4_grainsByCell g0), (upd (pX4_settings g0) a1.toNatClampNeg a2), (pX4_grains g0), (pX4_lot g0), (pX4_released g0), (pX4_lost g0), (pX4_gone g0), (pX4_walked g0)))))))
abbrev rmX4_change : Room := { frames := 1, cells := 0, slots := 0, locals := 21 }
/-- RimGrains$State.int grainsAround(int); -/
def jX4_grainsAround_1 (s4 : (Int32 × Int32)) (x2_1 : Int32) : Option ((Int32 × Int32) ⊕ (Int32)) :=
  some (.inl (x2_1, (s4.2 + 1)))
def tX4_grainsAround_4 (a1 : Int32) (g0 : GX4) (s4 : (Int32 × Int32)) : Option ((Int32 × Int32) ⊕ (Int32)) :=
  (if 4 ≤ s4.2 then some (.inr s4.1) else ((fX2_neighbour a1 s4.2).bind fun o12 => ((fX4_grainAt o12 g0).bind fun o15 => (if o15 = (-4) then jX4_grainsAround_1 s4 s4.1 else jX4_grainsAround_1 s4 (s4.1 + 1)))))
def fX4_grainsAround (a1 : Int32) (g0 : GX4) : Option (Int32) :=
  ((lp (tX4_grainsAround_4 a1 g0) FU (0, 0)).bind fun o4 => some o4)
abbrev rmX4_grainsAround : Room := { frames := 1, cells := 0, slots := 0, locals := 23 }
/-- RimGrains$State.int cellOf(int); -/
def fX4_cellOf (a1 : Int32) (g0 : GX4) : Option (Int32) :=
  ((fX4_isGrain a1 g0).bind fun o2 => (if o2 = 0 then some (-4) else (if a1 < 0 ∨ 121 ≤ a1.toNatClampNeg then none else some ((pX4_cells g0) a1.toNatClampNeg))))
abbrev rmX4_cellOf : Room := { frames := 1, cells := 0, slots := 0, locals := 21 }
/-- RimGrains$State.int stepsOf(int); -/
def fX4_stepsOf (a1 : Int32) (g0 : GX4) : Option (Int32) :=
  ((fX4_isGrain a1 g0).bind fun o2 => (if o2 = 0 then some (-4) else (if a1 < 0 ∨ 121 ≤ a1.toNatClampNeg then none else some ((pX4_steps g0) a1.toNatClampNeg))))
abbrev rmX4_stepsOf : Room := { frames := 1, cells := 0, slots := 0, locals := 21 }
/-- RimGrains$State.int holdsBetween(int, int); -/
def tX4_holdsBetween_8 (g0 : GX4) (s8 : (Int32 × Int32 × Int32)) : Option ((Int32 × Int32 × Int32) ⊕ (Int32)) :=
  (if 121 ≤ s8.2.2 then some (.inr (-4)) else (if s8.1 = s8.2.1 then some (.inr s8.2.2) else ((fX4_holderOf (jmax s8.1 s8.2.1) g0).bind fun o42 => (if o42 = (-4) then some (.inr (-4)) else some (.inl ((jmin s8.1 s8.2.1), o42, (s8.2.2 + 1)))))))
def fX4_holdsBetween (a1 : Int32) (a2 : Int32) (g0 : GX4) : Option (Int32) :=
  lp (tX4_holdsBetween_8 g0) FU (a1, a2, 0)
abbrev rmX4_holdsBetween : Room := { frames := 2, cells := 0, slots := 0, locals := 42 }
/-- RimGrains$State.int longestOfPairs(); -/
def tX4_longestOfPairs_16 (g0 : GX4) (s4 : (Int32 × Int32)) (s16 : (Int32 × Int32)) : Option ((Int32 × Int32) ⊕ (Int32)) :=
  (if (pX4_grains g0) ≤ s16.2 then some (.inr s16.1) else ((fX4_holdsBetween s4.2 s16.2 g0).bind fun o28 => some (.inl ((jmax s16.1 o28), (s16.2 + 1)))))
def tX4_longestOfPairs_4 (g0 : GX4) (s4 : (Int32 × Int32)) : Option ((Int32 × Int32) ⊕ (Int32)) :=
  (if (pX4_grains g0) ≤ s4.2 then some (.inr s4.1) else ((lp (tX4_longestOfPairs_16 g0 s4) FU (s4.1, (s4.2 + 1))).bind fun o16 => some (.inl (o16, (s4.2 + 1)))))
def fX4_longestOfPairs (g0 : GX4) : Option (Int32) :=
  ((lp (tX4_longestOfPairs_4 g0) FU (0, 0)).bind fun o4 => some o4)
abbrev rmX4_longestOfPairs : Room := { frames := 3, cells := 0, slots := 0, locals := 68 }
/-- RimGrains$State.int reach(); -/
def tX4_reach_4 (g0 : GX4) (s4 : (Int32 × Int32)) : Option ((Int32 × Int32) ⊕ (Int32)) :=
  (if (pX4_grains g0) ≤ s4.2 then some (.inr s4.1) else (if s4.2 < 0 ∨ 121 ≤ s4.2.toNatClampNeg then none else ((fX2_ringOf ((pX4_cells g0) s4.2.toNatClampNeg)).bind fun o19 => some (.inl ((jmax s4.1 o19), (s4.2 + 1))))))
def fX4_reach (g0 : GX4) : Option (Int32) :=
  ((lp (tX4_reach_4 g0) FU (0, 0)).bind fun o4 => some o4)
abbrev rmX4_reach : Room := { frames := 2, cells := 0, slots := 0, locals := 41 }
/-- RimGrains$State.int freeCellsBeside(); -/
def jX4_freeCellsBeside_1 (s4 : (Int32 × Int32)) (x1_1 : Int32) : Option ((Int32 × Int32) ⊕ (Int32)) :=
  some (.inl (x1_1, (s4.2 + 1)))
def tX4_freeCellsBeside_4 (g0 : GX4) (s4 : (Int32 × Int32)) : Option ((Int32 × Int32) ⊕ (Int32)) :=
  (if 121 ≤ s4.2 then some (.inr s4.1) else ((fX4_grainAt s4.2 g0).bind fun o12 => (if o12 = (-4) then ((fX4_firstGrainBeside s4.2 g0).bind fun o22 => (if o22 = (-4) then jX4_freeCellsBeside_1 s4 s4.1 else jX4_freeCellsBeside_1 s4 (s4.1 + 1))) else jX4_freeCellsBeside_1 s4 s4.1)))
def fX4_freeCellsBeside (g0 : GX4) : Option (Int32) :=
  ((lp (tX4_freeCellsBeside_4 g0) FU (0, 0)).bind fun o4 => some o4)
abbrev rmX4_freeCellsBeside : Room := { frames := 2, cells := 0, slots := 0, locals := 46 }
/-- RimGrains$Fall.int dropTree(RimGrains$State, int); -/
def jX0_dropTree_1 (s2 : (Int32 × GX0)) (y0_1 : Int32) : Option ((Int32 × GX0) ⊕ (GX0)) :=
  (if s2.1 < 0 ∨ 121 ≤ s2.1.toNatClampNeg then none else some (.inl ((s2.1 + 1), ((upd (pX0_falling s2.2) s2.1.toNatClampNeg (vp_nar .boolean y0_1)), (pX0_newNumbers s2.2)))))
def jX0_dropTree_2 (s2 : (Int32 × GX0)) : Option ((Int32 × GX0) ⊕ (GX0)) :=
  jX0_dropTree_1 s2 1
def jX0_dropTree_3 (s2 : (Int32 × GX0)) : Option ((Int32 × GX0) ⊕ (GX0)) :=
  jX0_dropTree_1 s2 0
def tX0_dropTree_2 (a2 : Int32) (g1 : GX4) (s2 : (Int32 × GX0)) : Option ((Int32 × GX0) ⊕ (GX0)) :=
  (if (pX4_grains g1) ≤ s2.1 then some (.inr s2.2) else ((fX4_holderOf s2.1 g1).bind fun o12 => (if s2.1 = a2 then jX0_dropTree_2 s2 else ((fX4_isGrain o12 g1).bind fun o30 => (if o30 = 0 then jX0_dropTree_3 s2 else (if o12 < 0 ∨ 121 ≤ o12.toNatClampNeg then none else (if ((pX0_falling s2.2) o12.toNatClampNeg) = 0 then jX0_dropTree_3 s2 else jX0_dropTree_2 s2)))))))
def fX0_dropTree (a2 : Int32) (g0 : GX0) (g1 : GX4) : Option (Int32 × GX0 × GX4) :=
  ((lp (tX0_dropTree_2 a2 g1) FU (0, g0)).bind fun o2 => ((fX4_drop g1 121 (pX0_falling o2) 121 (pX0_newNumbers o2)).bind fun o67 => some (o67.1, ((pX0_falling o2), o67.2.2), o67.2.1)))
abbrev rmX0_dropTree : Room := { frames := 3, cells := 0, slots := 0, locals := 68 }
/-- RimGrains$Fall.int dropTips(RimGrains$State); -/
def jX0_dropTips_1 (s2 : (Int32 × GX0)) (g0_1 : GX0) : Option ((Int32 × GX0) ⊕ (GX0)) :=
  some (.inl ((s2.1 + 1), g0_1))
def tX0_dropTips_2 (g1 : GX4) (s2 : (Int32 × GX0)) : Option ((Int32 × GX0) ⊕ (GX0)) :=
  (if (pX4_grains g1) ≤ s2.1 then some (.inr s2.2) else ((fX4_holderOf s2.1 g1).bind fun o12 => ((fX4_isGrain o12 g1).bind fun o23 => (if s2.1 < 0 ∨ 121 ≤ s2.1.toNatClampNeg then none else ((fX4_isGrain o12 g1).bind fun o29 => (if o29 = 0 then jX0_dropTips_1 s2 ((upd (pX0_falling s2.2) s2.1.toNatClampNeg (vp_nar .boolean o23)), (pX0_newNumbers s2.2)) else (if o12 < 0 ∨ 121 ≤ o12.toNatClampNeg then none else jX0_dropTips_1 s2 ((upd (upd (pX0_falling s2.2) s2.1.toNatClampNeg (vp_nar .boolean o23)) o12.toNatClampNeg (vp_nar .boolean 0)), (pX0_newNumbers s2.2)))))))))
def fX0_dropTips (g0 : GX0) (g1 : GX4) : Option (Int32 × GX0 × GX4) :=
  ((lp (tX0_dropTips_2 g1) FU (0, g0)).bind fun o2 => ((fX4_drop g1 121 (pX0_falling o2) 121 (pX0_newNumbers o2)).bind fun o57 => some (o57.1, ((pX0_falling o2), o57.2.2), o57.2.1)))
abbrev rmX0_dropTips : Room := { frames := 3, cells := 0, slots := 0, locals := 68 }
/-- RimGrains$Walk.private int draw(); -/
def fX6_draw (g0 : GX6) : Option (Int32 × GX6) :=
  ((fX7_nextLot (pX6_lot g0)).bind fun o5 => some (o5, ((pX6_place g0), (pX6_steps g0), ((pX6_draws g0) + 1), o5, (pX6_holder g0))))
abbrev rmX6_draw : Room := { frames := 1, cells := 0, slots := 0, locals := 20 }
/-- RimGrains$Walk.private boolean catchesHold(RimGrains$State); -/
def fX6_catchesHold (g0 : GX6) (g1 : GX4) : Option (Int32 × GX6) :=
  ((fX4_firstGrainBeside (pX6_place g0) g1).bind fun o5 => (if o5 = (-4) then some (0, g0) else ((fX6_draw g0).bind fun o16 => ((fX4_setting 0 g1).bind fun o23 => (if (jrem o16.1 4) < o23 then some (1, ((pX6_place o16.2), (pX6_steps o16.2), (pX6_draws o16.2), (pX6_lot o16.2), o5)) else some (0, o16.2))))))
abbrev rmX6_catchesHold : Room := { frames := 2, cells := 0, slots := 0, locals := 46 }
/-- RimGrains$Walk.private boolean makesStep(RimGrains$State); -/
def jX6_makesStep_1 (g1 : GX4) (o1 : (Int32 × GX6)) (y0_1 : Int32) : Option (Int32 × GX6) :=
  ((fX2_neighbour (pX6_place o1.2) y0_1).bind fun o31 => (if o31 = (-4) then some (0, ((pX6_place o1.2), ((pX6_steps o1.2) + 1), (pX6_draws o1.2), (pX6_lot o1.2), (pX6_holder o1.2))) else ((fX4_grainAt o31 g1).bind fun o55 => (if o55 = (-4) then some (1, (o31, ((pX6_steps o1.2) + 1), (pX6_draws o1.2), (pX6_lot o1.2), (pX6_holder o1.2))) else some (1, ((pX6_place o1.2), ((pX6_steps o1.2) + 1), (pX6_draws o1.2), (pX6_lot o1.2), (pX6_holder o1.2)))))))
def fX6_makesStep (g0 : GX6) (g1 : GX4) : Option (Int32 × GX6) :=
  ((fX6_draw g0).bind fun o1 => ((fX4_setting 2 g1).bind fun o7 => (if (4 + o7) = 0 then none else (if 4 ≤ (jrem o1.1 (4 + o7)) then ((fX4_setting 3 g1).bind fun o28 => jX6_makesStep_1 g1 o1 o28) else jX6_makesStep_1 g1 o1 (jrem o1.1 (4 + o7))))))
abbrev rmX6_makesStep : Room := { frames := 2, cells := 0, slots := 0, locals := 40 }
/-- RimGrains$Walk.void walkFrom(RimGrains$State, int); -/
def jX6_walkFrom_1 (s41 : (Int32 × Int32 × GX6)) (y0_1 : Int32) (g0_1 : GX6) : Option ((Int32 × Int32 × GX6) ⊕ (GX6)) :=
  some (.inl (y0_1, (s41.2.1 + 1), g0_1))
def jX6_walkFrom_2 (s41 : (Int32 × Int32 × GX6)) (g0_2 : GX6) : Option ((Int32 × Int32 × GX6) ⊕ (GX6)) :=
  jX6_walkFrom_1 s41 0 g0_2
def tX6_walkFrom_41 (g1 : GX4) (o31 : (Int32)) (s41 : (Int32 × Int32 × GX6)) : Option ((Int32 × Int32 × GX6) ⊕ (GX6)) :=
  (if o31 < s41.2.1 then some (.inr s41.2.2) else (if s41.1 = 0 then some (.inr s41.2.2) else ((fX6_catchesHold s41.2.2 g1).bind fun o54 => (if o54.1 = 0 then (if o31 ≤ (pX6_steps o54.2) then jX6_walkFrom_2 s41 o54.2 else ((fX6_makesStep o54.2 g1).bind fun o70 => (if o70.1 = 0 then jX6_walkFrom_2 s41 o70.2 else jX6_walkFrom_1 s41 1 o70.2))) else jX6_walkFrom_2 s41 o54.2))))
def fX6_walkFrom (a2 : Int32) (g0 : GX6) (g1 : GX4) : Option (GX6) :=
  ((fX4_setting 1 g1).bind fun o31 => ((lp (tX6_walkFrom_41 g1 o31) FU (1, 0, (a2, 0, 0, (pX4_lot g1), (-4)))).bind fun o41 => some o41))
abbrev rmX6_walkFrom : Room := { frames := 3, cells := 0, slots := 0, locals := 68 }
/-- RimGrains$Walk.int answer(); -/
def fX6_answer (g0 : GX6) : Option (Int32) :=
  ((fX6_sticks g0).bind fun o1 => (if o1 = 0 then some (pX6_steps g0) else some (1000 + (pX6_place g0))))
abbrev rmX6_answer : Room := { frames := 1, cells := 0, slots := 0, locals := 20 }
/-- RimGrains$Trees.private boolean isGrain(int); -/
def fX5_isGrain (a1 : Int32) (g0 : GX5) : Option (Int32) :=
  (if a1 < 0 then some 0 else (if (pX5_grains g0) ≤ a1 then some 0 else some 1))
abbrev rmX5_isGrain : Room := { frames := 0, cells := 0, slots := 0, locals := 0 }
/-- RimGrains$Trees.private void readFromHolder(int, int); -/
def jX5_readFromHolder_2 (a1 : Int32) (g0 : GX5) (y0_1 : Int32) (y0_2 : Int32) : Option (GX5) :=
  (if a1 < 0 ∨ 121 ≤ a1.toNatClampNeg then none else (if a1 < 0 ∨ 121 ≤ a1.toNatClampNeg then none else (if a1 < 0 ∨ 121 ≤ a1.toNatClampNeg then none else (if a1 < 0 ∨ 121 ≤ a1.toNatClampNeg then none else (if a1 < 0 ∨ 121 ≤ a1.toNatClampNeg then none else some ((upd (pX5_depths g0) a1.toNatClampNeg y0_1), (upd (pX5_roots g0) a1.toNatClampNeg y0_2), (upd (pX5_holding g0) a1.toNatClampNeg 0), (upd (pX5_members g0) a1.toNatClampNeg 1), (upd (pX5_highest g0) a1.toNatClampNeg 0), (upd (pX5_second g0) a1.toNatClampNeg 0), (pX5_grains g0)))))))
def jX5_readFromHolder_1 (a1 : Int32) (a2 : Int32) (g0 : GX5) (y0_1 : Int32) : Option (GX5) :=
  (if a1 < 0 ∨ 121 ≤ a1.toNatClampNeg then none else ((fX5_isGrain a2 ((upd (pX5_depths g0) a1.toNatClampNeg y0_1), (pX5_roots g0), (pX5_holding g0), (pX5_members g0), (pX5_highest g0), (pX5_second g0), (pX5_grains g0))).bind fun o33 => (if o33 = 0 then jX5_readFromHolder_2 a1 g0 y0_1 a1 else (if a2 < 0 ∨ 121 ≤ a2.toNatClampNeg then none else jX5_readFromHolder_2 a1 g0 y0_1 ((pX5_roots g0) a2.toNatClampNeg)))))
def fX5_readFromHolder (a1 : Int32) (a2 : Int32) (g0 : GX5) : Option (GX5) :=
  ((fX5_isGrain a2 g0).bind fun o7 => (if o7 = 0 then jX5_readFromHolder_1 a1 a2 g0 0 else (if a2 < 0 ∨ 121 ≤ a2.toNatClampNeg then none else jX5_readFromHolder_1 a1 a2 g0 (((pX5_depths g0) a2.toNatClampNeg) + 1))))
abbrev rmX5_readFromHolder : Room := { frames := 1, cells := 0, slots := 0, locals := 21 }
/-- RimGrains$Trees.private void addToHolder(int, int); -/
def fX5_addToHolder (a1 : Int32) (a2 : Int32) (g0 : GX5) : Option (GX5) :=
  (if a2 < 0 ∨ 121 ≤ a2.toNatClampNeg then none else (if a2 < 0 ∨ 121 ≤ a2.toNatClampNeg then none else (if a2 < 0 ∨ 121 ≤ a2.toNatClampNeg then none else (if a1 < 0 ∨ 121 ≤ a1.toNatClampNeg then none else (if a2 < 0 ∨ 121 ≤ a2.toNatClampNeg then none else (if a1 < 0 ∨ 121 ≤ a1.toNatClampNeg then none else (if a2 < 0 ∨ 121 ≤ a2.toNatClampNeg then none else (if (((pX5_highest g0) a1.toNatClampNeg) + 1) ≤ ((pX5_highest g0) a2.toNatClampNeg) then (if a2 < 0 ∨ 121 ≤ a2.toNatClampNeg then none else (if (((pX5_highest g0) a1.toNatClampNeg) + 1) ≤ ((pX5_second g0) a2.toNatClampNeg) then some ((pX5_depths g0), (pX5_roots g0), (upd (pX5_holding g0) a2.toNatClampNeg (((pX5_holding g0) a2.toNatClampNeg) + 1)), (upd (pX5_members g0) a2.toNatClampNeg (((pX5_members g0) a2.toNatClampNeg) + ((pX5_members g0) a1.toNatClampNeg))), (pX5_highest g0), (pX5_second g0), (pX5_grains g0)) else (if a2 < 0 ∨ 121 ≤ a2.toNatClampNeg then none else some ((pX5_depths g0), (pX5_roots g0), (upd (pX5_holding g0) a2.toNatClampNeg (((pX5_holding g0) a2.toNatClampNeg) + 1)), (upd (pX5_members g0) a2.toNatClampNeg (((pX5_members g0) a2.toNatClampNeg) + ((pX5_members g0) a1.toNatClampNeg))), (pX5_highest g0), (upd (pX5_second g0) a2.toNatClampNeg (((pX5_highest g0) a1.toNatClampNeg) + 1)), (pX5_grains g0))))) else (if a2 < 0 ∨ 121 ≤ a2.toNatClampNeg then none else (if a2 < 0 ∨ 121 ≤ a2.toNatClampNeg then none else (if a2 < 0 ∨ 121 ≤ a2.toNatClampNeg then none else some ((pX5_depths g0), (pX5_roots g0), (upd (pX5_holding g0) a2.toNatClampNeg (((pX5_holding g0) a2.toNatClampNeg) + 1)), (upd (pX5_members g0) a2.toNatClampNeg (((pX5_members g0) a2.toNatClampNeg) + ((pX5_members g0) a1.toNatClampNeg))), (upd (pX5_highest g0) a2.toNatClampNeg (((pX5_highest g0) a1.toNatClampNeg) + 1)), (upd (pX5_second g0) a2.toNatClampNeg ((pX5_highest g0) a2.toNatClampNeg)), (pX5_grains g0)))))))))))))
abbrev rmX5_addToHolder : Room := { frames := 0, cells := 0, slots := 0, locals := 0 }
/-- RimGrains$Trees.void read(RimGrains$State); -/
def tX5_read_10 (g1 : GX4) (s10 : (Int32 × GX5)) : Option ((Int32 × GX5) ⊕ (GX5)) :=
  (if (pX5_grains s10.2) ≤ s10.1 then some (.inr s10.2) else ((fX4_holderOf s10.1 g1).bind fun o22 => ((fX5_readFromHolder s10.1 o22 s10.2).bind fun o25 => some (.inl ((s10.1 + 1), o25)))))
def jX5_read_1 (s41 : (Int32 × GX5)) (g0_1 : GX5) : Option ((Int32 × GX5) ⊕ (GX5)) :=
  some (.inl ((s41.1 + (-1)), g0_1))
def tX5_read_41 (g1 : GX4) (s41 : (Int32 × GX5)) : Option ((Int32 × GX5) ⊕ (GX5)) :=
  (if s41.1 < 0 then some (.inr s41.2) else ((fX4_holderOf s41.1 g1).bind fun o47 => ((fX5_isGrain o47 s41.2).bind fun o53 => (if o53 = 0 then jX5_read_1 s41 s41.2 else ((fX5_addToHolder s41.1 o47 s41.2).bind fun o62 => jX5_read_1 s41 o62)))))
def fX5_read (g0 : GX5) (g1 : GX4) : Option (GX5) :=
  ((lp (tX5_read_10 g1) FU (0, ((pX5_depths g0), (pX5_roots g0), (pX5_holding g0), (pX5_members g0), (pX5_highest g0), (pX5_second g0), (pX4_grains g1)))).bind fun o10 => ((lp (tX5_read_41 g1) FU (((pX5_grains o10) - 1), o10)).bind fun o41 => some o41))
abbrev rmX5_read : Room := { frames := 2, cells := 0, slots := 0, locals := 43 }
/-- RimGrains$Trees.int longestOfHeights(); -/
def tX5_longestOfHeights_4 (g0 : GX5) (s4 : (Int32 × Int32)) : Option ((Int32 × Int32) ⊕ (Int32)) :=
  (if (pX5_grains g0) ≤ s4.2 then some (.inr s4.1) else (if s4.2 < 0 ∨ 121 ≤ s4.2.toNatClampNeg then none else (if s4.2 < 0 ∨ 121 ≤ s4.2.toNatClampNeg then none else some (.inl ((jmax s4.1 (((pX5_highest g0) s4.2.toNatClampNeg) + ((pX5_second g0) s4.2.toNatClampNeg))), (s4.2 + 1))))))
def fX5_longestOfHeights (g0 : GX5) : Option (Int32) :=
  ((lp (tX5_longestOfHeights_4 g0) FU (0, 0)).bind fun o4 => some o4)
abbrev rmX5_longestOfHeights : Room := { frames := 1, cells := 0, slots := 0, locals := 21 }
/-- RimGrains$Trees.int rootGrains(); -/
def jX5_rootGrains_1 (s4 : (Int32 × Int32)) (x1_1 : Int32) : Option ((Int32 × Int32) ⊕ (Int32)) :=
  some (.inl (x1_1, (s4.2 + 1)))
def tX5_rootGrains_4 (g0 : GX5) (s4 : (Int32 × Int32)) : Option ((Int32 × Int32) ⊕ (Int32)) :=
  (if (pX5_grains g0) ≤ s4.2 then some (.inr s4.1) else (if s4.2 < 0 ∨ 121 ≤ s4.2.toNatClampNeg then none else (if ((pX5_roots g0) s4.2.toNatClampNeg) = s4.2 then jX5_rootGrains_1 s4 (s4.1 + 1) else jX5_rootGrains_1 s4 s4.1)))
def fX5_rootGrains (g0 : GX5) : Option (Int32) :=
  ((lp (tX5_rootGrains_4 g0) FU (0, 0)).bind fun o4 => some o4)
abbrev rmX5_rootGrains : Room := { frames := 0, cells := 0, slots := 0, locals := 0 }
/-- RimGrains$Trees.int grainsHeldBy(int, int); -/
def jX5_grainsHeldBy_1 (s5 : (Int32 × Int32)) (x3_1 : Int32) : Option ((Int32 × Int32) ⊕ (Int32)) :=
  some (.inl (x3_1, (s5.2 + 1)))
def tX5_grainsHeldBy_5 (a1 : Int32) (a2 : Int32) (g0 : GX5) (s5 : (Int32 × Int32)) : Option ((Int32 × Int32) ⊕ (Int32)) :=
  (if (pX5_grains g0) ≤ s5.2 then some (.inr s5.1) else (if s5.2 < 0 ∨ 121 ≤ s5.2.toNatClampNeg then none else (if ((pX5_holding g0) s5.2.toNatClampNeg) < a1 then jX5_grainsHeldBy_1 s5 s5.1 else (if s5.2 < 0 ∨ 121 ≤ s5.2.toNatClampNeg then none else (if a2 < ((pX5_holding g0) s5.2.toNatClampNeg) then jX5_grainsHeldBy_1 s5 s5.1 else jX5_grainsHeldBy_1 s5 (s5.1 + 1))))))
def fX5_grainsHeldBy (a1 : Int32) (a2 : Int32) (g0 : GX5) : Option (Int32) :=
  ((lp (tX5_grainsHeldBy_5 a1 a2 g0) FU (0, 0)).bind fun o5 => some o5)
abbrev rmX5_grainsHeldBy : Room := { frames := 0, cells := 0, slots := 0, locals := 0 }
/-- RimGrains$Trees.int deepest(); -/
def tX5_deepest_4 (g0 : GX5) (s4 : (Int32 × Int32)) : Option ((Int32 × Int32) ⊕ (Int32)) :=
  (if (pX5_grains g0) ≤ s4.2 then some (.inr s4.1) else (if s4.2 < 0 ∨ 121 ≤ s4.2.toNatClampNeg then none else some (.inl ((jmax s4.1 ((pX5_depths g0) s4.2.toNatClampNeg)), (s4.2 + 1)))))
def fX5_deepest (g0 : GX5) : Option (Int32) :=
  ((lp (tX5_deepest_4 g0) FU (0, 0)).bind fun o4 => some o4)
abbrev rmX5_deepest : Room := { frames := 1, cells := 0, slots := 0, locals := 21 }
/-- RimGrains$Screens.static int firstMet(RimGrains$State, int); -/
def tX3_firstMet_13 (g0 : GX4) (o6 : (Int32)) (s13 : (Int32 × Int32)) : Option ((Int32 × Int32) ⊕ (Int32)) :=
  (if 11 ≤ s13.2 then some (.inr (-4)) else ((fX4_grainAt s13.1 g0).bind fun o22 => (if o22 = (-4) then ((fX2_neighbour s13.1 o6).bind fun o39 => some (.inl (o39, (s13.2 + 1)))) else some (.inr o22))))
def fX3_firstMet (a1 : Int32) (g0 : GX4) : Option (Int32) :=
  ((fX2_cellOfRim a1).bind fun o1 => ((fX2_directionInward a1).bind fun o6 => lp (tX3_firstMet_13 g0 o6) FU (o1, 0)))
abbrev rmX3_firstMet : Room := { frames := 1, cells := 0, slots := 0, locals := 23 }
/-- RimGrains$Screens.void read(RimGrains$State); -/
def tX3_read_15 (s15 : (Int32 × GX3)) : Option ((Int32 × GX3) ⊕ (GX3)) :=
  (if (pX3_grains s15.2) ≤ s15.1 then some (.inr s15.2) else (if s15.1 < 0 ∨ 121 ≤ s15.1.toNatClampNeg then none else some (.inl ((s15.1 + 1), ((upd (pX3_catches s15.2) s15.1.toNatClampNeg 0), (pX3_grains s15.2), (pX3_open s15.2))))))
def jX3_read_1 (s38 : (Int32 × GX3)) (g0_1 : GX3) : Option ((Int32 × GX3) ⊕ (GX3)) :=
  some (.inl ((s38.1 + 1), g0_1))
def tX3_read_38 (g1 : GX4) (s38 : (Int32 × GX3)) : Option ((Int32 × GX3) ⊕ (GX3)) :=
  (if 40 ≤ s38.1 then some (.inr s38.2) else ((fX3_firstMet s38.1 g1).bind fun o46 => ((fX4_isGrain o46 g1).bind fun o52 => (if o52 = 0 then jX3_read_1 s38 ((pX3_catches s38.2), (pX3_grains s38.2), ((pX3_open s38.2) + 1)) else (if o46 < 0 ∨ 121 ≤ o46.toNatClampNeg then none else (if o46 < 0 ∨ 121 ≤ o46.toNatClampNeg then none else jX3_read_1 s38 ((upd (pX3_catches s38.2) o46.toNatClampNeg (((pX3_catches s38.2) o46.toNatClampNeg) + 1)), (pX3_grains s38.2), (pX3_open s38.2))))))))
def fX3_read (g0 : GX3) (g1 : GX4) : Option (GX3) :=
  ((lp tX3_read_15 FU (0, ((pX3_catches g0), (pX4_grains g1), 0))).bind fun o15 => ((lp (tX3_read_38 g1) FU (0, o15)).bind fun o38 => some o38))
abbrev rmX3_read : Room := { frames := 2, cells := 0, slots := 0, locals := 48 }
/-- RimGrains$Screens.int bestGrain(); -/
def jX3_bestGrain_1 (s4 : (Int32 × Int32)) (x1_1 : Int32) : Option ((Int32 × Int32) ⊕ (Int32)) :=
  some (.inl (x1_1, (s4.2 + 1)))
def tX3_bestGrain_4 (g0 : GX3) (s4 : (Int32 × Int32)) : Option ((Int32 × Int32) ⊕ (Int32)) :=
  (if (pX3_grains g0) ≤ s4.2 then some (.inr s4.1) else (if s4.2 < 0 ∨ 121 ≤ s4.2.toNatClampNeg then none else (if s4.1 < 0 ∨ 121 ≤ s4.1.toNatClampNeg then none else (if ((pX3_catches g0) s4.2.toNatClampNeg) ≤ ((pX3_catches g0) s4.1.toNatClampNeg) then jX3_bestGrain_1 s4 s4.1 else jX3_bestGrain_1 s4 s4.2))))
def fX3_bestGrain (g0 : GX3) : Option (Int32) :=
  ((lp (tX3_bestGrain_4 g0) FU (0, 1)).bind fun o4 => some o4)
abbrev rmX3_bestGrain : Room := { frames := 0, cells := 0, slots := 0, locals := 0 }
/-- what RimGrains$Fall() leaves -/
def S0X0 : GX0 := ((fun _ => 0), (fun _ => 0))
abbrev rmX0_init : Room := { frames := 1, cells := 2, slots := 242, locals := 12 }
/-- what RimGrains$Pad() leaves -/
def S0X1 : GX1 := ((fun _ => 0), 0, 0, 0, 32, (-1))
abbrev rmX1_init : Room := { frames := 1, cells := 1, slots := 60, locals := 12 }
/-- what RimGrains$Screens() leaves -/
def S0X3 : GX3 := ((fun _ => 0), 0, 0)
abbrev rmX3_init : Room := { frames := 1, cells := 1, slots := 121, locals := 12 }
/-- what RimGrains$State() leaves -/
def S0X4 : GX4 := ((fun _ => 0), (fun _ => 0), (fun _ => 0), (fun _ => 0), (upd (upd (upd (upd (fun _ => 0) (0 : Int32).toNatClampNeg 4) (1 : Int32).toNatClampNeg 60) (2 : Int32).toNatClampNeg 0) (3 : Int32).toNatClampNeg 2), 0, 1, 0, 0, 0, 0)
abbrev rmX4_init : Room := { frames := 1, cells := 5, slots := 488, locals := 12 }
/-- what RimGrains$Trees() leaves -/
def S0X5 : GX5 := ((fun _ => 0), (fun _ => 0), (fun _ => 0), (fun _ => 0), (fun _ => 0), (fun _ => 0), 0)
abbrev rmX5_init : Room := { frames := 1, cells := 6, slots := 726, locals := 12 }
/-- what RimGrains$Walk() leaves -/
def S0X6 : GX6 := (0, 0, 0, 0, (-4))
abbrev rmX6_init : Room := { frames := 1, cells := 0, slots := 0, locals := 12 }
/-- the oldest state goes to the end of the row, to be used again -/
def fX7_dropOldest (g0 : GX7) (gh : GH) : Option (GX7 × GH) := some ((3, (pX7_saved g0), (pX7_stopError g0), (pX7_stopDeed g0), (pX7_stopPlace g0)), (gh.2.1, gh.2.2.1, gh.2.2.2, gh.1))
abbrev rmX7_dropOldest : Room := { frames := 0, cells := 0, slots := 0, locals := 0 }
/-- RimGrains.private int letWalk(int); -/
def fX7_letWalk (a1 : Int32) (g0 : GX7) (gn : GX4) (gw : GX6) : Option (Int32 × GX4 × GX6) :=
  ((fX2_cellOfRim a1).bind fun o9 => ((fX6_walkFrom o9 gw gn).bind fun o12 => ((fX4_settle gn o12).bind fun o23 => ((fX6_answer o12).bind fun o30 => some (o30, o23, o12)))))
abbrev rmX7_letWalk : Room := { frames := 4, cells := 0, slots := 0, locals := 93 }
/-- RimGrains.private boolean dropSticks(); -/
def fX7_dropSticks (g0 : GX7) (gn : GX4) (gw : GX6) : Option (Int32 × GX4 × GX6) :=
  ((fX7_nextLot (pX4_lot gn)).bind fun o11 => ((fX4_refusalToGo (jrem o11 40) ((pX4_cells gn), (pX4_holders gn), (pX4_steps gn), (pX4_grainsByCell gn), (pX4_settings gn), (pX4_grains gn), o11, (pX4_released gn), (pX4_lost gn), (pX4_gone gn), (pX4_walked gn))).bind fun o33 => (if o33 = 0 then ((fX7_letWalk (jrem o11 40) g0 ((pX4_cells gn), (pX4_holders gn), (pX4_steps gn), (pX4_grainsByCell gn), (pX4_settings gn), (pX4_grains gn), o11, (pX4_released gn), (pX4_lost gn), (pX4_gone gn), (pX4_walked gn)) gw).bind fun o50 => ((fX6_sticks o50.2.2).bind fun o58 => (jgz o58 (some (o58, o50.2.1, o50.2.2))))) else ((fX4_loseAtOnce ((pX4_cells gn), (pX4_holders gn), (pX4_steps gn), (pX4_grainsByCell gn), (pX4_settings gn), (pX4_grains gn), o11, (pX4_released gn), (pX4_lost gn), (pX4_gone gn), (pX4_walked gn))).bind fun o43 => some (0, o43, gw)))))
abbrev rmX7_dropSticks : Room := { frames := 5, cells := 0, slots := 0, locals := 114 }
/-- RimGrains.public int append(int); -/
def fX7_append (a1 : Int32) (g0 : GX7) (gp : GX1) : Option (Int32 × GX1) :=
  (if a1 < 33 then some ((-1), gp) else (if a1 ≤ 126 then (if (pX1_length gp) < 60 then ((fX1_write (jchr a1) gp).bind fun o35 => some ((pX1_length o35), o35)) else some ((-3), gp)) else some ((-1), gp)))
abbrev rmX7_append : Room := { frames := 1, cells := 0, slots := 0, locals := 21 }
/-- RimGrains.public int clear(); -/
def fX7_clear (g0 : GX7) (gp : GX1) : Option (Int32 × GX1) :=
  ((fX1_wipe gp).bind fun o12 => some ((pX1_length gp), o12))
abbrev rmX7_clear : Room := { frames := 1, cells := 0, slots := 0, locals := 20 }
/-- RimGrains.public int fault(); -/
def fX7_fault (g0 : GX7) (gp : GX1) : Option (Int32) :=
  ((fX1_firstWrong gp).bind fun o4 => some o4)
abbrev rmX7_fault : Room := { frames := 2, cells := 0, slots := 0, locals := 49 }
/-- RimGrains.private int answerOfDeed(char, int); -/
def jX7_answerOfDeed_1 (a1 : Int32) (a2 : Int32) (g0 : GX7) (gn : GX4) (gw : GX6) (gf : GX0) (y0_1 : Int32) : Option (Int32 × GX4 × GX6 × GX0) :=
  (if y0_1 = 0 then (if a1 = 103 then ((fX7_letWalk a2 g0 gn gw).bind fun o58 => some (o58.1, o58.2.1, o58.2.2, gf)) else ((fX0_dropTree a2 gf gn).bind fun o73 => some (o73.1, o73.2.2, gw, o73.2.1))) else some (y0_1, gn, gw, gf))
def fX7_answerOfDeed (a1 : Int32) (a2 : Int32) (g0 : GX7) (gn : GX4) (gw : GX6) (gf : GX0) : Option (Int32 × GX4 × GX6 × GX0) :=
  (if a1 = 119 then ((fX0_dropTips gf gn).bind fun o14 => some (o14.1, o14.2.2, gw, o14.2.1)) else (if a1 = 103 then ((fX4_refusalToGo a2 gn).bind fun o29 => jX7_answerOfDeed_1 a1 a2 g0 gn gw gf o29) else ((fX4_refusalToBreak a2 gn).bind fun o40 => jX7_answerOfDeed_1 a1 a2 g0 gn gw gf o40)))
abbrev rmX7_answerOfDeed : Room := { frames := 5, cells := 0, slots := 0, locals := 114 }
/-- RimGrains.public int why(int); -/
def fX7_why (a1 : Int32) (g0 : GX7) : Option (Int32) :=
  (if a1 < 0 then some (-1) else (if a1 ≤ 2 then (if (pX7_stopError g0) = 0 then some (-4) else (if a1 = 0 then some (pX7_stopError g0) else (if a1 = 1 then some (pX7_stopDeed g0) else some (pX7_stopPlace g0)))) else some (-1)))
abbrev rmX7_why : Room := { frames := 0, cells := 0, slots := 0, locals := 0 }
/-- RimGrains.public int cell(int, int); -/
def fX7_cell (a1 : Int32) (a2 : Int32) (g0 : GX7) (gn : GX4) : Option (Int32) :=
  ((fX2_isCell a1).bind fun o1 => (if o1 = 0 then some (-1) else (if a2 < 0 then some (-1) else (if a2 ≤ 3 then (if a2 = 0 then ((fX4_grainAt a1 gn).bind fun o49 => some o49) else (if a2 = 1 then ((fX2_ringOf a1).bind fun o54 => some o54) else (if a2 = 2 then ((fX4_grainsAround a1 gn).bind fun o63 => some o63) else ((fX2_rimOf a1).bind fun o68 => some o68)))) else some (-1)))))
abbrev rmX7_cell : Room := { frames := 2, cells := 0, slots := 0, locals := 46 }
/-- RimGrains.private int catchOf(int); -/
def fX7_catchOf (a1 : Int32) (g0 : GX7) (gn : GX4) (gc : GX3) : Option (Int32 × GX3) :=
  ((fX3_read gc gn).bind fun o8 => (if a1 < 0 ∨ 121 ≤ a1.toNatClampNeg then none else some (((pX3_catches o8) a1.toNatClampNeg), o8)))
abbrev rmX7_catchOf : Room := { frames := 3, cells := 0, slots := 0, locals := 71 }
/-- RimGrains.public int grain(int, int); -/
def fX7_grain (a1 : Int32) (a2 : Int32) (g0 : GX7) (gn : GX4) (gr : GX5) (gc : GX3) : Option (Int32 × GX5 × GX3) :=
  ((fX4_isGrain a1 gn).bind fun o5 => (if o5 = 0 then some ((-1), gr, gc) else (if a2 < 0 then some ((-1), gr, gc) else (if a2 ≤ 8 then ((fX5_read gr gn).bind fun o31 => (if a2 = 0 then ((fX4_cellOf a1 gn).bind fun o85 => some (o85, o31, gc)) else (if a2 = 1 then ((fX4_holderOf a1 gn).bind fun o94 => some (o94, o31, gc)) else (if a2 = 2 then (if a1 < 0 ∨ 121 ≤ a1.toNatClampNeg then none else some (((pX5_depths o31) a1.toNatClampNeg), o31, gc)) else (if a2 = 3 then (if a1 < 0 ∨ 121 ≤ a1.toNatClampNeg then none else some (((pX5_holding o31) a1.toNatClampNeg), o31, gc)) else (if a2 = 4 then (if a1 < 0 ∨ 121 ≤ a1.toNatClampNeg then none else some (((pX5_members o31) a1.toNatClampNeg), o31, gc)) else (if a2 = 5 then (if a1 < 0 ∨ 121 ≤ a1.toNatClampNeg then none else some (((pX5_highest o31) a1.toNatClampNeg), o31, gc)) else (if a2 = 6 then ((fX7_catchOf a1 g0 gn gc).bind fun o140 => some (o140.1, o31, o140.2)) else (if a2 = 7 then (if a1 < 0 ∨ 121 ≤ a1.toNatClampNeg then none else some (((pX5_roots o31) a1.toNatClampNeg), o31, gc)) else ((fX4_stepsOf a1 gn).bind fun o159 => some (o159, o31, gc))))))))))) else some ((-1), gr, gc)))))
abbrev rmX7_grain : Room := { frames := 4, cells := 0, slots := 0, locals := 92 }
/-- RimGrains.public int screens(int); -/
def fX7_screens (a1 : Int32) (g0 : GX7) (gn : GX4) : Option (Int32) :=
  ((fX2_isRim a1).bind fun o1 => (if o1 = 0 then some (-1) else ((fX3_firstMet a1 gn).bind fun o14 => some o14)))
abbrev rmX7_screens : Room := { frames := 2, cells := 0, slots := 0, locals := 48 }
/-- RimGrains.public int ring(int); -/
def jX7_ring_1 (s16 : (Int32 × Int32)) (x2_1 : Int32) : Option ((Int32 × Int32) ⊕ (Int32)) :=
  some (.inl (x2_1, (s16.2 + 1)))
def tX7_ring_16 (a1 : Int32) (gn : GX4) (s16 : (Int32 × Int32)) : Option ((Int32 × Int32) ⊕ (Int32)) :=
  (if (pX4_grains gn) ≤ s16.2 then some (.inr s16.1) else ((fX4_cellOf s16.2 gn).bind fun o32 => ((fX2_ringOf o32).bind fun o35 => (if o35 = a1 then jX7_ring_1 s16 (s16.1 + 1) else jX7_ring_1 s16 s16.1))))
def fX7_ring (a1 : Int32) (g0 : GX7) (gn : GX4) : Option (Int32) :=
  (if a1 < 0 then some (-1) else (if a1 < 6 then ((lp (tX7_ring_16 a1 gn) FU (0, 0)).bind fun o16 => some o16) else some (-1)))
abbrev rmX7_ring : Room := { frames := 2, cells := 0, slots := 0, locals := 42 }
/-- RimGrains.public int apart(int, int); -/
def fX7_apart (a1 : Int32) (a2 : Int32) (g0 : GX7) (gn : GX4) : Option (Int32) :=
  ((fX4_isGrain a1 gn).bind fun o5 => (if o5 = 0 then some (-1) else ((fX4_isGrain a2 gn).bind fun o16 => (if o16 = 0 then some (-1) else ((fX4_holdsBetween a1 a2 gn).bind fun o30 => some o30)))))
abbrev rmX7_apart : Room := { frames := 3, cells := 0, slots := 0, locals := 68 }
/-- RimGrains.public int longest(int); -/
def fX7_longest (a1 : Int32) (g0 : GX7) (gn : GX4) (gr : GX5) : Option (Int32 × GX5) :=
  (if a1 < 0 then some ((-1), gr) else (if a1 ≤ 1 then (if a1 = 0 then ((fX4_longestOfPairs gn).bind fun o19 => some (o19, gr)) else ((fX5_read gr gn).bind fun o31 => ((fX5_longestOfHeights o31).bind fun o38 => some (o38, o31)))) else some ((-1), gr)))
abbrev rmX7_longest : Room := { frames := 4, cells := 0, slots := 0, locals := 91 }
/-- RimGrains.private int bestCatcher(); -/
def fX7_bestCatcher (g0 : GX7) (gn : GX4) (gc : GX3) : Option (Int32 × GX3) :=
  ((fX3_read gc gn).bind fun o8 => ((fX3_bestGrain o8).bind fun o15 => some (o15, o8)))
abbrev rmX7_bestCatcher : Room := { frames := 3, cells := 0, slots := 0, locals := 71 }
/-- RimGrains.private int countOfTrees(int); -/
def fX7_countOfTrees (a1 : Int32) (g0 : GX7) (gn : GX4) (gr : GX5) : Option (Int32 × GX5) :=
  ((fX5_read gr gn).bind fun o8 => (if a1 = 1 then ((fX5_rootGrains o8).bind fun o44 => some (o44, o8)) else (if a1 = 2 then ((fX5_grainsHeldBy 0 0 o8).bind fun o54 => some (o54, o8)) else (if a1 = 3 then ((fX5_grainsHeldBy 2 4 o8).bind fun o64 => some (o64, o8)) else ((fX5_deepest o8).bind fun o72 => some (o72, o8))))))
abbrev rmX7_countOfTrees : Room := { frames := 3, cells := 0, slots := 0, locals := 66 }
/-- RimGrains.public int count(int); -/
def fX7_count (a1 : Int32) (g0 : GX7) (gn : GX4) (gr : GX5) (gc : GX3) (gp : GX1) : Option (Int32 × GX5 × GX3) :=
  (if a1 < 0 then some ((-1), gr, gc) else (if a1 ≤ 19 then (if a1 = 0 then some ((pX4_grains gn), gr, gc) else (if a1 = 1 then ((fX7_countOfTrees a1 g0 gn gr).bind fun o213 => some (o213.1, o213.2, gc)) else (if a1 = 2 then ((fX7_countOfTrees a1 g0 gn gr).bind fun o213 => some (o213.1, o213.2, gc)) else (if a1 = 3 then ((fX7_countOfTrees a1 g0 gn gr).bind fun o213 => some (o213.1, o213.2, gc)) else (if a1 = 4 then ((fX7_countOfTrees a1 g0 gn gr).bind fun o213 => some (o213.1, o213.2, gc)) else (if a1 = 5 then ((fX4_reach gn).bind fun o120 => some (o120, gr, gc)) else (if a1 = 6 then ((fX4_freeCellsBeside gn).bind fun o128 => some (o128, gr, gc)) else (if a1 = 7 then some ((pX4_released gn), gr, gc) else (if a1 = 8 then some ((pX4_lost gn), gr, gc) else (if a1 = 9 then some ((pX4_gone gn), gr, gc) else (if a1 = 10 then some ((pX4_walked gn), gr, gc) else (if a1 = 11 then ((fX7_bestCatcher g0 gn gc).bind fun o166 => ((fX7_catchOf o166.1 g0 gn o166.2).bind fun o169 => some (o169.1, gr, o169.2))) else (if a1 = 12 then ((fX7_bestCatcher g0 gn gc).bind fun o174 => some (o174.1, gr, o174.2)) else (if a1 = 13 then ((fX4_setting (a1 - 13) gn).bind fun o186 => some (o186, gr, gc)) else (if a1 = 14 then ((fX4_setting (a1 - 13) gn).bind fun o186 => some (o186, gr, gc)) else (if a1 = 15 then ((fX4_setting (a1 - 13) gn).bind fun o186 => some (o186, gr, gc)) else (if a1 = 16 then ((fX4_setting (a1 - 13) gn).bind fun o186 => some (o186, gr, gc)) else (if a1 = 17 then some ((pX4_lot gn), gr, gc) else (if a1 = 18 then some ((pX1_length gp), gr, gc) else (if a1 = 19 then some ((pX7_states g0), gr, gc) else ((fX7_countOfTrees a1 g0 gn gr).bind fun o213 => some (o213.1, o213.2, gc)))))))))))))))))))))) else some ((-1), gr, gc)))
abbrev rmX7_count : Room := { frames := 4, cells := 0, slots := 0, locals := 92 }
/-- RimGrains.public int ifGone(int, int); -/
def fX7_ifGone (a1 : Int32) (a2 : Int32) (g0 : GX7) (gn : GX4) (gw : GX6) : Option (Int32 × GX6) :=
  (if a2 < 0 then some ((-1), gw) else (if a2 ≤ 2 then ((fX4_refusalToGo a1 gn).bind fun o16 => (if o16 = 0 then ((fX2_cellOfRim a1).bind fun o35 => ((fX6_walkFrom o35 gw gn).bind fun o38 => (if a2 = 0 then ((fX6_answer o38).bind fun o72 => some (o72, o38)) else (if a2 = 1 then some ((pX6_place o38), o38) else some ((pX6_draws o38), o38))))) else some (o16, gw))) else some ((-1), gw)))
abbrev rmX7_ifGone : Room := { frames := 4, cells := 0, slots := 0, locals := 93 }
/-- RimGrains.public int ifBroken(int, int); -/
def fX7_ifBroken (a1 : Int32) (a2 : Int32) (g0 : GX7) (gn : GX4) (gt : GX4) (gf : GX0) (gr : GX5) (gc : GX3) : Option (Int32 × GX4 × GX0 × GX5 × GX3) :=
  (if a2 < 0 then some ((-1), gt, gf, gr, gc) else (if a2 ≤ 3 then ((fX4_refusalToBreak a1 gn).bind fun o16 => (if o16 = 0 then ((fX4_takeOver gt gn).bind fun o34 => ((fX0_dropTree a1 gf o34).bind fun o46 => (if a2 = 0 then some ((pX4_grains o46.2.2), o46.2.2, o46.2.1, gr, gc) else (if a2 = 1 then ((fX4_reach o46.2.2).bind fun o88 => some (o88, o46.2.2, o46.2.1, gr, gc)) else (if a2 = 2 then ((fX5_read gr o46.2.2).bind fun o100 => ((fX5_deepest o100).bind fun o107 => some (o107, o46.2.2, o46.2.1, o100, gc))) else ((fX3_read gc o46.2.2).bind fun o119 => some ((pX3_open o119), o46.2.2, o46.2.1, gr, o119))))))) else some (o16, gt, gf, gr, gc))) else some ((-1), gt, gf, gr, gc)))
abbrev rmX7_ifBroken : Room := { frames := 4, cells := 0, slots := 0, locals := 92 }
/-- RimGrains.public int save(); -/
def fX7_save (g0 : GX7) (gn : GX4) (gs : GX4) : Option (Int32 × GX7 × GX4) :=
  ((fX4_takeOver gs gn).bind fun o8 => some ((pX4_grains gn), ((pX7_states g0), 1, (pX7_stopError g0), (pX7_stopDeed g0), (pX7_stopPlace g0)), o8))
abbrev rmX7_save : Room := { frames := 2, cells := 0, slots := 0, locals := 49 }
/-- RimGrains.private void record(); -/
def jX7_record_1 (gn : GX4) (g0_1 : GX7) (gh_1 : GH) : Option (GX7 × GH) :=
  (if (pX7_states g0_1) = 0 then ((fX4_takeOver gh_1.1 gn).bind fun o29 => some ((((pX7_states g0_1) + 1), (pX7_saved g0_1), (pX7_stopError g0_1), (pX7_stopDeed g0_1), (pX7_stopPlace g0_1)), (o29, gh_1.2.1, gh_1.2.2.1, gh_1.2.2.2))) else (if (pX7_states g0_1) = 1 then ((fX4_takeOver gh_1.2.1 gn).bind fun o29 => some ((((pX7_states g0_1) + 1), (pX7_saved g0_1), (pX7_stopError g0_1), (pX7_stopDeed g0_1), (pX7_stopPlace g0_1)), (gh_1.1, o29, gh_1.2.2.1, gh_1.2.2.2))) else (if (pX7_states g0_1) = 2 then ((fX4_takeOver gh_1.2.2.1 gn).bind fun o29 => some ((((pX7_states g0_1) + 1), (pX7_saved g0_1), (pX7_stopError g0_1), (pX7_stopDeed g0_1), (pX7_stopPlace g0_1)), (gh_1.1, gh_1.2.1, o29, gh_1.2.2.2))) else (if (pX7_states g0_1) = 3 then ((fX4_takeOver gh_1.2.2.2 gn).bind fun o29 => some ((((pX7_states g0_1) + 1), (pX7_saved g0_1), (pX7_stopError g0_1), (pX7_stopDeed g0_1), (pX7_stopPlace g0_1)), (gh_1.1, gh_1.2.1, gh_1.2.2.1, o29))) else none))))
def fX7_record (g0 : GX7) (gn : GX4) (gh : GH) : Option (GX7 × GH) :=
  (if (pX7_states g0) < 4 then jX7_record_1 gn g0 gh else ((fX7_dropOldest g0 gh).bind fun o13 => jX7_record_1 gn o13.1 o13.2))
abbrev rmX7_record : Room := { frames := 2, cells := 0, slots := 0, locals := 49 }
/-- RimGrains.public int begin(int); -/
def fX7_begin (a1 : Int32) (g0 : GX7) (gn : GX4) (gh : GH) : Option (Int32 × GX7 × GX4 × GH) :=
  (if a1 < 0 then some ((-1), g0, gn, gh) else (if a1 ≤ 2 then ((fX7_record g0 gn gh).bind fun o12 => ((fX4_plant a1 gn).bind fun o20 => some (o20.1, o12.1, o20.2, o12.2))) else some ((-1), g0, gn, gh)))
abbrev rmX7_begin : Room := { frames := 4, cells := 0, slots := 0, locals := 87 }
/-- RimGrains.public int lot(int); -/
def fX7_lot (a1 : Int32) (g0 : GX7) (gn : GX4) (gh : GH) : Option (Int32 × GX7 × GX4 × GH) :=
  (if a1 < 0 then some ((-1), g0, gn, gh) else (if a1 < 10000 then ((fX7_record g0 gn gh).bind fun o14 => some ((pX4_lot gn), o14.1, ((pX4_cells gn), (pX4_holders gn), (pX4_steps gn), (pX4_grainsByCell gn), (pX4_settings gn), (pX4_grains gn), a1, (pX4_released gn), (pX4_lost gn), (pX4_gone gn), (pX4_walked gn)), o14.2)) else some ((-1), g0, gn, gh)))
abbrev rmX7_lot : Room := { frames := 3, cells := 0, slots := 0, locals := 69 }
/-- RimGrains.public int go(int); -/
def fX7_go (a1 : Int32) (g0 : GX7) (gn : GX4) (gh : GH) (gw : GX6) : Option (Int32 × GX7 × GX4 × GH × GX6) :=
  ((fX4_refusalToGo a1 gn).bind fun o5 => (if o5 = 0 then ((fX7_record g0 gn gh).bind fun o16 => ((fX7_letWalk a1 o16.1 gn gw).bind fun o21 => some (o21.1, o16.1, o21.2.1, o16.2, o21.2.2))) else some (o5, g0, gn, gh, gw)))
abbrev rmX7_go : Room := { frames := 5, cells := 0, slots := 0, locals := 114 }
/-- RimGrains.public int rain(int); -/
def jX7_rain_1 (s21 : (Int32 × Int32 × GX4 × GX6)) (o27 : (Int32 × GX4 × GX6)) (x2_1 : Int32) : Option ((Int32 × Int32 × GX4 × GX6) ⊕ (Int32 × GX4 × GX6)) :=
  some (.inl (x2_1, (s21.2.1 + 1), o27.2.1, o27.2.2))
def tX7_rain_21 (a1 : Int32) (o14 : (GX7 × GH)) (s21 : (Int32 × Int32 × GX4 × GX6)) : Option ((Int32 × Int32 × GX4 × GX6) ⊕ (Int32 × GX4 × GX6)) :=
  (if a1 ≤ s21.2.1 then some (.inr (s21.1, s21.2.2.1, s21.2.2.2)) else ((fX7_dropSticks o14.1 s21.2.2.1 s21.2.2.2).bind fun o27 => (if o27.1 = 0 then jX7_rain_1 s21 o27 s21.1 else jX7_rain_1 s21 o27 (s21.1 + 1))))
def fX7_rain (a1 : Int32) (g0 : GX7) (gn : GX4) (gh : GH) (gw : GX6) : Option (Int32 × GX7 × GX4 × GH × GX6) :=
  (if a1 < 1 then some ((-1), g0, gn, gh, gw) else (if a1 ≤ 20 then ((fX7_record g0 gn gh).bind fun o14 => ((lp (tX7_rain_21 a1 o14) FU (0, 0, gn, gw)).bind fun o21 => some (o21.1, o14.1, o21.2.1, o14.2, o21.2.2))) else some ((-1), g0, gn, gh, gw)))
abbrev rmX7_rain : Room := { frames := 6, cells := 0, slots := 0, locals := 135 }
/-- RimGrains.public int breakOff(int); -/
def fX7_breakOff (a1 : Int32) (g0 : GX7) (gn : GX4) (gh : GH) (gf : GX0) : Option (Int32 × GX7 × GX4 × GH × GX0) :=
  ((fX4_refusalToBreak a1 gn).bind fun o5 => (if o5 = 0 then ((fX7_record g0 gn gh).bind fun o16 => ((fX0_dropTree a1 gf gn).bind fun o28 => some (o28.1, o16.1, o28.2.2, o16.2, o28.2.1))) else some (o5, g0, gn, gh, gf)))
abbrev rmX7_breakOff : Room := { frames := 4, cells := 0, slots := 0, locals := 92 }
/-- RimGrains.public int wash(); -/
def fX7_wash (g0 : GX7) (gn : GX4) (gh : GH) (gf : GX0) : Option (Int32 × GX7 × GX4 × GH × GX0) :=
  ((fX7_record g0 gn gh).bind fun o1 => ((fX0_dropTips gf gn).bind fun o12 => some (o12.1, o1.1, o12.2.2, o1.2, o12.2.1)))
abbrev rmX7_wash : Room := { frames := 4, cells := 0, slots := 0, locals := 91 }
/-- RimGrains.public int set(int, int); -/
def fX7_set (a1 : Int32) (a2 : Int32) (g0 : GX7) (gn : GX4) (gh : GH) : Option (Int32 × GX7 × GX4 × GH) :=
  ((fX7_isSettingValue a1 a2).bind fun o2 => (if o2 = 0 then some ((-1), g0, gn, gh) else ((fX7_record g0 gn gh).bind fun o11 => ((fX4_change a1 a2 gn).bind fun o20 => some (o20.1, o11.1, o20.2, o11.2)))))
abbrev rmX7_set : Room := { frames := 3, cells := 0, slots := 0, locals := 69 }
/-- RimGrains.public int carryOut(); -/
def jX7_carryOut_1 (o50 : (Int32 × GX1)) (o71 : (Int32 × GX4 × GX6 × GX0)) (x1_1 : Int32) (g0_1 : GX7) : Option ((Int32 × GX7 × GX4 × GX6 × GX0 × GX1) ⊕ (Int32 × GX7 × GX4 × GX6 × GX0 × GX1)) :=
  some (.inl (x1_1, g0_1, o71.2.1, o71.2.2.1, o71.2.2.2, o50.2))
def tX7_carryOut_33 (s33 : (Int32 × GX7 × GX4 × GX6 × GX0 × GX1)) : Option ((Int32 × GX7 × GX4 × GX6 × GX0 × GX1) ⊕ (Int32 × GX7 × GX4 × GX6 × GX0 × GX1)) :=
  (if 60 ≤ s33.1 then some (.inr (s33.1, s33.2.1, s33.2.2.1, s33.2.2.2.1, s33.2.2.2.2.1, s33.2.2.2.2.2)) else (if (pX7_stopError s33.2.1) = 0 then ((fX1_readDeed s33.2.2.2.2.2).bind fun o50 => (if o50.1 = 0 then some (.inr (s33.1, s33.2.1, s33.2.2.1, s33.2.2.2.1, s33.2.2.2.2.1, o50.2)) else ((fX7_answerOfDeed (pX1_letter o50.2) (pX1_number o50.2) s33.2.1 s33.2.2.1 s33.2.2.2.1 s33.2.2.2.2.1).bind fun o71 => (if 0 ≤ o71.1 then jX7_carryOut_1 o50 o71 (s33.1 + 1) s33.2.1 else jX7_carryOut_1 o50 o71 s33.1 ((pX7_states s33.2.1), (pX7_saved s33.2.1), o71.1, s33.1, (pX1_place o50.2)))))) else some (.inr (s33.1, s33.2.1, s33.2.2.1, s33.2.2.2.1, s33.2.2.2.2.1, s33.2.2.2.2.2))))
def fX7_carryOut (g0 : GX7) (gn : GX4) (gh : GH) (gw : GX6) (gf : GX0) (gp : GX1) : Option (Int32 × GX7 × GX4 × GH × GX6 × GX0 × GX1) :=
  ((fX1_firstWrong gp).bind fun o4 => (if o4 = (-4) then ((fX7_record g0 gn gh).bind fun o16 => ((fX1_startReading gp).bind fun o30 => ((lp tX7_carryOut_33 FU (0, ((pX7_states o16.1), (pX7_saved o16.1), 0, (pX7_stopDeed o16.1), (pX7_stopPlace o16.1)), gn, gw, gf, o30)).bind fun o33 => ((fX1_wipe o33.2.2.2.2.2).bind fun o113 => some (o33.1, o33.2.1, o33.2.2.1, o16.2, o33.2.2.2.1, o33.2.2.2.2.1, o113))))) else some ((-2), g0, gn, gh, gw, gf, gp)))
abbrev rmX7_carryOut : Room := { frames := 6, cells := 0, slots := 0, locals := 137 }
/-- RimGrains.public int undo(); -/
def fX7_undo (g0 : GX7) (gn : GX4) (gh : GH) : Option (Int32 × GX7 × GX4) :=
  (if 1 ≤ (pX7_states g0) then (if ((pX7_states g0) - 1) = 0 then ((fX4_takeOver gn gh.1).bind fun o34 => some (((pX7_states g0) - 1), (((pX7_states g0) - 1), (pX7_saved g0), (pX7_stopError g0), (pX7_stopDeed g0), (pX7_stopPlace g0)), o34)) else (if ((pX7_states g0) - 1) = 1 then ((fX4_takeOver gn gh.2.1).bind fun o34 => some (((pX7_states g0) - 1), (((pX7_states g0) - 1), (pX7_saved g0), (pX7_stopError g0), (pX7_stopDeed g0), (pX7_stopPlace g0)), o34)) else (if ((pX7_states g0) - 1) = 2 then ((fX4_takeOver gn gh.2.2.1).bind fun o34 => some (((pX7_states g0) - 1), (((pX7_states g0) - 1), (pX7_saved g0), (pX7_stopError g0), (pX7_stopDeed g0), (pX7_stopPlace g0)), o34)) else (if ((pX7_states g0) - 1) = 3 then ((fX4_takeOver gn gh.2.2.2).bind fun o34 => some (((pX7_states g0) - 1), (((pX7_states g0) - 1), (pX7_saved g0), (pX7_stopError g0), (pX7_stopDeed g0), (pX7_stopPlace g0)), o34)) else none)))) else some ((-2), g0, gn))
abbrev rmX7_undo : Room := { frames := 2, cells := 0, slots := 0, locals := 49 }
/-- RimGrains.public int restore(); -/
def fX7_restore (g0 : GX7) (gn : GX4) (gs : GX4) (gh : GH) : Option (Int32 × GX7 × GX4 × GH) :=
  (if (pX7_saved g0) = 0 then some ((-2), g0, gn, gh) else ((fX7_record g0 gn gh).bind fun o11 => ((fX4_takeOver gn gs).bind fun o22 => some ((pX4_grains o22), o11.1, o22, o11.2))))
abbrev rmX7_restore : Room := { frames := 3, cells := 0, slots := 0, locals := 69 }
