def fX7_density (g0 : GX7) (gn : GX4) : Option (Int32 × Int32) := (fX4_reach gn).bind fun o5 => some ((pX4_grains gn), (((2 * o5) + 1) * ((2 * o5) + 1)))
/-- all that the class holds -/
abbrev GV : Type := GX7 × GX4 × GX4 × GX4 × GH × GX6 × GX0 × GX5 × GX3 × GX1
