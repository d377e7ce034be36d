section
/-! ===== BEGIN words of one list among another's, by their places ===== -/
theorem goodIn_r {big : List Cond} (ws : List Cond) (ps : List Nat) (hp : ws = ps.filterMap (fun i => big[i]?)) (h : ws.all goodWord = true) : GoodIn big ws := by
  intro w hw
  have h1 := List.all_eq_true.mp h w hw
  rw [hp] at hw
  obtain ⟨i, -, hi⟩ := List.mem_filterMap.mp hw
  have hm : w ∈ big := by first | exact List.mem_of_getElem? hi | exact List.getElem?_mem hi
  exact ⟨hm, good_of_word h1⟩
theorem goodIn_app {big a b : List Cond} (ha : GoodIn big a) (hb : GoodIn big b) : GoodIn big (a ++ b) := fun w h => (List.mem_append.mp h).elim (ha w) (hb w)
theorem goodIn_ca {big a b : List Cond} {c : Cond} (ha : GoodIn big (c :: a)) (hb : GoodIn big b) : GoodIn big (c :: (a ++ b)) := fun w h => (List.mem_cons.mp h).elim (fun e => ha w (List.mem_cons.mpr (Or.inl e))) (fun h => (List.mem_append.mp h).elim (fun h => ha w (List.mem_cons.mpr (Or.inr h))) (hb w))
theorem goodIn_sub {big ws : List Cond} (hm : ∀ w ∈ ws, w ∈ big) (h : ws.all goodWord = true) : GoodIn big ws := fun w hw => ⟨hm w hw, good_of_word (List.all_eq_true.mp h w hw)⟩
/-! ===== END ===== -/

/-! ===== BEGIN printed: names, fields, word lists, decode rows ===== -/
def RX0 : String := "InsidePlaces$Area"
def TX0 : u_T := fun k => match k with
  | 0 => ("InsidePlaces$Area", "floor", "I", true)
  | 1 => ("InsidePlaces$Area", "x0", "I", true)
  | 2 => ("InsidePlaces$Area", "x1", "I", true)
  | 3 => ("InsidePlaces$Area", "y0", "I", true)
  | _ => ("InsidePlaces$Area", "y1", "I", true)
def tyX0 : Nat → FieldType := fun k => match k with
  | 0 => .int
  | 1 => .int
  | 2 => .int
  | 3 => .int
  | _ => .int
abbrev wsX00 : List Cond := u_ws RX0 TX0 5
theorem nmX0 : ∀ a, a < 5 → ∀ b, b < 5 → a ≠ b → (TX0 a).2.1 ≠ (TX0 b).2.1 := by decide +kernel
theorem tyX0_ok : ∀ k, k < 5 → parseFieldDescriptor (TX0 k).2.2.1 = some (tyX0 k) := by decide +kernel
abbrev cX0_init : ByteArray := prog_2_method_1_code
def yX0_init : MethodName := ⟨RX0, "<init>", "(IIIII)V"⟩
abbrev cX0_extent : ByteArray := prog_2_method_2_code
def yX0_extent : MethodName := ⟨RX0, "extent", "()I"⟩
abbrev cX0_contains : ByteArray := prog_2_method_3_code
def yX0_contains : MethodName := ⟨RX0, "contains", "(III)Z"⟩
abbrev cX0_cellsApart : ByteArray := prog_2_method_4_code
def yX0_cellsApart : MethodName := ⟨RX0, "cellsApart", "(LInsidePlaces$Area;)I"⟩
abbrev cX0_cellsInBoth : ByteArray := prog_2_method_5_code
def yX0_cellsInBoth : MethodName := ⟨RX0, "cellsInBoth", "(LInsidePlaces$Area;)I"⟩
def RX1 : String := "InsidePlaces$Chances"
def TX1 : u_T := fun k => match k with
  | 0 => ("InsidePlaces$Chances", "cells", "I", false)
  | 1 => ("InsidePlaces$Chances", "shares", "[I", true)
  | 2 => ("InsidePlaces$Chances", "weights", "[J", true)
  | _ => ("InsidePlaces$Chances", "rests", "[J", true)
def tyX1 : Nat → FieldType := fun k => match k with
  | 0 => .int
  | 1 => .array .int
  | 2 => .array .long
  | _ => .array .long
abbrev wsX10 : List Cond := u_ws RX1 TX1 4
theorem nmX1 : ∀ a, a < 4 → ∀ b, b < 4 → a ≠ b → (TX1 a).2.1 ≠ (TX1 b).2.1 := by decide +kernel
theorem tyX1_ok : ∀ k, k < 4 → parseFieldDescriptor (TX1 k).2.2.1 = some (tyX1 k) := by decide +kernel
abbrev cX1_init : ByteArray := prog_3_method_1_code
def yX1_init : MethodName := ⟨RX1, "<init>", "()V"⟩
abbrev cX1_shareOf : ByteArray := prog_3_method_2_code
def yX1_shareOf : MethodName := ⟨RX1, "shareOf", "(I)I"⟩
abbrev cX1_makeAlike : ByteArray := prog_3_method_3_code
def yX1_makeAlike : MethodName := ⟨RX1, "makeAlike", "(I)V"⟩
abbrev cX1_makeKnown : ByteArray := prog_3_method_4_code
def yX1_makeKnown : MethodName := ⟨RX1, "makeKnown", "(I)V"⟩
abbrev cX1_makeWhole : ByteArray := prog_3_method_5_code
def yX1_makeWhole : MethodName := ⟨RX1, "makeWhole", "()Z"⟩
abbrev cX1_handOut : ByteArray := prog_3_method_6_code
def yX1_handOut : MethodName := ⟨RX1, "handOut", "(I)V"⟩
abbrev cX1_leadOneStep : ByteArray := prog_3_method_7_code
def yX1_leadOneStep : MethodName := ⟨RX1, "leadOneStep", "(LInsidePlaces$House;)V"⟩
abbrev cX1_spread : ByteArray := prog_3_method_8_code
def yX1_spread : MethodName := ⟨RX1, "spread", "(LInsidePlaces$House;IJI)V"⟩
abbrev cX1_hearRow : ByteArray := prog_3_method_9_code
def yX1_hearRow : MethodName := ⟨RX1, "hearRow", "(LInsidePlaces$RadioMap;LInsidePlaces$Sheet;II)Z"⟩
abbrev cX1_weighSender : ByteArray := prog_3_method_10_code
def yX1_weighSender : MethodName := ⟨RX1, "weighSender", "(LInsidePlaces$RadioMap;II)V"⟩
abbrev cX1_cellsWithShare : ByteArray := prog_3_method_11_code
def yX1_cellsWithShare : MethodName := ⟨RX1, "cellsWithShare", "()I"⟩
abbrev cX1_greatestCell : ByteArray := prog_3_method_12_code
def yX1_greatestCell : MethodName := ⟨RX1, "greatestCell", "()I"⟩
abbrev cX1_fewestCellsWith : ByteArray := prog_3_method_13_code
def yX1_fewestCellsWith : MethodName := ⟨RX1, "fewestCellsWith", "(I)I"⟩
def RX2 : String := "InsidePlaces$Crowd"
def TX2 : u_T := fun k => match k with
  | 0 => ("InsidePlaces$Crowd", "given", "I", false)
  | 1 => ("InsidePlaces$Crowd", "fewest", "I", false)
  | 2 => ("InsidePlaces$Crowd", "cellOf", "[I", true)
  | _ => ("InsidePlaces$Crowd", "areas", "[LInsidePlaces$Area;", true)
def tyX2 : Nat → FieldType := fun k => match k with
  | 0 => .int
  | 1 => .int
  | 2 => .array .int
  | _ => .array (.object "InsidePlaces$Area")
abbrev wsX20 : List Cond := u_ws RX2 TX2 4
theorem nmX2 : ∀ a, a < 4 → ∀ b, b < 4 → a ≠ b → (TX2 a).2.1 ≠ (TX2 b).2.1 := by decide +kernel
theorem tyX2_ok : ∀ k, k < 4 → parseFieldDescriptor (TX2 k).2.2.1 = some (tyX2 k) := by decide +kernel
abbrev cX2_init : ByteArray := prog_4_method_1_code
def yX2_init : MethodName := ⟨RX2, "<init>", "()V"⟩
abbrev cX2_scatter : ByteArray := prog_4_method_2_code
def yX2_scatter : MethodName := ⟨RX2, "scatter", "()V"⟩
abbrev cX2_move : ByteArray := prog_4_method_3_code
def yX2_move : MethodName := ⟨RX2, "move", "(II)I"⟩
abbrev cX2_putLeast : ByteArray := prog_4_method_4_code
def yX2_putLeast : MethodName := ⟨RX2, "putLeast", "(I)I"⟩
abbrev cX2_somewhere : ByteArray := prog_4_method_5_code
def yX2_somewhere : MethodName := ⟨RX2, "somewhere", "()I"⟩
abbrev cX2_giveAway : ByteArray := prog_4_method_6_code
def yX2_giveAway : MethodName := ⟨RX2, "giveAway", "(LInsidePlaces$Area;LInsidePlaces$House;)I"⟩
abbrev cX2_numberIn : ByteArray := prog_4_method_7_code
def yX2_numberIn : MethodName := ⟨RX2, "numberIn", "(LInsidePlaces$Area;LInsidePlaces$House;)I"⟩
abbrev cX2_isTooNear : ByteArray := prog_4_method_8_code
def yX2_isTooNear : MethodName := ⟨RX2, "isTooNear", "(LInsidePlaces$Area;)Z"⟩
abbrev cX2_wasGiven : ByteArray := prog_4_method_9_code
def yX2_wasGiven : MethodName := ⟨RX2, "wasGiven", "(LInsidePlaces$Area;)Z"⟩
def RX3 : String := "InsidePlaces$House"
def TX3 : u_T := fun k => match k with
  | 0 => ("InsidePlaces$House", "floors", "I", false)
  | 1 => ("InsidePlaces$House", "wide", "I", false)
  | 2 => ("InsidePlaces$House", "high", "I", false)
  | 3 => ("InsidePlaces$House", "walls", "I", false)
  | 4 => ("InsidePlaces$House", "lifts", "I", false)
  | 5 => ("InsidePlaces$House", "staying", "I", false)
  | 6 => ("InsidePlaces$House", "wallRight", "[Z", true)
  | 7 => ("InsidePlaces$House", "wallBelow", "[Z", true)
  | 8 => ("InsidePlaces$House", "liftAt", "[Z", true)
  | 9 => ("InsidePlaces$House", "targets", "[I", true)
  | 10 => ("InsidePlaces$House", "distance", "[I", true)
  | _ => ("InsidePlaces$House", "queue", "[I", true)
def tyX3 : Nat → FieldType := fun k => match k with
  | 0 => .int
  | 1 => .int
  | 2 => .int
  | 3 => .int
  | 4 => .int
  | 5 => .int
  | 6 => .array .boolean
  | 7 => .array .boolean
  | 8 => .array .boolean
  | 9 => .array .int
  | 10 => .array .int
  | _ => .array .int
abbrev wsX30 : List Cond := u_ws RX3 TX3 12
theorem nmX3 : ∀ a, a < 12 → ∀ b, b < 12 → a ≠ b → (TX3 a).2.1 ≠ (TX3 b).2.1 := by decide +kernel
theorem tyX3_ok : ∀ k, k < 12 → parseFieldDescriptor (TX3 k).2.2.1 = some (tyX3 k) := by decide +kernel
abbrev cX3_init : ByteArray := prog_5_method_1_code
def yX3_init : MethodName := ⟨RX3, "<init>", "()V"⟩
abbrev cX3_raise : ByteArray := prog_5_method_2_code
def yX3_raise : MethodName := ⟨RX3, "raise", "(III)V"⟩
abbrev cX3_cells : ByteArray := prog_5_method_3_code
def yX3_cells : MethodName := ⟨RX3, "cells", "()I"⟩
abbrev cX3_hasCell : ByteArray := prog_5_method_4_code
def yX3_hasCell : MethodName := ⟨RX3, "hasCell", "(I)Z"⟩
abbrev cX3_hasPlace : ByteArray := prog_5_method_5_code
def yX3_hasPlace : MethodName := ⟨RX3, "hasPlace", "(II)Z"⟩
abbrev cX3_hasArea : ByteArray := prog_5_method_6_code
def yX3_hasArea : MethodName := ⟨RX3, "hasArea", "(IIIII)Z"⟩
abbrev cX3_cellAt : ByteArray := prog_5_method_7_code
def yX3_cellAt : MethodName := ⟨RX3, "cellAt", "(III)I"⟩
abbrev cX3_xOf : ByteArray := prog_5_method_8_code
def yX3_xOf : MethodName := ⟨RX3, "xOf", "(I)I"⟩
abbrev cX3_yOf : ByteArray := prog_5_method_9_code
def yX3_yOf : MethodName := ⟨RX3, "yOf", "(I)I"⟩
abbrev cX3_floorOf : ByteArray := prog_5_method_10_code
def yX3_floorOf : MethodName := ⟨RX3, "floorOf", "(I)I"⟩
abbrev cX3_areBeside : ByteArray := prog_5_method_11_code
def yX3_areBeside : MethodName := ⟨RX3, "areBeside", "(II)Z"⟩
abbrev cX3_putWall : ByteArray := prog_5_method_12_code
def yX3_putWall : MethodName := ⟨RX3, "putWall", "(IIZ)I"⟩
abbrev cX3_putLift : ByteArray := prog_5_method_13_code
def yX3_putLift : MethodName := ⟨RX3, "putLift", "(IIZ)I"⟩
abbrev cX3_putStay : ByteArray := prog_5_method_14_code
def yX3_putStay : MethodName := ⟨RX3, "putStay", "(I)I"⟩
abbrev cX3_chartSteps : ByteArray := prog_5_method_15_code
def yX3_chartSteps : MethodName := ⟨RX3, "chartSteps", "()V"⟩
abbrev cX3_chartStepsFrom : ByteArray := prog_5_method_16_code
def yX3_chartStepsFrom : MethodName := ⟨RX3, "chartStepsFrom", "(II)V"⟩
abbrev cX3_targetOf : ByteArray := prog_5_method_17_code
def yX3_targetOf : MethodName := ⟨RX3, "targetOf", "(II)I"⟩
abbrev cX3_likelyTo : ByteArray := prog_5_method_18_code
def yX3_likelyTo : MethodName := ⟨RX3, "likelyTo", "(I)I"⟩
abbrev cX3_likelyOfAll : ByteArray := prog_5_method_19_code
def yX3_likelyOfAll : MethodName := ⟨RX3, "likelyOfAll", "(I)I"⟩
abbrev cX3_likelyBetween : ByteArray := prog_5_method_20_code
def yX3_likelyBetween : MethodName := ⟨RX3, "likelyBetween", "(II)I"⟩
abbrev cX3_fewestSteps : ByteArray := prog_5_method_21_code
def yX3_fewestSteps : MethodName := ⟨RX3, "fewestSteps", "(II)I"⟩
def RX4 : String := "InsidePlaces$RadioMap"
def TX4 : u_T := fun k => match k with
  | 0 => ("InsidePlaces$RadioMap", "deadBits", "I", false)
  | _ => ("InsidePlaces$RadioMap", "counts", "[I", true)
def tyX4 : Nat → FieldType := fun k => match k with
  | 0 => .int
  | _ => .array .int
abbrev wsX40 : List Cond := u_ws RX4 TX4 2
theorem nmX4 : ∀ a, a < 2 → ∀ b, b < 2 → a ≠ b → (TX4 a).2.1 ≠ (TX4 b).2.1 := by decide +kernel
theorem tyX4_ok : ∀ k, k < 2 → parseFieldDescriptor (TX4 k).2.2.1 = some (tyX4 k) := by decide +kernel
abbrev cX4_init : ByteArray := prog_6_method_1_code
def yX4_init : MethodName := ⟨RX4, "<init>", "()V"⟩
abbrev cX4_clear : ByteArray := prog_6_method_2_code
def yX4_clear : MethodName := ⟨RX4, "clear", "()V"⟩
abbrev cX4_putDead : ByteArray := prog_6_method_3_code
def yX4_putDead : MethodName := ⟨RX4, "putDead", "(IZ)V"⟩
abbrev cX4_isDead : ByteArray := prog_6_method_4_code
def yX4_isDead : MethodName := ⟨RX4, "isDead", "(I)Z"⟩
abbrev cX4_slotOf : ByteArray := prog_6_method_5_code
def yX4_slotOf : MethodName := ⟨RX4, "slotOf", "(III)I"⟩
abbrev cX4_weightOf : ByteArray := prog_6_method_6_code
def yX4_weightOf : MethodName := ⟨RX4, "weightOf", "(III)I"⟩
abbrev cX4_weightOfAll : ByteArray := prog_6_method_7_code
def yX4_weightOfAll : MethodName := ⟨RX4, "weightOfAll", "(II)I"⟩
abbrev cX4_greatestWeight : ByteArray := prog_6_method_8_code
def yX4_greatestWeight : MethodName := ⟨RX4, "greatestWeight", "(III)I"⟩
abbrev cX4_addRow : ByteArray := prog_6_method_9_code
def yX4_addRow : MethodName := ⟨RX4, "addRow", "(LInsidePlaces$Sheet;II)I"⟩
abbrev cX4_rowWeight : ByteArray := prog_6_method_10_code
def yX4_rowWeight : MethodName := ⟨RX4, "rowWeight", "(LInsidePlaces$Sheet;IIII)I"⟩
abbrev cX4_bestOffset : ByteArray := prog_6_method_11_code
def yX4_bestOffset : MethodName := ⟨RX4, "bestOffset", "(LInsidePlaces$Sheet;II)I"⟩
def RX5 : String := "InsidePlaces$Sheet"
def TX5 : u_T := fun k => match k with
  | 0 => ("InsidePlaces$Sheet", "lost", "Z", false)
  | 1 => ("InsidePlaces$Sheet", "form", "I", false)
  | 2 => ("InsidePlaces$Sheet", "size", "I", false)
  | _ => ("InsidePlaces$Sheet", "items", "[I", true)
def tyX5 : Nat → FieldType := fun k => match k with
  | 0 => .boolean
  | 1 => .int
  | 2 => .int
  | _ => .array .int
abbrev wsX50 : List Cond := u_ws RX5 TX5 4
theorem nmX5 : ∀ a, a < 4 → ∀ b, b < 4 → a ≠ b → (TX5 a).2.1 ≠ (TX5 b).2.1 := by decide +kernel
theorem tyX5_ok : ∀ k, k < 4 → parseFieldDescriptor (TX5 k).2.2.1 = some (tyX5 k) := by decide +kernel
abbrev cX5_init : ByteArray := prog_7_method_1_code
def yX5_init : MethodName := ⟨RX5, "<init>", "()V"⟩
abbrev cX5_renew : ByteArray := prog_7_method_2_code
def yX5_renew : MethodName := ⟨RX5, "renew", "(II)V"⟩
abbrev cX5_drop : ByteArray := prog_7_method_3_code
def yX5_drop : MethodName := ⟨RX5, "drop", "()I"⟩
abbrev cX5_store : ByteArray := prog_7_method_4_code
def yX5_store : MethodName := ⟨RX5, "store", "(II)V"⟩
abbrev cX5_hasItems : ByteArray := prog_7_method_5_code
def yX5_hasItems : MethodName := ⟨RX5, "hasItems", "(II)Z"⟩
abbrev cX5_rows : ByteArray := prog_7_method_6_code
def yX5_rows : MethodName := ⟨RX5, "rows", "()I"⟩
abbrev cX5_heardOf : ByteArray := prog_7_method_7_code
def yX5_heardOf : MethodName := ⟨RX5, "heardOf", "(II)I"⟩
abbrev cX5_heardBy : ByteArray := prog_7_method_8_code
def yX5_heardBy : MethodName := ⟨RX5, "heardBy", "(III)I"⟩
def RX6 : String := "InsidePlaces$WayFinder"
def TX6 : u_T := fun k => match k with
  | 0 => ("InsidePlaces$WayFinder", "way", "[I", true)
  | _ => ("InsidePlaces$WayFinder", "onward", "[I", true)
def tyX6 : Nat → FieldType := fun k => match k with
  | 0 => .array .int
  | _ => .array .int
abbrev wsX60 : List Cond := u_ws RX6 TX6 2
theorem nmX6 : ∀ a, a < 2 → ∀ b, b < 2 → a ≠ b → (TX6 a).2.1 ≠ (TX6 b).2.1 := by decide +kernel
theorem tyX6_ok : ∀ k, k < 2 → parseFieldDescriptor (TX6 k).2.2.1 = some (tyX6 k) := by decide +kernel
abbrev cX6_init : ByteArray := prog_8_method_1_code
def yX6_init : MethodName := ⟨RX6, "<init>", "()V"⟩
abbrev cX6_findWay : ByteArray := prog_8_method_2_code
def yX6_findWay : MethodName := ⟨RX6, "findWay", "(LInsidePlaces$House;LInsidePlaces$RadioMap;LInsidePlaces$Sheet;I)I"⟩
abbrev cX6_scoreAfter : ByteArray := prog_8_method_3_code
def yX6_scoreAfter : MethodName := ⟨RX6, "scoreAfter", "(LInsidePlaces$House;III)I"⟩
abbrev cX6_bestDirection : ByteArray := prog_8_method_4_code
def yX6_bestDirection : MethodName := ⟨RX6, "bestDirection", "(LInsidePlaces$House;II)I"⟩
abbrev cX6_bestFirst : ByteArray := prog_8_method_5_code
def yX6_bestFirst : MethodName := ⟨RX6, "bestFirst", "(I)I"⟩
abbrev cX6_trace : ByteArray := prog_8_method_6_code
def yX6_trace : MethodName := ⟨RX6, "trace", "(LInsidePlaces$House;II)V"⟩
def RX7 : String := "InsidePlaces"
def TX7 : u_T := fun k => match k with
  | 0 => ("InsidePlaces", "house", "LInsidePlaces$House;", true)
  | 1 => ("InsidePlaces", "map", "LInsidePlaces$RadioMap;", true)
  | 2 => ("InsidePlaces", "chances", "LInsidePlaces$Chances;", true)
  | 3 => ("InsidePlaces", "finder", "LInsidePlaces$WayFinder;", true)
  | 4 => ("InsidePlaces", "crowd", "LInsidePlaces$Crowd;", true)
  | 5 => ("InsidePlaces", "sheets", "[LInsidePlaces$Sheet;", true)
  | 6 => ("InsidePlaces", "toldWay", "[I", true)
  | 7 => ("InsidePlaces", "toldRows", "I", false)
  | _ => ("InsidePlaces", "latestFinding", "I", false)
def tyX7 : Nat → FieldType := fun k => match k with
  | 0 => .object "InsidePlaces$House"
  | 1 => .object "InsidePlaces$RadioMap"
  | 2 => .object "InsidePlaces$Chances"
  | 3 => .object "InsidePlaces$WayFinder"
  | 4 => .object "InsidePlaces$Crowd"
  | 5 => .array (.object "InsidePlaces$Sheet")
  | 6 => .array .int
  | 7 => .int
  | _ => .int
abbrev wsX70 : List Cond := u_ws RX7 TX7 9
theorem nmX7 : ∀ a, a < 9 → ∀ b, b < 9 → a ≠ b → (TX7 a).2.1 ≠ (TX7 b).2.1 := by decide +kernel
theorem tyX7_ok : ∀ k, k < 9 → parseFieldDescriptor (TX7 k).2.2.1 = some (tyX7 k) := by decide +kernel
abbrev cX7_init : ByteArray := prog_1_method_1_code
def yX7_init : MethodName := ⟨RX7, "<init>", "()V"⟩
abbrev cX7_building : ByteArray := prog_1_method_2_code
def yX7_building : MethodName := ⟨RX7, "building", "(III)I"⟩
abbrev cX7_wall : ByteArray := prog_1_method_3_code
def yX7_wall : MethodName := ⟨RX7, "wall", "(IIZ)I"⟩
abbrev cX7_lift : ByteArray := prog_1_method_4_code
def yX7_lift : MethodName := ⟨RX7, "lift", "(IIZ)I"⟩
abbrev cX7_stay : ByteArray := prog_1_method_5_code
def yX7_stay : MethodName := ⟨RX7, "stay", "(I)I"⟩
abbrev cX7_step : ByteArray := prog_1_method_6_code
def yX7_step : MethodName := ⟨RX7, "step", "(II)I"⟩
abbrev cX7_far : ByteArray := prog_1_method_7_code
def yX7_far : MethodName := ⟨RX7, "far", "(II)I"⟩
abbrev cX7_dead : ByteArray := prog_1_method_8_code
def yX7_dead : MethodName := ⟨RX7, "dead", "(IZ)I"⟩
abbrev cX7_survey : ByteArray := prog_1_method_9_code
def yX7_survey : MethodName := ⟨RX7, "survey", "(III)I"⟩
abbrev cX7_weight : ByteArray := prog_1_method_10_code
def yX7_weight : MethodName := ⟨RX7, "weight", "(III)I"⟩
abbrev cX7_offset : ByteArray := prog_1_method_11_code
def yX7_offset : MethodName := ⟨RX7, "offset", "(III)I"⟩
abbrev cX7_alike : ByteArray := prog_1_method_12_code
def yX7_alike : MethodName := ⟨RX7, "alike", "()I"⟩
abbrev cX7_known : ByteArray := prog_1_method_13_code
def yX7_known : MethodName := ⟨RX7, "known", "(I)I"⟩
abbrev cX7_lead : ByteArray := prog_1_method_14_code
def yX7_lead : MethodName := ⟨RX7, "lead", "(I)I"⟩
abbrev cX7_hear : ByteArray := prog_1_method_15_code
def yX7_hear : MethodName := ⟨RX7, "hear", "(III)I"⟩
abbrev cX7_share : ByteArray := prog_1_method_16_code
def yX7_share : MethodName := ⟨RX7, "share", "(I)I"⟩
abbrev cX7_likeliest : ByteArray := prog_1_method_17_code
def yX7_likeliest : MethodName := ⟨RX7, "likeliest", "()I"⟩
abbrev cX7_within : ByteArray := prog_1_method_18_code
def yX7_within : MethodName := ⟨RX7, "within", "(IIIII)I"⟩
abbrev cX7_sure : ByteArray := prog_1_method_19_code
def yX7_sure : MethodName := ⟨RX7, "sure", "(I)I"⟩
abbrev cX7_best : ByteArray := prog_1_method_20_code
def yX7_best : MethodName := ⟨RX7, "best", "(I)I"⟩
abbrev cX7_way : ByteArray := prog_1_method_21_code
def yX7_way : MethodName := ⟨RX7, "way", "(I)I"⟩
abbrev cX7_learn : ByteArray := prog_1_method_22_code
def yX7_learn : MethodName := ⟨RX7, "learn", "(I)I"⟩
abbrev cX7_moved : ByteArray := prog_1_method_23_code
def yX7_moved : MethodName := ⟨RX7, "moved", "(I)I"⟩
abbrev cX7_put : ByteArray := prog_1_method_24_code
def yX7_put : MethodName := ⟨RX7, "put", "(II)I"⟩
abbrev cX7_least : ByteArray := prog_1_method_25_code
def yX7_least : MethodName := ⟨RX7, "least", "(I)I"⟩
abbrev cX7_give : ByteArray := prog_1_method_26_code
def yX7_give : MethodName := ⟨RX7, "give", "(IIIII)I"⟩
abbrev cX7_sheet : ByteArray := prog_1_method_27_code
def yX7_sheet : MethodName := ⟨RX7, "sheet", "(III)I"⟩
abbrev cX7_lose : ByteArray := prog_1_method_28_code
def yX7_lose : MethodName := ⟨RX7, "lose", "(I)I"⟩
abbrev cX7_lay : ByteArray := prog_1_method_29_code
def yX7_lay : MethodName := ⟨RX7, "lay", "(IIII)I"⟩
abbrev cX7_get : ByteArray := prog_1_method_30_code
def yX7_get : MethodName := ⟨RX7, "get", "(III)I"⟩
abbrev cX7_copy : ByteArray := prog_1_method_31_code
def yX7_copy : MethodName := ⟨RX7, "copy", "(IIIII)I"⟩
abbrev cX7_count : ByteArray := prog_1_method_32_code
def yX7_count : MethodName := ⟨RX7, "count", "(I)I"⟩
abbrev cX7_digest : ByteArray := prog_1_method_33_code
def yX7_digest : MethodName := ⟨RX7, "digest", "()J"⟩
abbrev cX7_layOut : ByteArray := prog_1_method_34_code
def yX7_layOut : MethodName := ⟨RX7, "layOut", "(III)V"⟩
abbrev cX7_isSender : ByteArray := prog_1_method_35_code
def yX7_isSender : MethodName := ⟨RX7, "isSender", "(I)Z"⟩
abbrev cX7_isSheet : ByteArray := prog_1_method_36_code
def yX7_isSheet : MethodName := ⟨RX7, "isSheet", "(I)Z"⟩
abbrev cX7_isForm : ByteArray := prog_1_method_37_code
def yX7_isForm : MethodName := ⟨RX7, "isForm", "(I)Z"⟩
abbrev cX7_finding : ByteArray := prog_1_method_38_code
def yX7_finding : MethodName := ⟨RX7, "finding", "(I)I"⟩
abbrev cX7_rowProblem : ByteArray := prog_1_method_39_code
def yX7_rowProblem : MethodName := ⟨RX7, "rowProblem", "(LInsidePlaces$Sheet;I)I"⟩
abbrev cX7_itemProblem : ByteArray := prog_1_method_40_code
def yX7_itemProblem : MethodName := ⟨RX7, "itemProblem", "(LInsidePlaces$Sheet;II)I"⟩
abbrev cX7_bestScore : ByteArray := prog_1_method_41_code
def yX7_bestScore : MethodName := ⟨RX7, "bestScore", "(LInsidePlaces$Sheet;)I"⟩
abbrev cX7_tellWay : ByteArray := prog_1_method_42_code
def yX7_tellWay : MethodName := ⟨RX7, "tellWay", "(I)V"⟩
abbrev cX7_isMoved : ByteArray := prog_1_method_43_code
def yX7_isMoved : MethodName := ⟨RX7, "isMoved", "(LInsidePlaces$Sheet;I)Z"⟩
def RX8 : String := "InsidePlacesModel"
def TX8 : u_T := fun k => match k with
  | 0 => ("InsidePlacesModel", "floors", "I", false)
  | 1 => ("InsidePlacesModel", "w", "I", false)
  | 2 => ("InsidePlacesModel", "h", "I", false)
  | 3 => ("InsidePlacesModel", "cells", "I", false)
  | 4 => ("InsidePlacesModel", "wallRight", "[Z", true)
  | 5 => ("InsidePlacesModel", "wallBelow", "[Z", true)
  | 6 => ("InsidePlacesModel", "isLift", "[Z", true)
  | 7 => ("InsidePlacesModel", "stay", "I", false)
  | 8 => ("InsidePlacesModel", "isDead", "[Z", true)
  | 9 => ("InsidePlacesModel", "map", "[I", true)
  | 10 => ("InsidePlacesModel", "shares", "[I", true)
  | 11 => ("InsidePlacesModel", "walkers", "[I", true)
  | 12 => ("InsidePlacesModel", "away", "[I", true)
  | 13 => ("InsidePlacesModel", "loads", "[J", true)
  | 14 => ("InsidePlacesModel", "rests", "[J", true)
  | 15 => ("InsidePlacesModel", "sorted", "[I", true)
  | 16 => ("InsidePlacesModel", "told", "I", false)
  | 17 => ("InsidePlacesModel", "toldWay", "[I", true)
  | 18 => ("InsidePlacesModel", "walk", "[I", true)
  | 19 => ("InsidePlacesModel", "scores", "[I", true)
  | 20 => ("InsidePlacesModel", "least", "I", false)
  | 21 => ("InsidePlacesModel", "areas", "I", false)
  | 22 => ("InsidePlacesModel", "given", "[I", true)
  | 23 => ("InsidePlacesModel", "isThere", "[Z", true)
  | 24 => ("InsidePlacesModel", "forms", "[I", true)
  | 25 => ("InsidePlacesModel", "sizes", "[I", true)
  | 26 => ("InsidePlacesModel", "items", "[I", true)
  | 27 => ("InsidePlacesModel", "shifted", "[I", true)
  | _ => ("InsidePlacesModel", "finding", "I", false)
def tyX8 : Nat → FieldType := fun k => match k with
  | 0 => .int
  | 1 => .int
  | 2 => .int
  | 3 => .int
  | 4 => .array .boolean
  | 5 => .array .boolean
  | 6 => .array .boolean
  | 7 => .int
  | 8 => .array .boolean
  | 9 => .array .int
  | 10 => .array .int
  | 11 => .array .int
  | 12 => .array .int
  | 13 => .array .long
  | 14 => .array .long
  | 15 => .array .int
  | 16 => .int
  | 17 => .array .int
  | 18 => .array .int
  | 19 => .array .int
  | 20 => .int
  | 21 => .int
  | 22 => .array .int
  | 23 => .array .boolean
  | 24 => .array .int
  | 25 => .array .int
  | 26 => .array .int
  | 27 => .array .int
  | _ => .int
abbrev wsX80 : List Cond := u_ws RX8 TX8 29
theorem nmX8 : ∀ a, a < 29 → ∀ b, b < 29 → a ≠ b → (TX8 a).2.1 ≠ (TX8 b).2.1 := by decide +kernel
theorem tyX8_ok : ∀ k, k < 29 → parseFieldDescriptor (TX8 k).2.2.1 = some (tyX8 k) := by decide +kernel
abbrev cX8_init : ByteArray := prog_10_method_1_code
def yX8_init : MethodName := ⟨RX8, "<init>", "()V"⟩
abbrev cX8_in : ByteArray := prog_10_method_3_code
def yX8_in : MethodName := ⟨RX8, "in", "(III)Z"⟩
abbrev cX8_isCell : ByteArray := prog_10_method_4_code
def yX8_isCell : MethodName := ⟨RX8, "isCell", "(I)Z"⟩
abbrev cX8_building : ByteArray := prog_10_method_5_code
def yX8_building : MethodName := ⟨RX8, "building", "(III)I"⟩
abbrev cX8_floorOf : ByteArray := prog_10_method_6_code
def yX8_floorOf : MethodName := ⟨RX8, "floorOf", "(I)I"⟩
abbrev cX8_xOf : ByteArray := prog_10_method_7_code
def yX8_xOf : MethodName := ⟨RX8, "xOf", "(I)I"⟩
abbrev cX8_yOf : ByteArray := prog_10_method_8_code
def yX8_yOf : MethodName := ⟨RX8, "yOf", "(I)I"⟩
abbrev cX8_isRightOf : ByteArray := prog_10_method_9_code
def yX8_isRightOf : MethodName := ⟨RX8, "isRightOf", "(II)Z"⟩
abbrev cX8_isBelow : ByteArray := prog_10_method_10_code
def yX8_isBelow : MethodName := ⟨RX8, "isBelow", "(II)Z"⟩
abbrev cX8_wall : ByteArray := prog_10_method_11_code
def yX8_wall : MethodName := ⟨RX8, "wall", "(IIZ)I"⟩
abbrev cX8_lift : ByteArray := prog_10_method_12_code
def yX8_lift : MethodName := ⟨RX8, "lift", "(IIZ)I"⟩
abbrev cX8_stay : ByteArray := prog_10_method_13_code
def yX8_stay : MethodName := ⟨RX8, "stay", "(I)I"⟩
abbrev cX8_likely : ByteArray := prog_10_method_14_code
def yX8_likely : MethodName := ⟨RX8, "likely", "(II)I"⟩
abbrev cX8_step : ByteArray := prog_10_method_15_code
def yX8_step : MethodName := ⟨RX8, "step", "(II)I"⟩
abbrev cX8_far : ByteArray := prog_10_method_16_code
def yX8_far : MethodName := ⟨RX8, "far", "(II)I"⟩
abbrev cX8_dead : ByteArray := prog_10_method_17_code
def yX8_dead : MethodName := ⟨RX8, "dead", "(IZ)I"⟩
abbrev cX8_rowsOf : ByteArray := prog_10_method_18_code
def yX8_rowsOf : MethodName := ⟨RX8, "rowsOf", "(I)I"⟩
abbrev cX8_heard : ByteArray := prog_10_method_19_code
def yX8_heard : MethodName := ⟨RX8, "heard", "(IIII)I"⟩
abbrev cX8_placeIn : ByteArray := prog_10_method_20_code
def yX8_placeIn : MethodName := ⟨RX8, "placeIn", "(III)I"⟩
abbrev cX8_weightOf : ByteArray := prog_10_method_21_code
def yX8_weightOf : MethodName := ⟨RX8, "weightOf", "(III)I"⟩
abbrev cX8_surveys : ByteArray := prog_10_method_22_code
def yX8_surveys : MethodName := ⟨RX8, "surveys", "(III)I"⟩
abbrev cX8_lacksRow : ByteArray := prog_10_method_23_code
def yX8_lacksRow : MethodName := ⟨RX8, "lacksRow", "(II)I"⟩
abbrev cX8_survey : ByteArray := prog_10_method_24_code
def yX8_survey : MethodName := ⟨RX8, "survey", "(III)I"⟩
abbrev cX8_weight : ByteArray := prog_10_method_25_code
def yX8_weight : MethodName := ⟨RX8, "weight", "(III)I"⟩
abbrev cX8_weights : ByteArray := prog_10_method_26_code
def yX8_weights : MethodName := ⟨RX8, "weights", "(IIIII)I"⟩
abbrev cX8_offset : ByteArray := prog_10_method_27_code
def yX8_offset : MethodName := ⟨RX8, "offset", "(III)I"⟩
abbrev cX8_whole : ByteArray := prog_10_method_28_code
def yX8_whole : MethodName := ⟨RX8, "whole", "()Z"⟩
abbrev cX8_alike : ByteArray := prog_10_method_29_code
def yX8_alike : MethodName := ⟨RX8, "alike", "()I"⟩
abbrev cX8_known : ByteArray := prog_10_method_30_code
def yX8_known : MethodName := ⟨RX8, "known", "(I)I"⟩
abbrev cX8_withShare : ByteArray := prog_10_method_31_code
def yX8_withShare : MethodName := ⟨RX8, "withShare", "()I"⟩
abbrev cX8_lead : ByteArray := prog_10_method_32_code
def yX8_lead : MethodName := ⟨RX8, "lead", "(I)I"⟩
abbrev cX8_hear : ByteArray := prog_10_method_33_code
def yX8_hear : MethodName := ⟨RX8, "hear", "(III)I"⟩
abbrev cX8_share : ByteArray := prog_10_method_34_code
def yX8_share : MethodName := ⟨RX8, "share", "(I)I"⟩
abbrev cX8_likeliest : ByteArray := prog_10_method_35_code
def yX8_likeliest : MethodName := ⟨RX8, "likeliest", "()I"⟩
abbrev cX8_isArea : ByteArray := prog_10_method_36_code
def yX8_isArea : MethodName := ⟨RX8, "isArea", "(IIIII)Z"⟩
abbrev cX8_isWithin : ByteArray := prog_10_method_37_code
def yX8_isWithin : MethodName := ⟨RX8, "isWithin", "(IIIIII)Z"⟩
abbrev cX8_within : ByteArray := prog_10_method_38_code
def yX8_within : MethodName := ⟨RX8, "within", "(IIIII)I"⟩
abbrev cX8_sure : ByteArray := prog_10_method_39_code
def yX8_sure : MethodName := ⟨RX8, "sure", "(I)I"⟩
abbrev cX8_walks : ByteArray := prog_10_method_40_code
def yX8_walks : MethodName := ⟨RX8, "walks", "(II)I"⟩
abbrev cX8_tells : ByteArray := prog_10_method_41_code
def yX8_tells : MethodName := ⟨RX8, "tells", "(I)V"⟩
abbrev cX8_best : ByteArray := prog_10_method_42_code
def yX8_best : MethodName := ⟨RX8, "best", "(I)I"⟩
abbrev cX8_way : ByteArray := prog_10_method_43_code
def yX8_way : MethodName := ⟨RX8, "way", "(I)I"⟩
abbrev cX8_learn : ByteArray := prog_10_method_44_code
def yX8_learn : MethodName := ⟨RX8, "learn", "(I)I"⟩
abbrev cX8_moved : ByteArray := prog_10_method_45_code
def yX8_moved : MethodName := ⟨RX8, "moved", "(I)I"⟩
abbrev cX8_put : ByteArray := prog_10_method_46_code
def yX8_put : MethodName := ⟨RX8, "put", "(II)I"⟩
abbrev cX8_least : ByteArray := prog_10_method_47_code
def yX8_least : MethodName := ⟨RX8, "least", "(I)I"⟩
abbrev cX8_parts : ByteArray := prog_10_method_48_code
def yX8_parts : MethodName := ⟨RX8, "parts", "(IIIIII)I"⟩
abbrev cX8_give : ByteArray := prog_10_method_49_code
def yX8_give : MethodName := ⟨RX8, "give", "(IIIII)I"⟩
abbrev cX8_meets : ByteArray := prog_10_method_50_code
def yX8_meets : MethodName := ⟨RX8, "meets", "(I)I"⟩
abbrev cX8_isSheet : ByteArray := prog_10_method_51_code
def yX8_isSheet : MethodName := ⟨RX8, "isSheet", "(I)Z"⟩
abbrev cX8_sheet : ByteArray := prog_10_method_52_code
def yX8_sheet : MethodName := ⟨RX8, "sheet", "(III)I"⟩
abbrev cX8_lose : ByteArray := prog_10_method_53_code
def yX8_lose : MethodName := ⟨RX8, "lose", "(I)I"⟩
abbrev cX8_lacks : ByteArray := prog_10_method_54_code
def yX8_lacks : MethodName := ⟨RX8, "lacks", "(III)I"⟩
abbrev cX8_lay : ByteArray := prog_10_method_55_code
def yX8_lay : MethodName := ⟨RX8, "lay", "(IIII)I"⟩
abbrev cX8_get : ByteArray := prog_10_method_56_code
def yX8_get : MethodName := ⟨RX8, "get", "(III)I"⟩
abbrev cX8_copy : ByteArray := prog_10_method_57_code
def yX8_copy : MethodName := ⟨RX8, "copy", "(IIIII)I"⟩
abbrev cX8_count : ByteArray := prog_10_method_58_code
def yX8_count : MethodName := ⟨RX8, "count", "(I)I"⟩
abbrev cX8_digest : ByteArray := prog_10_method_59_code
def yX8_digest : MethodName := ⟨RX8, "digest", "()J"⟩
def RJ9 : String := "java/lang/Math"
def TJ9 : u_T := fun k => match k with
  | _ => ("", "", "", false)
def tyJ9 : Nat → FieldType := fun k => match k with
  | _ => .int
abbrev wsJ90 : List Cond := u_ws RJ9 TJ9 0
theorem nmJ9 : ∀ a, a < 0 → ∀ b, b < 0 → a ≠ b → (TJ9 a).2.1 ≠ (TJ9 b).2.1 := by decide +kernel
theorem tyJ9_ok : ∀ k, k < 0 → parseFieldDescriptor (TJ9 k).2.2.1 = some (tyJ9 k) := by decide +kernel
abbrev cJ9_abs_0f7a4 : ByteArray := prog_11_method_59_code
def yJ9_abs_0f7a4 : MethodName := ⟨RJ9, "abs", "(I)I"⟩
abbrev cJ9_max_7cf53 : ByteArray := prog_11_method_65_code
def yJ9_max_7cf53 : MethodName := ⟨RJ9, "max", "(II)I"⟩
abbrev cJ9_min_7cf53 : ByteArray := prog_11_method_69_code
def yJ9_min_7cf53 : MethodName := ⟨RJ9, "min", "(II)I"⟩
def RJ10 : String := "java/lang/System"
def TJ10 : u_T := fun k => match k with
  | _ => ("", "", "", false)
def tyJ10 : Nat → FieldType := fun k => match k with
  | _ => .int
abbrev wsJ100 : List Cond := u_ws RJ10 TJ10 0
theorem nmJ10 : ∀ a, a < 0 → ∀ b, b < 0 → a ≠ b → (TJ10 a).2.1 ≠ (TJ10 b).2.1 := by decide +kernel
theorem tyJ10_ok : ∀ k, k < 0 → parseFieldDescriptor (TJ10 k).2.2.1 = some (tyJ10 k) := by decide +kernel
def RJ7 : String := "java/util/Arrays"
def TJ7 : u_T := fun k => match k with
  | _ => ("", "", "", false)
def tyJ7 : Nat → FieldType := fun k => match k with
  | _ => .int
abbrev wsJ70 : List Cond := u_ws RJ7 TJ7 0
theorem nmJ7 : ∀ a, a < 0 → ∀ b, b < 0 → a ≠ b → (TJ7 a).2.1 ≠ (TJ7 b).2.1 := by decide +kernel
theorem tyJ7_ok : ∀ k, k < 0 → parseFieldDescriptor (TJ7 k).2.2.1 = some (tyJ7 k) := by decide +kernel
abbrev cJ7_fill_d0a16 : ByteArray := prog_13_method_101_code
def yJ7_fill_d0a16 : MethodName := ⟨RJ7, "fill", "([JJ)V"⟩
abbrev cJ7_fill_53178 : ByteArray := prog_13_method_103_code
def yJ7_fill_53178 : MethodName := ⟨RJ7, "fill", "([II)V"⟩
def RL : String := "InsidePlacesLaw"
abbrev cL_law : ByteArray := code
def yL_law : MethodName := ⟨RL, "law", "([I)Z"⟩
def wsL_law_r1 : List Cond := [Cond.classLink RL 7 RX7, Cond.instantiable RX7 9, Cond.initialized RX7, Cond.classLink RL 10 RX8, Cond.instantiable RX8 29, Cond.initialized RX8, Cond.methodLink RL 9 yX7_init, Cond.instanceMethod yX7_init, Cond.code yX7_init cX7_init 2 none, Cond.methodLink RX7 1 objectInit, Cond.instanceMethod objectInit, Cond.code objectInit ⟨#[0xb1]⟩ 1 none, Cond.classLink RX7 7 RX3, Cond.instantiable RX3 12, Cond.initialized RX3, Cond.fieldLink RX7 10 "InsidePlaces" "house" "LInsidePlaces$House;", Cond.classLink RX7 16 RX4, Cond.instantiable RX4 2, Cond.initialized RX4, Cond.fieldLink RX7 19 "InsidePlaces" "map" "LInsidePlaces$RadioMap;", Cond.classLink RX7 23 RX1, Cond.instantiable RX1 4, Cond.initialized RX1, Cond.fieldLink RX7 26 "InsidePlaces" "chances" "LInsidePlaces$Chances;"]
def wsL_law_r2 : List Cond := [Cond.classLink RX7 30 RX6, Cond.instantiable RX6 2, Cond.initialized RX6, Cond.fieldLink RX7 33 "InsidePlaces" "finder" "LInsidePlaces$WayFinder;", Cond.classLink RX7 37 RX2, Cond.instantiable RX2 4, Cond.initialized RX2, Cond.fieldLink RX7 40 "InsidePlaces" "crowd" "LInsidePlaces$Crowd;", Cond.classLink RX7 44 RX5, Cond.fieldLink RX7 46 "InsidePlaces" "sheets" "[LInsidePlaces$Sheet;", Cond.instantiable RX5 4, Cond.initialized RX5, Cond.arrayClass .int, Cond.fieldLink RX7 51 "InsidePlaces" "toldWay" "[I", Cond.fieldLink RX7 55 "InsidePlaces" "toldRows" "I", Cond.fieldLink RX7 59 "InsidePlaces" "latestFinding" "I", Cond.instanceMethod yX3_init, Cond.code yX3_init cX3_init 1 none, Cond.methodLink RX3 3 objectInit, Cond.fieldLink RX3 9 "InsidePlaces$House" "floors" "I", Cond.fieldLink RX3 15 "InsidePlaces$House" "wide" "I", Cond.fieldLink RX3 18 "InsidePlaces$House" "high" "I", Cond.fieldLink RX3 21 "InsidePlaces$House" "walls" "I", Cond.fieldLink RX3 24 "InsidePlaces$House" "lifts" "I"]
def wsL_law_r3 : List Cond := [Cond.fieldLink RX3 27 "InsidePlaces$House" "staying" "I", Cond.arrayClass .boolean, Cond.fieldLink RX3 30 "InsidePlaces$House" "wallRight" "[Z", Cond.fieldLink RX3 34 "InsidePlaces$House" "wallBelow" "[Z", Cond.fieldLink RX3 37 "InsidePlaces$House" "liftAt" "[Z", Cond.fieldLink RX3 40 "InsidePlaces$House" "targets" "[I", Cond.fieldLink RX3 44 "InsidePlaces$House" "distance" "[I", Cond.fieldLink RX3 47 "InsidePlaces$House" "queue" "[I", Cond.instanceMethod yX4_init, Cond.code yX4_init cX4_init 1 none, Cond.methodLink RX4 3 objectInit, Cond.fieldLink RX4 9 "InsidePlaces$RadioMap" "deadBits" "I", Cond.fieldLink RX4 15 "InsidePlaces$RadioMap" "counts" "[I", Cond.instanceMethod yX1_init, Cond.code yX1_init cX1_init 1 none, Cond.methodLink RX1 3 objectInit, Cond.fieldLink RX1 9 "InsidePlaces$Chances" "cells" "I", Cond.fieldLink RX1 15 "InsidePlaces$Chances" "shares" "[I", Cond.arrayClass .long, Cond.fieldLink RX1 19 "InsidePlaces$Chances" "weights" "[J", Cond.fieldLink RX1 23 "InsidePlaces$Chances" "rests" "[J", Cond.instanceMethod yX6_init, Cond.code yX6_init cX6_init 1 none, Cond.methodLink RX6 3 objectInit]
def wsL_law_r4 : List Cond := [Cond.fieldLink RX6 9 "InsidePlaces$WayFinder" "way" "[I", Cond.fieldLink RX6 15 "InsidePlaces$WayFinder" "onward" "[I", Cond.instanceMethod yX2_init, Cond.code yX2_init cX2_init 1 none, Cond.methodLink RX2 3 objectInit, Cond.fieldLink RX2 9 "InsidePlaces$Crowd" "given" "I", Cond.fieldLink RX2 15 "InsidePlaces$Crowd" "fewest" "I", Cond.fieldLink RX2 18 "InsidePlaces$Crowd" "cellOf" "[I", Cond.classLink RX2 22 RX0, Cond.fieldLink RX2 24 "InsidePlaces$Crowd" "areas" "[LInsidePlaces$Area;", Cond.instanceMethod yX5_init, Cond.code yX5_init cX5_init 1 none, Cond.methodLink RX5 3 objectInit, Cond.fieldLink RX5 9 "InsidePlaces$Sheet" "lost" "Z", Cond.fieldLink RX5 15 "InsidePlaces$Sheet" "form" "I", Cond.fieldLink RX5 19 "InsidePlaces$Sheet" "size" "I", Cond.fieldLink RX5 22 "InsidePlaces$Sheet" "items" "[I", Cond.methodLink RX7 62 yX7_layOut, Cond.instanceMethod yX7_layOut, Cond.selects RX7 yX7_layOut yX7_layOut, Cond.code yX7_layOut cX7_layOut 4 none, Cond.methodLink RX7 278 yX3_raise, Cond.instanceMethod yX3_raise, Cond.selects RX3 yX3_raise yX3_raise]
def wsL_law_r5 : List Cond := [Cond.code yX3_raise cX3_raise 5 none, Cond.methodLink RX3 50 yX3_chartSteps, Cond.instanceMethod yX3_chartSteps, Cond.selects RX3 yX3_chartSteps yX3_chartSteps, Cond.code yX3_chartSteps cX3_chartSteps 2 none, Cond.methodLink RX3 53 yX3_cells, Cond.instanceMethod yX3_cells, Cond.selects RX3 yX3_cells yX3_cells, Cond.code yX3_cells cX3_cells 1 (some .int), Cond.methodLink RX3 76 yX3_chartStepsFrom, Cond.instanceMethod yX3_chartStepsFrom, Cond.selects RX3 yX3_chartStepsFrom yX3_chartStepsFrom, Cond.code yX3_chartStepsFrom cX3_chartStepsFrom 7 none, Cond.methodLink RX3 61 yX3_xOf, Cond.instanceMethod yX3_xOf, Cond.selects RX3 yX3_xOf yX3_xOf, Cond.code yX3_xOf cX3_xOf 2 (some .int), Cond.methodLink RX3 70 yX3_yOf, Cond.instanceMethod yX3_yOf, Cond.selects RX3 yX3_yOf yX3_yOf, Cond.code yX3_yOf cX3_yOf 2 (some .int), Cond.methodLink RX3 73 yX3_floorOf, Cond.instanceMethod yX3_floorOf, Cond.selects RX3 yX3_floorOf yX3_floorOf]
def wsL_law_r6 : List Cond := [Cond.code yX3_floorOf cX3_floorOf 2 (some .int), Cond.methodLink RX7 281 yX4_clear, Cond.instanceMethod yX4_clear, Cond.selects RX4 yX4_clear yX4_clear, Cond.code yX4_clear cX4_clear 1 none, Cond.methodLink RX4 19 yJ7_fill_53178, Cond.static yJ7_fill_53178, Cond.initialized RJ7, Cond.code yJ7_fill_53178 cJ7_fill_53178 4 none, Cond.methodLink RX7 66 yX3_cells, Cond.methodLink RX7 135 yX1_makeAlike, Cond.instanceMethod yX1_makeAlike, Cond.selects RX1 yX1_makeAlike yX1_makeAlike, Cond.code yX1_makeAlike cX1_makeAlike 2 none, Cond.methodLink RX1 26 yJ7_fill_d0a16, Cond.static yJ7_fill_d0a16, Cond.code yJ7_fill_d0a16 cJ7_fill_d0a16 5 none, Cond.methodLink RX1 32 yX1_makeWhole, Cond.instanceMethod yX1_makeWhole, Cond.selects RX1 yX1_makeWhole yX1_makeWhole, Cond.code yX1_makeWhole cX1_makeWhole 7 (some .boolean), Cond.constant RX1 39 (1000000), Cond.constantLong RX1 40 (1000000), Cond.methodLink RX1 42 yX1_handOut]
def wsL_law_r7 : List Cond := [Cond.instanceMethod yX1_handOut, Cond.selects RX1 yX1_handOut yX1_handOut, Cond.code yX1_handOut cX1_handOut 5 none, Cond.methodLink RX7 284 yX2_scatter, Cond.instanceMethod yX2_scatter, Cond.selects RX2 yX2_scatter yX2_scatter, Cond.code yX2_scatter cX2_scatter 1 none, Cond.methodLink RX2 28 yJ7_fill_53178, Cond.methodLink RL 12 yX8_init, Cond.instanceMethod yX8_init, Cond.code yX8_init cX8_init 2 none, Cond.methodLink RX8 1 objectInit, Cond.fieldLink RX8 7 "InsidePlacesModel" "wallRight" "[Z", Cond.fieldLink RX8 13 "InsidePlacesModel" "wallBelow" "[Z", Cond.fieldLink RX8 16 "InsidePlacesModel" "isLift" "[Z", Cond.fieldLink RX8 19 "InsidePlacesModel" "stay" "I", Cond.fieldLink RX8 23 "InsidePlacesModel" "isDead" "[Z", Cond.fieldLink RX8 26 "InsidePlacesModel" "map" "[I", Cond.fieldLink RX8 30 "InsidePlacesModel" "shares" "[I", Cond.fieldLink RX8 33 "InsidePlacesModel" "walkers" "[I", Cond.fieldLink RX8 36 "InsidePlacesModel" "away" "[I", Cond.fieldLink RX8 39 "InsidePlacesModel" "loads" "[J", Cond.fieldLink RX8 43 "InsidePlacesModel" "rests" "[J", Cond.fieldLink RX8 46 "InsidePlacesModel" "sorted" "[I"]
def wsL_law_r8 : List Cond := [Cond.fieldLink RX8 49 "InsidePlacesModel" "toldWay" "[I", Cond.fieldLink RX8 52 "InsidePlacesModel" "walk" "[I", Cond.fieldLink RX8 55 "InsidePlacesModel" "scores" "[I", Cond.fieldLink RX8 58 "InsidePlacesModel" "least" "I", Cond.fieldLink RX8 61 "InsidePlacesModel" "given" "[I", Cond.fieldLink RX8 64 "InsidePlacesModel" "isThere" "[Z", Cond.fieldLink RX8 67 "InsidePlacesModel" "forms" "[I", Cond.fieldLink RX8 70 "InsidePlacesModel" "sizes" "[I", Cond.fieldLink RX8 73 "InsidePlacesModel" "items" "[I", Cond.fieldLink RX8 76 "InsidePlacesModel" "shifted" "[I", Cond.methodLink RX8 79 yX8_building, Cond.instanceMethod yX8_building, Cond.selects RX8 yX8_building yX8_building, Cond.code yX8_building cX8_building 5 (some .int), Cond.fieldLink RX8 90 "InsidePlacesModel" "floors" "I", Cond.fieldLink RX8 93 "InsidePlacesModel" "w" "I", Cond.fieldLink RX8 96 "InsidePlacesModel" "h" "I", Cond.fieldLink RX8 83 "InsidePlacesModel" "cells" "I", Cond.fieldLink RX8 99 "InsidePlacesModel" "areas" "I", Cond.methodLink RX8 86 yX8_in, Cond.static yX8_in, Cond.code yX8_in cX8_in 3 (some .boolean), Cond.methodLink RX8 102 yX8_alike, Cond.instanceMethod yX8_alike]
def wsL_law_r9 : List Cond := [Cond.selects RX8 yX8_alike yX8_alike, Cond.code yX8_alike cX8_alike 2 (some .int), Cond.methodLink RX8 165 yX8_whole, Cond.instanceMethod yX8_whole, Cond.selects RX8 yX8_whole yX8_whole, Cond.code yX8_whole cX8_whole 6 (some .boolean), Cond.constant RX8 160 (1000000), Cond.constantLong RX8 161 (1000000), Cond.constantLong RX8 163 (-1), Cond.methodLink RL 13 yX7_building, Cond.instanceMethod yX7_building, Cond.selects RX7 yX7_building yX7_building, Cond.code yX7_building cX7_building 4 (some .int), Cond.methodLink RL 17 yX8_building, Cond.methodLink RL 18 yX7_wall, Cond.instanceMethod yX7_wall, Cond.selects RX7 yX7_wall yX7_wall, Cond.code yX7_wall cX7_wall 4 (some .int), Cond.methodLink RX7 78 Lib.Math.min.name, Cond.static Lib.Math.min.name, Cond.initialized "java/lang/Math", Cond.code Lib.Math.min.name Lib.Math.min.code 2 (some .int), Cond.methodLink RX7 84 Lib.Math.max.name, Cond.static Lib.Math.max.name]
def wsL_law_r10 : List Cond := [Cond.code Lib.Math.max.name Lib.Math.max.code 2 (some .int), Cond.methodLink RX7 70 yX3_hasCell, Cond.instanceMethod yX3_hasCell, Cond.selects RX3 yX3_hasCell yX3_hasCell, Cond.code yX3_hasCell cX3_hasCell 2 (some .boolean), Cond.methodLink RX7 74 yX3_areBeside, Cond.instanceMethod yX3_areBeside, Cond.selects RX3 yX3_areBeside yX3_areBeside, Cond.code yX3_areBeside cX3_areBeside 4 (some .boolean), Cond.methodLink RX3 65 Lib.Math.abs.name, Cond.static Lib.Math.abs.name, Cond.code Lib.Math.abs.name Lib.Math.abs.code 1 (some .int), Cond.methodLink RX7 87 yX3_putWall, Cond.instanceMethod yX3_putWall, Cond.selects RX3 yX3_putWall yX3_putWall, Cond.code yX3_putWall cX3_putWall 5 (some .int), Cond.methodLink RL 22 yX8_wall, Cond.instanceMethod yX8_wall, Cond.selects RX8 yX8_wall yX8_wall, Cond.code yX8_wall cX8_wall 7 (some .int), Cond.methodLink RX8 116 yX8_isCell, Cond.instanceMethod yX8_isCell, Cond.selects RX8 yX8_isCell yX8_isCell, Cond.code yX8_isCell cX8_isCell 2 (some .boolean)]
def wsL_law_r11 : List Cond := [Cond.methodLink RX8 120 yX8_isRightOf, Cond.instanceMethod yX8_isRightOf, Cond.selects RX8 yX8_isRightOf yX8_isRightOf, Cond.code yX8_isRightOf cX8_isRightOf 3 (some .boolean), Cond.methodLink RX8 106 yX8_floorOf, Cond.instanceMethod yX8_floorOf, Cond.selects RX8 yX8_floorOf yX8_floorOf, Cond.code yX8_floorOf cX8_floorOf 2 (some .int), Cond.methodLink RX8 110 yX8_yOf, Cond.instanceMethod yX8_yOf, Cond.selects RX8 yX8_yOf yX8_yOf, Cond.code yX8_yOf cX8_yOf 2 (some .int), Cond.methodLink RX8 113 yX8_xOf, Cond.instanceMethod yX8_xOf, Cond.selects RX8 yX8_xOf yX8_xOf, Cond.code yX8_xOf cX8_xOf 2 (some .int), Cond.methodLink RX8 124 yX8_isBelow, Cond.instanceMethod yX8_isBelow, Cond.selects RX8 yX8_isBelow yX8_isBelow, Cond.code yX8_isBelow cX8_isBelow 3 (some .boolean), Cond.methodLink RL 23 yX7_lift, Cond.instanceMethod yX7_lift, Cond.selects RX7 yX7_lift yX7_lift, Cond.code yX7_lift cX7_lift 4 (some .int)]
def wsL_law_r12 : List Cond := [Cond.methodLink RX7 91 yX3_hasPlace, Cond.instanceMethod yX3_hasPlace, Cond.selects RX3 yX3_hasPlace yX3_hasPlace, Cond.code yX3_hasPlace cX3_hasPlace 3 (some .boolean), Cond.methodLink RX7 94 yX3_putLift, Cond.instanceMethod yX3_putLift, Cond.selects RX3 yX3_putLift yX3_putLift, Cond.code yX3_putLift cX3_putLift 5 (some .int), Cond.methodLink RL 26 yX8_lift, Cond.instanceMethod yX8_lift, Cond.selects RX8 yX8_lift yX8_lift, Cond.code yX8_lift cX8_lift 5 (some .int), Cond.methodLink RL 27 yX7_stay, Cond.instanceMethod yX7_stay, Cond.selects RX7 yX7_stay yX7_stay, Cond.code yX7_stay cX7_stay 2 (some .int), Cond.methodLink RX7 97 yX3_putStay, Cond.instanceMethod yX3_putStay, Cond.selects RX3 yX3_putStay yX3_putStay, Cond.code yX3_putStay cX3_putStay 3 (some .int), Cond.methodLink RL 31 yX8_stay, Cond.instanceMethod yX8_stay, Cond.selects RX8 yX8_stay yX8_stay, Cond.code yX8_stay cX8_stay 3 (some .int)]
def wsL_law_r13 : List Cond := [Cond.methodLink RL 32 yX7_step, Cond.instanceMethod yX7_step, Cond.selects RX7 yX7_step yX7_step, Cond.code yX7_step cX7_step 3 (some .int), Cond.methodLink RX7 101 yX3_likelyBetween, Cond.instanceMethod yX3_likelyBetween, Cond.selects RX3 yX3_likelyBetween yX3_likelyBetween, Cond.code yX3_likelyBetween cX3_likelyBetween 4 (some .int), Cond.methodLink RX3 80 yX3_targetOf, Cond.instanceMethod yX3_targetOf, Cond.selects RX3 yX3_targetOf yX3_targetOf, Cond.code yX3_targetOf cX3_targetOf 3 (some .int), Cond.methodLink RX3 84 yX3_likelyTo, Cond.instanceMethod yX3_likelyTo, Cond.selects RX3 yX3_likelyTo yX3_likelyTo, Cond.code yX3_likelyTo cX3_likelyTo 2 (some .int), Cond.methodLink RL 36 yX8_step, Cond.instanceMethod yX8_step, Cond.selects RX8 yX8_step yX8_step, Cond.code yX8_step cX8_step 3 (some .int), Cond.methodLink RX8 127 yX8_likely, Cond.instanceMethod yX8_likely, Cond.selects RX8 yX8_likely yX8_likely, Cond.code yX8_likely cX8_likely 5 (some .int)]
def wsL_law_r14 : List Cond := [Cond.methodLink RL 37 yX7_far, Cond.instanceMethod yX7_far, Cond.selects RX7 yX7_far yX7_far, Cond.code yX7_far cX7_far 3 (some .int), Cond.methodLink RX7 104 yX3_fewestSteps, Cond.instanceMethod yX3_fewestSteps, Cond.selects RX3 yX3_fewestSteps yX3_fewestSteps, Cond.code yX3_fewestSteps cX3_fewestSteps 8 (some .int), Cond.methodLink RX3 87 yJ7_fill_53178, Cond.methodLink RX3 93 yX3_hasCell, Cond.methodLink RL 40 yX8_far, Cond.instanceMethod yX8_far, Cond.selects RX8 yX8_far yX8_far, Cond.code yX8_far cX8_far 6 (some .int), Cond.methodLink RL 41 yX7_dead, Cond.instanceMethod yX7_dead, Cond.selects RX7 yX7_dead yX7_dead, Cond.code yX7_dead cX7_dead 3 (some .int), Cond.methodLink RX7 107 yX7_isSender, Cond.static yX7_isSender, Cond.code yX7_isSender cX7_isSender 1 (some .boolean), Cond.methodLink RX7 110 yX4_putDead, Cond.instanceMethod yX4_putDead, Cond.selects RX4 yX4_putDead yX4_putDead]
def wsL_law_r15 : List Cond := [Cond.code yX4_putDead cX4_putDead 3 none, Cond.methodLink RL 45 yX8_dead, Cond.instanceMethod yX8_dead, Cond.selects RX8 yX8_dead yX8_dead, Cond.code yX8_dead cX8_dead 3 (some .int), Cond.methodLink RL 46 yX7_survey, Cond.instanceMethod yX7_survey, Cond.selects RX7 yX7_survey yX7_survey, Cond.code yX7_survey cX7_survey 5 (some .int), Cond.methodLink RX7 114 yX7_isSheet, Cond.static yX7_isSheet, Cond.code yX7_isSheet cX7_isSheet 1 (some .boolean), Cond.methodLink RX7 117 yX7_rowProblem, Cond.static yX7_rowProblem, Cond.code yX7_rowProblem cX7_rowProblem 2 (some .int), Cond.fieldLink RX7 209 "InsidePlaces$Sheet" "lost" "Z", Cond.methodLink RX7 174 yX5_rows, Cond.instanceMethod yX5_rows, Cond.selects RX5 yX5_rows yX5_rows, Cond.code yX5_rows cX5_rows 1 (some .int), Cond.methodLink RX7 121 yX7_finding, Cond.instanceMethod yX7_finding, Cond.selects RX7 yX7_finding yX7_finding, Cond.code yX7_finding cX7_finding 2 (some .int)]
def wsL_law_r16 : List Cond := [Cond.methodLink RX7 124 yX4_addRow, Cond.instanceMethod yX4_addRow, Cond.selects RX4 yX4_addRow yX4_addRow, Cond.code yX4_addRow cX4_addRow 8 (some .int), Cond.methodLink RX4 43 Lib.Math.min.name, Cond.methodLink RX4 38 yX5_heardOf, Cond.instanceMethod yX5_heardOf, Cond.selects RX5 yX5_heardOf yX5_heardOf, Cond.code yX5_heardOf cX5_heardOf 4 (some .int), Cond.methodLink RX4 25 yX4_slotOf, Cond.static yX4_slotOf, Cond.code yX4_slotOf cX4_slotOf 3 (some .int), Cond.methodLink RL 49 yX8_survey, Cond.instanceMethod yX8_survey, Cond.selects RX8 yX8_survey yX8_survey, Cond.code yX8_survey cX8_survey 5 (some .int), Cond.methodLink RX8 141 yX8_isSheet, Cond.static yX8_isSheet, Cond.code yX8_isSheet cX8_isSheet 1 (some .boolean), Cond.methodLink RX8 144 yX8_lacksRow, Cond.instanceMethod yX8_lacksRow, Cond.selects RX8 yX8_lacksRow yX8_lacksRow, Cond.code yX8_lacksRow cX8_lacksRow 3 (some .int), Cond.methodLink RX8 138 yX8_rowsOf]
def wsL_law_r17 : List Cond := [Cond.instanceMethod yX8_rowsOf, Cond.selects RX8 yX8_rowsOf yX8_rowsOf, Cond.code yX8_rowsOf cX8_rowsOf 2 (some .int), Cond.methodLink RX8 147 yX8_meets, Cond.instanceMethod yX8_meets, Cond.selects RX8 yX8_meets yX8_meets, Cond.code yX8_meets cX8_meets 2 (some .int), Cond.fieldLink RX8 196 "InsidePlacesModel" "finding" "I", Cond.methodLink RX8 150 yX8_surveys, Cond.instanceMethod yX8_surveys, Cond.selects RX8 yX8_surveys yX8_surveys, Cond.code yX8_surveys cX8_surveys 8 (some .int), Cond.methodLink RX8 134 yX8_heard, Cond.instanceMethod yX8_heard, Cond.selects RX8 yX8_heard yX8_heard, Cond.code yX8_heard cX8_heard 7 (some .int), Cond.methodLink RX8 131 yX8_placeIn, Cond.instanceMethod yX8_placeIn, Cond.selects RX8 yX8_placeIn yX8_placeIn, Cond.code yX8_placeIn cX8_placeIn 4 (some .int), Cond.methodLink RL 50 yX7_weight, Cond.instanceMethod yX7_weight, Cond.selects RX7 yX7_weight yX7_weight, Cond.code yX7_weight cX7_weight 4 (some .int)]
def wsL_law_r18 : List Cond := [Cond.methodLink RX7 128 yX4_weightOf, Cond.instanceMethod yX4_weightOf, Cond.selects RX4 yX4_weightOf yX4_weightOf, Cond.code yX4_weightOf cX4_weightOf 4 (some .int), Cond.methodLink RL 53 yX8_weight, Cond.instanceMethod yX8_weight, Cond.selects RX8 yX8_weight yX8_weight, Cond.code yX8_weight cX8_weight 4 (some .int), Cond.methodLink RX8 153 yX8_weightOf, Cond.instanceMethod yX8_weightOf, Cond.selects RX8 yX8_weightOf yX8_weightOf, Cond.code yX8_weightOf cX8_weightOf 4 (some .int), Cond.methodLink RL 54 yX7_offset, Cond.instanceMethod yX7_offset, Cond.selects RX7 yX7_offset yX7_offset, Cond.code yX7_offset cX7_offset 5 (some .int), Cond.methodLink RX7 132 yX4_bestOffset, Cond.instanceMethod yX4_bestOffset, Cond.selects RX4 yX4_bestOffset yX4_bestOffset, Cond.code yX4_bestOffset cX4_bestOffset 9 (some .int), Cond.methodLink RX4 53 yX4_rowWeight, Cond.instanceMethod yX4_rowWeight, Cond.selects RX4 yX4_rowWeight yX4_rowWeight, Cond.code yX4_rowWeight cX4_rowWeight 9 (some .int)]
def wsL_law_r19 : List Cond := [Cond.methodLink RX4 46 yX5_heardBy, Cond.instanceMethod yX5_heardBy, Cond.selects RX5 yX5_heardBy yX5_heardBy, Cond.code yX5_heardBy cX5_heardBy 5 (some .int), Cond.methodLink RX5 36 Lib.Math.min.name, Cond.methodLink RX5 41 Lib.Math.max.name, Cond.methodLink RX5 32 yX5_heardOf, Cond.methodLink RX4 49 yX4_isDead, Cond.instanceMethod yX4_isDead, Cond.selects RX4 yX4_isDead yX4_isDead, Cond.code yX4_isDead cX4_isDead 2 (some .boolean), Cond.methodLink RX4 29 yX4_weightOf, Cond.methodLink RL 57 yX8_offset, Cond.instanceMethod yX8_offset, Cond.selects RX8 yX8_offset yX8_offset, Cond.code yX8_offset cX8_offset 10 (some .int), Cond.methodLink RX8 156 yX8_weights, Cond.instanceMethod yX8_weights, Cond.selects RX8 yX8_weights yX8_weights, Cond.code yX8_weights cX8_weights 9 (some .int), Cond.methodLink RL 58 yX7_alike, Cond.instanceMethod yX7_alike, Cond.selects RX7 yX7_alike yX7_alike, Cond.code yX7_alike cX7_alike 1 (some .int)]
def wsL_law_r20 : List Cond := [Cond.methodLink RX7 139 yX1_shareOf, Cond.instanceMethod yX1_shareOf, Cond.selects RX1 yX1_shareOf yX1_shareOf, Cond.code yX1_shareOf cX1_shareOf 2 (some .int), Cond.methodLink RL 62 yX8_alike, Cond.methodLink RL 63 yX7_known, Cond.instanceMethod yX7_known, Cond.selects RX7 yX7_known yX7_known, Cond.code yX7_known cX7_known 2 (some .int), Cond.methodLink RX7 142 yX1_makeKnown, Cond.instanceMethod yX1_makeKnown, Cond.selects RX1 yX1_makeKnown yX1_makeKnown, Cond.code yX1_makeKnown cX1_makeKnown 2 none, Cond.methodLink RX1 36 yJ7_fill_53178, Cond.methodLink RL 66 yX8_known, Cond.instanceMethod yX8_known, Cond.selects RX8 yX8_known yX8_known, Cond.code yX8_known cX8_known 3 (some .int), Cond.methodLink RL 67 yX7_lead, Cond.instanceMethod yX7_lead, Cond.selects RX7 yX7_lead yX7_lead, Cond.code yX7_lead cX7_lead 3 (some .int), Cond.methodLink RX7 145 yX1_leadOneStep, Cond.instanceMethod yX1_leadOneStep]
def wsL_law_r21 : List Cond := [Cond.selects RX1 yX1_leadOneStep yX1_leadOneStep, Cond.code yX1_leadOneStep cX1_leadOneStep 6 none, Cond.constantLong RX1 52 (1000), Cond.methodLink RX1 46 yX3_likelyOfAll, Cond.instanceMethod yX3_likelyOfAll, Cond.selects RX3 yX3_likelyOfAll yX3_likelyOfAll, Cond.code yX3_likelyOfAll cX3_likelyOfAll 4 (some .int), Cond.methodLink RX1 54 yX1_spread, Cond.instanceMethod yX1_spread, Cond.selects RX1 yX1_spread yX1_spread, Cond.code yX1_spread cX1_spread 8 none, Cond.methodLink RX1 58 yX3_targetOf, Cond.methodLink RX1 62 yX3_hasCell, Cond.methodLink RX1 66 yX3_likelyTo, Cond.methodLink RX7 149 yX1_cellsWithShare, Cond.instanceMethod yX1_cellsWithShare, Cond.selects RX1 yX1_cellsWithShare yX1_cellsWithShare, Cond.code yX1_cellsWithShare cX1_cellsWithShare 3 (some .int), Cond.methodLink RL 70 yX8_lead, Cond.instanceMethod yX8_lead, Cond.selects RX8 yX8_lead yX8_lead, Cond.code yX8_lead cX8_lead 7 (some .int), Cond.constantLong RX8 169 (1000), Cond.methodLink RX8 171 yX8_withShare]
def wsL_law_r22 : List Cond := [Cond.instanceMethod yX8_withShare, Cond.selects RX8 yX8_withShare yX8_withShare, Cond.code yX8_withShare cX8_withShare 3 (some .int), Cond.methodLink RL 71 yX7_hear, Cond.instanceMethod yX7_hear, Cond.selects RX7 yX7_hear yX7_hear, Cond.code yX7_hear cX7_hear 5 (some .int), Cond.methodLink RX7 152 yX1_hearRow, Cond.instanceMethod yX1_hearRow, Cond.selects RX1 yX1_hearRow yX1_hearRow, Cond.code yX1_hearRow cX1_hearRow 7 (some .boolean), Cond.methodLink RX1 69 yX5_heardBy, Cond.methodLink RX1 75 yX4_isDead, Cond.methodLink RX1 80 yX1_weighSender, Cond.instanceMethod yX1_weighSender, Cond.selects RX1 yX1_weighSender yX1_weighSender, Cond.code yX1_weighSender cX1_weighSender 6 none, Cond.methodLink RX1 84 yX4_greatestWeight, Cond.instanceMethod yX4_greatestWeight, Cond.selects RX4 yX4_greatestWeight yX4_greatestWeight, Cond.code yX4_greatestWeight cX4_greatestWeight 6 (some .int), Cond.methodLink RX4 32 Lib.Math.max.name, Cond.methodLink RX1 87 yX4_weightOf, Cond.methodLink RL 74 yX8_hear]
def wsL_law_r23 : List Cond := [Cond.instanceMethod yX8_hear, Cond.selects RX8 yX8_hear yX8_hear, Cond.code yX8_hear cX8_hear 9 (some .int), Cond.methodLink RL 75 yX7_share, Cond.instanceMethod yX7_share, Cond.selects RX7 yX7_share yX7_share, Cond.code yX7_share cX7_share 2 (some .int), Cond.methodLink RL 78 yX8_share, Cond.instanceMethod yX8_share, Cond.selects RX8 yX8_share yX8_share, Cond.code yX8_share cX8_share 2 (some .int), Cond.methodLink RL 79 yX7_likeliest, Cond.instanceMethod yX7_likeliest, Cond.selects RX7 yX7_likeliest yX7_likeliest, Cond.code yX7_likeliest cX7_likeliest 1 (some .int), Cond.methodLink RX7 156 yX1_greatestCell, Cond.instanceMethod yX1_greatestCell, Cond.selects RX1 yX1_greatestCell yX1_greatestCell, Cond.code yX1_greatestCell cX1_greatestCell 3 (some .int), Cond.methodLink RL 82 yX8_likeliest, Cond.instanceMethod yX8_likeliest, Cond.selects RX8 yX8_likeliest yX8_likeliest, Cond.code yX8_likeliest cX8_likeliest 3 (some .int), Cond.methodLink RL 83 yX7_within]
def wsL_law_r24 : List Cond := [Cond.instanceMethod yX7_within, Cond.selects RX7 yX7_within yX7_within, Cond.code yX7_within cX7_within 9 (some .int), Cond.methodLink RX7 159 yX3_hasArea, Cond.instanceMethod yX3_hasArea, Cond.selects RX3 yX3_hasArea yX3_hasArea, Cond.code yX3_hasArea cX3_hasArea 6 (some .boolean), Cond.methodLink RX3 57 yX3_hasPlace, Cond.methodLink RX7 163 yX3_cellAt, Cond.instanceMethod yX3_cellAt, Cond.selects RX3 yX3_cellAt yX3_cellAt, Cond.code yX3_cellAt cX3_cellAt 4 (some .int), Cond.methodLink RL 87 yX8_within, Cond.instanceMethod yX8_within, Cond.selects RX8 yX8_within yX8_within, Cond.code yX8_within cX8_within 8 (some .int), Cond.methodLink RX8 174 yX8_isArea, Cond.instanceMethod yX8_isArea, Cond.selects RX8 yX8_isArea yX8_isArea, Cond.code yX8_isArea cX8_isArea 6 (some .boolean), Cond.methodLink RX8 178 yX8_isWithin, Cond.instanceMethod yX8_isWithin, Cond.selects RX8 yX8_isWithin yX8_isWithin, Cond.code yX8_isWithin cX8_isWithin 7 (some .boolean)]
def wsL_law_r25 : List Cond := [Cond.methodLink RL 88 yX7_sure, Cond.instanceMethod yX7_sure, Cond.selects RX7 yX7_sure yX7_sure, Cond.code yX7_sure cX7_sure 2 (some .int), Cond.constant RX7 166 (1000000), Cond.methodLink RX7 167 yX1_fewestCellsWith, Cond.instanceMethod yX1_fewestCellsWith, Cond.selects RX1 yX1_fewestCellsWith yX1_fewestCellsWith, Cond.code yX1_fewestCellsWith cX1_fewestCellsWith 7 (some .int), Cond.methodLink RL 91 yX8_sure, Cond.instanceMethod yX8_sure, Cond.selects RX8 yX8_sure yX8_sure, Cond.code yX8_sure cX8_sure 4 (some .int), Cond.methodLink RL 92 yX7_best, Cond.instanceMethod yX7_best, Cond.selects RX7 yX7_best yX7_best, Cond.code yX7_best cX7_best 3 (some .int), Cond.methodLink RX7 170 yX7_bestScore, Cond.instanceMethod yX7_bestScore, Cond.selects RX7 yX7_bestScore yX7_bestScore, Cond.code yX7_bestScore cX7_bestScore 3 (some .int), Cond.methodLink RX7 290 yX6_findWay, Cond.instanceMethod yX6_findWay, Cond.selects RX6 yX6_findWay yX6_findWay]
def wsL_law_r26 : List Cond := [Cond.code yX6_findWay cX6_findWay 11 (some .int), Cond.methodLink RX6 24 Lib.Math.min.name, Cond.methodLink RX6 18 yX5_rows, Cond.methodLink RX6 30 yX3_cells, Cond.methodLink RX6 35 yX6_bestDirection, Cond.instanceMethod yX6_bestDirection, Cond.selects RX6 yX6_bestDirection yX6_bestDirection, Cond.code yX6_bestDirection cX6_bestDirection 8 (some .int), Cond.methodLink RX6 39 yX6_scoreAfter, Cond.instanceMethod yX6_scoreAfter, Cond.selects RX6 yX6_scoreAfter yX6_scoreAfter, Cond.code yX6_scoreAfter cX6_scoreAfter 7 (some .int), Cond.methodLink RX6 57 yX3_targetOf, Cond.methodLink RX6 60 yX3_hasCell, Cond.methodLink RX6 64 yX3_likelyTo, Cond.methodLink RX6 43 yX4_rowWeight, Cond.methodLink RX6 49 yX6_bestFirst, Cond.instanceMethod yX6_bestFirst, Cond.selects RX6 yX6_bestFirst yX6_bestFirst, Cond.code yX6_bestFirst cX6_bestFirst 4 (some .int), Cond.methodLink RX6 53 yX6_trace, Cond.instanceMethod yX6_trace, Cond.selects RX6 yX6_trace yX6_trace, Cond.code yX6_trace cX6_trace 6 none]
def wsL_law_r27 : List Cond := [Cond.methodLink RX7 177 yX7_tellWay, Cond.instanceMethod yX7_tellWay, Cond.selects RX7 yX7_tellWay yX7_tellWay, Cond.code yX7_tellWay cX7_tellWay 2 none, Cond.fieldLink RX7 294 "InsidePlaces$WayFinder" "way" "[I", Cond.methodLink RX7 232 arraycopyName, Cond.native arraycopyName, Cond.static arraycopyName, Cond.initialized "java/lang/System", Cond.methodLink RL 95 yX8_best, Cond.instanceMethod yX8_best, Cond.selects RX8 yX8_best yX8_best, Cond.code yX8_best cX8_best 3 (some .int), Cond.methodLink RX8 185 yX8_walks, Cond.instanceMethod yX8_walks, Cond.selects RX8 yX8_walks yX8_walks, Cond.code yX8_walks cX8_walks 9 (some .int), Cond.methodLink RX8 188 yX8_tells, Cond.instanceMethod yX8_tells, Cond.selects RX8 yX8_tells yX8_tells, Cond.code yX8_tells cX8_tells 3 none, Cond.fieldLink RX8 182 "InsidePlacesModel" "told" "I", Cond.methodLink RL 96 yX7_way, Cond.instanceMethod yX7_way]
def wsL_law_r28 : List Cond := [Cond.selects RX7 yX7_way yX7_way, Cond.code yX7_way cX7_way 2 (some .int), Cond.methodLink RL 99 yX8_way, Cond.instanceMethod yX8_way, Cond.selects RX8 yX8_way yX8_way, Cond.code yX8_way cX8_way 2 (some .int), Cond.methodLink RL 100 yX7_learn, Cond.instanceMethod yX7_learn, Cond.selects RX7 yX7_learn yX7_learn, Cond.code yX7_learn cX7_learn 5 (some .int), Cond.methodLink RL 103 yX8_learn, Cond.instanceMethod yX8_learn, Cond.selects RX8 yX8_learn yX8_learn, Cond.code yX8_learn cX8_learn 4 (some .int), Cond.methodLink RL 104 yX7_moved, Cond.instanceMethod yX7_moved, Cond.selects RX7 yX7_moved yX7_moved, Cond.code yX7_moved cX7_moved 6 (some .int), Cond.methodLink RX7 180 yX4_isDead, Cond.methodLink RX7 183 yX7_isMoved, Cond.instanceMethod yX7_isMoved, Cond.selects RX7 yX7_isMoved yX7_isMoved, Cond.code yX7_isMoved cX7_isMoved 7 (some .boolean), Cond.methodLink RX7 297 yX5_heardOf]
def wsL_law_r29 : List Cond := [Cond.methodLink RL 107 yX8_moved, Cond.instanceMethod yX8_moved, Cond.selects RX8 yX8_moved yX8_moved, Cond.code yX8_moved cX8_moved 9 (some .int), Cond.methodLink RL 108 yX7_put, Cond.instanceMethod yX7_put, Cond.selects RX7 yX7_put yX7_put, Cond.code yX7_put cX7_put 3 (some .int), Cond.methodLink RX7 187 yX2_move, Cond.instanceMethod yX2_move, Cond.selects RX2 yX2_move yX2_move, Cond.code yX2_move cX2_move 4 (some .int), Cond.methodLink RL 111 yX8_put, Cond.instanceMethod yX8_put, Cond.selects RX8 yX8_put yX8_put, Cond.code yX8_put cX8_put 4 (some .int), Cond.methodLink RL 112 yX7_least, Cond.instanceMethod yX7_least, Cond.selects RX7 yX7_least yX7_least, Cond.code yX7_least cX7_least 2 (some .int), Cond.methodLink RX7 190 yX2_putLeast, Cond.instanceMethod yX2_putLeast, Cond.selects RX2 yX2_putLeast yX2_putLeast, Cond.code yX2_putLeast cX2_putLeast 3 (some .int)]
def wsL_law_r30 : List Cond := [Cond.methodLink RL 115 yX8_least, Cond.instanceMethod yX8_least, Cond.selects RX8 yX8_least yX8_least, Cond.code yX8_least cX8_least 3 (some .int), Cond.methodLink RL 116 yX7_give, Cond.instanceMethod yX7_give, Cond.selects RX7 yX7_give yX7_give, Cond.code yX7_give cX7_give 6 (some .int), Cond.classLink RX7 193 RX0, Cond.instantiable RX0 5, Cond.initialized RX0, Cond.methodLink RX7 195 yX0_init, Cond.instanceMethod yX0_init, Cond.code yX0_init cX0_init 6 none, Cond.methodLink RX0 1 objectInit, Cond.fieldLink RX0 7 "InsidePlaces$Area" "floor" "I", Cond.fieldLink RX0 13 "InsidePlaces$Area" "x0" "I", Cond.fieldLink RX0 16 "InsidePlaces$Area" "x1" "I", Cond.fieldLink RX0 19 "InsidePlaces$Area" "y0" "I", Cond.fieldLink RX0 22 "InsidePlaces$Area" "y1" "I", Cond.methodLink RX7 198 yX2_giveAway, Cond.instanceMethod yX2_giveAway, Cond.selects RX2 yX2_giveAway yX2_giveAway, Cond.code yX2_giveAway cX2_giveAway 4 (some .int)]
def wsL_law_r31 : List Cond := [Cond.methodLink RX2 34 yX2_numberIn, Cond.instanceMethod yX2_numberIn, Cond.selects RX2 yX2_numberIn yX2_numberIn, Cond.code yX2_numberIn cX2_numberIn 6 (some .int), Cond.methodLink RX2 45 yX3_hasCell, Cond.methodLink RX2 51 yX3_floorOf, Cond.methodLink RX2 55 yX3_xOf, Cond.methodLink RX2 58 yX3_yOf, Cond.methodLink RX2 61 yX0_contains, Cond.instanceMethod yX0_contains, Cond.selects RX0 yX0_contains yX0_contains, Cond.code yX0_contains cX0_contains 4 (some .boolean), Cond.methodLink RX2 38 yX2_isTooNear, Cond.instanceMethod yX2_isTooNear, Cond.selects RX2 yX2_isTooNear yX2_isTooNear, Cond.code yX2_isTooNear cX2_isTooNear 4 (some .boolean), Cond.methodLink RX2 65 yX0_cellsApart, Cond.instanceMethod yX0_cellsApart, Cond.selects RX0 yX0_cellsApart yX0_cellsApart, Cond.code yX0_cellsApart cX0_cellsApart 2 (some .int), Cond.methodLink RX0 25 yX0_extent, Cond.instanceMethod yX0_extent, Cond.selects RX0 yX0_extent yX0_extent, Cond.code yX0_extent cX0_extent 1 (some .int)]
def wsL_law_r32 : List Cond := [Cond.methodLink RX0 29 yX0_cellsInBoth, Cond.instanceMethod yX0_cellsInBoth, Cond.selects RX0 yX0_cellsInBoth yX0_cellsInBoth, Cond.code yX0_cellsInBoth cX0_cellsInBoth 4 (some .int), Cond.methodLink RX0 33 Lib.Math.min.name, Cond.methodLink RX0 39 Lib.Math.max.name, Cond.methodLink RX2 42 yX2_wasGiven, Cond.instanceMethod yX2_wasGiven, Cond.selects RX2 yX2_wasGiven yX2_wasGiven, Cond.code yX2_wasGiven cX2_wasGiven 3 (some .boolean), Cond.methodLink RL 119 yX8_give, Cond.instanceMethod yX8_give, Cond.selects RX8 yX8_give yX8_give, Cond.code yX8_give cX8_give 9 (some .int), Cond.methodLink RX8 192 yX8_parts, Cond.instanceMethod yX8_parts, Cond.selects RX8 yX8_parts yX8_parts, Cond.code yX8_parts cX8_parts 11 (some .int), Cond.methodLink RL 120 yX7_sheet, Cond.instanceMethod yX7_sheet, Cond.selects RX7 yX7_sheet yX7_sheet, Cond.code yX7_sheet cX7_sheet 4 (some .int), Cond.methodLink RX7 202 yX7_isForm, Cond.static yX7_isForm]
def wsL_law_r33 : List Cond := [Cond.code yX7_isForm cX7_isForm 1 (some .boolean), Cond.methodLink RX7 205 yX5_renew, Cond.instanceMethod yX5_renew, Cond.selects RX5 yX5_renew yX5_renew, Cond.code yX5_renew cX5_renew 3 none, Cond.methodLink RX5 26 yJ7_fill_53178, Cond.methodLink RL 123 yX8_sheet, Cond.instanceMethod yX8_sheet, Cond.selects RX8 yX8_sheet yX8_sheet, Cond.code yX8_sheet cX8_sheet 5 (some .int), Cond.methodLink RL 124 yX7_lose, Cond.instanceMethod yX7_lose, Cond.selects RX7 yX7_lose yX7_lose, Cond.code yX7_lose cX7_lose 2 (some .int), Cond.methodLink RX7 213 yX5_drop, Cond.instanceMethod yX5_drop, Cond.selects RX5 yX5_drop yX5_drop, Cond.code yX5_drop cX5_drop 2 (some .int), Cond.methodLink RL 127 yX8_lose, Cond.instanceMethod yX8_lose, Cond.selects RX8 yX8_lose yX8_lose, Cond.code yX8_lose cX8_lose 2 (some .int), Cond.methodLink RL 128 yX7_lay, Cond.instanceMethod yX7_lay]
def wsL_law_r34 : List Cond := [Cond.selects RX7 yX7_lay yX7_lay, Cond.code yX7_lay cX7_lay 6 (some .int), Cond.methodLink RX7 216 yX7_itemProblem, Cond.static yX7_itemProblem, Cond.code yX7_itemProblem cX7_itemProblem 3 (some .int), Cond.fieldLink RX7 226 "InsidePlaces$Sheet" "form" "I", Cond.fieldLink RX7 287 "InsidePlaces$Sheet" "size" "I", Cond.methodLink RX7 219 yX5_store, Cond.instanceMethod yX5_store, Cond.selects RX5 yX5_store yX5_store, Cond.code yX5_store cX5_store 3 none, Cond.methodLink RL 132 yX8_lay, Cond.instanceMethod yX8_lay, Cond.selects RX8 yX8_lay yX8_lay, Cond.code yX8_lay cX8_lay 6 (some .int), Cond.methodLink RX8 199 yX8_lacks, Cond.instanceMethod yX8_lacks, Cond.selects RX8 yX8_lacks yX8_lacks, Cond.code yX8_lacks cX8_lacks 4 (some .int), Cond.methodLink RL 133 yX7_get, Cond.instanceMethod yX7_get, Cond.selects RX7 yX7_get yX7_get, Cond.code yX7_get cX7_get 5 (some .int), Cond.constant RX7 222 (-2147483648)]
def wsL_law_r35 : List Cond := [Cond.fieldLink RX7 223 "InsidePlaces$Sheet" "items" "[I", Cond.methodLink RL 136 yX8_get, Cond.instanceMethod yX8_get, Cond.selects RX8 yX8_get yX8_get, Cond.code yX8_get cX8_get 5 (some .int), Cond.constant RX8 202 (-2147483648), Cond.methodLink RL 137 yX7_copy, Cond.instanceMethod yX7_copy, Cond.selects RX7 yX7_copy yX7_copy, Cond.code yX7_copy cX7_copy 8 (some .int), Cond.methodLink RX7 229 yX5_hasItems, Cond.instanceMethod yX5_hasItems, Cond.selects RX5 yX5_hasItems yX5_hasItems, Cond.code yX5_hasItems cX5_hasItems 3 (some .boolean), Cond.methodLink RL 140 yX8_copy, Cond.instanceMethod yX8_copy, Cond.selects RX8 yX8_copy yX8_copy, Cond.code yX8_copy cX8_copy 7 (some .int), Cond.methodLink RL 141 yX7_count, Cond.instanceMethod yX7_count, Cond.selects RX7 yX7_count yX7_count, Cond.code yX7_count cX7_count 2 (some .int), Cond.fieldLink RX7 238 "InsidePlaces$House" "floors" "I", Cond.fieldLink RX7 241 "InsidePlaces$House" "wide" "I"]
def wsL_law_r36 : List Cond := [Cond.fieldLink RX7 244 "InsidePlaces$House" "high" "I", Cond.fieldLink RX7 247 "InsidePlaces$House" "walls" "I", Cond.fieldLink RX7 250 "InsidePlaces$House" "lifts" "I", Cond.fieldLink RX7 253 "InsidePlaces$Crowd" "given" "I", Cond.fieldLink RX7 256 "InsidePlaces$House" "staying" "I", Cond.fieldLink RX7 259 "InsidePlaces$Crowd" "fewest" "I", Cond.fieldLink RX7 262 "InsidePlaces$RadioMap" "deadBits" "I", Cond.methodLink RX7 265 yX2_somewhere, Cond.instanceMethod yX2_somewhere, Cond.selects RX2 yX2_somewhere yX2_somewhere, Cond.code yX2_somewhere cX2_somewhere 3 (some .int), Cond.methodLink RL 144 yX8_count, Cond.instanceMethod yX8_count, Cond.selects RX8 yX8_count yX8_count, Cond.code yX8_count cX8_count 4 (some .int), Cond.methodLink RL 145 yX7_digest, Cond.instanceMethod yX7_digest, Cond.selects RX7 yX7_digest yX7_digest, Cond.code yX7_digest cX7_digest 6 (some .long), Cond.constantLong RX7 268 (17), Cond.constantLong RX7 270 (31), Cond.methodLink RX7 272 yX7_count, Cond.methodLink RX7 275 yX4_weightOfAll, Cond.instanceMethod yX4_weightOfAll]
def wsL_law_r37 : List Cond := [Cond.selects RX4 yX4_weightOfAll yX4_weightOfAll, Cond.code yX4_weightOfAll cX4_weightOfAll 5 (some .int), Cond.methodLink RL 149 yX8_digest, Cond.instanceMethod yX8_digest, Cond.selects RX8 yX8_digest yX8_digest, Cond.code yX8_digest cX8_digest 7 (some .long), Cond.constantLong RX8 203 (17), Cond.constantLong RX8 205 (31), Cond.methodLink RX8 207 yX8_count]
def wsL_law : List Cond := (wsL_law_r1 ++ (wsL_law_r2 ++ (wsL_law_r3 ++ (wsL_law_r4 ++ (wsL_law_r5 ++ (wsL_law_r6 ++ (wsL_law_r7 ++ (wsL_law_r8 ++ (wsL_law_r9 ++ (wsL_law_r10 ++ (wsL_law_r11 ++ (wsL_law_r12 ++ (wsL_law_r13 ++ (wsL_law_r14 ++ (wsL_law_r15 ++ (wsL_law_r16 ++ (wsL_law_r17 ++ (wsL_law_r18 ++ (wsL_law_r19 ++ (wsL_law_r20 ++ (wsL_law_r21 ++ (wsL_law_r22 ++ (wsL_law_r23 ++ (wsL_law_r24 ++ (wsL_law_r25 ++ (wsL_law_r26 ++ (wsL_law_r27 ++ (wsL_law_r28 ++ (wsL_law_r29 ++ (wsL_law_r30 ++ (wsL_law_r31 ++ (wsL_law_r32 ++ (wsL_law_r33 ++ (wsL_law_r34 ++ (wsL_law_r35 ++ (wsL_law_r36 ++ wsL_law_r37)))))))))))))))))))))))))))))))))))) ++ wsX70 ++ wsX80 ++ wsX30 ++ wsX40 ++ wsX10 ++ wsX60 ++ wsX20 ++ wsX50 ++ wsX00 ++ ([] : List Cond)
theorem inlX0 : ∀ w ∈ wsX00, w ∈ wsL_law := fun _ h => List.mem_append_left _ (List.mem_append_right _ h)
theorem inlX1 : ∀ w ∈ wsX10, w ∈ wsL_law := fun _ h => List.mem_append_left _ (List.mem_append_left _ (List.mem_append_left _ (List.mem_append_left _ (List.mem_append_left _ (List.mem_append_right _ h)))))
theorem inlX2 : ∀ w ∈ wsX20, w ∈ wsL_law := fun _ h => List.mem_append_left _ (List.mem_append_left _ (List.mem_append_left _ (List.mem_append_right _ h)))
theorem inlX3 : ∀ w ∈ wsX30, w ∈ wsL_law := fun _ h => List.mem_append_left _ (List.mem_append_left _ (List.mem_append_left _ (List.mem_append_left _ (List.mem_append_left _ (List.mem_append_left _ (List.mem_append_left _ (List.mem_append_right _ h)))))))
theorem inlX4 : ∀ w ∈ wsX40, w ∈ wsL_law := fun _ h => List.mem_append_left _ (List.mem_append_left _ (List.mem_append_left _ (List.mem_append_left _ (List.mem_append_left _ (List.mem_append_left _ (List.mem_append_right _ h))))))
theorem inlX5 : ∀ w ∈ wsX50, w ∈ wsL_law := fun _ h => List.mem_append_left _ (List.mem_append_left _ (List.mem_append_right _ h))
theorem inlX6 : ∀ w ∈ wsX60, w ∈ wsL_law := fun _ h => List.mem_append_left _ (List.mem_append_left _ (List.mem_append_left _ (List.mem_append_left _ (List.mem_append_right _ h))))
theorem inlX7 : ∀ w ∈ wsX70, w ∈ wsL_law := fun _ h => List.mem_append_left _ (List.mem_append_left _ (List.mem_append_left _ (List.mem_append_left _ (List.mem_append_left _ (List.mem_append_left _ (List.mem_append_left _ (List.mem_append_left _ (List.mem_append_left _ (List.mem_append_right _ h)))))))))
theorem inlX8 : ∀ w ∈ wsX80, w ∈ wsL_law := fun _ h => List.mem_append_left _ (List.mem_append_left _ (List.mem_append_left _ (List.mem_append_left _ (List.mem_append_left _ (List.mem_append_left _ (List.mem_append_left _ (List.mem_append_left _ (List.mem_append_right _ h))))))))

abbrev vwCl : List vw_C := [(RX0, TX0, 5), (RX1, TX1, 4), (RX2, TX2, 4), (RX3, TX3, 12), (RX4, TX4, 2), (RX5, TX5, 4), (RX6, TX6, 2), (RX7, TX7, 9), (RX8, TX8, 29)]
end
section
/-! whole numbers as ints and longs: all values are 'zI z', 'zL z' of an Int; the rows keep that form -/
def zI (z : Int) : Int32 := Int32.ofInt z
def zL (z : Int) : Int64 := Int64.ofInt z
theorem zI_add (x y : Int) : zI x + zI y = zI (x + y) := (Int32.ofInt_add x y).symm
theorem zI_sub (x y : Int) : zI x - zI y = zI (x - y) := (Int32.ofInt_sub x y).symm
theorem zI_mul (x y : Int) : zI x * zI y = zI (x * y) := (Int32.ofInt_mul x y).symm
theorem zI_neg (x : Int) : - zI x = zI (-x) := (Int32.ofInt_neg x).symm
theorem zL_add (x y : Int) : zL x + zL y = zL (x + y) := (Int64.ofInt_add x y).symm
theorem zL_mul (x y : Int) : zL x * zL y = zL (x * y) := (Int64.ofInt_mul x y).symm
theorem zL_sub (x y : Int) : zL x - zL y = zL (x - y) := (Int64.ofInt_sub x y).symm
theorem zI_int {z : Int} (h : -2147483648 ≤ z ∧ z < 2147483648) : (zI z).toInt = z := Int32.toInt_ofInt_of_le h.1 h.2
theorem zL_int {z : Int} (h : -9223372036854775808 ≤ z ∧ z < 9223372036854775808) : (zL z).toInt = z := Int64.toInt_ofInt_of_le h.1 h.2
theorem zI_of (x : Int32) : zI x.toInt = x := Int32.ofInt_toInt x
theorem zL_of (x : Int64) : zL x.toInt = x := Int64.ofInt_toInt x
theorem zI_rg (x : Int32) : -2147483648 ≤ x.toInt ∧ x.toInt < 2147483648 := ⟨Int32.le_toInt x, Int32.toInt_lt x⟩
theorem zI_nat (n : Nat) : Int32.ofNat n = zI n := by
  show Int32.ofNat n = Int32.ofInt (n : Int)
  exact Int32.ofInt_eq_ofNat.symm
theorem zI_lt {x y : Int} (hx : -2147483648 ≤ x ∧ x < 2147483648) (hy : -2147483648 ≤ y ∧ y < 2147483648) : (zI x < zI y) ↔ x < y := by rw [Int32.lt_iff_toInt_lt, zI_int hx, zI_int hy]
theorem zI_le {x y : Int} (hx : -2147483648 ≤ x ∧ x < 2147483648) (hy : -2147483648 ≤ y ∧ y < 2147483648) : (zI x ≤ zI y) ↔ x ≤ y := by rw [Int32.le_iff_toInt_le, zI_int hx, zI_int hy]
theorem zI_eq {x y : Int} (hx : -2147483648 ≤ x ∧ x < 2147483648) (hy : -2147483648 ≤ y ∧ y < 2147483648) : (zI x = zI y) ↔ x = y := by rw [← Int32.toInt_inj, zI_int hx, zI_int hy]
theorem zL_lt {x y : Int} (hx : -9223372036854775808 ≤ x ∧ x < 9223372036854775808) (hy : -9223372036854775808 ≤ y ∧ y < 9223372036854775808) : (zL x < zL y) ↔ x < y := by rw [Int64.lt_iff_toInt_lt, zL_int hx, zL_int hy]
theorem zI_0 : (0 : Int32) = zI 0 := rfl
theorem zL_0 : (0 : Int64) = zL 0 := rfl
theorem zI_clamp {i : Int} (h0 : 0 ≤ i) (h1 : i < 2147483648) : (zI i).toNatClampNeg = i.toNat := by
  show (zI i).toInt.toNat = _
  rw [zI_int ⟨by omega, h1⟩]
theorem zI_in {i : Int} {n : Nat} (h0 : 0 ≤ i) (h1 : i < n) (hn : n < 2147483648) : vp_in (zI i) n := by
  intro h
  rcases h with h | h
  · rw [zI_0, zI_lt ⟨by omega, by omega⟩ ⟨by omega, by omega⟩] at h
    omega
  · rw [zI_clamp h0 (by omega)] at h
    omega
theorem zI_div {x y : Int} (hx : 0 ≤ x ∧ x < 2147483648) (hy : 0 < y ∧ y < 2147483648) : zI x / zI y = zI (x / y) := by
  apply Int32.toInt_inj.mp
  have h1 : 0 ≤ x / y := Int.ediv_nonneg hx.1 (by omega)
  have h2 : x / y ≤ x := Int.ediv_le_self y hx.1
  rw [Int32.toInt_div_of_ne_right, zI_int (by omega), zI_int (by omega), zI_int (by omega), Int.tdiv_eq_ediv_of_nonneg hx.1]
  intro h
  have := congrArg Int32.toInt h
  rw [zI_int (by omega)] at this
  simp at this
  omega
theorem zI_rem {x y : Int} (hx : 0 ≤ x ∧ x < 2147483648) (hy : 0 < y ∧ y < 2147483648) : zI x - zI x / zI y * zI y = zI (x % y) := by
  rw [zI_div hx hy, zI_mul, zI_sub, Int.emod_def, Int.mul_comm]
theorem zL_div {x y : Int} (hx : 0 ≤ x ∧ x < 9223372036854775808) (hy : 0 < y ∧ y < 9223372036854775808) : zL x / zL y = zL (x / y) := by
  apply Int64.toInt_inj.mp
  have h1 : 0 ≤ x / y := Int.ediv_nonneg hx.1 (by omega)
  have h2 : x / y ≤ x := Int.ediv_le_self y hx.1
  rw [Int64.toInt_div_of_ne_right, zL_int (by omega), zL_int (by omega), zL_int (by omega), Int.tdiv_eq_ediv_of_nonneg hx.1]
  intro h
  have := congrArg Int64.toInt h
  rw [zL_int (by omega)] at this
  simp at this
  omega
theorem zL_rem {x y : Int} (hx : 0 ≤ x ∧ x < 9223372036854775808) (hy : 0 < y ∧ y < 9223372036854775808) : zL x - zL x / zL y * zL y = zL (x % y) := by
  rw [zL_div hx hy, zL_mul, zL_sub, Int.emod_def, Int.mul_comm]
theorem zI_ne0 {y : Int} (hy : 0 < y ∧ y < 2147483648) : ¬ zI y = 0 := by
  rw [zI_0, zI_eq (by omega) (by omega)]; omega
theorem zL_ne0 {y : Int} (hy : 0 < y ∧ y < 9223372036854775808) : ¬ zL y = 0 := by
  intro h
  have := congrArg Int64.toInt h
  rw [zL_int (by omega)] at this
  simp at this
  omega
theorem zI_long {x : Int} (hx : -2147483648 ≤ x ∧ x < 2147483648) : (zI x).toInt64 = zL x := by
  apply Int64.toInt_inj.mp
  rw [Int32.toInt_toInt64, zI_int hx, zL_int (by omega)]
theorem zL_small (x : Int) : (zL x).toInt32 = zI x := Int64.toInt32_ofInt
def zU (F : Int → Int) (i v : Int) : Int → Int := fun j => if j = i then v else F j
theorem zU_upd {F : Int → Int} {i v : Int} (h0 : 0 ≤ i) : upd (fun j : Nat => zI (F j)) i.toNat (zI v) = fun j : Nat => zI (zU F i v j) := by
  funext j
  show (if j = i.toNat then _ else _) = zI (if (j : Int) = i then v else F j)
  by_cases h : j = i.toNat
  · rw [if_pos h, if_pos (by omega)]
  · rw [if_neg h, if_neg (by omega)]
theorem zU_updL {F : Int → Int} {i v : Int} (h0 : 0 ≤ i) : vp_updL (fun j : Nat => zL (F j)) i.toNat (zL v) = fun j : Nat => zL (zU F i v j) := by
  funext j
  show (if j = i.toNat then _ else _) = zL (if (j : Int) = i then v else F j)
  by_cases h : j = i.toNat
  · rw [if_pos h, if_pos (by omega)]
  · rw [if_neg h, if_neg (by omega)]
theorem zI_natF (F : Int → Int) {i : Int} (h0 : 0 ≤ i) (h1 : i < 2147483648) : (fun j : Nat => zI (F j)) (zI i).toNatClampNeg = zI (F i) := by
  show zI (F _) = _
  rw [zI_clamp h0 h1, Int.toNat_of_nonneg h0]
theorem zL_natF (F : Int → Int) {i : Int} (h0 : 0 ≤ i) (h1 : i < 2147483648) : (fun j : Nat => zL (F j)) (zI i).toNatClampNeg = zL (F i) := by
  show zL (F _) = _
  rw [zI_clamp h0 h1, Int.toNat_of_nonneg h0]
theorem zI_bool {b : Int} (h : b = 0 ∨ b = 1) : vp_nar .boolean (zI b) = zI b := by
  rcases h with rfl | rfl <;> decide +kernel
theorem zL_eq {x y : Int} (hx : -9223372036854775808 ≤ x ∧ x < 9223372036854775808) (hy : -9223372036854775808 ≤ y ∧ y < 9223372036854775808) : (zL x = zL y) ↔ x = y := by rw [← Int64.toInt_inj, zL_int hx, zL_int hy]
theorem zI_cmp {x y : Int} (hx : -9223372036854775808 ≤ x ∧ x < 9223372036854775808) (hy : -9223372036854775808 ≤ y ∧ y < 9223372036854775808) : lg_cmp (zL x) (zL y) = zI (if y < x then 1 else if x = y then 0 else -1) := by
  unfold lg_cmp
  simp only [GT.gt, zL_lt hy hx, zL_eq hx hy]
  by_cases h1 : y < x
  · rw [if_pos h1, if_pos h1]; rfl
  · rw [if_neg h1, if_neg h1]
    by_cases h2 : x = y
    · rw [if_pos h2, if_pos h2]; rfl
    · rw [if_neg h2, if_neg h2]; rfl
theorem zI_idx {i : Int} (h0 : 0 ≤ i) (h1 : i < 2147483648) : (((zI i).toNatClampNeg : Nat) : Int) = i := by
  rw [zI_clamp h0 h1, Int.toNat_of_nonneg h0]
end
section
/-! THE JUDGEMENT Gd: from pc, with these locals, this stack and this world, the machine comes to Q. One row an instruction. -/
abbrev z_KT : Type := Program × Launch × Env × Room × State × MethodId × Array Value × List Frame × Method × Code × (Nat → Prop) × Heap × (State → Prop) × va_G × (Nat → ClassId)
def z_tys (t : Nat → ClassId) : List (ClassId × FieldType) := [(t 0, .int), (t 1, .long), (t 2, .boolean), (t 3, .object RX5), (t 4, .object RX0)]
def z_asc : Nat → List (Option Value) → List (Nat × Value)
  | _, [] => []
  | k, none :: r => z_asc (k + 1) r
  | k, some v :: r => (k, v) :: z_asc (k + 1) r
theorem z_asc_mem : ∀ (L : List (Option Value)) (k j : Nat) (v : Value), (j, v) ∈ z_asc k L ↔ k ≤ j ∧ L[j - k]? = some (some v)
  | [], k, j, v => by simp [z_asc]
  | none :: r, k, j, v => by
    rw [z_asc, z_asc_mem r (k + 1) j v]
    constructor
    · rintro ⟨h1, h2⟩
      refine ⟨by omega, ?_⟩
      rw [show j - k = (j - (k + 1)) + 1 by omega]
      exact h2
    · rintro ⟨h1, h2⟩
      rcases Nat.eq_or_lt_of_le h1 with h | h
      · subst h; simp at h2
      · refine ⟨h, ?_⟩
        rw [show j - k = (j - (k + 1)) + 1 by omega] at h2
        exact h2
  | some u :: r, k, j, v => by
    rw [z_asc, List.mem_cons, z_asc_mem r (k + 1) j v]
    constructor
    · rintro (h | ⟨h1, h2⟩)
      · cases h; simp
      · refine ⟨by omega, ?_⟩
        rw [show j - k = (j - (k + 1)) + 1 by omega]
        exact h2
    · rintro ⟨h1, h2⟩
      rcases Nat.eq_or_lt_of_le h1 with h | h
      · subst h; simp at h2; exact Or.inl (by rw [h2])
      · refine Or.inr ⟨h, ?_⟩
        rw [show j - k = (j - (k + 1)) + 1 by omega] at h2
        exact h2
def Gd (K : z_KT) (cells slots pc : Nat) (L : List (Option Value)) (st : List Value) (ws : va_W) : Prop :=
  match K with
  | (p, l, e, R, s, m, args, below, meth, c, A, H0, Q, D, _) => ∀ (H : Heap) (locs : List Loc) (ls : Array Slot), va_P D vwCl ws H → va_D A ws → va_S A H0 H locs → lv_has ls L.length (z_asc 0 L) → W p l e R s m args below meth c H locs cells slots Q (F0 m pc ls st)
def Fc (K : z_KT) (cc : ByteArray) (own : String) (nL : Nat) : Prop :=
  match K with
  | (p, _, _, _, s, m, args, _, _, c, A, H0, _, D, t) => p.tables.exec = Jvm.exec ∧ c.code = cc ∧ c.maxLocals = nL ∧ s.vm.findClass own = some m.cls ∧ (∀ w ∈ wsL_law, w.before args s = true) ∧ va_K D vwCl (z_tys t) s ∧ (∀ q, H0.size ≤ q → A q)
/-- the room, and which method it is -/
def z_Rm (K : z_KT) : Room := match K with
  | (_, _, _, R, _) => R
def z_nm (K : z_KT) : String := match K with
  | (_, _, _, _, _, _, _, _, meth, _) => meth.name
def z_D (K : z_KT) : va_G := match K with
  | (_, _, _, _, _, _, _, _, _, _, _, _, _, D, _) => D
def z_t (K : z_KT) : Nat → ClassId := match K with
  | (_, _, _, _, _, _, _, _, _, _, _, _, _, _, t) => t
def z_l (K : z_KT) : Launch := match K with
  | (_, l, _) => l
theorem z_has {ls : Array Slot} {L : List (Option Value)} (h : lv_has ls L.length (z_asc 0 L)) {i : Nat} {v : Value} (hi : L[i]? = some (some v)) : ls[i]? = some (.val v) := h.2.2 (i, v) ((z_asc_mem L 0 i v).mpr ⟨Nat.zero_le _, hi⟩)
theorem z_sub {ls : Array Slot} {n : Nat} {lv : List (Nat × Value)} {L : List (Option Value)} (h : lv_has ls n lv) (hn : L.length = n) (hs : ∀ (j : Nat) (v : Value), L[j]? = some (some v) → (j, v) ∈ lv) : lv_has ls L.length (z_asc 0 L) := by
  rw [hn]
  refine ⟨h.1, h.2.1, fun q hq => h.2.2 q ?_⟩
  have := (z_asc_mem L 0 q.1 q.2).mp hq
  exact hs q.1 q.2 this.2

section ZR
variable {K : z_KT} {cc : ByteArray} {own : String} {nL cells slots pc : Nat} {L : List (Option Value)} {rest : List Value} {ws : va_W}
theorem z_iconst (C : Fc K cc own nL) {n : Int} (d : decode cc pc = .ok (.iconst n, 1)) (k : Gd K cells slots (pc + 1) L (.int (zI n) :: rest) ws) : Gd K cells slots pc L (rest) ws := by
  obtain ⟨p, l, e, R, s, m, args, below, meth, c, A, H0, Q, D, t⟩ := K
  obtain ⟨hx, hb, hml, ho, hts, hK, hA⟩ := C
  intro H locs ls hP hD hS hl
  exact lv_iconst hx hb d rfl (k H locs ls hP hD hS hl)
theorem z_bipush (C : Fc K cc own nL) {n : Int} (d : decode cc pc = .ok (.bipush n, 2)) (hv : (Int8.ofInt n).toInt32 = zI n) (k : Gd K cells slots (pc + 2) L (.int (zI n) :: rest) ws) : Gd K cells slots pc L (rest) ws := by
  obtain ⟨p, l, e, R, s, m, args, below, meth, c, A, H0, Q, D, t⟩ := K
  obtain ⟨hx, hb, hml, ho, hts, hK, hA⟩ := C
  intro H locs ls hP hD hS hl
  exact lv_bipush hx hb d hv (k H locs ls hP hD hS hl)
theorem z_sipush (C : Fc K cc own nL) {n : Int} (d : decode cc pc = .ok (.sipush n, 3)) (hv : (Int16.ofInt n).toInt32 = zI n) (k : Gd K cells slots (pc + 3) L (.int (zI n) :: rest) ws) : Gd K cells slots pc L (rest) ws := by
  obtain ⟨p, l, e, R, s, m, args, below, meth, c, A, H0, Q, D, t⟩ := K
  obtain ⟨hx, hb, hml, ho, hts, hK, hA⟩ := C
  intro H locs ls hP hD hS hl
  exact lv_sipush hx hb d hv (k H locs ls hP hD hS hl)
theorem z_ldc (C : Fc K cc own nL) {n : Int} {idx : Nat} (hw : Cond.constant own idx (zI n) ∈ wsL_law) (d : decode cc pc = .ok (.ldc idx, 2)) (k : Gd K cells slots (pc + 2) L (.int (zI n) :: rest) ws) : Gd K cells slots pc L (rest) ws := by
  obtain ⟨p, l, e, R, s, m, args, below, meth, c, A, H0, Q, D, t⟩ := K
  obtain ⟨hx, hb, hml, ho, hts, hK, hA⟩ := C
  intro H locs ls hP hD hS hl
  exact lv_ldc hx hb ho (hts _ hw) d (k H locs ls hP hD hS hl)
theorem z_ldc2 (C : Fc K cc own nL) {n : Int} {idx : Nat} (hw : Cond.constantLong own idx (zL n) ∈ wsL_law) (d : decode cc pc = .ok (.ldc2_w idx, 3)) (k : Gd K cells slots (pc + 3) L (.long (zL n) :: rest) ws) : Gd K cells slots pc L (rest) ws := by
  obtain ⟨p, l, e, R, s, m, args, below, meth, c, A, H0, Q, D, t⟩ := K
  obtain ⟨hx, hb, hml, ho, hts, hK, hA⟩ := C
  intro H locs ls hP hD hS hl
  exact lv_ldc2 hx hb ho (hts _ hw) d (k H locs ls hP hD hS hl)
theorem z_lconst (C : Fc K cc own nL) {n : Fin 2} {x : Int} (hv : Int64.ofNat (n : Nat) = zL x) (d : decode cc pc = .ok (.lconst n, 1)) (k : Gd K cells slots (pc + 1) L (.long (zL x) :: rest) ws) : Gd K cells slots pc L (rest) ws := by
  obtain ⟨p, l, e, R, s, m, args, below, meth, c, A, H0, Q, D, t⟩ := K
  obtain ⟨hx, hb, hml, ho, hts, hK, hA⟩ := C
  intro H locs ls hP hD hS hl
  exact lv_lconst hx hb d hv (k H locs ls hP hD hS hl)
theorem z_iload_n (C : Fc K cc own nL) {i : Fin 4} {x : Int32} (d : decode cc pc = .ok (.iload_n i, 1)) (hi : L[(i : Nat)]? = some (some (.int x))) (k : Gd K cells slots (pc + 1) L (.int x :: rest) ws) : Gd K cells slots pc L (rest) ws := by
  obtain ⟨p, l, e, R, s, m, args, below, meth, c, A, H0, Q, D, t⟩ := K
  obtain ⟨hx, hb, hml, ho, hts, hK, hA⟩ := C
  intro H locs ls hP hD hS hl
  exact lv_iload_n hx hb d rfl (z_has hl hi) (k H locs ls hP hD hS hl)
theorem z_iload (C : Fc K cc own nL) {i : Nat} {x : Int32} (d : decode cc pc = .ok (.iload i, 2)) (hi : L[i]? = some (some (.int x))) (k : Gd K cells slots (pc + 2) L (.int x :: rest) ws) : Gd K cells slots pc L (rest) ws := by
  obtain ⟨p, l, e, R, s, m, args, below, meth, c, A, H0, Q, D, t⟩ := K
  obtain ⟨hx, hb, hml, ho, hts, hK, hA⟩ := C
  intro H locs ls hP hD hS hl
  exact lv_iload hx hb d (z_has hl hi) (k H locs ls hP hD hS hl)
theorem z_lload_n (C : Fc K cc own nL) {i : Fin 4} {x : Int64} (d : decode cc pc = .ok (.lload_n i, 1)) (hi : L[(i : Nat)]? = some (some (.long x))) (k : Gd K cells slots (pc + 1) L (.long x :: rest) ws) : Gd K cells slots pc L (rest) ws := by
  obtain ⟨p, l, e, R, s, m, args, below, meth, c, A, H0, Q, D, t⟩ := K
  obtain ⟨hx, hb, hml, ho, hts, hK, hA⟩ := C
  intro H locs ls hP hD hS hl
  exact lv_lload_n hx hb d rfl (z_has hl hi) (k H locs ls hP hD hS hl)
theorem z_lload (C : Fc K cc own nL) {i : Nat} {x : Int64} (d : decode cc pc = .ok (.lload i, 2)) (hi : L[i]? = some (some (.long x))) (k : Gd K cells slots (pc + 2) L (.long x :: rest) ws) : Gd K cells slots pc L (rest) ws := by
  obtain ⟨p, l, e, R, s, m, args, below, meth, c, A, H0, Q, D, t⟩ := K
  obtain ⟨hx, hb, hml, ho, hts, hK, hA⟩ := C
  intro H locs ls hP hD hS hl
  exact lv_lload hx hb d (z_has hl hi) (k H locs ls hP hD hS hl)
theorem z_aload_n (C : Fc K cc own nL) {i : Fin 4} {x : Nat} (d : decode cc pc = .ok (.aload_n i, 1)) (hi : L[(i : Nat)]? = some (some (.ref x))) (k : Gd K cells slots (pc + 1) L (.ref x :: rest) ws) : Gd K cells slots pc L (rest) ws := by
  obtain ⟨p, l, e, R, s, m, args, below, meth, c, A, H0, Q, D, t⟩ := K
  obtain ⟨hx, hb, hml, ho, hts, hK, hA⟩ := C
  intro H locs ls hP hD hS hl
  exact lv_aload_n hx hb d rfl (z_has hl hi) (k H locs ls hP hD hS hl)
theorem z_aload (C : Fc K cc own nL) {i : Nat} {x : Nat} (d : decode cc pc = .ok (.aload i, 2)) (hi : L[i]? = some (some (.ref x))) (k : Gd K cells slots (pc + 2) L (.ref x :: rest) ws) : Gd K cells slots pc L (rest) ws := by
  obtain ⟨p, l, e, R, s, m, args, below, meth, c, A, H0, Q, D, t⟩ := K
  obtain ⟨hx, hb, hml, ho, hts, hK, hA⟩ := C
  intro H locs ls hP hD hS hl
  exact lv_aload hx hb d (z_has hl hi) (k H locs ls hP hD hS hl)
def z_ok1 : Option Value → Bool
  | some (.long _) => false
  | some (.double _) => false
  | _ => true
theorem z_ok1_c {v : Value} (h : z_ok1 (some v) = true) : v.category = 1 := by cases v <;> first | rfl | (simp [z_ok1] at h)
theorem z_set1 {ls : Array Slot} {L L' : List (Option Value)} {i : Nat} {v : Value} (hL : L' = L.set i (some v)) (hi : i < L.length) (hp : ∀ j, j + 1 = i → ∀ u, L[j]? = some u → z_ok1 u = true) (h : lv_has ls L.length ((i, v) :: (z_asc 0 L).filter (fun q => !(q.1 == i) && !(q.1 + 1 == i && q.2.category == 2)))) : lv_has ls L'.length (z_asc 0 L') := by
  subst hL
  refine z_sub h (by simp) fun j u hj => ?_
  by_cases e : j = i
  · subst e
    rw [List.getElem?_set_self hi] at hj
    cases hj
    exact List.mem_cons_self
  · rw [List.getElem?_set_ne (Ne.symm e)] at hj
    refine List.mem_cons_of_mem _ (List.mem_filter.mpr ⟨(z_asc_mem L 0 j u).mpr ⟨Nat.zero_le _, hj⟩, ?_⟩)
    by_cases e2 : j + 1 = i
    · have hc := z_ok1_c (hp j e2 _ hj)
      simp [e, e2, hc]
    · simp [e, e2]
theorem z_set2 {ls : Array Slot} {L L' : List (Option Value)} {i : Nat} {v : Value} (hL : L' = (L.set i (some v)).set (i + 1) none) (hi : i + 1 < L.length) (hp : ∀ j, j + 1 = i → ∀ u, L[j]? = some u → z_ok1 u = true) (h : lv_has ls L.length ((i, v) :: (z_asc 0 L).filter (fun q => !(q.1 == i) && (!(q.1 == i + 1) && !(q.1 + 1 == i && q.2.category == 2))))) : lv_has ls L'.length (z_asc 0 L') := by
  subst hL
  refine z_sub h (by simp) fun j u hj => ?_
  by_cases e1 : j = i + 1
  · subst e1
    rw [List.getElem?_set_self (by simpa using hi)] at hj
    cases hj
  rw [List.getElem?_set_ne (Ne.symm e1)] at hj
  by_cases e : j = i
  · subst e
    rw [List.getElem?_set_self (by omega)] at hj
    cases hj
    exact List.mem_cons_self
  · rw [List.getElem?_set_ne (Ne.symm e)] at hj
    refine List.mem_cons_of_mem _ (List.mem_filter.mpr ⟨(z_asc_mem L 0 j u).mpr ⟨Nat.zero_le _, hj⟩, ?_⟩)
    by_cases e2 : j + 1 = i
    · have hc := z_ok1_c (hp j e2 _ hj)
      simp [e, e1, e2, hc]
    · simp [e, e1, e2]
theorem z_istore_n0 (C : Fc K cc own nL) {a0 : Option Value} {r : List (Option Value)} {x : Int32} (d : decode cc pc = .ok (.istore_n 0, 1)) (k : Gd K cells slots (pc + 1) (some (.int x) :: r) rest ws) : Gd K cells slots pc (a0 :: r) (.int x :: rest) ws := by
  obtain ⟨p, l, e, R, s, m, args, below, meth, c, A, H0, Q, D, t⟩ := K
  obtain ⟨hx, hb, hml, ho, hts, hK, hA⟩ := C
  intro H locs ls hP hD hS hl
  refine lv_istore_n hx hb d rfl hl (by simp only [List.length_cons]; omega) rfl fun ls' hl' => ?_
  exact k H locs ls' hP hD hS (z_set1 (i := 0) rfl (by simp only [List.length_cons]; omega) (fun j hj => by omega) hl')
theorem z_istore0 (C : Fc K cc own nL) {a0 : Option Value} {r : List (Option Value)} {x : Int32} (d : decode cc pc = .ok (.istore 0, 2)) (k : Gd K cells slots (pc + 2) (some (.int x) :: r) rest ws) : Gd K cells slots pc (a0 :: r) (.int x :: rest) ws := by
  obtain ⟨p, l, e, R, s, m, args, below, meth, c, A, H0, Q, D, t⟩ := K
  obtain ⟨hx, hb, hml, ho, hts, hK, hA⟩ := C
  intro H locs ls hP hD hS hl
  refine lv_istore hx hb d hl (by simp only [List.length_cons]; omega) rfl fun ls' hl' => ?_
  exact k H locs ls' hP hD hS (z_set1 (i := 0) rfl (by simp only [List.length_cons]; omega) (fun j hj => by omega) hl')
theorem z_istore_n1 (C : Fc K cc own nL) {a0 a1 : Option Value} {r : List (Option Value)} {x : Int32} (d : decode cc pc = .ok (.istore_n 1, 1)) (hp : z_ok1 a0 = true) (k : Gd K cells slots (pc + 1) (a0 :: some (.int x) :: r) rest ws) : Gd K cells slots pc (a0 :: a1 :: r) (.int x :: rest) ws := by
  obtain ⟨p, l, e, R, s, m, args, below, meth, c, A, H0, Q, D, t⟩ := K
  obtain ⟨hx, hb, hml, ho, hts, hK, hA⟩ := C
  intro H locs ls hP hD hS hl
  refine lv_istore_n hx hb d rfl hl (by simp only [List.length_cons]; omega) rfl fun ls' hl' => ?_
  exact k H locs ls' hP hD hS (z_set1 (i := 1) rfl (by simp only [List.length_cons]; omega) (fun j hj u hu => by
    obtain rfl : j = 0 := by omega
    cases hu; exact hp) hl')
theorem z_istore1 (C : Fc K cc own nL) {a0 a1 : Option Value} {r : List (Option Value)} {x : Int32} (d : decode cc pc = .ok (.istore 1, 2)) (hp : z_ok1 a0 = true) (k : Gd K cells slots (pc + 2) (a0 :: some (.int x) :: r) rest ws) : Gd K cells slots pc (a0 :: a1 :: r) (.int x :: rest) ws := by
  obtain ⟨p, l, e, R, s, m, args, below, meth, c, A, H0, Q, D, t⟩ := K
  obtain ⟨hx, hb, hml, ho, hts, hK, hA⟩ := C
  intro H locs ls hP hD hS hl
  refine lv_istore hx hb d hl (by simp only [List.length_cons]; omega) rfl fun ls' hl' => ?_
  exact k H locs ls' hP hD hS (z_set1 (i := 1) rfl (by simp only [List.length_cons]; omega) (fun j hj u hu => by
    obtain rfl : j = 0 := by omega
    cases hu; exact hp) hl')
theorem z_istore_n2 (C : Fc K cc own nL) {a0 a1 a2 : Option Value} {r : List (Option Value)} {x : Int32} (d : decode cc pc = .ok (.istore_n 2, 1)) (hp : z_ok1 a1 = true) (k : Gd K cells slots (pc + 1) (a0 :: a1 :: some (.int x) :: r) rest ws) : Gd K cells slots pc (a0 :: a1 :: a2 :: r) (.int x :: rest) ws := by
  obtain ⟨p, l, e, R, s, m, args, below, meth, c, A, H0, Q, D, t⟩ := K
  obtain ⟨hx, hb, hml, ho, hts, hK, hA⟩ := C
  intro H locs ls hP hD hS hl
  refine lv_istore_n hx hb d rfl hl (by simp only [List.length_cons]; omega) rfl fun ls' hl' => ?_
  exact k H locs ls' hP hD hS (z_set1 (i := 2) rfl (by simp only [List.length_cons]; omega) (fun j hj u hu => by
    obtain rfl : j = 1 := by omega
    cases hu; exact hp) hl')
theorem z_istore2 (C : Fc K cc own nL) {a0 a1 a2 : Option Value} {r : List (Option Value)} {x : Int32} (d : decode cc pc = .ok (.istore 2, 2)) (hp : z_ok1 a1 = true) (k : Gd K cells slots (pc + 2) (a0 :: a1 :: some (.int x) :: r) rest ws) : Gd K cells slots pc (a0 :: a1 :: a2 :: r) (.int x :: rest) ws := by
  obtain ⟨p, l, e, R, s, m, args, below, meth, c, A, H0, Q, D, t⟩ := K
  obtain ⟨hx, hb, hml, ho, hts, hK, hA⟩ := C
  intro H locs ls hP hD hS hl
  refine lv_istore hx hb d hl (by simp only [List.length_cons]; omega) rfl fun ls' hl' => ?_
  exact k H locs ls' hP hD hS (z_set1 (i := 2) rfl (by simp only [List.length_cons]; omega) (fun j hj u hu => by
    obtain rfl : j = 1 := by omega
    cases hu; exact hp) hl')
theorem z_istore_n3 (C : Fc K cc own nL) {a0 a1 a2 a3 : Option Value} {r : List (Option Value)} {x : Int32} (d : decode cc pc = .ok (.istore_n 3, 1)) (hp : z_ok1 a2 = true) (k : Gd K cells slots (pc + 1) (a0 :: a1 :: a2 :: some (.int x) :: r) rest ws) : Gd K cells slots pc (a0 :: a1 :: a2 :: a3 :: r) (.int x :: rest) ws := by
  obtain ⟨p, l, e, R, s, m, args, below, meth, c, A, H0, Q, D, t⟩ := K
  obtain ⟨hx, hb, hml, ho, hts, hK, hA⟩ := C
  intro H locs ls hP hD hS hl
  refine lv_istore_n hx hb d rfl hl (by simp only [List.length_cons]; omega) rfl fun ls' hl' => ?_
  exact k H locs ls' hP hD hS (z_set1 (i := 3) rfl (by simp only [List.length_cons]; omega) (fun j hj u hu => by
    obtain rfl : j = 2 := by omega
    cases hu; exact hp) hl')
theorem z_istore3 (C : Fc K cc own nL) {a0 a1 a2 a3 : Option Value} {r : List (Option Value)} {x : Int32} (d : decode cc pc = .ok (.istore 3, 2)) (hp : z_ok1 a2 = true) (k : Gd K cells slots (pc + 2) (a0 :: a1 :: a2 :: some (.int x) :: r) rest ws) : Gd K cells slots pc (a0 :: a1 :: a2 :: a3 :: r) (.int x :: rest) ws := by
  obtain ⟨p, l, e, R, s, m, args, below, meth, c, A, H0, Q, D, t⟩ := K
  obtain ⟨hx, hb, hml, ho, hts, hK, hA⟩ := C
  intro H locs ls hP hD hS hl
  refine lv_istore hx hb d hl (by simp only [List.length_cons]; omega) rfl fun ls' hl' => ?_
  exact k H locs ls' hP hD hS (z_set1 (i := 3) rfl (by simp only [List.length_cons]; omega) (fun j hj u hu => by
    obtain rfl : j = 2 := by omega
    cases hu; exact hp) hl')
theorem z_istore4 (C : Fc K cc own nL) {a0 a1 a2 a3 a4 : Option Value} {r : List (Option Value)} {x : Int32} (d : decode cc pc = .ok (.istore 4, 2)) (hp : z_ok1 a3 = true) (k : Gd K cells slots (pc + 2) (a0 :: a1 :: a2 :: a3 :: some (.int x) :: r) rest ws) : Gd K cells slots pc (a0 :: a1 :: a2 :: a3 :: a4 :: r) (.int x :: rest) ws := by
  obtain ⟨p, l, e, R, s, m, args, below, meth, c, A, H0, Q, D, t⟩ := K
  obtain ⟨hx, hb, hml, ho, hts, hK, hA⟩ := C
  intro H locs ls hP hD hS hl
  refine lv_istore hx hb d hl (by simp only [List.length_cons]; omega) rfl fun ls' hl' => ?_
  exact k H locs ls' hP hD hS (z_set1 (i := 4) rfl (by simp only [List.length_cons]; omega) (fun j hj u hu => by
    obtain rfl : j = 3 := by omega
    cases hu; exact hp) hl')
theorem z_istore5 (C : Fc K cc own nL) {a0 a1 a2 a3 a4 a5 : Option Value} {r : List (Option Value)} {x : Int32} (d : decode cc pc = .ok (.istore 5, 2)) (hp : z_ok1 a4 = true) (k : Gd K cells slots (pc + 2) (a0 :: a1 :: a2 :: a3 :: a4 :: some (.int x) :: r) rest ws) : Gd K cells slots pc (a0 :: a1 :: a2 :: a3 :: a4 :: a5 :: r) (.int x :: rest) ws := by
  obtain ⟨p, l, e, R, s, m, args, below, meth, c, A, H0, Q, D, t⟩ := K
  obtain ⟨hx, hb, hml, ho, hts, hK, hA⟩ := C
  intro H locs ls hP hD hS hl
  refine lv_istore hx hb d hl (by simp only [List.length_cons]; omega) rfl fun ls' hl' => ?_
  exact k H locs ls' hP hD hS (z_set1 (i := 5) rfl (by simp only [List.length_cons]; omega) (fun j hj u hu => by
    obtain rfl : j = 4 := by omega
    cases hu; exact hp) hl')
theorem z_istore6 (C : Fc K cc own nL) {a0 a1 a2 a3 a4 a5 a6 : Option Value} {r : List (Option Value)} {x : Int32} (d : decode cc pc = .ok (.istore 6, 2)) (hp : z_ok1 a5 = true) (k : Gd K cells slots (pc + 2) (a0 :: a1 :: a2 :: a3 :: a4 :: a5 :: some (.int x) :: r) rest ws) : Gd K cells slots pc (a0 :: a1 :: a2 :: a3 :: a4 :: a5 :: a6 :: r) (.int x :: rest) ws := by
  obtain ⟨p, l, e, R, s, m, args, below, meth, c, A, H0, Q, D, t⟩ := K
  obtain ⟨hx, hb, hml, ho, hts, hK, hA⟩ := C
  intro H locs ls hP hD hS hl
  refine lv_istore hx hb d hl (by simp only [List.length_cons]; omega) rfl fun ls' hl' => ?_
  exact k H locs ls' hP hD hS (z_set1 (i := 6) rfl (by simp only [List.length_cons]; omega) (fun j hj u hu => by
    obtain rfl : j = 5 := by omega
    cases hu; exact hp) hl')
theorem z_istore7 (C : Fc K cc own nL) {a0 a1 a2 a3 a4 a5 a6 a7 : Option Value} {r : List (Option Value)} {x : Int32} (d : decode cc pc = .ok (.istore 7, 2)) (hp : z_ok1 a6 = true) (k : Gd K cells slots (pc + 2) (a0 :: a1 :: a2 :: a3 :: a4 :: a5 :: a6 :: some (.int x) :: r) rest ws) : Gd K cells slots pc (a0 :: a1 :: a2 :: a3 :: a4 :: a5 :: a6 :: a7 :: r) (.int x :: rest) ws := by
  obtain ⟨p, l, e, R, s, m, args, below, meth, c, A, H0, Q, D, t⟩ := K
  obtain ⟨hx, hb, hml, ho, hts, hK, hA⟩ := C
  intro H locs ls hP hD hS hl
  refine lv_istore hx hb d hl (by simp only [List.length_cons]; omega) rfl fun ls' hl' => ?_
  exact k H locs ls' hP hD hS (z_set1 (i := 7) rfl (by simp only [List.length_cons]; omega) (fun j hj u hu => by
    obtain rfl : j = 6 := by omega
    cases hu; exact hp) hl')
theorem z_istore8 (C : Fc K cc own nL) {a0 a1 a2 a3 a4 a5 a6 a7 a8 : Option Value} {r : List (Option Value)} {x : Int32} (d : decode cc pc = .ok (.istore 8, 2)) (hp : z_ok1 a7 = true) (k : Gd K cells slots (pc + 2) (a0 :: a1 :: a2 :: a3 :: a4 :: a5 :: a6 :: a7 :: some (.int x) :: r) rest ws) : Gd K cells slots pc (a0 :: a1 :: a2 :: a3 :: a4 :: a5 :: a6 :: a7 :: a8 :: r) (.int x :: rest) ws := by
  obtain ⟨p, l, e, R, s, m, args, below, meth, c, A, H0, Q, D, t⟩ := K
  obtain ⟨hx, hb, hml, ho, hts, hK, hA⟩ := C
  intro H locs ls hP hD hS hl
  refine lv_istore hx hb d hl (by simp only [List.length_cons]; omega) rfl fun ls' hl' => ?_
  exact k H locs ls' hP hD hS (z_set1 (i := 8) rfl (by simp only [List.length_cons]; omega) (fun j hj u hu => by
    obtain rfl : j = 7 := by omega
    cases hu; exact hp) hl')
theorem z_istore9 (C : Fc K cc own nL) {a0 a1 a2 a3 a4 a5 a6 a7 a8 a9 : Option Value} {r : List (Option Value)} {x : Int32} (d : decode cc pc = .ok (.istore 9, 2)) (hp : z_ok1 a8 = true) (k : Gd K cells slots (pc + 2) (a0 :: a1 :: a2 :: a3 :: a4 :: a5 :: a6 :: a7 :: a8 :: some (.int x) :: r) rest ws) : Gd K cells slots pc (a0 :: a1 :: a2 :: a3 :: a4 :: a5 :: a6 :: a7 :: a8 :: a9 :: r) (.int x :: rest) ws := by
  obtain ⟨p, l, e, R, s, m, args, below, meth, c, A, H0, Q, D, t⟩ := K
  obtain ⟨hx, hb, hml, ho, hts, hK, hA⟩ := C
  intro H locs ls hP hD hS hl
  refine lv_istore hx hb d hl (by simp only [List.length_cons]; omega) rfl fun ls' hl' => ?_
  exact k H locs ls' hP hD hS (z_set1 (i := 9) rfl (by simp only [List.length_cons]; omega) (fun j hj u hu => by
    obtain rfl : j = 8 := by omega
    cases hu; exact hp) hl')
theorem z_istore10 (C : Fc K cc own nL) {a0 a1 a2 a3 a4 a5 a6 a7 a8 a9 a10 : Option Value} {r : List (Option Value)} {x : Int32} (d : decode cc pc = .ok (.istore 10, 2)) (hp : z_ok1 a9 = true) (k : Gd K cells slots (pc + 2) (a0 :: a1 :: a2 :: a3 :: a4 :: a5 :: a6 :: a7 :: a8 :: a9 :: some (.int x) :: r) rest ws) : Gd K cells slots pc (a0 :: a1 :: a2 :: a3 :: a4 :: a5 :: a6 :: a7 :: a8 :: a9 :: a10 :: r) (.int x :: rest) ws := by
  obtain ⟨p, l, e, R, s, m, args, below, meth, c, A, H0, Q, D, t⟩ := K
  obtain ⟨hx, hb, hml, ho, hts, hK, hA⟩ := C
  intro H locs ls hP hD hS hl
  refine lv_istore hx hb d hl (by simp only [List.length_cons]; omega) rfl fun ls' hl' => ?_
  exact k H locs ls' hP hD hS (z_set1 (i := 10) rfl (by simp only [List.length_cons]; omega) (fun j hj u hu => by
    obtain rfl : j = 9 := by omega
    cases hu; exact hp) hl')
theorem z_istore11 (C : Fc K cc own nL) {a0 a1 a2 a3 a4 a5 a6 a7 a8 a9 a10 a11 : Option Value} {r : List (Option Value)} {x : Int32} (d : decode cc pc = .ok (.istore 11, 2)) (hp : z_ok1 a10 = true) (k : Gd K cells slots (pc + 2) (a0 :: a1 :: a2 :: a3 :: a4 :: a5 :: a6 :: a7 :: a8 :: a9 :: a10 :: some (.int x) :: r) rest ws) : Gd K cells slots pc (a0 :: a1 :: a2 :: a3 :: a4 :: a5 :: a6 :: a7 :: a8 :: a9 :: a10 :: a11 :: r) (.int x :: rest) ws := by
  obtain ⟨p, l, e, R, s, m, args, below, meth, c, A, H0, Q, D, t⟩ := K
  obtain ⟨hx, hb, hml, ho, hts, hK, hA⟩ := C
  intro H locs ls hP hD hS hl
  refine lv_istore hx hb d hl (by simp only [List.length_cons]; omega) rfl fun ls' hl' => ?_
  exact k H locs ls' hP hD hS (z_set1 (i := 11) rfl (by simp only [List.length_cons]; omega) (fun j hj u hu => by
    obtain rfl : j = 10 := by omega
    cases hu; exact hp) hl')
theorem z_istore12 (C : Fc K cc own nL) {a0 a1 a2 a3 a4 a5 a6 a7 a8 a9 a10 a11 a12 : Option Value} {r : List (Option Value)} {x : Int32} (d : decode cc pc = .ok (.istore 12, 2)) (hp : z_ok1 a11 = true) (k : Gd K cells slots (pc + 2) (a0 :: a1 :: a2 :: a3 :: a4 :: a5 :: a6 :: a7 :: a8 :: a9 :: a10 :: a11 :: some (.int x) :: r) rest ws) : Gd K cells slots pc (a0 :: a1 :: a2 :: a3 :: a4 :: a5 :: a6 :: a7 :: a8 :: a9 :: a10 :: a11 :: a12 :: r) (.int x :: rest) ws := by
  obtain ⟨p, l, e, R, s, m, args, below, meth, c, A, H0, Q, D, t⟩ := K
  obtain ⟨hx, hb, hml, ho, hts, hK, hA⟩ := C
  intro H locs ls hP hD hS hl
  refine lv_istore hx hb d hl (by simp only [List.length_cons]; omega) rfl fun ls' hl' => ?_
  exact k H locs ls' hP hD hS (z_set1 (i := 12) rfl (by simp only [List.length_cons]; omega) (fun j hj u hu => by
    obtain rfl : j = 11 := by omega
    cases hu; exact hp) hl')
theorem z_istore13 (C : Fc K cc own nL) {a0 a1 a2 a3 a4 a5 a6 a7 a8 a9 a10 a11 a12 a13 : Option Value} {r : List (Option Value)} {x : Int32} (d : decode cc pc = .ok (.istore 13, 2)) (hp : z_ok1 a12 = true) (k : Gd K cells slots (pc + 2) (a0 :: a1 :: a2 :: a3 :: a4 :: a5 :: a6 :: a7 :: a8 :: a9 :: a10 :: a11 :: a12 :: some (.int x) :: r) rest ws) : Gd K cells slots pc (a0 :: a1 :: a2 :: a3 :: a4 :: a5 :: a6 :: a7 :: a8 :: a9 :: a10 :: a11 :: a12 :: a13 :: r) (.int x :: rest) ws := by
  obtain ⟨p, l, e, R, s, m, args, below, meth, c, A, H0, Q, D, t⟩ := K
  obtain ⟨hx, hb, hml, ho, hts, hK, hA⟩ := C
  intro H locs ls hP hD hS hl
  refine lv_istore hx hb d hl (by simp only [List.length_cons]; omega) rfl fun ls' hl' => ?_
  exact k H locs ls' hP hD hS (z_set1 (i := 13) rfl (by simp only [List.length_cons]; omega) (fun j hj u hu => by
    obtain rfl : j = 12 := by omega
    cases hu; exact hp) hl')
theorem z_istore14 (C : Fc K cc own nL) {a0 a1 a2 a3 a4 a5 a6 a7 a8 a9 a10 a11 a12 a13 a14 : Option Value} {r : List (Option Value)} {x : Int32} (d : decode cc pc = .ok (.istore 14, 2)) (hp : z_ok1 a13 = true) (k : Gd K cells slots (pc + 2) (a0 :: a1 :: a2 :: a3 :: a4 :: a5 :: a6 :: a7 :: a8 :: a9 :: a10 :: a11 :: a12 :: a13 :: some (.int x) :: r) rest ws) : Gd K cells slots pc (a0 :: a1 :: a2 :: a3 :: a4 :: a5 :: a6 :: a7 :: a8 :: a9 :: a10 :: a11 :: a12 :: a13 :: a14 :: r) (.int x :: rest) ws := by
  obtain ⟨p, l, e, R, s, m, args, below, meth, c, A, H0, Q, D, t⟩ := K
  obtain ⟨hx, hb, hml, ho, hts, hK, hA⟩ := C
  intro H locs ls hP hD hS hl
  refine lv_istore hx hb d hl (by simp only [List.length_cons]; omega) rfl fun ls' hl' => ?_
  exact k H locs ls' hP hD hS (z_set1 (i := 14) rfl (by simp only [List.length_cons]; omega) (fun j hj u hu => by
    obtain rfl : j = 13 := by omega
    cases hu; exact hp) hl')
theorem z_istore15 (C : Fc K cc own nL) {a0 a1 a2 a3 a4 a5 a6 a7 a8 a9 a10 a11 a12 a13 a14 a15 : Option Value} {r : List (Option Value)} {x : Int32} (d : decode cc pc = .ok (.istore 15, 2)) (hp : z_ok1 a14 = true) (k : Gd K cells slots (pc + 2) (a0 :: a1 :: a2 :: a3 :: a4 :: a5 :: a6 :: a7 :: a8 :: a9 :: a10 :: a11 :: a12 :: a13 :: a14 :: some (.int x) :: r) rest ws) : Gd K cells slots pc (a0 :: a1 :: a2 :: a3 :: a4 :: a5 :: a6 :: a7 :: a8 :: a9 :: a10 :: a11 :: a12 :: a13 :: a14 :: a15 :: r) (.int x :: rest) ws := by
  obtain ⟨p, l, e, R, s, m, args, below, meth, c, A, H0, Q, D, t⟩ := K
  obtain ⟨hx, hb, hml, ho, hts, hK, hA⟩ := C
  intro H locs ls hP hD hS hl
  refine lv_istore hx hb d hl (by simp only [List.length_cons]; omega) rfl fun ls' hl' => ?_
  exact k H locs ls' hP hD hS (z_set1 (i := 15) rfl (by simp only [List.length_cons]; omega) (fun j hj u hu => by
    obtain rfl : j = 14 := by omega
    cases hu; exact hp) hl')
theorem z_astore_n0 (C : Fc K cc own nL) {a0 : Option Value} {r : List (Option Value)} {x : Nat} (d : decode cc pc = .ok (.astore_n 0, 1)) (k : Gd K cells slots (pc + 1) (some (.ref x) :: r) rest ws) : Gd K cells slots pc (a0 :: r) (.ref x :: rest) ws := by
  obtain ⟨p, l, e, R, s, m, args, below, meth, c, A, H0, Q, D, t⟩ := K
  obtain ⟨hx, hb, hml, ho, hts, hK, hA⟩ := C
  intro H locs ls hP hD hS hl
  refine lv_astore_n hx hb d rfl hl (by simp only [List.length_cons]; omega) rfl fun ls' hl' => ?_
  exact k H locs ls' hP hD hS (z_set1 (i := 0) rfl (by simp only [List.length_cons]; omega) (fun j hj => by omega) hl')
theorem z_astore0 (C : Fc K cc own nL) {a0 : Option Value} {r : List (Option Value)} {x : Nat} (d : decode cc pc = .ok (.astore 0, 2)) (k : Gd K cells slots (pc + 2) (some (.ref x) :: r) rest ws) : Gd K cells slots pc (a0 :: r) (.ref x :: rest) ws := by
  obtain ⟨p, l, e, R, s, m, args, below, meth, c, A, H0, Q, D, t⟩ := K
  obtain ⟨hx, hb, hml, ho, hts, hK, hA⟩ := C
  intro H locs ls hP hD hS hl
  refine lv_astore hx hb d hl (by simp only [List.length_cons]; omega) rfl fun ls' hl' => ?_
  exact k H locs ls' hP hD hS (z_set1 (i := 0) rfl (by simp only [List.length_cons]; omega) (fun j hj => by omega) hl')
theorem z_astore_n1 (C : Fc K cc own nL) {a0 a1 : Option Value} {r : List (Option Value)} {x : Nat} (d : decode cc pc = .ok (.astore_n 1, 1)) (hp : z_ok1 a0 = true) (k : Gd K cells slots (pc + 1) (a0 :: some (.ref x) :: r) rest ws) : Gd K cells slots pc (a0 :: a1 :: r) (.ref x :: rest) ws := by
  obtain ⟨p, l, e, R, s, m, args, below, meth, c, A, H0, Q, D, t⟩ := K
  obtain ⟨hx, hb, hml, ho, hts, hK, hA⟩ := C
  intro H locs ls hP hD hS hl
  refine lv_astore_n hx hb d rfl hl (by simp only [List.length_cons]; omega) rfl fun ls' hl' => ?_
  exact k H locs ls' hP hD hS (z_set1 (i := 1) rfl (by simp only [List.length_cons]; omega) (fun j hj u hu => by
    obtain rfl : j = 0 := by omega
    cases hu; exact hp) hl')
theorem z_astore1 (C : Fc K cc own nL) {a0 a1 : Option Value} {r : List (Option Value)} {x : Nat} (d : decode cc pc = .ok (.astore 1, 2)) (hp : z_ok1 a0 = true) (k : Gd K cells slots (pc + 2) (a0 :: some (.ref x) :: r) rest ws) : Gd K cells slots pc (a0 :: a1 :: r) (.ref x :: rest) ws := by
  obtain ⟨p, l, e, R, s, m, args, below, meth, c, A, H0, Q, D, t⟩ := K
  obtain ⟨hx, hb, hml, ho, hts, hK, hA⟩ := C
  intro H locs ls hP hD hS hl
  refine lv_astore hx hb d hl (by simp only [List.length_cons]; omega) rfl fun ls' hl' => ?_
  exact k H locs ls' hP hD hS (z_set1 (i := 1) rfl (by simp only [List.length_cons]; omega) (fun j hj u hu => by
    obtain rfl : j = 0 := by omega
    cases hu; exact hp) hl')
theorem z_astore_n2 (C : Fc K cc own nL) {a0 a1 a2 : Option Value} {r : List (Option Value)} {x : Nat} (d : decode cc pc = .ok (.astore_n 2, 1)) (hp : z_ok1 a1 = true) (k : Gd K cells slots (pc + 1) (a0 :: a1 :: some (.ref x) :: r) rest ws) : Gd K cells slots pc (a0 :: a1 :: a2 :: r) (.ref x :: rest) ws := by
  obtain ⟨p, l, e, R, s, m, args, below, meth, c, A, H0, Q, D, t⟩ := K
  obtain ⟨hx, hb, hml, ho, hts, hK, hA⟩ := C
  intro H locs ls hP hD hS hl
  refine lv_astore_n hx hb d rfl hl (by simp only [List.length_cons]; omega) rfl fun ls' hl' => ?_
  exact k H locs ls' hP hD hS (z_set1 (i := 2) rfl (by simp only [List.length_cons]; omega) (fun j hj u hu => by
    obtain rfl : j = 1 := by omega
    cases hu; exact hp) hl')
theorem z_astore2 (C : Fc K cc own nL) {a0 a1 a2 : Option Value} {r : List (Option Value)} {x : Nat} (d : decode cc pc = .ok (.astore 2, 2)) (hp : z_ok1 a1 = true) (k : Gd K cells slots (pc + 2) (a0 :: a1 :: some (.ref x) :: r) rest ws) : Gd K cells slots pc (a0 :: a1 :: a2 :: r) (.ref x :: rest) ws := by
  obtain ⟨p, l, e, R, s, m, args, below, meth, c, A, H0, Q, D, t⟩ := K
  obtain ⟨hx, hb, hml, ho, hts, hK, hA⟩ := C
  intro H locs ls hP hD hS hl
  refine lv_astore hx hb d hl (by simp only [List.length_cons]; omega) rfl fun ls' hl' => ?_
  exact k H locs ls' hP hD hS (z_set1 (i := 2) rfl (by simp only [List.length_cons]; omega) (fun j hj u hu => by
    obtain rfl : j = 1 := by omega
    cases hu; exact hp) hl')
theorem z_astore_n3 (C : Fc K cc own nL) {a0 a1 a2 a3 : Option Value} {r : List (Option Value)} {x : Nat} (d : decode cc pc = .ok (.astore_n 3, 1)) (hp : z_ok1 a2 = true) (k : Gd K cells slots (pc + 1) (a0 :: a1 :: a2 :: some (.ref x) :: r) rest ws) : Gd K cells slots pc (a0 :: a1 :: a2 :: a3 :: r) (.ref x :: rest) ws := by
  obtain ⟨p, l, e, R, s, m, args, below, meth, c, A, H0, Q, D, t⟩ := K
  obtain ⟨hx, hb, hml, ho, hts, hK, hA⟩ := C
  intro H locs ls hP hD hS hl
  refine lv_astore_n hx hb d rfl hl (by simp only [List.length_cons]; omega) rfl fun ls' hl' => ?_
  exact k H locs ls' hP hD hS (z_set1 (i := 3) rfl (by simp only [List.length_cons]; omega) (fun j hj u hu => by
    obtain rfl : j = 2 := by omega
    cases hu; exact hp) hl')
theorem z_astore3 (C : Fc K cc own nL) {a0 a1 a2 a3 : Option Value} {r : List (Option Value)} {x : Nat} (d : decode cc pc = .ok (.astore 3, 2)) (hp : z_ok1 a2 = true) (k : Gd K cells slots (pc + 2) (a0 :: a1 :: a2 :: some (.ref x) :: r) rest ws) : Gd K cells slots pc (a0 :: a1 :: a2 :: a3 :: r) (.ref x :: rest) ws := by
  obtain ⟨p, l, e, R, s, m, args, below, meth, c, A, H0, Q, D, t⟩ := K
  obtain ⟨hx, hb, hml, ho, hts, hK, hA⟩ := C
  intro H locs ls hP hD hS hl
  refine lv_astore hx hb d hl (by simp only [List.length_cons]; omega) rfl fun ls' hl' => ?_
  exact k H locs ls' hP hD hS (z_set1 (i := 3) rfl (by simp only [List.length_cons]; omega) (fun j hj u hu => by
    obtain rfl : j = 2 := by omega
    cases hu; exact hp) hl')
theorem z_astore4 (C : Fc K cc own nL) {a0 a1 a2 a3 a4 : Option Value} {r : List (Option Value)} {x : Nat} (d : decode cc pc = .ok (.astore 4, 2)) (hp : z_ok1 a3 = true) (k : Gd K cells slots (pc + 2) (a0 :: a1 :: a2 :: a3 :: some (.ref x) :: r) rest ws) : Gd K cells slots pc (a0 :: a1 :: a2 :: a3 :: a4 :: r) (.ref x :: rest) ws := by
  obtain ⟨p, l, e, R, s, m, args, below, meth, c, A, H0, Q, D, t⟩ := K
  obtain ⟨hx, hb, hml, ho, hts, hK, hA⟩ := C
  intro H locs ls hP hD hS hl
  refine lv_astore hx hb d hl (by simp only [List.length_cons]; omega) rfl fun ls' hl' => ?_
  exact k H locs ls' hP hD hS (z_set1 (i := 4) rfl (by simp only [List.length_cons]; omega) (fun j hj u hu => by
    obtain rfl : j = 3 := by omega
    cases hu; exact hp) hl')
theorem z_astore5 (C : Fc K cc own nL) {a0 a1 a2 a3 a4 a5 : Option Value} {r : List (Option Value)} {x : Nat} (d : decode cc pc = .ok (.astore 5, 2)) (hp : z_ok1 a4 = true) (k : Gd K cells slots (pc + 2) (a0 :: a1 :: a2 :: a3 :: a4 :: some (.ref x) :: r) rest ws) : Gd K cells slots pc (a0 :: a1 :: a2 :: a3 :: a4 :: a5 :: r) (.ref x :: rest) ws := by
  obtain ⟨p, l, e, R, s, m, args, below, meth, c, A, H0, Q, D, t⟩ := K
  obtain ⟨hx, hb, hml, ho, hts, hK, hA⟩ := C
  intro H locs ls hP hD hS hl
  refine lv_astore hx hb d hl (by simp only [List.length_cons]; omega) rfl fun ls' hl' => ?_
  exact k H locs ls' hP hD hS (z_set1 (i := 5) rfl (by simp only [List.length_cons]; omega) (fun j hj u hu => by
    obtain rfl : j = 4 := by omega
    cases hu; exact hp) hl')
theorem z_astore6 (C : Fc K cc own nL) {a0 a1 a2 a3 a4 a5 a6 : Option Value} {r : List (Option Value)} {x : Nat} (d : decode cc pc = .ok (.astore 6, 2)) (hp : z_ok1 a5 = true) (k : Gd K cells slots (pc + 2) (a0 :: a1 :: a2 :: a3 :: a4 :: a5 :: some (.ref x) :: r) rest ws) : Gd K cells slots pc (a0 :: a1 :: a2 :: a3 :: a4 :: a5 :: a6 :: r) (.ref x :: rest) ws := by
  obtain ⟨p, l, e, R, s, m, args, below, meth, c, A, H0, Q, D, t⟩ := K
  obtain ⟨hx, hb, hml, ho, hts, hK, hA⟩ := C
  intro H locs ls hP hD hS hl
  refine lv_astore hx hb d hl (by simp only [List.length_cons]; omega) rfl fun ls' hl' => ?_
  exact k H locs ls' hP hD hS (z_set1 (i := 6) rfl (by simp only [List.length_cons]; omega) (fun j hj u hu => by
    obtain rfl : j = 5 := by omega
    cases hu; exact hp) hl')
theorem z_astore7 (C : Fc K cc own nL) {a0 a1 a2 a3 a4 a5 a6 a7 : Option Value} {r : List (Option Value)} {x : Nat} (d : decode cc pc = .ok (.astore 7, 2)) (hp : z_ok1 a6 = true) (k : Gd K cells slots (pc + 2) (a0 :: a1 :: a2 :: a3 :: a4 :: a5 :: a6 :: some (.ref x) :: r) rest ws) : Gd K cells slots pc (a0 :: a1 :: a2 :: a3 :: a4 :: a5 :: a6 :: a7 :: r) (.ref x :: rest) ws := by
  obtain ⟨p, l, e, R, s, m, args, below, meth, c, A, H0, Q, D, t⟩ := K
  obtain ⟨hx, hb, hml, ho, hts, hK, hA⟩ := C
  intro H locs ls hP hD hS hl
  refine lv_astore hx hb d hl (by simp only [List.length_cons]; omega) rfl fun ls' hl' => ?_
  exact k H locs ls' hP hD hS (z_set1 (i := 7) rfl (by simp only [List.length_cons]; omega) (fun j hj u hu => by
    obtain rfl : j = 6 := by omega
    cases hu; exact hp) hl')
theorem z_astore8 (C : Fc K cc own nL) {a0 a1 a2 a3 a4 a5 a6 a7 a8 : Option Value} {r : List (Option Value)} {x : Nat} (d : decode cc pc = .ok (.astore 8, 2)) (hp : z_ok1 a7 = true) (k : Gd K cells slots (pc + 2) (a0 :: a1 :: a2 :: a3 :: a4 :: a5 :: a6 :: a7 :: some (.ref x) :: r) rest ws) : Gd K cells slots pc (a0 :: a1 :: a2 :: a3 :: a4 :: a5 :: a6 :: a7 :: a8 :: r) (.ref x :: rest) ws := by
  obtain ⟨p, l, e, R, s, m, args, below, meth, c, A, H0, Q, D, t⟩ := K
  obtain ⟨hx, hb, hml, ho, hts, hK, hA⟩ := C
  intro H locs ls hP hD hS hl
  refine lv_astore hx hb d hl (by simp only [List.length_cons]; omega) rfl fun ls' hl' => ?_
  exact k H locs ls' hP hD hS (z_set1 (i := 8) rfl (by simp only [List.length_cons]; omega) (fun j hj u hu => by
    obtain rfl : j = 7 := by omega
    cases hu; exact hp) hl')
theorem z_astore9 (C : Fc K cc own nL) {a0 a1 a2 a3 a4 a5 a6 a7 a8 a9 : Option Value} {r : List (Option Value)} {x : Nat} (d : decode cc pc = .ok (.astore 9, 2)) (hp : z_ok1 a8 = true) (k : Gd K cells slots (pc + 2) (a0 :: a1 :: a2 :: a3 :: a4 :: a5 :: a6 :: a7 :: a8 :: some (.ref x) :: r) rest ws) : Gd K cells slots pc (a0 :: a1 :: a2 :: a3 :: a4 :: a5 :: a6 :: a7 :: a8 :: a9 :: r) (.ref x :: rest) ws := by
  obtain ⟨p, l, e, R, s, m, args, below, meth, c, A, H0, Q, D, t⟩ := K
  obtain ⟨hx, hb, hml, ho, hts, hK, hA⟩ := C
  intro H locs ls hP hD hS hl
  refine lv_astore hx hb d hl (by simp only [List.length_cons]; omega) rfl fun ls' hl' => ?_
  exact k H locs ls' hP hD hS (z_set1 (i := 9) rfl (by simp only [List.length_cons]; omega) (fun j hj u hu => by
    obtain rfl : j = 8 := by omega
    cases hu; exact hp) hl')
theorem z_astore10 (C : Fc K cc own nL) {a0 a1 a2 a3 a4 a5 a6 a7 a8 a9 a10 : Option Value} {r : List (Option Value)} {x : Nat} (d : decode cc pc = .ok (.astore 10, 2)) (hp : z_ok1 a9 = true) (k : Gd K cells slots (pc + 2) (a0 :: a1 :: a2 :: a3 :: a4 :: a5 :: a6 :: a7 :: a8 :: a9 :: some (.ref x) :: r) rest ws) : Gd K cells slots pc (a0 :: a1 :: a2 :: a3 :: a4 :: a5 :: a6 :: a7 :: a8 :: a9 :: a10 :: r) (.ref x :: rest) ws := by
  obtain ⟨p, l, e, R, s, m, args, below, meth, c, A, H0, Q, D, t⟩ := K
  obtain ⟨hx, hb, hml, ho, hts, hK, hA⟩ := C
  intro H locs ls hP hD hS hl
  refine lv_astore hx hb d hl (by simp only [List.length_cons]; omega) rfl fun ls' hl' => ?_
  exact k H locs ls' hP hD hS (z_set1 (i := 10) rfl (by simp only [List.length_cons]; omega) (fun j hj u hu => by
    obtain rfl : j = 9 := by omega
    cases hu; exact hp) hl')
theorem z_astore11 (C : Fc K cc own nL) {a0 a1 a2 a3 a4 a5 a6 a7 a8 a9 a10 a11 : Option Value} {r : List (Option Value)} {x : Nat} (d : decode cc pc = .ok (.astore 11, 2)) (hp : z_ok1 a10 = true) (k : Gd K cells slots (pc + 2) (a0 :: a1 :: a2 :: a3 :: a4 :: a5 :: a6 :: a7 :: a8 :: a9 :: a10 :: some (.ref x) :: r) rest ws) : Gd K cells slots pc (a0 :: a1 :: a2 :: a3 :: a4 :: a5 :: a6 :: a7 :: a8 :: a9 :: a10 :: a11 :: r) (.ref x :: rest) ws := by
  obtain ⟨p, l, e, R, s, m, args, below, meth, c, A, H0, Q, D, t⟩ := K
  obtain ⟨hx, hb, hml, ho, hts, hK, hA⟩ := C
  intro H locs ls hP hD hS hl
  refine lv_astore hx hb d hl (by simp only [List.length_cons]; omega) rfl fun ls' hl' => ?_
  exact k H locs ls' hP hD hS (z_set1 (i := 11) rfl (by simp only [List.length_cons]; omega) (fun j hj u hu => by
    obtain rfl : j = 10 := by omega
    cases hu; exact hp) hl')
theorem z_astore12 (C : Fc K cc own nL) {a0 a1 a2 a3 a4 a5 a6 a7 a8 a9 a10 a11 a12 : Option Value} {r : List (Option Value)} {x : Nat} (d : decode cc pc = .ok (.astore 12, 2)) (hp : z_ok1 a11 = true) (k : Gd K cells slots (pc + 2) (a0 :: a1 :: a2 :: a3 :: a4 :: a5 :: a6 :: a7 :: a8 :: a9 :: a10 :: a11 :: some (.ref x) :: r) rest ws) : Gd K cells slots pc (a0 :: a1 :: a2 :: a3 :: a4 :: a5 :: a6 :: a7 :: a8 :: a9 :: a10 :: a11 :: a12 :: r) (.ref x :: rest) ws := by
  obtain ⟨p, l, e, R, s, m, args, below, meth, c, A, H0, Q, D, t⟩ := K
  obtain ⟨hx, hb, hml, ho, hts, hK, hA⟩ := C
  intro H locs ls hP hD hS hl
  refine lv_astore hx hb d hl (by simp only [List.length_cons]; omega) rfl fun ls' hl' => ?_
  exact k H locs ls' hP hD hS (z_set1 (i := 12) rfl (by simp only [List.length_cons]; omega) (fun j hj u hu => by
    obtain rfl : j = 11 := by omega
    cases hu; exact hp) hl')
theorem z_astore13 (C : Fc K cc own nL) {a0 a1 a2 a3 a4 a5 a6 a7 a8 a9 a10 a11 a12 a13 : Option Value} {r : List (Option Value)} {x : Nat} (d : decode cc pc = .ok (.astore 13, 2)) (hp : z_ok1 a12 = true) (k : Gd K cells slots (pc + 2) (a0 :: a1 :: a2 :: a3 :: a4 :: a5 :: a6 :: a7 :: a8 :: a9 :: a10 :: a11 :: a12 :: some (.ref x) :: r) rest ws) : Gd K cells slots pc (a0 :: a1 :: a2 :: a3 :: a4 :: a5 :: a6 :: a7 :: a8 :: a9 :: a10 :: a11 :: a12 :: a13 :: r) (.ref x :: rest) ws := by
  obtain ⟨p, l, e, R, s, m, args, below, meth, c, A, H0, Q, D, t⟩ := K
  obtain ⟨hx, hb, hml, ho, hts, hK, hA⟩ := C
  intro H locs ls hP hD hS hl
  refine lv_astore hx hb d hl (by simp only [List.length_cons]; omega) rfl fun ls' hl' => ?_
  exact k H locs ls' hP hD hS (z_set1 (i := 13) rfl (by simp only [List.length_cons]; omega) (fun j hj u hu => by
    obtain rfl : j = 12 := by omega
    cases hu; exact hp) hl')
theorem z_astore14 (C : Fc K cc own nL) {a0 a1 a2 a3 a4 a5 a6 a7 a8 a9 a10 a11 a12 a13 a14 : Option Value} {r : List (Option Value)} {x : Nat} (d : decode cc pc = .ok (.astore 14, 2)) (hp : z_ok1 a13 = true) (k : Gd K cells slots (pc + 2) (a0 :: a1 :: a2 :: a3 :: a4 :: a5 :: a6 :: a7 :: a8 :: a9 :: a10 :: a11 :: a12 :: a13 :: some (.ref x) :: r) rest ws) : Gd K cells slots pc (a0 :: a1 :: a2 :: a3 :: a4 :: a5 :: a6 :: a7 :: a8 :: a9 :: a10 :: a11 :: a12 :: a13 :: a14 :: r) (.ref x :: rest) ws := by
  obtain ⟨p, l, e, R, s, m, args, below, meth, c, A, H0, Q, D, t⟩ := K
  obtain ⟨hx, hb, hml, ho, hts, hK, hA⟩ := C
  intro H locs ls hP hD hS hl
  refine lv_astore hx hb d hl (by simp only [List.length_cons]; omega) rfl fun ls' hl' => ?_
  exact k H locs ls' hP hD hS (z_set1 (i := 14) rfl (by simp only [List.length_cons]; omega) (fun j hj u hu => by
    obtain rfl : j = 13 := by omega
    cases hu; exact hp) hl')
theorem z_astore15 (C : Fc K cc own nL) {a0 a1 a2 a3 a4 a5 a6 a7 a8 a9 a10 a11 a12 a13 a14 a15 : Option Value} {r : List (Option Value)} {x : Nat} (d : decode cc pc = .ok (.astore 15, 2)) (hp : z_ok1 a14 = true) (k : Gd K cells slots (pc + 2) (a0 :: a1 :: a2 :: a3 :: a4 :: a5 :: a6 :: a7 :: a8 :: a9 :: a10 :: a11 :: a12 :: a13 :: a14 :: some (.ref x) :: r) rest ws) : Gd K cells slots pc (a0 :: a1 :: a2 :: a3 :: a4 :: a5 :: a6 :: a7 :: a8 :: a9 :: a10 :: a11 :: a12 :: a13 :: a14 :: a15 :: r) (.ref x :: rest) ws := by
  obtain ⟨p, l, e, R, s, m, args, below, meth, c, A, H0, Q, D, t⟩ := K
  obtain ⟨hx, hb, hml, ho, hts, hK, hA⟩ := C
  intro H locs ls hP hD hS hl
  refine lv_astore hx hb d hl (by simp only [List.length_cons]; omega) rfl fun ls' hl' => ?_
  exact k H locs ls' hP hD hS (z_set1 (i := 15) rfl (by simp only [List.length_cons]; omega) (fun j hj u hu => by
    obtain rfl : j = 14 := by omega
    cases hu; exact hp) hl')
theorem z_lstore_n0 (C : Fc K cc own nL) {a0 a1 : Option Value} {r : List (Option Value)} {x : Int64} (d : decode cc pc = .ok (.lstore_n 0, 1)) (k : Gd K cells slots (pc + 1) (some (.long x) :: none :: r) rest ws) : Gd K cells slots pc (a0 :: a1 :: r) (.long x :: rest) ws := by
  obtain ⟨p, l, e, R, s, m, args, below, meth, c, A, H0, Q, D, t⟩ := K
  obtain ⟨hx, hb, hml, ho, hts, hK, hA⟩ := C
  intro H locs ls hP hD hS hl
  refine lv_lstore_n hx hb d rfl hl (by simp only [List.length_cons]; omega) rfl fun ls' hl' => ?_
  exact k H locs ls' hP hD hS (z_set2 (i := 0) rfl (by simp only [List.length_cons]; omega) (fun j hj => by omega) hl')
theorem z_lstore0 (C : Fc K cc own nL) {a0 a1 : Option Value} {r : List (Option Value)} {x : Int64} (d : decode cc pc = .ok (.lstore 0, 2)) (k : Gd K cells slots (pc + 2) (some (.long x) :: none :: r) rest ws) : Gd K cells slots pc (a0 :: a1 :: r) (.long x :: rest) ws := by
  obtain ⟨p, l, e, R, s, m, args, below, meth, c, A, H0, Q, D, t⟩ := K
  obtain ⟨hx, hb, hml, ho, hts, hK, hA⟩ := C
  intro H locs ls hP hD hS hl
  refine lv_lstore hx hb d hl (by simp only [List.length_cons]; omega) rfl fun ls' hl' => ?_
  exact k H locs ls' hP hD hS (z_set2 (i := 0) rfl (by simp only [List.length_cons]; omega) (fun j hj => by omega) hl')
theorem z_lstore_n1 (C : Fc K cc own nL) {a0 a1 a2 : Option Value} {r : List (Option Value)} {x : Int64} (d : decode cc pc = .ok (.lstore_n 1, 1)) (hp : z_ok1 a0 = true) (k : Gd K cells slots (pc + 1) (a0 :: some (.long x) :: none :: r) rest ws) : Gd K cells slots pc (a0 :: a1 :: a2 :: r) (.long x :: rest) ws := by
  obtain ⟨p, l, e, R, s, m, args, below, meth, c, A, H0, Q, D, t⟩ := K
  obtain ⟨hx, hb, hml, ho, hts, hK, hA⟩ := C
  intro H locs ls hP hD hS hl
  refine lv_lstore_n hx hb d rfl hl (by simp only [List.length_cons]; omega) rfl fun ls' hl' => ?_
  exact k H locs ls' hP hD hS (z_set2 (i := 1) rfl (by simp only [List.length_cons]; omega) (fun j hj u hu => by
    obtain rfl : j = 0 := by omega
    cases hu; exact hp) hl')
theorem z_lstore1 (C : Fc K cc own nL) {a0 a1 a2 : Option Value} {r : List (Option Value)} {x : Int64} (d : decode cc pc = .ok (.lstore 1, 2)) (hp : z_ok1 a0 = true) (k : Gd K cells slots (pc + 2) (a0 :: some (.long x) :: none :: r) rest ws) : Gd K cells slots pc (a0 :: a1 :: a2 :: r) (.long x :: rest) ws := by
  obtain ⟨p, l, e, R, s, m, args, below, meth, c, A, H0, Q, D, t⟩ := K
  obtain ⟨hx, hb, hml, ho, hts, hK, hA⟩ := C
  intro H locs ls hP hD hS hl
  refine lv_lstore hx hb d hl (by simp only [List.length_cons]; omega) rfl fun ls' hl' => ?_
  exact k H locs ls' hP hD hS (z_set2 (i := 1) rfl (by simp only [List.length_cons]; omega) (fun j hj u hu => by
    obtain rfl : j = 0 := by omega
    cases hu; exact hp) hl')
theorem z_lstore_n2 (C : Fc K cc own nL) {a0 a1 a2 a3 : Option Value} {r : List (Option Value)} {x : Int64} (d : decode cc pc = .ok (.lstore_n 2, 1)) (hp : z_ok1 a1 = true) (k : Gd K cells slots (pc + 1) (a0 :: a1 :: some (.long x) :: none :: r) rest ws) : Gd K cells slots pc (a0 :: a1 :: a2 :: a3 :: r) (.long x :: rest) ws := by
  obtain ⟨p, l, e, R, s, m, args, below, meth, c, A, H0, Q, D, t⟩ := K
  obtain ⟨hx, hb, hml, ho, hts, hK, hA⟩ := C
  intro H locs ls hP hD hS hl
  refine lv_lstore_n hx hb d rfl hl (by simp only [List.length_cons]; omega) rfl fun ls' hl' => ?_
  exact k H locs ls' hP hD hS (z_set2 (i := 2) rfl (by simp only [List.length_cons]; omega) (fun j hj u hu => by
    obtain rfl : j = 1 := by omega
    cases hu; exact hp) hl')
theorem z_lstore2 (C : Fc K cc own nL) {a0 a1 a2 a3 : Option Value} {r : List (Option Value)} {x : Int64} (d : decode cc pc = .ok (.lstore 2, 2)) (hp : z_ok1 a1 = true) (k : Gd K cells slots (pc + 2) (a0 :: a1 :: some (.long x) :: none :: r) rest ws) : Gd K cells slots pc (a0 :: a1 :: a2 :: a3 :: r) (.long x :: rest) ws := by
  obtain ⟨p, l, e, R, s, m, args, below, meth, c, A, H0, Q, D, t⟩ := K
  obtain ⟨hx, hb, hml, ho, hts, hK, hA⟩ := C
  intro H locs ls hP hD hS hl
  refine lv_lstore hx hb d hl (by simp only [List.length_cons]; omega) rfl fun ls' hl' => ?_
  exact k H locs ls' hP hD hS (z_set2 (i := 2) rfl (by simp only [List.length_cons]; omega) (fun j hj u hu => by
    obtain rfl : j = 1 := by omega
    cases hu; exact hp) hl')
theorem z_lstore_n3 (C : Fc K cc own nL) {a0 a1 a2 a3 a4 : Option Value} {r : List (Option Value)} {x : Int64} (d : decode cc pc = .ok (.lstore_n 3, 1)) (hp : z_ok1 a2 = true) (k : Gd K cells slots (pc + 1) (a0 :: a1 :: a2 :: some (.long x) :: none :: r) rest ws) : Gd K cells slots pc (a0 :: a1 :: a2 :: a3 :: a4 :: r) (.long x :: rest) ws := by
  obtain ⟨p, l, e, R, s, m, args, below, meth, c, A, H0, Q, D, t⟩ := K
  obtain ⟨hx, hb, hml, ho, hts, hK, hA⟩ := C
  intro H locs ls hP hD hS hl
  refine lv_lstore_n hx hb d rfl hl (by simp only [List.length_cons]; omega) rfl fun ls' hl' => ?_
  exact k H locs ls' hP hD hS (z_set2 (i := 3) rfl (by simp only [List.length_cons]; omega) (fun j hj u hu => by
    obtain rfl : j = 2 := by omega
    cases hu; exact hp) hl')
theorem z_lstore3 (C : Fc K cc own nL) {a0 a1 a2 a3 a4 : Option Value} {r : List (Option Value)} {x : Int64} (d : decode cc pc = .ok (.lstore 3, 2)) (hp : z_ok1 a2 = true) (k : Gd K cells slots (pc + 2) (a0 :: a1 :: a2 :: some (.long x) :: none :: r) rest ws) : Gd K cells slots pc (a0 :: a1 :: a2 :: a3 :: a4 :: r) (.long x :: rest) ws := by
  obtain ⟨p, l, e, R, s, m, args, below, meth, c, A, H0, Q, D, t⟩ := K
  obtain ⟨hx, hb, hml, ho, hts, hK, hA⟩ := C
  intro H locs ls hP hD hS hl
  refine lv_lstore hx hb d hl (by simp only [List.length_cons]; omega) rfl fun ls' hl' => ?_
  exact k H locs ls' hP hD hS (z_set2 (i := 3) rfl (by simp only [List.length_cons]; omega) (fun j hj u hu => by
    obtain rfl : j = 2 := by omega
    cases hu; exact hp) hl')
theorem z_lstore4 (C : Fc K cc own nL) {a0 a1 a2 a3 a4 a5 : Option Value} {r : List (Option Value)} {x : Int64} (d : decode cc pc = .ok (.lstore 4, 2)) (hp : z_ok1 a3 = true) (k : Gd K cells slots (pc + 2) (a0 :: a1 :: a2 :: a3 :: some (.long x) :: none :: r) rest ws) : Gd K cells slots pc (a0 :: a1 :: a2 :: a3 :: a4 :: a5 :: r) (.long x :: rest) ws := by
  obtain ⟨p, l, e, R, s, m, args, below, meth, c, A, H0, Q, D, t⟩ := K
  obtain ⟨hx, hb, hml, ho, hts, hK, hA⟩ := C
  intro H locs ls hP hD hS hl
  refine lv_lstore hx hb d hl (by simp only [List.length_cons]; omega) rfl fun ls' hl' => ?_
  exact k H locs ls' hP hD hS (z_set2 (i := 4) rfl (by simp only [List.length_cons]; omega) (fun j hj u hu => by
    obtain rfl : j = 3 := by omega
    cases hu; exact hp) hl')
theorem z_lstore5 (C : Fc K cc own nL) {a0 a1 a2 a3 a4 a5 a6 : Option Value} {r : List (Option Value)} {x : Int64} (d : decode cc pc = .ok (.lstore 5, 2)) (hp : z_ok1 a4 = true) (k : Gd K cells slots (pc + 2) (a0 :: a1 :: a2 :: a3 :: a4 :: some (.long x) :: none :: r) rest ws) : Gd K cells slots pc (a0 :: a1 :: a2 :: a3 :: a4 :: a5 :: a6 :: r) (.long x :: rest) ws := by
  obtain ⟨p, l, e, R, s, m, args, below, meth, c, A, H0, Q, D, t⟩ := K
  obtain ⟨hx, hb, hml, ho, hts, hK, hA⟩ := C
  intro H locs ls hP hD hS hl
  refine lv_lstore hx hb d hl (by simp only [List.length_cons]; omega) rfl fun ls' hl' => ?_
  exact k H locs ls' hP hD hS (z_set2 (i := 5) rfl (by simp only [List.length_cons]; omega) (fun j hj u hu => by
    obtain rfl : j = 4 := by omega
    cases hu; exact hp) hl')
theorem z_lstore6 (C : Fc K cc own nL) {a0 a1 a2 a3 a4 a5 a6 a7 : Option Value} {r : List (Option Value)} {x : Int64} (d : decode cc pc = .ok (.lstore 6, 2)) (hp : z_ok1 a5 = true) (k : Gd K cells slots (pc + 2) (a0 :: a1 :: a2 :: a3 :: a4 :: a5 :: some (.long x) :: none :: r) rest ws) : Gd K cells slots pc (a0 :: a1 :: a2 :: a3 :: a4 :: a5 :: a6 :: a7 :: r) (.long x :: rest) ws := by
  obtain ⟨p, l, e, R, s, m, args, below, meth, c, A, H0, Q, D, t⟩ := K
  obtain ⟨hx, hb, hml, ho, hts, hK, hA⟩ := C
  intro H locs ls hP hD hS hl
  refine lv_lstore hx hb d hl (by simp only [List.length_cons]; omega) rfl fun ls' hl' => ?_
  exact k H locs ls' hP hD hS (z_set2 (i := 6) rfl (by simp only [List.length_cons]; omega) (fun j hj u hu => by
    obtain rfl : j = 5 := by omega
    cases hu; exact hp) hl')
theorem z_lstore7 (C : Fc K cc own nL) {a0 a1 a2 a3 a4 a5 a6 a7 a8 : Option Value} {r : List (Option Value)} {x : Int64} (d : decode cc pc = .ok (.lstore 7, 2)) (hp : z_ok1 a6 = true) (k : Gd K cells slots (pc + 2) (a0 :: a1 :: a2 :: a3 :: a4 :: a5 :: a6 :: some (.long x) :: none :: r) rest ws) : Gd K cells slots pc (a0 :: a1 :: a2 :: a3 :: a4 :: a5 :: a6 :: a7 :: a8 :: r) (.long x :: rest) ws := by
  obtain ⟨p, l, e, R, s, m, args, below, meth, c, A, H0, Q, D, t⟩ := K
  obtain ⟨hx, hb, hml, ho, hts, hK, hA⟩ := C
  intro H locs ls hP hD hS hl
  refine lv_lstore hx hb d hl (by simp only [List.length_cons]; omega) rfl fun ls' hl' => ?_
  exact k H locs ls' hP hD hS (z_set2 (i := 7) rfl (by simp only [List.length_cons]; omega) (fun j hj u hu => by
    obtain rfl : j = 6 := by omega
    cases hu; exact hp) hl')
theorem z_lstore8 (C : Fc K cc own nL) {a0 a1 a2 a3 a4 a5 a6 a7 a8 a9 : Option Value} {r : List (Option Value)} {x : Int64} (d : decode cc pc = .ok (.lstore 8, 2)) (hp : z_ok1 a7 = true) (k : Gd K cells slots (pc + 2) (a0 :: a1 :: a2 :: a3 :: a4 :: a5 :: a6 :: a7 :: some (.long x) :: none :: r) rest ws) : Gd K cells slots pc (a0 :: a1 :: a2 :: a3 :: a4 :: a5 :: a6 :: a7 :: a8 :: a9 :: r) (.long x :: rest) ws := by
  obtain ⟨p, l, e, R, s, m, args, below, meth, c, A, H0, Q, D, t⟩ := K
  obtain ⟨hx, hb, hml, ho, hts, hK, hA⟩ := C
  intro H locs ls hP hD hS hl
  refine lv_lstore hx hb d hl (by simp only [List.length_cons]; omega) rfl fun ls' hl' => ?_
  exact k H locs ls' hP hD hS (z_set2 (i := 8) rfl (by simp only [List.length_cons]; omega) (fun j hj u hu => by
    obtain rfl : j = 7 := by omega
    cases hu; exact hp) hl')
theorem z_lstore9 (C : Fc K cc own nL) {a0 a1 a2 a3 a4 a5 a6 a7 a8 a9 a10 : Option Value} {r : List (Option Value)} {x : Int64} (d : decode cc pc = .ok (.lstore 9, 2)) (hp : z_ok1 a8 = true) (k : Gd K cells slots (pc + 2) (a0 :: a1 :: a2 :: a3 :: a4 :: a5 :: a6 :: a7 :: a8 :: some (.long x) :: none :: r) rest ws) : Gd K cells slots pc (a0 :: a1 :: a2 :: a3 :: a4 :: a5 :: a6 :: a7 :: a8 :: a9 :: a10 :: r) (.long x :: rest) ws := by
  obtain ⟨p, l, e, R, s, m, args, below, meth, c, A, H0, Q, D, t⟩ := K
  obtain ⟨hx, hb, hml, ho, hts, hK, hA⟩ := C
  intro H locs ls hP hD hS hl
  refine lv_lstore hx hb d hl (by simp only [List.length_cons]; omega) rfl fun ls' hl' => ?_
  exact k H locs ls' hP hD hS (z_set2 (i := 9) rfl (by simp only [List.length_cons]; omega) (fun j hj u hu => by
    obtain rfl : j = 8 := by omega
    cases hu; exact hp) hl')
theorem z_lstore10 (C : Fc K cc own nL) {a0 a1 a2 a3 a4 a5 a6 a7 a8 a9 a10 a11 : Option Value} {r : List (Option Value)} {x : Int64} (d : decode cc pc = .ok (.lstore 10, 2)) (hp : z_ok1 a9 = true) (k : Gd K cells slots (pc + 2) (a0 :: a1 :: a2 :: a3 :: a4 :: a5 :: a6 :: a7 :: a8 :: a9 :: some (.long x) :: none :: r) rest ws) : Gd K cells slots pc (a0 :: a1 :: a2 :: a3 :: a4 :: a5 :: a6 :: a7 :: a8 :: a9 :: a10 :: a11 :: r) (.long x :: rest) ws := by
  obtain ⟨p, l, e, R, s, m, args, below, meth, c, A, H0, Q, D, t⟩ := K
  obtain ⟨hx, hb, hml, ho, hts, hK, hA⟩ := C
  intro H locs ls hP hD hS hl
  refine lv_lstore hx hb d hl (by simp only [List.length_cons]; omega) rfl fun ls' hl' => ?_
  exact k H locs ls' hP hD hS (z_set2 (i := 10) rfl (by simp only [List.length_cons]; omega) (fun j hj u hu => by
    obtain rfl : j = 9 := by omega
    cases hu; exact hp) hl')
theorem z_lstore11 (C : Fc K cc own nL) {a0 a1 a2 a3 a4 a5 a6 a7 a8 a9 a10 a11 a12 : Option Value} {r : List (Option Value)} {x : Int64} (d : decode cc pc = .ok (.lstore 11, 2)) (hp : z_ok1 a10 = true) (k : Gd K cells slots (pc + 2) (a0 :: a1 :: a2 :: a3 :: a4 :: a5 :: a6 :: a7 :: a8 :: a9 :: a10 :: some (.long x) :: none :: r) rest ws) : Gd K cells slots pc (a0 :: a1 :: a2 :: a3 :: a4 :: a5 :: a6 :: a7 :: a8 :: a9 :: a10 :: a11 :: a12 :: r) (.long x :: rest) ws := by
  obtain ⟨p, l, e, R, s, m, args, below, meth, c, A, H0, Q, D, t⟩ := K
  obtain ⟨hx, hb, hml, ho, hts, hK, hA⟩ := C
  intro H locs ls hP hD hS hl
  refine lv_lstore hx hb d hl (by simp only [List.length_cons]; omega) rfl fun ls' hl' => ?_
  exact k H locs ls' hP hD hS (z_set2 (i := 11) rfl (by simp only [List.length_cons]; omega) (fun j hj u hu => by
    obtain rfl : j = 10 := by omega
    cases hu; exact hp) hl')
theorem z_lstore12 (C : Fc K cc own nL) {a0 a1 a2 a3 a4 a5 a6 a7 a8 a9 a10 a11 a12 a13 : Option Value} {r : List (Option Value)} {x : Int64} (d : decode cc pc = .ok (.lstore 12, 2)) (hp : z_ok1 a11 = true) (k : Gd K cells slots (pc + 2) (a0 :: a1 :: a2 :: a3 :: a4 :: a5 :: a6 :: a7 :: a8 :: a9 :: a10 :: a11 :: some (.long x) :: none :: r) rest ws) : Gd K cells slots pc (a0 :: a1 :: a2 :: a3 :: a4 :: a5 :: a6 :: a7 :: a8 :: a9 :: a10 :: a11 :: a12 :: a13 :: r) (.long x :: rest) ws := by
  obtain ⟨p, l, e, R, s, m, args, below, meth, c, A, H0, Q, D, t⟩ := K
  obtain ⟨hx, hb, hml, ho, hts, hK, hA⟩ := C
  intro H locs ls hP hD hS hl
  refine lv_lstore hx hb d hl (by simp only [List.length_cons]; omega) rfl fun ls' hl' => ?_
  exact k H locs ls' hP hD hS (z_set2 (i := 12) rfl (by simp only [List.length_cons]; omega) (fun j hj u hu => by
    obtain rfl : j = 11 := by omega
    cases hu; exact hp) hl')
theorem z_lstore13 (C : Fc K cc own nL) {a0 a1 a2 a3 a4 a5 a6 a7 a8 a9 a10 a11 a12 a13 a14 : Option Value} {r : List (Option Value)} {x : Int64} (d : decode cc pc = .ok (.lstore 13, 2)) (hp : z_ok1 a12 = true) (k : Gd K cells slots (pc + 2) (a0 :: a1 :: a2 :: a3 :: a4 :: a5 :: a6 :: a7 :: a8 :: a9 :: a10 :: a11 :: a12 :: some (.long x) :: none :: r) rest ws) : Gd K cells slots pc (a0 :: a1 :: a2 :: a3 :: a4 :: a5 :: a6 :: a7 :: a8 :: a9 :: a10 :: a11 :: a12 :: a13 :: a14 :: r) (.long x :: rest) ws := by
  obtain ⟨p, l, e, R, s, m, args, below, meth, c, A, H0, Q, D, t⟩ := K
  obtain ⟨hx, hb, hml, ho, hts, hK, hA⟩ := C
  intro H locs ls hP hD hS hl
  refine lv_lstore hx hb d hl (by simp only [List.length_cons]; omega) rfl fun ls' hl' => ?_
  exact k H locs ls' hP hD hS (z_set2 (i := 13) rfl (by simp only [List.length_cons]; omega) (fun j hj u hu => by
    obtain rfl : j = 12 := by omega
    cases hu; exact hp) hl')
theorem z_lstore14 (C : Fc K cc own nL) {a0 a1 a2 a3 a4 a5 a6 a7 a8 a9 a10 a11 a12 a13 a14 a15 : Option Value} {r : List (Option Value)} {x : Int64} (d : decode cc pc = .ok (.lstore 14, 2)) (hp : z_ok1 a13 = true) (k : Gd K cells slots (pc + 2) (a0 :: a1 :: a2 :: a3 :: a4 :: a5 :: a6 :: a7 :: a8 :: a9 :: a10 :: a11 :: a12 :: a13 :: some (.long x) :: none :: r) rest ws) : Gd K cells slots pc (a0 :: a1 :: a2 :: a3 :: a4 :: a5 :: a6 :: a7 :: a8 :: a9 :: a10 :: a11 :: a12 :: a13 :: a14 :: a15 :: r) (.long x :: rest) ws := by
  obtain ⟨p, l, e, R, s, m, args, below, meth, c, A, H0, Q, D, t⟩ := K
  obtain ⟨hx, hb, hml, ho, hts, hK, hA⟩ := C
  intro H locs ls hP hD hS hl
  refine lv_lstore hx hb d hl (by simp only [List.length_cons]; omega) rfl fun ls' hl' => ?_
  exact k H locs ls' hP hD hS (z_set2 (i := 14) rfl (by simp only [List.length_cons]; omega) (fun j hj u hu => by
    obtain rfl : j = 13 := by omega
    cases hu; exact hp) hl')
theorem z_lstore15 (C : Fc K cc own nL) {a0 a1 a2 a3 a4 a5 a6 a7 a8 a9 a10 a11 a12 a13 a14 a15 a16 : Option Value} {r : List (Option Value)} {x : Int64} (d : decode cc pc = .ok (.lstore 15, 2)) (hp : z_ok1 a14 = true) (k : Gd K cells slots (pc + 2) (a0 :: a1 :: a2 :: a3 :: a4 :: a5 :: a6 :: a7 :: a8 :: a9 :: a10 :: a11 :: a12 :: a13 :: a14 :: some (.long x) :: none :: r) rest ws) : Gd K cells slots pc (a0 :: a1 :: a2 :: a3 :: a4 :: a5 :: a6 :: a7 :: a8 :: a9 :: a10 :: a11 :: a12 :: a13 :: a14 :: a15 :: a16 :: r) (.long x :: rest) ws := by
  obtain ⟨p, l, e, R, s, m, args, below, meth, c, A, H0, Q, D, t⟩ := K
  obtain ⟨hx, hb, hml, ho, hts, hK, hA⟩ := C
  intro H locs ls hP hD hS hl
  refine lv_lstore hx hb d hl (by simp only [List.length_cons]; omega) rfl fun ls' hl' => ?_
  exact k H locs ls' hP hD hS (z_set2 (i := 15) rfl (by simp only [List.length_cons]; omega) (fun j hj u hu => by
    obtain rfl : j = 14 := by omega
    cases hu; exact hp) hl')
theorem z_iinc0 (C : Fc K cc own nL) {r : List (Option Value)} {n x : Int} (d : decode cc pc = .ok (.iinc 0 n, 3)) (k : Gd K cells slots (pc + 3) (some (.int (zI (x + n))) :: r) rest ws) : Gd K cells slots pc (some (.int (zI x)) :: r) rest ws := by
  obtain ⟨p, l, e, R, s, m, args, below, meth, c, A, H0, Q, D, t⟩ := K
  obtain ⟨hx, hb, hml, ho, hts, hK, hA⟩ := C
  intro H locs ls hP hD hS hl
  obtain ⟨k0, hk0⟩ := List.getElem?_of_mem ((z_asc_mem (some (.int (zI x)) :: r) 0 0 (.int (zI x))).mpr ⟨Nat.zero_le _, rfl⟩)
  refine lv_iinc hx hb d hl hk0 (zI_add x n) (by simp only [List.length_cons]; omega) rfl fun ls' hl' => ?_
  exact k H locs ls' hP hD hS (z_set1 (i := 0) rfl (by simp only [List.length_cons]; omega) (fun j hj => by omega) hl')
theorem z_iinc1 (C : Fc K cc own nL) {a0 : Option Value} {r : List (Option Value)} {n x : Int} (d : decode cc pc = .ok (.iinc 1 n, 3)) (hp : z_ok1 a0 = true) (k : Gd K cells slots (pc + 3) (a0 :: some (.int (zI (x + n))) :: r) rest ws) : Gd K cells slots pc (a0 :: some (.int (zI x)) :: r) rest ws := by
  obtain ⟨p, l, e, R, s, m, args, below, meth, c, A, H0, Q, D, t⟩ := K
  obtain ⟨hx, hb, hml, ho, hts, hK, hA⟩ := C
  intro H locs ls hP hD hS hl
  obtain ⟨k0, hk0⟩ := List.getElem?_of_mem ((z_asc_mem (a0 :: some (.int (zI x)) :: r) 0 1 (.int (zI x))).mpr ⟨Nat.zero_le _, rfl⟩)
  refine lv_iinc hx hb d hl hk0 (zI_add x n) (by simp only [List.length_cons]; omega) rfl fun ls' hl' => ?_
  exact k H locs ls' hP hD hS (z_set1 (i := 1) rfl (by simp only [List.length_cons]; omega) (fun j hj u hu => by
    obtain rfl : j = 0 := by omega
    cases hu; exact hp) hl')
theorem z_iinc2 (C : Fc K cc own nL) {a0 a1 : Option Value} {r : List (Option Value)} {n x : Int} (d : decode cc pc = .ok (.iinc 2 n, 3)) (hp : z_ok1 a1 = true) (k : Gd K cells slots (pc + 3) (a0 :: a1 :: some (.int (zI (x + n))) :: r) rest ws) : Gd K cells slots pc (a0 :: a1 :: some (.int (zI x)) :: r) rest ws := by
  obtain ⟨p, l, e, R, s, m, args, below, meth, c, A, H0, Q, D, t⟩ := K
  obtain ⟨hx, hb, hml, ho, hts, hK, hA⟩ := C
  intro H locs ls hP hD hS hl
  obtain ⟨k0, hk0⟩ := List.getElem?_of_mem ((z_asc_mem (a0 :: a1 :: some (.int (zI x)) :: r) 0 2 (.int (zI x))).mpr ⟨Nat.zero_le _, rfl⟩)
  refine lv_iinc hx hb d hl hk0 (zI_add x n) (by simp only [List.length_cons]; omega) rfl fun ls' hl' => ?_
  exact k H locs ls' hP hD hS (z_set1 (i := 2) rfl (by simp only [List.length_cons]; omega) (fun j hj u hu => by
    obtain rfl : j = 1 := by omega
    cases hu; exact hp) hl')
theorem z_iinc3 (C : Fc K cc own nL) {a0 a1 a2 : Option Value} {r : List (Option Value)} {n x : Int} (d : decode cc pc = .ok (.iinc 3 n, 3)) (hp : z_ok1 a2 = true) (k : Gd K cells slots (pc + 3) (a0 :: a1 :: a2 :: some (.int (zI (x + n))) :: r) rest ws) : Gd K cells slots pc (a0 :: a1 :: a2 :: some (.int (zI x)) :: r) rest ws := by
  obtain ⟨p, l, e, R, s, m, args, below, meth, c, A, H0, Q, D, t⟩ := K
  obtain ⟨hx, hb, hml, ho, hts, hK, hA⟩ := C
  intro H locs ls hP hD hS hl
  obtain ⟨k0, hk0⟩ := List.getElem?_of_mem ((z_asc_mem (a0 :: a1 :: a2 :: some (.int (zI x)) :: r) 0 3 (.int (zI x))).mpr ⟨Nat.zero_le _, rfl⟩)
  refine lv_iinc hx hb d hl hk0 (zI_add x n) (by simp only [List.length_cons]; omega) rfl fun ls' hl' => ?_
  exact k H locs ls' hP hD hS (z_set1 (i := 3) rfl (by simp only [List.length_cons]; omega) (fun j hj u hu => by
    obtain rfl : j = 2 := by omega
    cases hu; exact hp) hl')
theorem z_iinc4 (C : Fc K cc own nL) {a0 a1 a2 a3 : Option Value} {r : List (Option Value)} {n x : Int} (d : decode cc pc = .ok (.iinc 4 n, 3)) (hp : z_ok1 a3 = true) (k : Gd K cells slots (pc + 3) (a0 :: a1 :: a2 :: a3 :: some (.int (zI (x + n))) :: r) rest ws) : Gd K cells slots pc (a0 :: a1 :: a2 :: a3 :: some (.int (zI x)) :: r) rest ws := by
  obtain ⟨p, l, e, R, s, m, args, below, meth, c, A, H0, Q, D, t⟩ := K
  obtain ⟨hx, hb, hml, ho, hts, hK, hA⟩ := C
  intro H locs ls hP hD hS hl
  obtain ⟨k0, hk0⟩ := List.getElem?_of_mem ((z_asc_mem (a0 :: a1 :: a2 :: a3 :: some (.int (zI x)) :: r) 0 4 (.int (zI x))).mpr ⟨Nat.zero_le _, rfl⟩)
  refine lv_iinc hx hb d hl hk0 (zI_add x n) (by simp only [List.length_cons]; omega) rfl fun ls' hl' => ?_
  exact k H locs ls' hP hD hS (z_set1 (i := 4) rfl (by simp only [List.length_cons]; omega) (fun j hj u hu => by
    obtain rfl : j = 3 := by omega
    cases hu; exact hp) hl')
theorem z_iinc5 (C : Fc K cc own nL) {a0 a1 a2 a3 a4 : Option Value} {r : List (Option Value)} {n x : Int} (d : decode cc pc = .ok (.iinc 5 n, 3)) (hp : z_ok1 a4 = true) (k : Gd K cells slots (pc + 3) (a0 :: a1 :: a2 :: a3 :: a4 :: some (.int (zI (x + n))) :: r) rest ws) : Gd K cells slots pc (a0 :: a1 :: a2 :: a3 :: a4 :: some (.int (zI x)) :: r) rest ws := by
  obtain ⟨p, l, e, R, s, m, args, below, meth, c, A, H0, Q, D, t⟩ := K
  obtain ⟨hx, hb, hml, ho, hts, hK, hA⟩ := C
  intro H locs ls hP hD hS hl
  obtain ⟨k0, hk0⟩ := List.getElem?_of_mem ((z_asc_mem (a0 :: a1 :: a2 :: a3 :: a4 :: some (.int (zI x)) :: r) 0 5 (.int (zI x))).mpr ⟨Nat.zero_le _, rfl⟩)
  refine lv_iinc hx hb d hl hk0 (zI_add x n) (by simp only [List.length_cons]; omega) rfl fun ls' hl' => ?_
  exact k H locs ls' hP hD hS (z_set1 (i := 5) rfl (by simp only [List.length_cons]; omega) (fun j hj u hu => by
    obtain rfl : j = 4 := by omega
    cases hu; exact hp) hl')
theorem z_iinc6 (C : Fc K cc own nL) {a0 a1 a2 a3 a4 a5 : Option Value} {r : List (Option Value)} {n x : Int} (d : decode cc pc = .ok (.iinc 6 n, 3)) (hp : z_ok1 a5 = true) (k : Gd K cells slots (pc + 3) (a0 :: a1 :: a2 :: a3 :: a4 :: a5 :: some (.int (zI (x + n))) :: r) rest ws) : Gd K cells slots pc (a0 :: a1 :: a2 :: a3 :: a4 :: a5 :: some (.int (zI x)) :: r) rest ws := by
  obtain ⟨p, l, e, R, s, m, args, below, meth, c, A, H0, Q, D, t⟩ := K
  obtain ⟨hx, hb, hml, ho, hts, hK, hA⟩ := C
  intro H locs ls hP hD hS hl
  obtain ⟨k0, hk0⟩ := List.getElem?_of_mem ((z_asc_mem (a0 :: a1 :: a2 :: a3 :: a4 :: a5 :: some (.int (zI x)) :: r) 0 6 (.int (zI x))).mpr ⟨Nat.zero_le _, rfl⟩)
  refine lv_iinc hx hb d hl hk0 (zI_add x n) (by simp only [List.length_cons]; omega) rfl fun ls' hl' => ?_
  exact k H locs ls' hP hD hS (z_set1 (i := 6) rfl (by simp only [List.length_cons]; omega) (fun j hj u hu => by
    obtain rfl : j = 5 := by omega
    cases hu; exact hp) hl')
theorem z_iinc7 (C : Fc K cc own nL) {a0 a1 a2 a3 a4 a5 a6 : Option Value} {r : List (Option Value)} {n x : Int} (d : decode cc pc = .ok (.iinc 7 n, 3)) (hp : z_ok1 a6 = true) (k : Gd K cells slots (pc + 3) (a0 :: a1 :: a2 :: a3 :: a4 :: a5 :: a6 :: some (.int (zI (x + n))) :: r) rest ws) : Gd K cells slots pc (a0 :: a1 :: a2 :: a3 :: a4 :: a5 :: a6 :: some (.int (zI x)) :: r) rest ws := by
  obtain ⟨p, l, e, R, s, m, args, below, meth, c, A, H0, Q, D, t⟩ := K
  obtain ⟨hx, hb, hml, ho, hts, hK, hA⟩ := C
  intro H locs ls hP hD hS hl
  obtain ⟨k0, hk0⟩ := List.getElem?_of_mem ((z_asc_mem (a0 :: a1 :: a2 :: a3 :: a4 :: a5 :: a6 :: some (.int (zI x)) :: r) 0 7 (.int (zI x))).mpr ⟨Nat.zero_le _, rfl⟩)
  refine lv_iinc hx hb d hl hk0 (zI_add x n) (by simp only [List.length_cons]; omega) rfl fun ls' hl' => ?_
  exact k H locs ls' hP hD hS (z_set1 (i := 7) rfl (by simp only [List.length_cons]; omega) (fun j hj u hu => by
    obtain rfl : j = 6 := by omega
    cases hu; exact hp) hl')
theorem z_iinc8 (C : Fc K cc own nL) {a0 a1 a2 a3 a4 a5 a6 a7 : Option Value} {r : List (Option Value)} {n x : Int} (d : decode cc pc = .ok (.iinc 8 n, 3)) (hp : z_ok1 a7 = true) (k : Gd K cells slots (pc + 3) (a0 :: a1 :: a2 :: a3 :: a4 :: a5 :: a6 :: a7 :: some (.int (zI (x + n))) :: r) rest ws) : Gd K cells slots pc (a0 :: a1 :: a2 :: a3 :: a4 :: a5 :: a6 :: a7 :: some (.int (zI x)) :: r) rest ws := by
  obtain ⟨p, l, e, R, s, m, args, below, meth, c, A, H0, Q, D, t⟩ := K
  obtain ⟨hx, hb, hml, ho, hts, hK, hA⟩ := C
  intro H locs ls hP hD hS hl
  obtain ⟨k0, hk0⟩ := List.getElem?_of_mem ((z_asc_mem (a0 :: a1 :: a2 :: a3 :: a4 :: a5 :: a6 :: a7 :: some (.int (zI x)) :: r) 0 8 (.int (zI x))).mpr ⟨Nat.zero_le _, rfl⟩)
  refine lv_iinc hx hb d hl hk0 (zI_add x n) (by simp only [List.length_cons]; omega) rfl fun ls' hl' => ?_
  exact k H locs ls' hP hD hS (z_set1 (i := 8) rfl (by simp only [List.length_cons]; omega) (fun j hj u hu => by
    obtain rfl : j = 7 := by omega
    cases hu; exact hp) hl')
theorem z_iinc9 (C : Fc K cc own nL) {a0 a1 a2 a3 a4 a5 a6 a7 a8 : Option Value} {r : List (Option Value)} {n x : Int} (d : decode cc pc = .ok (.iinc 9 n, 3)) (hp : z_ok1 a8 = true) (k : Gd K cells slots (pc + 3) (a0 :: a1 :: a2 :: a3 :: a4 :: a5 :: a6 :: a7 :: a8 :: some (.int (zI (x + n))) :: r) rest ws) : Gd K cells slots pc (a0 :: a1 :: a2 :: a3 :: a4 :: a5 :: a6 :: a7 :: a8 :: some (.int (zI x)) :: r) rest ws := by
  obtain ⟨p, l, e, R, s, m, args, below, meth, c, A, H0, Q, D, t⟩ := K
  obtain ⟨hx, hb, hml, ho, hts, hK, hA⟩ := C
  intro H locs ls hP hD hS hl
  obtain ⟨k0, hk0⟩ := List.getElem?_of_mem ((z_asc_mem (a0 :: a1 :: a2 :: a3 :: a4 :: a5 :: a6 :: a7 :: a8 :: some (.int (zI x)) :: r) 0 9 (.int (zI x))).mpr ⟨Nat.zero_le _, rfl⟩)
  refine lv_iinc hx hb d hl hk0 (zI_add x n) (by simp only [List.length_cons]; omega) rfl fun ls' hl' => ?_
  exact k H locs ls' hP hD hS (z_set1 (i := 9) rfl (by simp only [List.length_cons]; omega) (fun j hj u hu => by
    obtain rfl : j = 8 := by omega
    cases hu; exact hp) hl')
theorem z_iinc10 (C : Fc K cc own nL) {a0 a1 a2 a3 a4 a5 a6 a7 a8 a9 : Option Value} {r : List (Option Value)} {n x : Int} (d : decode cc pc = .ok (.iinc 10 n, 3)) (hp : z_ok1 a9 = true) (k : Gd K cells slots (pc + 3) (a0 :: a1 :: a2 :: a3 :: a4 :: a5 :: a6 :: a7 :: a8 :: a9 :: some (.int (zI (x + n))) :: r) rest ws) : Gd K cells slots pc (a0 :: a1 :: a2 :: a3 :: a4 :: a5 :: a6 :: a7 :: a8 :: a9 :: some (.int (zI x)) :: r) rest ws := by
  obtain ⟨p, l, e, R, s, m, args, below, meth, c, A, H0, Q, D, t⟩ := K
  obtain ⟨hx, hb, hml, ho, hts, hK, hA⟩ := C
  intro H locs ls hP hD hS hl
  obtain ⟨k0, hk0⟩ := List.getElem?_of_mem ((z_asc_mem (a0 :: a1 :: a2 :: a3 :: a4 :: a5 :: a6 :: a7 :: a8 :: a9 :: some (.int (zI x)) :: r) 0 10 (.int (zI x))).mpr ⟨Nat.zero_le _, rfl⟩)
  refine lv_iinc hx hb d hl hk0 (zI_add x n) (by simp only [List.length_cons]; omega) rfl fun ls' hl' => ?_
  exact k H locs ls' hP hD hS (z_set1 (i := 10) rfl (by simp only [List.length_cons]; omega) (fun j hj u hu => by
    obtain rfl : j = 9 := by omega
    cases hu; exact hp) hl')
theorem z_iinc11 (C : Fc K cc own nL) {a0 a1 a2 a3 a4 a5 a6 a7 a8 a9 a10 : Option Value} {r : List (Option Value)} {n x : Int} (d : decode cc pc = .ok (.iinc 11 n, 3)) (hp : z_ok1 a10 = true) (k : Gd K cells slots (pc + 3) (a0 :: a1 :: a2 :: a3 :: a4 :: a5 :: a6 :: a7 :: a8 :: a9 :: a10 :: some (.int (zI (x + n))) :: r) rest ws) : Gd K cells slots pc (a0 :: a1 :: a2 :: a3 :: a4 :: a5 :: a6 :: a7 :: a8 :: a9 :: a10 :: some (.int (zI x)) :: r) rest ws := by
  obtain ⟨p, l, e, R, s, m, args, below, meth, c, A, H0, Q, D, t⟩ := K
  obtain ⟨hx, hb, hml, ho, hts, hK, hA⟩ := C
  intro H locs ls hP hD hS hl
  obtain ⟨k0, hk0⟩ := List.getElem?_of_mem ((z_asc_mem (a0 :: a1 :: a2 :: a3 :: a4 :: a5 :: a6 :: a7 :: a8 :: a9 :: a10 :: some (.int (zI x)) :: r) 0 11 (.int (zI x))).mpr ⟨Nat.zero_le _, rfl⟩)
  refine lv_iinc hx hb d hl hk0 (zI_add x n) (by simp only [List.length_cons]; omega) rfl fun ls' hl' => ?_
  exact k H locs ls' hP hD hS (z_set1 (i := 11) rfl (by simp only [List.length_cons]; omega) (fun j hj u hu => by
    obtain rfl : j = 10 := by omega
    cases hu; exact hp) hl')
theorem z_iinc12 (C : Fc K cc own nL) {a0 a1 a2 a3 a4 a5 a6 a7 a8 a9 a10 a11 : Option Value} {r : List (Option Value)} {n x : Int} (d : decode cc pc = .ok (.iinc 12 n, 3)) (hp : z_ok1 a11 = true) (k : Gd K cells slots (pc + 3) (a0 :: a1 :: a2 :: a3 :: a4 :: a5 :: a6 :: a7 :: a8 :: a9 :: a10 :: a11 :: some (.int (zI (x + n))) :: r) rest ws) : Gd K cells slots pc (a0 :: a1 :: a2 :: a3 :: a4 :: a5 :: a6 :: a7 :: a8 :: a9 :: a10 :: a11 :: some (.int (zI x)) :: r) rest ws := by
  obtain ⟨p, l, e, R, s, m, args, below, meth, c, A, H0, Q, D, t⟩ := K
  obtain ⟨hx, hb, hml, ho, hts, hK, hA⟩ := C
  intro H locs ls hP hD hS hl
  obtain ⟨k0, hk0⟩ := List.getElem?_of_mem ((z_asc_mem (a0 :: a1 :: a2 :: a3 :: a4 :: a5 :: a6 :: a7 :: a8 :: a9 :: a10 :: a11 :: some (.int (zI x)) :: r) 0 12 (.int (zI x))).mpr ⟨Nat.zero_le _, rfl⟩)
  refine lv_iinc hx hb d hl hk0 (zI_add x n) (by simp only [List.length_cons]; omega) rfl fun ls' hl' => ?_
  exact k H locs ls' hP hD hS (z_set1 (i := 12) rfl (by simp only [List.length_cons]; omega) (fun j hj u hu => by
    obtain rfl : j = 11 := by omega
    cases hu; exact hp) hl')
theorem z_iinc13 (C : Fc K cc own nL) {a0 a1 a2 a3 a4 a5 a6 a7 a8 a9 a10 a11 a12 : Option Value} {r : List (Option Value)} {n x : Int} (d : decode cc pc = .ok (.iinc 13 n, 3)) (hp : z_ok1 a12 = true) (k : Gd K cells slots (pc + 3) (a0 :: a1 :: a2 :: a3 :: a4 :: a5 :: a6 :: a7 :: a8 :: a9 :: a10 :: a11 :: a12 :: some (.int (zI (x + n))) :: r) rest ws) : Gd K cells slots pc (a0 :: a1 :: a2 :: a3 :: a4 :: a5 :: a6 :: a7 :: a8 :: a9 :: a10 :: a11 :: a12 :: some (.int (zI x)) :: r) rest ws := by
  obtain ⟨p, l, e, R, s, m, args, below, meth, c, A, H0, Q, D, t⟩ := K
  obtain ⟨hx, hb, hml, ho, hts, hK, hA⟩ := C
  intro H locs ls hP hD hS hl
  obtain ⟨k0, hk0⟩ := List.getElem?_of_mem ((z_asc_mem (a0 :: a1 :: a2 :: a3 :: a4 :: a5 :: a6 :: a7 :: a8 :: a9 :: a10 :: a11 :: a12 :: some (.int (zI x)) :: r) 0 13 (.int (zI x))).mpr ⟨Nat.zero_le _, rfl⟩)
  refine lv_iinc hx hb d hl hk0 (zI_add x n) (by simp only [List.length_cons]; omega) rfl fun ls' hl' => ?_
  exact k H locs ls' hP hD hS (z_set1 (i := 13) rfl (by simp only [List.length_cons]; omega) (fun j hj u hu => by
    obtain rfl : j = 12 := by omega
    cases hu; exact hp) hl')
theorem z_iinc14 (C : Fc K cc own nL) {a0 a1 a2 a3 a4 a5 a6 a7 a8 a9 a10 a11 a12 a13 : Option Value} {r : List (Option Value)} {n x : Int} (d : decode cc pc = .ok (.iinc 14 n, 3)) (hp : z_ok1 a13 = true) (k : Gd K cells slots (pc + 3) (a0 :: a1 :: a2 :: a3 :: a4 :: a5 :: a6 :: a7 :: a8 :: a9 :: a10 :: a11 :: a12 :: a13 :: some (.int (zI (x + n))) :: r) rest ws) : Gd K cells slots pc (a0 :: a1 :: a2 :: a3 :: a4 :: a5 :: a6 :: a7 :: a8 :: a9 :: a10 :: a11 :: a12 :: a13 :: some (.int (zI x)) :: r) rest ws := by
  obtain ⟨p, l, e, R, s, m, args, below, meth, c, A, H0, Q, D, t⟩ := K
  obtain ⟨hx, hb, hml, ho, hts, hK, hA⟩ := C
  intro H locs ls hP hD hS hl
  obtain ⟨k0, hk0⟩ := List.getElem?_of_mem ((z_asc_mem (a0 :: a1 :: a2 :: a3 :: a4 :: a5 :: a6 :: a7 :: a8 :: a9 :: a10 :: a11 :: a12 :: a13 :: some (.int (zI x)) :: r) 0 14 (.int (zI x))).mpr ⟨Nat.zero_le _, rfl⟩)
  refine lv_iinc hx hb d hl hk0 (zI_add x n) (by simp only [List.length_cons]; omega) rfl fun ls' hl' => ?_
  exact k H locs ls' hP hD hS (z_set1 (i := 14) rfl (by simp only [List.length_cons]; omega) (fun j hj u hu => by
    obtain rfl : j = 13 := by omega
    cases hu; exact hp) hl')
theorem z_iinc15 (C : Fc K cc own nL) {a0 a1 a2 a3 a4 a5 a6 a7 a8 a9 a10 a11 a12 a13 a14 : Option Value} {r : List (Option Value)} {n x : Int} (d : decode cc pc = .ok (.iinc 15 n, 3)) (hp : z_ok1 a14 = true) (k : Gd K cells slots (pc + 3) (a0 :: a1 :: a2 :: a3 :: a4 :: a5 :: a6 :: a7 :: a8 :: a9 :: a10 :: a11 :: a12 :: a13 :: a14 :: some (.int (zI (x + n))) :: r) rest ws) : Gd K cells slots pc (a0 :: a1 :: a2 :: a3 :: a4 :: a5 :: a6 :: a7 :: a8 :: a9 :: a10 :: a11 :: a12 :: a13 :: a14 :: some (.int (zI x)) :: r) rest ws := by
  obtain ⟨p, l, e, R, s, m, args, below, meth, c, A, H0, Q, D, t⟩ := K
  obtain ⟨hx, hb, hml, ho, hts, hK, hA⟩ := C
  intro H locs ls hP hD hS hl
  obtain ⟨k0, hk0⟩ := List.getElem?_of_mem ((z_asc_mem (a0 :: a1 :: a2 :: a3 :: a4 :: a5 :: a6 :: a7 :: a8 :: a9 :: a10 :: a11 :: a12 :: a13 :: a14 :: some (.int (zI x)) :: r) 0 15 (.int (zI x))).mpr ⟨Nat.zero_le _, rfl⟩)
  refine lv_iinc hx hb d hl hk0 (zI_add x n) (by simp only [List.length_cons]; omega) rfl fun ls' hl' => ?_
  exact k H locs ls' hP hD hS (z_set1 (i := 15) rfl (by simp only [List.length_cons]; omega) (fun j hj u hu => by
    obtain rfl : j = 14 := by omega
    cases hu; exact hp) hl')
theorem z_iadd (C : Fc K cc own nL) {x y : Int} (d : decode cc pc = .ok (.iadd, 1)) (k : Gd K cells slots (pc + 1) L (.int (zI (x + y)) :: rest) ws) : Gd K cells slots pc L (.int (zI y) :: .int (zI x) :: rest) ws := by
  obtain ⟨p, l, e, R, s, m, args, below, meth, c, A, H0, Q, D, t⟩ := K
  obtain ⟨hx, hb, hml, ho, hts, hK, hA⟩ := C
  intro H locs ls hP hD hS hl
  exact lv_iadd hx hb d (by rw [zI_add]; exact k H locs ls hP hD hS hl)
theorem z_isub (C : Fc K cc own nL) {x y : Int} (d : decode cc pc = .ok (.isub, 1)) (k : Gd K cells slots (pc + 1) L (.int (zI (x - y)) :: rest) ws) : Gd K cells slots pc L (.int (zI y) :: .int (zI x) :: rest) ws := by
  obtain ⟨p, l, e, R, s, m, args, below, meth, c, A, H0, Q, D, t⟩ := K
  obtain ⟨hx, hb, hml, ho, hts, hK, hA⟩ := C
  intro H locs ls hP hD hS hl
  exact lv_isub hx hb d (by rw [zI_sub]; exact k H locs ls hP hD hS hl)
theorem z_imul (C : Fc K cc own nL) {x y : Int} (d : decode cc pc = .ok (.imul, 1)) (k : Gd K cells slots (pc + 1) L (.int (zI (x * y)) :: rest) ws) : Gd K cells slots pc L (.int (zI y) :: .int (zI x) :: rest) ws := by
  obtain ⟨p, l, e, R, s, m, args, below, meth, c, A, H0, Q, D, t⟩ := K
  obtain ⟨hx, hb, hml, ho, hts, hK, hA⟩ := C
  intro H locs ls hP hD hS hl
  exact lv_imul hx hb d (by rw [zI_mul]; exact k H locs ls hP hD hS hl)
theorem z_ineg (C : Fc K cc own nL) {x : Int} (d : decode cc pc = .ok (.ineg, 1)) (k : Gd K cells slots (pc + 1) L (.int (zI (-x)) :: rest) ws) : Gd K cells slots pc L (.int (zI x) :: rest) ws := by
  obtain ⟨p, l, e, R, s, m, args, below, meth, c, A, H0, Q, D, t⟩ := K
  obtain ⟨hx, hb, hml, ho, hts, hK, hA⟩ := C
  intro H locs ls hP hD hS hl
  exact lv_ineg hx hb d (by rw [zI_neg]; exact k H locs ls hP hD hS hl)
theorem z_idiv (C : Fc K cc own nL) {x y : Int} (d : decode cc pc = .ok (.idiv, 1)) (hb1 : (0 ≤ x ∧ x < 2147483648) ∧ (0 < y ∧ y < 2147483648)) (k : Gd K cells slots (pc + 1) L (.int (zI (x / y)) :: rest) ws) : Gd K cells slots pc L (.int (zI y) :: .int (zI x) :: rest) ws := by
  obtain ⟨p, l, e, R, s, m, args, below, meth, c, A, H0, Q, D, t⟩ := K
  obtain ⟨hx, hb, hml, ho, hts, hK, hA⟩ := C
  intro H locs ls hP hD hS hl
  exact lv_idiv hx hb d (zI_ne0 hb1.2) (by rw [zI_div hb1.1 hb1.2]; exact k H locs ls hP hD hS hl)
theorem z_irem (C : Fc K cc own nL) {x y : Int} (d : decode cc pc = .ok (.irem, 1)) (hb1 : (0 ≤ x ∧ x < 2147483648) ∧ (0 < y ∧ y < 2147483648)) (k : Gd K cells slots (pc + 1) L (.int (zI (x % y)) :: rest) ws) : Gd K cells slots pc L (.int (zI y) :: .int (zI x) :: rest) ws := by
  obtain ⟨p, l, e, R, s, m, args, below, meth, c, A, H0, Q, D, t⟩ := K
  obtain ⟨hx, hb, hml, ho, hts, hK, hA⟩ := C
  intro H locs ls hP hD hS hl
  exact lv_irem hx hb d (zI_ne0 hb1.2) (by rw [zI_rem hb1.1 hb1.2]; exact k H locs ls hP hD hS hl)
theorem z_ladd (C : Fc K cc own nL) {x y : Int} (d : decode cc pc = .ok (.ladd, 1)) (k : Gd K cells slots (pc + 1) L (.long (zL (x + y)) :: rest) ws) : Gd K cells slots pc L (.long (zL y) :: .long (zL x) :: rest) ws := by
  obtain ⟨p, l, e, R, s, m, args, below, meth, c, A, H0, Q, D, t⟩ := K
  obtain ⟨hx, hb, hml, ho, hts, hK, hA⟩ := C
  intro H locs ls hP hD hS hl
  exact lv_ladd hx hb d (by rw [zL_add]; exact k H locs ls hP hD hS hl)
theorem z_lmul (C : Fc K cc own nL) {x y : Int} (d : decode cc pc = .ok (.lmul, 1)) (k : Gd K cells slots (pc + 1) L (.long (zL (x * y)) :: rest) ws) : Gd K cells slots pc L (.long (zL y) :: .long (zL x) :: rest) ws := by
  obtain ⟨p, l, e, R, s, m, args, below, meth, c, A, H0, Q, D, t⟩ := K
  obtain ⟨hx, hb, hml, ho, hts, hK, hA⟩ := C
  intro H locs ls hP hD hS hl
  exact lv_lmul hx hb d (by rw [zL_mul]; exact k H locs ls hP hD hS hl)
theorem z_ldiv (C : Fc K cc own nL) {x y : Int} (d : decode cc pc = .ok (.ldiv, 1)) (hb1 : (0 ≤ x ∧ x < 9223372036854775808) ∧ (0 < y ∧ y < 9223372036854775808)) (k : Gd K cells slots (pc + 1) L (.long (zL (x / y)) :: rest) ws) : Gd K cells slots pc L (.long (zL y) :: .long (zL x) :: rest) ws := by
  obtain ⟨p, l, e, R, s, m, args, below, meth, c, A, H0, Q, D, t⟩ := K
  obtain ⟨hx, hb, hml, ho, hts, hK, hA⟩ := C
  intro H locs ls hP hD hS hl
  exact lv_ldiv hx hb d (zL_ne0 hb1.2) (by rw [zL_div hb1.1 hb1.2]; exact k H locs ls hP hD hS hl)
theorem z_lrem (C : Fc K cc own nL) {x y : Int} (d : decode cc pc = .ok (.lrem, 1)) (hb1 : (0 ≤ x ∧ x < 9223372036854775808) ∧ (0 < y ∧ y < 9223372036854775808)) (k : Gd K cells slots (pc + 1) L (.long (zL (x % y)) :: rest) ws) : Gd K cells slots pc L (.long (zL y) :: .long (zL x) :: rest) ws := by
  obtain ⟨p, l, e, R, s, m, args, below, meth, c, A, H0, Q, D, t⟩ := K
  obtain ⟨hx, hb, hml, ho, hts, hK, hA⟩ := C
  intro H locs ls hP hD hS hl
  exact lv_lrem hx hb d (zL_ne0 hb1.2) (by rw [zL_rem hb1.1 hb1.2]; exact k H locs ls hP hD hS hl)
theorem z_lcmp (C : Fc K cc own nL) {x y : Int} (d : decode cc pc = .ok (.lcmp, 1)) (hb1 : (-9223372036854775808 ≤ x ∧ x < 9223372036854775808) ∧ (-9223372036854775808 ≤ y ∧ y < 9223372036854775808)) (k : Gd K cells slots (pc + 1) L (.int (zI (if y < x then 1 else if x = y then 0 else -1)) :: rest) ws) : Gd K cells slots pc L (.long (zL y) :: .long (zL x) :: rest) ws := by
  obtain ⟨p, l, e, R, s, m, args, below, meth, c, A, H0, Q, D, t⟩ := K
  obtain ⟨hx, hb, hml, ho, hts, hK, hA⟩ := C
  intro H locs ls hP hD hS hl
  exact W.lcmp hx hb d (by rw [zI_cmp hb1.1 hb1.2]; exact k H locs ls hP hD hS hl)
theorem z_i2l (C : Fc K cc own nL) {x : Int} (d : decode cc pc = .ok (.i2l, 1)) (hb1 : -2147483648 ≤ x ∧ x < 2147483648) (k : Gd K cells slots (pc + 1) L (.long (zL x) :: rest) ws) : Gd K cells slots pc L (.int (zI x) :: rest) ws := by
  obtain ⟨p, l, e, R, s, m, args, below, meth, c, A, H0, Q, D, t⟩ := K
  obtain ⟨hx, hb, hml, ho, hts, hK, hA⟩ := C
  intro H locs ls hP hD hS hl
  exact lv_i2l hx hb d (zI_long hb1) (k H locs ls hP hD hS hl)
theorem z_l2i (C : Fc K cc own nL) {x : Int} (d : decode cc pc = .ok (.l2i, 1)) (k : Gd K cells slots (pc + 1) L (.int (zI x) :: rest) ws) : Gd K cells slots pc L (.long (zL x) :: rest) ws := by
  obtain ⟨p, l, e, R, s, m, args, below, meth, c, A, H0, Q, D, t⟩ := K
  obtain ⟨hx, hb, hml, ho, hts, hK, hA⟩ := C
  intro H locs ls hP hD hS hl
  exact lv_l2i hx hb d (zL_small x) (k H locs ls hP hD hS hl)
theorem z_i2b (C : Fc K cc own nL) {x y : Int} (d : decode cc pc = .ok (.i2b, 1)) (hy : (zI x).toInt8.toInt32 = zI y) (k : Gd K cells slots (pc + 1) L (.int (zI y) :: rest) ws) : Gd K cells slots pc L (.int (zI x) :: rest) ws := by
  obtain ⟨p, l, e, R, s, m, args, below, meth, c, A, H0, Q, D, t⟩ := K
  obtain ⟨hx, hb, hml, ho, hts, hK, hA⟩ := C
  intro H locs ls hP hD hS hl
  exact lv_i2b hx hb d hy (k H locs ls hP hD hS hl)
theorem z_i2s (C : Fc K cc own nL) {x y : Int} (d : decode cc pc = .ok (.i2s, 1)) (hy : (zI x).toInt16.toInt32 = zI y) (k : Gd K cells slots (pc + 1) L (.int (zI y) :: rest) ws) : Gd K cells slots pc L (.int (zI x) :: rest) ws := by
  obtain ⟨p, l, e, R, s, m, args, below, meth, c, A, H0, Q, D, t⟩ := K
  obtain ⟨hx, hb, hml, ho, hts, hK, hA⟩ := C
  intro H locs ls hP hD hS hl
  exact lv_i2s hx hb d hy (k H locs ls hP hD hS hl)
theorem z_iand (C : Fc K cc own nL) {x y z : Int} (d : decode cc pc = .ok (.iand, 1)) (hz : zI x &&& zI y = zI z) (k : Gd K cells slots (pc + 1) L (.int (zI z) :: rest) ws) : Gd K cells slots pc L (.int (zI y) :: .int (zI x) :: rest) ws := by
  obtain ⟨p, l, e, R, s, m, args, below, meth, c, A, H0, Q, D, t⟩ := K
  obtain ⟨hx, hb, hml, ho, hts, hK, hA⟩ := C
  intro H locs ls hP hD hS hl
  exact lv_iand hx hb d (by rw [hz]; exact k H locs ls hP hD hS hl)
theorem z_ior (C : Fc K cc own nL) {x y z : Int} (d : decode cc pc = .ok (.ior, 1)) (hz : zI x ||| zI y = zI z) (k : Gd K cells slots (pc + 1) L (.int (zI z) :: rest) ws) : Gd K cells slots pc L (.int (zI y) :: .int (zI x) :: rest) ws := by
  obtain ⟨p, l, e, R, s, m, args, below, meth, c, A, H0, Q, D, t⟩ := K
  obtain ⟨hx, hb, hml, ho, hts, hK, hA⟩ := C
  intro H locs ls hP hD hS hl
  exact lv_ior hx hb d (by rw [hz]; exact k H locs ls hP hD hS hl)
theorem z_ixor (C : Fc K cc own nL) {x y z : Int} (d : decode cc pc = .ok (.ixor, 1)) (hz : zI x ^^^ zI y = zI z) (k : Gd K cells slots (pc + 1) L (.int (zI z) :: rest) ws) : Gd K cells slots pc L (.int (zI y) :: .int (zI x) :: rest) ws := by
  obtain ⟨p, l, e, R, s, m, args, below, meth, c, A, H0, Q, D, t⟩ := K
  obtain ⟨hx, hb, hml, ho, hts, hK, hA⟩ := C
  intro H locs ls hP hD hS hl
  exact lv_ixor hx hb d (by rw [hz]; exact k H locs ls hP hD hS hl)
theorem z_ishl (C : Fc K cc own nL) {x y z : Int} (d : decode cc pc = .ok (.ishl, 1)) (hz : zI x <<< (zI y &&& 31) = zI z) (k : Gd K cells slots (pc + 1) L (.int (zI z) :: rest) ws) : Gd K cells slots pc L (.int (zI y) :: .int (zI x) :: rest) ws := by
  obtain ⟨p, l, e, R, s, m, args, below, meth, c, A, H0, Q, D, t⟩ := K
  obtain ⟨hx, hb, hml, ho, hts, hK, hA⟩ := C
  intro H locs ls hP hD hS hl
  exact lv_ishl hx hb d (by rw [hz]; exact k H locs ls hP hD hS hl)
theorem z_ishr (C : Fc K cc own nL) {x y z : Int} (d : decode cc pc = .ok (.ishr, 1)) (hz : zI x >>> (zI y &&& 31) = zI z) (k : Gd K cells slots (pc + 1) L (.int (zI z) :: rest) ws) : Gd K cells slots pc L (.int (zI y) :: .int (zI x) :: rest) ws := by
  obtain ⟨p, l, e, R, s, m, args, below, meth, c, A, H0, Q, D, t⟩ := K
  obtain ⟨hx, hb, hml, ho, hts, hK, hA⟩ := C
  intro H locs ls hP hD hS hl
  exact lv_ishr hx hb d (by rw [hz]; exact k H locs ls hP hD hS hl)
theorem z_dup (C : Fc K cc own nL) {v : Value} (d : decode cc pc = .ok (.dup, 1)) (hv : v.category = 1) (k : Gd K cells slots (pc + 1) L (v :: v :: rest) ws) : Gd K cells slots pc L (v :: rest) ws := by
  obtain ⟨p, l, e, R, s, m, args, below, meth, c, A, H0, Q, D, t⟩ := K
  obtain ⟨hx, hb, hml, ho, hts, hK, hA⟩ := C
  intro H locs ls hP hD hS hl
  exact lv_dup hx hb d hv (k H locs ls hP hD hS hl)
theorem z_pop (C : Fc K cc own nL) {v : Value} (d : decode cc pc = .ok (.pop, 1)) (hv : v.category = 1) (k : Gd K cells slots (pc + 1) L (rest) ws) : Gd K cells slots pc L (v :: rest) ws := by
  obtain ⟨p, l, e, R, s, m, args, below, meth, c, A, H0, Q, D, t⟩ := K
  obtain ⟨hx, hb, hml, ho, hts, hK, hA⟩ := C
  intro H locs ls hP hD hS hl
  exact lv_pop hx hb d hv (k H locs ls hP hD hS hl)
theorem z_dup2 (C : Fc K cc own nL) {v u : Value} (d : decode cc pc = .ok (.dup2, 1)) (hv : v.category = 1) (hu : u.category = 1) (k : Gd K cells slots (pc + 1) L (v :: u :: v :: u :: rest) ws) : Gd K cells slots pc L (v :: u :: rest) ws := by
  obtain ⟨p, l, e, R, s, m, args, below, meth, c, A, H0, Q, D, t⟩ := K
  obtain ⟨hx, hb, hml, ho, hts, hK, hA⟩ := C
  intro H locs ls hP hD hS hl
  exact lv_dup2_11 hx hb d hv hu (k H locs ls hP hD hS hl)
theorem z_icmp_eq (C : Fc K cc own nL) {x y off : Int} {tgt : Nat} (d : decode cc pc = .ok (.if_icmp .eq off, 3)) (ht : (pc : Int) + off = (tgt : Int)) (hb1 : (-2147483648 ≤ x ∧ x < 2147483648) ∧ (-2147483648 ≤ y ∧ y < 2147483648)) (kt : x = y → Gd K cells slots tgt L (rest) ws) (kf : ¬ x = y → Gd K cells slots (pc + 3) L (rest) ws) : Gd K cells slots pc L (.int (zI y) :: .int (zI x) :: rest) ws := by
  obtain ⟨p, l, e, R, s, m, args, below, meth, c, A, H0, Q, D, t⟩ := K
  obtain ⟨hx, hb, hml, ho, hts, hK, hA⟩ := C
  intro H locs ls hP hD hS hl
  exact lv_icmp_eq hx hb d ht (fun h => kt ((zI_eq hb1.1 hb1.2).mp h) H locs ls hP hD hS hl) (fun h => kf (fun q => h ((zI_eq hb1.1 hb1.2).mpr q)) H locs ls hP hD hS hl)
theorem z_icmp_ne (C : Fc K cc own nL) {x y off : Int} {tgt : Nat} (d : decode cc pc = .ok (.if_icmp .ne off, 3)) (ht : (pc : Int) + off = (tgt : Int)) (hb1 : (-2147483648 ≤ x ∧ x < 2147483648) ∧ (-2147483648 ≤ y ∧ y < 2147483648)) (kt : ¬ x = y → Gd K cells slots tgt L (rest) ws) (kf : x = y → Gd K cells slots (pc + 3) L (rest) ws) : Gd K cells slots pc L (.int (zI y) :: .int (zI x) :: rest) ws := by
  obtain ⟨p, l, e, R, s, m, args, below, meth, c, A, H0, Q, D, t⟩ := K
  obtain ⟨hx, hb, hml, ho, hts, hK, hA⟩ := C
  intro H locs ls hP hD hS hl
  exact lv_icmp_ne hx hb d ht (fun h => kt (fun q => h ((zI_eq hb1.1 hb1.2).mpr q)) H locs ls hP hD hS hl) (fun h => kf ((zI_eq hb1.1 hb1.2).mp h) H locs ls hP hD hS hl)
theorem z_icmp_lt (C : Fc K cc own nL) {x y off : Int} {tgt : Nat} (d : decode cc pc = .ok (.if_icmp .lt off, 3)) (ht : (pc : Int) + off = (tgt : Int)) (hb1 : (-2147483648 ≤ x ∧ x < 2147483648) ∧ (-2147483648 ≤ y ∧ y < 2147483648)) (kt : x < y → Gd K cells slots tgt L (rest) ws) (kf : ¬ x < y → Gd K cells slots (pc + 3) L (rest) ws) : Gd K cells slots pc L (.int (zI y) :: .int (zI x) :: rest) ws := by
  obtain ⟨p, l, e, R, s, m, args, below, meth, c, A, H0, Q, D, t⟩ := K
  obtain ⟨hx, hb, hml, ho, hts, hK, hA⟩ := C
  intro H locs ls hP hD hS hl
  exact lv_icmp_lt hx hb d ht (fun h => kt ((zI_lt hb1.1 hb1.2).mp h) H locs ls hP hD hS hl) (fun h => kf (fun q => h ((zI_lt hb1.1 hb1.2).mpr q)) H locs ls hP hD hS hl)
theorem z_icmp_ge (C : Fc K cc own nL) {x y off : Int} {tgt : Nat} (d : decode cc pc = .ok (.if_icmp .ge off, 3)) (ht : (pc : Int) + off = (tgt : Int)) (hb1 : (-2147483648 ≤ x ∧ x < 2147483648) ∧ (-2147483648 ≤ y ∧ y < 2147483648)) (kt : y ≤ x → Gd K cells slots tgt L (rest) ws) (kf : ¬ y ≤ x → Gd K cells slots (pc + 3) L (rest) ws) : Gd K cells slots pc L (.int (zI y) :: .int (zI x) :: rest) ws := by
  obtain ⟨p, l, e, R, s, m, args, below, meth, c, A, H0, Q, D, t⟩ := K
  obtain ⟨hx, hb, hml, ho, hts, hK, hA⟩ := C
  intro H locs ls hP hD hS hl
  exact lv_icmp_ge hx hb d ht (fun h => kt ((zI_le hb1.2 hb1.1).mp h) H locs ls hP hD hS hl) (fun h => kf (fun q => h ((zI_le hb1.2 hb1.1).mpr q)) H locs ls hP hD hS hl)
theorem z_icmp_gt (C : Fc K cc own nL) {x y off : Int} {tgt : Nat} (d : decode cc pc = .ok (.if_icmp .gt off, 3)) (ht : (pc : Int) + off = (tgt : Int)) (hb1 : (-2147483648 ≤ x ∧ x < 2147483648) ∧ (-2147483648 ≤ y ∧ y < 2147483648)) (kt : y < x → Gd K cells slots tgt L (rest) ws) (kf : ¬ y < x → Gd K cells slots (pc + 3) L (rest) ws) : Gd K cells slots pc L (.int (zI y) :: .int (zI x) :: rest) ws := by
  obtain ⟨p, l, e, R, s, m, args, below, meth, c, A, H0, Q, D, t⟩ := K
  obtain ⟨hx, hb, hml, ho, hts, hK, hA⟩ := C
  intro H locs ls hP hD hS hl
  exact lv_icmp_gt hx hb d ht (fun h => kt ((zI_lt hb1.2 hb1.1).mp h) H locs ls hP hD hS hl) (fun h => kf (fun q => h ((zI_lt hb1.2 hb1.1).mpr q)) H locs ls hP hD hS hl)
theorem z_icmp_le (C : Fc K cc own nL) {x y off : Int} {tgt : Nat} (d : decode cc pc = .ok (.if_icmp .le off, 3)) (ht : (pc : Int) + off = (tgt : Int)) (hb1 : (-2147483648 ≤ x ∧ x < 2147483648) ∧ (-2147483648 ≤ y ∧ y < 2147483648)) (kt : x ≤ y → Gd K cells slots tgt L (rest) ws) (kf : ¬ x ≤ y → Gd K cells slots (pc + 3) L (rest) ws) : Gd K cells slots pc L (.int (zI y) :: .int (zI x) :: rest) ws := by
  obtain ⟨p, l, e, R, s, m, args, below, meth, c, A, H0, Q, D, t⟩ := K
  obtain ⟨hx, hb, hml, ho, hts, hK, hA⟩ := C
  intro H locs ls hP hD hS hl
  exact lv_icmp_le hx hb d ht (fun h => kt ((zI_le hb1.1 hb1.2).mp h) H locs ls hP hD hS hl) (fun h => kf (fun q => h ((zI_le hb1.1 hb1.2).mpr q)) H locs ls hP hD hS hl)
theorem z_if_eq (C : Fc K cc own nL) {x off : Int} {tgt : Nat} (d : decode cc pc = .ok (.ifCond .eq off, 3)) (ht : (pc : Int) + off = (tgt : Int)) (hb1 : -2147483648 ≤ x ∧ x < 2147483648) (kt : x = 0 → Gd K cells slots tgt L (rest) ws) (kf : ¬ x = 0 → Gd K cells slots (pc + 3) L (rest) ws) : Gd K cells slots pc L (.int (zI x) :: rest) ws := by
  obtain ⟨p, l, e, R, s, m, args, below, meth, c, A, H0, Q, D, t⟩ := K
  obtain ⟨hx, hb, hml, ho, hts, hK, hA⟩ := C
  intro H locs ls hP hD hS hl
  exact lv_if_eq hx hb d ht (fun h => kt ((zI_eq hb1 (show (-2147483648 : Int) ≤ 0 ∧ (0 : Int) < 2147483648 from ⟨by decide, by decide⟩)).mp h) H locs ls hP hD hS hl) (fun h => kf (fun q => h ((zI_eq hb1 (show (-2147483648 : Int) ≤ 0 ∧ (0 : Int) < 2147483648 from ⟨by decide, by decide⟩)).mpr q)) H locs ls hP hD hS hl)
theorem z_if_ne (C : Fc K cc own nL) {x off : Int} {tgt : Nat} (d : decode cc pc = .ok (.ifCond .ne off, 3)) (ht : (pc : Int) + off = (tgt : Int)) (hb1 : -2147483648 ≤ x ∧ x < 2147483648) (kt : ¬ x = 0 → Gd K cells slots tgt L (rest) ws) (kf : x = 0 → Gd K cells slots (pc + 3) L (rest) ws) : Gd K cells slots pc L (.int (zI x) :: rest) ws := by
  obtain ⟨p, l, e, R, s, m, args, below, meth, c, A, H0, Q, D, t⟩ := K
  obtain ⟨hx, hb, hml, ho, hts, hK, hA⟩ := C
  intro H locs ls hP hD hS hl
  exact lv_if_ne hx hb d ht (fun h => kt (fun q => h ((zI_eq hb1 (show (-2147483648 : Int) ≤ 0 ∧ (0 : Int) < 2147483648 from ⟨by decide, by decide⟩)).mpr q)) H locs ls hP hD hS hl) (fun h => kf ((zI_eq hb1 (show (-2147483648 : Int) ≤ 0 ∧ (0 : Int) < 2147483648 from ⟨by decide, by decide⟩)).mp h) H locs ls hP hD hS hl)
theorem z_if_lt (C : Fc K cc own nL) {x off : Int} {tgt : Nat} (d : decode cc pc = .ok (.ifCond .lt off, 3)) (ht : (pc : Int) + off = (tgt : Int)) (hb1 : -2147483648 ≤ x ∧ x < 2147483648) (kt : x < 0 → Gd K cells slots tgt L (rest) ws) (kf : ¬ x < 0 → Gd K cells slots (pc + 3) L (rest) ws) : Gd K cells slots pc L (.int (zI x) :: rest) ws := by
  obtain ⟨p, l, e, R, s, m, args, below, meth, c, A, H0, Q, D, t⟩ := K
  obtain ⟨hx, hb, hml, ho, hts, hK, hA⟩ := C
  intro H locs ls hP hD hS hl
  exact lv_if_lt hx hb d ht (fun h => kt ((zI_lt hb1 (show (-2147483648 : Int) ≤ 0 ∧ (0 : Int) < 2147483648 from ⟨by decide, by decide⟩)).mp h) H locs ls hP hD hS hl) (fun h => kf (fun q => h ((zI_lt hb1 (show (-2147483648 : Int) ≤ 0 ∧ (0 : Int) < 2147483648 from ⟨by decide, by decide⟩)).mpr q)) H locs ls hP hD hS hl)
theorem z_if_ge (C : Fc K cc own nL) {x off : Int} {tgt : Nat} (d : decode cc pc = .ok (.ifCond .ge off, 3)) (ht : (pc : Int) + off = (tgt : Int)) (hb1 : -2147483648 ≤ x ∧ x < 2147483648) (kt : 0 ≤ x → Gd K cells slots tgt L (rest) ws) (kf : ¬ 0 ≤ x → Gd K cells slots (pc + 3) L (rest) ws) : Gd K cells slots pc L (.int (zI x) :: rest) ws := by
  obtain ⟨p, l, e, R, s, m, args, below, meth, c, A, H0, Q, D, t⟩ := K
  obtain ⟨hx, hb, hml, ho, hts, hK, hA⟩ := C
  intro H locs ls hP hD hS hl
  exact lv_if_ge hx hb d ht (fun h => kt ((zI_le (show (-2147483648 : Int) ≤ 0 ∧ (0 : Int) < 2147483648 from ⟨by decide, by decide⟩) hb1).mp h) H locs ls hP hD hS hl) (fun h => kf (fun q => h ((zI_le (show (-2147483648 : Int) ≤ 0 ∧ (0 : Int) < 2147483648 from ⟨by decide, by decide⟩) hb1).mpr q)) H locs ls hP hD hS hl)
theorem z_if_gt (C : Fc K cc own nL) {x off : Int} {tgt : Nat} (d : decode cc pc = .ok (.ifCond .gt off, 3)) (ht : (pc : Int) + off = (tgt : Int)) (hb1 : -2147483648 ≤ x ∧ x < 2147483648) (kt : 0 < x → Gd K cells slots tgt L (rest) ws) (kf : ¬ 0 < x → Gd K cells slots (pc + 3) L (rest) ws) : Gd K cells slots pc L (.int (zI x) :: rest) ws := by
  obtain ⟨p, l, e, R, s, m, args, below, meth, c, A, H0, Q, D, t⟩ := K
  obtain ⟨hx, hb, hml, ho, hts, hK, hA⟩ := C
  intro H locs ls hP hD hS hl
  exact lv_if_gt hx hb d ht (fun h => kt ((zI_lt (show (-2147483648 : Int) ≤ 0 ∧ (0 : Int) < 2147483648 from ⟨by decide, by decide⟩) hb1).mp h) H locs ls hP hD hS hl) (fun h => kf (fun q => h ((zI_lt (show (-2147483648 : Int) ≤ 0 ∧ (0 : Int) < 2147483648 from ⟨by decide, by decide⟩) hb1).mpr q)) H locs ls hP hD hS hl)
theorem z_if_le (C : Fc K cc own nL) {x off : Int} {tgt : Nat} (d : decode cc pc = .ok (.ifCond .le off, 3)) (ht : (pc : Int) + off = (tgt : Int)) (hb1 : -2147483648 ≤ x ∧ x < 2147483648) (kt : x ≤ 0 → Gd K cells slots tgt L (rest) ws) (kf : ¬ x ≤ 0 → Gd K cells slots (pc + 3) L (rest) ws) : Gd K cells slots pc L (.int (zI x) :: rest) ws := by
  obtain ⟨p, l, e, R, s, m, args, below, meth, c, A, H0, Q, D, t⟩ := K
  obtain ⟨hx, hb, hml, ho, hts, hK, hA⟩ := C
  intro H locs ls hP hD hS hl
  exact lv_if_le hx hb d ht (fun h => kt ((zI_le hb1 (show (-2147483648 : Int) ≤ 0 ∧ (0 : Int) < 2147483648 from ⟨by decide, by decide⟩)).mp h) H locs ls hP hD hS hl) (fun h => kf (fun q => h ((zI_le hb1 (show (-2147483648 : Int) ≤ 0 ∧ (0 : Int) < 2147483648 from ⟨by decide, by decide⟩)).mpr q)) H locs ls hP hD hS hl)
theorem z_goto (C : Fc K cc own nL) {off : Int} {tgt : Nat} (d : decode cc pc = .ok (.goto off, 3)) (ht : (pc : Int) + off = (tgt : Int)) (k : Gd K cells slots tgt L (rest) ws) : Gd K cells slots pc L (rest) ws := by
  obtain ⟨p, l, e, R, s, m, args, below, meth, c, A, H0, Q, D, t⟩ := K
  obtain ⟨hx, hb, hml, ho, hts, hK, hA⟩ := C
  intro H locs ls hP hD hS hl
  exact lv_goto hx hb d ht (k H locs ls hP hD hS hl)
theorem z_tableIn (C : Fc K cc own nL) {dflt lo hi : Int} {offs : Array Int} {len : Nat} {x off : Int} {tgt : Nat} (d : decode cc pc = .ok (.tableswitch dflt lo hi offs, len)) (hb1 : -2147483648 ≤ x ∧ x < 2147483648) (h1 : ¬ x < lo) (h2 : ¬ hi < x) (ho2 : offs[(x - lo).toNat]? = some off) (ht : (pc : Int) + off = (tgt : Int)) (k : Gd K cells slots tgt L (rest) ws) : Gd K cells slots pc L (.int (zI x) :: rest) ws := by
  obtain ⟨p, l, e, R, s, m, args, below, meth, c, A, H0, Q, D, t⟩ := K
  obtain ⟨hx, hb, hml, ho, hts, hK, hA⟩ := C
  intro H locs ls hP hD hS hl
  exact lv_tableIn hx hb d (by rw [zI_int hb1]; exact h1) (by rw [zI_int hb1]; exact h2) (by rw [zI_int hb1]; exact ho2) ht (k H locs ls hP hD hS hl)
theorem z_tableOut (C : Fc K cc own nL) {dflt lo hi : Int} {offs : Array Int} {len : Nat} {x : Int} {tgt : Nat} (d : decode cc pc = .ok (.tableswitch dflt lo hi offs, len)) (hb1 : -2147483648 ≤ x ∧ x < 2147483648) (h1 : x < lo ∨ hi < x) (ht : (pc : Int) + dflt = (tgt : Int)) (k : Gd K cells slots tgt L (rest) ws) : Gd K cells slots pc L (.int (zI x) :: rest) ws := by
  obtain ⟨p, l, e, R, s, m, args, below, meth, c, A, H0, Q, D, t⟩ := K
  obtain ⟨hx, hb, hml, ho, hts, hK, hA⟩ := C
  intro H locs ls hP hD hS hl
  exact lv_tableOut hx hb d (by rw [zI_int hb1]; exact h1) ht (k H locs ls hP hD hS hl)
theorem z_iald (C : Fc K cc own nL) {a n : Nat} {F : Int → Int} {i : Int} (d : decode cc pc = .ok (.iaload, 1)) (q0 : Nat) (ha : ws[q0]? = some (a, .inl (z_t K 0, n, .inl (fun j : Nat => zI (F j))))) (hi : 0 ≤ i ∧ i < n) (hn : n < 2147483648) (k : Gd K cells slots (pc + 1) L (.int (zI (F i)) :: rest) ws) : Gd K cells slots pc L (.int (zI i) :: .ref a :: rest) ws := by
  obtain ⟨p, l, e, R, s, m, args, below, meth, c, A, H0, Q, D, t⟩ := K
  obtain ⟨hx, hb, hml, ho, hts, hK, hA⟩ := C
  intro H locs ls hP hD hS hl
  exact va_iald hx hb hK hP q0 0 ha rfl (zI_in hi.1 hi.2 hn) d (by rw [zI_idx hi.1 (by omega)]; exact k H locs ls hP hD hS hl)
theorem z_zald (C : Fc K cc own nL) {a n : Nat} {F : Int → Int} {i : Int} (d : decode cc pc = .ok (.baload, 1)) (q0 : Nat) (ha : ws[q0]? = some (a, .inl (z_t K 2, n, .inl (fun j : Nat => zI (F j))))) (hi : 0 ≤ i ∧ i < n) (hn : n < 2147483648) (k : Gd K cells slots (pc + 1) L (.int (zI (F i)) :: rest) ws) : Gd K cells slots pc L (.int (zI i) :: .ref a :: rest) ws := by
  obtain ⟨p, l, e, R, s, m, args, below, meth, c, A, H0, Q, D, t⟩ := K
  obtain ⟨hx, hb, hml, ho, hts, hK, hA⟩ := C
  intro H locs ls hP hD hS hl
  exact va_zald hx hb hK hP q0 2 ha rfl (zI_in hi.1 hi.2 hn) d (by rw [zI_idx hi.1 (by omega)]; exact k H locs ls hP hD hS hl)
theorem z_lald (C : Fc K cc own nL) {a n : Nat} {F : Int → Int} {i : Int} (d : decode cc pc = .ok (.laload, 1)) (q0 : Nat) (ha : ws[q0]? = some (a, .inl (z_t K 1, n, .inr (.inl (fun j : Nat => zL (F j)))))) (hi : 0 ≤ i ∧ i < n) (hn : n < 2147483648) (k : Gd K cells slots (pc + 1) L (.long (zL (F i)) :: rest) ws) : Gd K cells slots pc L (.int (zI i) :: .ref a :: rest) ws := by
  obtain ⟨p, l, e, R, s, m, args, below, meth, c, A, H0, Q, D, t⟩ := K
  obtain ⟨hx, hb, hml, ho, hts, hK, hA⟩ := C
  intro H locs ls hP hD hS hl
  exact va_lald hx hb hK hP q0 1 ha rfl (zI_in hi.1 hi.2 hn) d (by rw [zI_idx hi.1 (by omega)]; exact k H locs ls hP hD hS hl)
theorem z_iast (C : Fc K cc own nL) {a n : Nat} {F : Int → Int} {i x : Int} (d : decode cc pc = .ok (.iastore, 1)) (q0 : Nat) (ha : ws[q0]? = some (a, .inl (z_t K 0, n, .inl (fun j : Nat => zI (F j))))) (hi : 0 ≤ i ∧ i < n) (hn : n < 2147483648) (k : Gd K cells slots (pc + 1) L (rest) (ws.set q0 (a, .inl (z_t K 0, n, .inl (fun j : Nat => zI (zU F i x j)))))) : Gd K cells slots pc L (.int (zI x) :: .int (zI i) :: .ref a :: rest) ws := by
  obtain ⟨p, l, e, R, s, m, args, below, meth, c, A, H0, Q, D, t⟩ := K
  obtain ⟨hx, hb, hml, ho, hts, hK, hA⟩ := C
  intro H locs ls hP hD hS hl
  refine va_iast hx hb hK hP hD hS q0 0 ha rfl (zI_in hi.1 hi.2 hn) d fun H1 locs1 hP hD hS => ?_
  rw [zI_clamp hi.1 (by omega), zU_upd hi.1] at hP hD
  exact k H1 locs1 ls hP hD hS hl
theorem z_zast (C : Fc K cc own nL) {a n : Nat} {F : Int → Int} {i x : Int} (d : decode cc pc = .ok (.bastore, 1)) (q0 : Nat) (ha : ws[q0]? = some (a, .inl (z_t K 2, n, .inl (fun j : Nat => zI (F j))))) (hi : 0 ≤ i ∧ i < n) (hn : n < 2147483648) (hx01 : x = 0 ∨ x = 1) (k : Gd K cells slots (pc + 1) L (rest) (ws.set q0 (a, .inl (z_t K 2, n, .inl (fun j : Nat => zI (zU F i x j)))))) : Gd K cells slots pc L (.int (zI x) :: .int (zI i) :: .ref a :: rest) ws := by
  obtain ⟨p, l, e, R, s, m, args, below, meth, c, A, H0, Q, D, t⟩ := K
  obtain ⟨hx, hb, hml, ho, hts, hK, hA⟩ := C
  intro H locs ls hP hD hS hl
  refine va_zast hx hb hK hP hD hS q0 2 ha rfl (zI_in hi.1 hi.2 hn) d fun H1 locs1 hP hD hS => ?_
  rw [zI_clamp hi.1 (by omega), zI_bool hx01, zU_upd hi.1] at hP hD
  exact k H1 locs1 ls hP hD hS hl
theorem z_last (C : Fc K cc own nL) {a n : Nat} {F : Int → Int} {i x : Int} (d : decode cc pc = .ok (.lastore, 1)) (q0 : Nat) (ha : ws[q0]? = some (a, .inl (z_t K 1, n, .inr (.inl (fun j : Nat => zL (F j)))))) (hi : 0 ≤ i ∧ i < n) (hn : n < 2147483648) (k : Gd K cells slots (pc + 1) L (rest) (ws.set q0 (a, .inl (z_t K 1, n, .inr (.inl (fun j : Nat => zL (zU F i x j))))))) : Gd K cells slots pc L (.long (zL x) :: .int (zI i) :: .ref a :: rest) ws := by
  obtain ⟨p, l, e, R, s, m, args, below, meth, c, A, H0, Q, D, t⟩ := K
  obtain ⟨hx, hb, hml, ho, hts, hK, hA⟩ := C
  intro H locs ls hP hD hS hl
  refine va_last hx hb hK hP hD hS q0 1 ha rfl (zI_in hi.1 hi.2 hn) d fun H1 locs1 hP hD hS => ?_
  rw [zI_clamp hi.1 (by omega), zU_updL hi.1] at hP hD
  exact k H1 locs1 ls hP hD hS hl
theorem z_alen (C : Fc K cc own nL) {a : Nat} {x : vp_A} {tx : Nat} {ty : FieldType} (d : decode cc pc = .ok (.arraylength, 1)) (q0 : Nat) (ha : ws[q0]? = some (a, .inl (z_t K tx, x))) (ht : (z_tys (z_t K))[tx]? = some (z_t K tx, ty)) (k : Gd K cells slots (pc + 1) L (.int (zI x.1) :: rest) ws) : Gd K cells slots pc L (.ref a :: rest) ws := by
  obtain ⟨p, l, e, R, s, m, args, below, meth, c, A, H0, Q, D, t⟩ := K
  obtain ⟨hx, hb, hml, ho, hts, hK, hA⟩ := C
  intro H locs ls hP hD hS hl
  exact va_alen hx hb hK hP q0 tx ha ht (zI_nat x.1) d (k H locs ls hP hD hS hl)
theorem z_aldq (C : Fc K cc own nL) {a n tx : Nat} {CC : String} {f : Nat → Option Nat} {i : Int} (d : decode cc pc = .ok (.aaload, 1)) (q0 : Nat) (ha : ws[q0]? = some (a, .inl (z_t K tx, n, .inr (.inr (.inr (.inr f)))))) (ht : (z_tys (z_t K))[tx]? = some (z_t K tx, .object CC)) (hi : 0 ≤ i ∧ i < n) (hn : n < 2147483648) (k : Gd K cells slots (pc + 1) L (va_rf (f i.toNat) :: rest) ws) : Gd K cells slots pc L (.int (zI i) :: .ref a :: rest) ws := by
  obtain ⟨p, l, e, R, s, m, args, below, meth, c, A, H0, Q, D, t⟩ := K
  obtain ⟨hx, hb, hml, ho, hts, hK, hA⟩ := C
  intro H locs ls hP hD hS hl
  exact va_aldq hx hb hK hP q0 tx ha ht (zI_in hi.1 hi.2 hn) d (by rw [zI_clamp hi.1 (by omega)]; exact k H locs ls hP hD hS hl)
theorem z_get (C : Fc K cc own nL) {ref CC : String} {T : u_T} {N idx a : Nat} {fs : List Value} {v : Value} (ci : Nat) (q0 k0 : Nat) (d : decode cc pc = .ok (.getfield idx, 3)) (hin : ∀ w ∈ u_ws CC T N, w ∈ wsL_law) (he : ws[q0]? = some (a, .inr (ci, fs))) (hc : vwCl[ci]? = some (CC, T, N)) (hk : k0 < N) (hw : Cond.fieldLink own idx ref (T k0).2.1 (T k0).2.2.1 ∈ wsL_law) (hr : (T k0).1 = ref) (hv : fs[k0]? = some v) (k : Gd K cells slots (pc + 3) L (v :: rest) ws) : Gd K cells slots pc L (.ref a :: rest) ws := by
  obtain ⟨p, l, e, R, s, m, args, below, meth, c, A, H0, Q, D, t⟩ := K
  obtain ⟨hx, hb, hml, ho, hts, hK, hA⟩ := C
  intro H locs ls hP hD hS hl
  exact va_get (D := D) hx hb hts hin ho hK hP q0 he hc k0 hk (hts _ hw) (fun _ h => by rw [← hr]; exact h) hv d (k H locs ls hP hD hS hl)
theorem z_put (C : Fc K cc own nL) {ref CC : String} {T : u_T} {N idx a : Nat} {fs : List Value} {v : Value} (ci : Nat) (q0 k0 : Nat) (d : decode cc pc = .ok (.putfield idx, 3)) (hin : ∀ w ∈ u_ws CC T N, w ∈ wsL_law) (ty0 : Nat → FieldType) (hty : ∀ k, k < N → parseFieldDescriptor (T k).2.2.1 = some (ty0 k)) (hnm : ∀ a, a < N → ∀ b, b < N → a ≠ b → (T a).2.1 ≠ (T b).2.1) (he : ws[q0]? = some (a, .inr (ci, fs))) (hc : vwCl[ci]? = some (CC, T, N)) (hk : k0 < N) (hw : Cond.fieldLink own idx ref (T k0).2.1 (T k0).2.2.1 ∈ wsL_law) (hr : (T k0).1 = ref) (hfin : (T k0).2.2.2 = false) {ty : FieldType} (hd : parseFieldDescriptor (T k0).2.2.1 = some ty) (hnar : narrow ty v = v) (hfit : fits ty v = true) (hlen : k0 < fs.length) (k : Gd K cells slots (pc + 3) L (rest) (ws.set q0 (a, .inr (ci, fs.set k0 v)))) : Gd K cells slots pc L (v :: .ref a :: rest) ws := by
  obtain ⟨p, l, e, R, s, m, args, below, meth, c, A, H0, Q, D, t⟩ := K
  obtain ⟨hx, hb, hml, ho, hts, hK, hA⟩ := C
  intro H locs ls hP hD hS hl
  exact va_put (D := D) hx hb hts hin ty0 hty hnm ho hK hP hD hS q0 he hc k0 hk (hts _ hw) (fun _ h => by rw [← hr]; exact h) hfin hd hnar hfit hlen d fun H1 locs1 hP hD hS => k H1 locs1 ls hP hD hS hl
theorem z_putF (C : Fc K cc own nL) {ref CC : String} {T : u_T} {N idx a : Nat} {fs : List Value} {v : Value} (ci : Nat) (q0 k0 : Nat) (d : decode cc pc = .ok (.putfield idx, 3)) (hin : ∀ w ∈ u_ws CC T N, w ∈ wsL_law) (ty0 : Nat → FieldType) (hty : ∀ k, k < N → parseFieldDescriptor (T k).2.2.1 = some (ty0 k)) (hnm : ∀ a, a < N → ∀ b, b < N → a ≠ b → (T a).2.1 ≠ (T b).2.1) (he : ws[q0]? = some (a, .inr (ci, fs))) (hc : vwCl[ci]? = some (CC, T, N)) (hk : k0 < N) (hw : Cond.fieldLink own idx ref (T k0).2.1 (T k0).2.2.1 ∈ wsL_law) (hr : (T k0).1 = ref) (hfin : (T k0).2.2.2 = true) (hini : z_nm K = "<init>") (hdecl : (T k0).1 = own) {ty : FieldType} (hd : parseFieldDescriptor (T k0).2.2.1 = some ty) (hnar : narrow ty v = v) (hfit : fits ty v = true) (hlen : k0 < fs.length) (k : Gd K cells slots (pc + 3) L (rest) (ws.set q0 (a, .inr (ci, fs.set k0 v)))) : Gd K cells slots pc L (v :: .ref a :: rest) ws := by
  obtain ⟨p, l, e, R, s, m, args, below, meth, c, A, H0, Q, D, t⟩ := K
  obtain ⟨hx, hb, hml, ho, hts, hK, hA⟩ := C
  intro H locs ls hP hD hS hl
  exact va_putF (D := D) hx hb hts hin ty0 hty hnm ho hK hP hD hS q0 he hc k0 hk (hts _ hw) (fun _ h => by rw [← hr]; exact h) hfin hini hdecl hd hnar hfit hlen d fun H1 locs1 hP hD hS => k H1 locs1 ls hP hD hS hl
theorem z_mmax (C : Fc K cc own nL) {idx : Nat} {x y : Int} (d : decode cc pc = .ok (.invokestatic idx, 3)) (w1 : Cond.methodLink own idx Lib.Math.max.name ∈ wsL_law) (w2 : Cond.static Lib.Math.max.name ∈ wsL_law) (w3 : Cond.initialized "java/lang/Math" ∈ wsL_law) (w4 : Cond.code Lib.Math.max.name Lib.Math.max.code 2 (some .int) ∈ wsL_law) (hL : L.length = nL) (hf : 1 ≤ (z_Rm K).frames) (hlo : (rest.map fun v => v.category).sum + 13 ≤ (z_Rm K).locals) (hc : cells ≤ (z_Rm K).cells) (hs : slots ≤ (z_Rm K).slots) (hb1 : (-2147483648 ≤ x ∧ x < 2147483648) ∧ (-2147483648 ≤ y ∧ y < 2147483648)) (k : Gd K cells slots (pc + 3) L (.int (zI (if x < y then y else x)) :: rest) ws) : Gd K cells slots pc L (.int (zI y) :: .int (zI x) :: rest) ws := by
  obtain ⟨p, l, e, R, s, m, args, below, meth, c, A, H0, Q, D, t⟩ := K
  obtain ⟨hx, hb, hml, ho, hts, hK, hA⟩ := C
  intro H locs ls hP hD hS hl
  refine va_mmax hx hb (by rw [hml, ← hL]; exact hl.1.symm) ho (hts _ w1) (hts _ w2) (hts _ w3) (hts _ w4) hf hlo hc hs d ?_
  have q := k H locs ls hP hD hS hl
  simp only [zI_lt hb1.1 hb1.2]
  rw [apply_ite zI] at q
  exact q
theorem z_mmin (C : Fc K cc own nL) {idx : Nat} {x y : Int} (d : decode cc pc = .ok (.invokestatic idx, 3)) (w1 : Cond.methodLink own idx Lib.Math.min.name ∈ wsL_law) (w2 : Cond.static Lib.Math.min.name ∈ wsL_law) (w3 : Cond.initialized "java/lang/Math" ∈ wsL_law) (w4 : Cond.code Lib.Math.min.name Lib.Math.min.code 2 (some .int) ∈ wsL_law) (hL : L.length = nL) (hf : 1 ≤ (z_Rm K).frames) (hlo : (rest.map fun v => v.category).sum + 13 ≤ (z_Rm K).locals) (hc : cells ≤ (z_Rm K).cells) (hs : slots ≤ (z_Rm K).slots) (hb1 : (-2147483648 ≤ x ∧ x < 2147483648) ∧ (-2147483648 ≤ y ∧ y < 2147483648)) (k : Gd K cells slots (pc + 3) L (.int (zI (if y < x then y else x)) :: rest) ws) : Gd K cells slots pc L (.int (zI y) :: .int (zI x) :: rest) ws := by
  obtain ⟨p, l, e, R, s, m, args, below, meth, c, A, H0, Q, D, t⟩ := K
  obtain ⟨hx, hb, hml, ho, hts, hK, hA⟩ := C
  intro H locs ls hP hD hS hl
  refine va_mmin hx hb (by rw [hml, ← hL]; exact hl.1.symm) ho (hts _ w1) (hts _ w2) (hts _ w3) (hts _ w4) hf hlo hc hs d ?_
  have q := k H locs ls hP hD hS hl
  simp only [zI_lt hb1.2 hb1.1]
  rw [apply_ite zI] at q
  exact q
theorem z_mabs (C : Fc K cc own nL) {idx : Nat} {x : Int} (d : decode cc pc = .ok (.invokestatic idx, 3)) (w1 : Cond.methodLink own idx Lib.Math.abs.name ∈ wsL_law) (w2 : Cond.static Lib.Math.abs.name ∈ wsL_law) (w3 : Cond.initialized "java/lang/Math" ∈ wsL_law) (w4 : Cond.code Lib.Math.abs.name Lib.Math.abs.code 1 (some .int) ∈ wsL_law) (hL : L.length = nL) (hf : 1 ≤ (z_Rm K).frames) (hlo : (rest.map fun v => v.category).sum + 13 ≤ (z_Rm K).locals) (hc : cells ≤ (z_Rm K).cells) (hs : slots ≤ (z_Rm K).slots) (hb1 : -2147483648 ≤ x ∧ x < 2147483648) (k : Gd K cells slots (pc + 3) L (.int (zI (if 0 ≤ x then x else 0 - x)) :: rest) ws) : Gd K cells slots pc L (.int (zI x) :: rest) ws := by
  obtain ⟨p, l, e, R, s, m, args, below, meth, c, A, H0, Q, D, t⟩ := K
  obtain ⟨hx, hb, hml, ho, hts, hK, hA⟩ := C
  intro H locs ls hP hD hS hl
  refine va_mabs hx hb (by rw [hml, ← hL]; exact hl.1.symm) ho (hts _ w1) (hts _ w2) (hts _ w3) (hts _ w4) hf hlo hc hs d ?_
  have q := k H locs ls hP hD hS hl
  simp only [zI_0, zI_le (show (-2147483648 : Int) ≤ 0 ∧ (0 : Int) < 2147483648 from ⟨by decide, by decide⟩) hb1, zI_sub]
  rw [apply_ite zI] at q
  exact q
theorem z_mmaxP (C : Fc K cc own nL) {idx : Nat} {x y : Int} (d : decode cc pc = .ok (.invokestatic idx, 3)) (w1 : Cond.methodLink own idx Lib.Math.max.name ∈ wsL_law) (w2 : Cond.static Lib.Math.max.name ∈ wsL_law) (w3 : Cond.initialized "java/lang/Math" ∈ wsL_law) (w4 : Cond.code Lib.Math.max.name Lib.Math.max.code 2 (some .int) ∈ wsL_law) (hL : L.length = nL) (hf : 1 ≤ (z_Rm K).frames) (hlo : (rest.map fun v => v.category).sum + 13 ≤ (z_Rm K).locals) (hc : cells ≤ (z_Rm K).cells) (hs : slots ≤ (z_Rm K).slots) (hb1 : (-2147483648 ≤ x ∧ x < 2147483648) ∧ (-2147483648 ≤ y ∧ y < 2147483648)) (k : ∀ m : Int, x ≤ m ∧ y ≤ m ∧ (m = x ∨ m = y) → Gd K cells slots (pc + 3) L (.int (zI m) :: rest) ws) : Gd K cells slots pc L (.int (zI y) :: .int (zI x) :: rest) ws := z_mmax C d w1 w2 w3 w4 hL hf hlo hc hs hb1 (k _ (by split <;> omega))
theorem z_mminP (C : Fc K cc own nL) {idx : Nat} {x y : Int} (d : decode cc pc = .ok (.invokestatic idx, 3)) (w1 : Cond.methodLink own idx Lib.Math.min.name ∈ wsL_law) (w2 : Cond.static Lib.Math.min.name ∈ wsL_law) (w3 : Cond.initialized "java/lang/Math" ∈ wsL_law) (w4 : Cond.code Lib.Math.min.name Lib.Math.min.code 2 (some .int) ∈ wsL_law) (hL : L.length = nL) (hf : 1 ≤ (z_Rm K).frames) (hlo : (rest.map fun v => v.category).sum + 13 ≤ (z_Rm K).locals) (hc : cells ≤ (z_Rm K).cells) (hs : slots ≤ (z_Rm K).slots) (hb1 : (-2147483648 ≤ x ∧ x < 2147483648) ∧ (-2147483648 ≤ y ∧ y < 2147483648)) (k : ∀ m : Int, m ≤ x ∧ m ≤ y ∧ (m = x ∨ m = y) → Gd K cells slots (pc + 3) L (.int (zI m) :: rest) ws) : Gd K cells slots pc L (.int (zI y) :: .int (zI x) :: rest) ws := z_mmin C d w1 w2 w3 w4 hL hf hlo hc hs hb1 (k _ (by split <;> omega))
theorem z_mabsP (C : Fc K cc own nL) {idx : Nat} {x : Int} (d : decode cc pc = .ok (.invokestatic idx, 3)) (w1 : Cond.methodLink own idx Lib.Math.abs.name ∈ wsL_law) (w2 : Cond.static Lib.Math.abs.name ∈ wsL_law) (w3 : Cond.initialized "java/lang/Math" ∈ wsL_law) (w4 : Cond.code Lib.Math.abs.name Lib.Math.abs.code 1 (some .int) ∈ wsL_law) (hL : L.length = nL) (hf : 1 ≤ (z_Rm K).frames) (hlo : (rest.map fun v => v.category).sum + 13 ≤ (z_Rm K).locals) (hc : cells ≤ (z_Rm K).cells) (hs : slots ≤ (z_Rm K).slots) (hb1 : -2147483648 ≤ x ∧ x < 2147483648) (k : ∀ m : Int, 0 ≤ m ∧ (m = x ∨ m = -x) → Gd K cells slots (pc + 3) L (.int (zI m) :: rest) ws) : Gd K cells slots pc L (.int (zI x) :: rest) ws := z_mabs C d w1 w2 w3 w4 hL hf hlo hc hs hb1 (k _ (by split <;> omega))
theorem z_ws {st : List Value} {ws' : va_W} (h : ws' = ws) (k : Gd K cells slots pc L st ws') : Gd K cells slots pc L st ws := h ▸ k
theorem z_top {x y : Int} (h : x = y) (k : Gd K cells slots pc L (.int (zI y) :: rest) ws) : Gd K cells slots pc L (.int (zI x) :: rest) ws := h ▸ k
theorem z_topL {x y : Int} (h : x = y) (k : Gd K cells slots pc L (.long (zL y) :: rest) ws) : Gd K cells slots pc L (.long (zL x) :: rest) ws := h ▸ k
theorem z_forget {st : List Value} {L' : List (Option Value)} (hlen : L'.length = L.length) (h : ∀ (j : Nat) (v : Value), L'[j]? = some (some v) → L[j]? = some (some v)) (k : Gd K cells slots pc L' st ws) : Gd K cells slots pc L st ws := by
  obtain ⟨p, l, e, R, s, m, args, below, meth, c, A, H0, Q, D, t⟩ := K
  intro H locs ls hP hD hS hl
  exact k H locs ls hP hD hS (z_sub hl hlen fun j v hj => (z_asc_mem L 0 j v).mpr ⟨Nat.zero_le _, h j v hj⟩)
end ZR
end
section
/-! THE WORDS: each one among wsL_law; every method's contract stands over '.code' of its own and all of these -/
theorem mr_base : ∀ w ∈ (wsL_law_r1 ++ (wsL_law_r2 ++ (wsL_law_r3 ++ (wsL_law_r4 ++ (wsL_law_r5 ++ (wsL_law_r6 ++ (wsL_law_r7 ++ (wsL_law_r8 ++ (wsL_law_r9 ++ (wsL_law_r10 ++ (wsL_law_r11 ++ (wsL_law_r12 ++ (wsL_law_r13 ++ (wsL_law_r14 ++ (wsL_law_r15 ++ (wsL_law_r16 ++ (wsL_law_r17 ++ (wsL_law_r18 ++ (wsL_law_r19 ++ (wsL_law_r20 ++ (wsL_law_r21 ++ (wsL_law_r22 ++ (wsL_law_r23 ++ (wsL_law_r24 ++ (wsL_law_r25 ++ (wsL_law_r26 ++ (wsL_law_r27 ++ (wsL_law_r28 ++ (wsL_law_r29 ++ (wsL_law_r30 ++ (wsL_law_r31 ++ (wsL_law_r32 ++ (wsL_law_r33 ++ (wsL_law_r34 ++ (wsL_law_r35 ++ (wsL_law_r36 ++ (wsL_law_r37))))))))))))))))))))))))))))))))))))), w ∈ wsL_law := fun _ h => List.mem_append_left _ (List.mem_append_left _ (List.mem_append_left _ (List.mem_append_left _ (List.mem_append_left _ (List.mem_append_left _ (List.mem_append_left _ (List.mem_append_left _ (List.mem_append_left _ (List.mem_append_left _ (h))))))))))
theorem mr_1 : ∀ w ∈ wsL_law_r1, w ∈ wsL_law := fun w h => mr_base w (List.mem_append_left _ h)
theorem mr_2 : ∀ w ∈ wsL_law_r2, w ∈ wsL_law := fun w h => mr_base w (List.mem_append_right _ (List.mem_append_left _ h))
theorem mr_3 : ∀ w ∈ wsL_law_r3, w ∈ wsL_law := fun w h => mr_base w (List.mem_append_right _ (List.mem_append_right _ (List.mem_append_left _ h)))
theorem mr_4 : ∀ w ∈ wsL_law_r4, w ∈ wsL_law := fun w h => mr_base w (List.mem_append_right _ (List.mem_append_right _ (List.mem_append_right _ (List.mem_append_left _ h))))
theorem mr_5 : ∀ w ∈ wsL_law_r5, w ∈ wsL_law := fun w h => mr_base w (List.mem_append_right _ (List.mem_append_right _ (List.mem_append_right _ (List.mem_append_right _ (List.mem_append_left _ h)))))
theorem mr_6 : ∀ w ∈ wsL_law_r6, w ∈ wsL_law := fun w h => mr_base w (List.mem_append_right _ (List.mem_append_right _ (List.mem_append_right _ (List.mem_append_right _ (List.mem_append_right _ (List.mem_append_left _ h))))))
theorem mr_7 : ∀ w ∈ wsL_law_r7, w ∈ wsL_law := fun w h => mr_base w (List.mem_append_right _ (List.mem_append_right _ (List.mem_append_right _ (List.mem_append_right _ (List.mem_append_right _ (List.mem_append_right _ (List.mem_append_left _ h)))))))
theorem mr_8 : ∀ w ∈ wsL_law_r8, w ∈ wsL_law := fun w h => mr_base w (List.mem_append_right _ (List.mem_append_right _ (List.mem_append_right _ (List.mem_append_right _ (List.mem_append_right _ (List.mem_append_right _ (List.mem_append_right _ (List.mem_append_left _ h))))))))
theorem mr_9 : ∀ w ∈ wsL_law_r9, w ∈ wsL_law := fun w h => mr_base w (List.mem_append_right _ (List.mem_append_right _ (List.mem_append_right _ (List.mem_append_right _ (List.mem_append_right _ (List.mem_append_right _ (List.mem_append_right _ (List.mem_append_right _ (List.mem_append_left _ h)))))))))
theorem mr_10 : ∀ w ∈ wsL_law_r10, w ∈ wsL_law := fun w h => mr_base w (List.mem_append_right _ (List.mem_append_right _ (List.mem_append_right _ (List.mem_append_right _ (List.mem_append_right _ (List.mem_append_right _ (List.mem_append_right _ (List.mem_append_right _ (List.mem_append_right _ (List.mem_append_left _ h))))))))))
theorem mr_11 : ∀ w ∈ wsL_law_r11, w ∈ wsL_law := fun w h => mr_base w (List.mem_append_right _ (List.mem_append_right _ (List.mem_append_right _ (List.mem_append_right _ (List.mem_append_right _ (List.mem_append_right _ (List.mem_append_right _ (List.mem_append_right _ (List.mem_append_right _ (List.mem_append_right _ (List.mem_append_left _ h)))))))))))
theorem mr_12 : ∀ w ∈ wsL_law_r12, w ∈ wsL_law := fun w h => mr_base w (List.mem_append_right _ (List.mem_append_right _ (List.mem_append_right _ (List.mem_append_right _ (List.mem_append_right _ (List.mem_append_right _ (List.mem_append_right _ (List.mem_append_right _ (List.mem_append_right _ (List.mem_append_right _ (List.mem_append_right _ (List.mem_append_left _ h))))))))))))
theorem mr_13 : ∀ w ∈ wsL_law_r13, w ∈ wsL_law := fun w h => mr_base w (List.mem_append_right _ (List.mem_append_right _ (List.mem_append_right _ (List.mem_append_right _ (List.mem_append_right _ (List.mem_append_right _ (List.mem_append_right _ (List.mem_append_right _ (List.mem_append_right _ (List.mem_append_right _ (List.mem_append_right _ (List.mem_append_right _ (List.mem_append_left _ h)))))))))))))
theorem mr_14 : ∀ w ∈ wsL_law_r14, w ∈ wsL_law := fun w h => mr_base w (List.mem_append_right _ (List.mem_append_right _ (List.mem_append_right _ (List.mem_append_right _ (List.mem_append_right _ (List.mem_append_right _ (List.mem_append_right _ (List.mem_append_right _ (List.mem_append_right _ (List.mem_append_right _ (List.mem_append_right _ (List.mem_append_right _ (List.mem_append_right _ (List.mem_append_left _ h))))))))))))))
theorem mr_15 : ∀ w ∈ wsL_law_r15, w ∈ wsL_law := fun w h => mr_base w (List.mem_append_right _ (List.mem_append_right _ (List.mem_append_right _ (List.mem_append_right _ (List.mem_append_right _ (List.mem_append_right _ (List.mem_append_right _ (List.mem_append_right _ (List.mem_append_right _ (List.mem_append_right _ (List.mem_append_right _ (List.mem_append_right _ (List.mem_append_right _ (List.mem_append_right _ (List.mem_append_left _ h)))))))))))))))
theorem mr_16 : ∀ w ∈ wsL_law_r16, w ∈ wsL_law := fun w h => mr_base w (List.mem_append_right _ (List.mem_append_right _ (List.mem_append_right _ (List.mem_append_right _ (List.mem_append_right _ (List.mem_append_right _ (List.mem_append_right _ (List.mem_append_right _ (List.mem_append_right _ (List.mem_append_right _ (List.mem_append_right _ (List.mem_append_right _ (List.mem_append_right _ (List.mem_append_right _ (List.mem_append_right _ (List.mem_append_left _ h))))))))))))))))
theorem mr_17 : ∀ w ∈ wsL_law_r17, w ∈ wsL_law := fun w h => mr_base w (List.mem_append_right _ (List.mem_append_right _ (List.mem_append_right _ (List.mem_append_right _ (List.mem_append_right _ (List.mem_append_right _ (List.mem_append_right _ (List.mem_append_right _ (List.mem_append_right _ (List.mem_append_right _ (List.mem_append_right _ (List.mem_append_right _ (List.mem_append_right _ (List.mem_append_right _ (List.mem_append_right _ (List.mem_append_right _ (List.mem_append_left _ h)))))))))))))))))
theorem mr_18 : ∀ w ∈ wsL_law_r18, w ∈ wsL_law := fun w h => mr_base w (List.mem_append_right _ (List.mem_append_right _ (List.mem_append_right _ (List.mem_append_right _ (List.mem_append_right _ (List.mem_append_right _ (List.mem_append_right _ (List.mem_append_right _ (List.mem_append_right _ (List.mem_append_right _ (List.mem_append_right _ (List.mem_append_right _ (List.mem_append_right _ (List.mem_append_right _ (List.mem_append_right _ (List.mem_append_right _ (List.mem_append_right _ (List.mem_append_left _ h))))))))))))))))))
theorem mr_19 : ∀ w ∈ wsL_law_r19, w ∈ wsL_law := fun w h => mr_base w (List.mem_append_right _ (List.mem_append_right _ (List.mem_append_right _ (List.mem_append_right _ (List.mem_append_right _ (List.mem_append_right _ (List.mem_append_right _ (List.mem_append_right _ (List.mem_append_right _ (List.mem_append_right _ (List.mem_append_right _ (List.mem_append_right _ (List.mem_append_right _ (List.mem_append_right _ (List.mem_append_right _ (List.mem_append_right _ (List.mem_append_right _ (List.mem_append_right _ (List.mem_append_left _ h)))))))))))))))))))
theorem mr_20 : ∀ w ∈ wsL_law_r20, w ∈ wsL_law := fun w h => mr_base w (List.mem_append_right _ (List.mem_append_right _ (List.mem_append_right _ (List.mem_append_right _ (List.mem_append_right _ (List.mem_append_right _ (List.mem_append_right _ (List.mem_append_right _ (List.mem_append_right _ (List.mem_append_right _ (List.mem_append_right _ (List.mem_append_right _ (List.mem_append_right _ (List.mem_append_right _ (List.mem_append_right _ (List.mem_append_right _ (List.mem_append_right _ (List.mem_append_right _ (List.mem_append_right _ (List.mem_append_left _ h))))))))))))))))))))
theorem mr_21 : ∀ w ∈ wsL_law_r21, w ∈ wsL_law := fun w h => mr_base w (List.mem_append_right _ (List.mem_append_right _ (List.mem_append_right _ (List.mem_append_right _ (List.mem_append_right _ (List.mem_append_right _ (List.mem_append_right _ (List.mem_append_right _ (List.mem_append_right _ (List.mem_append_right _ (List.mem_append_right _ (List.mem_append_right _ (List.mem_append_right _ (List.mem_append_right _ (List.mem_append_right _ (List.mem_append_right _ (List.mem_append_right _ (List.mem_append_right _ (List.mem_append_right _ (List.mem_append_right _ (List.mem_append_left _ h)))))))))))))))))))))
theorem mr_22 : ∀ w ∈ wsL_law_r22, w ∈ wsL_law := fun w h => mr_base w (List.mem_append_right _ (List.mem_append_right _ (List.mem_append_right _ (List.mem_append_right _ (List.mem_append_right _ (List.mem_append_right _ (List.mem_append_right _ (List.mem_append_right _ (List.mem_append_right _ (List.mem_append_right _ (List.mem_append_right _ (List.mem_append_right _ (List.mem_append_right _ (List.mem_append_right _ (List.mem_append_right _ (List.mem_append_right _ (List.mem_append_right _ (List.mem_append_right _ (List.mem_append_right _ (List.mem_append_right _ (List.mem_append_right _ (List.mem_append_left _ h))))))))))))))))))))))
theorem mr_23 : ∀ w ∈ wsL_law_r23, w ∈ wsL_law := fun w h => mr_base w (List.mem_append_right _ (List.mem_append_right _ (List.mem_append_right _ (List.mem_append_right _ (List.mem_append_right _ (List.mem_append_right _ (List.mem_append_right _ (List.mem_append_right _ (List.mem_append_right _ (List.mem_append_right _ (List.mem_append_right _ (List.mem_append_right _ (List.mem_append_right _ (List.mem_append_right _ (List.mem_append_right _ (List.mem_append_right _ (List.mem_append_right _ (List.mem_append_right _ (List.mem_append_right _ (List.mem_append_right _ (List.mem_append_right _ (List.mem_append_right _ (List.mem_append_left _ h)))))))))))))))))))))))
theorem mr_24 : ∀ w ∈ wsL_law_r24, w ∈ wsL_law := fun w h => mr_base w (List.mem_append_right _ (List.mem_append_right _ (List.mem_append_right _ (List.mem_append_right _ (List.mem_append_right _ (List.mem_append_right _ (List.mem_append_right _ (List.mem_append_right _ (List.mem_append_right _ (List.mem_append_right _ (List.mem_append_right _ (List.mem_append_right _ (List.mem_append_right _ (List.mem_append_right _ (List.mem_append_right _ (List.mem_append_right _ (List.mem_append_right _ (List.mem_append_right _ (List.mem_append_right _ (List.mem_append_right _ (List.mem_append_right _ (List.mem_append_right _ (List.mem_append_right _ (List.mem_append_left _ h))))))))))))))))))))))))
theorem mr_25 : ∀ w ∈ wsL_law_r25, w ∈ wsL_law := fun w h => mr_base w (List.mem_append_right _ (List.mem_append_right _ (List.mem_append_right _ (List.mem_append_right _ (List.mem_append_right _ (List.mem_append_right _ (List.mem_append_right _ (List.mem_append_right _ (List.mem_append_right _ (List.mem_append_right _ (List.mem_append_right _ (List.mem_append_right _ (List.mem_append_right _ (List.mem_append_right _ (List.mem_append_right _ (List.mem_append_right _ (List.mem_append_right _ (List.mem_append_right _ (List.mem_append_right _ (List.mem_append_right _ (List.mem_append_right _ (List.mem_append_right _ (List.mem_append_right _ (List.mem_append_right _ (List.mem_append_left _ h)))))))))))))))))))))))))
theorem mr_26 : ∀ w ∈ wsL_law_r26, w ∈ wsL_law := fun w h => mr_base w (List.mem_append_right _ (List.mem_append_right _ (List.mem_append_right _ (List.mem_append_right _ (List.mem_append_right _ (List.mem_append_right _ (List.mem_append_right _ (List.mem_append_right _ (List.mem_append_right _ (List.mem_append_right _ (List.mem_append_right _ (List.mem_append_right _ (List.mem_append_right _ (List.mem_append_right _ (List.mem_append_right _ (List.mem_append_right _ (List.mem_append_right _ (List.mem_append_right _ (List.mem_append_right _ (List.mem_append_right _ (List.mem_append_right _ (List.mem_append_right _ (List.mem_append_right _ (List.mem_append_right _ (List.mem_append_right _ (List.mem_append_left _ h))))))))))))))))))))))))))
theorem mr_27 : ∀ w ∈ wsL_law_r27, w ∈ wsL_law := fun w h => mr_base w (List.mem_append_right _ (List.mem_append_right _ (List.mem_append_right _ (List.mem_append_right _ (List.mem_append_right _ (List.mem_append_right _ (List.mem_append_right _ (List.mem_append_right _ (List.mem_append_right _ (List.mem_append_right _ (List.mem_append_right _ (List.mem_append_right _ (List.mem_append_right _ (List.mem_append_right _ (List.mem_append_right _ (List.mem_append_right _ (List.mem_append_right _ (List.mem_append_right _ (List.mem_append_right _ (List.mem_append_right _ (List.mem_append_right _ (List.mem_append_right _ (List.mem_append_right _ (List.mem_append_right _ (List.mem_append_right _ (List.mem_append_right _ (List.mem_append_left _ h)))))))))))))))))))))))))))
theorem mr_28 : ∀ w ∈ wsL_law_r28, w ∈ wsL_law := fun w h => mr_base w (List.mem_append_right _ (List.mem_append_right _ (List.mem_append_right _ (List.mem_append_right _ (List.mem_append_right _ (List.mem_append_right _ (List.mem_append_right _ (List.mem_append_right _ (List.mem_append_right _ (List.mem_append_right _ (List.mem_append_right _ (List.mem_append_right _ (List.mem_append_right _ (List.mem_append_right _ (List.mem_append_right _ (List.mem_append_right _ (List.mem_append_right _ (List.mem_append_right _ (List.mem_append_right _ (List.mem_append_right _ (List.mem_append_right _ (List.mem_append_right _ (List.mem_append_right _ (List.mem_append_right _ (List.mem_append_right _ (List.mem_append_right _ (List.mem_append_right _ (List.mem_append_left _ h))))))))))))))))))))))))))))
theorem mr_29 : ∀ w ∈ wsL_law_r29, w ∈ wsL_law := fun w h => mr_base w (List.mem_append_right _ (List.mem_append_right _ (List.mem_append_right _ (List.mem_append_right _ (List.mem_append_right _ (List.mem_append_right _ (List.mem_append_right _ (List.mem_append_right _ (List.mem_append_right _ (List.mem_append_right _ (List.mem_append_right _ (List.mem_append_right _ (List.mem_append_right _ (List.mem_append_right _ (List.mem_append_right _ (List.mem_append_right _ (List.mem_append_right _ (List.mem_append_right _ (List.mem_append_right _ (List.mem_append_right _ (List.mem_append_right _ (List.mem_append_right _ (List.mem_append_right _ (List.mem_append_right _ (List.mem_append_right _ (List.mem_append_right _ (List.mem_append_right _ (List.mem_append_right _ (List.mem_append_left _ h)))))))))))))))))))))))))))))
theorem mr_30 : ∀ w ∈ wsL_law_r30, w ∈ wsL_law := fun w h => mr_base w (List.mem_append_right _ (List.mem_append_right _ (List.mem_append_right _ (List.mem_append_right _ (List.mem_append_right _ (List.mem_append_right _ (List.mem_append_right _ (List.mem_append_right _ (List.mem_append_right _ (List.mem_append_right _ (List.mem_append_right _ (List.mem_append_right _ (List.mem_append_right _ (List.mem_append_right _ (List.mem_append_right _ (List.mem_append_right _ (List.mem_append_right _ (List.mem_append_right _ (List.mem_append_right _ (List.mem_append_right _ (List.mem_append_right _ (List.mem_append_right _ (List.mem_append_right _ (List.mem_append_right _ (List.mem_append_right _ (List.mem_append_right _ (List.mem_append_right _ (List.mem_append_right _ (List.mem_append_right _ (List.mem_append_left _ h))))))))))))))))))))))))))))))
theorem mr_31 : ∀ w ∈ wsL_law_r31, w ∈ wsL_law := fun w h => mr_base w (List.mem_append_right _ (List.mem_append_right _ (List.mem_append_right _ (List.mem_append_right _ (List.mem_append_right _ (List.mem_append_right _ (List.mem_append_right _ (List.mem_append_right _ (List.mem_append_right _ (List.mem_append_right _ (List.mem_append_right _ (List.mem_append_right _ (List.mem_append_right _ (List.mem_append_right _ (List.mem_append_right _ (List.mem_append_right _ (List.mem_append_right _ (List.mem_append_right _ (List.mem_append_right _ (List.mem_append_right _ (List.mem_append_right _ (List.mem_append_right _ (List.mem_append_right _ (List.mem_append_right _ (List.mem_append_right _ (List.mem_append_right _ (List.mem_append_right _ (List.mem_append_right _ (List.mem_append_right _ (List.mem_append_right _ (List.mem_append_left _ h)))))))))))))))))))))))))))))))
theorem mr_32 : ∀ w ∈ wsL_law_r32, w ∈ wsL_law := fun w h => mr_base w (List.mem_append_right _ (List.mem_append_right _ (List.mem_append_right _ (List.mem_append_right _ (List.mem_append_right _ (List.mem_append_right _ (List.mem_append_right _ (List.mem_append_right _ (List.mem_append_right _ (List.mem_append_right _ (List.mem_append_right _ (List.mem_append_right _ (List.mem_append_right _ (List.mem_append_right _ (List.mem_append_right _ (List.mem_append_right _ (List.mem_append_right _ (List.mem_append_right _ (List.mem_append_right _ (List.mem_append_right _ (List.mem_append_right _ (List.mem_append_right _ (List.mem_append_right _ (List.mem_append_right _ (List.mem_append_right _ (List.mem_append_right _ (List.mem_append_right _ (List.mem_append_right _ (List.mem_append_right _ (List.mem_append_right _ (List.mem_append_right _ (List.mem_append_left _ h))))))))))))))))))))))))))))))))
theorem mr_33 : ∀ w ∈ wsL_law_r33, w ∈ wsL_law := fun w h => mr_base w (List.mem_append_right _ (List.mem_append_right _ (List.mem_append_right _ (List.mem_append_right _ (List.mem_append_right _ (List.mem_append_right _ (List.mem_append_right _ (List.mem_append_right _ (List.mem_append_right _ (List.mem_append_right _ (List.mem_append_right _ (List.mem_append_right _ (List.mem_append_right _ (List.mem_append_right _ (List.mem_append_right _ (List.mem_append_right _ (List.mem_append_right _ (List.mem_append_right _ (List.mem_append_right _ (List.mem_append_right _ (List.mem_append_right _ (List.mem_append_right _ (List.mem_append_right _ (List.mem_append_right _ (List.mem_append_right _ (List.mem_append_right _ (List.mem_append_right _ (List.mem_append_right _ (List.mem_append_right _ (List.mem_append_right _ (List.mem_append_right _ (List.mem_append_right _ (List.mem_append_left _ h)))))))))))))))))))))))))))))))))
theorem mr_34 : ∀ w ∈ wsL_law_r34, w ∈ wsL_law := fun w h => mr_base w (List.mem_append_right _ (List.mem_append_right _ (List.mem_append_right _ (List.mem_append_right _ (List.mem_append_right _ (List.mem_append_right _ (List.mem_append_right _ (List.mem_append_right _ (List.mem_append_right _ (List.mem_append_right _ (List.mem_append_right _ (List.mem_append_right _ (List.mem_append_right _ (List.mem_append_right _ (List.mem_append_right _ (List.mem_append_right _ (List.mem_append_right _ (List.mem_append_right _ (List.mem_append_right _ (List.mem_append_right _ (List.mem_append_right _ (List.mem_append_right _ (List.mem_append_right _ (List.mem_append_right _ (List.mem_append_right _ (List.mem_append_right _ (List.mem_append_right _ (List.mem_append_right _ (List.mem_append_right _ (List.mem_append_right _ (List.mem_append_right _ (List.mem_append_right _ (List.mem_append_right _ (List.mem_append_left _ h))))))))))))))))))))))))))))))))))
theorem mr_35 : ∀ w ∈ wsL_law_r35, w ∈ wsL_law := fun w h => mr_base w (List.mem_append_right _ (List.mem_append_right _ (List.mem_append_right _ (List.mem_append_right _ (List.mem_append_right _ (List.mem_append_right _ (List.mem_append_right _ (List.mem_append_right _ (List.mem_append_right _ (List.mem_append_right _ (List.mem_append_right _ (List.mem_append_right _ (List.mem_append_right _ (List.mem_append_right _ (List.mem_append_right _ (List.mem_append_right _ (List.mem_append_right _ (List.mem_append_right _ (List.mem_append_right _ (List.mem_append_right _ (List.mem_append_right _ (List.mem_append_right _ (List.mem_append_right _ (List.mem_append_right _ (List.mem_append_right _ (List.mem_append_right _ (List.mem_append_right _ (List.mem_append_right _ (List.mem_append_right _ (List.mem_append_right _ (List.mem_append_right _ (List.mem_append_right _ (List.mem_append_right _ (List.mem_append_right _ (List.mem_append_left _ h)))))))))))))))))))))))))))))))))))
theorem mr_36 : ∀ w ∈ wsL_law_r36, w ∈ wsL_law := fun w h => mr_base w (List.mem_append_right _ (List.mem_append_right _ (List.mem_append_right _ (List.mem_append_right _ (List.mem_append_right _ (List.mem_append_right _ (List.mem_append_right _ (List.mem_append_right _ (List.mem_append_right _ (List.mem_append_right _ (List.mem_append_right _ (List.mem_append_right _ (List.mem_append_right _ (List.mem_append_right _ (List.mem_append_right _ (List.mem_append_right _ (List.mem_append_right _ (List.mem_append_right _ (List.mem_append_right _ (List.mem_append_right _ (List.mem_append_right _ (List.mem_append_right _ (List.mem_append_right _ (List.mem_append_right _ (List.mem_append_right _ (List.mem_append_right _ (List.mem_append_right _ (List.mem_append_right _ (List.mem_append_right _ (List.mem_append_right _ (List.mem_append_right _ (List.mem_append_right _ (List.mem_append_right _ (List.mem_append_right _ (List.mem_append_right _ (List.mem_append_left _ h))))))))))))))))))))))))))))))))))))
theorem mr_37 : ∀ w ∈ wsL_law_r37, w ∈ wsL_law := fun w h => mr_base w (List.mem_append_right _ (List.mem_append_right _ (List.mem_append_right _ (List.mem_append_right _ (List.mem_append_right _ (List.mem_append_right _ (List.mem_append_right _ (List.mem_append_right _ (List.mem_append_right _ (List.mem_append_right _ (List.mem_append_right _ (List.mem_append_right _ (List.mem_append_right _ (List.mem_append_right _ (List.mem_append_right _ (List.mem_append_right _ (List.mem_append_right _ (List.mem_append_right _ (List.mem_append_right _ (List.mem_append_right _ (List.mem_append_right _ (List.mem_append_right _ (List.mem_append_right _ (List.mem_append_right _ (List.mem_append_right _ (List.mem_append_right _ (List.mem_append_right _ (List.mem_append_right _ (List.mem_append_right _ (List.mem_append_right _ (List.mem_append_right _ (List.mem_append_right _ (List.mem_append_right _ (List.mem_append_right _ (List.mem_append_right _ (List.mem_append_right _ (h)))))))))))))))))))))))))))))))))))))
theorem z_goodL : wsL_law.all goodWord = true := by decide +kernel
theorem z_goodIn {ws : List Cond} (h : ∀ w ∈ ws, w ∈ wsL_law) : GoodIn wsL_law ws := fun w hw => ⟨h w hw, good_of_word (List.all_eq_true.mp z_goodL w (h w hw))⟩
theorem gw_1_0 : Cond.classLink RL 7 RX7 ∈ wsL_law := mr_1 _ (List.mem_of_getElem? (i := 0) rfl)
theorem gw_1_1 : Cond.instantiable RX7 9 ∈ wsL_law := mr_1 _ (List.mem_of_getElem? (i := 1) rfl)
theorem gw_1_2 : Cond.initialized RX7 ∈ wsL_law := mr_1 _ (List.mem_of_getElem? (i := 2) rfl)
theorem gw_1_3 : Cond.classLink RL 10 RX8 ∈ wsL_law := mr_1 _ (List.mem_of_getElem? (i := 3) rfl)
theorem gw_1_4 : Cond.instantiable RX8 29 ∈ wsL_law := mr_1 _ (List.mem_of_getElem? (i := 4) rfl)
theorem gw_1_5 : Cond.initialized RX8 ∈ wsL_law := mr_1 _ (List.mem_of_getElem? (i := 5) rfl)
theorem gw_1_6 : Cond.methodLink RL 9 yX7_init ∈ wsL_law := mr_1 _ (List.mem_of_getElem? (i := 6) rfl)
theorem gw_1_7 : Cond.instanceMethod yX7_init ∈ wsL_law := mr_1 _ (List.mem_of_getElem? (i := 7) rfl)
theorem gw_1_8 : Cond.code yX7_init cX7_init 2 none ∈ wsL_law := mr_1 _ (List.mem_of_getElem? (i := 8) rfl)
theorem gw_1_9 : Cond.methodLink RX7 1 objectInit ∈ wsL_law := mr_1 _ (List.mem_of_getElem? (i := 9) rfl)
theorem gw_1_10 : Cond.instanceMethod objectInit ∈ wsL_law := mr_1 _ (List.mem_of_getElem? (i := 10) rfl)
theorem gw_1_11 : Cond.code objectInit ⟨#[0xb1]⟩ 1 none ∈ wsL_law := mr_1 _ (List.mem_of_getElem? (i := 11) rfl)
theorem gw_1_12 : Cond.classLink RX7 7 RX3 ∈ wsL_law := mr_1 _ (List.mem_of_getElem? (i := 12) rfl)
theorem gw_1_13 : Cond.instantiable RX3 12 ∈ wsL_law := mr_1 _ (List.mem_of_getElem? (i := 13) rfl)
theorem gw_1_14 : Cond.initialized RX3 ∈ wsL_law := mr_1 _ (List.mem_of_getElem? (i := 14) rfl)
theorem gw_1_15 : Cond.fieldLink RX7 10 "InsidePlaces" "house" "LInsidePlaces$House;" ∈ wsL_law := mr_1 _ (List.mem_of_getElem? (i := 15) rfl)
theorem gw_1_16 : Cond.classLink RX7 16 RX4 ∈ wsL_law := mr_1 _ (List.mem_of_getElem? (i := 16) rfl)
theorem gw_1_17 : Cond.instantiable RX4 2 ∈ wsL_law := mr_1 _ (List.mem_of_getElem? (i := 17) rfl)
theorem gw_1_18 : Cond.initialized RX4 ∈ wsL_law := mr_1 _ (List.mem_of_getElem? (i := 18) rfl)
theorem gw_1_19 : Cond.fieldLink RX7 19 "InsidePlaces" "map" "LInsidePlaces$RadioMap;" ∈ wsL_law := mr_1 _ (List.mem_of_getElem? (i := 19) rfl)
theorem gw_1_20 : Cond.classLink RX7 23 RX1 ∈ wsL_law := mr_1 _ (List.mem_of_getElem? (i := 20) rfl)
theorem gw_1_21 : Cond.instantiable RX1 4 ∈ wsL_law := mr_1 _ (List.mem_of_getElem? (i := 21) rfl)
theorem gw_1_22 : Cond.initialized RX1 ∈ wsL_law := mr_1 _ (List.mem_of_getElem? (i := 22) rfl)
theorem gw_1_23 : Cond.fieldLink RX7 26 "InsidePlaces" "chances" "LInsidePlaces$Chances;" ∈ wsL_law := mr_1 _ (List.mem_of_getElem? (i := 23) rfl)
theorem gw_2_0 : Cond.classLink RX7 30 RX6 ∈ wsL_law := mr_2 _ (List.mem_of_getElem? (i := 0) rfl)
theorem gw_2_1 : Cond.instantiable RX6 2 ∈ wsL_law := mr_2 _ (List.mem_of_getElem? (i := 1) rfl)
theorem gw_2_2 : Cond.initialized RX6 ∈ wsL_law := mr_2 _ (List.mem_of_getElem? (i := 2) rfl)
theorem gw_2_3 : Cond.fieldLink RX7 33 "InsidePlaces" "finder" "LInsidePlaces$WayFinder;" ∈ wsL_law := mr_2 _ (List.mem_of_getElem? (i := 3) rfl)
theorem gw_2_4 : Cond.classLink RX7 37 RX2 ∈ wsL_law := mr_2 _ (List.mem_of_getElem? (i := 4) rfl)
theorem gw_2_5 : Cond.instantiable RX2 4 ∈ wsL_law := mr_2 _ (List.mem_of_getElem? (i := 5) rfl)
theorem gw_2_6 : Cond.initialized RX2 ∈ wsL_law := mr_2 _ (List.mem_of_getElem? (i := 6) rfl)
theorem gw_2_7 : Cond.fieldLink RX7 40 "InsidePlaces" "crowd" "LInsidePlaces$Crowd;" ∈ wsL_law := mr_2 _ (List.mem_of_getElem? (i := 7) rfl)
theorem gw_2_8 : Cond.classLink RX7 44 RX5 ∈ wsL_law := mr_2 _ (List.mem_of_getElem? (i := 8) rfl)
theorem gw_2_9 : Cond.fieldLink RX7 46 "InsidePlaces" "sheets" "[LInsidePlaces$Sheet;" ∈ wsL_law := mr_2 _ (List.mem_of_getElem? (i := 9) rfl)
theorem gw_2_10 : Cond.instantiable RX5 4 ∈ wsL_law := mr_2 _ (List.mem_of_getElem? (i := 10) rfl)
theorem gw_2_11 : Cond.initialized RX5 ∈ wsL_law := mr_2 _ (List.mem_of_getElem? (i := 11) rfl)
theorem gw_2_12 : Cond.arrayClass .int ∈ wsL_law := mr_2 _ (List.mem_of_getElem? (i := 12) rfl)
theorem gw_2_13 : Cond.fieldLink RX7 51 "InsidePlaces" "toldWay" "[I" ∈ wsL_law := mr_2 _ (List.mem_of_getElem? (i := 13) rfl)
theorem gw_2_14 : Cond.fieldLink RX7 55 "InsidePlaces" "toldRows" "I" ∈ wsL_law := mr_2 _ (List.mem_of_getElem? (i := 14) rfl)
theorem gw_2_15 : Cond.fieldLink RX7 59 "InsidePlaces" "latestFinding" "I" ∈ wsL_law := mr_2 _ (List.mem_of_getElem? (i := 15) rfl)
theorem gw_2_16 : Cond.instanceMethod yX3_init ∈ wsL_law := mr_2 _ (List.mem_of_getElem? (i := 16) rfl)
theorem gw_2_17 : Cond.code yX3_init cX3_init 1 none ∈ wsL_law := mr_2 _ (List.mem_of_getElem? (i := 17) rfl)
theorem gw_2_18 : Cond.methodLink RX3 3 objectInit ∈ wsL_law := mr_2 _ (List.mem_of_getElem? (i := 18) rfl)
theorem gw_2_19 : Cond.fieldLink RX3 9 "InsidePlaces$House" "floors" "I" ∈ wsL_law := mr_2 _ (List.mem_of_getElem? (i := 19) rfl)
theorem gw_2_20 : Cond.fieldLink RX3 15 "InsidePlaces$House" "wide" "I" ∈ wsL_law := mr_2 _ (List.mem_of_getElem? (i := 20) rfl)
theorem gw_2_21 : Cond.fieldLink RX3 18 "InsidePlaces$House" "high" "I" ∈ wsL_law := mr_2 _ (List.mem_of_getElem? (i := 21) rfl)
theorem gw_2_22 : Cond.fieldLink RX3 21 "InsidePlaces$House" "walls" "I" ∈ wsL_law := mr_2 _ (List.mem_of_getElem? (i := 22) rfl)
theorem gw_2_23 : Cond.fieldLink RX3 24 "InsidePlaces$House" "lifts" "I" ∈ wsL_law := mr_2 _ (List.mem_of_getElem? (i := 23) rfl)
theorem gw_3_0 : Cond.fieldLink RX3 27 "InsidePlaces$House" "staying" "I" ∈ wsL_law := mr_3 _ (List.mem_of_getElem? (i := 0) rfl)
theorem gw_3_1 : Cond.arrayClass .boolean ∈ wsL_law := mr_3 _ (List.mem_of_getElem? (i := 1) rfl)
theorem gw_3_2 : Cond.fieldLink RX3 30 "InsidePlaces$House" "wallRight" "[Z" ∈ wsL_law := mr_3 _ (List.mem_of_getElem? (i := 2) rfl)
theorem gw_3_3 : Cond.fieldLink RX3 34 "InsidePlaces$House" "wallBelow" "[Z" ∈ wsL_law := mr_3 _ (List.mem_of_getElem? (i := 3) rfl)
theorem gw_3_4 : Cond.fieldLink RX3 37 "InsidePlaces$House" "liftAt" "[Z" ∈ wsL_law := mr_3 _ (List.mem_of_getElem? (i := 4) rfl)
theorem gw_3_5 : Cond.fieldLink RX3 40 "InsidePlaces$House" "targets" "[I" ∈ wsL_law := mr_3 _ (List.mem_of_getElem? (i := 5) rfl)
theorem gw_3_6 : Cond.fieldLink RX3 44 "InsidePlaces$House" "distance" "[I" ∈ wsL_law := mr_3 _ (List.mem_of_getElem? (i := 6) rfl)
theorem gw_3_7 : Cond.fieldLink RX3 47 "InsidePlaces$House" "queue" "[I" ∈ wsL_law := mr_3 _ (List.mem_of_getElem? (i := 7) rfl)
theorem gw_3_8 : Cond.instanceMethod yX4_init ∈ wsL_law := mr_3 _ (List.mem_of_getElem? (i := 8) rfl)
theorem gw_3_9 : Cond.code yX4_init cX4_init 1 none ∈ wsL_law := mr_3 _ (List.mem_of_getElem? (i := 9) rfl)
theorem gw_3_10 : Cond.methodLink RX4 3 objectInit ∈ wsL_law := mr_3 _ (List.mem_of_getElem? (i := 10) rfl)
theorem gw_3_11 : Cond.fieldLink RX4 9 "InsidePlaces$RadioMap" "deadBits" "I" ∈ wsL_law := mr_3 _ (List.mem_of_getElem? (i := 11) rfl)
theorem gw_3_12 : Cond.fieldLink RX4 15 "InsidePlaces$RadioMap" "counts" "[I" ∈ wsL_law := mr_3 _ (List.mem_of_getElem? (i := 12) rfl)
theorem gw_3_13 : Cond.instanceMethod yX1_init ∈ wsL_law := mr_3 _ (List.mem_of_getElem? (i := 13) rfl)
theorem gw_3_14 : Cond.code yX1_init cX1_init 1 none ∈ wsL_law := mr_3 _ (List.mem_of_getElem? (i := 14) rfl)
theorem gw_3_15 : Cond.methodLink RX1 3 objectInit ∈ wsL_law := mr_3 _ (List.mem_of_getElem? (i := 15) rfl)
theorem gw_3_16 : Cond.fieldLink RX1 9 "InsidePlaces$Chances" "cells" "I" ∈ wsL_law := mr_3 _ (List.mem_of_getElem? (i := 16) rfl)
theorem gw_3_17 : Cond.fieldLink RX1 15 "InsidePlaces$Chances" "shares" "[I" ∈ wsL_law := mr_3 _ (List.mem_of_getElem? (i := 17) rfl)
theorem gw_3_18 : Cond.arrayClass .long ∈ wsL_law := mr_3 _ (List.mem_of_getElem? (i := 18) rfl)
theorem gw_3_19 : Cond.fieldLink RX1 19 "InsidePlaces$Chances" "weights" "[J" ∈ wsL_law := mr_3 _ (List.mem_of_getElem? (i := 19) rfl)
theorem gw_3_20 : Cond.fieldLink RX1 23 "InsidePlaces$Chances" "rests" "[J" ∈ wsL_law := mr_3 _ (List.mem_of_getElem? (i := 20) rfl)
theorem gw_3_21 : Cond.instanceMethod yX6_init ∈ wsL_law := mr_3 _ (List.mem_of_getElem? (i := 21) rfl)
theorem gw_3_22 : Cond.code yX6_init cX6_init 1 none ∈ wsL_law := mr_3 _ (List.mem_of_getElem? (i := 22) rfl)
theorem gw_3_23 : Cond.methodLink RX6 3 objectInit ∈ wsL_law := mr_3 _ (List.mem_of_getElem? (i := 23) rfl)
theorem gw_4_0 : Cond.fieldLink RX6 9 "InsidePlaces$WayFinder" "way" "[I" ∈ wsL_law := mr_4 _ (List.mem_of_getElem? (i := 0) rfl)
theorem gw_4_1 : Cond.fieldLink RX6 15 "InsidePlaces$WayFinder" "onward" "[I" ∈ wsL_law := mr_4 _ (List.mem_of_getElem? (i := 1) rfl)
theorem gw_4_2 : Cond.instanceMethod yX2_init ∈ wsL_law := mr_4 _ (List.mem_of_getElem? (i := 2) rfl)
theorem gw_4_3 : Cond.code yX2_init cX2_init 1 none ∈ wsL_law := mr_4 _ (List.mem_of_getElem? (i := 3) rfl)
theorem gw_4_4 : Cond.methodLink RX2 3 objectInit ∈ wsL_law := mr_4 _ (List.mem_of_getElem? (i := 4) rfl)
theorem gw_4_5 : Cond.fieldLink RX2 9 "InsidePlaces$Crowd" "given" "I" ∈ wsL_law := mr_4 _ (List.mem_of_getElem? (i := 5) rfl)
theorem gw_4_6 : Cond.fieldLink RX2 15 "InsidePlaces$Crowd" "fewest" "I" ∈ wsL_law := mr_4 _ (List.mem_of_getElem? (i := 6) rfl)
theorem gw_4_7 : Cond.fieldLink RX2 18 "InsidePlaces$Crowd" "cellOf" "[I" ∈ wsL_law := mr_4 _ (List.mem_of_getElem? (i := 7) rfl)
theorem gw_4_8 : Cond.classLink RX2 22 RX0 ∈ wsL_law := mr_4 _ (List.mem_of_getElem? (i := 8) rfl)
theorem gw_4_9 : Cond.fieldLink RX2 24 "InsidePlaces$Crowd" "areas" "[LInsidePlaces$Area;" ∈ wsL_law := mr_4 _ (List.mem_of_getElem? (i := 9) rfl)
theorem gw_4_10 : Cond.instanceMethod yX5_init ∈ wsL_law := mr_4 _ (List.mem_of_getElem? (i := 10) rfl)
theorem gw_4_11 : Cond.code yX5_init cX5_init 1 none ∈ wsL_law := mr_4 _ (List.mem_of_getElem? (i := 11) rfl)
theorem gw_4_12 : Cond.methodLink RX5 3 objectInit ∈ wsL_law := mr_4 _ (List.mem_of_getElem? (i := 12) rfl)
theorem gw_4_13 : Cond.fieldLink RX5 9 "InsidePlaces$Sheet" "lost" "Z" ∈ wsL_law := mr_4 _ (List.mem_of_getElem? (i := 13) rfl)
theorem gw_4_14 : Cond.fieldLink RX5 15 "InsidePlaces$Sheet" "form" "I" ∈ wsL_law := mr_4 _ (List.mem_of_getElem? (i := 14) rfl)
theorem gw_4_15 : Cond.fieldLink RX5 19 "InsidePlaces$Sheet" "size" "I" ∈ wsL_law := mr_4 _ (List.mem_of_getElem? (i := 15) rfl)
theorem gw_4_16 : Cond.fieldLink RX5 22 "InsidePlaces$Sheet" "items" "[I" ∈ wsL_law := mr_4 _ (List.mem_of_getElem? (i := 16) rfl)
theorem gw_4_17 : Cond.methodLink RX7 62 yX7_layOut ∈ wsL_law := mr_4 _ (List.mem_of_getElem? (i := 17) rfl)
theorem gw_4_18 : Cond.instanceMethod yX7_layOut ∈ wsL_law := mr_4 _ (List.mem_of_getElem? (i := 18) rfl)
theorem gw_4_19 : Cond.selects RX7 yX7_layOut yX7_layOut ∈ wsL_law := mr_4 _ (List.mem_of_getElem? (i := 19) rfl)
theorem gw_4_20 : Cond.code yX7_layOut cX7_layOut 4 none ∈ wsL_law := mr_4 _ (List.mem_of_getElem? (i := 20) rfl)
theorem gw_4_21 : Cond.methodLink RX7 278 yX3_raise ∈ wsL_law := mr_4 _ (List.mem_of_getElem? (i := 21) rfl)
theorem gw_4_22 : Cond.instanceMethod yX3_raise ∈ wsL_law := mr_4 _ (List.mem_of_getElem? (i := 22) rfl)
theorem gw_4_23 : Cond.selects RX3 yX3_raise yX3_raise ∈ wsL_law := mr_4 _ (List.mem_of_getElem? (i := 23) rfl)
theorem gw_5_0 : Cond.code yX3_raise cX3_raise 5 none ∈ wsL_law := mr_5 _ (List.mem_of_getElem? (i := 0) rfl)
theorem gw_5_1 : Cond.methodLink RX3 50 yX3_chartSteps ∈ wsL_law := mr_5 _ (List.mem_of_getElem? (i := 1) rfl)
theorem gw_5_2 : Cond.instanceMethod yX3_chartSteps ∈ wsL_law := mr_5 _ (List.mem_of_getElem? (i := 2) rfl)
theorem gw_5_3 : Cond.selects RX3 yX3_chartSteps yX3_chartSteps ∈ wsL_law := mr_5 _ (List.mem_of_getElem? (i := 3) rfl)
theorem gw_5_4 : Cond.code yX3_chartSteps cX3_chartSteps 2 none ∈ wsL_law := mr_5 _ (List.mem_of_getElem? (i := 4) rfl)
theorem gw_5_5 : Cond.methodLink RX3 53 yX3_cells ∈ wsL_law := mr_5 _ (List.mem_of_getElem? (i := 5) rfl)
theorem gw_5_6 : Cond.instanceMethod yX3_cells ∈ wsL_law := mr_5 _ (List.mem_of_getElem? (i := 6) rfl)
theorem gw_5_7 : Cond.selects RX3 yX3_cells yX3_cells ∈ wsL_law := mr_5 _ (List.mem_of_getElem? (i := 7) rfl)
theorem gw_5_8 : Cond.code yX3_cells cX3_cells 1 (some .int) ∈ wsL_law := mr_5 _ (List.mem_of_getElem? (i := 8) rfl)
theorem gw_5_9 : Cond.methodLink RX3 76 yX3_chartStepsFrom ∈ wsL_law := mr_5 _ (List.mem_of_getElem? (i := 9) rfl)
theorem gw_5_10 : Cond.instanceMethod yX3_chartStepsFrom ∈ wsL_law := mr_5 _ (List.mem_of_getElem? (i := 10) rfl)
theorem gw_5_11 : Cond.selects RX3 yX3_chartStepsFrom yX3_chartStepsFrom ∈ wsL_law := mr_5 _ (List.mem_of_getElem? (i := 11) rfl)
theorem gw_5_12 : Cond.code yX3_chartStepsFrom cX3_chartStepsFrom 7 none ∈ wsL_law := mr_5 _ (List.mem_of_getElem? (i := 12) rfl)
theorem gw_5_13 : Cond.methodLink RX3 61 yX3_xOf ∈ wsL_law := mr_5 _ (List.mem_of_getElem? (i := 13) rfl)
theorem gw_5_14 : Cond.instanceMethod yX3_xOf ∈ wsL_law := mr_5 _ (List.mem_of_getElem? (i := 14) rfl)
theorem gw_5_15 : Cond.selects RX3 yX3_xOf yX3_xOf ∈ wsL_law := mr_5 _ (List.mem_of_getElem? (i := 15) rfl)
theorem gw_5_16 : Cond.code yX3_xOf cX3_xOf 2 (some .int) ∈ wsL_law := mr_5 _ (List.mem_of_getElem? (i := 16) rfl)
theorem gw_5_17 : Cond.methodLink RX3 70 yX3_yOf ∈ wsL_law := mr_5 _ (List.mem_of_getElem? (i := 17) rfl)
theorem gw_5_18 : Cond.instanceMethod yX3_yOf ∈ wsL_law := mr_5 _ (List.mem_of_getElem? (i := 18) rfl)
theorem gw_5_19 : Cond.selects RX3 yX3_yOf yX3_yOf ∈ wsL_law := mr_5 _ (List.mem_of_getElem? (i := 19) rfl)
theorem gw_5_20 : Cond.code yX3_yOf cX3_yOf 2 (some .int) ∈ wsL_law := mr_5 _ (List.mem_of_getElem? (i := 20) rfl)
theorem gw_5_21 : Cond.methodLink RX3 73 yX3_floorOf ∈ wsL_law := mr_5 _ (List.mem_of_getElem? (i := 21) rfl)
theorem gw_5_22 : Cond.instanceMethod yX3_floorOf ∈ wsL_law := mr_5 _ (List.mem_of_getElem? (i := 22) rfl)
theorem gw_5_23 : Cond.selects RX3 yX3_floorOf yX3_floorOf ∈ wsL_law := mr_5 _ (List.mem_of_getElem? (i := 23) rfl)
theorem gw_6_0 : Cond.code yX3_floorOf cX3_floorOf 2 (some .int) ∈ wsL_law := mr_6 _ (List.mem_of_getElem? (i := 0) rfl)
theorem gw_6_1 : Cond.methodLink RX7 281 yX4_clear ∈ wsL_law := mr_6 _ (List.mem_of_getElem? (i := 1) rfl)
theorem gw_6_2 : Cond.instanceMethod yX4_clear ∈ wsL_law := mr_6 _ (List.mem_of_getElem? (i := 2) rfl)
theorem gw_6_3 : Cond.selects RX4 yX4_clear yX4_clear ∈ wsL_law := mr_6 _ (List.mem_of_getElem? (i := 3) rfl)
theorem gw_6_4 : Cond.code yX4_clear cX4_clear 1 none ∈ wsL_law := mr_6 _ (List.mem_of_getElem? (i := 4) rfl)
theorem gw_6_5 : Cond.methodLink RX4 19 yJ7_fill_53178 ∈ wsL_law := mr_6 _ (List.mem_of_getElem? (i := 5) rfl)
theorem gw_6_6 : Cond.static yJ7_fill_53178 ∈ wsL_law := mr_6 _ (List.mem_of_getElem? (i := 6) rfl)
theorem gw_6_7 : Cond.initialized RJ7 ∈ wsL_law := mr_6 _ (List.mem_of_getElem? (i := 7) rfl)
theorem gw_6_8 : Cond.code yJ7_fill_53178 cJ7_fill_53178 4 none ∈ wsL_law := mr_6 _ (List.mem_of_getElem? (i := 8) rfl)
theorem gw_6_9 : Cond.methodLink RX7 66 yX3_cells ∈ wsL_law := mr_6 _ (List.mem_of_getElem? (i := 9) rfl)
theorem gw_6_10 : Cond.methodLink RX7 135 yX1_makeAlike ∈ wsL_law := mr_6 _ (List.mem_of_getElem? (i := 10) rfl)
theorem gw_6_11 : Cond.instanceMethod yX1_makeAlike ∈ wsL_law := mr_6 _ (List.mem_of_getElem? (i := 11) rfl)
theorem gw_6_12 : Cond.selects RX1 yX1_makeAlike yX1_makeAlike ∈ wsL_law := mr_6 _ (List.mem_of_getElem? (i := 12) rfl)
theorem gw_6_13 : Cond.code yX1_makeAlike cX1_makeAlike 2 none ∈ wsL_law := mr_6 _ (List.mem_of_getElem? (i := 13) rfl)
theorem gw_6_14 : Cond.methodLink RX1 26 yJ7_fill_d0a16 ∈ wsL_law := mr_6 _ (List.mem_of_getElem? (i := 14) rfl)
theorem gw_6_15 : Cond.static yJ7_fill_d0a16 ∈ wsL_law := mr_6 _ (List.mem_of_getElem? (i := 15) rfl)
theorem gw_6_16 : Cond.code yJ7_fill_d0a16 cJ7_fill_d0a16 5 none ∈ wsL_law := mr_6 _ (List.mem_of_getElem? (i := 16) rfl)
theorem gw_6_17 : Cond.methodLink RX1 32 yX1_makeWhole ∈ wsL_law := mr_6 _ (List.mem_of_getElem? (i := 17) rfl)
theorem gw_6_18 : Cond.instanceMethod yX1_makeWhole ∈ wsL_law := mr_6 _ (List.mem_of_getElem? (i := 18) rfl)
theorem gw_6_19 : Cond.selects RX1 yX1_makeWhole yX1_makeWhole ∈ wsL_law := mr_6 _ (List.mem_of_getElem? (i := 19) rfl)
theorem gw_6_20 : Cond.code yX1_makeWhole cX1_makeWhole 7 (some .boolean) ∈ wsL_law := mr_6 _ (List.mem_of_getElem? (i := 20) rfl)
theorem gw_6_21 : Cond.constant RX1 39 (1000000) ∈ wsL_law := mr_6 _ (List.mem_of_getElem? (i := 21) rfl)
theorem gw_6_22 : Cond.constantLong RX1 40 (1000000) ∈ wsL_law := mr_6 _ (List.mem_of_getElem? (i := 22) rfl)
theorem gw_6_23 : Cond.methodLink RX1 42 yX1_handOut ∈ wsL_law := mr_6 _ (List.mem_of_getElem? (i := 23) rfl)
theorem gw_7_0 : Cond.instanceMethod yX1_handOut ∈ wsL_law := mr_7 _ (List.mem_of_getElem? (i := 0) rfl)
theorem gw_7_1 : Cond.selects RX1 yX1_handOut yX1_handOut ∈ wsL_law := mr_7 _ (List.mem_of_getElem? (i := 1) rfl)
theorem gw_7_2 : Cond.code yX1_handOut cX1_handOut 5 none ∈ wsL_law := mr_7 _ (List.mem_of_getElem? (i := 2) rfl)
theorem gw_7_3 : Cond.methodLink RX7 284 yX2_scatter ∈ wsL_law := mr_7 _ (List.mem_of_getElem? (i := 3) rfl)
theorem gw_7_4 : Cond.instanceMethod yX2_scatter ∈ wsL_law := mr_7 _ (List.mem_of_getElem? (i := 4) rfl)
theorem gw_7_5 : Cond.selects RX2 yX2_scatter yX2_scatter ∈ wsL_law := mr_7 _ (List.mem_of_getElem? (i := 5) rfl)
theorem gw_7_6 : Cond.code yX2_scatter cX2_scatter 1 none ∈ wsL_law := mr_7 _ (List.mem_of_getElem? (i := 6) rfl)
theorem gw_7_7 : Cond.methodLink RX2 28 yJ7_fill_53178 ∈ wsL_law := mr_7 _ (List.mem_of_getElem? (i := 7) rfl)
theorem gw_7_8 : Cond.methodLink RL 12 yX8_init ∈ wsL_law := mr_7 _ (List.mem_of_getElem? (i := 8) rfl)
theorem gw_7_9 : Cond.instanceMethod yX8_init ∈ wsL_law := mr_7 _ (List.mem_of_getElem? (i := 9) rfl)
theorem gw_7_10 : Cond.code yX8_init cX8_init 2 none ∈ wsL_law := mr_7 _ (List.mem_of_getElem? (i := 10) rfl)
theorem gw_7_11 : Cond.methodLink RX8 1 objectInit ∈ wsL_law := mr_7 _ (List.mem_of_getElem? (i := 11) rfl)
theorem gw_7_12 : Cond.fieldLink RX8 7 "InsidePlacesModel" "wallRight" "[Z" ∈ wsL_law := mr_7 _ (List.mem_of_getElem? (i := 12) rfl)
theorem gw_7_13 : Cond.fieldLink RX8 13 "InsidePlacesModel" "wallBelow" "[Z" ∈ wsL_law := mr_7 _ (List.mem_of_getElem? (i := 13) rfl)
theorem gw_7_14 : Cond.fieldLink RX8 16 "InsidePlacesModel" "isLift" "[Z" ∈ wsL_law := mr_7 _ (List.mem_of_getElem? (i := 14) rfl)
theorem gw_7_15 : Cond.fieldLink RX8 19 "InsidePlacesModel" "stay" "I" ∈ wsL_law := mr_7 _ (List.mem_of_getElem? (i := 15) rfl)
theorem gw_7_16 : Cond.fieldLink RX8 23 "InsidePlacesModel" "isDead" "[Z" ∈ wsL_law := mr_7 _ (List.mem_of_getElem? (i := 16) rfl)
theorem gw_7_17 : Cond.fieldLink RX8 26 "InsidePlacesModel" "map" "[I" ∈ wsL_law := mr_7 _ (List.mem_of_getElem? (i := 17) rfl)
theorem gw_7_18 : Cond.fieldLink RX8 30 "InsidePlacesModel" "shares" "[I" ∈ wsL_law := mr_7 _ (List.mem_of_getElem? (i := 18) rfl)
theorem gw_7_19 : Cond.fieldLink RX8 33 "InsidePlacesModel" "walkers" "[I" ∈ wsL_law := mr_7 _ (List.mem_of_getElem? (i := 19) rfl)
theorem gw_7_20 : Cond.fieldLink RX8 36 "InsidePlacesModel" "away" "[I" ∈ wsL_law := mr_7 _ (List.mem_of_getElem? (i := 20) rfl)
theorem gw_7_21 : Cond.fieldLink RX8 39 "InsidePlacesModel" "loads" "[J" ∈ wsL_law := mr_7 _ (List.mem_of_getElem? (i := 21) rfl)
theorem gw_7_22 : Cond.fieldLink RX8 43 "InsidePlacesModel" "rests" "[J" ∈ wsL_law := mr_7 _ (List.mem_of_getElem? (i := 22) rfl)
theorem gw_7_23 : Cond.fieldLink RX8 46 "InsidePlacesModel" "sorted" "[I" ∈ wsL_law := mr_7 _ (List.mem_of_getElem? (i := 23) rfl)
theorem gw_8_0 : Cond.fieldLink RX8 49 "InsidePlacesModel" "toldWay" "[I" ∈ wsL_law := mr_8 _ (List.mem_of_getElem? (i := 0) rfl)
theorem gw_8_1 : Cond.fieldLink RX8 52 "InsidePlacesModel" "walk" "[I" ∈ wsL_law := mr_8 _ (List.mem_of_getElem? (i := 1) rfl)
theorem gw_8_2 : Cond.fieldLink RX8 55 "InsidePlacesModel" "scores" "[I" ∈ wsL_law := mr_8 _ (List.mem_of_getElem? (i := 2) rfl)
theorem gw_8_3 : Cond.fieldLink RX8 58 "InsidePlacesModel" "least" "I" ∈ wsL_law := mr_8 _ (List.mem_of_getElem? (i := 3) rfl)
theorem gw_8_4 : Cond.fieldLink RX8 61 "InsidePlacesModel" "given" "[I" ∈ wsL_law := mr_8 _ (List.mem_of_getElem? (i := 4) rfl)
theorem gw_8_5 : Cond.fieldLink RX8 64 "InsidePlacesModel" "isThere" "[Z" ∈ wsL_law := mr_8 _ (List.mem_of_getElem? (i := 5) rfl)
theorem gw_8_6 : Cond.fieldLink RX8 67 "InsidePlacesModel" "forms" "[I" ∈ wsL_law := mr_8 _ (List.mem_of_getElem? (i := 6) rfl)
theorem gw_8_7 : Cond.fieldLink RX8 70 "InsidePlacesModel" "sizes" "[I" ∈ wsL_law := mr_8 _ (List.mem_of_getElem? (i := 7) rfl)
theorem gw_8_8 : Cond.fieldLink RX8 73 "InsidePlacesModel" "items" "[I" ∈ wsL_law := mr_8 _ (List.mem_of_getElem? (i := 8) rfl)
theorem gw_8_9 : Cond.fieldLink RX8 76 "InsidePlacesModel" "shifted" "[I" ∈ wsL_law := mr_8 _ (List.mem_of_getElem? (i := 9) rfl)
theorem gw_8_10 : Cond.methodLink RX8 79 yX8_building ∈ wsL_law := mr_8 _ (List.mem_of_getElem? (i := 10) rfl)
theorem gw_8_11 : Cond.instanceMethod yX8_building ∈ wsL_law := mr_8 _ (List.mem_of_getElem? (i := 11) rfl)
theorem gw_8_12 : Cond.selects RX8 yX8_building yX8_building ∈ wsL_law := mr_8 _ (List.mem_of_getElem? (i := 12) rfl)
theorem gw_8_13 : Cond.code yX8_building cX8_building 5 (some .int) ∈ wsL_law := mr_8 _ (List.mem_of_getElem? (i := 13) rfl)
theorem gw_8_14 : Cond.fieldLink RX8 90 "InsidePlacesModel" "floors" "I" ∈ wsL_law := mr_8 _ (List.mem_of_getElem? (i := 14) rfl)
theorem gw_8_15 : Cond.fieldLink RX8 93 "InsidePlacesModel" "w" "I" ∈ wsL_law := mr_8 _ (List.mem_of_getElem? (i := 15) rfl)
theorem gw_8_16 : Cond.fieldLink RX8 96 "InsidePlacesModel" "h" "I" ∈ wsL_law := mr_8 _ (List.mem_of_getElem? (i := 16) rfl)
theorem gw_8_17 : Cond.fieldLink RX8 83 "InsidePlacesModel" "cells" "I" ∈ wsL_law := mr_8 _ (List.mem_of_getElem? (i := 17) rfl)
theorem gw_8_18 : Cond.fieldLink RX8 99 "InsidePlacesModel" "areas" "I" ∈ wsL_law := mr_8 _ (List.mem_of_getElem? (i := 18) rfl)
theorem gw_8_19 : Cond.methodLink RX8 86 yX8_in ∈ wsL_law := mr_8 _ (List.mem_of_getElem? (i := 19) rfl)
theorem gw_8_20 : Cond.static yX8_in ∈ wsL_law := mr_8 _ (List.mem_of_getElem? (i := 20) rfl)
theorem gw_8_21 : Cond.code yX8_in cX8_in 3 (some .boolean) ∈ wsL_law := mr_8 _ (List.mem_of_getElem? (i := 21) rfl)
theorem gw_8_22 : Cond.methodLink RX8 102 yX8_alike ∈ wsL_law := mr_8 _ (List.mem_of_getElem? (i := 22) rfl)
theorem gw_8_23 : Cond.instanceMethod yX8_alike ∈ wsL_law := mr_8 _ (List.mem_of_getElem? (i := 23) rfl)
theorem gw_9_0 : Cond.selects RX8 yX8_alike yX8_alike ∈ wsL_law := mr_9 _ (List.mem_of_getElem? (i := 0) rfl)
theorem gw_9_1 : Cond.code yX8_alike cX8_alike 2 (some .int) ∈ wsL_law := mr_9 _ (List.mem_of_getElem? (i := 1) rfl)
theorem gw_9_2 : Cond.methodLink RX8 165 yX8_whole ∈ wsL_law := mr_9 _ (List.mem_of_getElem? (i := 2) rfl)
theorem gw_9_3 : Cond.instanceMethod yX8_whole ∈ wsL_law := mr_9 _ (List.mem_of_getElem? (i := 3) rfl)
theorem gw_9_4 : Cond.selects RX8 yX8_whole yX8_whole ∈ wsL_law := mr_9 _ (List.mem_of_getElem? (i := 4) rfl)
theorem gw_9_5 : Cond.code yX8_whole cX8_whole 6 (some .boolean) ∈ wsL_law := mr_9 _ (List.mem_of_getElem? (i := 5) rfl)
theorem gw_9_6 : Cond.constant RX8 160 (1000000) ∈ wsL_law := mr_9 _ (List.mem_of_getElem? (i := 6) rfl)
theorem gw_9_7 : Cond.constantLong RX8 161 (1000000) ∈ wsL_law := mr_9 _ (List.mem_of_getElem? (i := 7) rfl)
theorem gw_9_8 : Cond.constantLong RX8 163 (-1) ∈ wsL_law := mr_9 _ (List.mem_of_getElem? (i := 8) rfl)
theorem gw_9_9 : Cond.methodLink RL 13 yX7_building ∈ wsL_law := mr_9 _ (List.mem_of_getElem? (i := 9) rfl)
theorem gw_9_10 : Cond.instanceMethod yX7_building ∈ wsL_law := mr_9 _ (List.mem_of_getElem? (i := 10) rfl)
theorem gw_9_11 : Cond.selects RX7 yX7_building yX7_building ∈ wsL_law := mr_9 _ (List.mem_of_getElem? (i := 11) rfl)
theorem gw_9_12 : Cond.code yX7_building cX7_building 4 (some .int) ∈ wsL_law := mr_9 _ (List.mem_of_getElem? (i := 12) rfl)
theorem gw_9_13 : Cond.methodLink RL 17 yX8_building ∈ wsL_law := mr_9 _ (List.mem_of_getElem? (i := 13) rfl)
theorem gw_9_14 : Cond.methodLink RL 18 yX7_wall ∈ wsL_law := mr_9 _ (List.mem_of_getElem? (i := 14) rfl)
theorem gw_9_15 : Cond.instanceMethod yX7_wall ∈ wsL_law := mr_9 _ (List.mem_of_getElem? (i := 15) rfl)
theorem gw_9_16 : Cond.selects RX7 yX7_wall yX7_wall ∈ wsL_law := mr_9 _ (List.mem_of_getElem? (i := 16) rfl)
theorem gw_9_17 : Cond.code yX7_wall cX7_wall 4 (some .int) ∈ wsL_law := mr_9 _ (List.mem_of_getElem? (i := 17) rfl)
theorem gw_9_18 : Cond.methodLink RX7 78 Lib.Math.min.name ∈ wsL_law := mr_9 _ (List.mem_of_getElem? (i := 18) rfl)
theorem gw_9_19 : Cond.static Lib.Math.min.name ∈ wsL_law := mr_9 _ (List.mem_of_getElem? (i := 19) rfl)
theorem gw_9_20 : Cond.initialized "java/lang/Math" ∈ wsL_law := mr_9 _ (List.mem_of_getElem? (i := 20) rfl)
theorem gw_9_21 : Cond.code Lib.Math.min.name Lib.Math.min.code 2 (some .int) ∈ wsL_law := mr_9 _ (List.mem_of_getElem? (i := 21) rfl)
theorem gw_9_22 : Cond.methodLink RX7 84 Lib.Math.max.name ∈ wsL_law := mr_9 _ (List.mem_of_getElem? (i := 22) rfl)
theorem gw_9_23 : Cond.static Lib.Math.max.name ∈ wsL_law := mr_9 _ (List.mem_of_getElem? (i := 23) rfl)
theorem gw_10_0 : Cond.code Lib.Math.max.name Lib.Math.max.code 2 (some .int) ∈ wsL_law := mr_10 _ (List.mem_of_getElem? (i := 0) rfl)
theorem gw_10_1 : Cond.methodLink RX7 70 yX3_hasCell ∈ wsL_law := mr_10 _ (List.mem_of_getElem? (i := 1) rfl)
theorem gw_10_2 : Cond.instanceMethod yX3_hasCell ∈ wsL_law := mr_10 _ (List.mem_of_getElem? (i := 2) rfl)
theorem gw_10_3 : Cond.selects RX3 yX3_hasCell yX3_hasCell ∈ wsL_law := mr_10 _ (List.mem_of_getElem? (i := 3) rfl)
theorem gw_10_4 : Cond.code yX3_hasCell cX3_hasCell 2 (some .boolean) ∈ wsL_law := mr_10 _ (List.mem_of_getElem? (i := 4) rfl)
theorem gw_10_5 : Cond.methodLink RX7 74 yX3_areBeside ∈ wsL_law := mr_10 _ (List.mem_of_getElem? (i := 5) rfl)
theorem gw_10_6 : Cond.instanceMethod yX3_areBeside ∈ wsL_law := mr_10 _ (List.mem_of_getElem? (i := 6) rfl)
theorem gw_10_7 : Cond.selects RX3 yX3_areBeside yX3_areBeside ∈ wsL_law := mr_10 _ (List.mem_of_getElem? (i := 7) rfl)
theorem gw_10_8 : Cond.code yX3_areBeside cX3_areBeside 4 (some .boolean) ∈ wsL_law := mr_10 _ (List.mem_of_getElem? (i := 8) rfl)
theorem gw_10_9 : Cond.methodLink RX3 65 Lib.Math.abs.name ∈ wsL_law := mr_10 _ (List.mem_of_getElem? (i := 9) rfl)
theorem gw_10_10 : Cond.static Lib.Math.abs.name ∈ wsL_law := mr_10 _ (List.mem_of_getElem? (i := 10) rfl)
theorem gw_10_11 : Cond.code Lib.Math.abs.name Lib.Math.abs.code 1 (some .int) ∈ wsL_law := mr_10 _ (List.mem_of_getElem? (i := 11) rfl)
theorem gw_10_12 : Cond.methodLink RX7 87 yX3_putWall ∈ wsL_law := mr_10 _ (List.mem_of_getElem? (i := 12) rfl)
theorem gw_10_13 : Cond.instanceMethod yX3_putWall ∈ wsL_law := mr_10 _ (List.mem_of_getElem? (i := 13) rfl)
theorem gw_10_14 : Cond.selects RX3 yX3_putWall yX3_putWall ∈ wsL_law := mr_10 _ (List.mem_of_getElem? (i := 14) rfl)
theorem gw_10_15 : Cond.code yX3_putWall cX3_putWall 5 (some .int) ∈ wsL_law := mr_10 _ (List.mem_of_getElem? (i := 15) rfl)
theorem gw_10_16 : Cond.methodLink RL 22 yX8_wall ∈ wsL_law := mr_10 _ (List.mem_of_getElem? (i := 16) rfl)
theorem gw_10_17 : Cond.instanceMethod yX8_wall ∈ wsL_law := mr_10 _ (List.mem_of_getElem? (i := 17) rfl)
theorem gw_10_18 : Cond.selects RX8 yX8_wall yX8_wall ∈ wsL_law := mr_10 _ (List.mem_of_getElem? (i := 18) rfl)
theorem gw_10_19 : Cond.code yX8_wall cX8_wall 7 (some .int) ∈ wsL_law := mr_10 _ (List.mem_of_getElem? (i := 19) rfl)
theorem gw_10_20 : Cond.methodLink RX8 116 yX8_isCell ∈ wsL_law := mr_10 _ (List.mem_of_getElem? (i := 20) rfl)
theorem gw_10_21 : Cond.instanceMethod yX8_isCell ∈ wsL_law := mr_10 _ (List.mem_of_getElem? (i := 21) rfl)
theorem gw_10_22 : Cond.selects RX8 yX8_isCell yX8_isCell ∈ wsL_law := mr_10 _ (List.mem_of_getElem? (i := 22) rfl)
theorem gw_10_23 : Cond.code yX8_isCell cX8_isCell 2 (some .boolean) ∈ wsL_law := mr_10 _ (List.mem_of_getElem? (i := 23) rfl)
theorem gw_11_0 : Cond.methodLink RX8 120 yX8_isRightOf ∈ wsL_law := mr_11 _ (List.mem_of_getElem? (i := 0) rfl)
theorem gw_11_1 : Cond.instanceMethod yX8_isRightOf ∈ wsL_law := mr_11 _ (List.mem_of_getElem? (i := 1) rfl)
theorem gw_11_2 : Cond.selects RX8 yX8_isRightOf yX8_isRightOf ∈ wsL_law := mr_11 _ (List.mem_of_getElem? (i := 2) rfl)
theorem gw_11_3 : Cond.code yX8_isRightOf cX8_isRightOf 3 (some .boolean) ∈ wsL_law := mr_11 _ (List.mem_of_getElem? (i := 3) rfl)
theorem gw_11_4 : Cond.methodLink RX8 106 yX8_floorOf ∈ wsL_law := mr_11 _ (List.mem_of_getElem? (i := 4) rfl)
theorem gw_11_5 : Cond.instanceMethod yX8_floorOf ∈ wsL_law := mr_11 _ (List.mem_of_getElem? (i := 5) rfl)
theorem gw_11_6 : Cond.selects RX8 yX8_floorOf yX8_floorOf ∈ wsL_law := mr_11 _ (List.mem_of_getElem? (i := 6) rfl)
theorem gw_11_7 : Cond.code yX8_floorOf cX8_floorOf 2 (some .int) ∈ wsL_law := mr_11 _ (List.mem_of_getElem? (i := 7) rfl)
theorem gw_11_8 : Cond.methodLink RX8 110 yX8_yOf ∈ wsL_law := mr_11 _ (List.mem_of_getElem? (i := 8) rfl)
theorem gw_11_9 : Cond.instanceMethod yX8_yOf ∈ wsL_law := mr_11 _ (List.mem_of_getElem? (i := 9) rfl)
theorem gw_11_10 : Cond.selects RX8 yX8_yOf yX8_yOf ∈ wsL_law := mr_11 _ (List.mem_of_getElem? (i := 10) rfl)
theorem gw_11_11 : Cond.code yX8_yOf cX8_yOf 2 (some .int) ∈ wsL_law := mr_11 _ (List.mem_of_getElem? (i := 11) rfl)
theorem gw_11_12 : Cond.methodLink RX8 113 yX8_xOf ∈ wsL_law := mr_11 _ (List.mem_of_getElem? (i := 12) rfl)
theorem gw_11_13 : Cond.instanceMethod yX8_xOf ∈ wsL_law := mr_11 _ (List.mem_of_getElem? (i := 13) rfl)
theorem gw_11_14 : Cond.selects RX8 yX8_xOf yX8_xOf ∈ wsL_law := mr_11 _ (List.mem_of_getElem? (i := 14) rfl)
theorem gw_11_15 : Cond.code yX8_xOf cX8_xOf 2 (some .int) ∈ wsL_law := mr_11 _ (List.mem_of_getElem? (i := 15) rfl)
theorem gw_11_16 : Cond.methodLink RX8 124 yX8_isBelow ∈ wsL_law := mr_11 _ (List.mem_of_getElem? (i := 16) rfl)
theorem gw_11_17 : Cond.instanceMethod yX8_isBelow ∈ wsL_law := mr_11 _ (List.mem_of_getElem? (i := 17) rfl)
theorem gw_11_18 : Cond.selects RX8 yX8_isBelow yX8_isBelow ∈ wsL_law := mr_11 _ (List.mem_of_getElem? (i := 18) rfl)
theorem gw_11_19 : Cond.code yX8_isBelow cX8_isBelow 3 (some .boolean) ∈ wsL_law := mr_11 _ (List.mem_of_getElem? (i := 19) rfl)
theorem gw_11_20 : Cond.methodLink RL 23 yX7_lift ∈ wsL_law := mr_11 _ (List.mem_of_getElem? (i := 20) rfl)
theorem gw_11_21 : Cond.instanceMethod yX7_lift ∈ wsL_law := mr_11 _ (List.mem_of_getElem? (i := 21) rfl)
theorem gw_11_22 : Cond.selects RX7 yX7_lift yX7_lift ∈ wsL_law := mr_11 _ (List.mem_of_getElem? (i := 22) rfl)
theorem gw_11_23 : Cond.code yX7_lift cX7_lift 4 (some .int) ∈ wsL_law := mr_11 _ (List.mem_of_getElem? (i := 23) rfl)
theorem gw_12_0 : Cond.methodLink RX7 91 yX3_hasPlace ∈ wsL_law := mr_12 _ (List.mem_of_getElem? (i := 0) rfl)
theorem gw_12_1 : Cond.instanceMethod yX3_hasPlace ∈ wsL_law := mr_12 _ (List.mem_of_getElem? (i := 1) rfl)
theorem gw_12_2 : Cond.selects RX3 yX3_hasPlace yX3_hasPlace ∈ wsL_law := mr_12 _ (List.mem_of_getElem? (i := 2) rfl)
theorem gw_12_3 : Cond.code yX3_hasPlace cX3_hasPlace 3 (some .boolean) ∈ wsL_law := mr_12 _ (List.mem_of_getElem? (i := 3) rfl)
theorem gw_12_4 : Cond.methodLink RX7 94 yX3_putLift ∈ wsL_law := mr_12 _ (List.mem_of_getElem? (i := 4) rfl)
theorem gw_12_5 : Cond.instanceMethod yX3_putLift ∈ wsL_law := mr_12 _ (List.mem_of_getElem? (i := 5) rfl)
theorem gw_12_6 : Cond.selects RX3 yX3_putLift yX3_putLift ∈ wsL_law := mr_12 _ (List.mem_of_getElem? (i := 6) rfl)
theorem gw_12_7 : Cond.code yX3_putLift cX3_putLift 5 (some .int) ∈ wsL_law := mr_12 _ (List.mem_of_getElem? (i := 7) rfl)
theorem gw_12_8 : Cond.methodLink RL 26 yX8_lift ∈ wsL_law := mr_12 _ (List.mem_of_getElem? (i := 8) rfl)
theorem gw_12_9 : Cond.instanceMethod yX8_lift ∈ wsL_law := mr_12 _ (List.mem_of_getElem? (i := 9) rfl)
theorem gw_12_10 : Cond.selects RX8 yX8_lift yX8_lift ∈ wsL_law := mr_12 _ (List.mem_of_getElem? (i := 10) rfl)
theorem gw_12_11 : Cond.code yX8_lift cX8_lift 5 (some .int) ∈ wsL_law := mr_12 _ (List.mem_of_getElem? (i := 11) rfl)
theorem gw_12_12 : Cond.methodLink RL 27 yX7_stay ∈ wsL_law := mr_12 _ (List.mem_of_getElem? (i := 12) rfl)
theorem gw_12_13 : Cond.instanceMethod yX7_stay ∈ wsL_law := mr_12 _ (List.mem_of_getElem? (i := 13) rfl)
theorem gw_12_14 : Cond.selects RX7 yX7_stay yX7_stay ∈ wsL_law := mr_12 _ (List.mem_of_getElem? (i := 14) rfl)
theorem gw_12_15 : Cond.code yX7_stay cX7_stay 2 (some .int) ∈ wsL_law := mr_12 _ (List.mem_of_getElem? (i := 15) rfl)
theorem gw_12_16 : Cond.methodLink RX7 97 yX3_putStay ∈ wsL_law := mr_12 _ (List.mem_of_getElem? (i := 16) rfl)
theorem gw_12_17 : Cond.instanceMethod yX3_putStay ∈ wsL_law := mr_12 _ (List.mem_of_getElem? (i := 17) rfl)
theorem gw_12_18 : Cond.selects RX3 yX3_putStay yX3_putStay ∈ wsL_law := mr_12 _ (List.mem_of_getElem? (i := 18) rfl)
theorem gw_12_19 : Cond.code yX3_putStay cX3_putStay 3 (some .int) ∈ wsL_law := mr_12 _ (List.mem_of_getElem? (i := 19) rfl)
theorem gw_12_20 : Cond.methodLink RL 31 yX8_stay ∈ wsL_law := mr_12 _ (List.mem_of_getElem? (i := 20) rfl)
theorem gw_12_21 : Cond.instanceMethod yX8_stay ∈ wsL_law := mr_12 _ (List.mem_of_getElem? (i := 21) rfl)
theorem gw_12_22 : Cond.selects RX8 yX8_stay yX8_stay ∈ wsL_law := mr_12 _ (List.mem_of_getElem? (i := 22) rfl)
theorem gw_12_23 : Cond.code yX8_stay cX8_stay 3 (some .int) ∈ wsL_law := mr_12 _ (List.mem_of_getElem? (i := 23) rfl)
theorem gw_13_0 : Cond.methodLink RL 32 yX7_step ∈ wsL_law := mr_13 _ (List.mem_of_getElem? (i := 0) rfl)
theorem gw_13_1 : Cond.instanceMethod yX7_step ∈ wsL_law := mr_13 _ (List.mem_of_getElem? (i := 1) rfl)
theorem gw_13_2 : Cond.selects RX7 yX7_step yX7_step ∈ wsL_law := mr_13 _ (List.mem_of_getElem? (i := 2) rfl)
theorem gw_13_3 : Cond.code yX7_step cX7_step 3 (some .int) ∈ wsL_law := mr_13 _ (List.mem_of_getElem? (i := 3) rfl)
theorem gw_13_4 : Cond.methodLink RX7 101 yX3_likelyBetween ∈ wsL_law := mr_13 _ (List.mem_of_getElem? (i := 4) rfl)
theorem gw_13_5 : Cond.instanceMethod yX3_likelyBetween ∈ wsL_law := mr_13 _ (List.mem_of_getElem? (i := 5) rfl)
theorem gw_13_6 : Cond.selects RX3 yX3_likelyBetween yX3_likelyBetween ∈ wsL_law := mr_13 _ (List.mem_of_getElem? (i := 6) rfl)
theorem gw_13_7 : Cond.code yX3_likelyBetween cX3_likelyBetween 4 (some .int) ∈ wsL_law := mr_13 _ (List.mem_of_getElem? (i := 7) rfl)
theorem gw_13_8 : Cond.methodLink RX3 80 yX3_targetOf ∈ wsL_law := mr_13 _ (List.mem_of_getElem? (i := 8) rfl)
theorem gw_13_9 : Cond.instanceMethod yX3_targetOf ∈ wsL_law := mr_13 _ (List.mem_of_getElem? (i := 9) rfl)
theorem gw_13_10 : Cond.selects RX3 yX3_targetOf yX3_targetOf ∈ wsL_law := mr_13 _ (List.mem_of_getElem? (i := 10) rfl)
theorem gw_13_11 : Cond.code yX3_targetOf cX3_targetOf 3 (some .int) ∈ wsL_law := mr_13 _ (List.mem_of_getElem? (i := 11) rfl)
theorem gw_13_12 : Cond.methodLink RX3 84 yX3_likelyTo ∈ wsL_law := mr_13 _ (List.mem_of_getElem? (i := 12) rfl)
theorem gw_13_13 : Cond.instanceMethod yX3_likelyTo ∈ wsL_law := mr_13 _ (List.mem_of_getElem? (i := 13) rfl)
theorem gw_13_14 : Cond.selects RX3 yX3_likelyTo yX3_likelyTo ∈ wsL_law := mr_13 _ (List.mem_of_getElem? (i := 14) rfl)
theorem gw_13_15 : Cond.code yX3_likelyTo cX3_likelyTo 2 (some .int) ∈ wsL_law := mr_13 _ (List.mem_of_getElem? (i := 15) rfl)
theorem gw_13_16 : Cond.methodLink RL 36 yX8_step ∈ wsL_law := mr_13 _ (List.mem_of_getElem? (i := 16) rfl)
theorem gw_13_17 : Cond.instanceMethod yX8_step ∈ wsL_law := mr_13 _ (List.mem_of_getElem? (i := 17) rfl)
theorem gw_13_18 : Cond.selects RX8 yX8_step yX8_step ∈ wsL_law := mr_13 _ (List.mem_of_getElem? (i := 18) rfl)
theorem gw_13_19 : Cond.code yX8_step cX8_step 3 (some .int) ∈ wsL_law := mr_13 _ (List.mem_of_getElem? (i := 19) rfl)
theorem gw_13_20 : Cond.methodLink RX8 127 yX8_likely ∈ wsL_law := mr_13 _ (List.mem_of_getElem? (i := 20) rfl)
theorem gw_13_21 : Cond.instanceMethod yX8_likely ∈ wsL_law := mr_13 _ (List.mem_of_getElem? (i := 21) rfl)
theorem gw_13_22 : Cond.selects RX8 yX8_likely yX8_likely ∈ wsL_law := mr_13 _ (List.mem_of_getElem? (i := 22) rfl)
theorem gw_13_23 : Cond.code yX8_likely cX8_likely 5 (some .int) ∈ wsL_law := mr_13 _ (List.mem_of_getElem? (i := 23) rfl)
theorem gw_14_0 : Cond.methodLink RL 37 yX7_far ∈ wsL_law := mr_14 _ (List.mem_of_getElem? (i := 0) rfl)
theorem gw_14_1 : Cond.instanceMethod yX7_far ∈ wsL_law := mr_14 _ (List.mem_of_getElem? (i := 1) rfl)
theorem gw_14_2 : Cond.selects RX7 yX7_far yX7_far ∈ wsL_law := mr_14 _ (List.mem_of_getElem? (i := 2) rfl)
theorem gw_14_3 : Cond.code yX7_far cX7_far 3 (some .int) ∈ wsL_law := mr_14 _ (List.mem_of_getElem? (i := 3) rfl)
theorem gw_14_4 : Cond.methodLink RX7 104 yX3_fewestSteps ∈ wsL_law := mr_14 _ (List.mem_of_getElem? (i := 4) rfl)
theorem gw_14_5 : Cond.instanceMethod yX3_fewestSteps ∈ wsL_law := mr_14 _ (List.mem_of_getElem? (i := 5) rfl)
theorem gw_14_6 : Cond.selects RX3 yX3_fewestSteps yX3_fewestSteps ∈ wsL_law := mr_14 _ (List.mem_of_getElem? (i := 6) rfl)
theorem gw_14_7 : Cond.code yX3_fewestSteps cX3_fewestSteps 8 (some .int) ∈ wsL_law := mr_14 _ (List.mem_of_getElem? (i := 7) rfl)
theorem gw_14_8 : Cond.methodLink RX3 87 yJ7_fill_53178 ∈ wsL_law := mr_14 _ (List.mem_of_getElem? (i := 8) rfl)
theorem gw_14_9 : Cond.methodLink RX3 93 yX3_hasCell ∈ wsL_law := mr_14 _ (List.mem_of_getElem? (i := 9) rfl)
theorem gw_14_10 : Cond.methodLink RL 40 yX8_far ∈ wsL_law := mr_14 _ (List.mem_of_getElem? (i := 10) rfl)
theorem gw_14_11 : Cond.instanceMethod yX8_far ∈ wsL_law := mr_14 _ (List.mem_of_getElem? (i := 11) rfl)
theorem gw_14_12 : Cond.selects RX8 yX8_far yX8_far ∈ wsL_law := mr_14 _ (List.mem_of_getElem? (i := 12) rfl)
theorem gw_14_13 : Cond.code yX8_far cX8_far 6 (some .int) ∈ wsL_law := mr_14 _ (List.mem_of_getElem? (i := 13) rfl)
theorem gw_14_14 : Cond.methodLink RL 41 yX7_dead ∈ wsL_law := mr_14 _ (List.mem_of_getElem? (i := 14) rfl)
theorem gw_14_15 : Cond.instanceMethod yX7_dead ∈ wsL_law := mr_14 _ (List.mem_of_getElem? (i := 15) rfl)
theorem gw_14_16 : Cond.selects RX7 yX7_dead yX7_dead ∈ wsL_law := mr_14 _ (List.mem_of_getElem? (i := 16) rfl)
theorem gw_14_17 : Cond.code yX7_dead cX7_dead 3 (some .int) ∈ wsL_law := mr_14 _ (List.mem_of_getElem? (i := 17) rfl)
theorem gw_14_18 : Cond.methodLink RX7 107 yX7_isSender ∈ wsL_law := mr_14 _ (List.mem_of_getElem? (i := 18) rfl)
theorem gw_14_19 : Cond.static yX7_isSender ∈ wsL_law := mr_14 _ (List.mem_of_getElem? (i := 19) rfl)
theorem gw_14_20 : Cond.code yX7_isSender cX7_isSender 1 (some .boolean) ∈ wsL_law := mr_14 _ (List.mem_of_getElem? (i := 20) rfl)
theorem gw_14_21 : Cond.methodLink RX7 110 yX4_putDead ∈ wsL_law := mr_14 _ (List.mem_of_getElem? (i := 21) rfl)
theorem gw_14_22 : Cond.instanceMethod yX4_putDead ∈ wsL_law := mr_14 _ (List.mem_of_getElem? (i := 22) rfl)
theorem gw_14_23 : Cond.selects RX4 yX4_putDead yX4_putDead ∈ wsL_law := mr_14 _ (List.mem_of_getElem? (i := 23) rfl)
theorem gw_15_0 : Cond.code yX4_putDead cX4_putDead 3 none ∈ wsL_law := mr_15 _ (List.mem_of_getElem? (i := 0) rfl)
theorem gw_15_1 : Cond.methodLink RL 45 yX8_dead ∈ wsL_law := mr_15 _ (List.mem_of_getElem? (i := 1) rfl)
theorem gw_15_2 : Cond.instanceMethod yX8_dead ∈ wsL_law := mr_15 _ (List.mem_of_getElem? (i := 2) rfl)
theorem gw_15_3 : Cond.selects RX8 yX8_dead yX8_dead ∈ wsL_law := mr_15 _ (List.mem_of_getElem? (i := 3) rfl)
theorem gw_15_4 : Cond.code yX8_dead cX8_dead 3 (some .int) ∈ wsL_law := mr_15 _ (List.mem_of_getElem? (i := 4) rfl)
theorem gw_15_5 : Cond.methodLink RL 46 yX7_survey ∈ wsL_law := mr_15 _ (List.mem_of_getElem? (i := 5) rfl)
theorem gw_15_6 : Cond.instanceMethod yX7_survey ∈ wsL_law := mr_15 _ (List.mem_of_getElem? (i := 6) rfl)
theorem gw_15_7 : Cond.selects RX7 yX7_survey yX7_survey ∈ wsL_law := mr_15 _ (List.mem_of_getElem? (i := 7) rfl)
theorem gw_15_8 : Cond.code yX7_survey cX7_survey 5 (some .int) ∈ wsL_law := mr_15 _ (List.mem_of_getElem? (i := 8) rfl)
theorem gw_15_9 : Cond.methodLink RX7 114 yX7_isSheet ∈ wsL_law := mr_15 _ (List.mem_of_getElem? (i := 9) rfl)
theorem gw_15_10 : Cond.static yX7_isSheet ∈ wsL_law := mr_15 _ (List.mem_of_getElem? (i := 10) rfl)
theorem gw_15_11 : Cond.code yX7_isSheet cX7_isSheet 1 (some .boolean) ∈ wsL_law := mr_15 _ (List.mem_of_getElem? (i := 11) rfl)
theorem gw_15_12 : Cond.methodLink RX7 117 yX7_rowProblem ∈ wsL_law := mr_15 _ (List.mem_of_getElem? (i := 12) rfl)
theorem gw_15_13 : Cond.static yX7_rowProblem ∈ wsL_law := mr_15 _ (List.mem_of_getElem? (i := 13) rfl)
theorem gw_15_14 : Cond.code yX7_rowProblem cX7_rowProblem 2 (some .int) ∈ wsL_law := mr_15 _ (List.mem_of_getElem? (i := 14) rfl)
theorem gw_15_15 : Cond.fieldLink RX7 209 "InsidePlaces$Sheet" "lost" "Z" ∈ wsL_law := mr_15 _ (List.mem_of_getElem? (i := 15) rfl)
theorem gw_15_16 : Cond.methodLink RX7 174 yX5_rows ∈ wsL_law := mr_15 _ (List.mem_of_getElem? (i := 16) rfl)
theorem gw_15_17 : Cond.instanceMethod yX5_rows ∈ wsL_law := mr_15 _ (List.mem_of_getElem? (i := 17) rfl)
theorem gw_15_18 : Cond.selects RX5 yX5_rows yX5_rows ∈ wsL_law := mr_15 _ (List.mem_of_getElem? (i := 18) rfl)
theorem gw_15_19 : Cond.code yX5_rows cX5_rows 1 (some .int) ∈ wsL_law := mr_15 _ (List.mem_of_getElem? (i := 19) rfl)
theorem gw_15_20 : Cond.methodLink RX7 121 yX7_finding ∈ wsL_law := mr_15 _ (List.mem_of_getElem? (i := 20) rfl)
theorem gw_15_21 : Cond.instanceMethod yX7_finding ∈ wsL_law := mr_15 _ (List.mem_of_getElem? (i := 21) rfl)
theorem gw_15_22 : Cond.selects RX7 yX7_finding yX7_finding ∈ wsL_law := mr_15 _ (List.mem_of_getElem? (i := 22) rfl)
theorem gw_15_23 : Cond.code yX7_finding cX7_finding 2 (some .int) ∈ wsL_law := mr_15 _ (List.mem_of_getElem? (i := 23) rfl)
theorem gw_16_0 : Cond.methodLink RX7 124 yX4_addRow ∈ wsL_law := mr_16 _ (List.mem_of_getElem? (i := 0) rfl)
theorem gw_16_1 : Cond.instanceMethod yX4_addRow ∈ wsL_law := mr_16 _ (List.mem_of_getElem? (i := 1) rfl)
theorem gw_16_2 : Cond.selects RX4 yX4_addRow yX4_addRow ∈ wsL_law := mr_16 _ (List.mem_of_getElem? (i := 2) rfl)
theorem gw_16_3 : Cond.code yX4_addRow cX4_addRow 8 (some .int) ∈ wsL_law := mr_16 _ (List.mem_of_getElem? (i := 3) rfl)
theorem gw_16_4 : Cond.methodLink RX4 43 Lib.Math.min.name ∈ wsL_law := mr_16 _ (List.mem_of_getElem? (i := 4) rfl)
theorem gw_16_5 : Cond.methodLink RX4 38 yX5_heardOf ∈ wsL_law := mr_16 _ (List.mem_of_getElem? (i := 5) rfl)
theorem gw_16_6 : Cond.instanceMethod yX5_heardOf ∈ wsL_law := mr_16 _ (List.mem_of_getElem? (i := 6) rfl)
theorem gw_16_7 : Cond.selects RX5 yX5_heardOf yX5_heardOf ∈ wsL_law := mr_16 _ (List.mem_of_getElem? (i := 7) rfl)
theorem gw_16_8 : Cond.code yX5_heardOf cX5_heardOf 4 (some .int) ∈ wsL_law := mr_16 _ (List.mem_of_getElem? (i := 8) rfl)
theorem gw_16_9 : Cond.methodLink RX4 25 yX4_slotOf ∈ wsL_law := mr_16 _ (List.mem_of_getElem? (i := 9) rfl)
theorem gw_16_10 : Cond.static yX4_slotOf ∈ wsL_law := mr_16 _ (List.mem_of_getElem? (i := 10) rfl)
theorem gw_16_11 : Cond.code yX4_slotOf cX4_slotOf 3 (some .int) ∈ wsL_law := mr_16 _ (List.mem_of_getElem? (i := 11) rfl)
theorem gw_16_12 : Cond.methodLink RL 49 yX8_survey ∈ wsL_law := mr_16 _ (List.mem_of_getElem? (i := 12) rfl)
theorem gw_16_13 : Cond.instanceMethod yX8_survey ∈ wsL_law := mr_16 _ (List.mem_of_getElem? (i := 13) rfl)
theorem gw_16_14 : Cond.selects RX8 yX8_survey yX8_survey ∈ wsL_law := mr_16 _ (List.mem_of_getElem? (i := 14) rfl)
theorem gw_16_15 : Cond.code yX8_survey cX8_survey 5 (some .int) ∈ wsL_law := mr_16 _ (List.mem_of_getElem? (i := 15) rfl)
theorem gw_16_16 : Cond.methodLink RX8 141 yX8_isSheet ∈ wsL_law := mr_16 _ (List.mem_of_getElem? (i := 16) rfl)
theorem gw_16_17 : Cond.static yX8_isSheet ∈ wsL_law := mr_16 _ (List.mem_of_getElem? (i := 17) rfl)
theorem gw_16_18 : Cond.code yX8_isSheet cX8_isSheet 1 (some .boolean) ∈ wsL_law := mr_16 _ (List.mem_of_getElem? (i := 18) rfl)
theorem gw_16_19 : Cond.methodLink RX8 144 yX8_lacksRow ∈ wsL_law := mr_16 _ (List.mem_of_getElem? (i := 19) rfl)
theorem gw_16_20 : Cond.instanceMethod yX8_lacksRow ∈ wsL_law := mr_16 _ (List.mem_of_getElem? (i := 20) rfl)
theorem gw_16_21 : Cond.selects RX8 yX8_lacksRow yX8_lacksRow ∈ wsL_law := mr_16 _ (List.mem_of_getElem? (i := 21) rfl)
theorem gw_16_22 : Cond.code yX8_lacksRow cX8_lacksRow 3 (some .int) ∈ wsL_law := mr_16 _ (List.mem_of_getElem? (i := 22) rfl)
theorem gw_16_23 : Cond.methodLink RX8 138 yX8_rowsOf ∈ wsL_law := mr_16 _ (List.mem_of_getElem? (i := 23) rfl)
theorem gw_17_0 : Cond.instanceMethod yX8_rowsOf ∈ wsL_law := mr_17 _ (List.mem_of_getElem? (i := 0) rfl)
theorem gw_17_1 : Cond.selects RX8 yX8_rowsOf yX8_rowsOf ∈ wsL_law := mr_17 _ (List.mem_of_getElem? (i := 1) rfl)
theorem gw_17_2 : Cond.code yX8_rowsOf cX8_rowsOf 2 (some .int) ∈ wsL_law := mr_17 _ (List.mem_of_getElem? (i := 2) rfl)
theorem gw_17_3 : Cond.methodLink RX8 147 yX8_meets ∈ wsL_law := mr_17 _ (List.mem_of_getElem? (i := 3) rfl)
theorem gw_17_4 : Cond.instanceMethod yX8_meets ∈ wsL_law := mr_17 _ (List.mem_of_getElem? (i := 4) rfl)
theorem gw_17_5 : Cond.selects RX8 yX8_meets yX8_meets ∈ wsL_law := mr_17 _ (List.mem_of_getElem? (i := 5) rfl)
theorem gw_17_6 : Cond.code yX8_meets cX8_meets 2 (some .int) ∈ wsL_law := mr_17 _ (List.mem_of_getElem? (i := 6) rfl)
theorem gw_17_7 : Cond.fieldLink RX8 196 "InsidePlacesModel" "finding" "I" ∈ wsL_law := mr_17 _ (List.mem_of_getElem? (i := 7) rfl)
theorem gw_17_8 : Cond.methodLink RX8 150 yX8_surveys ∈ wsL_law := mr_17 _ (List.mem_of_getElem? (i := 8) rfl)
theorem gw_17_9 : Cond.instanceMethod yX8_surveys ∈ wsL_law := mr_17 _ (List.mem_of_getElem? (i := 9) rfl)
theorem gw_17_10 : Cond.selects RX8 yX8_surveys yX8_surveys ∈ wsL_law := mr_17 _ (List.mem_of_getElem? (i := 10) rfl)
theorem gw_17_11 : Cond.code yX8_surveys cX8_surveys 8 (some .int) ∈ wsL_law := mr_17 _ (List.mem_of_getElem? (i := 11) rfl)
theorem gw_17_12 : Cond.methodLink RX8 134 yX8_heard ∈ wsL_law := mr_17 _ (List.mem_of_getElem? (i := 12) rfl)
theorem gw_17_13 : Cond.instanceMethod yX8_heard ∈ wsL_law := mr_17 _ (List.mem_of_getElem? (i := 13) rfl)
theorem gw_17_14 : Cond.selects RX8 yX8_heard yX8_heard ∈ wsL_law := mr_17 _ (List.mem_of_getElem? (i := 14) rfl)
theorem gw_17_15 : Cond.code yX8_heard cX8_heard 7 (some .int) ∈ wsL_law := mr_17 _ (List.mem_of_getElem? (i := 15) rfl)
theorem gw_17_16 : Cond.methodLink RX8 131 yX8_placeIn ∈ wsL_law := mr_17 _ (List.mem_of_getElem? (i := 16) rfl)
theorem gw_17_17 : Cond.instanceMethod yX8_placeIn ∈ wsL_law := mr_17 _ (List.mem_of_getElem? (i := 17) rfl)
theorem gw_17_18 : Cond.selects RX8 yX8_placeIn yX8_placeIn ∈ wsL_law := mr_17 _ (List.mem_of_getElem? (i := 18) rfl)
theorem gw_17_19 : Cond.code yX8_placeIn cX8_placeIn 4 (some .int) ∈ wsL_law := mr_17 _ (List.mem_of_getElem? (i := 19) rfl)
theorem gw_17_20 : Cond.methodLink RL 50 yX7_weight ∈ wsL_law := mr_17 _ (List.mem_of_getElem? (i := 20) rfl)
theorem gw_17_21 : Cond.instanceMethod yX7_weight ∈ wsL_law := mr_17 _ (List.mem_of_getElem? (i := 21) rfl)
theorem gw_17_22 : Cond.selects RX7 yX7_weight yX7_weight ∈ wsL_law := mr_17 _ (List.mem_of_getElem? (i := 22) rfl)
theorem gw_17_23 : Cond.code yX7_weight cX7_weight 4 (some .int) ∈ wsL_law := mr_17 _ (List.mem_of_getElem? (i := 23) rfl)
theorem gw_18_0 : Cond.methodLink RX7 128 yX4_weightOf ∈ wsL_law := mr_18 _ (List.mem_of_getElem? (i := 0) rfl)
theorem gw_18_1 : Cond.instanceMethod yX4_weightOf ∈ wsL_law := mr_18 _ (List.mem_of_getElem? (i := 1) rfl)
theorem gw_18_2 : Cond.selects RX4 yX4_weightOf yX4_weightOf ∈ wsL_law := mr_18 _ (List.mem_of_getElem? (i := 2) rfl)
theorem gw_18_3 : Cond.code yX4_weightOf cX4_weightOf 4 (some .int) ∈ wsL_law := mr_18 _ (List.mem_of_getElem? (i := 3) rfl)
theorem gw_18_4 : Cond.methodLink RL 53 yX8_weight ∈ wsL_law := mr_18 _ (List.mem_of_getElem? (i := 4) rfl)
theorem gw_18_5 : Cond.instanceMethod yX8_weight ∈ wsL_law := mr_18 _ (List.mem_of_getElem? (i := 5) rfl)
theorem gw_18_6 : Cond.selects RX8 yX8_weight yX8_weight ∈ wsL_law := mr_18 _ (List.mem_of_getElem? (i := 6) rfl)
theorem gw_18_7 : Cond.code yX8_weight cX8_weight 4 (some .int) ∈ wsL_law := mr_18 _ (List.mem_of_getElem? (i := 7) rfl)
theorem gw_18_8 : Cond.methodLink RX8 153 yX8_weightOf ∈ wsL_law := mr_18 _ (List.mem_of_getElem? (i := 8) rfl)
theorem gw_18_9 : Cond.instanceMethod yX8_weightOf ∈ wsL_law := mr_18 _ (List.mem_of_getElem? (i := 9) rfl)
theorem gw_18_10 : Cond.selects RX8 yX8_weightOf yX8_weightOf ∈ wsL_law := mr_18 _ (List.mem_of_getElem? (i := 10) rfl)
theorem gw_18_11 : Cond.code yX8_weightOf cX8_weightOf 4 (some .int) ∈ wsL_law := mr_18 _ (List.mem_of_getElem? (i := 11) rfl)
theorem gw_18_12 : Cond.methodLink RL 54 yX7_offset ∈ wsL_law := mr_18 _ (List.mem_of_getElem? (i := 12) rfl)
theorem gw_18_13 : Cond.instanceMethod yX7_offset ∈ wsL_law := mr_18 _ (List.mem_of_getElem? (i := 13) rfl)
theorem gw_18_14 : Cond.selects RX7 yX7_offset yX7_offset ∈ wsL_law := mr_18 _ (List.mem_of_getElem? (i := 14) rfl)
theorem gw_18_15 : Cond.code yX7_offset cX7_offset 5 (some .int) ∈ wsL_law := mr_18 _ (List.mem_of_getElem? (i := 15) rfl)
theorem gw_18_16 : Cond.methodLink RX7 132 yX4_bestOffset ∈ wsL_law := mr_18 _ (List.mem_of_getElem? (i := 16) rfl)
theorem gw_18_17 : Cond.instanceMethod yX4_bestOffset ∈ wsL_law := mr_18 _ (List.mem_of_getElem? (i := 17) rfl)
theorem gw_18_18 : Cond.selects RX4 yX4_bestOffset yX4_bestOffset ∈ wsL_law := mr_18 _ (List.mem_of_getElem? (i := 18) rfl)
theorem gw_18_19 : Cond.code yX4_bestOffset cX4_bestOffset 9 (some .int) ∈ wsL_law := mr_18 _ (List.mem_of_getElem? (i := 19) rfl)
theorem gw_18_20 : Cond.methodLink RX4 53 yX4_rowWeight ∈ wsL_law := mr_18 _ (List.mem_of_getElem? (i := 20) rfl)
theorem gw_18_21 : Cond.instanceMethod yX4_rowWeight ∈ wsL_law := mr_18 _ (List.mem_of_getElem? (i := 21) rfl)
theorem gw_18_22 : Cond.selects RX4 yX4_rowWeight yX4_rowWeight ∈ wsL_law := mr_18 _ (List.mem_of_getElem? (i := 22) rfl)
theorem gw_18_23 : Cond.code yX4_rowWeight cX4_rowWeight 9 (some .int) ∈ wsL_law := mr_18 _ (List.mem_of_getElem? (i := 23) rfl)
theorem gw_19_0 : Cond.methodLink RX4 46 yX5_heardBy ∈ wsL_law := mr_19 _ (List.mem_of_getElem? (i := 0) rfl)
theorem gw_19_1 : Cond.instanceMethod yX5_heardBy ∈ wsL_law := mr_19 _ (List.mem_of_getElem? (i := 1) rfl)
theorem gw_19_2 : Cond.selects RX5 yX5_heardBy yX5_heardBy ∈ wsL_law := mr_19 _ (List.mem_of_getElem? (i := 2) rfl)
theorem gw_19_3 : Cond.code yX5_heardBy cX5_heardBy 5 (some .int) ∈ wsL_law := mr_19 _ (List.mem_of_getElem? (i := 3) rfl)
theorem gw_19_4 : Cond.methodLink RX5 36 Lib.Math.min.name ∈ wsL_law := mr_19 _ (List.mem_of_getElem? (i := 4) rfl)
theorem gw_19_5 : Cond.methodLink RX5 41 Lib.Math.max.name ∈ wsL_law := mr_19 _ (List.mem_of_getElem? (i := 5) rfl)
theorem gw_19_6 : Cond.methodLink RX5 32 yX5_heardOf ∈ wsL_law := mr_19 _ (List.mem_of_getElem? (i := 6) rfl)
theorem gw_19_7 : Cond.methodLink RX4 49 yX4_isDead ∈ wsL_law := mr_19 _ (List.mem_of_getElem? (i := 7) rfl)
theorem gw_19_8 : Cond.instanceMethod yX4_isDead ∈ wsL_law := mr_19 _ (List.mem_of_getElem? (i := 8) rfl)
theorem gw_19_9 : Cond.selects RX4 yX4_isDead yX4_isDead ∈ wsL_law := mr_19 _ (List.mem_of_getElem? (i := 9) rfl)
theorem gw_19_10 : Cond.code yX4_isDead cX4_isDead 2 (some .boolean) ∈ wsL_law := mr_19 _ (List.mem_of_getElem? (i := 10) rfl)
theorem gw_19_11 : Cond.methodLink RX4 29 yX4_weightOf ∈ wsL_law := mr_19 _ (List.mem_of_getElem? (i := 11) rfl)
theorem gw_19_12 : Cond.methodLink RL 57 yX8_offset ∈ wsL_law := mr_19 _ (List.mem_of_getElem? (i := 12) rfl)
theorem gw_19_13 : Cond.instanceMethod yX8_offset ∈ wsL_law := mr_19 _ (List.mem_of_getElem? (i := 13) rfl)
theorem gw_19_14 : Cond.selects RX8 yX8_offset yX8_offset ∈ wsL_law := mr_19 _ (List.mem_of_getElem? (i := 14) rfl)
theorem gw_19_15 : Cond.code yX8_offset cX8_offset 10 (some .int) ∈ wsL_law := mr_19 _ (List.mem_of_getElem? (i := 15) rfl)
theorem gw_19_16 : Cond.methodLink RX8 156 yX8_weights ∈ wsL_law := mr_19 _ (List.mem_of_getElem? (i := 16) rfl)
theorem gw_19_17 : Cond.instanceMethod yX8_weights ∈ wsL_law := mr_19 _ (List.mem_of_getElem? (i := 17) rfl)
theorem gw_19_18 : Cond.selects RX8 yX8_weights yX8_weights ∈ wsL_law := mr_19 _ (List.mem_of_getElem? (i := 18) rfl)
theorem gw_19_19 : Cond.code yX8_weights cX8_weights 9 (some .int) ∈ wsL_law := mr_19 _ (List.mem_of_getElem? (i := 19) rfl)
theorem gw_19_20 : Cond.methodLink RL 58 yX7_alike ∈ wsL_law := mr_19 _ (List.mem_of_getElem? (i := 20) rfl)
theorem gw_19_21 : Cond.instanceMethod yX7_alike ∈ wsL_law := mr_19 _ (List.mem_of_getElem? (i := 21) rfl)
theorem gw_19_22 : Cond.selects RX7 yX7_alike yX7_alike ∈ wsL_law := mr_19 _ (List.mem_of_getElem? (i := 22) rfl)
theorem gw_19_23 : Cond.code yX7_alike cX7_alike 1 (some .int) ∈ wsL_law := mr_19 _ (List.mem_of_getElem? (i := 23) rfl)
theorem gw_20_0 : Cond.methodLink RX7 139 yX1_shareOf ∈ wsL_law := mr_20 _ (List.mem_of_getElem? (i := 0) rfl)
theorem gw_20_1 : Cond.instanceMethod yX1_shareOf ∈ wsL_law := mr_20 _ (List.mem_of_getElem? (i := 1) rfl)
theorem gw_20_2 : Cond.selects RX1 yX1_shareOf yX1_shareOf ∈ wsL_law := mr_20 _ (List.mem_of_getElem? (i := 2) rfl)
theorem gw_20_3 : Cond.code yX1_shareOf cX1_shareOf 2 (some .int) ∈ wsL_law := mr_20 _ (List.mem_of_getElem? (i := 3) rfl)
theorem gw_20_4 : Cond.methodLink RL 62 yX8_alike ∈ wsL_law := mr_20 _ (List.mem_of_getElem? (i := 4) rfl)
theorem gw_20_5 : Cond.methodLink RL 63 yX7_known ∈ wsL_law := mr_20 _ (List.mem_of_getElem? (i := 5) rfl)
theorem gw_20_6 : Cond.instanceMethod yX7_known ∈ wsL_law := mr_20 _ (List.mem_of_getElem? (i := 6) rfl)
theorem gw_20_7 : Cond.selects RX7 yX7_known yX7_known ∈ wsL_law := mr_20 _ (List.mem_of_getElem? (i := 7) rfl)
theorem gw_20_8 : Cond.code yX7_known cX7_known 2 (some .int) ∈ wsL_law := mr_20 _ (List.mem_of_getElem? (i := 8) rfl)
theorem gw_20_9 : Cond.methodLink RX7 142 yX1_makeKnown ∈ wsL_law := mr_20 _ (List.mem_of_getElem? (i := 9) rfl)
theorem gw_20_10 : Cond.instanceMethod yX1_makeKnown ∈ wsL_law := mr_20 _ (List.mem_of_getElem? (i := 10) rfl)
theorem gw_20_11 : Cond.selects RX1 yX1_makeKnown yX1_makeKnown ∈ wsL_law := mr_20 _ (List.mem_of_getElem? (i := 11) rfl)
theorem gw_20_12 : Cond.code yX1_makeKnown cX1_makeKnown 2 none ∈ wsL_law := mr_20 _ (List.mem_of_getElem? (i := 12) rfl)
theorem gw_20_13 : Cond.methodLink RX1 36 yJ7_fill_53178 ∈ wsL_law := mr_20 _ (List.mem_of_getElem? (i := 13) rfl)
theorem gw_20_14 : Cond.methodLink RL 66 yX8_known ∈ wsL_law := mr_20 _ (List.mem_of_getElem? (i := 14) rfl)
theorem gw_20_15 : Cond.instanceMethod yX8_known ∈ wsL_law := mr_20 _ (List.mem_of_getElem? (i := 15) rfl)
theorem gw_20_16 : Cond.selects RX8 yX8_known yX8_known ∈ wsL_law := mr_20 _ (List.mem_of_getElem? (i := 16) rfl)
theorem gw_20_17 : Cond.code yX8_known cX8_known 3 (some .int) ∈ wsL_law := mr_20 _ (List.mem_of_getElem? (i := 17) rfl)
theorem gw_20_18 : Cond.methodLink RL 67 yX7_lead ∈ wsL_law := mr_20 _ (List.mem_of_getElem? (i := 18) rfl)
theorem gw_20_19 : Cond.instanceMethod yX7_lead ∈ wsL_law := mr_20 _ (List.mem_of_getElem? (i := 19) rfl)
theorem gw_20_20 : Cond.selects RX7 yX7_lead yX7_lead ∈ wsL_law := mr_20 _ (List.mem_of_getElem? (i := 20) rfl)
theorem gw_20_21 : Cond.code yX7_lead cX7_lead 3 (some .int) ∈ wsL_law := mr_20 _ (List.mem_of_getElem? (i := 21) rfl)
theorem gw_20_22 : Cond.methodLink RX7 145 yX1_leadOneStep ∈ wsL_law := mr_20 _ (List.mem_of_getElem? (i := 22) rfl)
theorem gw_20_23 : Cond.instanceMethod yX1_leadOneStep ∈ wsL_law := mr_20 _ (List.mem_of_getElem? (i := 23) rfl)
theorem gw_21_0 : Cond.selects RX1 yX1_leadOneStep yX1_leadOneStep ∈ wsL_law := mr_21 _ (List.mem_of_getElem? (i := 0) rfl)
theorem gw_21_1 : Cond.code yX1_leadOneStep cX1_leadOneStep 6 none ∈ wsL_law := mr_21 _ (List.mem_of_getElem? (i := 1) rfl)
theorem gw_21_2 : Cond.constantLong RX1 52 (1000) ∈ wsL_law := mr_21 _ (List.mem_of_getElem? (i := 2) rfl)
theorem gw_21_3 : Cond.methodLink RX1 46 yX3_likelyOfAll ∈ wsL_law := mr_21 _ (List.mem_of_getElem? (i := 3) rfl)
theorem gw_21_4 : Cond.instanceMethod yX3_likelyOfAll ∈ wsL_law := mr_21 _ (List.mem_of_getElem? (i := 4) rfl)
theorem gw_21_5 : Cond.selects RX3 yX3_likelyOfAll yX3_likelyOfAll ∈ wsL_law := mr_21 _ (List.mem_of_getElem? (i := 5) rfl)
theorem gw_21_6 : Cond.code yX3_likelyOfAll cX3_likelyOfAll 4 (some .int) ∈ wsL_law := mr_21 _ (List.mem_of_getElem? (i := 6) rfl)
theorem gw_21_7 : Cond.methodLink RX1 54 yX1_spread ∈ wsL_law := mr_21 _ (List.mem_of_getElem? (i := 7) rfl)
theorem gw_21_8 : Cond.instanceMethod yX1_spread ∈ wsL_law := mr_21 _ (List.mem_of_getElem? (i := 8) rfl)
theorem gw_21_9 : Cond.selects RX1 yX1_spread yX1_spread ∈ wsL_law := mr_21 _ (List.mem_of_getElem? (i := 9) rfl)
theorem gw_21_10 : Cond.code yX1_spread cX1_spread 8 none ∈ wsL_law := mr_21 _ (List.mem_of_getElem? (i := 10) rfl)
theorem gw_21_11 : Cond.methodLink RX1 58 yX3_targetOf ∈ wsL_law := mr_21 _ (List.mem_of_getElem? (i := 11) rfl)
theorem gw_21_12 : Cond.methodLink RX1 62 yX3_hasCell ∈ wsL_law := mr_21 _ (List.mem_of_getElem? (i := 12) rfl)
theorem gw_21_13 : Cond.methodLink RX1 66 yX3_likelyTo ∈ wsL_law := mr_21 _ (List.mem_of_getElem? (i := 13) rfl)
theorem gw_21_14 : Cond.methodLink RX7 149 yX1_cellsWithShare ∈ wsL_law := mr_21 _ (List.mem_of_getElem? (i := 14) rfl)
theorem gw_21_15 : Cond.instanceMethod yX1_cellsWithShare ∈ wsL_law := mr_21 _ (List.mem_of_getElem? (i := 15) rfl)
theorem gw_21_16 : Cond.selects RX1 yX1_cellsWithShare yX1_cellsWithShare ∈ wsL_law := mr_21 _ (List.mem_of_getElem? (i := 16) rfl)
theorem gw_21_17 : Cond.code yX1_cellsWithShare cX1_cellsWithShare 3 (some .int) ∈ wsL_law := mr_21 _ (List.mem_of_getElem? (i := 17) rfl)
theorem gw_21_18 : Cond.methodLink RL 70 yX8_lead ∈ wsL_law := mr_21 _ (List.mem_of_getElem? (i := 18) rfl)
theorem gw_21_19 : Cond.instanceMethod yX8_lead ∈ wsL_law := mr_21 _ (List.mem_of_getElem? (i := 19) rfl)
theorem gw_21_20 : Cond.selects RX8 yX8_lead yX8_lead ∈ wsL_law := mr_21 _ (List.mem_of_getElem? (i := 20) rfl)
theorem gw_21_21 : Cond.code yX8_lead cX8_lead 7 (some .int) ∈ wsL_law := mr_21 _ (List.mem_of_getElem? (i := 21) rfl)
theorem gw_21_22 : Cond.constantLong RX8 169 (1000) ∈ wsL_law := mr_21 _ (List.mem_of_getElem? (i := 22) rfl)
theorem gw_21_23 : Cond.methodLink RX8 171 yX8_withShare ∈ wsL_law := mr_21 _ (List.mem_of_getElem? (i := 23) rfl)
theorem gw_22_0 : Cond.instanceMethod yX8_withShare ∈ wsL_law := mr_22 _ (List.mem_of_getElem? (i := 0) rfl)
theorem gw_22_1 : Cond.selects RX8 yX8_withShare yX8_withShare ∈ wsL_law := mr_22 _ (List.mem_of_getElem? (i := 1) rfl)
theorem gw_22_2 : Cond.code yX8_withShare cX8_withShare 3 (some .int) ∈ wsL_law := mr_22 _ (List.mem_of_getElem? (i := 2) rfl)
theorem gw_22_3 : Cond.methodLink RL 71 yX7_hear ∈ wsL_law := mr_22 _ (List.mem_of_getElem? (i := 3) rfl)
theorem gw_22_4 : Cond.instanceMethod yX7_hear ∈ wsL_law := mr_22 _ (List.mem_of_getElem? (i := 4) rfl)
theorem gw_22_5 : Cond.selects RX7 yX7_hear yX7_hear ∈ wsL_law := mr_22 _ (List.mem_of_getElem? (i := 5) rfl)
theorem gw_22_6 : Cond.code yX7_hear cX7_hear 5 (some .int) ∈ wsL_law := mr_22 _ (List.mem_of_getElem? (i := 6) rfl)
theorem gw_22_7 : Cond.methodLink RX7 152 yX1_hearRow ∈ wsL_law := mr_22 _ (List.mem_of_getElem? (i := 7) rfl)
theorem gw_22_8 : Cond.instanceMethod yX1_hearRow ∈ wsL_law := mr_22 _ (List.mem_of_getElem? (i := 8) rfl)
theorem gw_22_9 : Cond.selects RX1 yX1_hearRow yX1_hearRow ∈ wsL_law := mr_22 _ (List.mem_of_getElem? (i := 9) rfl)
theorem gw_22_10 : Cond.code yX1_hearRow cX1_hearRow 7 (some .boolean) ∈ wsL_law := mr_22 _ (List.mem_of_getElem? (i := 10) rfl)
theorem gw_22_11 : Cond.methodLink RX1 69 yX5_heardBy ∈ wsL_law := mr_22 _ (List.mem_of_getElem? (i := 11) rfl)
theorem gw_22_12 : Cond.methodLink RX1 75 yX4_isDead ∈ wsL_law := mr_22 _ (List.mem_of_getElem? (i := 12) rfl)
theorem gw_22_13 : Cond.methodLink RX1 80 yX1_weighSender ∈ wsL_law := mr_22 _ (List.mem_of_getElem? (i := 13) rfl)
theorem gw_22_14 : Cond.instanceMethod yX1_weighSender ∈ wsL_law := mr_22 _ (List.mem_of_getElem? (i := 14) rfl)
theorem gw_22_15 : Cond.selects RX1 yX1_weighSender yX1_weighSender ∈ wsL_law := mr_22 _ (List.mem_of_getElem? (i := 15) rfl)
theorem gw_22_16 : Cond.code yX1_weighSender cX1_weighSender 6 none ∈ wsL_law := mr_22 _ (List.mem_of_getElem? (i := 16) rfl)
theorem gw_22_17 : Cond.methodLink RX1 84 yX4_greatestWeight ∈ wsL_law := mr_22 _ (List.mem_of_getElem? (i := 17) rfl)
theorem gw_22_18 : Cond.instanceMethod yX4_greatestWeight ∈ wsL_law := mr_22 _ (List.mem_of_getElem? (i := 18) rfl)
theorem gw_22_19 : Cond.selects RX4 yX4_greatestWeight yX4_greatestWeight ∈ wsL_law := mr_22 _ (List.mem_of_getElem? (i := 19) rfl)
theorem gw_22_20 : Cond.code yX4_greatestWeight cX4_greatestWeight 6 (some .int) ∈ wsL_law := mr_22 _ (List.mem_of_getElem? (i := 20) rfl)
theorem gw_22_21 : Cond.methodLink RX4 32 Lib.Math.max.name ∈ wsL_law := mr_22 _ (List.mem_of_getElem? (i := 21) rfl)
theorem gw_22_22 : Cond.methodLink RX1 87 yX4_weightOf ∈ wsL_law := mr_22 _ (List.mem_of_getElem? (i := 22) rfl)
theorem gw_22_23 : Cond.methodLink RL 74 yX8_hear ∈ wsL_law := mr_22 _ (List.mem_of_getElem? (i := 23) rfl)
theorem gw_23_0 : Cond.instanceMethod yX8_hear ∈ wsL_law := mr_23 _ (List.mem_of_getElem? (i := 0) rfl)
theorem gw_23_1 : Cond.selects RX8 yX8_hear yX8_hear ∈ wsL_law := mr_23 _ (List.mem_of_getElem? (i := 1) rfl)
theorem gw_23_2 : Cond.code yX8_hear cX8_hear 9 (some .int) ∈ wsL_law := mr_23 _ (List.mem_of_getElem? (i := 2) rfl)
theorem gw_23_3 : Cond.methodLink RL 75 yX7_share ∈ wsL_law := mr_23 _ (List.mem_of_getElem? (i := 3) rfl)
theorem gw_23_4 : Cond.instanceMethod yX7_share ∈ wsL_law := mr_23 _ (List.mem_of_getElem? (i := 4) rfl)
theorem gw_23_5 : Cond.selects RX7 yX7_share yX7_share ∈ wsL_law := mr_23 _ (List.mem_of_getElem? (i := 5) rfl)
theorem gw_23_6 : Cond.code yX7_share cX7_share 2 (some .int) ∈ wsL_law := mr_23 _ (List.mem_of_getElem? (i := 6) rfl)
theorem gw_23_7 : Cond.methodLink RL 78 yX8_share ∈ wsL_law := mr_23 _ (List.mem_of_getElem? (i := 7) rfl)
theorem gw_23_8 : Cond.instanceMethod yX8_share ∈ wsL_law := mr_23 _ (List.mem_of_getElem? (i := 8) rfl)
theorem gw_23_9 : Cond.selects RX8 yX8_share yX8_share ∈ wsL_law := mr_23 _ (List.mem_of_getElem? (i := 9) rfl)
theorem gw_23_10 : Cond.code yX8_share cX8_share 2 (some .int) ∈ wsL_law := mr_23 _ (List.mem_of_getElem? (i := 10) rfl)
theorem gw_23_11 : Cond.methodLink RL 79 yX7_likeliest ∈ wsL_law := mr_23 _ (List.mem_of_getElem? (i := 11) rfl)
theorem gw_23_12 : Cond.instanceMethod yX7_likeliest ∈ wsL_law := mr_23 _ (List.mem_of_getElem? (i := 12) rfl)
theorem gw_23_13 : Cond.selects RX7 yX7_likeliest yX7_likeliest ∈ wsL_law := mr_23 _ (List.mem_of_getElem? (i := 13) rfl)
theorem gw_23_14 : Cond.code yX7_likeliest cX7_likeliest 1 (some .int) ∈ wsL_law := mr_23 _ (List.mem_of_getElem? (i := 14) rfl)
theorem gw_23_15 : Cond.methodLink RX7 156 yX1_greatestCell ∈ wsL_law := mr_23 _ (List.mem_of_getElem? (i := 15) rfl)
theorem gw_23_16 : Cond.instanceMethod yX1_greatestCell ∈ wsL_law := mr_23 _ (List.mem_of_getElem? (i := 16) rfl)
theorem gw_23_17 : Cond.selects RX1 yX1_greatestCell yX1_greatestCell ∈ wsL_law := mr_23 _ (List.mem_of_getElem? (i := 17) rfl)
theorem gw_23_18 : Cond.code yX1_greatestCell cX1_greatestCell 3 (some .int) ∈ wsL_law := mr_23 _ (List.mem_of_getElem? (i := 18) rfl)
theorem gw_23_19 : Cond.methodLink RL 82 yX8_likeliest ∈ wsL_law := mr_23 _ (List.mem_of_getElem? (i := 19) rfl)
theorem gw_23_20 : Cond.instanceMethod yX8_likeliest ∈ wsL_law := mr_23 _ (List.mem_of_getElem? (i := 20) rfl)
theorem gw_23_21 : Cond.selects RX8 yX8_likeliest yX8_likeliest ∈ wsL_law := mr_23 _ (List.mem_of_getElem? (i := 21) rfl)
theorem gw_23_22 : Cond.code yX8_likeliest cX8_likeliest 3 (some .int) ∈ wsL_law := mr_23 _ (List.mem_of_getElem? (i := 22) rfl)
theorem gw_23_23 : Cond.methodLink RL 83 yX7_within ∈ wsL_law := mr_23 _ (List.mem_of_getElem? (i := 23) rfl)
theorem gw_24_0 : Cond.instanceMethod yX7_within ∈ wsL_law := mr_24 _ (List.mem_of_getElem? (i := 0) rfl)
theorem gw_24_1 : Cond.selects RX7 yX7_within yX7_within ∈ wsL_law := mr_24 _ (List.mem_of_getElem? (i := 1) rfl)
theorem gw_24_2 : Cond.code yX7_within cX7_within 9 (some .int) ∈ wsL_law := mr_24 _ (List.mem_of_getElem? (i := 2) rfl)
theorem gw_24_3 : Cond.methodLink RX7 159 yX3_hasArea ∈ wsL_law := mr_24 _ (List.mem_of_getElem? (i := 3) rfl)
theorem gw_24_4 : Cond.instanceMethod yX3_hasArea ∈ wsL_law := mr_24 _ (List.mem_of_getElem? (i := 4) rfl)
theorem gw_24_5 : Cond.selects RX3 yX3_hasArea yX3_hasArea ∈ wsL_law := mr_24 _ (List.mem_of_getElem? (i := 5) rfl)
theorem gw_24_6 : Cond.code yX3_hasArea cX3_hasArea 6 (some .boolean) ∈ wsL_law := mr_24 _ (List.mem_of_getElem? (i := 6) rfl)
theorem gw_24_7 : Cond.methodLink RX3 57 yX3_hasPlace ∈ wsL_law := mr_24 _ (List.mem_of_getElem? (i := 7) rfl)
theorem gw_24_8 : Cond.methodLink RX7 163 yX3_cellAt ∈ wsL_law := mr_24 _ (List.mem_of_getElem? (i := 8) rfl)
theorem gw_24_9 : Cond.instanceMethod yX3_cellAt ∈ wsL_law := mr_24 _ (List.mem_of_getElem? (i := 9) rfl)
theorem gw_24_10 : Cond.selects RX3 yX3_cellAt yX3_cellAt ∈ wsL_law := mr_24 _ (List.mem_of_getElem? (i := 10) rfl)
theorem gw_24_11 : Cond.code yX3_cellAt cX3_cellAt 4 (some .int) ∈ wsL_law := mr_24 _ (List.mem_of_getElem? (i := 11) rfl)
theorem gw_24_12 : Cond.methodLink RL 87 yX8_within ∈ wsL_law := mr_24 _ (List.mem_of_getElem? (i := 12) rfl)
theorem gw_24_13 : Cond.instanceMethod yX8_within ∈ wsL_law := mr_24 _ (List.mem_of_getElem? (i := 13) rfl)
theorem gw_24_14 : Cond.selects RX8 yX8_within yX8_within ∈ wsL_law := mr_24 _ (List.mem_of_getElem? (i := 14) rfl)
theorem gw_24_15 : Cond.code yX8_within cX8_within 8 (some .int) ∈ wsL_law := mr_24 _ (List.mem_of_getElem? (i := 15) rfl)
theorem gw_24_16 : Cond.methodLink RX8 174 yX8_isArea ∈ wsL_law := mr_24 _ (List.mem_of_getElem? (i := 16) rfl)
theorem gw_24_17 : Cond.instanceMethod yX8_isArea ∈ wsL_law := mr_24 _ (List.mem_of_getElem? (i := 17) rfl)
theorem gw_24_18 : Cond.selects RX8 yX8_isArea yX8_isArea ∈ wsL_law := mr_24 _ (List.mem_of_getElem? (i := 18) rfl)
theorem gw_24_19 : Cond.code yX8_isArea cX8_isArea 6 (some .boolean) ∈ wsL_law := mr_24 _ (List.mem_of_getElem? (i := 19) rfl)
theorem gw_24_20 : Cond.methodLink RX8 178 yX8_isWithin ∈ wsL_law := mr_24 _ (List.mem_of_getElem? (i := 20) rfl)
theorem gw_24_21 : Cond.instanceMethod yX8_isWithin ∈ wsL_law := mr_24 _ (List.mem_of_getElem? (i := 21) rfl)
theorem gw_24_22 : Cond.selects RX8 yX8_isWithin yX8_isWithin ∈ wsL_law := mr_24 _ (List.mem_of_getElem? (i := 22) rfl)
theorem gw_24_23 : Cond.code yX8_isWithin cX8_isWithin 7 (some .boolean) ∈ wsL_law := mr_24 _ (List.mem_of_getElem? (i := 23) rfl)
theorem gw_25_0 : Cond.methodLink RL 88 yX7_sure ∈ wsL_law := mr_25 _ (List.mem_of_getElem? (i := 0) rfl)
theorem gw_25_1 : Cond.instanceMethod yX7_sure ∈ wsL_law := mr_25 _ (List.mem_of_getElem? (i := 1) rfl)
theorem gw_25_2 : Cond.selects RX7 yX7_sure yX7_sure ∈ wsL_law := mr_25 _ (List.mem_of_getElem? (i := 2) rfl)
theorem gw_25_3 : Cond.code yX7_sure cX7_sure 2 (some .int) ∈ wsL_law := mr_25 _ (List.mem_of_getElem? (i := 3) rfl)
theorem gw_25_4 : Cond.constant RX7 166 (1000000) ∈ wsL_law := mr_25 _ (List.mem_of_getElem? (i := 4) rfl)
theorem gw_25_5 : Cond.methodLink RX7 167 yX1_fewestCellsWith ∈ wsL_law := mr_25 _ (List.mem_of_getElem? (i := 5) rfl)
theorem gw_25_6 : Cond.instanceMethod yX1_fewestCellsWith ∈ wsL_law := mr_25 _ (List.mem_of_getElem? (i := 6) rfl)
theorem gw_25_7 : Cond.selects RX1 yX1_fewestCellsWith yX1_fewestCellsWith ∈ wsL_law := mr_25 _ (List.mem_of_getElem? (i := 7) rfl)
theorem gw_25_8 : Cond.code yX1_fewestCellsWith cX1_fewestCellsWith 7 (some .int) ∈ wsL_law := mr_25 _ (List.mem_of_getElem? (i := 8) rfl)
theorem gw_25_9 : Cond.methodLink RL 91 yX8_sure ∈ wsL_law := mr_25 _ (List.mem_of_getElem? (i := 9) rfl)
theorem gw_25_10 : Cond.instanceMethod yX8_sure ∈ wsL_law := mr_25 _ (List.mem_of_getElem? (i := 10) rfl)
theorem gw_25_11 : Cond.selects RX8 yX8_sure yX8_sure ∈ wsL_law := mr_25 _ (List.mem_of_getElem? (i := 11) rfl)
theorem gw_25_12 : Cond.code yX8_sure cX8_sure 4 (some .int) ∈ wsL_law := mr_25 _ (List.mem_of_getElem? (i := 12) rfl)
theorem gw_25_13 : Cond.methodLink RL 92 yX7_best ∈ wsL_law := mr_25 _ (List.mem_of_getElem? (i := 13) rfl)
theorem gw_25_14 : Cond.instanceMethod yX7_best ∈ wsL_law := mr_25 _ (List.mem_of_getElem? (i := 14) rfl)
theorem gw_25_15 : Cond.selects RX7 yX7_best yX7_best ∈ wsL_law := mr_25 _ (List.mem_of_getElem? (i := 15) rfl)
theorem gw_25_16 : Cond.code yX7_best cX7_best 3 (some .int) ∈ wsL_law := mr_25 _ (List.mem_of_getElem? (i := 16) rfl)
theorem gw_25_17 : Cond.methodLink RX7 170 yX7_bestScore ∈ wsL_law := mr_25 _ (List.mem_of_getElem? (i := 17) rfl)
theorem gw_25_18 : Cond.instanceMethod yX7_bestScore ∈ wsL_law := mr_25 _ (List.mem_of_getElem? (i := 18) rfl)
theorem gw_25_19 : Cond.selects RX7 yX7_bestScore yX7_bestScore ∈ wsL_law := mr_25 _ (List.mem_of_getElem? (i := 19) rfl)
theorem gw_25_20 : Cond.code yX7_bestScore cX7_bestScore 3 (some .int) ∈ wsL_law := mr_25 _ (List.mem_of_getElem? (i := 20) rfl)
theorem gw_25_21 : Cond.methodLink RX7 290 yX6_findWay ∈ wsL_law := mr_25 _ (List.mem_of_getElem? (i := 21) rfl)
theorem gw_25_22 : Cond.instanceMethod yX6_findWay ∈ wsL_law := mr_25 _ (List.mem_of_getElem? (i := 22) rfl)
theorem gw_25_23 : Cond.selects RX6 yX6_findWay yX6_findWay ∈ wsL_law := mr_25 _ (List.mem_of_getElem? (i := 23) rfl)
theorem gw_26_0 : Cond.code yX6_findWay cX6_findWay 11 (some .int) ∈ wsL_law := mr_26 _ (List.mem_of_getElem? (i := 0) rfl)
theorem gw_26_1 : Cond.methodLink RX6 24 Lib.Math.min.name ∈ wsL_law := mr_26 _ (List.mem_of_getElem? (i := 1) rfl)
theorem gw_26_2 : Cond.methodLink RX6 18 yX5_rows ∈ wsL_law := mr_26 _ (List.mem_of_getElem? (i := 2) rfl)
theorem gw_26_3 : Cond.methodLink RX6 30 yX3_cells ∈ wsL_law := mr_26 _ (List.mem_of_getElem? (i := 3) rfl)
theorem gw_26_4 : Cond.methodLink RX6 35 yX6_bestDirection ∈ wsL_law := mr_26 _ (List.mem_of_getElem? (i := 4) rfl)
theorem gw_26_5 : Cond.instanceMethod yX6_bestDirection ∈ wsL_law := mr_26 _ (List.mem_of_getElem? (i := 5) rfl)
theorem gw_26_6 : Cond.selects RX6 yX6_bestDirection yX6_bestDirection ∈ wsL_law := mr_26 _ (List.mem_of_getElem? (i := 6) rfl)
theorem gw_26_7 : Cond.code yX6_bestDirection cX6_bestDirection 8 (some .int) ∈ wsL_law := mr_26 _ (List.mem_of_getElem? (i := 7) rfl)
theorem gw_26_8 : Cond.methodLink RX6 39 yX6_scoreAfter ∈ wsL_law := mr_26 _ (List.mem_of_getElem? (i := 8) rfl)
theorem gw_26_9 : Cond.instanceMethod yX6_scoreAfter ∈ wsL_law := mr_26 _ (List.mem_of_getElem? (i := 9) rfl)
theorem gw_26_10 : Cond.selects RX6 yX6_scoreAfter yX6_scoreAfter ∈ wsL_law := mr_26 _ (List.mem_of_getElem? (i := 10) rfl)
theorem gw_26_11 : Cond.code yX6_scoreAfter cX6_scoreAfter 7 (some .int) ∈ wsL_law := mr_26 _ (List.mem_of_getElem? (i := 11) rfl)
theorem gw_26_12 : Cond.methodLink RX6 57 yX3_targetOf ∈ wsL_law := mr_26 _ (List.mem_of_getElem? (i := 12) rfl)
theorem gw_26_13 : Cond.methodLink RX6 60 yX3_hasCell ∈ wsL_law := mr_26 _ (List.mem_of_getElem? (i := 13) rfl)
theorem gw_26_14 : Cond.methodLink RX6 64 yX3_likelyTo ∈ wsL_law := mr_26 _ (List.mem_of_getElem? (i := 14) rfl)
theorem gw_26_15 : Cond.methodLink RX6 43 yX4_rowWeight ∈ wsL_law := mr_26 _ (List.mem_of_getElem? (i := 15) rfl)
theorem gw_26_16 : Cond.methodLink RX6 49 yX6_bestFirst ∈ wsL_law := mr_26 _ (List.mem_of_getElem? (i := 16) rfl)
theorem gw_26_17 : Cond.instanceMethod yX6_bestFirst ∈ wsL_law := mr_26 _ (List.mem_of_getElem? (i := 17) rfl)
theorem gw_26_18 : Cond.selects RX6 yX6_bestFirst yX6_bestFirst ∈ wsL_law := mr_26 _ (List.mem_of_getElem? (i := 18) rfl)
theorem gw_26_19 : Cond.code yX6_bestFirst cX6_bestFirst 4 (some .int) ∈ wsL_law := mr_26 _ (List.mem_of_getElem? (i := 19) rfl)
theorem gw_26_20 : Cond.methodLink RX6 53 yX6_trace ∈ wsL_law := mr_26 _ (List.mem_of_getElem? (i := 20) rfl)
theorem gw_26_21 : Cond.instanceMethod yX6_trace ∈ wsL_law := mr_26 _ (List.mem_of_getElem? (i := 21) rfl)
theorem gw_26_22 : Cond.selects RX6 yX6_trace yX6_trace ∈ wsL_law := mr_26 _ (List.mem_of_getElem? (i := 22) rfl)
theorem gw_26_23 : Cond.code yX6_trace cX6_trace 6 none ∈ wsL_law := mr_26 _ (List.mem_of_getElem? (i := 23) rfl)
theorem gw_27_0 : Cond.methodLink RX7 177 yX7_tellWay ∈ wsL_law := mr_27 _ (List.mem_of_getElem? (i := 0) rfl)
theorem gw_27_1 : Cond.instanceMethod yX7_tellWay ∈ wsL_law := mr_27 _ (List.mem_of_getElem? (i := 1) rfl)
theorem gw_27_2 : Cond.selects RX7 yX7_tellWay yX7_tellWay ∈ wsL_law := mr_27 _ (List.mem_of_getElem? (i := 2) rfl)
theorem gw_27_3 : Cond.code yX7_tellWay cX7_tellWay 2 none ∈ wsL_law := mr_27 _ (List.mem_of_getElem? (i := 3) rfl)
theorem gw_27_4 : Cond.fieldLink RX7 294 "InsidePlaces$WayFinder" "way" "[I" ∈ wsL_law := mr_27 _ (List.mem_of_getElem? (i := 4) rfl)
theorem gw_27_5 : Cond.methodLink RX7 232 arraycopyName ∈ wsL_law := mr_27 _ (List.mem_of_getElem? (i := 5) rfl)
theorem gw_27_6 : Cond.native arraycopyName ∈ wsL_law := mr_27 _ (List.mem_of_getElem? (i := 6) rfl)
theorem gw_27_7 : Cond.static arraycopyName ∈ wsL_law := mr_27 _ (List.mem_of_getElem? (i := 7) rfl)
theorem gw_27_8 : Cond.initialized "java/lang/System" ∈ wsL_law := mr_27 _ (List.mem_of_getElem? (i := 8) rfl)
theorem gw_27_9 : Cond.methodLink RL 95 yX8_best ∈ wsL_law := mr_27 _ (List.mem_of_getElem? (i := 9) rfl)
theorem gw_27_10 : Cond.instanceMethod yX8_best ∈ wsL_law := mr_27 _ (List.mem_of_getElem? (i := 10) rfl)
theorem gw_27_11 : Cond.selects RX8 yX8_best yX8_best ∈ wsL_law := mr_27 _ (List.mem_of_getElem? (i := 11) rfl)
theorem gw_27_12 : Cond.code yX8_best cX8_best 3 (some .int) ∈ wsL_law := mr_27 _ (List.mem_of_getElem? (i := 12) rfl)
theorem gw_27_13 : Cond.methodLink RX8 185 yX8_walks ∈ wsL_law := mr_27 _ (List.mem_of_getElem? (i := 13) rfl)
theorem gw_27_14 : Cond.instanceMethod yX8_walks ∈ wsL_law := mr_27 _ (List.mem_of_getElem? (i := 14) rfl)
theorem gw_27_15 : Cond.selects RX8 yX8_walks yX8_walks ∈ wsL_law := mr_27 _ (List.mem_of_getElem? (i := 15) rfl)
theorem gw_27_16 : Cond.code yX8_walks cX8_walks 9 (some .int) ∈ wsL_law := mr_27 _ (List.mem_of_getElem? (i := 16) rfl)
theorem gw_27_17 : Cond.methodLink RX8 188 yX8_tells ∈ wsL_law := mr_27 _ (List.mem_of_getElem? (i := 17) rfl)
theorem gw_27_18 : Cond.instanceMethod yX8_tells ∈ wsL_law := mr_27 _ (List.mem_of_getElem? (i := 18) rfl)
theorem gw_27_19 : Cond.selects RX8 yX8_tells yX8_tells ∈ wsL_law := mr_27 _ (List.mem_of_getElem? (i := 19) rfl)
theorem gw_27_20 : Cond.code yX8_tells cX8_tells 3 none ∈ wsL_law := mr_27 _ (List.mem_of_getElem? (i := 20) rfl)
theorem gw_27_21 : Cond.fieldLink RX8 182 "InsidePlacesModel" "told" "I" ∈ wsL_law := mr_27 _ (List.mem_of_getElem? (i := 21) rfl)
theorem gw_27_22 : Cond.methodLink RL 96 yX7_way ∈ wsL_law := mr_27 _ (List.mem_of_getElem? (i := 22) rfl)
theorem gw_27_23 : Cond.instanceMethod yX7_way ∈ wsL_law := mr_27 _ (List.mem_of_getElem? (i := 23) rfl)
theorem gw_28_0 : Cond.selects RX7 yX7_way yX7_way ∈ wsL_law := mr_28 _ (List.mem_of_getElem? (i := 0) rfl)
theorem gw_28_1 : Cond.code yX7_way cX7_way 2 (some .int) ∈ wsL_law := mr_28 _ (List.mem_of_getElem? (i := 1) rfl)
theorem gw_28_2 : Cond.methodLink RL 99 yX8_way ∈ wsL_law := mr_28 _ (List.mem_of_getElem? (i := 2) rfl)
theorem gw_28_3 : Cond.instanceMethod yX8_way ∈ wsL_law := mr_28 _ (List.mem_of_getElem? (i := 3) rfl)
theorem gw_28_4 : Cond.selects RX8 yX8_way yX8_way ∈ wsL_law := mr_28 _ (List.mem_of_getElem? (i := 4) rfl)
theorem gw_28_5 : Cond.code yX8_way cX8_way 2 (some .int) ∈ wsL_law := mr_28 _ (List.mem_of_getElem? (i := 5) rfl)
theorem gw_28_6 : Cond.methodLink RL 100 yX7_learn ∈ wsL_law := mr_28 _ (List.mem_of_getElem? (i := 6) rfl)
theorem gw_28_7 : Cond.instanceMethod yX7_learn ∈ wsL_law := mr_28 _ (List.mem_of_getElem? (i := 7) rfl)
theorem gw_28_8 : Cond.selects RX7 yX7_learn yX7_learn ∈ wsL_law := mr_28 _ (List.mem_of_getElem? (i := 8) rfl)
theorem gw_28_9 : Cond.code yX7_learn cX7_learn 5 (some .int) ∈ wsL_law := mr_28 _ (List.mem_of_getElem? (i := 9) rfl)
theorem gw_28_10 : Cond.methodLink RL 103 yX8_learn ∈ wsL_law := mr_28 _ (List.mem_of_getElem? (i := 10) rfl)
theorem gw_28_11 : Cond.instanceMethod yX8_learn ∈ wsL_law := mr_28 _ (List.mem_of_getElem? (i := 11) rfl)
theorem gw_28_12 : Cond.selects RX8 yX8_learn yX8_learn ∈ wsL_law := mr_28 _ (List.mem_of_getElem? (i := 12) rfl)
theorem gw_28_13 : Cond.code yX8_learn cX8_learn 4 (some .int) ∈ wsL_law := mr_28 _ (List.mem_of_getElem? (i := 13) rfl)
theorem gw_28_14 : Cond.methodLink RL 104 yX7_moved ∈ wsL_law := mr_28 _ (List.mem_of_getElem? (i := 14) rfl)
theorem gw_28_15 : Cond.instanceMethod yX7_moved ∈ wsL_law := mr_28 _ (List.mem_of_getElem? (i := 15) rfl)
theorem gw_28_16 : Cond.selects RX7 yX7_moved yX7_moved ∈ wsL_law := mr_28 _ (List.mem_of_getElem? (i := 16) rfl)
theorem gw_28_17 : Cond.code yX7_moved cX7_moved 6 (some .int) ∈ wsL_law := mr_28 _ (List.mem_of_getElem? (i := 17) rfl)
theorem gw_28_18 : Cond.methodLink RX7 180 yX4_isDead ∈ wsL_law := mr_28 _ (List.mem_of_getElem? (i := 18) rfl)
theorem gw_28_19 : Cond.methodLink RX7 183 yX7_isMoved ∈ wsL_law := mr_28 _ (List.mem_of_getElem? (i := 19) rfl)
theorem gw_28_20 : Cond.instanceMethod yX7_isMoved ∈ wsL_law := mr_28 _ (List.mem_of_getElem? (i := 20) rfl)
theorem gw_28_21 : Cond.selects RX7 yX7_isMoved yX7_isMoved ∈ wsL_law := mr_28 _ (List.mem_of_getElem? (i := 21) rfl)
theorem gw_28_22 : Cond.code yX7_isMoved cX7_isMoved 7 (some .boolean) ∈ wsL_law := mr_28 _ (List.mem_of_getElem? (i := 22) rfl)
theorem gw_28_23 : Cond.methodLink RX7 297 yX5_heardOf ∈ wsL_law := mr_28 _ (List.mem_of_getElem? (i := 23) rfl)
theorem gw_29_0 : Cond.methodLink RL 107 yX8_moved ∈ wsL_law := mr_29 _ (List.mem_of_getElem? (i := 0) rfl)
theorem gw_29_1 : Cond.instanceMethod yX8_moved ∈ wsL_law := mr_29 _ (List.mem_of_getElem? (i := 1) rfl)
theorem gw_29_2 : Cond.selects RX8 yX8_moved yX8_moved ∈ wsL_law := mr_29 _ (List.mem_of_getElem? (i := 2) rfl)
theorem gw_29_3 : Cond.code yX8_moved cX8_moved 9 (some .int) ∈ wsL_law := mr_29 _ (List.mem_of_getElem? (i := 3) rfl)
theorem gw_29_4 : Cond.methodLink RL 108 yX7_put ∈ wsL_law := mr_29 _ (List.mem_of_getElem? (i := 4) rfl)
theorem gw_29_5 : Cond.instanceMethod yX7_put ∈ wsL_law := mr_29 _ (List.mem_of_getElem? (i := 5) rfl)
theorem gw_29_6 : Cond.selects RX7 yX7_put yX7_put ∈ wsL_law := mr_29 _ (List.mem_of_getElem? (i := 6) rfl)
theorem gw_29_7 : Cond.code yX7_put cX7_put 3 (some .int) ∈ wsL_law := mr_29 _ (List.mem_of_getElem? (i := 7) rfl)
theorem gw_29_8 : Cond.methodLink RX7 187 yX2_move ∈ wsL_law := mr_29 _ (List.mem_of_getElem? (i := 8) rfl)
theorem gw_29_9 : Cond.instanceMethod yX2_move ∈ wsL_law := mr_29 _ (List.mem_of_getElem? (i := 9) rfl)
theorem gw_29_10 : Cond.selects RX2 yX2_move yX2_move ∈ wsL_law := mr_29 _ (List.mem_of_getElem? (i := 10) rfl)
theorem gw_29_11 : Cond.code yX2_move cX2_move 4 (some .int) ∈ wsL_law := mr_29 _ (List.mem_of_getElem? (i := 11) rfl)
theorem gw_29_12 : Cond.methodLink RL 111 yX8_put ∈ wsL_law := mr_29 _ (List.mem_of_getElem? (i := 12) rfl)
theorem gw_29_13 : Cond.instanceMethod yX8_put ∈ wsL_law := mr_29 _ (List.mem_of_getElem? (i := 13) rfl)
theorem gw_29_14 : Cond.selects RX8 yX8_put yX8_put ∈ wsL_law := mr_29 _ (List.mem_of_getElem? (i := 14) rfl)
theorem gw_29_15 : Cond.code yX8_put cX8_put 4 (some .int) ∈ wsL_law := mr_29 _ (List.mem_of_getElem? (i := 15) rfl)
theorem gw_29_16 : Cond.methodLink RL 112 yX7_least ∈ wsL_law := mr_29 _ (List.mem_of_getElem? (i := 16) rfl)
theorem gw_29_17 : Cond.instanceMethod yX7_least ∈ wsL_law := mr_29 _ (List.mem_of_getElem? (i := 17) rfl)
theorem gw_29_18 : Cond.selects RX7 yX7_least yX7_least ∈ wsL_law := mr_29 _ (List.mem_of_getElem? (i := 18) rfl)
theorem gw_29_19 : Cond.code yX7_least cX7_least 2 (some .int) ∈ wsL_law := mr_29 _ (List.mem_of_getElem? (i := 19) rfl)
theorem gw_29_20 : Cond.methodLink RX7 190 yX2_putLeast ∈ wsL_law := mr_29 _ (List.mem_of_getElem? (i := 20) rfl)
theorem gw_29_21 : Cond.instanceMethod yX2_putLeast ∈ wsL_law := mr_29 _ (List.mem_of_getElem? (i := 21) rfl)
theorem gw_29_22 : Cond.selects RX2 yX2_putLeast yX2_putLeast ∈ wsL_law := mr_29 _ (List.mem_of_getElem? (i := 22) rfl)
theorem gw_29_23 : Cond.code yX2_putLeast cX2_putLeast 3 (some .int) ∈ wsL_law := mr_29 _ (List.mem_of_getElem? (i := 23) rfl)
theorem gw_30_0 : Cond.methodLink RL 115 yX8_least ∈ wsL_law := mr_30 _ (List.mem_of_getElem? (i := 0) rfl)
theorem gw_30_1 : Cond.instanceMethod yX8_least ∈ wsL_law := mr_30 _ (List.mem_of_getElem? (i := 1) rfl)
theorem gw_30_2 : Cond.selects RX8 yX8_least yX8_least ∈ wsL_law := mr_30 _ (List.mem_of_getElem? (i := 2) rfl)
theorem gw_30_3 : Cond.code yX8_least cX8_least 3 (some .int) ∈ wsL_law := mr_30 _ (List.mem_of_getElem? (i := 3) rfl)
theorem gw_30_4 : Cond.methodLink RL 116 yX7_give ∈ wsL_law := mr_30 _ (List.mem_of_getElem? (i := 4) rfl)
theorem gw_30_5 : Cond.instanceMethod yX7_give ∈ wsL_law := mr_30 _ (List.mem_of_getElem? (i := 5) rfl)
theorem gw_30_6 : Cond.selects RX7 yX7_give yX7_give ∈ wsL_law := mr_30 _ (List.mem_of_getElem? (i := 6) rfl)
theorem gw_30_7 : Cond.code yX7_give cX7_give 6 (some .int) ∈ wsL_law := mr_30 _ (List.mem_of_getElem? (i := 7) rfl)
theorem gw_30_8 : Cond.classLink RX7 193 RX0 ∈ wsL_law := mr_30 _ (List.mem_of_getElem? (i := 8) rfl)
theorem gw_30_9 : Cond.instantiable RX0 5 ∈ wsL_law := mr_30 _ (List.mem_of_getElem? (i := 9) rfl)
theorem gw_30_10 : Cond.initialized RX0 ∈ wsL_law := mr_30 _ (List.mem_of_getElem? (i := 10) rfl)
theorem gw_30_11 : Cond.methodLink RX7 195 yX0_init ∈ wsL_law := mr_30 _ (List.mem_of_getElem? (i := 11) rfl)
theorem gw_30_12 : Cond.instanceMethod yX0_init ∈ wsL_law := mr_30 _ (List.mem_of_getElem? (i := 12) rfl)
theorem gw_30_13 : Cond.code yX0_init cX0_init 6 none ∈ wsL_law := mr_30 _ (List.mem_of_getElem? (i := 13) rfl)
theorem gw_30_14 : Cond.methodLink RX0 1 objectInit ∈ wsL_law := mr_30 _ (List.mem_of_getElem? (i := 14) rfl)
theorem gw_30_15 : Cond.fieldLink RX0 7 "InsidePlaces$Area" "floor" "I" ∈ wsL_law := mr_30 _ (List.mem_of_getElem? (i := 15) rfl)
theorem gw_30_16 : Cond.fieldLink RX0 13 "InsidePlaces$Area" "x0" "I" ∈ wsL_law := mr_30 _ (List.mem_of_getElem? (i := 16) rfl)
theorem gw_30_17 : Cond.fieldLink RX0 16 "InsidePlaces$Area" "x1" "I" ∈ wsL_law := mr_30 _ (List.mem_of_getElem? (i := 17) rfl)
theorem gw_30_18 : Cond.fieldLink RX0 19 "InsidePlaces$Area" "y0" "I" ∈ wsL_law := mr_30 _ (List.mem_of_getElem? (i := 18) rfl)
theorem gw_30_19 : Cond.fieldLink RX0 22 "InsidePlaces$Area" "y1" "I" ∈ wsL_law := mr_30 _ (List.mem_of_getElem? (i := 19) rfl)
theorem gw_30_20 : Cond.methodLink RX7 198 yX2_giveAway ∈ wsL_law := mr_30 _ (List.mem_of_getElem? (i := 20) rfl)
theorem gw_30_21 : Cond.instanceMethod yX2_giveAway ∈ wsL_law := mr_30 _ (List.mem_of_getElem? (i := 21) rfl)
theorem gw_30_22 : Cond.selects RX2 yX2_giveAway yX2_giveAway ∈ wsL_law := mr_30 _ (List.mem_of_getElem? (i := 22) rfl)
theorem gw_30_23 : Cond.code yX2_giveAway cX2_giveAway 4 (some .int) ∈ wsL_law := mr_30 _ (List.mem_of_getElem? (i := 23) rfl)
theorem gw_31_0 : Cond.methodLink RX2 34 yX2_numberIn ∈ wsL_law := mr_31 _ (List.mem_of_getElem? (i := 0) rfl)
theorem gw_31_1 : Cond.instanceMethod yX2_numberIn ∈ wsL_law := mr_31 _ (List.mem_of_getElem? (i := 1) rfl)
theorem gw_31_2 : Cond.selects RX2 yX2_numberIn yX2_numberIn ∈ wsL_law := mr_31 _ (List.mem_of_getElem? (i := 2) rfl)
theorem gw_31_3 : Cond.code yX2_numberIn cX2_numberIn 6 (some .int) ∈ wsL_law := mr_31 _ (List.mem_of_getElem? (i := 3) rfl)
theorem gw_31_4 : Cond.methodLink RX2 45 yX3_hasCell ∈ wsL_law := mr_31 _ (List.mem_of_getElem? (i := 4) rfl)
theorem gw_31_5 : Cond.methodLink RX2 51 yX3_floorOf ∈ wsL_law := mr_31 _ (List.mem_of_getElem? (i := 5) rfl)
theorem gw_31_6 : Cond.methodLink RX2 55 yX3_xOf ∈ wsL_law := mr_31 _ (List.mem_of_getElem? (i := 6) rfl)
theorem gw_31_7 : Cond.methodLink RX2 58 yX3_yOf ∈ wsL_law := mr_31 _ (List.mem_of_getElem? (i := 7) rfl)
theorem gw_31_8 : Cond.methodLink RX2 61 yX0_contains ∈ wsL_law := mr_31 _ (List.mem_of_getElem? (i := 8) rfl)
theorem gw_31_9 : Cond.instanceMethod yX0_contains ∈ wsL_law := mr_31 _ (List.mem_of_getElem? (i := 9) rfl)
theorem gw_31_10 : Cond.selects RX0 yX0_contains yX0_contains ∈ wsL_law := mr_31 _ (List.mem_of_getElem? (i := 10) rfl)
theorem gw_31_11 : Cond.code yX0_contains cX0_contains 4 (some .boolean) ∈ wsL_law := mr_31 _ (List.mem_of_getElem? (i := 11) rfl)
theorem gw_31_12 : Cond.methodLink RX2 38 yX2_isTooNear ∈ wsL_law := mr_31 _ (List.mem_of_getElem? (i := 12) rfl)
theorem gw_31_13 : Cond.instanceMethod yX2_isTooNear ∈ wsL_law := mr_31 _ (List.mem_of_getElem? (i := 13) rfl)
theorem gw_31_14 : Cond.selects RX2 yX2_isTooNear yX2_isTooNear ∈ wsL_law := mr_31 _ (List.mem_of_getElem? (i := 14) rfl)
theorem gw_31_15 : Cond.code yX2_isTooNear cX2_isTooNear 4 (some .boolean) ∈ wsL_law := mr_31 _ (List.mem_of_getElem? (i := 15) rfl)
theorem gw_31_16 : Cond.methodLink RX2 65 yX0_cellsApart ∈ wsL_law := mr_31 _ (List.mem_of_getElem? (i := 16) rfl)
theorem gw_31_17 : Cond.instanceMethod yX0_cellsApart ∈ wsL_law := mr_31 _ (List.mem_of_getElem? (i := 17) rfl)
theorem gw_31_18 : Cond.selects RX0 yX0_cellsApart yX0_cellsApart ∈ wsL_law := mr_31 _ (List.mem_of_getElem? (i := 18) rfl)
theorem gw_31_19 : Cond.code yX0_cellsApart cX0_cellsApart 2 (some .int) ∈ wsL_law := mr_31 _ (List.mem_of_getElem? (i := 19) rfl)
theorem gw_31_20 : Cond.methodLink RX0 25 yX0_extent ∈ wsL_law := mr_31 _ (List.mem_of_getElem? (i := 20) rfl)
theorem gw_31_21 : Cond.instanceMethod yX0_extent ∈ wsL_law := mr_31 _ (List.mem_of_getElem? (i := 21) rfl)
theorem gw_31_22 : Cond.selects RX0 yX0_extent yX0_extent ∈ wsL_law := mr_31 _ (List.mem_of_getElem? (i := 22) rfl)
theorem gw_31_23 : Cond.code yX0_extent cX0_extent 1 (some .int) ∈ wsL_law := mr_31 _ (List.mem_of_getElem? (i := 23) rfl)
theorem gw_32_0 : Cond.methodLink RX0 29 yX0_cellsInBoth ∈ wsL_law := mr_32 _ (List.mem_of_getElem? (i := 0) rfl)
theorem gw_32_1 : Cond.instanceMethod yX0_cellsInBoth ∈ wsL_law := mr_32 _ (List.mem_of_getElem? (i := 1) rfl)
theorem gw_32_2 : Cond.selects RX0 yX0_cellsInBoth yX0_cellsInBoth ∈ wsL_law := mr_32 _ (List.mem_of_getElem? (i := 2) rfl)
theorem gw_32_3 : Cond.code yX0_cellsInBoth cX0_cellsInBoth 4 (some .int) ∈ wsL_law := mr_32 _ (List.mem_of_getElem? (i := 3) rfl)
theorem gw_32_4 : Cond.methodLink RX0 33 Lib.Math.min.name ∈ wsL_law := mr_32 _ (List.mem_of_getElem? (i := 4) rfl)
theorem gw_32_5 : Cond.methodLink RX0 39 Lib.Math.max.name ∈ wsL_law := mr_32 _ (List.mem_of_getElem? (i := 5) rfl)
theorem gw_32_6 : Cond.methodLink RX2 42 yX2_wasGiven ∈ wsL_law := mr_32 _ (List.mem_of_getElem? (i := 6) rfl)
theorem gw_32_7 : Cond.instanceMethod yX2_wasGiven ∈ wsL_law := mr_32 _ (List.mem_of_getElem? (i := 7) rfl)
theorem gw_32_8 : Cond.selects RX2 yX2_wasGiven yX2_wasGiven ∈ wsL_law := mr_32 _ (List.mem_of_getElem? (i := 8) rfl)
theorem gw_32_9 : Cond.code yX2_wasGiven cX2_wasGiven 3 (some .boolean) ∈ wsL_law := mr_32 _ (List.mem_of_getElem? (i := 9) rfl)
theorem gw_32_10 : Cond.methodLink RL 119 yX8_give ∈ wsL_law := mr_32 _ (List.mem_of_getElem? (i := 10) rfl)
theorem gw_32_11 : Cond.instanceMethod yX8_give ∈ wsL_law := mr_32 _ (List.mem_of_getElem? (i := 11) rfl)
theorem gw_32_12 : Cond.selects RX8 yX8_give yX8_give ∈ wsL_law := mr_32 _ (List.mem_of_getElem? (i := 12) rfl)
theorem gw_32_13 : Cond.code yX8_give cX8_give 9 (some .int) ∈ wsL_law := mr_32 _ (List.mem_of_getElem? (i := 13) rfl)
theorem gw_32_14 : Cond.methodLink RX8 192 yX8_parts ∈ wsL_law := mr_32 _ (List.mem_of_getElem? (i := 14) rfl)
theorem gw_32_15 : Cond.instanceMethod yX8_parts ∈ wsL_law := mr_32 _ (List.mem_of_getElem? (i := 15) rfl)
theorem gw_32_16 : Cond.selects RX8 yX8_parts yX8_parts ∈ wsL_law := mr_32 _ (List.mem_of_getElem? (i := 16) rfl)
theorem gw_32_17 : Cond.code yX8_parts cX8_parts 11 (some .int) ∈ wsL_law := mr_32 _ (List.mem_of_getElem? (i := 17) rfl)
theorem gw_32_18 : Cond.methodLink RL 120 yX7_sheet ∈ wsL_law := mr_32 _ (List.mem_of_getElem? (i := 18) rfl)
theorem gw_32_19 : Cond.instanceMethod yX7_sheet ∈ wsL_law := mr_32 _ (List.mem_of_getElem? (i := 19) rfl)
theorem gw_32_20 : Cond.selects RX7 yX7_sheet yX7_sheet ∈ wsL_law := mr_32 _ (List.mem_of_getElem? (i := 20) rfl)
theorem gw_32_21 : Cond.code yX7_sheet cX7_sheet 4 (some .int) ∈ wsL_law := mr_32 _ (List.mem_of_getElem? (i := 21) rfl)
theorem gw_32_22 : Cond.methodLink RX7 202 yX7_isForm ∈ wsL_law := mr_32 _ (List.mem_of_getElem? (i := 22) rfl)
theorem gw_32_23 : Cond.static yX7_isForm ∈ wsL_law := mr_32 _ (List.mem_of_getElem? (i := 23) rfl)
theorem gw_33_0 : Cond.code yX7_isForm cX7_isForm 1 (some .boolean) ∈ wsL_law := mr_33 _ (List.mem_of_getElem? (i := 0) rfl)
theorem gw_33_1 : Cond.methodLink RX7 205 yX5_renew ∈ wsL_law := mr_33 _ (List.mem_of_getElem? (i := 1) rfl)
theorem gw_33_2 : Cond.instanceMethod yX5_renew ∈ wsL_law := mr_33 _ (List.mem_of_getElem? (i := 2) rfl)
theorem gw_33_3 : Cond.selects RX5 yX5_renew yX5_renew ∈ wsL_law := mr_33 _ (List.mem_of_getElem? (i := 3) rfl)
theorem gw_33_4 : Cond.code yX5_renew cX5_renew 3 none ∈ wsL_law := mr_33 _ (List.mem_of_getElem? (i := 4) rfl)
theorem gw_33_5 : Cond.methodLink RX5 26 yJ7_fill_53178 ∈ wsL_law := mr_33 _ (List.mem_of_getElem? (i := 5) rfl)
theorem gw_33_6 : Cond.methodLink RL 123 yX8_sheet ∈ wsL_law := mr_33 _ (List.mem_of_getElem? (i := 6) rfl)
theorem gw_33_7 : Cond.instanceMethod yX8_sheet ∈ wsL_law := mr_33 _ (List.mem_of_getElem? (i := 7) rfl)
theorem gw_33_8 : Cond.selects RX8 yX8_sheet yX8_sheet ∈ wsL_law := mr_33 _ (List.mem_of_getElem? (i := 8) rfl)
theorem gw_33_9 : Cond.code yX8_sheet cX8_sheet 5 (some .int) ∈ wsL_law := mr_33 _ (List.mem_of_getElem? (i := 9) rfl)
theorem gw_33_10 : Cond.methodLink RL 124 yX7_lose ∈ wsL_law := mr_33 _ (List.mem_of_getElem? (i := 10) rfl)
theorem gw_33_11 : Cond.instanceMethod yX7_lose ∈ wsL_law := mr_33 _ (List.mem_of_getElem? (i := 11) rfl)
theorem gw_33_12 : Cond.selects RX7 yX7_lose yX7_lose ∈ wsL_law := mr_33 _ (List.mem_of_getElem? (i := 12) rfl)
theorem gw_33_13 : Cond.code yX7_lose cX7_lose 2 (some .int) ∈ wsL_law := mr_33 _ (List.mem_of_getElem? (i := 13) rfl)
theorem gw_33_14 : Cond.methodLink RX7 213 yX5_drop ∈ wsL_law := mr_33 _ (List.mem_of_getElem? (i := 14) rfl)
theorem gw_33_15 : Cond.instanceMethod yX5_drop ∈ wsL_law := mr_33 _ (List.mem_of_getElem? (i := 15) rfl)
theorem gw_33_16 : Cond.selects RX5 yX5_drop yX5_drop ∈ wsL_law := mr_33 _ (List.mem_of_getElem? (i := 16) rfl)
theorem gw_33_17 : Cond.code yX5_drop cX5_drop 2 (some .int) ∈ wsL_law := mr_33 _ (List.mem_of_getElem? (i := 17) rfl)
theorem gw_33_18 : Cond.methodLink RL 127 yX8_lose ∈ wsL_law := mr_33 _ (List.mem_of_getElem? (i := 18) rfl)
theorem gw_33_19 : Cond.instanceMethod yX8_lose ∈ wsL_law := mr_33 _ (List.mem_of_getElem? (i := 19) rfl)
theorem gw_33_20 : Cond.selects RX8 yX8_lose yX8_lose ∈ wsL_law := mr_33 _ (List.mem_of_getElem? (i := 20) rfl)
theorem gw_33_21 : Cond.code yX8_lose cX8_lose 2 (some .int) ∈ wsL_law := mr_33 _ (List.mem_of_getElem? (i := 21) rfl)
theorem gw_33_22 : Cond.methodLink RL 128 yX7_lay ∈ wsL_law := mr_33 _ (List.mem_of_getElem? (i := 22) rfl)
theorem gw_33_23 : Cond.instanceMethod yX7_lay ∈ wsL_law := mr_33 _ (List.mem_of_getElem? (i := 23) rfl)
theorem gw_34_0 : Cond.selects RX7 yX7_lay yX7_lay ∈ wsL_law := mr_34 _ (List.mem_of_getElem? (i := 0) rfl)
theorem gw_34_1 : Cond.code yX7_lay cX7_lay 6 (some .int) ∈ wsL_law := mr_34 _ (List.mem_of_getElem? (i := 1) rfl)
theorem gw_34_2 : Cond.methodLink RX7 216 yX7_itemProblem ∈ wsL_law := mr_34 _ (List.mem_of_getElem? (i := 2) rfl)
theorem gw_34_3 : Cond.static yX7_itemProblem ∈ wsL_law := mr_34 _ (List.mem_of_getElem? (i := 3) rfl)
theorem gw_34_4 : Cond.code yX7_itemProblem cX7_itemProblem 3 (some .int) ∈ wsL_law := mr_34 _ (List.mem_of_getElem? (i := 4) rfl)
theorem gw_34_5 : Cond.fieldLink RX7 226 "InsidePlaces$Sheet" "form" "I" ∈ wsL_law := mr_34 _ (List.mem_of_getElem? (i := 5) rfl)
theorem gw_34_6 : Cond.fieldLink RX7 287 "InsidePlaces$Sheet" "size" "I" ∈ wsL_law := mr_34 _ (List.mem_of_getElem? (i := 6) rfl)
theorem gw_34_7 : Cond.methodLink RX7 219 yX5_store ∈ wsL_law := mr_34 _ (List.mem_of_getElem? (i := 7) rfl)
theorem gw_34_8 : Cond.instanceMethod yX5_store ∈ wsL_law := mr_34 _ (List.mem_of_getElem? (i := 8) rfl)
theorem gw_34_9 : Cond.selects RX5 yX5_store yX5_store ∈ wsL_law := mr_34 _ (List.mem_of_getElem? (i := 9) rfl)
theorem gw_34_10 : Cond.code yX5_store cX5_store 3 none ∈ wsL_law := mr_34 _ (List.mem_of_getElem? (i := 10) rfl)
theorem gw_34_11 : Cond.methodLink RL 132 yX8_lay ∈ wsL_law := mr_34 _ (List.mem_of_getElem? (i := 11) rfl)
theorem gw_34_12 : Cond.instanceMethod yX8_lay ∈ wsL_law := mr_34 _ (List.mem_of_getElem? (i := 12) rfl)
theorem gw_34_13 : Cond.selects RX8 yX8_lay yX8_lay ∈ wsL_law := mr_34 _ (List.mem_of_getElem? (i := 13) rfl)
theorem gw_34_14 : Cond.code yX8_lay cX8_lay 6 (some .int) ∈ wsL_law := mr_34 _ (List.mem_of_getElem? (i := 14) rfl)
theorem gw_34_15 : Cond.methodLink RX8 199 yX8_lacks ∈ wsL_law := mr_34 _ (List.mem_of_getElem? (i := 15) rfl)
theorem gw_34_16 : Cond.instanceMethod yX8_lacks ∈ wsL_law := mr_34 _ (List.mem_of_getElem? (i := 16) rfl)
theorem gw_34_17 : Cond.selects RX8 yX8_lacks yX8_lacks ∈ wsL_law := mr_34 _ (List.mem_of_getElem? (i := 17) rfl)
theorem gw_34_18 : Cond.code yX8_lacks cX8_lacks 4 (some .int) ∈ wsL_law := mr_34 _ (List.mem_of_getElem? (i := 18) rfl)
theorem gw_34_19 : Cond.methodLink RL 133 yX7_get ∈ wsL_law := mr_34 _ (List.mem_of_getElem? (i := 19) rfl)
theorem gw_34_20 : Cond.instanceMethod yX7_get ∈ wsL_law := mr_34 _ (List.mem_of_getElem? (i := 20) rfl)
theorem gw_34_21 : Cond.selects RX7 yX7_get yX7_get ∈ wsL_law := mr_34 _ (List.mem_of_getElem? (i := 21) rfl)
theorem gw_34_22 : Cond.code yX7_get cX7_get 5 (some .int) ∈ wsL_law := mr_34 _ (List.mem_of_getElem? (i := 22) rfl)
theorem gw_34_23 : Cond.constant RX7 222 (-2147483648) ∈ wsL_law := mr_34 _ (List.mem_of_getElem? (i := 23) rfl)
theorem gw_35_0 : Cond.fieldLink RX7 223 "InsidePlaces$Sheet" "items" "[I" ∈ wsL_law := mr_35 _ (List.mem_of_getElem? (i := 0) rfl)
theorem gw_35_1 : Cond.methodLink RL 136 yX8_get ∈ wsL_law := mr_35 _ (List.mem_of_getElem? (i := 1) rfl)
theorem gw_35_2 : Cond.instanceMethod yX8_get ∈ wsL_law := mr_35 _ (List.mem_of_getElem? (i := 2) rfl)
theorem gw_35_3 : Cond.selects RX8 yX8_get yX8_get ∈ wsL_law := mr_35 _ (List.mem_of_getElem? (i := 3) rfl)
theorem gw_35_4 : Cond.code yX8_get cX8_get 5 (some .int) ∈ wsL_law := mr_35 _ (List.mem_of_getElem? (i := 4) rfl)
theorem gw_35_5 : Cond.constant RX8 202 (-2147483648) ∈ wsL_law := mr_35 _ (List.mem_of_getElem? (i := 5) rfl)
theorem gw_35_6 : Cond.methodLink RL 137 yX7_copy ∈ wsL_law := mr_35 _ (List.mem_of_getElem? (i := 6) rfl)
theorem gw_35_7 : Cond.instanceMethod yX7_copy ∈ wsL_law := mr_35 _ (List.mem_of_getElem? (i := 7) rfl)
theorem gw_35_8 : Cond.selects RX7 yX7_copy yX7_copy ∈ wsL_law := mr_35 _ (List.mem_of_getElem? (i := 8) rfl)
theorem gw_35_9 : Cond.code yX7_copy cX7_copy 8 (some .int) ∈ wsL_law := mr_35 _ (List.mem_of_getElem? (i := 9) rfl)
theorem gw_35_10 : Cond.methodLink RX7 229 yX5_hasItems ∈ wsL_law := mr_35 _ (List.mem_of_getElem? (i := 10) rfl)
theorem gw_35_11 : Cond.instanceMethod yX5_hasItems ∈ wsL_law := mr_35 _ (List.mem_of_getElem? (i := 11) rfl)
theorem gw_35_12 : Cond.selects RX5 yX5_hasItems yX5_hasItems ∈ wsL_law := mr_35 _ (List.mem_of_getElem? (i := 12) rfl)
theorem gw_35_13 : Cond.code yX5_hasItems cX5_hasItems 3 (some .boolean) ∈ wsL_law := mr_35 _ (List.mem_of_getElem? (i := 13) rfl)
theorem gw_35_14 : Cond.methodLink RL 140 yX8_copy ∈ wsL_law := mr_35 _ (List.mem_of_getElem? (i := 14) rfl)
theorem gw_35_15 : Cond.instanceMethod yX8_copy ∈ wsL_law := mr_35 _ (List.mem_of_getElem? (i := 15) rfl)
theorem gw_35_16 : Cond.selects RX8 yX8_copy yX8_copy ∈ wsL_law := mr_35 _ (List.mem_of_getElem? (i := 16) rfl)
theorem gw_35_17 : Cond.code yX8_copy cX8_copy 7 (some .int) ∈ wsL_law := mr_35 _ (List.mem_of_getElem? (i := 17) rfl)
theorem gw_35_18 : Cond.methodLink RL 141 yX7_count ∈ wsL_law := mr_35 _ (List.mem_of_getElem? (i := 18) rfl)
theorem gw_35_19 : Cond.instanceMethod yX7_count ∈ wsL_law := mr_35 _ (List.mem_of_getElem? (i := 19) rfl)
theorem gw_35_20 : Cond.selects RX7 yX7_count yX7_count ∈ wsL_law := mr_35 _ (List.mem_of_getElem? (i := 20) rfl)
theorem gw_35_21 : Cond.code yX7_count cX7_count 2 (some .int) ∈ wsL_law := mr_35 _ (List.mem_of_getElem? (i := 21) rfl)
theorem gw_35_22 : Cond.fieldLink RX7 238 "InsidePlaces$House" "floors" "I" ∈ wsL_law := mr_35 _ (List.mem_of_getElem? (i := 22) rfl)
theorem gw_35_23 : Cond.fieldLink RX7 241 "InsidePlaces$House" "wide" "I" ∈ wsL_law := mr_35 _ (List.mem_of_getElem? (i := 23) rfl)
theorem gw_36_0 : Cond.fieldLink RX7 244 "InsidePlaces$House" "high" "I" ∈ wsL_law := mr_36 _ (List.mem_of_getElem? (i := 0) rfl)
theorem gw_36_1 : Cond.fieldLink RX7 247 "InsidePlaces$House" "walls" "I" ∈ wsL_law := mr_36 _ (List.mem_of_getElem? (i := 1) rfl)
theorem gw_36_2 : Cond.fieldLink RX7 250 "InsidePlaces$House" "lifts" "I" ∈ wsL_law := mr_36 _ (List.mem_of_getElem? (i := 2) rfl)
theorem gw_36_3 : Cond.fieldLink RX7 253 "InsidePlaces$Crowd" "given" "I" ∈ wsL_law := mr_36 _ (List.mem_of_getElem? (i := 3) rfl)
theorem gw_36_4 : Cond.fieldLink RX7 256 "InsidePlaces$House" "staying" "I" ∈ wsL_law := mr_36 _ (List.mem_of_getElem? (i := 4) rfl)
theorem gw_36_5 : Cond.fieldLink RX7 259 "InsidePlaces$Crowd" "fewest" "I" ∈ wsL_law := mr_36 _ (List.mem_of_getElem? (i := 5) rfl)
theorem gw_36_6 : Cond.fieldLink RX7 262 "InsidePlaces$RadioMap" "deadBits" "I" ∈ wsL_law := mr_36 _ (List.mem_of_getElem? (i := 6) rfl)
theorem gw_36_7 : Cond.methodLink RX7 265 yX2_somewhere ∈ wsL_law := mr_36 _ (List.mem_of_getElem? (i := 7) rfl)
theorem gw_36_8 : Cond.instanceMethod yX2_somewhere ∈ wsL_law := mr_36 _ (List.mem_of_getElem? (i := 8) rfl)
theorem gw_36_9 : Cond.selects RX2 yX2_somewhere yX2_somewhere ∈ wsL_law := mr_36 _ (List.mem_of_getElem? (i := 9) rfl)
theorem gw_36_10 : Cond.code yX2_somewhere cX2_somewhere 3 (some .int) ∈ wsL_law := mr_36 _ (List.mem_of_getElem? (i := 10) rfl)
theorem gw_36_11 : Cond.methodLink RL 144 yX8_count ∈ wsL_law := mr_36 _ (List.mem_of_getElem? (i := 11) rfl)
theorem gw_36_12 : Cond.instanceMethod yX8_count ∈ wsL_law := mr_36 _ (List.mem_of_getElem? (i := 12) rfl)
theorem gw_36_13 : Cond.selects RX8 yX8_count yX8_count ∈ wsL_law := mr_36 _ (List.mem_of_getElem? (i := 13) rfl)
theorem gw_36_14 : Cond.code yX8_count cX8_count 4 (some .int) ∈ wsL_law := mr_36 _ (List.mem_of_getElem? (i := 14) rfl)
theorem gw_36_15 : Cond.methodLink RL 145 yX7_digest ∈ wsL_law := mr_36 _ (List.mem_of_getElem? (i := 15) rfl)
theorem gw_36_16 : Cond.instanceMethod yX7_digest ∈ wsL_law := mr_36 _ (List.mem_of_getElem? (i := 16) rfl)
theorem gw_36_17 : Cond.selects RX7 yX7_digest yX7_digest ∈ wsL_law := mr_36 _ (List.mem_of_getElem? (i := 17) rfl)
theorem gw_36_18 : Cond.code yX7_digest cX7_digest 6 (some .long) ∈ wsL_law := mr_36 _ (List.mem_of_getElem? (i := 18) rfl)
theorem gw_36_19 : Cond.constantLong RX7 268 (17) ∈ wsL_law := mr_36 _ (List.mem_of_getElem? (i := 19) rfl)
theorem gw_36_20 : Cond.constantLong RX7 270 (31) ∈ wsL_law := mr_36 _ (List.mem_of_getElem? (i := 20) rfl)
theorem gw_36_21 : Cond.methodLink RX7 272 yX7_count ∈ wsL_law := mr_36 _ (List.mem_of_getElem? (i := 21) rfl)
theorem gw_36_22 : Cond.methodLink RX7 275 yX4_weightOfAll ∈ wsL_law := mr_36 _ (List.mem_of_getElem? (i := 22) rfl)
theorem gw_36_23 : Cond.instanceMethod yX4_weightOfAll ∈ wsL_law := mr_36 _ (List.mem_of_getElem? (i := 23) rfl)
theorem gw_37_0 : Cond.selects RX4 yX4_weightOfAll yX4_weightOfAll ∈ wsL_law := mr_37 _ (List.mem_of_getElem? (i := 0) rfl)
theorem gw_37_1 : Cond.code yX4_weightOfAll cX4_weightOfAll 5 (some .int) ∈ wsL_law := mr_37 _ (List.mem_of_getElem? (i := 1) rfl)
theorem gw_37_2 : Cond.methodLink RL 149 yX8_digest ∈ wsL_law := mr_37 _ (List.mem_of_getElem? (i := 2) rfl)
theorem gw_37_3 : Cond.instanceMethod yX8_digest ∈ wsL_law := mr_37 _ (List.mem_of_getElem? (i := 3) rfl)
theorem gw_37_4 : Cond.selects RX8 yX8_digest yX8_digest ∈ wsL_law := mr_37 _ (List.mem_of_getElem? (i := 4) rfl)
theorem gw_37_5 : Cond.code yX8_digest cX8_digest 7 (some .long) ∈ wsL_law := mr_37 _ (List.mem_of_getElem? (i := 5) rfl)
theorem gw_37_6 : Cond.constantLong RX8 203 (17) ∈ wsL_law := mr_37 _ (List.mem_of_getElem? (i := 6) rfl)
theorem gw_37_7 : Cond.constantLong RX8 205 (31) ∈ wsL_law := mr_37 _ (List.mem_of_getElem? (i := 7) rfl)
theorem gw_37_8 : Cond.methodLink RX8 207 yX8_count ∈ wsL_law := mr_37 _ (List.mem_of_getElem? (i := 8) rfl)
/-- what the words say of a method that is called on an object -/
def z_cV (y : MethodName) (b : ByteArray) (n : Nat) (ret : Option FieldType) (k : Nat) : Prop := Cond.instanceMethod y ∈ wsL_law ∧ Cond.selects y.cls y y ∈ wsL_law ∧ Cond.initialized y.cls ∈ wsL_law ∧ Cond.code y b n ret ∈ wsL_law ∧ (y.cls ≠ "java/lang/invoke/MethodHandle" ∧ y.cls ≠ "java/lang/invoke/VarHandle" ∧ (parseMethodDescriptor y.desc).map (fun d => d.parameters.length) = some k)
def z_cS (y : MethodName) (b : ByteArray) (n : Nat) (ret : Option FieldType) (k : Nat) : Prop := Cond.static y ∈ wsL_law ∧ Cond.initialized y.cls ∈ wsL_law ∧ Cond.code y b n ret ∈ wsL_law ∧ (y.cls ≠ "java/lang/invoke/MethodHandle" ∧ y.cls ≠ "java/lang/invoke/VarHandle" ∧ (parseMethodDescriptor y.desc).map (fun d => d.parameters.length) = some k)
def z_cI (y : MethodName) (b : ByteArray) (n : Nat) (k : Nat) : Prop := Cond.instanceMethod y ∈ wsL_law ∧ Cond.initialized y.cls ∈ wsL_law ∧ Cond.code y b n none ∈ wsL_law ∧ y.name = "<init>" ∧ (y.cls ≠ "java/lang/invoke/MethodHandle" ∧ y.cls ≠ "java/lang/invoke/VarHandle" ∧ (parseMethodDescriptor y.desc).map (fun d => d.parameters.length) = some k)
theorem cal_X7_init : z_cI yX7_init cX7_init 2 0 := ⟨gw_1_7, gw_1_2, gw_1_8, rfl, ⟨by decide +kernel, by decide +kernel, by decide +kernel⟩⟩
theorem cal_X3_init : z_cI yX3_init cX3_init 1 0 := ⟨gw_2_16, gw_1_14, gw_2_17, rfl, ⟨by decide +kernel, by decide +kernel, by decide +kernel⟩⟩
theorem cal_X4_init : z_cI yX4_init cX4_init 1 0 := ⟨gw_3_8, gw_1_18, gw_3_9, rfl, ⟨by decide +kernel, by decide +kernel, by decide +kernel⟩⟩
theorem cal_X1_init : z_cI yX1_init cX1_init 1 0 := ⟨gw_3_13, gw_1_22, gw_3_14, rfl, ⟨by decide +kernel, by decide +kernel, by decide +kernel⟩⟩
theorem cal_X6_init : z_cI yX6_init cX6_init 1 0 := ⟨gw_3_21, gw_2_2, gw_3_22, rfl, ⟨by decide +kernel, by decide +kernel, by decide +kernel⟩⟩
theorem cal_X2_init : z_cI yX2_init cX2_init 1 0 := ⟨gw_4_2, gw_2_6, gw_4_3, rfl, ⟨by decide +kernel, by decide +kernel, by decide +kernel⟩⟩
theorem cal_X5_init : z_cI yX5_init cX5_init 1 0 := ⟨gw_4_10, gw_2_11, gw_4_11, rfl, ⟨by decide +kernel, by decide +kernel, by decide +kernel⟩⟩
theorem cal_X7_layOut : z_cV yX7_layOut cX7_layOut 4 none 3 := ⟨gw_4_18, gw_4_19, gw_1_2, gw_4_20, ⟨by decide +kernel, by decide +kernel, by decide +kernel⟩⟩
theorem cal_X3_raise : z_cV yX3_raise cX3_raise 5 none 3 := ⟨gw_4_22, gw_4_23, gw_1_14, gw_5_0, ⟨by decide +kernel, by decide +kernel, by decide +kernel⟩⟩
theorem cal_X3_chartSteps : z_cV yX3_chartSteps cX3_chartSteps 2 none 0 := ⟨gw_5_2, gw_5_3, gw_1_14, gw_5_4, ⟨by decide +kernel, by decide +kernel, by decide +kernel⟩⟩
theorem cal_X3_cells : z_cV yX3_cells cX3_cells 1 (some .int) 0 := ⟨gw_5_6, gw_5_7, gw_1_14, gw_5_8, ⟨by decide +kernel, by decide +kernel, by decide +kernel⟩⟩
theorem cal_X3_chartStepsFrom : z_cV yX3_chartStepsFrom cX3_chartStepsFrom 7 none 2 := ⟨gw_5_10, gw_5_11, gw_1_14, gw_5_12, ⟨by decide +kernel, by decide +kernel, by decide +kernel⟩⟩
theorem cal_X3_xOf : z_cV yX3_xOf cX3_xOf 2 (some .int) 1 := ⟨gw_5_14, gw_5_15, gw_1_14, gw_5_16, ⟨by decide +kernel, by decide +kernel, by decide +kernel⟩⟩
theorem cal_X3_yOf : z_cV yX3_yOf cX3_yOf 2 (some .int) 1 := ⟨gw_5_18, gw_5_19, gw_1_14, gw_5_20, ⟨by decide +kernel, by decide +kernel, by decide +kernel⟩⟩
theorem cal_X3_floorOf : z_cV yX3_floorOf cX3_floorOf 2 (some .int) 1 := ⟨gw_5_22, gw_5_23, gw_1_14, gw_6_0, ⟨by decide +kernel, by decide +kernel, by decide +kernel⟩⟩
theorem cal_X4_clear : z_cV yX4_clear cX4_clear 1 none 0 := ⟨gw_6_2, gw_6_3, gw_1_18, gw_6_4, ⟨by decide +kernel, by decide +kernel, by decide +kernel⟩⟩
theorem cal_J7_fill_53178 : z_cS yJ7_fill_53178 cJ7_fill_53178 4 none 2 := ⟨gw_6_6, gw_6_7, gw_6_8, ⟨by decide +kernel, by decide +kernel, by decide +kernel⟩⟩
theorem cal_X1_makeAlike : z_cV yX1_makeAlike cX1_makeAlike 2 none 1 := ⟨gw_6_11, gw_6_12, gw_1_22, gw_6_13, ⟨by decide +kernel, by decide +kernel, by decide +kernel⟩⟩
theorem cal_J7_fill_d0a16 : z_cS yJ7_fill_d0a16 cJ7_fill_d0a16 5 none 2 := ⟨gw_6_15, gw_6_7, gw_6_16, ⟨by decide +kernel, by decide +kernel, by decide +kernel⟩⟩
theorem cal_X1_makeWhole : z_cV yX1_makeWhole cX1_makeWhole 7 (some .boolean) 0 := ⟨gw_6_18, gw_6_19, gw_1_22, gw_6_20, ⟨by decide +kernel, by decide +kernel, by decide +kernel⟩⟩
theorem cal_X1_handOut : z_cV yX1_handOut cX1_handOut 5 none 1 := ⟨gw_7_0, gw_7_1, gw_1_22, gw_7_2, ⟨by decide +kernel, by decide +kernel, by decide +kernel⟩⟩
theorem cal_X2_scatter : z_cV yX2_scatter cX2_scatter 1 none 0 := ⟨gw_7_4, gw_7_5, gw_2_6, gw_7_6, ⟨by decide +kernel, by decide +kernel, by decide +kernel⟩⟩
theorem cal_X8_init : z_cI yX8_init cX8_init 2 0 := ⟨gw_7_9, gw_1_5, gw_7_10, rfl, ⟨by decide +kernel, by decide +kernel, by decide +kernel⟩⟩
theorem cal_X8_building : z_cV yX8_building cX8_building 5 (some .int) 3 := ⟨gw_8_11, gw_8_12, gw_1_5, gw_8_13, ⟨by decide +kernel, by decide +kernel, by decide +kernel⟩⟩
theorem cal_X8_in : z_cS yX8_in cX8_in 3 (some .boolean) 3 := ⟨gw_8_20, gw_1_5, gw_8_21, ⟨by decide +kernel, by decide +kernel, by decide +kernel⟩⟩
theorem cal_X8_alike : z_cV yX8_alike cX8_alike 2 (some .int) 0 := ⟨gw_8_23, gw_9_0, gw_1_5, gw_9_1, ⟨by decide +kernel, by decide +kernel, by decide +kernel⟩⟩
theorem cal_X8_whole : z_cV yX8_whole cX8_whole 6 (some .boolean) 0 := ⟨gw_9_3, gw_9_4, gw_1_5, gw_9_5, ⟨by decide +kernel, by decide +kernel, by decide +kernel⟩⟩
theorem cal_X7_building : z_cV yX7_building cX7_building 4 (some .int) 3 := ⟨gw_9_10, gw_9_11, gw_1_2, gw_9_12, ⟨by decide +kernel, by decide +kernel, by decide +kernel⟩⟩
theorem cal_X7_wall : z_cV yX7_wall cX7_wall 4 (some .int) 3 := ⟨gw_9_15, gw_9_16, gw_1_2, gw_9_17, ⟨by decide +kernel, by decide +kernel, by decide +kernel⟩⟩
theorem cal_X3_hasCell : z_cV yX3_hasCell cX3_hasCell 2 (some .boolean) 1 := ⟨gw_10_2, gw_10_3, gw_1_14, gw_10_4, ⟨by decide +kernel, by decide +kernel, by decide +kernel⟩⟩
theorem cal_X3_areBeside : z_cV yX3_areBeside cX3_areBeside 4 (some .boolean) 2 := ⟨gw_10_6, gw_10_7, gw_1_14, gw_10_8, ⟨by decide +kernel, by decide +kernel, by decide +kernel⟩⟩
theorem cal_X3_putWall : z_cV yX3_putWall cX3_putWall 5 (some .int) 3 := ⟨gw_10_13, gw_10_14, gw_1_14, gw_10_15, ⟨by decide +kernel, by decide +kernel, by decide +kernel⟩⟩
theorem cal_X8_wall : z_cV yX8_wall cX8_wall 7 (some .int) 3 := ⟨gw_10_17, gw_10_18, gw_1_5, gw_10_19, ⟨by decide +kernel, by decide +kernel, by decide +kernel⟩⟩
theorem cal_X8_isCell : z_cV yX8_isCell cX8_isCell 2 (some .boolean) 1 := ⟨gw_10_21, gw_10_22, gw_1_5, gw_10_23, ⟨by decide +kernel, by decide +kernel, by decide +kernel⟩⟩
theorem cal_X8_isRightOf : z_cV yX8_isRightOf cX8_isRightOf 3 (some .boolean) 2 := ⟨gw_11_1, gw_11_2, gw_1_5, gw_11_3, ⟨by decide +kernel, by decide +kernel, by decide +kernel⟩⟩
theorem cal_X8_floorOf : z_cV yX8_floorOf cX8_floorOf 2 (some .int) 1 := ⟨gw_11_5, gw_11_6, gw_1_5, gw_11_7, ⟨by decide +kernel, by decide +kernel, by decide +kernel⟩⟩
theorem cal_X8_yOf : z_cV yX8_yOf cX8_yOf 2 (some .int) 1 := ⟨gw_11_9, gw_11_10, gw_1_5, gw_11_11, ⟨by decide +kernel, by decide +kernel, by decide +kernel⟩⟩
theorem cal_X8_xOf : z_cV yX8_xOf cX8_xOf 2 (some .int) 1 := ⟨gw_11_13, gw_11_14, gw_1_5, gw_11_15, ⟨by decide +kernel, by decide +kernel, by decide +kernel⟩⟩
theorem cal_X8_isBelow : z_cV yX8_isBelow cX8_isBelow 3 (some .boolean) 2 := ⟨gw_11_17, gw_11_18, gw_1_5, gw_11_19, ⟨by decide +kernel, by decide +kernel, by decide +kernel⟩⟩
theorem cal_X7_lift : z_cV yX7_lift cX7_lift 4 (some .int) 3 := ⟨gw_11_21, gw_11_22, gw_1_2, gw_11_23, ⟨by decide +kernel, by decide +kernel, by decide +kernel⟩⟩
theorem cal_X3_hasPlace : z_cV yX3_hasPlace cX3_hasPlace 3 (some .boolean) 2 := ⟨gw_12_1, gw_12_2, gw_1_14, gw_12_3, ⟨by decide +kernel, by decide +kernel, by decide +kernel⟩⟩
theorem cal_X3_putLift : z_cV yX3_putLift cX3_putLift 5 (some .int) 3 := ⟨gw_12_5, gw_12_6, gw_1_14, gw_12_7, ⟨by decide +kernel, by decide +kernel, by decide +kernel⟩⟩
theorem cal_X8_lift : z_cV yX8_lift cX8_lift 5 (some .int) 3 := ⟨gw_12_9, gw_12_10, gw_1_5, gw_12_11, ⟨by decide +kernel, by decide +kernel, by decide +kernel⟩⟩
theorem cal_X7_stay : z_cV yX7_stay cX7_stay 2 (some .int) 1 := ⟨gw_12_13, gw_12_14, gw_1_2, gw_12_15, ⟨by decide +kernel, by decide +kernel, by decide +kernel⟩⟩
theorem cal_X3_putStay : z_cV yX3_putStay cX3_putStay 3 (some .int) 1 := ⟨gw_12_17, gw_12_18, gw_1_14, gw_12_19, ⟨by decide +kernel, by decide +kernel, by decide +kernel⟩⟩
theorem cal_X8_stay : z_cV yX8_stay cX8_stay 3 (some .int) 1 := ⟨gw_12_21, gw_12_22, gw_1_5, gw_12_23, ⟨by decide +kernel, by decide +kernel, by decide +kernel⟩⟩
theorem cal_X7_step : z_cV yX7_step cX7_step 3 (some .int) 2 := ⟨gw_13_1, gw_13_2, gw_1_2, gw_13_3, ⟨by decide +kernel, by decide +kernel, by decide +kernel⟩⟩
theorem cal_X3_likelyBetween : z_cV yX3_likelyBetween cX3_likelyBetween 4 (some .int) 2 := ⟨gw_13_5, gw_13_6, gw_1_14, gw_13_7, ⟨by decide +kernel, by decide +kernel, by decide +kernel⟩⟩
theorem cal_X3_targetOf : z_cV yX3_targetOf cX3_targetOf 3 (some .int) 2 := ⟨gw_13_9, gw_13_10, gw_1_14, gw_13_11, ⟨by decide +kernel, by decide +kernel, by decide +kernel⟩⟩
theorem cal_X3_likelyTo : z_cV yX3_likelyTo cX3_likelyTo 2 (some .int) 1 := ⟨gw_13_13, gw_13_14, gw_1_14, gw_13_15, ⟨by decide +kernel, by decide +kernel, by decide +kernel⟩⟩
theorem cal_X8_step : z_cV yX8_step cX8_step 3 (some .int) 2 := ⟨gw_13_17, gw_13_18, gw_1_5, gw_13_19, ⟨by decide +kernel, by decide +kernel, by decide +kernel⟩⟩
theorem cal_X8_likely : z_cV yX8_likely cX8_likely 5 (some .int) 2 := ⟨gw_13_21, gw_13_22, gw_1_5, gw_13_23, ⟨by decide +kernel, by decide +kernel, by decide +kernel⟩⟩
theorem cal_X7_far : z_cV yX7_far cX7_far 3 (some .int) 2 := ⟨gw_14_1, gw_14_2, gw_1_2, gw_14_3, ⟨by decide +kernel, by decide +kernel, by decide +kernel⟩⟩
theorem cal_X3_fewestSteps : z_cV yX3_fewestSteps cX3_fewestSteps 8 (some .int) 2 := ⟨gw_14_5, gw_14_6, gw_1_14, gw_14_7, ⟨by decide +kernel, by decide +kernel, by decide +kernel⟩⟩
theorem cal_X8_far : z_cV yX8_far cX8_far 6 (some .int) 2 := ⟨gw_14_11, gw_14_12, gw_1_5, gw_14_13, ⟨by decide +kernel, by decide +kernel, by decide +kernel⟩⟩
theorem cal_X7_dead : z_cV yX7_dead cX7_dead 3 (some .int) 2 := ⟨gw_14_15, gw_14_16, gw_1_2, gw_14_17, ⟨by decide +kernel, by decide +kernel, by decide +kernel⟩⟩
theorem cal_X7_isSender : z_cS yX7_isSender cX7_isSender 1 (some .boolean) 1 := ⟨gw_14_19, gw_1_2, gw_14_20, ⟨by decide +kernel, by decide +kernel, by decide +kernel⟩⟩
theorem cal_X4_putDead : z_cV yX4_putDead cX4_putDead 3 none 2 := ⟨gw_14_22, gw_14_23, gw_1_18, gw_15_0, ⟨by decide +kernel, by decide +kernel, by decide +kernel⟩⟩
theorem cal_X8_dead : z_cV yX8_dead cX8_dead 3 (some .int) 2 := ⟨gw_15_2, gw_15_3, gw_1_5, gw_15_4, ⟨by decide +kernel, by decide +kernel, by decide +kernel⟩⟩
theorem cal_X7_survey : z_cV yX7_survey cX7_survey 5 (some .int) 3 := ⟨gw_15_6, gw_15_7, gw_1_2, gw_15_8, ⟨by decide +kernel, by decide +kernel, by decide +kernel⟩⟩
theorem cal_X7_isSheet : z_cS yX7_isSheet cX7_isSheet 1 (some .boolean) 1 := ⟨gw_15_10, gw_1_2, gw_15_11, ⟨by decide +kernel, by decide +kernel, by decide +kernel⟩⟩
theorem cal_X7_rowProblem : z_cS yX7_rowProblem cX7_rowProblem 2 (some .int) 2 := ⟨gw_15_13, gw_1_2, gw_15_14, ⟨by decide +kernel, by decide +kernel, by decide +kernel⟩⟩
theorem cal_X5_rows : z_cV yX5_rows cX5_rows 1 (some .int) 0 := ⟨gw_15_17, gw_15_18, gw_2_11, gw_15_19, ⟨by decide +kernel, by decide +kernel, by decide +kernel⟩⟩
theorem cal_X7_finding : z_cV yX7_finding cX7_finding 2 (some .int) 1 := ⟨gw_15_21, gw_15_22, gw_1_2, gw_15_23, ⟨by decide +kernel, by decide +kernel, by decide +kernel⟩⟩
theorem cal_X4_addRow : z_cV yX4_addRow cX4_addRow 8 (some .int) 3 := ⟨gw_16_1, gw_16_2, gw_1_18, gw_16_3, ⟨by decide +kernel, by decide +kernel, by decide +kernel⟩⟩
theorem cal_X5_heardOf : z_cV yX5_heardOf cX5_heardOf 4 (some .int) 2 := ⟨gw_16_6, gw_16_7, gw_2_11, gw_16_8, ⟨by decide +kernel, by decide +kernel, by decide +kernel⟩⟩
theorem cal_X4_slotOf : z_cS yX4_slotOf cX4_slotOf 3 (some .int) 3 := ⟨gw_16_10, gw_1_18, gw_16_11, ⟨by decide +kernel, by decide +kernel, by decide +kernel⟩⟩
theorem cal_X8_survey : z_cV yX8_survey cX8_survey 5 (some .int) 3 := ⟨gw_16_13, gw_16_14, gw_1_5, gw_16_15, ⟨by decide +kernel, by decide +kernel, by decide +kernel⟩⟩
theorem cal_X8_isSheet : z_cS yX8_isSheet cX8_isSheet 1 (some .boolean) 1 := ⟨gw_16_17, gw_1_5, gw_16_18, ⟨by decide +kernel, by decide +kernel, by decide +kernel⟩⟩
theorem cal_X8_lacksRow : z_cV yX8_lacksRow cX8_lacksRow 3 (some .int) 2 := ⟨gw_16_20, gw_16_21, gw_1_5, gw_16_22, ⟨by decide +kernel, by decide +kernel, by decide +kernel⟩⟩
theorem cal_X8_rowsOf : z_cV yX8_rowsOf cX8_rowsOf 2 (some .int) 1 := ⟨gw_17_0, gw_17_1, gw_1_5, gw_17_2, ⟨by decide +kernel, by decide +kernel, by decide +kernel⟩⟩
theorem cal_X8_meets : z_cV yX8_meets cX8_meets 2 (some .int) 1 := ⟨gw_17_4, gw_17_5, gw_1_5, gw_17_6, ⟨by decide +kernel, by decide +kernel, by decide +kernel⟩⟩
theorem cal_X8_surveys : z_cV yX8_surveys cX8_surveys 8 (some .int) 3 := ⟨gw_17_9, gw_17_10, gw_1_5, gw_17_11, ⟨by decide +kernel, by decide +kernel, by decide +kernel⟩⟩
theorem cal_X8_heard : z_cV yX8_heard cX8_heard 7 (some .int) 4 := ⟨gw_17_13, gw_17_14, gw_1_5, gw_17_15, ⟨by decide +kernel, by decide +kernel, by decide +kernel⟩⟩
theorem cal_X8_placeIn : z_cV yX8_placeIn cX8_placeIn 4 (some .int) 3 := ⟨gw_17_17, gw_17_18, gw_1_5, gw_17_19, ⟨by decide +kernel, by decide +kernel, by decide +kernel⟩⟩
theorem cal_X7_weight : z_cV yX7_weight cX7_weight 4 (some .int) 3 := ⟨gw_17_21, gw_17_22, gw_1_2, gw_17_23, ⟨by decide +kernel, by decide +kernel, by decide +kernel⟩⟩
theorem cal_X4_weightOf : z_cV yX4_weightOf cX4_weightOf 4 (some .int) 3 := ⟨gw_18_1, gw_18_2, gw_1_18, gw_18_3, ⟨by decide +kernel, by decide +kernel, by decide +kernel⟩⟩
theorem cal_X8_weight : z_cV yX8_weight cX8_weight 4 (some .int) 3 := ⟨gw_18_5, gw_18_6, gw_1_5, gw_18_7, ⟨by decide +kernel, by decide +kernel, by decide +kernel⟩⟩
theorem cal_X8_weightOf : z_cV yX8_weightOf cX8_weightOf 4 (some .int) 3 := ⟨gw_18_9, gw_18_10, gw_1_5, gw_18_11, ⟨by decide +kernel, by decide +kernel, by decide +kernel⟩⟩
theorem cal_X7_offset : z_cV yX7_offset cX7_offset 5 (some .int) 3 := ⟨gw_18_13, gw_18_14, gw_1_2, gw_18_15, ⟨by decide +kernel, by decide +kernel, by decide +kernel⟩⟩
theorem cal_X4_bestOffset : z_cV yX4_bestOffset cX4_bestOffset 9 (some .int) 3 := ⟨gw_18_17, gw_18_18, gw_1_18, gw_18_19, ⟨by decide +kernel, by decide +kernel, by decide +kernel⟩⟩
theorem cal_X4_rowWeight : z_cV yX4_rowWeight cX4_rowWeight 9 (some .int) 5 := ⟨gw_18_21, gw_18_22, gw_1_18, gw_18_23, ⟨by decide +kernel, by decide +kernel, by decide +kernel⟩⟩
theorem cal_X5_heardBy : z_cV yX5_heardBy cX5_heardBy 5 (some .int) 3 := ⟨gw_19_1, gw_19_2, gw_2_11, gw_19_3, ⟨by decide +kernel, by decide +kernel, by decide +kernel⟩⟩
theorem cal_X4_isDead : z_cV yX4_isDead cX4_isDead 2 (some .boolean) 1 := ⟨gw_19_8, gw_19_9, gw_1_18, gw_19_10, ⟨by decide +kernel, by decide +kernel, by decide +kernel⟩⟩
theorem cal_X8_offset : z_cV yX8_offset cX8_offset 10 (some .int) 3 := ⟨gw_19_13, gw_19_14, gw_1_5, gw_19_15, ⟨by decide +kernel, by decide +kernel, by decide +kernel⟩⟩
theorem cal_X8_weights : z_cV yX8_weights cX8_weights 9 (some .int) 5 := ⟨gw_19_17, gw_19_18, gw_1_5, gw_19_19, ⟨by decide +kernel, by decide +kernel, by decide +kernel⟩⟩
theorem cal_X7_alike : z_cV yX7_alike cX7_alike 1 (some .int) 0 := ⟨gw_19_21, gw_19_22, gw_1_2, gw_19_23, ⟨by decide +kernel, by decide +kernel, by decide +kernel⟩⟩
theorem cal_X1_shareOf : z_cV yX1_shareOf cX1_shareOf 2 (some .int) 1 := ⟨gw_20_1, gw_20_2, gw_1_22, gw_20_3, ⟨by decide +kernel, by decide +kernel, by decide +kernel⟩⟩
theorem cal_X7_known : z_cV yX7_known cX7_known 2 (some .int) 1 := ⟨gw_20_6, gw_20_7, gw_1_2, gw_20_8, ⟨by decide +kernel, by decide +kernel, by decide +kernel⟩⟩
theorem cal_X1_makeKnown : z_cV yX1_makeKnown cX1_makeKnown 2 none 1 := ⟨gw_20_10, gw_20_11, gw_1_22, gw_20_12, ⟨by decide +kernel, by decide +kernel, by decide +kernel⟩⟩
theorem cal_X8_known : z_cV yX8_known cX8_known 3 (some .int) 1 := ⟨gw_20_15, gw_20_16, gw_1_5, gw_20_17, ⟨by decide +kernel, by decide +kernel, by decide +kernel⟩⟩
theorem cal_X7_lead : z_cV yX7_lead cX7_lead 3 (some .int) 1 := ⟨gw_20_19, gw_20_20, gw_1_2, gw_20_21, ⟨by decide +kernel, by decide +kernel, by decide +kernel⟩⟩
theorem cal_X1_leadOneStep : z_cV yX1_leadOneStep cX1_leadOneStep 6 none 1 := ⟨gw_20_23, gw_21_0, gw_1_22, gw_21_1, ⟨by decide +kernel, by decide +kernel, by decide +kernel⟩⟩
theorem cal_X3_likelyOfAll : z_cV yX3_likelyOfAll cX3_likelyOfAll 4 (some .int) 1 := ⟨gw_21_4, gw_21_5, gw_1_14, gw_21_6, ⟨by decide +kernel, by decide +kernel, by decide +kernel⟩⟩
theorem cal_X1_spread : z_cV yX1_spread cX1_spread 8 none 4 := ⟨gw_21_8, gw_21_9, gw_1_22, gw_21_10, ⟨by decide +kernel, by decide +kernel, by decide +kernel⟩⟩
theorem cal_X1_cellsWithShare : z_cV yX1_cellsWithShare cX1_cellsWithShare 3 (some .int) 0 := ⟨gw_21_15, gw_21_16, gw_1_22, gw_21_17, ⟨by decide +kernel, by decide +kernel, by decide +kernel⟩⟩
theorem cal_X8_lead : z_cV yX8_lead cX8_lead 7 (some .int) 1 := ⟨gw_21_19, gw_21_20, gw_1_5, gw_21_21, ⟨by decide +kernel, by decide +kernel, by decide +kernel⟩⟩
theorem cal_X8_withShare : z_cV yX8_withShare cX8_withShare 3 (some .int) 0 := ⟨gw_22_0, gw_22_1, gw_1_5, gw_22_2, ⟨by decide +kernel, by decide +kernel, by decide +kernel⟩⟩
theorem cal_X7_hear : z_cV yX7_hear cX7_hear 5 (some .int) 3 := ⟨gw_22_4, gw_22_5, gw_1_2, gw_22_6, ⟨by decide +kernel, by decide +kernel, by decide +kernel⟩⟩
theorem cal_X1_hearRow : z_cV yX1_hearRow cX1_hearRow 7 (some .boolean) 4 := ⟨gw_22_8, gw_22_9, gw_1_22, gw_22_10, ⟨by decide +kernel, by decide +kernel, by decide +kernel⟩⟩
theorem cal_X1_weighSender : z_cV yX1_weighSender cX1_weighSender 6 none 3 := ⟨gw_22_14, gw_22_15, gw_1_22, gw_22_16, ⟨by decide +kernel, by decide +kernel, by decide +kernel⟩⟩
theorem cal_X4_greatestWeight : z_cV yX4_greatestWeight cX4_greatestWeight 6 (some .int) 3 := ⟨gw_22_18, gw_22_19, gw_1_18, gw_22_20, ⟨by decide +kernel, by decide +kernel, by decide +kernel⟩⟩
theorem cal_X8_hear : z_cV yX8_hear cX8_hear 9 (some .int) 3 := ⟨gw_23_0, gw_23_1, gw_1_5, gw_23_2, ⟨by decide +kernel, by decide +kernel, by decide +kernel⟩⟩
theorem cal_X7_share : z_cV yX7_share cX7_share 2 (some .int) 1 := ⟨gw_23_4, gw_23_5, gw_1_2, gw_23_6, ⟨by decide +kernel, by decide +kernel, by decide +kernel⟩⟩
theorem cal_X8_share : z_cV yX8_share cX8_share 2 (some .int) 1 := ⟨gw_23_8, gw_23_9, gw_1_5, gw_23_10, ⟨by decide +kernel, by decide +kernel, by decide +kernel⟩⟩
theorem cal_X7_likeliest : z_cV yX7_likeliest cX7_likeliest 1 (some .int) 0 := ⟨gw_23_12, gw_23_13, gw_1_2, gw_23_14, ⟨by decide +kernel, by decide +kernel, by decide +kernel⟩⟩
theorem cal_X1_greatestCell : z_cV yX1_greatestCell cX1_greatestCell 3 (some .int) 0 := ⟨gw_23_16, gw_23_17, gw_1_22, gw_23_18, ⟨by decide +kernel, by decide +kernel, by decide +kernel⟩⟩
theorem cal_X8_likeliest : z_cV yX8_likeliest cX8_likeliest 3 (some .int) 0 := ⟨gw_23_20, gw_23_21, gw_1_5, gw_23_22, ⟨by decide +kernel, by decide +kernel, by decide +kernel⟩⟩
theorem cal_X7_within : z_cV yX7_within cX7_within 9 (some .int) 5 := ⟨gw_24_0, gw_24_1, gw_1_2, gw_24_2, ⟨by decide +kernel, by decide +kernel, by decide +kernel⟩⟩
theorem cal_X3_hasArea : z_cV yX3_hasArea cX3_hasArea 6 (some .boolean) 5 := ⟨gw_24_4, gw_24_5, gw_1_14, gw_24_6, ⟨by decide +kernel, by decide +kernel, by decide +kernel⟩⟩
theorem cal_X3_cellAt : z_cV yX3_cellAt cX3_cellAt 4 (some .int) 3 := ⟨gw_24_9, gw_24_10, gw_1_14, gw_24_11, ⟨by decide +kernel, by decide +kernel, by decide +kernel⟩⟩
theorem cal_X8_within : z_cV yX8_within cX8_within 8 (some .int) 5 := ⟨gw_24_13, gw_24_14, gw_1_5, gw_24_15, ⟨by decide +kernel, by decide +kernel, by decide +kernel⟩⟩
theorem cal_X8_isArea : z_cV yX8_isArea cX8_isArea 6 (some .boolean) 5 := ⟨gw_24_17, gw_24_18, gw_1_5, gw_24_19, ⟨by decide +kernel, by decide +kernel, by decide +kernel⟩⟩
theorem cal_X8_isWithin : z_cV yX8_isWithin cX8_isWithin 7 (some .boolean) 6 := ⟨gw_24_21, gw_24_22, gw_1_5, gw_24_23, ⟨by decide +kernel, by decide +kernel, by decide +kernel⟩⟩
theorem cal_X7_sure : z_cV yX7_sure cX7_sure 2 (some .int) 1 := ⟨gw_25_1, gw_25_2, gw_1_2, gw_25_3, ⟨by decide +kernel, by decide +kernel, by decide +kernel⟩⟩
theorem cal_X1_fewestCellsWith : z_cV yX1_fewestCellsWith cX1_fewestCellsWith 7 (some .int) 1 := ⟨gw_25_6, gw_25_7, gw_1_22, gw_25_8, ⟨by decide +kernel, by decide +kernel, by decide +kernel⟩⟩
theorem cal_X8_sure : z_cV yX8_sure cX8_sure 4 (some .int) 1 := ⟨gw_25_10, gw_25_11, gw_1_5, gw_25_12, ⟨by decide +kernel, by decide +kernel, by decide +kernel⟩⟩
theorem cal_X7_best : z_cV yX7_best cX7_best 3 (some .int) 1 := ⟨gw_25_14, gw_25_15, gw_1_2, gw_25_16, ⟨by decide +kernel, by decide +kernel, by decide +kernel⟩⟩
theorem cal_X7_bestScore : z_cV yX7_bestScore cX7_bestScore 3 (some .int) 1 := ⟨gw_25_18, gw_25_19, gw_1_2, gw_25_20, ⟨by decide +kernel, by decide +kernel, by decide +kernel⟩⟩
theorem cal_X6_findWay : z_cV yX6_findWay cX6_findWay 11 (some .int) 4 := ⟨gw_25_22, gw_25_23, gw_2_2, gw_26_0, ⟨by decide +kernel, by decide +kernel, by decide +kernel⟩⟩
theorem cal_X6_bestDirection : z_cV yX6_bestDirection cX6_bestDirection 8 (some .int) 3 := ⟨gw_26_5, gw_26_6, gw_2_2, gw_26_7, ⟨by decide +kernel, by decide +kernel, by decide +kernel⟩⟩
theorem cal_X6_scoreAfter : z_cV yX6_scoreAfter cX6_scoreAfter 7 (some .int) 4 := ⟨gw_26_9, gw_26_10, gw_2_2, gw_26_11, ⟨by decide +kernel, by decide +kernel, by decide +kernel⟩⟩
theorem cal_X6_bestFirst : z_cV yX6_bestFirst cX6_bestFirst 4 (some .int) 1 := ⟨gw_26_17, gw_26_18, gw_2_2, gw_26_19, ⟨by decide +kernel, by decide +kernel, by decide +kernel⟩⟩
theorem cal_X6_trace : z_cV yX6_trace cX6_trace 6 none 3 := ⟨gw_26_21, gw_26_22, gw_2_2, gw_26_23, ⟨by decide +kernel, by decide +kernel, by decide +kernel⟩⟩
theorem cal_X7_tellWay : z_cV yX7_tellWay cX7_tellWay 2 none 1 := ⟨gw_27_1, gw_27_2, gw_1_2, gw_27_3, ⟨by decide +kernel, by decide +kernel, by decide +kernel⟩⟩
theorem cal_X8_best : z_cV yX8_best cX8_best 3 (some .int) 1 := ⟨gw_27_10, gw_27_11, gw_1_5, gw_27_12, ⟨by decide +kernel, by decide +kernel, by decide +kernel⟩⟩
theorem cal_X8_walks : z_cV yX8_walks cX8_walks 9 (some .int) 2 := ⟨gw_27_14, gw_27_15, gw_1_5, gw_27_16, ⟨by decide +kernel, by decide +kernel, by decide +kernel⟩⟩
theorem cal_X8_tells : z_cV yX8_tells cX8_tells 3 none 1 := ⟨gw_27_18, gw_27_19, gw_1_5, gw_27_20, ⟨by decide +kernel, by decide +kernel, by decide +kernel⟩⟩
theorem cal_X7_way : z_cV yX7_way cX7_way 2 (some .int) 1 := ⟨gw_27_23, gw_28_0, gw_1_2, gw_28_1, ⟨by decide +kernel, by decide +kernel, by decide +kernel⟩⟩
theorem cal_X8_way : z_cV yX8_way cX8_way 2 (some .int) 1 := ⟨gw_28_3, gw_28_4, gw_1_5, gw_28_5, ⟨by decide +kernel, by decide +kernel, by decide +kernel⟩⟩
theorem cal_X7_learn : z_cV yX7_learn cX7_learn 5 (some .int) 1 := ⟨gw_28_7, gw_28_8, gw_1_2, gw_28_9, ⟨by decide +kernel, by decide +kernel, by decide +kernel⟩⟩
theorem cal_X8_learn : z_cV yX8_learn cX8_learn 4 (some .int) 1 := ⟨gw_28_11, gw_28_12, gw_1_5, gw_28_13, ⟨by decide +kernel, by decide +kernel, by decide +kernel⟩⟩
theorem cal_X7_moved : z_cV yX7_moved cX7_moved 6 (some .int) 1 := ⟨gw_28_15, gw_28_16, gw_1_2, gw_28_17, ⟨by decide +kernel, by decide +kernel, by decide +kernel⟩⟩
theorem cal_X7_isMoved : z_cV yX7_isMoved cX7_isMoved 7 (some .boolean) 2 := ⟨gw_28_20, gw_28_21, gw_1_2, gw_28_22, ⟨by decide +kernel, by decide +kernel, by decide +kernel⟩⟩
theorem cal_X8_moved : z_cV yX8_moved cX8_moved 9 (some .int) 1 := ⟨gw_29_1, gw_29_2, gw_1_5, gw_29_3, ⟨by decide +kernel, by decide +kernel, by decide +kernel⟩⟩
theorem cal_X7_put : z_cV yX7_put cX7_put 3 (some .int) 2 := ⟨gw_29_5, gw_29_6, gw_1_2, gw_29_7, ⟨by decide +kernel, by decide +kernel, by decide +kernel⟩⟩
theorem cal_X2_move : z_cV yX2_move cX2_move 4 (some .int) 2 := ⟨gw_29_9, gw_29_10, gw_2_6, gw_29_11, ⟨by decide +kernel, by decide +kernel, by decide +kernel⟩⟩
theorem cal_X8_put : z_cV yX8_put cX8_put 4 (some .int) 2 := ⟨gw_29_13, gw_29_14, gw_1_5, gw_29_15, ⟨by decide +kernel, by decide +kernel, by decide +kernel⟩⟩
theorem cal_X7_least : z_cV yX7_least cX7_least 2 (some .int) 1 := ⟨gw_29_17, gw_29_18, gw_1_2, gw_29_19, ⟨by decide +kernel, by decide +kernel, by decide +kernel⟩⟩
theorem cal_X2_putLeast : z_cV yX2_putLeast cX2_putLeast 3 (some .int) 1 := ⟨gw_29_21, gw_29_22, gw_2_6, gw_29_23, ⟨by decide +kernel, by decide +kernel, by decide +kernel⟩⟩
theorem cal_X8_least : z_cV yX8_least cX8_least 3 (some .int) 1 := ⟨gw_30_1, gw_30_2, gw_1_5, gw_30_3, ⟨by decide +kernel, by decide +kernel, by decide +kernel⟩⟩
theorem cal_X7_give : z_cV yX7_give cX7_give 6 (some .int) 5 := ⟨gw_30_5, gw_30_6, gw_1_2, gw_30_7, ⟨by decide +kernel, by decide +kernel, by decide +kernel⟩⟩
theorem cal_X0_init : z_cI yX0_init cX0_init 6 5 := ⟨gw_30_12, gw_30_10, gw_30_13, rfl, ⟨by decide +kernel, by decide +kernel, by decide +kernel⟩⟩
theorem cal_X2_giveAway : z_cV yX2_giveAway cX2_giveAway 4 (some .int) 2 := ⟨gw_30_21, gw_30_22, gw_2_6, gw_30_23, ⟨by decide +kernel, by decide +kernel, by decide +kernel⟩⟩
theorem cal_X2_numberIn : z_cV yX2_numberIn cX2_numberIn 6 (some .int) 2 := ⟨gw_31_1, gw_31_2, gw_2_6, gw_31_3, ⟨by decide +kernel, by decide +kernel, by decide +kernel⟩⟩
theorem cal_X0_contains : z_cV yX0_contains cX0_contains 4 (some .boolean) 3 := ⟨gw_31_9, gw_31_10, gw_30_10, gw_31_11, ⟨by decide +kernel, by decide +kernel, by decide +kernel⟩⟩
theorem cal_X2_isTooNear : z_cV yX2_isTooNear cX2_isTooNear 4 (some .boolean) 1 := ⟨gw_31_13, gw_31_14, gw_2_6, gw_31_15, ⟨by decide +kernel, by decide +kernel, by decide +kernel⟩⟩
theorem cal_X0_cellsApart : z_cV yX0_cellsApart cX0_cellsApart 2 (some .int) 1 := ⟨gw_31_17, gw_31_18, gw_30_10, gw_31_19, ⟨by decide +kernel, by decide +kernel, by decide +kernel⟩⟩
theorem cal_X0_extent : z_cV yX0_extent cX0_extent 1 (some .int) 0 := ⟨gw_31_21, gw_31_22, gw_30_10, gw_31_23, ⟨by decide +kernel, by decide +kernel, by decide +kernel⟩⟩
theorem cal_X0_cellsInBoth : z_cV yX0_cellsInBoth cX0_cellsInBoth 4 (some .int) 1 := ⟨gw_32_1, gw_32_2, gw_30_10, gw_32_3, ⟨by decide +kernel, by decide +kernel, by decide +kernel⟩⟩
theorem cal_X2_wasGiven : z_cV yX2_wasGiven cX2_wasGiven 3 (some .boolean) 1 := ⟨gw_32_7, gw_32_8, gw_2_6, gw_32_9, ⟨by decide +kernel, by decide +kernel, by decide +kernel⟩⟩
theorem cal_X8_give : z_cV yX8_give cX8_give 9 (some .int) 5 := ⟨gw_32_11, gw_32_12, gw_1_5, gw_32_13, ⟨by decide +kernel, by decide +kernel, by decide +kernel⟩⟩
theorem cal_X8_parts : z_cV yX8_parts cX8_parts 11 (some .int) 6 := ⟨gw_32_15, gw_32_16, gw_1_5, gw_32_17, ⟨by decide +kernel, by decide +kernel, by decide +kernel⟩⟩
theorem cal_X7_sheet : z_cV yX7_sheet cX7_sheet 4 (some .int) 3 := ⟨gw_32_19, gw_32_20, gw_1_2, gw_32_21, ⟨by decide +kernel, by decide +kernel, by decide +kernel⟩⟩
theorem cal_X7_isForm : z_cS yX7_isForm cX7_isForm 1 (some .boolean) 1 := ⟨gw_32_23, gw_1_2, gw_33_0, ⟨by decide +kernel, by decide +kernel, by decide +kernel⟩⟩
theorem cal_X5_renew : z_cV yX5_renew cX5_renew 3 none 2 := ⟨gw_33_2, gw_33_3, gw_2_11, gw_33_4, ⟨by decide +kernel, by decide +kernel, by decide +kernel⟩⟩
theorem cal_X8_sheet : z_cV yX8_sheet cX8_sheet 5 (some .int) 3 := ⟨gw_33_7, gw_33_8, gw_1_5, gw_33_9, ⟨by decide +kernel, by decide +kernel, by decide +kernel⟩⟩
theorem cal_X7_lose : z_cV yX7_lose cX7_lose 2 (some .int) 1 := ⟨gw_33_11, gw_33_12, gw_1_2, gw_33_13, ⟨by decide +kernel, by decide +kernel, by decide +kernel⟩⟩
theorem cal_X5_drop : z_cV yX5_drop cX5_drop 2 (some .int) 0 := ⟨gw_33_15, gw_33_16, gw_2_11, gw_33_17, ⟨by decide +kernel, by decide +kernel, by decide +kernel⟩⟩
theorem cal_X8_lose : z_cV yX8_lose cX8_lose 2 (some .int) 1 := ⟨gw_33_19, gw_33_20, gw_1_5, gw_33_21, ⟨by decide +kernel, by decide +kernel, by decide +kernel⟩⟩
theorem cal_X7_lay : z_cV yX7_lay cX7_lay 6 (some .int) 4 := ⟨gw_33_23, gw_34_0, gw_1_2, gw_34_1, ⟨by decide +kernel, by decide +kernel, by decide +kernel⟩⟩
theorem cal_X7_itemProblem : z_cS yX7_itemProblem cX7_itemProblem 3 (some .int) 3 := ⟨gw_34_3, gw_1_2, gw_34_4, ⟨by decide +kernel, by decide +kernel, by decide +kernel⟩⟩
theorem cal_X5_store : z_cV yX5_store cX5_store 3 none 2 := ⟨gw_34_8, gw_34_9, gw_2_11, gw_34_10, ⟨by decide +kernel, by decide +kernel, by decide +kernel⟩⟩
theorem cal_X8_lay : z_cV yX8_lay cX8_lay 6 (some .int) 4 := ⟨gw_34_12, gw_34_13, gw_1_5, gw_34_14, ⟨by decide +kernel, by decide +kernel, by decide +kernel⟩⟩
theorem cal_X8_lacks : z_cV yX8_lacks cX8_lacks 4 (some .int) 3 := ⟨gw_34_16, gw_34_17, gw_1_5, gw_34_18, ⟨by decide +kernel, by decide +kernel, by decide +kernel⟩⟩
theorem cal_X7_get : z_cV yX7_get cX7_get 5 (some .int) 3 := ⟨gw_34_20, gw_34_21, gw_1_2, gw_34_22, ⟨by decide +kernel, by decide +kernel, by decide +kernel⟩⟩
theorem cal_X8_get : z_cV yX8_get cX8_get 5 (some .int) 3 := ⟨gw_35_2, gw_35_3, gw_1_5, gw_35_4, ⟨by decide +kernel, by decide +kernel, by decide +kernel⟩⟩
theorem cal_X7_copy : z_cV yX7_copy cX7_copy 8 (some .int) 5 := ⟨gw_35_7, gw_35_8, gw_1_2, gw_35_9, ⟨by decide +kernel, by decide +kernel, by decide +kernel⟩⟩
theorem cal_X5_hasItems : z_cV yX5_hasItems cX5_hasItems 3 (some .boolean) 2 := ⟨gw_35_11, gw_35_12, gw_2_11, gw_35_13, ⟨by decide +kernel, by decide +kernel, by decide +kernel⟩⟩
theorem cal_X8_copy : z_cV yX8_copy cX8_copy 7 (some .int) 5 := ⟨gw_35_15, gw_35_16, gw_1_5, gw_35_17, ⟨by decide +kernel, by decide +kernel, by decide +kernel⟩⟩
theorem cal_X7_count : z_cV yX7_count cX7_count 2 (some .int) 1 := ⟨gw_35_19, gw_35_20, gw_1_2, gw_35_21, ⟨by decide +kernel, by decide +kernel, by decide +kernel⟩⟩
theorem cal_X2_somewhere : z_cV yX2_somewhere cX2_somewhere 3 (some .int) 0 := ⟨gw_36_8, gw_36_9, gw_2_6, gw_36_10, ⟨by decide +kernel, by decide +kernel, by decide +kernel⟩⟩
theorem cal_X8_count : z_cV yX8_count cX8_count 4 (some .int) 1 := ⟨gw_36_12, gw_36_13, gw_1_5, gw_36_14, ⟨by decide +kernel, by decide +kernel, by decide +kernel⟩⟩
theorem cal_X7_digest : z_cV yX7_digest cX7_digest 6 (some .long) 0 := ⟨gw_36_16, gw_36_17, gw_1_2, gw_36_18, ⟨by decide +kernel, by decide +kernel, by decide +kernel⟩⟩
theorem cal_X4_weightOfAll : z_cV yX4_weightOfAll cX4_weightOfAll 5 (some .int) 2 := ⟨gw_36_23, gw_37_0, gw_1_18, gw_37_1, ⟨by decide +kernel, by decide +kernel, by decide +kernel⟩⟩
theorem cal_X8_digest : z_cV yX8_digest cX8_digest 7 (some .long) 0 := ⟨gw_37_3, gw_37_4, gw_1_5, gw_37_5, ⟨by decide +kernel, by decide +kernel, by decide +kernel⟩⟩
end
section
/-! CONTRACTS over a whole world: a method y, from a world ws, returns with an answer and a world that 'post' holds of -/
def z_wy (y : MethodName) (b : ByteArray) (n : Nat) (ret : Option FieldType) : List Cond := Cond.code y b n ret :: wsL_law
def z_pre (D : va_G) (t : Nat → ClassId) (ws : va_W) (sz : Nat) : State → Prop := fun U => U.heap.size = sz ∧ va_P D vwCl ws U.heap ∧ va_K D vwCl (z_tys t) U ∧ va_D (fun _ => True) ws
def z_at (D : va_G) (t : Nat → ClassId) (A : Nat → Prop) (ws : va_W) : State → Prop := fun T => va_P D vwCl ws T.heap ∧ va_K D vwCl (z_tys t) T ∧ va_D A ws
def z_rm (fr lo mc ms : Nat) : Room := { frames := fr, cells := mc, slots := ms, locals := lo }
def z_Ci (l : Launch) (D : va_G) (t : Nat → ClassId) (y : MethodName) (b : ByteArray) (n : Nat) (ty : FieldType) (fr lo mc ms : Nat) (args : List Value) (ws : va_W) (post : Int → va_W → Prop) : Prop :=
  ∀ sz : Nat, Met l y (z_wy y b n (some ty)) (z_rm fr lo mc ms) (va_Pc args (z_pre D t ws sz)) (va_Qi (S := va_W) (fun r w => ∃ z : Int, r = zI z ∧ post z w) (fun w T => z_at D t (va_A ws sz) w T) (va_A ws sz)) mc ms (va_A ws sz)
def z_Cl (l : Launch) (D : va_G) (t : Nat → ClassId) (y : MethodName) (b : ByteArray) (n : Nat) (fr lo mc ms : Nat) (args : List Value) (ws : va_W) (post : Int → va_W → Prop) : Prop :=
  ∀ sz : Nat, Met l y (z_wy y b n (some .long)) (z_rm fr lo mc ms) (va_Pc args (z_pre D t ws sz)) (va_Ql (S := va_W) (fun r w => ∃ z : Int, r = zL z ∧ post z w) (fun w T => z_at D t (va_A ws sz) w T) (va_A ws sz)) mc ms (va_A ws sz)
def z_Cv (l : Launch) (D : va_G) (t : Nat → ClassId) (y : MethodName) (b : ByteArray) (n : Nat) (fr lo mc ms : Nat) (args : List Value) (ws : va_W) (post : va_W → Prop) : Prop :=
  ∀ sz : Nat, Met l y (z_wy y b n none) (z_rm fr lo mc ms) (va_Pc args (z_pre D t ws sz)) (va_Qv (S := va_W) post (fun w T => z_at D t (va_A ws sz) w T) (va_A ws sz)) mc ms (va_A ws sz)
/-- a state's own ends: what an answer needs -/
def z_Ri (K : z_KT) (b : ByteArray) (mc ms : Nat) (ty : FieldType) (post : Int → va_W → Prop) : Prop := ∀ (pc : Nat) (L : List (Option Value)) (r : Int) (ws : va_W), decode b pc = .ok (.ireturn, 1) → post r ws → narrow ty (.int (zI r)) = .int (zI r) → Gd K mc ms pc L [.int (zI r)] ws
def z_Rl (K : z_KT) (b : ByteArray) (mc ms : Nat) (post : Int → va_W → Prop) : Prop := ∀ (pc : Nat) (L : List (Option Value)) (r : Int) (ws : va_W), decode b pc = .ok (.lreturn, 1) → post r ws → Gd K mc ms pc L [.long (zL r)] ws
def z_Rv (K : z_KT) (b : ByteArray) (mc ms : Nat) (post : va_W → Prop) : Prop := ∀ (pc : Nat) (L : List (Option Value)) (ws : va_W), decode b pc = .ok (.return_, 1) → post ws → Gd K mc ms pc L [] ws
theorem z_nb {r : Int} (h : r = 0 ∨ r = 1) : narrow .boolean (.int (zI r)) = .int (zI r) := by
  rcases h with rfl | rfl <;> decide +kernel
theorem z_Ci_of {l : Launch} {D : va_G} {t : Nat → ClassId} {y : MethodName} {b : ByteArray} {n : Nat} {ty : FieldType} {fr lo mc ms : Nat} {args : List Value} {ws : va_W} {post : Int → va_W → Prop} (hy : plainName y.cls = true) (L0 : List (Option Value)) (hL : z_asc 0 L0 = lv_args 0 args) (hn : L0.length = n) (hle : (lg_sl args).length ≤ n)
    (body : ∀ K : z_KT, z_l K = l → z_D K = D → z_t K = t → z_Rm K = z_rm fr lo mc ms → z_nm K = y.name → Fc K b y.cls n → z_Ri K b mc ms ty post → Gd K 0 0 0 L0 [] ws) : z_Ci l D t y b n ty fr lo mc ms args ws post := by
  refine fun sz => Met.ofW (cc := b) (maxL := n) (ret := some ty) hy rfl ?_
  intro p e s m args' below meth c s₁ B hml hv
  obtain ⟨rfl, hsz, hP, hK, hD0⟩ := hv
  have hx := B.exec
  have hb := B.bytes
  have hr := B.returns
  have hts := atoms_spec (ws := z_wy y b n (some ty)) B.pre
  have hown : s.vm.findClass y.cls = some m.cls := findClass_of_methodNamed B.named
  have hlocks := B.notSynchronized
  have hin : meth.name = y.name := (name_of_methodNamed B.named B.method).1
  subst hsz
  have hD := hD0.self (sz := s.heap.size)
  have hl := lv_entry args (n := n) hle
  rw [lg_entry_eq]
  generalize (lg_sl args ++ List.replicate (n - (lg_sl args).length) Slot.unset).toArray = ls at hl ⊢
  rw [← hL, ← hn] at hl
  refine body (p, l, e, z_rm fr lo mc ms, s, m, args.toArray, below, meth, c, va_A ws s.heap.size, s.heap, _, D, t) rfl rfl rfl rfl hin ⟨hx, hb, hml, hown, fun w hw => hts w (List.mem_cons_of_mem _ hw), hK, fun q h => Or.inr h⟩ ?_ s.heap [] ls hP hD va_S.rf hl
  intro pc L r ws' d hpost hnar H locs ls' hP' hD' hS' hl'
  exact W.zret hx hb hr hnar (fun t' ht hW => ⟨⟨zI r, ws', rfl, ⟨r, rfl, hpost⟩, by rw [ht]; exact hP', va_K.moved hW.alike hK, hD'⟩, hS'.F ht⟩) hS'.2.2 d
theorem z_Cl_of {l : Launch} {D : va_G} {t : Nat → ClassId} {y : MethodName} {b : ByteArray} {n : Nat} {fr lo mc ms : Nat} {args : List Value} {ws : va_W} {post : Int → va_W → Prop} (hy : plainName y.cls = true) (L0 : List (Option Value)) (hL : z_asc 0 L0 = lv_args 0 args) (hn : L0.length = n) (hle : (lg_sl args).length ≤ n)
    (body : ∀ K : z_KT, z_l K = l → z_D K = D → z_t K = t → z_Rm K = z_rm fr lo mc ms → z_nm K = y.name → Fc K b y.cls n → z_Rl K b mc ms post → Gd K 0 0 0 L0 [] ws) : z_Cl l D t y b n fr lo mc ms args ws post := by
  refine fun sz => Met.ofW (cc := b) (maxL := n) (ret := some .long) hy rfl ?_
  intro p e s m args' below meth c s₁ B hml hv
  obtain ⟨rfl, hsz, hP, hK, hD0⟩ := hv
  have hx := B.exec
  have hb := B.bytes
  have hr := B.returns
  have hts := atoms_spec (ws := z_wy y b n (some .long)) B.pre
  have hown : s.vm.findClass y.cls = some m.cls := findClass_of_methodNamed B.named
  have hlocks := B.notSynchronized
  have hin : meth.name = y.name := (name_of_methodNamed B.named B.method).1
  subst hsz
  have hD := hD0.self (sz := s.heap.size)
  have hl := lv_entry args (n := n) hle
  rw [lg_entry_eq]
  generalize (lg_sl args ++ List.replicate (n - (lg_sl args).length) Slot.unset).toArray = ls at hl ⊢
  rw [← hL, ← hn] at hl
  refine body (p, l, e, z_rm fr lo mc ms, s, m, args.toArray, below, meth, c, va_A ws s.heap.size, s.heap, _, D, t) rfl rfl rfl rfl hin ⟨hx, hb, hml, hown, fun w hw => hts w (List.mem_cons_of_mem _ hw), hK, fun q h => Or.inr h⟩ ?_ s.heap [] ls hP hD va_S.rf hl
  intro pc L r ws' d hpost H locs ls' hP' hD' hS' hl'
  exact W.lret hx hb hr (fun t' ht hW => ⟨⟨zL r, ws', rfl, ⟨r, rfl, hpost⟩, by rw [ht]; exact hP', va_K.moved hW.alike hK, hD'⟩, hS'.F ht⟩) hS'.2.2 d
theorem z_Cv_of {l : Launch} {D : va_G} {t : Nat → ClassId} {y : MethodName} {b : ByteArray} {n : Nat} {fr lo mc ms : Nat} {args : List Value} {ws : va_W} {post : va_W → Prop} (hy : plainName y.cls = true) (L0 : List (Option Value)) (hL : z_asc 0 L0 = lv_args 0 args) (hn : L0.length = n) (hle : (lg_sl args).length ≤ n)
    (body : ∀ K : z_KT, z_l K = l → z_D K = D → z_t K = t → z_Rm K = z_rm fr lo mc ms → z_nm K = y.name → Fc K b y.cls n → z_Rv K b mc ms post → Gd K 0 0 0 L0 [] ws) : z_Cv l D t y b n fr lo mc ms args ws post := by
  refine fun sz => Met.ofW (cc := b) (maxL := n) (ret := none) hy rfl ?_
  intro p e s m args' below meth c s₁ B hml hv
  obtain ⟨rfl, hsz, hP, hK, hD0⟩ := hv
  have hx := B.exec
  have hb := B.bytes
  have hr := B.returns
  have hts := atoms_spec (ws := z_wy y b n none) B.pre
  have hown : s.vm.findClass y.cls = some m.cls := findClass_of_methodNamed B.named
  have hlocks := B.notSynchronized
  have hin : meth.name = y.name := (name_of_methodNamed B.named B.method).1
  subst hsz
  have hD := hD0.self (sz := s.heap.size)
  have hl := lv_entry args (n := n) hle
  rw [lg_entry_eq]
  generalize (lg_sl args ++ List.replicate (n - (lg_sl args).length) Slot.unset).toArray = ls at hl ⊢
  rw [← hL, ← hn] at hl
  refine body (p, l, e, z_rm fr lo mc ms, s, m, args.toArray, below, meth, c, va_A ws s.heap.size, s.heap, _, D, t) rfl rfl rfl rfl hin ⟨hx, hb, hml, hown, fun w hw => hts w (List.mem_cons_of_mem _ hw), hK, fun q h => Or.inr h⟩ ?_ s.heap [] ls hP hD va_S.rf hl
  intro pc L ws' d hpost H locs ls' hP' hD' hS' hl'
  exact W.vret hx hb hr (fun t' ht hW => ⟨⟨ws', rfl, hpost, by rw [ht]; exact hP', va_K.moved hW.alike hK, hD'⟩, hS'.F ht⟩) hS'.2.2 d
theorem z_blind {D : va_G} {t : Nat → ClassId} {ws : va_W} {sz : Nat} {av : List Value} : FrameBlind (va_Pc av (z_pre D t ws sz)) := fun a U g mk q => by
  obtain ⟨q0, q1, qP, qK, qD⟩ := q
  exact ⟨q0, q1, qP, va_K.moved (u := U) (U := U.calling g mk a) (Vm.Alike.refl U.vm) qK, qD⟩
theorem z_allow {A : Nat → Prop} {ws wc : va_W} {H0 H : Heap} {locs : List Loc} (hD : va_D A ws) (hS : va_S A H0 H locs) (hA : ∀ q, H0.size ≤ q → A q) (hw : ∀ q ∈ wc, q ∈ ws) : ∀ q, va_A wc H.size q → A q := by
  intro q h
  rcases h with ⟨k, e, h⟩ | h
  · obtain ⟨j, hj⟩ := List.getElem?_of_mem (hw _ (List.mem_of_getElem? h))
    exact hD.2 j (q, e) hj
  · exact hA q (Nat.le_trans hS.1 h)
section ZC
variable {K : z_KT} {cc : ByteArray} {own : String} {nL cells slots pc : Nat} {L : List (Option Value)} {st rest : List Value} {ws : va_W}
/-- a call on an object, an int answer, the callee's world the caller's whole world -/
theorem z_callV (C : Fc K cc own nL) {idx : Nat} (d : decode cc pc = .ok (.invokevirtual idx, 3)) {y : MethodName} {b : ByteArray} {n : Nat} {ty : FieldType} {fr lo mc ms a : Nat} {As : List Value} {post : Int → va_W → Prop} (hM : z_Ci (z_l K) (z_D K) (z_t K) y b n ty fr lo mc ms (.ref a :: As) ws post) (hc : z_cV y b n (some ty) As.length) (hlk : Cond.methodLink own idx y ∈ wsL_law) (hst : st = As.reverse ++ .ref a :: rest) (q0 ci : Nat) {q : vw_C} {fs : List Value} (he : ws[q0]? = some (a, .inr (ci, fs))) (hq : vwCl[ci]? = some q) (hqc : q.1 = y.cls) (hL : L.length = nL) {fR lR cR sR : Nat} (hR : z_Rm K = z_rm fR lR cR sR) (hr : Nat.ble (fr + 1) fR = true ∧ Nat.ble (8 + (n + 11) + lo) lR = true ∧ Nat.ble (cells + mc) cR = true ∧ Nat.ble (slots + ms) sR = true) (hcat : Nat.ble (rest.map fun v => v.category).sum 8 = true)
    (k : ∀ (r : Int) (w : va_W), post r w → Gd K (cells + mc) (slots + ms) (pc + 3) L (.int (zI r) :: rest) w) : Gd K cells slots pc L st ws := by
  subst hst
  obtain ⟨p, l, e, R, s, m, args, below, meth, c, A, H0, Q, D, t⟩ := K
  obtain ⟨hx, hb, hml, ho, hts, hK, hA⟩ := C
  obtain ⟨c1, c2, c3, c4, c5⟩ := hc
  obtain rfl : R = z_rm fR lR cR sR := hR
  intro H locs ls hP hD hS hl
  have hF := z_allow hD hS hA (wc := ws) fun _ h => h
  refine va_calli (va_runV ⟨hx, hb, hml, ho, hts⟩ (hM H.size) (cwV As.length hts (z_goodIn (ws := wsV own idx y.cls y (z_wy y b n (some ty))) fun w hw => ?_) rfl rfl rfl ⟨rfl, c5⟩ ⟨Nat.le_of_ble_eq_true hr.1, Nat.le_of_ble_eq_true hr.2.1⟩) ⟨z_blind, ?_, fun U hU hW => ⟨rfl, by rw [hU], by rw [hU]; exact hP, va_K.moved hW.alike hK, hD.weaken (fun _ _ _ _ => trivial)⟩⟩ rfl rfl (by show ls.size = nL; rw [hl.1]; exact hL) rfl (lv_room (Nat.le_of_ble_eq_true hcat)) d ⟨Nat.le_of_ble_eq_true hr.2.2.1, Nat.le_of_ble_eq_true hr.2.2.2⟩) hS (fun q _ h => hF q h) hF (fun r u T H1 locs1 ht hvm hw hB hz1 hk1 hS => ?_)
  · rcases List.mem_append.mp hw with h | h
    · simp only [List.mem_cons, List.not_mem_nil, or_false] at h
      rcases h with rfl | rfl | rfl | rfl
      · exact hlk
      · exact c1
      · exact c2
      · exact c3
    · rcases List.mem_cons.mp h with rfl | h
      · exact c4
      · exact h
  · rw [← hqc]; exact va_recv hK hP hq he
  · obtain ⟨z, rfl, hpost⟩ := hw
    obtain ⟨hP1, hK1, hD1⟩ := hB
    rw [ht] at hP1
    exact k z u hpost H1 locs1 ls hP1 (hD1.weaken fun _ q _ h => hF q.1 h) hS hl
theorem z_callVl (C : Fc K cc own nL) {idx : Nat} (d : decode cc pc = .ok (.invokevirtual idx, 3)) {y : MethodName} {b : ByteArray} {n : Nat} {fr lo mc ms a : Nat} {As : List Value} {post : Int → va_W → Prop} (hM : z_Cl (z_l K) (z_D K) (z_t K) y b n fr lo mc ms (.ref a :: As) ws post) (hc : z_cV y b n (some .long) As.length) (hlk : Cond.methodLink own idx y ∈ wsL_law) (hst : st = As.reverse ++ .ref a :: rest) (q0 ci : Nat) {q : vw_C} {fs : List Value} (he : ws[q0]? = some (a, .inr (ci, fs))) (hq : vwCl[ci]? = some q) (hqc : q.1 = y.cls) (hL : L.length = nL) {fR lR cR sR : Nat} (hR : z_Rm K = z_rm fR lR cR sR) (hr : Nat.ble (fr + 1) fR = true ∧ Nat.ble (8 + (n + 11) + lo) lR = true ∧ Nat.ble (cells + mc) cR = true ∧ Nat.ble (slots + ms) sR = true) (hcat : Nat.ble (rest.map fun v => v.category).sum 8 = true)
    (k : ∀ (r : Int) (w : va_W), post r w → Gd K (cells + mc) (slots + ms) (pc + 3) L (.long (zL r) :: rest) w) : Gd K cells slots pc L st ws := by
  subst hst
  obtain ⟨p, l, e, R, s, m, args, below, meth, c, A, H0, Q, D, t⟩ := K
  obtain ⟨hx, hb, hml, ho, hts, hK, hA⟩ := C
  obtain ⟨c1, c2, c3, c4, c5⟩ := hc
  obtain rfl : R = z_rm fR lR cR sR := hR
  intro H locs ls hP hD hS hl
  have hF := z_allow hD hS hA (wc := ws) fun _ h => h
  refine va_calll (va_runV ⟨hx, hb, hml, ho, hts⟩ (hM H.size) (cwV As.length hts (z_goodIn (ws := wsV own idx y.cls y (z_wy y b n (some .long))) fun w hw => ?_) rfl rfl rfl ⟨rfl, c5⟩ ⟨Nat.le_of_ble_eq_true hr.1, Nat.le_of_ble_eq_true hr.2.1⟩) ⟨z_blind, ?_, fun U hU hW => ⟨rfl, by rw [hU], by rw [hU]; exact hP, va_K.moved hW.alike hK, hD.weaken (fun _ _ _ _ => trivial)⟩⟩ rfl rfl (by show ls.size = nL; rw [hl.1]; exact hL) rfl (lv_room (Nat.le_of_ble_eq_true hcat)) d ⟨Nat.le_of_ble_eq_true hr.2.2.1, Nat.le_of_ble_eq_true hr.2.2.2⟩) hS (fun q _ h => hF q h) hF (fun r u T H1 locs1 ht hvm hw hB hz1 hk1 hS => ?_)
  · rcases List.mem_append.mp hw with h | h
    · simp only [List.mem_cons, List.not_mem_nil, or_false] at h
      rcases h with rfl | rfl | rfl | rfl
      · exact hlk
      · exact c1
      · exact c2
      · exact c3
    · rcases List.mem_cons.mp h with rfl | h
      · exact c4
      · exact h
  · rw [← hqc]; exact va_recv hK hP hq he
  · obtain ⟨z, rfl, hpost⟩ := hw
    obtain ⟨hP1, hK1, hD1⟩ := hB
    rw [ht] at hP1
    exact k z u hpost H1 locs1 ls hP1 (hD1.weaken fun _ q _ h => hF q.1 h) hS hl
theorem z_callVv (C : Fc K cc own nL) {idx : Nat} (d : decode cc pc = .ok (.invokevirtual idx, 3)) {y : MethodName} {b : ByteArray} {n : Nat} {fr lo mc ms a : Nat} {As : List Value} {post : va_W → Prop} (hM : z_Cv (z_l K) (z_D K) (z_t K) y b n fr lo mc ms (.ref a :: As) ws post) (hc : z_cV y b n none As.length) (hlk : Cond.methodLink own idx y ∈ wsL_law) (hst : st = As.reverse ++ .ref a :: rest) (q0 ci : Nat) {q : vw_C} {fs : List Value} (he : ws[q0]? = some (a, .inr (ci, fs))) (hq : vwCl[ci]? = some q) (hqc : q.1 = y.cls) (hL : L.length = nL) {fR lR cR sR : Nat} (hR : z_Rm K = z_rm fR lR cR sR) (hr : Nat.ble (fr + 1) fR = true ∧ Nat.ble (8 + (n + 11) + lo) lR = true ∧ Nat.ble (cells + mc) cR = true ∧ Nat.ble (slots + ms) sR = true) (hcat : Nat.ble (rest.map fun v => v.category).sum 8 = true)
    (k : ∀ (w : va_W), post w → Gd K (cells + mc) (slots + ms) (pc + 3) L rest w) : Gd K cells slots pc L st ws := by
  subst hst
  obtain ⟨p, l, e, R, s, m, args, below, meth, c, A, H0, Q, D, t⟩ := K
  obtain ⟨hx, hb, hml, ho, hts, hK, hA⟩ := C
  obtain ⟨c1, c2, c3, c4, c5⟩ := hc
  obtain rfl : R = z_rm fR lR cR sR := hR
  intro H locs ls hP hD hS hl
  have hF := z_allow hD hS hA (wc := ws) fun _ h => h
  refine va_callv (va_runV ⟨hx, hb, hml, ho, hts⟩ (hM H.size) (cwV As.length hts (z_goodIn (ws := wsV own idx y.cls y (z_wy y b n none)) fun w hw => ?_) rfl rfl rfl ⟨rfl, c5⟩ ⟨Nat.le_of_ble_eq_true hr.1, Nat.le_of_ble_eq_true hr.2.1⟩) ⟨z_blind, ?_, fun U hU hW => ⟨rfl, by rw [hU], by rw [hU]; exact hP, va_K.moved hW.alike hK, hD.weaken (fun _ _ _ _ => trivial)⟩⟩ rfl rfl (by show ls.size = nL; rw [hl.1]; exact hL) rfl (lv_room (Nat.le_of_ble_eq_true hcat)) d ⟨Nat.le_of_ble_eq_true hr.2.2.1, Nat.le_of_ble_eq_true hr.2.2.2⟩) hS (fun q _ h => hF q h) hF (fun u T H1 locs1 ht hvm hw hB hz1 hk1 hS => ?_)
  · rcases List.mem_append.mp hw with h | h
    · simp only [List.mem_cons, List.not_mem_nil, or_false] at h
      rcases h with rfl | rfl | rfl | rfl
      · exact hlk
      · exact c1
      · exact c2
      · exact c3
    · rcases List.mem_cons.mp h with rfl | h
      · exact c4
      · exact h
  · rw [← hqc]; exact va_recv hK hP hq he
  · obtain ⟨hP1, hK1, hD1⟩ := hB
    rw [ht] at hP1
    exact k u hw H1 locs1 ls hP1 (hD1.weaken fun _ q _ h => hF q.1 h) hS hl
theorem z_callS (C : Fc K cc own nL) {idx : Nat} (d : decode cc pc = .ok (.invokestatic idx, 3)) {y : MethodName} {b : ByteArray} {n : Nat} {ty : FieldType} {fr lo mc ms : Nat} {As : List Value} {post : Int → va_W → Prop} (hM : z_Ci (z_l K) (z_D K) (z_t K) y b n ty fr lo mc ms As ws post) (hc : z_cS y b n (some ty) As.length) (hlk : Cond.methodLink own idx y ∈ wsL_law) (hst : st = As.reverse ++ rest) (hL : L.length = nL) {fR lR cR sR : Nat} (hR : z_Rm K = z_rm fR lR cR sR) (hr : Nat.ble (fr + 1) fR = true ∧ Nat.ble (8 + (n + 11) + lo) lR = true ∧ Nat.ble (cells + mc) cR = true ∧ Nat.ble (slots + ms) sR = true) (hcat : Nat.ble (rest.map fun v => v.category).sum 8 = true)
    (k : ∀ (r : Int) (w : va_W), post r w → Gd K (cells + mc) (slots + ms) (pc + 3) L (.int (zI r) :: rest) w) : Gd K cells slots pc L st ws := by
  subst hst
  obtain ⟨p, l, e, R, s, m, args, below, meth, c, A, H0, Q, D, t⟩ := K
  obtain ⟨hx, hb, hml, ho, hts, hK, hA⟩ := C
  obtain ⟨c1, c2, c3, c5⟩ := hc
  obtain rfl : R = z_rm fR lR cR sR := hR
  intro H locs ls hP hD hS hl
  have hF := z_allow hD hS hA (wc := ws) fun _ h => h
  refine va_calli (va_runS ⟨hx, hb, hml, ho, hts⟩ (hM H.size) (va_cwS As.length hts (z_goodIn (ws := va_wsS own idx y (z_wy y b n (some ty))) fun w hw => ?_) rfl rfl rfl c5 ⟨Nat.le_of_ble_eq_true hr.1, Nat.le_of_ble_eq_true hr.2.1⟩) ⟨z_blind, fun U hU hW => ⟨rfl, by rw [hU], by rw [hU]; exact hP, va_K.moved hW.alike hK, hD.weaken (fun _ _ _ _ => trivial)⟩⟩ rfl rfl (by show ls.size = nL; rw [hl.1]; exact hL) rfl (lv_room (Nat.le_of_ble_eq_true hcat)) d ⟨Nat.le_of_ble_eq_true hr.2.2.1, Nat.le_of_ble_eq_true hr.2.2.2⟩) hS (fun q _ h => hF q h) hF (fun r u T H1 locs1 ht hvm hw hB hz1 hk1 hS => ?_)
  · rcases List.mem_append.mp hw with h | h
    · simp only [List.mem_cons, List.not_mem_nil, or_false] at h
      rcases h with rfl | rfl | rfl
      · exact hlk
      · exact c1
      · exact c2
    · rcases List.mem_cons.mp h with rfl | h
      · exact c3
      · exact h
  · obtain ⟨z, rfl, hpost⟩ := hw
    obtain ⟨hP1, hK1, hD1⟩ := hB
    rw [ht] at hP1
    exact k z u hpost H1 locs1 ls hP1 (hD1.weaken fun _ q _ h => hF q.1 h) hS hl
theorem z_callSv (C : Fc K cc own nL) {idx : Nat} (d : decode cc pc = .ok (.invokestatic idx, 3)) {y : MethodName} {b : ByteArray} {n : Nat} {fr lo mc ms : Nat} {As : List Value} {post : va_W → Prop} (hM : z_Cv (z_l K) (z_D K) (z_t K) y b n fr lo mc ms As ws post) (hc : z_cS y b n none As.length) (hlk : Cond.methodLink own idx y ∈ wsL_law) (hst : st = As.reverse ++ rest) (hL : L.length = nL) {fR lR cR sR : Nat} (hR : z_Rm K = z_rm fR lR cR sR) (hr : Nat.ble (fr + 1) fR = true ∧ Nat.ble (8 + (n + 11) + lo) lR = true ∧ Nat.ble (cells + mc) cR = true ∧ Nat.ble (slots + ms) sR = true) (hcat : Nat.ble (rest.map fun v => v.category).sum 8 = true)
    (k : ∀ (w : va_W), post w → Gd K (cells + mc) (slots + ms) (pc + 3) L rest w) : Gd K cells slots pc L st ws := by
  subst hst
  obtain ⟨p, l, e, R, s, m, args, below, meth, c, A, H0, Q, D, t⟩ := K
  obtain ⟨hx, hb, hml, ho, hts, hK, hA⟩ := C
  obtain ⟨c1, c2, c3, c5⟩ := hc
  obtain rfl : R = z_rm fR lR cR sR := hR
  intro H locs ls hP hD hS hl
  have hF := z_allow hD hS hA (wc := ws) fun _ h => h
  refine va_callv (va_runS ⟨hx, hb, hml, ho, hts⟩ (hM H.size) (va_cwS As.length hts (z_goodIn (ws := va_wsS own idx y (z_wy y b n none)) fun w hw => ?_) rfl rfl rfl c5 ⟨Nat.le_of_ble_eq_true hr.1, Nat.le_of_ble_eq_true hr.2.1⟩) ⟨z_blind, fun U hU hW => ⟨rfl, by rw [hU], by rw [hU]; exact hP, va_K.moved hW.alike hK, hD.weaken (fun _ _ _ _ => trivial)⟩⟩ rfl rfl (by show ls.size = nL; rw [hl.1]; exact hL) rfl (lv_room (Nat.le_of_ble_eq_true hcat)) d ⟨Nat.le_of_ble_eq_true hr.2.2.1, Nat.le_of_ble_eq_true hr.2.2.2⟩) hS (fun q _ h => hF q h) hF (fun u T H1 locs1 ht hvm hw hB hz1 hk1 hS => ?_)
  · rcases List.mem_append.mp hw with h | h
    · simp only [List.mem_cons, List.not_mem_nil, or_false] at h
      rcases h with rfl | rfl | rfl
      · exact hlk
      · exact c1
      · exact c2
    · rcases List.mem_cons.mp h with rfl | h
      · exact c3
      · exact h
  · obtain ⟨hP1, hK1, hD1⟩ := hB
    rw [ht] at hP1
    exact k u hw H1 locs1 ls hP1 (hD1.weaken fun _ q _ h => hF q.1 h) hS hl
end ZC
end
section
/-! THE WORLDS: what the cells of the system (wX) and of the reference (wM) are, as a picture of a memory of whole numbers -/
abbrev zMem : Type := Nat → Int → Int
def zS (σ : zMem) (k : Nat) (F : Int → Int) : zMem := fun k' => bif Nat.beq k' k then F else σ k'
def zC (x : Int) : Int → Int := fun _ => x
def zR (t : Nat → ClassId) (k n : Nat) (F : Int → Int) : va_E := .inl (t k, n, .inl (fun j : Nat => zI (F j)))
def zJ (t : Nat → ClassId) (n : Nat) (F : Int → Int) : va_E := .inl (t 1, n, .inr (.inl (fun j : Nat => zL (F j))))
def zQ (t : Nat → ClassId) (k n : Nat) (f : Nat → Option Nat) : va_E := .inl (t k, n, .inr (.inr (.inr (.inr f))))
def shO (ad : Nat → Nat) (σ : zMem) (z : Int) : va_E := .inr (5, [.int (zI (1 - σ 16 z)), .int (zI (σ 17 z)), .int (zI (σ 40 z)), .ref (ad (26 + z.toNat))])
def shA (t : Nat → ClassId) (σ : zMem) (z : Int) : va_E := .inl (t 0, 240, .inl (fun j : Nat => zI (σ 20 (240 * z + j))))
def arO (σ : zMem) (z : Int) : va_E := .inr (0, [.int (zI (σ 50 (5 * z))), .int (zI (σ 50 (5 * z + 1))), .int (zI (σ 50 (5 * z + 2))), .int (zI (σ 50 (5 * z + 3))), .int (zI (σ 50 (5 * z + 4)))])
def arF (σ : zMem) : Nat → Option Nat := fun j => if σ 51 j < 0 then none else some (σ 48 (σ 51 j)).toNat
def wXf (ad : Nat → Nat) (t : Nat → ClassId) (σ : zMem) : va_W := [(ad 0, .inr (7, [.ref (ad 1), .ref (ad 2), .ref (ad 3), .ref (ad 4), .ref (ad 5), .ref (ad 6), .ref (ad 7), .int (zI (σ 14 0)), .int (zI (σ 19 0))])), (ad 1, .inr (3, [.int (zI (σ 0 0)), .int (zI (σ 1 0)), .int (zI (σ 2 0)), .int (zI (σ 31 0)), .int (zI (σ 32 0)), .int (zI (σ 3 0)), .ref (ad 8), .ref (ad 9), .ref (ad 10), .ref (ad 11), .ref (ad 12), .ref (ad 13)])), (ad 2, .inr (4, [.int (zI (σ 30 0)), .ref (ad 14)])), (ad 3, .inr (1, [.int (zI (σ 36 0)), .ref (ad 15), .ref (ad 16), .ref (ad 17)])), (ad 4, .inr (6, [.ref (ad 18), .ref (ad 19)])), (ad 5, .inr (2, [.int (zI (σ 12 0)), .int (zI (σ 11 0)), .ref (ad 20), .ref (ad 21)])), (ad 6, zQ t 3 4 (fun j => some (ad (22 + j)))), (ad 7, zR t 0 30 (σ 15)), (ad 8, zR t 2 72 (σ 4)), (ad 9, zR t 2 72 (σ 5)), (ad 10, zR t 2 36 (σ 6)), (ad 11, zR t 0 504 (σ 33)), (ad 12, zR t 0 72 (σ 34)), (ad 13, zR t 0 72 (σ 35)), (ad 14, zR t 0 6336 (σ 8)), (ad 15, zR t 0 72 (σ 9)), (ad 16, zJ t 72 (σ 37)), (ad 17, zJ t 72 (σ 38)), (ad 18, zR t 0 30 (σ 39)), (ad 19, zR t 0 2160 (σ 41)), (ad 20, zR t 0 20 (σ 10)), (ad 21, zQ t 4 30 (arF σ)), (ad 22, shO ad σ 0), (ad 23, shO ad σ 1), (ad 24, shO ad σ 2), (ad 25, shO ad σ 3), (ad 26, shA t σ 0), (ad 27, shA t σ 1), (ad 28, shA t σ 2), (ad 29, shA t σ 3)]
def wXa (σ : zMem) : va_W := (List.range (σ 49 0).toNat).map (fun j : Nat => ((σ 48 j).toNat, arO σ j))
def wX (ad : Nat → Nat) (t : Nat → ClassId) (σ : zMem) : va_W := wXf ad t σ ++ wXa σ
def wM (ad : Nat → Nat) (t : Nat → ClassId) (σ : zMem) : va_W := [(ad 0, .inr (8, [.int (zI (σ 0 0)), .int (zI (σ 1 0)), .int (zI (σ 2 0)), .int (zI (σ 60 0)), .ref (ad 1), .ref (ad 2), .ref (ad 3), .int (zI (σ 3 0)), .ref (ad 4), .ref (ad 5), .ref (ad 6), .ref (ad 7), .ref (ad 8), .ref (ad 9), .ref (ad 10), .ref (ad 11), .int (zI (σ 14 0)), .ref (ad 12), .ref (ad 13), .ref (ad 14), .int (zI (σ 11 0)), .int (zI (σ 12 0)), .ref (ad 15), .ref (ad 16), .ref (ad 17), .ref (ad 18), .ref (ad 19), .ref (ad 20), .int (zI (σ 19 0))])), (ad 1, zR t 2 108 (σ 4)), (ad 2, zR t 2 108 (σ 5)), (ad 3, zR t 2 36 (σ 6)), (ad 4, zR t 2 8 (σ 7)), (ad 5, zR t 0 6336 (σ 8)), (ad 6, zR t 0 72 (σ 9)), (ad 7, zR t 0 20 (σ 10)), (ad 8, zR t 0 72 (σ 61)), (ad 9, zJ t 72 (σ 62)), (ad 10, zJ t 72 (σ 63)), (ad 11, zR t 0 72 (σ 64)), (ad 12, zR t 0 30 (σ 15)), (ad 13, zR t 0 30 (σ 65)), (ad 14, zR t 0 2160 (σ 66)), (ad 15, zR t 0 150 (σ 13)), (ad 16, zR t 2 4 (σ 16)), (ad 17, zR t 0 4 (σ 17)), (ad 18, zR t 0 4 (σ 18)), (ad 19, zR t 0 960 (σ 20)), (ad 20, zR t 0 240 (σ 67))]
theorem wX_sh {ad : Nat → Nat} {t : Nat → ClassId} {σ : zMem} {z : Int} (h : 0 ≤ z ∧ z < 4) : (wX ad t σ)[22 + z.toNat]? = some (ad (22 + z.toNat), shO ad σ z) := by
  rcases (show z = 0 ∨ z = 1 ∨ z = 2 ∨ z = 3 by omega) with rfl | rfl | rfl | rfl <;> rfl
theorem wX_si {ad : Nat → Nat} {t : Nat → ClassId} {σ : zMem} {z : Int} (h : 0 ≤ z ∧ z < 4) : (wX ad t σ)[26 + z.toNat]? = some (ad (26 + z.toNat), shA t σ z) := by
  rcases (show z = 0 ∨ z = 1 ∨ z = 2 ∨ z = 3 by omega) with rfl | rfl | rfl | rfl <;> rfl
theorem wX_ar {ad : Nat → Nat} {t : Nat → ClassId} {σ : zMem} {z : Int} (h : 0 ≤ z ∧ z < σ 49 0) : (wX ad t σ)[30 + z.toNat]? = some ((σ 48 z).toNat, arO σ z) := by
  show (wXf ad t σ ++ wXa σ)[30 + z.toNat]? = _
  rw [List.getElem?_append_right (by show 30 ≤ _; omega), show 30 + z.toNat - (wXf ad t σ).length = z.toNat from by show 30 + z.toNat - 30 = _; omega]
  unfold wXa
  rw [List.getElem?_map, List.getElem?_range (by omega)]
  simp only [Option.map_some]
  rw [Int.toNat_of_nonneg h.1]
section ZW
variable {K : z_KT} {cc : ByteArray} {nL cells slots pc : Nat} {L : List (Option Value)} {rest : List Value} {ad : Nat → Nat} {σ : zMem}
theorem gf_X0_7 (C : Fc K cc RX0 nL) {z : Int} (hz : 0 ≤ z ∧ z < σ 49 0) (d : decode cc pc = .ok (.getfield 7, 3)) (k : Gd K cells slots (pc + 3) L (.int (zI (σ 50 (5 * z))) :: rest) (wX ad (z_t K) σ)) : Gd K cells slots pc L (.ref (σ 48 z).toNat :: rest) (wX ad (z_t K) σ) := z_get C 0 (30 + z.toNat) 0 d inlX0 (wX_ar hz) rfl (by decide) gw_30_15 rfl rfl k
theorem gf_X0_13 (C : Fc K cc RX0 nL) {z : Int} (hz : 0 ≤ z ∧ z < σ 49 0) (d : decode cc pc = .ok (.getfield 13, 3)) (k : Gd K cells slots (pc + 3) L (.int (zI (σ 50 (5 * z + 1))) :: rest) (wX ad (z_t K) σ)) : Gd K cells slots pc L (.ref (σ 48 z).toNat :: rest) (wX ad (z_t K) σ) := z_get C 0 (30 + z.toNat) 1 d inlX0 (wX_ar hz) rfl (by decide) gw_30_16 rfl rfl k
theorem gf_X0_16 (C : Fc K cc RX0 nL) {z : Int} (hz : 0 ≤ z ∧ z < σ 49 0) (d : decode cc pc = .ok (.getfield 16, 3)) (k : Gd K cells slots (pc + 3) L (.int (zI (σ 50 (5 * z + 2))) :: rest) (wX ad (z_t K) σ)) : Gd K cells slots pc L (.ref (σ 48 z).toNat :: rest) (wX ad (z_t K) σ) := z_get C 0 (30 + z.toNat) 2 d inlX0 (wX_ar hz) rfl (by decide) gw_30_17 rfl rfl k
theorem gf_X0_19 (C : Fc K cc RX0 nL) {z : Int} (hz : 0 ≤ z ∧ z < σ 49 0) (d : decode cc pc = .ok (.getfield 19, 3)) (k : Gd K cells slots (pc + 3) L (.int (zI (σ 50 (5 * z + 3))) :: rest) (wX ad (z_t K) σ)) : Gd K cells slots pc L (.ref (σ 48 z).toNat :: rest) (wX ad (z_t K) σ) := z_get C 0 (30 + z.toNat) 3 d inlX0 (wX_ar hz) rfl (by decide) gw_30_18 rfl rfl k
theorem gf_X0_22 (C : Fc K cc RX0 nL) {z : Int} (hz : 0 ≤ z ∧ z < σ 49 0) (d : decode cc pc = .ok (.getfield 22, 3)) (k : Gd K cells slots (pc + 3) L (.int (zI (σ 50 (5 * z + 4))) :: rest) (wX ad (z_t K) σ)) : Gd K cells slots pc L (.ref (σ 48 z).toNat :: rest) (wX ad (z_t K) σ) := z_get C 0 (30 + z.toNat) 4 d inlX0 (wX_ar hz) rfl (by decide) gw_30_19 rfl rfl k
theorem gf_X1_9 (C : Fc K cc RX1 nL) (d : decode cc pc = .ok (.getfield 9, 3)) (k : Gd K cells slots (pc + 3) L (.int (zI (σ 36 0)) :: rest) (wX ad (z_t K) σ)) : Gd K cells slots pc L (.ref (ad 3) :: rest) (wX ad (z_t K) σ) := z_get C 1 3 0 d inlX1 rfl rfl (by decide) gw_3_16 rfl rfl k
theorem pf_X1_9 (C : Fc K cc RX1 nL) {x : Int} (d : decode cc pc = .ok (.putfield 9, 3)) (k : Gd K cells slots (pc + 3) L rest (wX ad (z_t K) (zS σ 36 (zC x)))) : Gd K cells slots pc L (.int (zI x) :: .ref (ad 3) :: rest) (wX ad (z_t K) σ) := z_put C 1 3 0 d inlX1 tyX1 tyX1_ok nmX1 rfl rfl (by decide) gw_3_16 rfl rfl (ty := .int) (by decide +kernel) rfl rfl (by show _ < 4; decide) (z_ws (ws' := wX ad (z_t K) (zS σ 36 (zC x))) rfl k)
theorem gf_X1_15 (C : Fc K cc RX1 nL) (d : decode cc pc = .ok (.getfield 15, 3)) (k : Gd K cells slots (pc + 3) L (.ref (ad 15) :: rest) (wX ad (z_t K) σ)) : Gd K cells slots pc L (.ref (ad 3) :: rest) (wX ad (z_t K) σ) := z_get C 1 3 1 d inlX1 rfl rfl (by decide) gw_3_17 rfl rfl k
theorem gf_X1_19 (C : Fc K cc RX1 nL) (d : decode cc pc = .ok (.getfield 19, 3)) (k : Gd K cells slots (pc + 3) L (.ref (ad 16) :: rest) (wX ad (z_t K) σ)) : Gd K cells slots pc L (.ref (ad 3) :: rest) (wX ad (z_t K) σ) := z_get C 1 3 2 d inlX1 rfl rfl (by decide) gw_3_19 rfl rfl k
theorem gf_X1_23 (C : Fc K cc RX1 nL) (d : decode cc pc = .ok (.getfield 23, 3)) (k : Gd K cells slots (pc + 3) L (.ref (ad 17) :: rest) (wX ad (z_t K) σ)) : Gd K cells slots pc L (.ref (ad 3) :: rest) (wX ad (z_t K) σ) := z_get C 1 3 3 d inlX1 rfl rfl (by decide) gw_3_20 rfl rfl k
theorem gf_X2_9 (C : Fc K cc RX2 nL) (d : decode cc pc = .ok (.getfield 9, 3)) (k : Gd K cells slots (pc + 3) L (.int (zI (σ 12 0)) :: rest) (wX ad (z_t K) σ)) : Gd K cells slots pc L (.ref (ad 5) :: rest) (wX ad (z_t K) σ) := z_get C 2 5 0 d inlX2 rfl rfl (by decide) gw_4_5 rfl rfl k
theorem pf_X2_9 (C : Fc K cc RX2 nL) {x : Int} (d : decode cc pc = .ok (.putfield 9, 3)) (k : Gd K cells slots (pc + 3) L rest (wX ad (z_t K) (zS σ 12 (zC x)))) : Gd K cells slots pc L (.int (zI x) :: .ref (ad 5) :: rest) (wX ad (z_t K) σ) := z_put C 2 5 0 d inlX2 tyX2 tyX2_ok nmX2 rfl rfl (by decide) gw_4_5 rfl rfl (ty := .int) (by decide +kernel) rfl rfl (by show _ < 4; decide) (z_ws (ws' := wX ad (z_t K) (zS σ 12 (zC x))) rfl k)
theorem gf_X2_15 (C : Fc K cc RX2 nL) (d : decode cc pc = .ok (.getfield 15, 3)) (k : Gd K cells slots (pc + 3) L (.int (zI (σ 11 0)) :: rest) (wX ad (z_t K) σ)) : Gd K cells slots pc L (.ref (ad 5) :: rest) (wX ad (z_t K) σ) := z_get C 2 5 1 d inlX2 rfl rfl (by decide) gw_4_6 rfl rfl k
theorem pf_X2_15 (C : Fc K cc RX2 nL) {x : Int} (d : decode cc pc = .ok (.putfield 15, 3)) (k : Gd K cells slots (pc + 3) L rest (wX ad (z_t K) (zS σ 11 (zC x)))) : Gd K cells slots pc L (.int (zI x) :: .ref (ad 5) :: rest) (wX ad (z_t K) σ) := z_put C 2 5 1 d inlX2 tyX2 tyX2_ok nmX2 rfl rfl (by decide) gw_4_6 rfl rfl (ty := .int) (by decide +kernel) rfl rfl (by show _ < 4; decide) (z_ws (ws' := wX ad (z_t K) (zS σ 11 (zC x))) rfl k)
theorem gf_X2_18 (C : Fc K cc RX2 nL) (d : decode cc pc = .ok (.getfield 18, 3)) (k : Gd K cells slots (pc + 3) L (.ref (ad 20) :: rest) (wX ad (z_t K) σ)) : Gd K cells slots pc L (.ref (ad 5) :: rest) (wX ad (z_t K) σ) := z_get C 2 5 2 d inlX2 rfl rfl (by decide) gw_4_7 rfl rfl k
theorem gf_X2_24 (C : Fc K cc RX2 nL) (d : decode cc pc = .ok (.getfield 24, 3)) (k : Gd K cells slots (pc + 3) L (.ref (ad 21) :: rest) (wX ad (z_t K) σ)) : Gd K cells slots pc L (.ref (ad 5) :: rest) (wX ad (z_t K) σ) := z_get C 2 5 3 d inlX2 rfl rfl (by decide) gw_4_9 rfl rfl k
theorem gf_X3_9 (C : Fc K cc RX3 nL) (d : decode cc pc = .ok (.getfield 9, 3)) (k : Gd K cells slots (pc + 3) L (.int (zI (σ 0 0)) :: rest) (wX ad (z_t K) σ)) : Gd K cells slots pc L (.ref (ad 1) :: rest) (wX ad (z_t K) σ) := z_get C 3 1 0 d inlX3 rfl rfl (by decide) gw_2_19 rfl rfl k
theorem pf_X3_9 (C : Fc K cc RX3 nL) {x : Int} (d : decode cc pc = .ok (.putfield 9, 3)) (k : Gd K cells slots (pc + 3) L rest (wX ad (z_t K) (zS σ 0 (zC x)))) : Gd K cells slots pc L (.int (zI x) :: .ref (ad 1) :: rest) (wX ad (z_t K) σ) := z_put C 3 1 0 d inlX3 tyX3 tyX3_ok nmX3 rfl rfl (by decide) gw_2_19 rfl rfl (ty := .int) (by decide +kernel) rfl rfl (by show _ < 12; decide) (z_ws (ws' := wX ad (z_t K) (zS σ 0 (zC x))) rfl k)
theorem gf_X3_15 (C : Fc K cc RX3 nL) (d : decode cc pc = .ok (.getfield 15, 3)) (k : Gd K cells slots (pc + 3) L (.int (zI (σ 1 0)) :: rest) (wX ad (z_t K) σ)) : Gd K cells slots pc L (.ref (ad 1) :: rest) (wX ad (z_t K) σ) := z_get C 3 1 1 d inlX3 rfl rfl (by decide) gw_2_20 rfl rfl k
theorem pf_X3_15 (C : Fc K cc RX3 nL) {x : Int} (d : decode cc pc = .ok (.putfield 15, 3)) (k : Gd K cells slots (pc + 3) L rest (wX ad (z_t K) (zS σ 1 (zC x)))) : Gd K cells slots pc L (.int (zI x) :: .ref (ad 1) :: rest) (wX ad (z_t K) σ) := z_put C 3 1 1 d inlX3 tyX3 tyX3_ok nmX3 rfl rfl (by decide) gw_2_20 rfl rfl (ty := .int) (by decide +kernel) rfl rfl (by show _ < 12; decide) (z_ws (ws' := wX ad (z_t K) (zS σ 1 (zC x))) rfl k)
theorem gf_X3_18 (C : Fc K cc RX3 nL) (d : decode cc pc = .ok (.getfield 18, 3)) (k : Gd K cells slots (pc + 3) L (.int (zI (σ 2 0)) :: rest) (wX ad (z_t K) σ)) : Gd K cells slots pc L (.ref (ad 1) :: rest) (wX ad (z_t K) σ) := z_get C 3 1 2 d inlX3 rfl rfl (by decide) gw_2_21 rfl rfl k
theorem pf_X3_18 (C : Fc K cc RX3 nL) {x : Int} (d : decode cc pc = .ok (.putfield 18, 3)) (k : Gd K cells slots (pc + 3) L rest (wX ad (z_t K) (zS σ 2 (zC x)))) : Gd K cells slots pc L (.int (zI x) :: .ref (ad 1) :: rest) (wX ad (z_t K) σ) := z_put C 3 1 2 d inlX3 tyX3 tyX3_ok nmX3 rfl rfl (by decide) gw_2_21 rfl rfl (ty := .int) (by decide +kernel) rfl rfl (by show _ < 12; decide) (z_ws (ws' := wX ad (z_t K) (zS σ 2 (zC x))) rfl k)
theorem gf_X3_21 (C : Fc K cc RX3 nL) (d : decode cc pc = .ok (.getfield 21, 3)) (k : Gd K cells slots (pc + 3) L (.int (zI (σ 31 0)) :: rest) (wX ad (z_t K) σ)) : Gd K cells slots pc L (.ref (ad 1) :: rest) (wX ad (z_t K) σ) := z_get C 3 1 3 d inlX3 rfl rfl (by decide) gw_2_22 rfl rfl k
theorem pf_X3_21 (C : Fc K cc RX3 nL) {x : Int} (d : decode cc pc = .ok (.putfield 21, 3)) (k : Gd K cells slots (pc + 3) L rest (wX ad (z_t K) (zS σ 31 (zC x)))) : Gd K cells slots pc L (.int (zI x) :: .ref (ad 1) :: rest) (wX ad (z_t K) σ) := z_put C 3 1 3 d inlX3 tyX3 tyX3_ok nmX3 rfl rfl (by decide) gw_2_22 rfl rfl (ty := .int) (by decide +kernel) rfl rfl (by show _ < 12; decide) (z_ws (ws' := wX ad (z_t K) (zS σ 31 (zC x))) rfl k)
theorem gf_X3_24 (C : Fc K cc RX3 nL) (d : decode cc pc = .ok (.getfield 24, 3)) (k : Gd K cells slots (pc + 3) L (.int (zI (σ 32 0)) :: rest) (wX ad (z_t K) σ)) : Gd K cells slots pc L (.ref (ad 1) :: rest) (wX ad (z_t K) σ) := z_get C 3 1 4 d inlX3 rfl rfl (by decide) gw_2_23 rfl rfl k
theorem pf_X3_24 (C : Fc K cc RX3 nL) {x : Int} (d : decode cc pc = .ok (.putfield 24, 3)) (k : Gd K cells slots (pc + 3) L rest (wX ad (z_t K) (zS σ 32 (zC x)))) : Gd K cells slots pc L (.int (zI x) :: .ref (ad 1) :: rest) (wX ad (z_t K) σ) := z_put C 3 1 4 d inlX3 tyX3 tyX3_ok nmX3 rfl rfl (by decide) gw_2_23 rfl rfl (ty := .int) (by decide +kernel) rfl rfl (by show _ < 12; decide) (z_ws (ws' := wX ad (z_t K) (zS σ 32 (zC x))) rfl k)
theorem gf_X3_27 (C : Fc K cc RX3 nL) (d : decode cc pc = .ok (.getfield 27, 3)) (k : Gd K cells slots (pc + 3) L (.int (zI (σ 3 0)) :: rest) (wX ad (z_t K) σ)) : Gd K cells slots pc L (.ref (ad 1) :: rest) (wX ad (z_t K) σ) := z_get C 3 1 5 d inlX3 rfl rfl (by decide) gw_3_0 rfl rfl k
theorem pf_X3_27 (C : Fc K cc RX3 nL) {x : Int} (d : decode cc pc = .ok (.putfield 27, 3)) (k : Gd K cells slots (pc + 3) L rest (wX ad (z_t K) (zS σ 3 (zC x)))) : Gd K cells slots pc L (.int (zI x) :: .ref (ad 1) :: rest) (wX ad (z_t K) σ) := z_put C 3 1 5 d inlX3 tyX3 tyX3_ok nmX3 rfl rfl (by decide) gw_3_0 rfl rfl (ty := .int) (by decide +kernel) rfl rfl (by show _ < 12; decide) (z_ws (ws' := wX ad (z_t K) (zS σ 3 (zC x))) rfl k)
theorem gf_X3_30 (C : Fc K cc RX3 nL) (d : decode cc pc = .ok (.getfield 30, 3)) (k : Gd K cells slots (pc + 3) L (.ref (ad 8) :: rest) (wX ad (z_t K) σ)) : Gd K cells slots pc L (.ref (ad 1) :: rest) (wX ad (z_t K) σ) := z_get C 3 1 6 d inlX3 rfl rfl (by decide) gw_3_2 rfl rfl k
theorem gf_X3_34 (C : Fc K cc RX3 nL) (d : decode cc pc = .ok (.getfield 34, 3)) (k : Gd K cells slots (pc + 3) L (.ref (ad 9) :: rest) (wX ad (z_t K) σ)) : Gd K cells slots pc L (.ref (ad 1) :: rest) (wX ad (z_t K) σ) := z_get C 3 1 7 d inlX3 rfl rfl (by decide) gw_3_3 rfl rfl k
theorem gf_X3_37 (C : Fc K cc RX3 nL) (d : decode cc pc = .ok (.getfield 37, 3)) (k : Gd K cells slots (pc + 3) L (.ref (ad 10) :: rest) (wX ad (z_t K) σ)) : Gd K cells slots pc L (.ref (ad 1) :: rest) (wX ad (z_t K) σ) := z_get C 3 1 8 d inlX3 rfl rfl (by decide) gw_3_4 rfl rfl k
theorem gf_X3_40 (C : Fc K cc RX3 nL) (d : decode cc pc = .ok (.getfield 40, 3)) (k : Gd K cells slots (pc + 3) L (.ref (ad 11) :: rest) (wX ad (z_t K) σ)) : Gd K cells slots pc L (.ref (ad 1) :: rest) (wX ad (z_t K) σ) := z_get C 3 1 9 d inlX3 rfl rfl (by decide) gw_3_5 rfl rfl k
theorem gf_X3_44 (C : Fc K cc RX3 nL) (d : decode cc pc = .ok (.getfield 44, 3)) (k : Gd K cells slots (pc + 3) L (.ref (ad 12) :: rest) (wX ad (z_t K) σ)) : Gd K cells slots pc L (.ref (ad 1) :: rest) (wX ad (z_t K) σ) := z_get C 3 1 10 d inlX3 rfl rfl (by decide) gw_3_6 rfl rfl k
theorem gf_X3_47 (C : Fc K cc RX3 nL) (d : decode cc pc = .ok (.getfield 47, 3)) (k : Gd K cells slots (pc + 3) L (.ref (ad 13) :: rest) (wX ad (z_t K) σ)) : Gd K cells slots pc L (.ref (ad 1) :: rest) (wX ad (z_t K) σ) := z_get C 3 1 11 d inlX3 rfl rfl (by decide) gw_3_7 rfl rfl k
theorem gf_X4_9 (C : Fc K cc RX4 nL) (d : decode cc pc = .ok (.getfield 9, 3)) (k : Gd K cells slots (pc + 3) L (.int (zI (σ 30 0)) :: rest) (wX ad (z_t K) σ)) : Gd K cells slots pc L (.ref (ad 2) :: rest) (wX ad (z_t K) σ) := z_get C 4 2 0 d inlX4 rfl rfl (by decide) gw_3_11 rfl rfl k
theorem pf_X4_9 (C : Fc K cc RX4 nL) {x : Int} (d : decode cc pc = .ok (.putfield 9, 3)) (k : Gd K cells slots (pc + 3) L rest (wX ad (z_t K) (zS σ 30 (zC x)))) : Gd K cells slots pc L (.int (zI x) :: .ref (ad 2) :: rest) (wX ad (z_t K) σ) := z_put C 4 2 0 d inlX4 tyX4 tyX4_ok nmX4 rfl rfl (by decide) gw_3_11 rfl rfl (ty := .int) (by decide +kernel) rfl rfl (by show _ < 2; decide) (z_ws (ws' := wX ad (z_t K) (zS σ 30 (zC x))) rfl k)
theorem gf_X4_15 (C : Fc K cc RX4 nL) (d : decode cc pc = .ok (.getfield 15, 3)) (k : Gd K cells slots (pc + 3) L (.ref (ad 14) :: rest) (wX ad (z_t K) σ)) : Gd K cells slots pc L (.ref (ad 2) :: rest) (wX ad (z_t K) σ) := z_get C 4 2 1 d inlX4 rfl rfl (by decide) gw_3_12 rfl rfl k
theorem pf_X5_9 (C : Fc K cc RX5 nL) {z x : Int} (hz : 0 ≤ z ∧ z < 4) (h01 : x = 0 ∨ x = 1) (d : decode cc pc = .ok (.putfield 9, 3)) (k : Gd K cells slots (pc + 3) L rest (wX ad (z_t K) (zS σ 16 (zU (σ 16) z x)))) : Gd K cells slots pc L (.int (zI (1 - x)) :: .ref (ad (22 + z.toNat)) :: rest) (wX ad (z_t K) σ) := by
  refine z_put C 5 (22 + z.toNat) 0 d inlX5 tyX5 tyX5_ok nmX5 (wX_sh hz) rfl (by decide) gw_4_13 rfl rfl (ty := .boolean) (by decide +kernel) (by rcases h01 with rfl | rfl <;> decide +kernel) (by rcases h01 with rfl | rfl <;> decide +kernel) (by show _ < 4; decide) (z_ws (ws' := wX ad (z_t K) (zS σ 16 (zU (σ 16) z x))) ?_ k)
  rcases (show z = 0 ∨ z = 1 ∨ z = 2 ∨ z = 3 by omega) with rfl | rfl | rfl | rfl <;> rfl
theorem gf_X5_15 (C : Fc K cc RX5 nL) {z : Int} (hz : 0 ≤ z ∧ z < 4) (d : decode cc pc = .ok (.getfield 15, 3)) (k : Gd K cells slots (pc + 3) L (.int (zI (σ 17 z)) :: rest) (wX ad (z_t K) σ)) : Gd K cells slots pc L (.ref (ad (22 + z.toNat)) :: rest) (wX ad (z_t K) σ) := z_get C 5 (22 + z.toNat) 1 d inlX5 (wX_sh hz) rfl (by decide) gw_4_14 rfl rfl k
theorem pf_X5_15 (C : Fc K cc RX5 nL) {z x : Int} (hz : 0 ≤ z ∧ z < 4) (d : decode cc pc = .ok (.putfield 15, 3)) (k : Gd K cells slots (pc + 3) L rest (wX ad (z_t K) (zS σ 17 (zU (σ 17) z x)))) : Gd K cells slots pc L (.int (zI x) :: .ref (ad (22 + z.toNat)) :: rest) (wX ad (z_t K) σ) := by
  refine z_put C 5 (22 + z.toNat) 1 d inlX5 tyX5 tyX5_ok nmX5 (wX_sh hz) rfl (by decide) gw_4_14 rfl rfl (ty := .int) (by decide +kernel) rfl rfl (by show _ < 4; decide) (z_ws (ws' := wX ad (z_t K) (zS σ 17 (zU (σ 17) z x))) ?_ k)
  rcases (show z = 0 ∨ z = 1 ∨ z = 2 ∨ z = 3 by omega) with rfl | rfl | rfl | rfl <;> rfl
theorem gf_X5_19 (C : Fc K cc RX5 nL) {z : Int} (hz : 0 ≤ z ∧ z < 4) (d : decode cc pc = .ok (.getfield 19, 3)) (k : Gd K cells slots (pc + 3) L (.int (zI (σ 40 z)) :: rest) (wX ad (z_t K) σ)) : Gd K cells slots pc L (.ref (ad (22 + z.toNat)) :: rest) (wX ad (z_t K) σ) := z_get C 5 (22 + z.toNat) 2 d inlX5 (wX_sh hz) rfl (by decide) gw_4_15 rfl rfl k
theorem pf_X5_19 (C : Fc K cc RX5 nL) {z x : Int} (hz : 0 ≤ z ∧ z < 4) (d : decode cc pc = .ok (.putfield 19, 3)) (k : Gd K cells slots (pc + 3) L rest (wX ad (z_t K) (zS σ 40 (zU (σ 40) z x)))) : Gd K cells slots pc L (.int (zI x) :: .ref (ad (22 + z.toNat)) :: rest) (wX ad (z_t K) σ) := by
  refine z_put C 5 (22 + z.toNat) 2 d inlX5 tyX5 tyX5_ok nmX5 (wX_sh hz) rfl (by decide) gw_4_15 rfl rfl (ty := .int) (by decide +kernel) rfl rfl (by show _ < 4; decide) (z_ws (ws' := wX ad (z_t K) (zS σ 40 (zU (σ 40) z x))) ?_ k)
  rcases (show z = 0 ∨ z = 1 ∨ z = 2 ∨ z = 3 by omega) with rfl | rfl | rfl | rfl <;> rfl
theorem gf_X5_22 (C : Fc K cc RX5 nL) {z : Int} (hz : 0 ≤ z ∧ z < 4) (d : decode cc pc = .ok (.getfield 22, 3)) (k : Gd K cells slots (pc + 3) L (.ref (ad (26 + z.toNat)) :: rest) (wX ad (z_t K) σ)) : Gd K cells slots pc L (.ref (ad (22 + z.toNat)) :: rest) (wX ad (z_t K) σ) := z_get C 5 (22 + z.toNat) 3 d inlX5 (wX_sh hz) rfl (by decide) gw_4_16 rfl rfl k
theorem gf_X6_9 (C : Fc K cc RX6 nL) (d : decode cc pc = .ok (.getfield 9, 3)) (k : Gd K cells slots (pc + 3) L (.ref (ad 18) :: rest) (wX ad (z_t K) σ)) : Gd K cells slots pc L (.ref (ad 4) :: rest) (wX ad (z_t K) σ) := z_get C 6 4 0 d inlX6 rfl rfl (by decide) gw_4_0 rfl rfl k
theorem gf_X6_15 (C : Fc K cc RX6 nL) (d : decode cc pc = .ok (.getfield 15, 3)) (k : Gd K cells slots (pc + 3) L (.ref (ad 19) :: rest) (wX ad (z_t K) σ)) : Gd K cells slots pc L (.ref (ad 4) :: rest) (wX ad (z_t K) σ) := z_get C 6 4 1 d inlX6 rfl rfl (by decide) gw_4_1 rfl rfl k
theorem gf_X7_10 (C : Fc K cc RX7 nL) (d : decode cc pc = .ok (.getfield 10, 3)) (k : Gd K cells slots (pc + 3) L (.ref (ad 1) :: rest) (wX ad (z_t K) σ)) : Gd K cells slots pc L (.ref (ad 0) :: rest) (wX ad (z_t K) σ) := z_get C 7 0 0 d inlX7 rfl rfl (by decide) gw_1_15 rfl rfl k
theorem gf_X7_19 (C : Fc K cc RX7 nL) (d : decode cc pc = .ok (.getfield 19, 3)) (k : Gd K cells slots (pc + 3) L (.ref (ad 2) :: rest) (wX ad (z_t K) σ)) : Gd K cells slots pc L (.ref (ad 0) :: rest) (wX ad (z_t K) σ) := z_get C 7 0 1 d inlX7 rfl rfl (by decide) gw_1_19 rfl rfl k
theorem gf_X7_26 (C : Fc K cc RX7 nL) (d : decode cc pc = .ok (.getfield 26, 3)) (k : Gd K cells slots (pc + 3) L (.ref (ad 3) :: rest) (wX ad (z_t K) σ)) : Gd K cells slots pc L (.ref (ad 0) :: rest) (wX ad (z_t K) σ) := z_get C 7 0 2 d inlX7 rfl rfl (by decide) gw_1_23 rfl rfl k
theorem gf_X7_33 (C : Fc K cc RX7 nL) (d : decode cc pc = .ok (.getfield 33, 3)) (k : Gd K cells slots (pc + 3) L (.ref (ad 4) :: rest) (wX ad (z_t K) σ)) : Gd K cells slots pc L (.ref (ad 0) :: rest) (wX ad (z_t K) σ) := z_get C 7 0 3 d inlX7 rfl rfl (by decide) gw_2_3 rfl rfl k
theorem gf_X7_40 (C : Fc K cc RX7 nL) (d : decode cc pc = .ok (.getfield 40, 3)) (k : Gd K cells slots (pc + 3) L (.ref (ad 5) :: rest) (wX ad (z_t K) σ)) : Gd K cells slots pc L (.ref (ad 0) :: rest) (wX ad (z_t K) σ) := z_get C 7 0 4 d inlX7 rfl rfl (by decide) gw_2_7 rfl rfl k
theorem gf_X7_46 (C : Fc K cc RX7 nL) (d : decode cc pc = .ok (.getfield 46, 3)) (k : Gd K cells slots (pc + 3) L (.ref (ad 6) :: rest) (wX ad (z_t K) σ)) : Gd K cells slots pc L (.ref (ad 0) :: rest) (wX ad (z_t K) σ) := z_get C 7 0 5 d inlX7 rfl rfl (by decide) gw_2_9 rfl rfl k
theorem gf_X7_51 (C : Fc K cc RX7 nL) (d : decode cc pc = .ok (.getfield 51, 3)) (k : Gd K cells slots (pc + 3) L (.ref (ad 7) :: rest) (wX ad (z_t K) σ)) : Gd K cells slots pc L (.ref (ad 0) :: rest) (wX ad (z_t K) σ) := z_get C 7 0 6 d inlX7 rfl rfl (by decide) gw_2_13 rfl rfl k
theorem gf_X7_55 (C : Fc K cc RX7 nL) (d : decode cc pc = .ok (.getfield 55, 3)) (k : Gd K cells slots (pc + 3) L (.int (zI (σ 14 0)) :: rest) (wX ad (z_t K) σ)) : Gd K cells slots pc L (.ref (ad 0) :: rest) (wX ad (z_t K) σ) := z_get C 7 0 7 d inlX7 rfl rfl (by decide) gw_2_14 rfl rfl k
theorem pf_X7_55 (C : Fc K cc RX7 nL) {x : Int} (d : decode cc pc = .ok (.putfield 55, 3)) (k : Gd K cells slots (pc + 3) L rest (wX ad (z_t K) (zS σ 14 (zC x)))) : Gd K cells slots pc L (.int (zI x) :: .ref (ad 0) :: rest) (wX ad (z_t K) σ) := z_put C 7 0 7 d inlX7 tyX7 tyX7_ok nmX7 rfl rfl (by decide) gw_2_14 rfl rfl (ty := .int) (by decide +kernel) rfl rfl (by show _ < 9; decide) (z_ws (ws' := wX ad (z_t K) (zS σ 14 (zC x))) rfl k)
theorem gf_X7_59 (C : Fc K cc RX7 nL) (d : decode cc pc = .ok (.getfield 59, 3)) (k : Gd K cells slots (pc + 3) L (.int (zI (σ 19 0)) :: rest) (wX ad (z_t K) σ)) : Gd K cells slots pc L (.ref (ad 0) :: rest) (wX ad (z_t K) σ) := z_get C 7 0 8 d inlX7 rfl rfl (by decide) gw_2_15 rfl rfl k
theorem pf_X7_59 (C : Fc K cc RX7 nL) {x : Int} (d : decode cc pc = .ok (.putfield 59, 3)) (k : Gd K cells slots (pc + 3) L rest (wX ad (z_t K) (zS σ 19 (zC x)))) : Gd K cells slots pc L (.int (zI x) :: .ref (ad 0) :: rest) (wX ad (z_t K) σ) := z_put C 7 0 8 d inlX7 tyX7 tyX7_ok nmX7 rfl rfl (by decide) gw_2_15 rfl rfl (ty := .int) (by decide +kernel) rfl rfl (by show _ < 9; decide) (z_ws (ws' := wX ad (z_t K) (zS σ 19 (zC x))) rfl k)
theorem gf_X7_209 (C : Fc K cc RX7 nL) {z : Int} (hz : 0 ≤ z ∧ z < 4) (d : decode cc pc = .ok (.getfield 209, 3)) (k : Gd K cells slots (pc + 3) L (.int (zI (1 - σ 16 z)) :: rest) (wX ad (z_t K) σ)) : Gd K cells slots pc L (.ref (ad (22 + z.toNat)) :: rest) (wX ad (z_t K) σ) := z_get C 5 (22 + z.toNat) 0 d inlX5 (wX_sh hz) rfl (by decide) gw_15_15 rfl rfl k
theorem gf_X7_223 (C : Fc K cc RX7 nL) {z : Int} (hz : 0 ≤ z ∧ z < 4) (d : decode cc pc = .ok (.getfield 223, 3)) (k : Gd K cells slots (pc + 3) L (.ref (ad (26 + z.toNat)) :: rest) (wX ad (z_t K) σ)) : Gd K cells slots pc L (.ref (ad (22 + z.toNat)) :: rest) (wX ad (z_t K) σ) := z_get C 5 (22 + z.toNat) 3 d inlX5 (wX_sh hz) rfl (by decide) gw_35_0 rfl rfl k
theorem gf_X7_226 (C : Fc K cc RX7 nL) {z : Int} (hz : 0 ≤ z ∧ z < 4) (d : decode cc pc = .ok (.getfield 226, 3)) (k : Gd K cells slots (pc + 3) L (.int (zI (σ 17 z)) :: rest) (wX ad (z_t K) σ)) : Gd K cells slots pc L (.ref (ad (22 + z.toNat)) :: rest) (wX ad (z_t K) σ) := z_get C 5 (22 + z.toNat) 1 d inlX5 (wX_sh hz) rfl (by decide) gw_34_5 rfl rfl k
theorem gf_X7_238 (C : Fc K cc RX7 nL) (d : decode cc pc = .ok (.getfield 238, 3)) (k : Gd K cells slots (pc + 3) L (.int (zI (σ 0 0)) :: rest) (wX ad (z_t K) σ)) : Gd K cells slots pc L (.ref (ad 1) :: rest) (wX ad (z_t K) σ) := z_get C 3 1 0 d inlX3 rfl rfl (by decide) gw_35_22 rfl rfl k
theorem gf_X7_241 (C : Fc K cc RX7 nL) (d : decode cc pc = .ok (.getfield 241, 3)) (k : Gd K cells slots (pc + 3) L (.int (zI (σ 1 0)) :: rest) (wX ad (z_t K) σ)) : Gd K cells slots pc L (.ref (ad 1) :: rest) (wX ad (z_t K) σ) := z_get C 3 1 1 d inlX3 rfl rfl (by decide) gw_35_23 rfl rfl k
theorem gf_X7_244 (C : Fc K cc RX7 nL) (d : decode cc pc = .ok (.getfield 244, 3)) (k : Gd K cells slots (pc + 3) L (.int (zI (σ 2 0)) :: rest) (wX ad (z_t K) σ)) : Gd K cells slots pc L (.ref (ad 1) :: rest) (wX ad (z_t K) σ) := z_get C 3 1 2 d inlX3 rfl rfl (by decide) gw_36_0 rfl rfl k
theorem gf_X7_247 (C : Fc K cc RX7 nL) (d : decode cc pc = .ok (.getfield 247, 3)) (k : Gd K cells slots (pc + 3) L (.int (zI (σ 31 0)) :: rest) (wX ad (z_t K) σ)) : Gd K cells slots pc L (.ref (ad 1) :: rest) (wX ad (z_t K) σ) := z_get C 3 1 3 d inlX3 rfl rfl (by decide) gw_36_1 rfl rfl k
theorem gf_X7_250 (C : Fc K cc RX7 nL) (d : decode cc pc = .ok (.getfield 250, 3)) (k : Gd K cells slots (pc + 3) L (.int (zI (σ 32 0)) :: rest) (wX ad (z_t K) σ)) : Gd K cells slots pc L (.ref (ad 1) :: rest) (wX ad (z_t K) σ) := z_get C 3 1 4 d inlX3 rfl rfl (by decide) gw_36_2 rfl rfl k
theorem gf_X7_253 (C : Fc K cc RX7 nL) (d : decode cc pc = .ok (.getfield 253, 3)) (k : Gd K cells slots (pc + 3) L (.int (zI (σ 12 0)) :: rest) (wX ad (z_t K) σ)) : Gd K cells slots pc L (.ref (ad 5) :: rest) (wX ad (z_t K) σ) := z_get C 2 5 0 d inlX2 rfl rfl (by decide) gw_36_3 rfl rfl k
theorem gf_X7_256 (C : Fc K cc RX7 nL) (d : decode cc pc = .ok (.getfield 256, 3)) (k : Gd K cells slots (pc + 3) L (.int (zI (σ 3 0)) :: rest) (wX ad (z_t K) σ)) : Gd K cells slots pc L (.ref (ad 1) :: rest) (wX ad (z_t K) σ) := z_get C 3 1 5 d inlX3 rfl rfl (by decide) gw_36_4 rfl rfl k
theorem gf_X7_259 (C : Fc K cc RX7 nL) (d : decode cc pc = .ok (.getfield 259, 3)) (k : Gd K cells slots (pc + 3) L (.int (zI (σ 11 0)) :: rest) (wX ad (z_t K) σ)) : Gd K cells slots pc L (.ref (ad 5) :: rest) (wX ad (z_t K) σ) := z_get C 2 5 1 d inlX2 rfl rfl (by decide) gw_36_5 rfl rfl k
theorem gf_X7_262 (C : Fc K cc RX7 nL) (d : decode cc pc = .ok (.getfield 262, 3)) (k : Gd K cells slots (pc + 3) L (.int (zI (σ 30 0)) :: rest) (wX ad (z_t K) σ)) : Gd K cells slots pc L (.ref (ad 2) :: rest) (wX ad (z_t K) σ) := z_get C 4 2 0 d inlX4 rfl rfl (by decide) gw_36_6 rfl rfl k
theorem gf_X7_287 (C : Fc K cc RX7 nL) {z : Int} (hz : 0 ≤ z ∧ z < 4) (d : decode cc pc = .ok (.getfield 287, 3)) (k : Gd K cells slots (pc + 3) L (.int (zI (σ 40 z)) :: rest) (wX ad (z_t K) σ)) : Gd K cells slots pc L (.ref (ad (22 + z.toNat)) :: rest) (wX ad (z_t K) σ) := z_get C 5 (22 + z.toNat) 2 d inlX5 (wX_sh hz) rfl (by decide) gw_34_6 rfl rfl k
theorem gf_X7_294 (C : Fc K cc RX7 nL) (d : decode cc pc = .ok (.getfield 294, 3)) (k : Gd K cells slots (pc + 3) L (.ref (ad 18) :: rest) (wX ad (z_t K) σ)) : Gd K cells slots pc L (.ref (ad 4) :: rest) (wX ad (z_t K) σ) := z_get C 6 4 0 d inlX6 rfl rfl (by decide) gw_27_4 rfl rfl k
theorem gf_X8_7 (C : Fc K cc RX8 nL) (d : decode cc pc = .ok (.getfield 7, 3)) (k : Gd K cells slots (pc + 3) L (.ref (ad 1) :: rest) (wM ad (z_t K) σ)) : Gd K cells slots pc L (.ref (ad 0) :: rest) (wM ad (z_t K) σ) := z_get C 8 0 4 d inlX8 rfl rfl (by decide) gw_7_12 rfl rfl k
theorem gf_X8_13 (C : Fc K cc RX8 nL) (d : decode cc pc = .ok (.getfield 13, 3)) (k : Gd K cells slots (pc + 3) L (.ref (ad 2) :: rest) (wM ad (z_t K) σ)) : Gd K cells slots pc L (.ref (ad 0) :: rest) (wM ad (z_t K) σ) := z_get C 8 0 5 d inlX8 rfl rfl (by decide) gw_7_13 rfl rfl k
theorem gf_X8_16 (C : Fc K cc RX8 nL) (d : decode cc pc = .ok (.getfield 16, 3)) (k : Gd K cells slots (pc + 3) L (.ref (ad 3) :: rest) (wM ad (z_t K) σ)) : Gd K cells slots pc L (.ref (ad 0) :: rest) (wM ad (z_t K) σ) := z_get C 8 0 6 d inlX8 rfl rfl (by decide) gw_7_14 rfl rfl k
theorem gf_X8_19 (C : Fc K cc RX8 nL) (d : decode cc pc = .ok (.getfield 19, 3)) (k : Gd K cells slots (pc + 3) L (.int (zI (σ 3 0)) :: rest) (wM ad (z_t K) σ)) : Gd K cells slots pc L (.ref (ad 0) :: rest) (wM ad (z_t K) σ) := z_get C 8 0 7 d inlX8 rfl rfl (by decide) gw_7_15 rfl rfl k
theorem pf_X8_19 (C : Fc K cc RX8 nL) {x : Int} (d : decode cc pc = .ok (.putfield 19, 3)) (k : Gd K cells slots (pc + 3) L rest (wM ad (z_t K) (zS σ 3 (zC x)))) : Gd K cells slots pc L (.int (zI x) :: .ref (ad 0) :: rest) (wM ad (z_t K) σ) := z_put C 8 0 7 d inlX8 tyX8 tyX8_ok nmX8 rfl rfl (by decide) gw_7_15 rfl rfl (ty := .int) (by decide +kernel) rfl rfl (by show _ < 29; decide) (z_ws (ws' := wM ad (z_t K) (zS σ 3 (zC x))) rfl k)
theorem gf_X8_23 (C : Fc K cc RX8 nL) (d : decode cc pc = .ok (.getfield 23, 3)) (k : Gd K cells slots (pc + 3) L (.ref (ad 4) :: rest) (wM ad (z_t K) σ)) : Gd K cells slots pc L (.ref (ad 0) :: rest) (wM ad (z_t K) σ) := z_get C 8 0 8 d inlX8 rfl rfl (by decide) gw_7_16 rfl rfl k
theorem gf_X8_26 (C : Fc K cc RX8 nL) (d : decode cc pc = .ok (.getfield 26, 3)) (k : Gd K cells slots (pc + 3) L (.ref (ad 5) :: rest) (wM ad (z_t K) σ)) : Gd K cells slots pc L (.ref (ad 0) :: rest) (wM ad (z_t K) σ) := z_get C 8 0 9 d inlX8 rfl rfl (by decide) gw_7_17 rfl rfl k
theorem gf_X8_30 (C : Fc K cc RX8 nL) (d : decode cc pc = .ok (.getfield 30, 3)) (k : Gd K cells slots (pc + 3) L (.ref (ad 6) :: rest) (wM ad (z_t K) σ)) : Gd K cells slots pc L (.ref (ad 0) :: rest) (wM ad (z_t K) σ) := z_get C 8 0 10 d inlX8 rfl rfl (by decide) gw_7_18 rfl rfl k
theorem gf_X8_33 (C : Fc K cc RX8 nL) (d : decode cc pc = .ok (.getfield 33, 3)) (k : Gd K cells slots (pc + 3) L (.ref (ad 7) :: rest) (wM ad (z_t K) σ)) : Gd K cells slots pc L (.ref (ad 0) :: rest) (wM ad (z_t K) σ) := z_get C 8 0 11 d inlX8 rfl rfl (by decide) gw_7_19 rfl rfl k
theorem gf_X8_36 (C : Fc K cc RX8 nL) (d : decode cc pc = .ok (.getfield 36, 3)) (k : Gd K cells slots (pc + 3) L (.ref (ad 8) :: rest) (wM ad (z_t K) σ)) : Gd K cells slots pc L (.ref (ad 0) :: rest) (wM ad (z_t K) σ) := z_get C 8 0 12 d inlX8 rfl rfl (by decide) gw_7_20 rfl rfl k
theorem gf_X8_39 (C : Fc K cc RX8 nL) (d : decode cc pc = .ok (.getfield 39, 3)) (k : Gd K cells slots (pc + 3) L (.ref (ad 9) :: rest) (wM ad (z_t K) σ)) : Gd K cells slots pc L (.ref (ad 0) :: rest) (wM ad (z_t K) σ) := z_get C 8 0 13 d inlX8 rfl rfl (by decide) gw_7_21 rfl rfl k
theorem gf_X8_43 (C : Fc K cc RX8 nL) (d : decode cc pc = .ok (.getfield 43, 3)) (k : Gd K cells slots (pc + 3) L (.ref (ad 10) :: rest) (wM ad (z_t K) σ)) : Gd K cells slots pc L (.ref (ad 0) :: rest) (wM ad (z_t K) σ) := z_get C 8 0 14 d inlX8 rfl rfl (by decide) gw_7_22 rfl rfl k
theorem gf_X8_46 (C : Fc K cc RX8 nL) (d : decode cc pc = .ok (.getfield 46, 3)) (k : Gd K cells slots (pc + 3) L (.ref (ad 11) :: rest) (wM ad (z_t K) σ)) : Gd K cells slots pc L (.ref (ad 0) :: rest) (wM ad (z_t K) σ) := z_get C 8 0 15 d inlX8 rfl rfl (by decide) gw_7_23 rfl rfl k
theorem gf_X8_49 (C : Fc K cc RX8 nL) (d : decode cc pc = .ok (.getfield 49, 3)) (k : Gd K cells slots (pc + 3) L (.ref (ad 12) :: rest) (wM ad (z_t K) σ)) : Gd K cells slots pc L (.ref (ad 0) :: rest) (wM ad (z_t K) σ) := z_get C 8 0 17 d inlX8 rfl rfl (by decide) gw_8_0 rfl rfl k
theorem gf_X8_52 (C : Fc K cc RX8 nL) (d : decode cc pc = .ok (.getfield 52, 3)) (k : Gd K cells slots (pc + 3) L (.ref (ad 13) :: rest) (wM ad (z_t K) σ)) : Gd K cells slots pc L (.ref (ad 0) :: rest) (wM ad (z_t K) σ) := z_get C 8 0 18 d inlX8 rfl rfl (by decide) gw_8_1 rfl rfl k
theorem gf_X8_55 (C : Fc K cc RX8 nL) (d : decode cc pc = .ok (.getfield 55, 3)) (k : Gd K cells slots (pc + 3) L (.ref (ad 14) :: rest) (wM ad (z_t K) σ)) : Gd K cells slots pc L (.ref (ad 0) :: rest) (wM ad (z_t K) σ) := z_get C 8 0 19 d inlX8 rfl rfl (by decide) gw_8_2 rfl rfl k
theorem gf_X8_58 (C : Fc K cc RX8 nL) (d : decode cc pc = .ok (.getfield 58, 3)) (k : Gd K cells slots (pc + 3) L (.int (zI (σ 11 0)) :: rest) (wM ad (z_t K) σ)) : Gd K cells slots pc L (.ref (ad 0) :: rest) (wM ad (z_t K) σ) := z_get C 8 0 20 d inlX8 rfl rfl (by decide) gw_8_3 rfl rfl k
theorem pf_X8_58 (C : Fc K cc RX8 nL) {x : Int} (d : decode cc pc = .ok (.putfield 58, 3)) (k : Gd K cells slots (pc + 3) L rest (wM ad (z_t K) (zS σ 11 (zC x)))) : Gd K cells slots pc L (.int (zI x) :: .ref (ad 0) :: rest) (wM ad (z_t K) σ) := z_put C 8 0 20 d inlX8 tyX8 tyX8_ok nmX8 rfl rfl (by decide) gw_8_3 rfl rfl (ty := .int) (by decide +kernel) rfl rfl (by show _ < 29; decide) (z_ws (ws' := wM ad (z_t K) (zS σ 11 (zC x))) rfl k)
theorem gf_X8_61 (C : Fc K cc RX8 nL) (d : decode cc pc = .ok (.getfield 61, 3)) (k : Gd K cells slots (pc + 3) L (.ref (ad 15) :: rest) (wM ad (z_t K) σ)) : Gd K cells slots pc L (.ref (ad 0) :: rest) (wM ad (z_t K) σ) := z_get C 8 0 22 d inlX8 rfl rfl (by decide) gw_8_4 rfl rfl k
theorem gf_X8_64 (C : Fc K cc RX8 nL) (d : decode cc pc = .ok (.getfield 64, 3)) (k : Gd K cells slots (pc + 3) L (.ref (ad 16) :: rest) (wM ad (z_t K) σ)) : Gd K cells slots pc L (.ref (ad 0) :: rest) (wM ad (z_t K) σ) := z_get C 8 0 23 d inlX8 rfl rfl (by decide) gw_8_5 rfl rfl k
theorem gf_X8_67 (C : Fc K cc RX8 nL) (d : decode cc pc = .ok (.getfield 67, 3)) (k : Gd K cells slots (pc + 3) L (.ref (ad 17) :: rest) (wM ad (z_t K) σ)) : Gd K cells slots pc L (.ref (ad 0) :: rest) (wM ad (z_t K) σ) := z_get C 8 0 24 d inlX8 rfl rfl (by decide) gw_8_6 rfl rfl k
theorem gf_X8_70 (C : Fc K cc RX8 nL) (d : decode cc pc = .ok (.getfield 70, 3)) (k : Gd K cells slots (pc + 3) L (.ref (ad 18) :: rest) (wM ad (z_t K) σ)) : Gd K cells slots pc L (.ref (ad 0) :: rest) (wM ad (z_t K) σ) := z_get C 8 0 25 d inlX8 rfl rfl (by decide) gw_8_7 rfl rfl k
theorem gf_X8_73 (C : Fc K cc RX8 nL) (d : decode cc pc = .ok (.getfield 73, 3)) (k : Gd K cells slots (pc + 3) L (.ref (ad 19) :: rest) (wM ad (z_t K) σ)) : Gd K cells slots pc L (.ref (ad 0) :: rest) (wM ad (z_t K) σ) := z_get C 8 0 26 d inlX8 rfl rfl (by decide) gw_8_8 rfl rfl k
theorem gf_X8_76 (C : Fc K cc RX8 nL) (d : decode cc pc = .ok (.getfield 76, 3)) (k : Gd K cells slots (pc + 3) L (.ref (ad 20) :: rest) (wM ad (z_t K) σ)) : Gd K cells slots pc L (.ref (ad 0) :: rest) (wM ad (z_t K) σ) := z_get C 8 0 27 d inlX8 rfl rfl (by decide) gw_8_9 rfl rfl k
theorem gf_X8_83 (C : Fc K cc RX8 nL) (d : decode cc pc = .ok (.getfield 83, 3)) (k : Gd K cells slots (pc + 3) L (.int (zI (σ 60 0)) :: rest) (wM ad (z_t K) σ)) : Gd K cells slots pc L (.ref (ad 0) :: rest) (wM ad (z_t K) σ) := z_get C 8 0 3 d inlX8 rfl rfl (by decide) gw_8_17 rfl rfl k
theorem pf_X8_83 (C : Fc K cc RX8 nL) {x : Int} (d : decode cc pc = .ok (.putfield 83, 3)) (k : Gd K cells slots (pc + 3) L rest (wM ad (z_t K) (zS σ 60 (zC x)))) : Gd K cells slots pc L (.int (zI x) :: .ref (ad 0) :: rest) (wM ad (z_t K) σ) := z_put C 8 0 3 d inlX8 tyX8 tyX8_ok nmX8 rfl rfl (by decide) gw_8_17 rfl rfl (ty := .int) (by decide +kernel) rfl rfl (by show _ < 29; decide) (z_ws (ws' := wM ad (z_t K) (zS σ 60 (zC x))) rfl k)
theorem gf_X8_90 (C : Fc K cc RX8 nL) (d : decode cc pc = .ok (.getfield 90, 3)) (k : Gd K cells slots (pc + 3) L (.int (zI (σ 0 0)) :: rest) (wM ad (z_t K) σ)) : Gd K cells slots pc L (.ref (ad 0) :: rest) (wM ad (z_t K) σ) := z_get C 8 0 0 d inlX8 rfl rfl (by decide) gw_8_14 rfl rfl k
theorem pf_X8_90 (C : Fc K cc RX8 nL) {x : Int} (d : decode cc pc = .ok (.putfield 90, 3)) (k : Gd K cells slots (pc + 3) L rest (wM ad (z_t K) (zS σ 0 (zC x)))) : Gd K cells slots pc L (.int (zI x) :: .ref (ad 0) :: rest) (wM ad (z_t K) σ) := z_put C 8 0 0 d inlX8 tyX8 tyX8_ok nmX8 rfl rfl (by decide) gw_8_14 rfl rfl (ty := .int) (by decide +kernel) rfl rfl (by show _ < 29; decide) (z_ws (ws' := wM ad (z_t K) (zS σ 0 (zC x))) rfl k)
theorem gf_X8_93 (C : Fc K cc RX8 nL) (d : decode cc pc = .ok (.getfield 93, 3)) (k : Gd K cells slots (pc + 3) L (.int (zI (σ 1 0)) :: rest) (wM ad (z_t K) σ)) : Gd K cells slots pc L (.ref (ad 0) :: rest) (wM ad (z_t K) σ) := z_get C 8 0 1 d inlX8 rfl rfl (by decide) gw_8_15 rfl rfl k
theorem pf_X8_93 (C : Fc K cc RX8 nL) {x : Int} (d : decode cc pc = .ok (.putfield 93, 3)) (k : Gd K cells slots (pc + 3) L rest (wM ad (z_t K) (zS σ 1 (zC x)))) : Gd K cells slots pc L (.int (zI x) :: .ref (ad 0) :: rest) (wM ad (z_t K) σ) := z_put C 8 0 1 d inlX8 tyX8 tyX8_ok nmX8 rfl rfl (by decide) gw_8_15 rfl rfl (ty := .int) (by decide +kernel) rfl rfl (by show _ < 29; decide) (z_ws (ws' := wM ad (z_t K) (zS σ 1 (zC x))) rfl k)
theorem gf_X8_96 (C : Fc K cc RX8 nL) (d : decode cc pc = .ok (.getfield 96, 3)) (k : Gd K cells slots (pc + 3) L (.int (zI (σ 2 0)) :: rest) (wM ad (z_t K) σ)) : Gd K cells slots pc L (.ref (ad 0) :: rest) (wM ad (z_t K) σ) := z_get C 8 0 2 d inlX8 rfl rfl (by decide) gw_8_16 rfl rfl k
theorem pf_X8_96 (C : Fc K cc RX8 nL) {x : Int} (d : decode cc pc = .ok (.putfield 96, 3)) (k : Gd K cells slots (pc + 3) L rest (wM ad (z_t K) (zS σ 2 (zC x)))) : Gd K cells slots pc L (.int (zI x) :: .ref (ad 0) :: rest) (wM ad (z_t K) σ) := z_put C 8 0 2 d inlX8 tyX8 tyX8_ok nmX8 rfl rfl (by decide) gw_8_16 rfl rfl (ty := .int) (by decide +kernel) rfl rfl (by show _ < 29; decide) (z_ws (ws' := wM ad (z_t K) (zS σ 2 (zC x))) rfl k)
theorem gf_X8_99 (C : Fc K cc RX8 nL) (d : decode cc pc = .ok (.getfield 99, 3)) (k : Gd K cells slots (pc + 3) L (.int (zI (σ 12 0)) :: rest) (wM ad (z_t K) σ)) : Gd K cells slots pc L (.ref (ad 0) :: rest) (wM ad (z_t K) σ) := z_get C 8 0 21 d inlX8 rfl rfl (by decide) gw_8_18 rfl rfl k
theorem pf_X8_99 (C : Fc K cc RX8 nL) {x : Int} (d : decode cc pc = .ok (.putfield 99, 3)) (k : Gd K cells slots (pc + 3) L rest (wM ad (z_t K) (zS σ 12 (zC x)))) : Gd K cells slots pc L (.int (zI x) :: .ref (ad 0) :: rest) (wM ad (z_t K) σ) := z_put C 8 0 21 d inlX8 tyX8 tyX8_ok nmX8 rfl rfl (by decide) gw_8_18 rfl rfl (ty := .int) (by decide +kernel) rfl rfl (by show _ < 29; decide) (z_ws (ws' := wM ad (z_t K) (zS σ 12 (zC x))) rfl k)
theorem gf_X8_182 (C : Fc K cc RX8 nL) (d : decode cc pc = .ok (.getfield 182, 3)) (k : Gd K cells slots (pc + 3) L (.int (zI (σ 14 0)) :: rest) (wM ad (z_t K) σ)) : Gd K cells slots pc L (.ref (ad 0) :: rest) (wM ad (z_t K) σ) := z_get C 8 0 16 d inlX8 rfl rfl (by decide) gw_27_21 rfl rfl k
theorem pf_X8_182 (C : Fc K cc RX8 nL) {x : Int} (d : decode cc pc = .ok (.putfield 182, 3)) (k : Gd K cells slots (pc + 3) L rest (wM ad (z_t K) (zS σ 14 (zC x)))) : Gd K cells slots pc L (.int (zI x) :: .ref (ad 0) :: rest) (wM ad (z_t K) σ) := z_put C 8 0 16 d inlX8 tyX8 tyX8_ok nmX8 rfl rfl (by decide) gw_27_21 rfl rfl (ty := .int) (by decide +kernel) rfl rfl (by show _ < 29; decide) (z_ws (ws' := wM ad (z_t K) (zS σ 14 (zC x))) rfl k)
theorem gf_X8_196 (C : Fc K cc RX8 nL) (d : decode cc pc = .ok (.getfield 196, 3)) (k : Gd K cells slots (pc + 3) L (.int (zI (σ 19 0)) :: rest) (wM ad (z_t K) σ)) : Gd K cells slots pc L (.ref (ad 0) :: rest) (wM ad (z_t K) σ) := z_get C 8 0 28 d inlX8 rfl rfl (by decide) gw_17_7 rfl rfl k
theorem pf_X8_196 (C : Fc K cc RX8 nL) {x : Int} (d : decode cc pc = .ok (.putfield 196, 3)) (k : Gd K cells slots (pc + 3) L rest (wM ad (z_t K) (zS σ 19 (zC x)))) : Gd K cells slots pc L (.int (zI x) :: .ref (ad 0) :: rest) (wM ad (z_t K) σ) := z_put C 8 0 28 d inlX8 tyX8 tyX8_ok nmX8 rfl rfl (by decide) gw_17_7 rfl rfl (ty := .int) (by decide +kernel) rfl rfl (by show _ < 29; decide) (z_ws (ws' := wM ad (z_t K) (zS σ 19 (zC x))) rfl k)
theorem al_X7 {own : String} (C : Fc K cc own nL) {i : Int} (d : decode cc pc = .ok (.iaload, 1)) (hi : 0 ≤ i ∧ i < 30) (k : Gd K cells slots (pc + 1) L (.int (zI (σ 15 i)) :: rest) (wX ad (z_t K) σ)) : Gd K cells slots pc L (.int (zI i) :: .ref (ad 7) :: rest) (wX ad (z_t K) σ) := z_iald C d 7 rfl hi (by decide) k
theorem as_X7 {own : String} (C : Fc K cc own nL) {i x : Int} (d : decode cc pc = .ok (.iastore, 1)) (hi : 0 ≤ i ∧ i < 30) (k : Gd K cells slots (pc + 1) L rest (wX ad (z_t K) (zS σ 15 (zU (σ 15) i x)))) : Gd K cells slots pc L (.int (zI (x)) :: .int (zI i) :: .ref (ad 7) :: rest) (wX ad (z_t K) σ) := z_iast C d 7 rfl hi (by decide) (z_ws (ws' := wX ad (z_t K) (zS σ 15 (zU (σ 15) i x))) rfl k)
theorem al_X8 {own : String} (C : Fc K cc own nL) {i : Int} (d : decode cc pc = .ok (.baload, 1)) (hi : 0 ≤ i ∧ i < 72) (k : Gd K cells slots (pc + 1) L (.int (zI (σ 4 i)) :: rest) (wX ad (z_t K) σ)) : Gd K cells slots pc L (.int (zI i) :: .ref (ad 8) :: rest) (wX ad (z_t K) σ) := z_zald C d 8 rfl hi (by decide) k
theorem as_X8 {own : String} (C : Fc K cc own nL) {i x : Int} (d : decode cc pc = .ok (.bastore, 1)) (hi : 0 ≤ i ∧ i < 72) (hx01 : x = 0 ∨ x = 1) (k : Gd K cells slots (pc + 1) L rest (wX ad (z_t K) (zS σ 4 (zU (σ 4) i x)))) : Gd K cells slots pc L (.int (zI (x)) :: .int (zI i) :: .ref (ad 8) :: rest) (wX ad (z_t K) σ) := z_zast C d 8 rfl hi (by decide) hx01 (z_ws (ws' := wX ad (z_t K) (zS σ 4 (zU (σ 4) i x))) rfl k)
theorem al_X9 {own : String} (C : Fc K cc own nL) {i : Int} (d : decode cc pc = .ok (.baload, 1)) (hi : 0 ≤ i ∧ i < 72) (k : Gd K cells slots (pc + 1) L (.int (zI (σ 5 i)) :: rest) (wX ad (z_t K) σ)) : Gd K cells slots pc L (.int (zI i) :: .ref (ad 9) :: rest) (wX ad (z_t K) σ) := z_zald C d 9 rfl hi (by decide) k
theorem as_X9 {own : String} (C : Fc K cc own nL) {i x : Int} (d : decode cc pc = .ok (.bastore, 1)) (hi : 0 ≤ i ∧ i < 72) (hx01 : x = 0 ∨ x = 1) (k : Gd K cells slots (pc + 1) L rest (wX ad (z_t K) (zS σ 5 (zU (σ 5) i x)))) : Gd K cells slots pc L (.int (zI (x)) :: .int (zI i) :: .ref (ad 9) :: rest) (wX ad (z_t K) σ) := z_zast C d 9 rfl hi (by decide) hx01 (z_ws (ws' := wX ad (z_t K) (zS σ 5 (zU (σ 5) i x))) rfl k)
theorem al_X10 {own : String} (C : Fc K cc own nL) {i : Int} (d : decode cc pc = .ok (.baload, 1)) (hi : 0 ≤ i ∧ i < 36) (k : Gd K cells slots (pc + 1) L (.int (zI (σ 6 i)) :: rest) (wX ad (z_t K) σ)) : Gd K cells slots pc L (.int (zI i) :: .ref (ad 10) :: rest) (wX ad (z_t K) σ) := z_zald C d 10 rfl hi (by decide) k
theorem as_X10 {own : String} (C : Fc K cc own nL) {i x : Int} (d : decode cc pc = .ok (.bastore, 1)) (hi : 0 ≤ i ∧ i < 36) (hx01 : x = 0 ∨ x = 1) (k : Gd K cells slots (pc + 1) L rest (wX ad (z_t K) (zS σ 6 (zU (σ 6) i x)))) : Gd K cells slots pc L (.int (zI (x)) :: .int (zI i) :: .ref (ad 10) :: rest) (wX ad (z_t K) σ) := z_zast C d 10 rfl hi (by decide) hx01 (z_ws (ws' := wX ad (z_t K) (zS σ 6 (zU (σ 6) i x))) rfl k)
theorem al_X11 {own : String} (C : Fc K cc own nL) {i : Int} (d : decode cc pc = .ok (.iaload, 1)) (hi : 0 ≤ i ∧ i < 504) (k : Gd K cells slots (pc + 1) L (.int (zI (σ 33 i)) :: rest) (wX ad (z_t K) σ)) : Gd K cells slots pc L (.int (zI i) :: .ref (ad 11) :: rest) (wX ad (z_t K) σ) := z_iald C d 11 rfl hi (by decide) k
theorem as_X11 {own : String} (C : Fc K cc own nL) {i x : Int} (d : decode cc pc = .ok (.iastore, 1)) (hi : 0 ≤ i ∧ i < 504) (k : Gd K cells slots (pc + 1) L rest (wX ad (z_t K) (zS σ 33 (zU (σ 33) i x)))) : Gd K cells slots pc L (.int (zI (x)) :: .int (zI i) :: .ref (ad 11) :: rest) (wX ad (z_t K) σ) := z_iast C d 11 rfl hi (by decide) (z_ws (ws' := wX ad (z_t K) (zS σ 33 (zU (σ 33) i x))) rfl k)
theorem al_X12 {own : String} (C : Fc K cc own nL) {i : Int} (d : decode cc pc = .ok (.iaload, 1)) (hi : 0 ≤ i ∧ i < 72) (k : Gd K cells slots (pc + 1) L (.int (zI (σ 34 i)) :: rest) (wX ad (z_t K) σ)) : Gd K cells slots pc L (.int (zI i) :: .ref (ad 12) :: rest) (wX ad (z_t K) σ) := z_iald C d 12 rfl hi (by decide) k
theorem as_X12 {own : String} (C : Fc K cc own nL) {i x : Int} (d : decode cc pc = .ok (.iastore, 1)) (hi : 0 ≤ i ∧ i < 72) (k : Gd K cells slots (pc + 1) L rest (wX ad (z_t K) (zS σ 34 (zU (σ 34) i x)))) : Gd K cells slots pc L (.int (zI (x)) :: .int (zI i) :: .ref (ad 12) :: rest) (wX ad (z_t K) σ) := z_iast C d 12 rfl hi (by decide) (z_ws (ws' := wX ad (z_t K) (zS σ 34 (zU (σ 34) i x))) rfl k)
theorem al_X13 {own : String} (C : Fc K cc own nL) {i : Int} (d : decode cc pc = .ok (.iaload, 1)) (hi : 0 ≤ i ∧ i < 72) (k : Gd K cells slots (pc + 1) L (.int (zI (σ 35 i)) :: rest) (wX ad (z_t K) σ)) : Gd K cells slots pc L (.int (zI i) :: .ref (ad 13) :: rest) (wX ad (z_t K) σ) := z_iald C d 13 rfl hi (by decide) k
theorem as_X13 {own : String} (C : Fc K cc own nL) {i x : Int} (d : decode cc pc = .ok (.iastore, 1)) (hi : 0 ≤ i ∧ i < 72) (k : Gd K cells slots (pc + 1) L rest (wX ad (z_t K) (zS σ 35 (zU (σ 35) i x)))) : Gd K cells slots pc L (.int (zI (x)) :: .int (zI i) :: .ref (ad 13) :: rest) (wX ad (z_t K) σ) := z_iast C d 13 rfl hi (by decide) (z_ws (ws' := wX ad (z_t K) (zS σ 35 (zU (σ 35) i x))) rfl k)
theorem al_X14 {own : String} (C : Fc K cc own nL) {i : Int} (d : decode cc pc = .ok (.iaload, 1)) (hi : 0 ≤ i ∧ i < 6336) (k : Gd K cells slots (pc + 1) L (.int (zI (σ 8 i)) :: rest) (wX ad (z_t K) σ)) : Gd K cells slots pc L (.int (zI i) :: .ref (ad 14) :: rest) (wX ad (z_t K) σ) := z_iald C d 14 rfl hi (by decide) k
theorem as_X14 {own : String} (C : Fc K cc own nL) {i x : Int} (d : decode cc pc = .ok (.iastore, 1)) (hi : 0 ≤ i ∧ i < 6336) (k : Gd K cells slots (pc + 1) L rest (wX ad (z_t K) (zS σ 8 (zU (σ 8) i x)))) : Gd K cells slots pc L (.int (zI (x)) :: .int (zI i) :: .ref (ad 14) :: rest) (wX ad (z_t K) σ) := z_iast C d 14 rfl hi (by decide) (z_ws (ws' := wX ad (z_t K) (zS σ 8 (zU (σ 8) i x))) rfl k)
theorem al_X15 {own : String} (C : Fc K cc own nL) {i : Int} (d : decode cc pc = .ok (.iaload, 1)) (hi : 0 ≤ i ∧ i < 72) (k : Gd K cells slots (pc + 1) L (.int (zI (σ 9 i)) :: rest) (wX ad (z_t K) σ)) : Gd K cells slots pc L (.int (zI i) :: .ref (ad 15) :: rest) (wX ad (z_t K) σ) := z_iald C d 15 rfl hi (by decide) k
theorem as_X15 {own : String} (C : Fc K cc own nL) {i x : Int} (d : decode cc pc = .ok (.iastore, 1)) (hi : 0 ≤ i ∧ i < 72) (k : Gd K cells slots (pc + 1) L rest (wX ad (z_t K) (zS σ 9 (zU (σ 9) i x)))) : Gd K cells slots pc L (.int (zI (x)) :: .int (zI i) :: .ref (ad 15) :: rest) (wX ad (z_t K) σ) := z_iast C d 15 rfl hi (by decide) (z_ws (ws' := wX ad (z_t K) (zS σ 9 (zU (σ 9) i x))) rfl k)
theorem al_X16 {own : String} (C : Fc K cc own nL) {i : Int} (d : decode cc pc = .ok (.laload, 1)) (hi : 0 ≤ i ∧ i < 72) (k : Gd K cells slots (pc + 1) L (.long (zL (σ 37 i)) :: rest) (wX ad (z_t K) σ)) : Gd K cells slots pc L (.int (zI i) :: .ref (ad 16) :: rest) (wX ad (z_t K) σ) := z_lald C d 16 rfl hi (by decide) k
theorem as_X16 {own : String} (C : Fc K cc own nL) {i x : Int} (d : decode cc pc = .ok (.lastore, 1)) (hi : 0 ≤ i ∧ i < 72) (k : Gd K cells slots (pc + 1) L rest (wX ad (z_t K) (zS σ 37 (zU (σ 37) i x)))) : Gd K cells slots pc L (.long (zL (x)) :: .int (zI i) :: .ref (ad 16) :: rest) (wX ad (z_t K) σ) := z_last C d 16 rfl hi (by decide) (z_ws (ws' := wX ad (z_t K) (zS σ 37 (zU (σ 37) i x))) rfl k)
theorem al_X17 {own : String} (C : Fc K cc own nL) {i : Int} (d : decode cc pc = .ok (.laload, 1)) (hi : 0 ≤ i ∧ i < 72) (k : Gd K cells slots (pc + 1) L (.long (zL (σ 38 i)) :: rest) (wX ad (z_t K) σ)) : Gd K cells slots pc L (.int (zI i) :: .ref (ad 17) :: rest) (wX ad (z_t K) σ) := z_lald C d 17 rfl hi (by decide) k
theorem as_X17 {own : String} (C : Fc K cc own nL) {i x : Int} (d : decode cc pc = .ok (.lastore, 1)) (hi : 0 ≤ i ∧ i < 72) (k : Gd K cells slots (pc + 1) L rest (wX ad (z_t K) (zS σ 38 (zU (σ 38) i x)))) : Gd K cells slots pc L (.long (zL (x)) :: .int (zI i) :: .ref (ad 17) :: rest) (wX ad (z_t K) σ) := z_last C d 17 rfl hi (by decide) (z_ws (ws' := wX ad (z_t K) (zS σ 38 (zU (σ 38) i x))) rfl k)
theorem al_X18 {own : String} (C : Fc K cc own nL) {i : Int} (d : decode cc pc = .ok (.iaload, 1)) (hi : 0 ≤ i ∧ i < 30) (k : Gd K cells slots (pc + 1) L (.int (zI (σ 39 i)) :: rest) (wX ad (z_t K) σ)) : Gd K cells slots pc L (.int (zI i) :: .ref (ad 18) :: rest) (wX ad (z_t K) σ) := z_iald C d 18 rfl hi (by decide) k
theorem as_X18 {own : String} (C : Fc K cc own nL) {i x : Int} (d : decode cc pc = .ok (.iastore, 1)) (hi : 0 ≤ i ∧ i < 30) (k : Gd K cells slots (pc + 1) L rest (wX ad (z_t K) (zS σ 39 (zU (σ 39) i x)))) : Gd K cells slots pc L (.int (zI (x)) :: .int (zI i) :: .ref (ad 18) :: rest) (wX ad (z_t K) σ) := z_iast C d 18 rfl hi (by decide) (z_ws (ws' := wX ad (z_t K) (zS σ 39 (zU (σ 39) i x))) rfl k)
theorem al_X19 {own : String} (C : Fc K cc own nL) {i : Int} (d : decode cc pc = .ok (.iaload, 1)) (hi : 0 ≤ i ∧ i < 2160) (k : Gd K cells slots (pc + 1) L (.int (zI (σ 41 i)) :: rest) (wX ad (z_t K) σ)) : Gd K cells slots pc L (.int (zI i) :: .ref (ad 19) :: rest) (wX ad (z_t K) σ) := z_iald C d 19 rfl hi (by decide) k
theorem as_X19 {own : String} (C : Fc K cc own nL) {i x : Int} (d : decode cc pc = .ok (.iastore, 1)) (hi : 0 ≤ i ∧ i < 2160) (k : Gd K cells slots (pc + 1) L rest (wX ad (z_t K) (zS σ 41 (zU (σ 41) i x)))) : Gd K cells slots pc L (.int (zI (x)) :: .int (zI i) :: .ref (ad 19) :: rest) (wX ad (z_t K) σ) := z_iast C d 19 rfl hi (by decide) (z_ws (ws' := wX ad (z_t K) (zS σ 41 (zU (σ 41) i x))) rfl k)
theorem al_X20 {own : String} (C : Fc K cc own nL) {i : Int} (d : decode cc pc = .ok (.iaload, 1)) (hi : 0 ≤ i ∧ i < 20) (k : Gd K cells slots (pc + 1) L (.int (zI (σ 10 i)) :: rest) (wX ad (z_t K) σ)) : Gd K cells slots pc L (.int (zI i) :: .ref (ad 20) :: rest) (wX ad (z_t K) σ) := z_iald C d 20 rfl hi (by decide) k
theorem as_X20 {own : String} (C : Fc K cc own nL) {i x : Int} (d : decode cc pc = .ok (.iastore, 1)) (hi : 0 ≤ i ∧ i < 20) (k : Gd K cells slots (pc + 1) L rest (wX ad (z_t K) (zS σ 10 (zU (σ 10) i x)))) : Gd K cells slots pc L (.int (zI (x)) :: .int (zI i) :: .ref (ad 20) :: rest) (wX ad (z_t K) σ) := z_iast C d 20 rfl hi (by decide) (z_ws (ws' := wX ad (z_t K) (zS σ 10 (zU (σ 10) i x))) rfl k)
theorem al_M1 {own : String} (C : Fc K cc own nL) {i : Int} (d : decode cc pc = .ok (.baload, 1)) (hi : 0 ≤ i ∧ i < 108) (k : Gd K cells slots (pc + 1) L (.int (zI (σ 4 i)) :: rest) (wM ad (z_t K) σ)) : Gd K cells slots pc L (.int (zI i) :: .ref (ad 1) :: rest) (wM ad (z_t K) σ) := z_zald C d 1 rfl hi (by decide) k
theorem as_M1 {own : String} (C : Fc K cc own nL) {i x : Int} (d : decode cc pc = .ok (.bastore, 1)) (hi : 0 ≤ i ∧ i < 108) (hx01 : x = 0 ∨ x = 1) (k : Gd K cells slots (pc + 1) L rest (wM ad (z_t K) (zS σ 4 (zU (σ 4) i x)))) : Gd K cells slots pc L (.int (zI (x)) :: .int (zI i) :: .ref (ad 1) :: rest) (wM ad (z_t K) σ) := z_zast C d 1 rfl hi (by decide) hx01 (z_ws (ws' := wM ad (z_t K) (zS σ 4 (zU (σ 4) i x))) rfl k)
theorem al_M2 {own : String} (C : Fc K cc own nL) {i : Int} (d : decode cc pc = .ok (.baload, 1)) (hi : 0 ≤ i ∧ i < 108) (k : Gd K cells slots (pc + 1) L (.int (zI (σ 5 i)) :: rest) (wM ad (z_t K) σ)) : Gd K cells slots pc L (.int (zI i) :: .ref (ad 2) :: rest) (wM ad (z_t K) σ) := z_zald C d 2 rfl hi (by decide) k
theorem as_M2 {own : String} (C : Fc K cc own nL) {i x : Int} (d : decode cc pc = .ok (.bastore, 1)) (hi : 0 ≤ i ∧ i < 108) (hx01 : x = 0 ∨ x = 1) (k : Gd K cells slots (pc + 1) L rest (wM ad (z_t K) (zS σ 5 (zU (σ 5) i x)))) : Gd K cells slots pc L (.int (zI (x)) :: .int (zI i) :: .ref (ad 2) :: rest) (wM ad (z_t K) σ) := z_zast C d 2 rfl hi (by decide) hx01 (z_ws (ws' := wM ad (z_t K) (zS σ 5 (zU (σ 5) i x))) rfl k)
theorem al_M3 {own : String} (C : Fc K cc own nL) {i : Int} (d : decode cc pc = .ok (.baload, 1)) (hi : 0 ≤ i ∧ i < 36) (k : Gd K cells slots (pc + 1) L (.int (zI (σ 6 i)) :: rest) (wM ad (z_t K) σ)) : Gd K cells slots pc L (.int (zI i) :: .ref (ad 3) :: rest) (wM ad (z_t K) σ) := z_zald C d 3 rfl hi (by decide) k
theorem as_M3 {own : String} (C : Fc K cc own nL) {i x : Int} (d : decode cc pc = .ok (.bastore, 1)) (hi : 0 ≤ i ∧ i < 36) (hx01 : x = 0 ∨ x = 1) (k : Gd K cells slots (pc + 1) L rest (wM ad (z_t K) (zS σ 6 (zU (σ 6) i x)))) : Gd K cells slots pc L (.int (zI (x)) :: .int (zI i) :: .ref (ad 3) :: rest) (wM ad (z_t K) σ) := z_zast C d 3 rfl hi (by decide) hx01 (z_ws (ws' := wM ad (z_t K) (zS σ 6 (zU (σ 6) i x))) rfl k)
theorem al_M4 {own : String} (C : Fc K cc own nL) {i : Int} (d : decode cc pc = .ok (.baload, 1)) (hi : 0 ≤ i ∧ i < 8) (k : Gd K cells slots (pc + 1) L (.int (zI (σ 7 i)) :: rest) (wM ad (z_t K) σ)) : Gd K cells slots pc L (.int (zI i) :: .ref (ad 4) :: rest) (wM ad (z_t K) σ) := z_zald C d 4 rfl hi (by decide) k
theorem as_M4 {own : String} (C : Fc K cc own nL) {i x : Int} (d : decode cc pc = .ok (.bastore, 1)) (hi : 0 ≤ i ∧ i < 8) (hx01 : x = 0 ∨ x = 1) (k : Gd K cells slots (pc + 1) L rest (wM ad (z_t K) (zS σ 7 (zU (σ 7) i x)))) : Gd K cells slots pc L (.int (zI (x)) :: .int (zI i) :: .ref (ad 4) :: rest) (wM ad (z_t K) σ) := z_zast C d 4 rfl hi (by decide) hx01 (z_ws (ws' := wM ad (z_t K) (zS σ 7 (zU (σ 7) i x))) rfl k)
theorem al_M5 {own : String} (C : Fc K cc own nL) {i : Int} (d : decode cc pc = .ok (.iaload, 1)) (hi : 0 ≤ i ∧ i < 6336) (k : Gd K cells slots (pc + 1) L (.int (zI (σ 8 i)) :: rest) (wM ad (z_t K) σ)) : Gd K cells slots pc L (.int (zI i) :: .ref (ad 5) :: rest) (wM ad (z_t K) σ) := z_iald C d 5 rfl hi (by decide) k
theorem as_M5 {own : String} (C : Fc K cc own nL) {i x : Int} (d : decode cc pc = .ok (.iastore, 1)) (hi : 0 ≤ i ∧ i < 6336) (k : Gd K cells slots (pc + 1) L rest (wM ad (z_t K) (zS σ 8 (zU (σ 8) i x)))) : Gd K cells slots pc L (.int (zI (x)) :: .int (zI i) :: .ref (ad 5) :: rest) (wM ad (z_t K) σ) := z_iast C d 5 rfl hi (by decide) (z_ws (ws' := wM ad (z_t K) (zS σ 8 (zU (σ 8) i x))) rfl k)
theorem al_M6 {own : String} (C : Fc K cc own nL) {i : Int} (d : decode cc pc = .ok (.iaload, 1)) (hi : 0 ≤ i ∧ i < 72) (k : Gd K cells slots (pc + 1) L (.int (zI (σ 9 i)) :: rest) (wM ad (z_t K) σ)) : Gd K cells slots pc L (.int (zI i) :: .ref (ad 6) :: rest) (wM ad (z_t K) σ) := z_iald C d 6 rfl hi (by decide) k
theorem as_M6 {own : String} (C : Fc K cc own nL) {i x : Int} (d : decode cc pc = .ok (.iastore, 1)) (hi : 0 ≤ i ∧ i < 72) (k : Gd K cells slots (pc + 1) L rest (wM ad (z_t K) (zS σ 9 (zU (σ 9) i x)))) : Gd K cells slots pc L (.int (zI (x)) :: .int (zI i) :: .ref (ad 6) :: rest) (wM ad (z_t K) σ) := z_iast C d 6 rfl hi (by decide) (z_ws (ws' := wM ad (z_t K) (zS σ 9 (zU (σ 9) i x))) rfl k)
theorem al_M7 {own : String} (C : Fc K cc own nL) {i : Int} (d : decode cc pc = .ok (.iaload, 1)) (hi : 0 ≤ i ∧ i < 20) (k : Gd K cells slots (pc + 1) L (.int (zI (σ 10 i)) :: rest) (wM ad (z_t K) σ)) : Gd K cells slots pc L (.int (zI i) :: .ref (ad 7) :: rest) (wM ad (z_t K) σ) := z_iald C d 7 rfl hi (by decide) k
theorem as_M7 {own : String} (C : Fc K cc own nL) {i x : Int} (d : decode cc pc = .ok (.iastore, 1)) (hi : 0 ≤ i ∧ i < 20) (k : Gd K cells slots (pc + 1) L rest (wM ad (z_t K) (zS σ 10 (zU (σ 10) i x)))) : Gd K cells slots pc L (.int (zI (x)) :: .int (zI i) :: .ref (ad 7) :: rest) (wM ad (z_t K) σ) := z_iast C d 7 rfl hi (by decide) (z_ws (ws' := wM ad (z_t K) (zS σ 10 (zU (σ 10) i x))) rfl k)
theorem al_M8 {own : String} (C : Fc K cc own nL) {i : Int} (d : decode cc pc = .ok (.iaload, 1)) (hi : 0 ≤ i ∧ i < 72) (k : Gd K cells slots (pc + 1) L (.int (zI (σ 61 i)) :: rest) (wM ad (z_t K) σ)) : Gd K cells slots pc L (.int (zI i) :: .ref (ad 8) :: rest) (wM ad (z_t K) σ) := z_iald C d 8 rfl hi (by decide) k
theorem as_M8 {own : String} (C : Fc K cc own nL) {i x : Int} (d : decode cc pc = .ok (.iastore, 1)) (hi : 0 ≤ i ∧ i < 72) (k : Gd K cells slots (pc + 1) L rest (wM ad (z_t K) (zS σ 61 (zU (σ 61) i x)))) : Gd K cells slots pc L (.int (zI (x)) :: .int (zI i) :: .ref (ad 8) :: rest) (wM ad (z_t K) σ) := z_iast C d 8 rfl hi (by decide) (z_ws (ws' := wM ad (z_t K) (zS σ 61 (zU (σ 61) i x))) rfl k)
theorem al_M9 {own : String} (C : Fc K cc own nL) {i : Int} (d : decode cc pc = .ok (.laload, 1)) (hi : 0 ≤ i ∧ i < 72) (k : Gd K cells slots (pc + 1) L (.long (zL (σ 62 i)) :: rest) (wM ad (z_t K) σ)) : Gd K cells slots pc L (.int (zI i) :: .ref (ad 9) :: rest) (wM ad (z_t K) σ) := z_lald C d 9 rfl hi (by decide) k
theorem as_M9 {own : String} (C : Fc K cc own nL) {i x : Int} (d : decode cc pc = .ok (.lastore, 1)) (hi : 0 ≤ i ∧ i < 72) (k : Gd K cells slots (pc + 1) L rest (wM ad (z_t K) (zS σ 62 (zU (σ 62) i x)))) : Gd K cells slots pc L (.long (zL (x)) :: .int (zI i) :: .ref (ad 9) :: rest) (wM ad (z_t K) σ) := z_last C d 9 rfl hi (by decide) (z_ws (ws' := wM ad (z_t K) (zS σ 62 (zU (σ 62) i x))) rfl k)
theorem al_M10 {own : String} (C : Fc K cc own nL) {i : Int} (d : decode cc pc = .ok (.laload, 1)) (hi : 0 ≤ i ∧ i < 72) (k : Gd K cells slots (pc + 1) L (.long (zL (σ 63 i)) :: rest) (wM ad (z_t K) σ)) : Gd K cells slots pc L (.int (zI i) :: .ref (ad 10) :: rest) (wM ad (z_t K) σ) := z_lald C d 10 rfl hi (by decide) k
theorem as_M10 {own : String} (C : Fc K cc own nL) {i x : Int} (d : decode cc pc = .ok (.lastore, 1)) (hi : 0 ≤ i ∧ i < 72) (k : Gd K cells slots (pc + 1) L rest (wM ad (z_t K) (zS σ 63 (zU (σ 63) i x)))) : Gd K cells slots pc L (.long (zL (x)) :: .int (zI i) :: .ref (ad 10) :: rest) (wM ad (z_t K) σ) := z_last C d 10 rfl hi (by decide) (z_ws (ws' := wM ad (z_t K) (zS σ 63 (zU (σ 63) i x))) rfl k)
theorem al_M11 {own : String} (C : Fc K cc own nL) {i : Int} (d : decode cc pc = .ok (.iaload, 1)) (hi : 0 ≤ i ∧ i < 72) (k : Gd K cells slots (pc + 1) L (.int (zI (σ 64 i)) :: rest) (wM ad (z_t K) σ)) : Gd K cells slots pc L (.int (zI i) :: .ref (ad 11) :: rest) (wM ad (z_t K) σ) := z_iald C d 11 rfl hi (by decide) k
theorem as_M11 {own : String} (C : Fc K cc own nL) {i x : Int} (d : decode cc pc = .ok (.iastore, 1)) (hi : 0 ≤ i ∧ i < 72) (k : Gd K cells slots (pc + 1) L rest (wM ad (z_t K) (zS σ 64 (zU (σ 64) i x)))) : Gd K cells slots pc L (.int (zI (x)) :: .int (zI i) :: .ref (ad 11) :: rest) (wM ad (z_t K) σ) := z_iast C d 11 rfl hi (by decide) (z_ws (ws' := wM ad (z_t K) (zS σ 64 (zU (σ 64) i x))) rfl k)
theorem al_M12 {own : String} (C : Fc K cc own nL) {i : Int} (d : decode cc pc = .ok (.iaload, 1)) (hi : 0 ≤ i ∧ i < 30) (k : Gd K cells slots (pc + 1) L (.int (zI (σ 15 i)) :: rest) (wM ad (z_t K) σ)) : Gd K cells slots pc L (.int (zI i) :: .ref (ad 12) :: rest) (wM ad (z_t K) σ) := z_iald C d 12 rfl hi (by decide) k
theorem as_M12 {own : String} (C : Fc K cc own nL) {i x : Int} (d : decode cc pc = .ok (.iastore, 1)) (hi : 0 ≤ i ∧ i < 30) (k : Gd K cells slots (pc + 1) L rest (wM ad (z_t K) (zS σ 15 (zU (σ 15) i x)))) : Gd K cells slots pc L (.int (zI (x)) :: .int (zI i) :: .ref (ad 12) :: rest) (wM ad (z_t K) σ) := z_iast C d 12 rfl hi (by decide) (z_ws (ws' := wM ad (z_t K) (zS σ 15 (zU (σ 15) i x))) rfl k)
theorem al_M13 {own : String} (C : Fc K cc own nL) {i : Int} (d : decode cc pc = .ok (.iaload, 1)) (hi : 0 ≤ i ∧ i < 30) (k : Gd K cells slots (pc + 1) L (.int (zI (σ 65 i)) :: rest) (wM ad (z_t K) σ)) : Gd K cells slots pc L (.int (zI i) :: .ref (ad 13) :: rest) (wM ad (z_t K) σ) := z_iald C d 13 rfl hi (by decide) k
theorem as_M13 {own : String} (C : Fc K cc own nL) {i x : Int} (d : decode cc pc = .ok (.iastore, 1)) (hi : 0 ≤ i ∧ i < 30) (k : Gd K cells slots (pc + 1) L rest (wM ad (z_t K) (zS σ 65 (zU (σ 65) i x)))) : Gd K cells slots pc L (.int (zI (x)) :: .int (zI i) :: .ref (ad 13) :: rest) (wM ad (z_t K) σ) := z_iast C d 13 rfl hi (by decide) (z_ws (ws' := wM ad (z_t K) (zS σ 65 (zU (σ 65) i x))) rfl k)
theorem al_M14 {own : String} (C : Fc K cc own nL) {i : Int} (d : decode cc pc = .ok (.iaload, 1)) (hi : 0 ≤ i ∧ i < 2160) (k : Gd K cells slots (pc + 1) L (.int (zI (σ 66 i)) :: rest) (wM ad (z_t K) σ)) : Gd K cells slots pc L (.int (zI i) :: .ref (ad 14) :: rest) (wM ad (z_t K) σ) := z_iald C d 14 rfl hi (by decide) k
theorem as_M14 {own : String} (C : Fc K cc own nL) {i x : Int} (d : decode cc pc = .ok (.iastore, 1)) (hi : 0 ≤ i ∧ i < 2160) (k : Gd K cells slots (pc + 1) L rest (wM ad (z_t K) (zS σ 66 (zU (σ 66) i x)))) : Gd K cells slots pc L (.int (zI (x)) :: .int (zI i) :: .ref (ad 14) :: rest) (wM ad (z_t K) σ) := z_iast C d 14 rfl hi (by decide) (z_ws (ws' := wM ad (z_t K) (zS σ 66 (zU (σ 66) i x))) rfl k)
theorem al_M15 {own : String} (C : Fc K cc own nL) {i : Int} (d : decode cc pc = .ok (.iaload, 1)) (hi : 0 ≤ i ∧ i < 150) (k : Gd K cells slots (pc + 1) L (.int (zI (σ 13 i)) :: rest) (wM ad (z_t K) σ)) : Gd K cells slots pc L (.int (zI i) :: .ref (ad 15) :: rest) (wM ad (z_t K) σ) := z_iald C d 15 rfl hi (by decide) k
theorem as_M15 {own : String} (C : Fc K cc own nL) {i x : Int} (d : decode cc pc = .ok (.iastore, 1)) (hi : 0 ≤ i ∧ i < 150) (k : Gd K cells slots (pc + 1) L rest (wM ad (z_t K) (zS σ 13 (zU (σ 13) i x)))) : Gd K cells slots pc L (.int (zI (x)) :: .int (zI i) :: .ref (ad 15) :: rest) (wM ad (z_t K) σ) := z_iast C d 15 rfl hi (by decide) (z_ws (ws' := wM ad (z_t K) (zS σ 13 (zU (σ 13) i x))) rfl k)
theorem al_M16 {own : String} (C : Fc K cc own nL) {i : Int} (d : decode cc pc = .ok (.baload, 1)) (hi : 0 ≤ i ∧ i < 4) (k : Gd K cells slots (pc + 1) L (.int (zI (σ 16 i)) :: rest) (wM ad (z_t K) σ)) : Gd K cells slots pc L (.int (zI i) :: .ref (ad 16) :: rest) (wM ad (z_t K) σ) := z_zald C d 16 rfl hi (by decide) k
theorem as_M16 {own : String} (C : Fc K cc own nL) {i x : Int} (d : decode cc pc = .ok (.bastore, 1)) (hi : 0 ≤ i ∧ i < 4) (hx01 : x = 0 ∨ x = 1) (k : Gd K cells slots (pc + 1) L rest (wM ad (z_t K) (zS σ 16 (zU (σ 16) i x)))) : Gd K cells slots pc L (.int (zI (x)) :: .int (zI i) :: .ref (ad 16) :: rest) (wM ad (z_t K) σ) := z_zast C d 16 rfl hi (by decide) hx01 (z_ws (ws' := wM ad (z_t K) (zS σ 16 (zU (σ 16) i x))) rfl k)
theorem al_M17 {own : String} (C : Fc K cc own nL) {i : Int} (d : decode cc pc = .ok (.iaload, 1)) (hi : 0 ≤ i ∧ i < 4) (k : Gd K cells slots (pc + 1) L (.int (zI (σ 17 i)) :: rest) (wM ad (z_t K) σ)) : Gd K cells slots pc L (.int (zI i) :: .ref (ad 17) :: rest) (wM ad (z_t K) σ) := z_iald C d 17 rfl hi (by decide) k
theorem as_M17 {own : String} (C : Fc K cc own nL) {i x : Int} (d : decode cc pc = .ok (.iastore, 1)) (hi : 0 ≤ i ∧ i < 4) (k : Gd K cells slots (pc + 1) L rest (wM ad (z_t K) (zS σ 17 (zU (σ 17) i x)))) : Gd K cells slots pc L (.int (zI (x)) :: .int (zI i) :: .ref (ad 17) :: rest) (wM ad (z_t K) σ) := z_iast C d 17 rfl hi (by decide) (z_ws (ws' := wM ad (z_t K) (zS σ 17 (zU (σ 17) i x))) rfl k)
theorem al_M18 {own : String} (C : Fc K cc own nL) {i : Int} (d : decode cc pc = .ok (.iaload, 1)) (hi : 0 ≤ i ∧ i < 4) (k : Gd K cells slots (pc + 1) L (.int (zI (σ 18 i)) :: rest) (wM ad (z_t K) σ)) : Gd K cells slots pc L (.int (zI i) :: .ref (ad 18) :: rest) (wM ad (z_t K) σ) := z_iald C d 18 rfl hi (by decide) k
theorem as_M18 {own : String} (C : Fc K cc own nL) {i x : Int} (d : decode cc pc = .ok (.iastore, 1)) (hi : 0 ≤ i ∧ i < 4) (k : Gd K cells slots (pc + 1) L rest (wM ad (z_t K) (zS σ 18 (zU (σ 18) i x)))) : Gd K cells slots pc L (.int (zI (x)) :: .int (zI i) :: .ref (ad 18) :: rest) (wM ad (z_t K) σ) := z_iast C d 18 rfl hi (by decide) (z_ws (ws' := wM ad (z_t K) (zS σ 18 (zU (σ 18) i x))) rfl k)
theorem al_M19 {own : String} (C : Fc K cc own nL) {i : Int} (d : decode cc pc = .ok (.iaload, 1)) (hi : 0 ≤ i ∧ i < 960) (k : Gd K cells slots (pc + 1) L (.int (zI (σ 20 i)) :: rest) (wM ad (z_t K) σ)) : Gd K cells slots pc L (.int (zI i) :: .ref (ad 19) :: rest) (wM ad (z_t K) σ) := z_iald C d 19 rfl hi (by decide) k
theorem as_M19 {own : String} (C : Fc K cc own nL) {i x : Int} (d : decode cc pc = .ok (.iastore, 1)) (hi : 0 ≤ i ∧ i < 960) (k : Gd K cells slots (pc + 1) L rest (wM ad (z_t K) (zS σ 20 (zU (σ 20) i x)))) : Gd K cells slots pc L (.int (zI (x)) :: .int (zI i) :: .ref (ad 19) :: rest) (wM ad (z_t K) σ) := z_iast C d 19 rfl hi (by decide) (z_ws (ws' := wM ad (z_t K) (zS σ 20 (zU (σ 20) i x))) rfl k)
theorem al_M20 {own : String} (C : Fc K cc own nL) {i : Int} (d : decode cc pc = .ok (.iaload, 1)) (hi : 0 ≤ i ∧ i < 240) (k : Gd K cells slots (pc + 1) L (.int (zI (σ 67 i)) :: rest) (wM ad (z_t K) σ)) : Gd K cells slots pc L (.int (zI i) :: .ref (ad 20) :: rest) (wM ad (z_t K) σ) := z_iald C d 20 rfl hi (by decide) k
theorem as_M20 {own : String} (C : Fc K cc own nL) {i x : Int} (d : decode cc pc = .ok (.iastore, 1)) (hi : 0 ≤ i ∧ i < 240) (k : Gd K cells slots (pc + 1) L rest (wM ad (z_t K) (zS σ 67 (zU (σ 67) i x)))) : Gd K cells slots pc L (.int (zI (x)) :: .int (zI i) :: .ref (ad 20) :: rest) (wM ad (z_t K) σ) := z_iast C d 20 rfl hi (by decide) (z_ws (ws' := wM ad (z_t K) (zS σ 67 (zU (σ 67) i x))) rfl k)
theorem al_Xsh {own : String} (C : Fc K cc own nL) {i : Int} (d : decode cc pc = .ok (.aaload, 1)) (hi : 0 ≤ i ∧ i < 4) (k : Gd K cells slots (pc + 1) L (.ref (ad (22 + i.toNat)) :: rest) (wX ad (z_t K) σ)) : Gd K cells slots pc L (.int (zI i) :: .ref (ad 6) :: rest) (wX ad (z_t K) σ) := z_aldq C d 6 (tx := 3) (n := 4) rfl rfl hi (by decide) k
theorem al_Xsi {own : String} (C : Fc K cc own nL) {z i : Int} (hz : 0 ≤ z ∧ z < 4) (d : decode cc pc = .ok (.iaload, 1)) (hi : 0 ≤ i ∧ i < 240) (k : Gd K cells slots (pc + 1) L (.int (zI (σ 20 (240 * z + i))) :: rest) (wX ad (z_t K) σ)) : Gd K cells slots pc L (.int (zI i) :: .ref (ad (26 + z.toNat)) :: rest) (wX ad (z_t K) σ) := z_iald C (F := fun j => σ 20 (240 * z + j)) d (26 + z.toNat) (wX_si hz) hi (by decide) k
theorem al_Xar {own : String} (C : Fc K cc own nL) {i : Int} (d : decode cc pc = .ok (.aaload, 1)) (hi : 0 ≤ i ∧ i < 30) (h0 : 0 ≤ σ 51 i) (k : Gd K cells slots (pc + 1) L (.ref (σ 48 (σ 51 i)).toNat :: rest) (wX ad (z_t K) σ)) : Gd K cells slots pc L (.int (zI i) :: .ref (ad 21) :: rest) (wX ad (z_t K) σ) := by
  refine z_aldq C d 21 (tx := 4) (n := 30) rfl rfl hi (by decide) ?_
  have e : arF σ i.toNat = some (σ 48 (σ 51 i)).toNat := by
    unfold arF
    rw [Int.toNat_of_nonneg hi.1, if_neg (by omega)]
  rw [e]
  exact k
end ZW
end
section
/-! decode rows: the small ones -/
theorem z_d {b : ByteArray} {tb : List (Nat × Instr × Nat)} (h : tb.all (fun e => decide (decode b e.1 = .ok e.2)) = true) (k : Nat) {pc n : Nat} {i : Instr} (hk : tb[k]? = some (pc, i, n)) : decode b pc = .ok (i, n) := of_decide_eq_true (List.all_eq_true.mp h (pc, i, n) (List.mem_of_getElem? hk))
def tbX0_init_0 : List (Nat × Instr × Nat) := [(0, .aload_n 0, 1), (1, .invokespecial 1, 3), (4, .aload_n 0, 1), (5, .iload_n 1, 1), (6, .putfield 7, 3), (9, .aload_n 0, 1), (10, .iload_n 2, 1), (11, .putfield 13, 3), (14, .aload_n 0, 1), (15, .iload_n 3, 1), (16, .putfield 16, 3), (19, .aload_n 0, 1), (20, .iload 4, 2), (22, .putfield 19, 3), (25, .aload_n 0, 1), (26, .iload 5, 2), (28, .putfield 22, 3), (31, .return_, 1)]
theorem dtX0_init_0 : tbX0_init_0.all (fun e => decide (decode cX0_init e.1 = .ok e.2)) = true := by decide +kernel
def tbX0_extent_0 : List (Nat × Instr × Nat) := [(0, .aload_n 0, 1), (1, .getfield 16, 3), (4, .aload_n 0, 1), (5, .getfield 13, 3), (8, .isub, 1), (9, .iconst 1, 1), (10, .iadd, 1), (11, .aload_n 0, 1), (12, .getfield 22, 3), (15, .aload_n 0, 1), (16, .getfield 19, 3), (19, .isub, 1), (20, .iconst 1, 1), (21, .iadd, 1), (22, .imul, 1), (23, .ireturn, 1)]
theorem dtX0_extent_0 : tbX0_extent_0.all (fun e => decide (decode cX0_extent e.1 = .ok e.2)) = true := by decide +kernel
def tbX0_contains_0 : List (Nat × Instr × Nat) := [(0, .iload_n 1, 1), (1, .aload_n 0, 1), (2, .getfield 7, 3), (5, .if_icmp .ne 39, 3), (8, .iload_n 2, 1), (9, .aload_n 0, 1), (10, .getfield 13, 3), (13, .if_icmp .lt 31, 3), (16, .iload_n 2, 1), (17, .aload_n 0, 1), (18, .getfield 16, 3), (21, .if_icmp .gt 23, 3), (24, .iload_n 3, 1), (25, .aload_n 0, 1), (26, .getfield 19, 3), (29, .if_icmp .lt 15, 3), (32, .iload_n 3, 1), (33, .aload_n 0, 1), (34, .getfield 22, 3), (37, .if_icmp .gt 7, 3), (40, .iconst 1, 1), (41, .goto 4, 3), (44, .iconst 0, 1), (45, .ireturn, 1)]
theorem dtX0_contains_0 : tbX0_contains_0.all (fun e => decide (decode cX0_contains e.1 = .ok e.2)) = true := by decide +kernel
def tbX0_cellsApart_0 : List (Nat × Instr × Nat) := [(0, .aload_n 0, 1), (1, .invokevirtual 25, 3), (4, .aload_n 1, 1), (5, .invokevirtual 25, 3), (8, .iadd, 1), (9, .iconst 2, 1), (10, .aload_n 0, 1), (11, .aload_n 1, 1), (12, .invokevirtual 29, 3), (15, .imul, 1), (16, .isub, 1), (17, .ireturn, 1)]
theorem dtX0_cellsApart_0 : tbX0_cellsApart_0.all (fun e => decide (decode cX0_cellsApart e.1 = .ok e.2)) = true := by decide +kernel
def tbX0_cellsInBoth_0 : List (Nat × Instr × Nat) := [(0, .aload_n 0, 1), (1, .getfield 16, 3), (4, .aload_n 1, 1), (5, .getfield 16, 3), (8, .invokestatic 33, 3), (11, .aload_n 0, 1), (12, .getfield 13, 3), (15, .aload_n 1, 1), (16, .getfield 13, 3), (19, .invokestatic 39, 3), (22, .isub, 1), (23, .iconst 1, 1), (24, .iadd, 1), (25, .istore_n 2, 1), (26, .aload_n 0, 1), (27, .getfield 22, 3), (30, .aload_n 1, 1), (31, .getfield 22, 3), (34, .invokestatic 33, 3), (37, .aload_n 0, 1), (38, .getfield 19, 3), (41, .aload_n 1, 1), (42, .getfield 19, 3), (45, .invokestatic 39, 3), (48, .isub, 1), (49, .iconst 1, 1), (50, .iadd, 1), (51, .istore_n 3, 1), (52, .aload_n 0, 1), (53, .getfield 7, 3), (56, .aload_n 1, 1), (57, .getfield 7, 3), (60, .if_icmp .ne 17, 3), (63, .iload_n 2, 1), (64, .ifCond .le 13, 3), (67, .iload_n 3, 1), (68, .ifCond .le 9, 3), (71, .iload_n 2, 1), (72, .iload_n 3, 1), (73, .imul, 1)]
theorem dtX0_cellsInBoth_0 : tbX0_cellsInBoth_0.all (fun e => decide (decode cX0_cellsInBoth e.1 = .ok e.2)) = true := by decide +kernel
def tbX0_cellsInBoth_1 : List (Nat × Instr × Nat) := [(74, .goto 4, 3), (77, .iconst 0, 1), (78, .ireturn, 1)]
theorem dtX0_cellsInBoth_1 : tbX0_cellsInBoth_1.all (fun e => decide (decode cX0_cellsInBoth e.1 = .ok e.2)) = true := by decide +kernel
def tbX1_init_0 : List (Nat × Instr × Nat) := [(0, .aload_n 0, 1), (1, .invokespecial 3, 3), (4, .aload_n 0, 1), (5, .iconst 0, 1), (6, .putfield 9, 3), (9, .aload_n 0, 1), (10, .bipush 72, 2), (12, .newarray .int, 2), (14, .putfield 15, 3), (17, .aload_n 0, 1), (18, .bipush 72, 2), (20, .newarray .long, 2), (22, .putfield 19, 3), (25, .aload_n 0, 1), (26, .bipush 72, 2), (28, .newarray .long, 2), (30, .putfield 23, 3), (33, .return_, 1)]
theorem dtX1_init_0 : tbX1_init_0.all (fun e => decide (decode cX1_init e.1 = .ok e.2)) = true := by decide +kernel
def tbX1_shareOf_0 : List (Nat × Instr × Nat) := [(0, .aload_n 0, 1), (1, .getfield 15, 3), (4, .iload_n 1, 1), (5, .iaload, 1), (6, .ireturn, 1)]
theorem dtX1_shareOf_0 : tbX1_shareOf_0.all (fun e => decide (decode cX1_shareOf e.1 = .ok e.2)) = true := by decide +kernel
def tbX1_makeAlike_0 : List (Nat × Instr × Nat) := [(0, .aload_n 0, 1), (1, .iload_n 1, 1), (2, .putfield 9, 3), (5, .aload_n 0, 1), (6, .getfield 19, 3), (9, .lconst 1, 1), (10, .invokestatic 26, 3), (13, .aload_n 0, 1), (14, .invokevirtual 32, 3), (17, .pop, 1), (18, .return_, 1)]
theorem dtX1_makeAlike_0 : tbX1_makeAlike_0.all (fun e => decide (decode cX1_makeAlike e.1 = .ok e.2)) = true := by decide +kernel
def tbX1_makeKnown_0 : List (Nat × Instr × Nat) := [(0, .aload_n 0, 1), (1, .getfield 15, 3), (4, .iconst 0, 1), (5, .invokestatic 36, 3), (8, .aload_n 0, 1), (9, .getfield 15, 3), (12, .iload_n 1, 1), (13, .ldc 39, 2), (15, .iastore, 1), (16, .return_, 1)]
theorem dtX1_makeKnown_0 : tbX1_makeKnown_0.all (fun e => decide (decode cX1_makeKnown e.1 = .ok e.2)) = true := by decide +kernel
def tbX1_makeWhole_0 : List (Nat × Instr × Nat) := [(0, .lconst 0, 1), (1, .lstore_n 1, 1), (2, .iconst 0, 1), (3, .istore_n 3, 1), (4, .iload_n 3, 1), (5, .aload_n 0, 1), (6, .getfield 9, 3), (9, .if_icmp .ge 18, 3), (12, .lload_n 1, 1), (13, .aload_n 0, 1), (14, .getfield 19, 3), (17, .iload_n 3, 1), (18, .laload, 1), (19, .ladd, 1), (20, .lstore_n 1, 1), (21, .iinc 3 1, 3), (24, .goto (-20), 3), (27, .lload_n 1, 1), (28, .lconst 0, 1), (29, .lcmp, 1), (30, .ifCond .gt 5, 3), (33, .iconst 0, 1), (34, .ireturn, 1), (35, .ldc 39, 2), (37, .istore_n 3, 1), (38, .iconst 0, 1), (39, .istore 4, 2), (41, .iload 4, 2), (43, .aload_n 0, 1), (44, .getfield 9, 3), (47, .if_icmp .ge 55, 3), (50, .aload_n 0, 1), (51, .getfield 19, 3), (54, .iload 4, 2), (56, .laload, 1), (57, .ldc2_w 40, 3), (60, .lmul, 1), (61, .lstore 5, 2), (63, .aload_n 0, 1), (64, .getfield 15, 3)]
theorem dtX1_makeWhole_0 : tbX1_makeWhole_0.all (fun e => decide (decode cX1_makeWhole e.1 = .ok e.2)) = true := by decide +kernel
def tbX1_makeWhole_1 : List (Nat × Instr × Nat) := [(67, .iload 4, 2), (69, .lload 5, 2), (71, .lload_n 1, 1), (72, .ldiv, 1), (73, .l2i, 1), (74, .iastore, 1), (75, .aload_n 0, 1), (76, .getfield 23, 3), (79, .iload 4, 2), (81, .lload 5, 2), (83, .lload_n 1, 1), (84, .lrem, 1), (85, .lastore, 1), (86, .iload_n 3, 1), (87, .aload_n 0, 1), (88, .getfield 15, 3), (91, .iload 4, 2), (93, .iaload, 1), (94, .isub, 1), (95, .istore_n 3, 1), (96, .iinc 4 1, 3), (99, .goto (-58), 3), (102, .aload_n 0, 1), (103, .iload_n 3, 1), (104, .invokevirtual 42, 3), (107, .iconst 1, 1), (108, .ireturn, 1)]
theorem dtX1_makeWhole_1 : tbX1_makeWhole_1.all (fun e => decide (decode cX1_makeWhole e.1 = .ok e.2)) = true := by decide +kernel
def tbX1_handOut_0 : List (Nat × Instr × Nat) := [(0, .iconst 0, 1), (1, .istore_n 2, 1), (2, .iload_n 2, 1), (3, .iload_n 1, 1), (4, .if_icmp .ge 66, 3), (7, .iconst 0, 1), (8, .istore_n 3, 1), (9, .iconst 1, 1), (10, .istore 4, 2), (12, .iload 4, 2), (14, .aload_n 0, 1), (15, .getfield 9, 3), (18, .if_icmp .ge 29, 3), (21, .aload_n 0, 1), (22, .getfield 23, 3), (25, .iload 4, 2), (27, .laload, 1), (28, .aload_n 0, 1), (29, .getfield 23, 3), (32, .iload_n 3, 1), (33, .laload, 1), (34, .lcmp, 1), (35, .ifCond .le 6, 3), (38, .iload 4, 2), (40, .istore_n 3, 1), (41, .iinc 4 1, 3), (44, .goto (-32), 3), (47, .aload_n 0, 1), (48, .getfield 15, 3), (51, .iload_n 3, 1), (52, .dup2, 1), (53, .iaload, 1), (54, .iconst 1, 1), (55, .iadd, 1), (56, .iastore, 1), (57, .aload_n 0, 1), (58, .getfield 23, 3), (61, .iload_n 3, 1), (62, .lconst 0, 1), (63, .lastore, 1)]
theorem dtX1_handOut_0 : tbX1_handOut_0.all (fun e => decide (decode cX1_handOut e.1 = .ok e.2)) = true := by decide +kernel
def tbX1_handOut_1 : List (Nat × Instr × Nat) := [(64, .iinc 2 1, 3), (67, .goto (-65), 3), (70, .return_, 1)]
theorem dtX1_handOut_1 : tbX1_handOut_1.all (fun e => decide (decode cX1_handOut e.1 = .ok e.2)) = true := by decide +kernel
def tbX1_leadOneStep_0 : List (Nat × Instr × Nat) := [(0, .aload_n 0, 1), (1, .getfield 19, 3), (4, .lconst 0, 1), (5, .invokestatic 26, 3), (8, .iconst 0, 1), (9, .istore_n 2, 1), (10, .iload_n 2, 1), (11, .aload_n 0, 1), (12, .getfield 9, 3), (15, .if_icmp .ge 55, 3), (18, .aload_n 1, 1), (19, .iload_n 2, 1), (20, .invokevirtual 46, 3), (23, .istore_n 3, 1), (24, .aload_n 0, 1), (25, .getfield 15, 3), (28, .iload_n 2, 1), (29, .iaload, 1), (30, .i2l, 1), (31, .ldc2_w 52, 3), (34, .lmul, 1), (35, .lstore 4, 2), (37, .iload_n 3, 1), (38, .ifCond .gt 17, 3), (41, .aload_n 0, 1), (42, .getfield 19, 3), (45, .iload_n 2, 1), (46, .dup2, 1), (47, .laload, 1), (48, .lload 4, 2), (50, .ladd, 1), (51, .lastore, 1), (52, .goto 12, 3), (55, .aload_n 0, 1), (56, .aload_n 1, 1), (57, .iload_n 2, 1), (58, .lload 4, 2), (60, .iload_n 3, 1), (61, .invokevirtual 54, 3), (64, .iinc 2 1, 3)]
theorem dtX1_leadOneStep_0 : tbX1_leadOneStep_0.all (fun e => decide (decode cX1_leadOneStep e.1 = .ok e.2)) = true := by decide +kernel
def tbX1_leadOneStep_1 : List (Nat × Instr × Nat) := [(67, .goto (-57), 3), (70, .aload_n 0, 1), (71, .invokevirtual 32, 3), (74, .pop, 1), (75, .return_, 1)]
theorem dtX1_leadOneStep_1 : tbX1_leadOneStep_1.all (fun e => decide (decode cX1_leadOneStep e.1 = .ok e.2)) = true := by decide +kernel
def tbX1_spread_0 : List (Nat × Instr × Nat) := [(0, .iconst 0, 1), (1, .istore 6, 2), (3, .iload 6, 2), (5, .bipush 7, 2), (7, .if_icmp .ge 55, 3), (10, .aload_n 1, 1), (11, .iload_n 2, 1), (12, .iload 6, 2), (14, .invokevirtual 58, 3), (17, .istore 7, 2), (19, .aload_n 1, 1), (20, .iload 7, 2), (22, .invokevirtual 62, 3), (25, .ifCond .eq 31, 3), (28, .iload 5, 2), (30, .ifCond .le 26, 3), (33, .aload_n 0, 1), (34, .getfield 19, 3), (37, .iload 7, 2), (39, .dup2, 1), (40, .laload, 1), (41, .lload_n 3, 1), (42, .aload_n 1, 1), (43, .iload 6, 2), (45, .invokevirtual 66, 3), (48, .i2l, 1), (49, .lmul, 1), (50, .iload 5, 2), (52, .i2l, 1), (53, .ldiv, 1), (54, .ladd, 1), (55, .lastore, 1), (56, .iinc 6 1, 3), (59, .goto (-56), 3), (62, .return_, 1)]
theorem dtX1_spread_0 : tbX1_spread_0.all (fun e => decide (decode cX1_spread e.1 = .ok e.2)) = true := by decide +kernel
def tbX1_hearRow_0 : List (Nat × Instr × Nat) := [(0, .aload_n 0, 1), (1, .getfield 19, 3), (4, .ldc2_w 52, 3), (7, .invokestatic 26, 3), (10, .iconst 0, 1), (11, .istore 5, 2), (13, .iload 5, 2), (15, .bipush 8, 2), (17, .if_icmp .ge 45, 3), (20, .aload_n 2, 1), (21, .iload_n 3, 1), (22, .iload 5, 2), (24, .iload 4, 2), (26, .invokevirtual 69, 3), (29, .istore 6, 2), (31, .iload 6, 2), (33, .bipush (-2), 2), (35, .if_icmp .eq 21, 3), (38, .aload_n 1, 1), (39, .iload 5, 2), (41, .invokevirtual 75, 3), (44, .ifCond .ne 12, 3), (47, .aload_n 0, 1), (48, .aload_n 1, 1), (49, .iload 5, 2), (51, .iload 6, 2), (53, .invokevirtual 80, 3), (56, .iinc 5 1, 3), (59, .goto (-46), 3), (62, .iconst 0, 1), (63, .istore 5, 2), (65, .iload 5, 2), (67, .aload_n 0, 1), (68, .getfield 9, 3), (71, .if_icmp .ge 27, 3), (74, .aload_n 0, 1), (75, .getfield 19, 3), (78, .iload 5, 2), (80, .dup2, 1), (81, .laload, 1)]
theorem dtX1_hearRow_0 : tbX1_hearRow_0.all (fun e => decide (decode cX1_hearRow e.1 = .ok e.2)) = true := by decide +kernel
def tbX1_hearRow_1 : List (Nat × Instr × Nat) := [(82, .aload_n 0, 1), (83, .getfield 15, 3), (86, .iload 5, 2), (88, .iaload, 1), (89, .i2l, 1), (90, .lmul, 1), (91, .lastore, 1), (92, .iinc 5 1, 3), (95, .goto (-30), 3), (98, .aload_n 0, 1), (99, .invokevirtual 32, 3), (102, .ireturn, 1)]
theorem dtX1_hearRow_1 : tbX1_hearRow_1.all (fun e => decide (decode cX1_hearRow e.1 = .ok e.2)) = true := by decide +kernel
def tbX1_weighSender_0 : List (Nat × Instr × Nat) := [(0, .aload_n 1, 1), (1, .iload_n 2, 1), (2, .iload_n 3, 1), (3, .aload_n 0, 1), (4, .getfield 9, 3), (7, .invokevirtual 84, 3), (10, .istore 4, 2), (12, .iconst 0, 1), (13, .istore 5, 2), (15, .iload 5, 2), (17, .aload_n 0, 1), (18, .getfield 9, 3), (21, .if_icmp .ge 37, 3), (24, .aload_n 0, 1), (25, .getfield 19, 3), (28, .iload 5, 2), (30, .aload_n 0, 1), (31, .getfield 19, 3), (34, .iload 5, 2), (36, .laload, 1), (37, .aload_n 1, 1), (38, .iload_n 2, 1), (39, .iload 5, 2), (41, .iload_n 3, 1), (42, .invokevirtual 87, 3), (45, .i2l, 1), (46, .lmul, 1), (47, .iload 4, 2), (49, .i2l, 1), (50, .ldiv, 1), (51, .lastore, 1), (52, .iinc 5 1, 3), (55, .goto (-40), 3), (58, .return_, 1)]
theorem dtX1_weighSender_0 : tbX1_weighSender_0.all (fun e => decide (decode cX1_weighSender e.1 = .ok e.2)) = true := by decide +kernel
def tbX1_cellsWithShare_0 : List (Nat × Instr × Nat) := [(0, .iconst 0, 1), (1, .istore_n 1, 1), (2, .iconst 0, 1), (3, .istore_n 2, 1), (4, .iload_n 2, 1), (5, .aload_n 0, 1), (6, .getfield 9, 3), (9, .if_icmp .ge 21, 3), (12, .aload_n 0, 1), (13, .getfield 15, 3), (16, .iload_n 2, 1), (17, .iaload, 1), (18, .ifCond .le 6, 3), (21, .iinc 1 1, 3), (24, .iinc 2 1, 3), (27, .goto (-23), 3), (30, .iload_n 1, 1), (31, .ireturn, 1)]
theorem dtX1_cellsWithShare_0 : tbX1_cellsWithShare_0.all (fun e => decide (decode cX1_cellsWithShare e.1 = .ok e.2)) = true := by decide +kernel
def tbX1_greatestCell_0 : List (Nat × Instr × Nat) := [(0, .iconst 0, 1), (1, .istore_n 1, 1), (2, .iconst 1, 1), (3, .istore_n 2, 1), (4, .iload_n 2, 1), (5, .aload_n 0, 1), (6, .getfield 9, 3), (9, .if_icmp .ge 26, 3), (12, .aload_n 0, 1), (13, .getfield 15, 3), (16, .iload_n 2, 1), (17, .iaload, 1), (18, .aload_n 0, 1), (19, .getfield 15, 3), (22, .iload_n 1, 1), (23, .iaload, 1), (24, .if_icmp .le 5, 3), (27, .iload_n 2, 1), (28, .istore_n 1, 1), (29, .iinc 2 1, 3), (32, .goto (-28), 3), (35, .iload_n 1, 1), (36, .ireturn, 1)]
theorem dtX1_greatestCell_0 : tbX1_greatestCell_0.all (fun e => decide (decode cX1_greatestCell e.1 = .ok e.2)) = true := by decide +kernel
def tbX1_fewestCellsWith_0 : List (Nat × Instr × Nat) := [(0, .iconst 0, 1), (1, .istore_n 2, 1), (2, .iload_n 2, 1), (3, .aload_n 0, 1), (4, .getfield 9, 3), (7, .if_icmp .ge 22, 3), (10, .aload_n 0, 1), (11, .getfield 23, 3), (14, .iload_n 2, 1), (15, .aload_n 0, 1), (16, .getfield 15, 3), (19, .iload_n 2, 1), (20, .iaload, 1), (21, .i2l, 1), (22, .lastore, 1), (23, .iinc 2 1, 3), (26, .goto (-24), 3), (29, .lconst 0, 1), (30, .lstore_n 2, 1), (31, .iconst 0, 1), (32, .istore 4, 2), (34, .lload_n 2, 1), (35, .iload_n 1, 1), (36, .i2l, 1), (37, .lcmp, 1), (38, .ifCond .ge 79, 3), (41, .iload 4, 2), (43, .aload_n 0, 1), (44, .getfield 9, 3), (47, .if_icmp .ge 70, 3), (50, .iconst 0, 1), (51, .istore 5, 2), (53, .iconst 1, 1), (54, .istore 6, 2), (56, .iload 6, 2), (58, .aload_n 0, 1), (59, .getfield 9, 3), (62, .if_icmp .ge 31, 3), (65, .aload_n 0, 1), (66, .getfield 23, 3)]
theorem dtX1_fewestCellsWith_0 : tbX1_fewestCellsWith_0.all (fun e => decide (decode cX1_fewestCellsWith e.1 = .ok e.2)) = true := by decide +kernel
def tbX1_fewestCellsWith_1 : List (Nat × Instr × Nat) := [(69, .iload 6, 2), (71, .laload, 1), (72, .aload_n 0, 1), (73, .getfield 23, 3), (76, .iload 5, 2), (78, .laload, 1), (79, .lcmp, 1), (80, .ifCond .le 7, 3), (83, .iload 6, 2), (85, .istore 5, 2), (87, .iinc 6 1, 3), (90, .goto (-34), 3), (93, .lload_n 2, 1), (94, .aload_n 0, 1), (95, .getfield 23, 3), (98, .iload 5, 2), (100, .laload, 1), (101, .ladd, 1), (102, .lstore_n 2, 1), (103, .aload_n 0, 1), (104, .getfield 23, 3), (107, .iload 5, 2), (109, .lconst 0, 1), (110, .lastore, 1), (111, .iinc 4 1, 3), (114, .goto (-80), 3), (117, .iload 4, 2), (119, .ireturn, 1)]
theorem dtX1_fewestCellsWith_1 : tbX1_fewestCellsWith_1.all (fun e => decide (decode cX1_fewestCellsWith e.1 = .ok e.2)) = true := by decide +kernel
def tbX2_init_0 : List (Nat × Instr × Nat) := [(0, .aload_n 0, 1), (1, .invokespecial 3, 3), (4, .aload_n 0, 1), (5, .iconst 0, 1), (6, .putfield 9, 3), (9, .aload_n 0, 1), (10, .iconst 3, 1), (11, .putfield 15, 3), (14, .aload_n 0, 1), (15, .bipush 20, 2), (17, .newarray .int, 2), (19, .putfield 18, 3), (22, .aload_n 0, 1), (23, .bipush 30, 2), (25, .anewarray 22, 3), (28, .putfield 24, 3), (31, .return_, 1)]
theorem dtX2_init_0 : tbX2_init_0.all (fun e => decide (decode cX2_init e.1 = .ok e.2)) = true := by decide +kernel
def tbX2_scatter_0 : List (Nat × Instr × Nat) := [(0, .aload_n 0, 1), (1, .getfield 18, 3), (4, .iconst (-1), 1), (5, .invokestatic 28, 3), (8, .aload_n 0, 1), (9, .iconst 0, 1), (10, .putfield 9, 3), (13, .return_, 1)]
theorem dtX2_scatter_0 : tbX2_scatter_0.all (fun e => decide (decode cX2_scatter e.1 = .ok e.2)) = true := by decide +kernel
def tbX2_move_0 : List (Nat × Instr × Nat) := [(0, .aload_n 0, 1), (1, .getfield 18, 3), (4, .iload_n 1, 1), (5, .iaload, 1), (6, .istore_n 3, 1), (7, .aload_n 0, 1), (8, .getfield 18, 3), (11, .iload_n 1, 1), (12, .iload_n 2, 1), (13, .iastore, 1), (14, .aload_n 0, 1), (15, .iconst 0, 1), (16, .putfield 9, 3), (19, .iload_n 3, 1), (20, .ireturn, 1)]
theorem dtX2_move_0 : tbX2_move_0.all (fun e => decide (decode cX2_move e.1 = .ok e.2)) = true := by decide +kernel
def tbX2_putLeast_0 : List (Nat × Instr × Nat) := [(0, .aload_n 0, 1), (1, .getfield 15, 3), (4, .istore_n 2, 1), (5, .aload_n 0, 1), (6, .iload_n 1, 1), (7, .putfield 15, 3), (10, .aload_n 0, 1), (11, .iconst 0, 1), (12, .putfield 9, 3), (15, .iload_n 2, 1), (16, .ireturn, 1)]
theorem dtX2_putLeast_0 : tbX2_putLeast_0.all (fun e => decide (decode cX2_putLeast e.1 = .ok e.2)) = true := by decide +kernel
def tbX2_somewhere_0 : List (Nat × Instr × Nat) := [(0, .iconst 0, 1), (1, .istore_n 1, 1), (2, .iconst 0, 1), (3, .istore_n 2, 1), (4, .iload_n 2, 1), (5, .bipush 20, 2), (7, .if_icmp .ge 22, 3), (10, .aload_n 0, 1), (11, .getfield 18, 3), (14, .iload_n 2, 1), (15, .iaload, 1), (16, .iconst (-1), 1), (17, .if_icmp .eq 6, 3), (20, .iinc 1 1, 3), (23, .iinc 2 1, 3), (26, .goto (-22), 3), (29, .iload_n 1, 1), (30, .ireturn, 1)]
theorem dtX2_somewhere_0 : tbX2_somewhere_0.all (fun e => decide (decode cX2_somewhere e.1 = .ok e.2)) = true := by decide +kernel
def tbX2_giveAway_0 : List (Nat × Instr × Nat) := [(0, .aload_n 0, 1), (1, .aload_n 1, 1), (2, .aload_n 2, 1), (3, .invokevirtual 34, 3), (6, .istore_n 3, 1), (7, .iload_n 3, 1), (8, .aload_n 0, 1), (9, .getfield 15, 3), (12, .if_icmp .lt 19, 3), (15, .aload_n 0, 1), (16, .getfield 15, 3), (19, .iconst 1, 1), (20, .if_icmp .lt 11, 3), (23, .aload_n 0, 1), (24, .aload_n 1, 1), (25, .invokevirtual 38, 3), (28, .ifCond .eq 6, 3), (31, .bipush (-3), 2), (33, .ireturn, 1), (34, .aload_n 0, 1), (35, .aload_n 1, 1), (36, .invokevirtual 42, 3), (39, .ifCond .ne 35, 3), (42, .aload_n 0, 1), (43, .getfield 9, 3), (46, .bipush 30, 2), (48, .if_icmp .lt 6, 3), (51, .bipush (-4), 2), (53, .ireturn, 1), (54, .aload_n 0, 1), (55, .getfield 24, 3), (58, .aload_n 0, 1), (59, .getfield 9, 3), (62, .aload_n 1, 1), (63, .aastore, 1), (64, .aload_n 0, 1), (65, .dup, 1), (66, .getfield 9, 3), (69, .iconst 1, 1), (70, .iadd, 1)]
theorem dtX2_giveAway_0 : tbX2_giveAway_0.all (fun e => decide (decode cX2_giveAway e.1 = .ok e.2)) = true := by decide +kernel
def tbX2_giveAway_1 : List (Nat × Instr × Nat) := [(71, .putfield 9, 3), (74, .iload_n 3, 1), (75, .iload_n 3, 1), (76, .aload_n 0, 1), (77, .getfield 15, 3), (80, .irem, 1), (81, .isub, 1), (82, .ireturn, 1)]
theorem dtX2_giveAway_1 : tbX2_giveAway_1.all (fun e => decide (decode cX2_giveAway e.1 = .ok e.2)) = true := by decide +kernel
def tbX2_numberIn_0 : List (Nat × Instr × Nat) := [(0, .iconst 0, 1), (1, .istore_n 3, 1), (2, .iconst 0, 1), (3, .istore 4, 2), (5, .iload 4, 2), (7, .bipush 20, 2), (9, .if_icmp .ge 55, 3), (12, .aload_n 0, 1), (13, .getfield 18, 3), (16, .iload 4, 2), (18, .iaload, 1), (19, .istore 5, 2), (21, .aload_n 2, 1), (22, .iload 5, 2), (24, .invokevirtual 45, 3), (27, .ifCond .eq 31, 3), (30, .aload_n 1, 1), (31, .aload_n 2, 1), (32, .iload 5, 2), (34, .invokevirtual 51, 3), (37, .aload_n 2, 1), (38, .iload 5, 2), (40, .invokevirtual 55, 3), (43, .aload_n 2, 1), (44, .iload 5, 2), (46, .invokevirtual 58, 3), (49, .invokevirtual 61, 3), (52, .ifCond .eq 6, 3), (55, .iinc 3 1, 3), (58, .iinc 4 1, 3), (61, .goto (-56), 3), (64, .iload_n 3, 1), (65, .ireturn, 1)]
theorem dtX2_numberIn_0 : tbX2_numberIn_0.all (fun e => decide (decode cX2_numberIn e.1 = .ok e.2)) = true := by decide +kernel
def tbX2_isTooNear_0 : List (Nat × Instr × Nat) := [(0, .iconst 0, 1), (1, .istore_n 2, 1), (2, .iload_n 2, 1), (3, .aload_n 0, 1), (4, .getfield 9, 3), (7, .if_icmp .ge 34, 3), (10, .aload_n 1, 1), (11, .aload_n 0, 1), (12, .getfield 24, 3), (15, .iload_n 2, 1), (16, .aaload, 1), (17, .invokevirtual 65, 3), (20, .istore_n 3, 1), (21, .iload_n 3, 1), (22, .ifCond .le 13, 3), (25, .iload_n 3, 1), (26, .aload_n 0, 1), (27, .getfield 15, 3), (30, .if_icmp .ge 5, 3), (33, .iconst 1, 1), (34, .ireturn, 1), (35, .iinc 2 1, 3), (38, .goto (-36), 3), (41, .iconst 0, 1), (42, .ireturn, 1)]
theorem dtX2_isTooNear_0 : tbX2_isTooNear_0.all (fun e => decide (decode cX2_isTooNear e.1 = .ok e.2)) = true := by decide +kernel
def tbX2_wasGiven_0 : List (Nat × Instr × Nat) := [(0, .iconst 0, 1), (1, .istore_n 2, 1), (2, .iload_n 2, 1), (3, .aload_n 0, 1), (4, .getfield 9, 3), (7, .if_icmp .ge 24, 3), (10, .aload_n 1, 1), (11, .aload_n 0, 1), (12, .getfield 24, 3), (15, .iload_n 2, 1), (16, .aaload, 1), (17, .invokevirtual 65, 3), (20, .ifCond .ne 5, 3), (23, .iconst 1, 1), (24, .ireturn, 1), (25, .iinc 2 1, 3), (28, .goto (-26), 3), (31, .iconst 0, 1), (32, .ireturn, 1)]
theorem dtX2_wasGiven_0 : tbX2_wasGiven_0.all (fun e => decide (decode cX2_wasGiven e.1 = .ok e.2)) = true := by decide +kernel
def tbX3_init_0 : List (Nat × Instr × Nat) := [(0, .aload_n 0, 1), (1, .invokespecial 3, 3), (4, .aload_n 0, 1), (5, .iconst 1, 1), (6, .putfield 9, 3), (9, .aload_n 0, 1), (10, .iconst 1, 1), (11, .putfield 15, 3), (14, .aload_n 0, 1), (15, .iconst 1, 1), (16, .putfield 18, 3), (19, .aload_n 0, 1), (20, .iconst 0, 1), (21, .putfield 21, 3), (24, .aload_n 0, 1), (25, .iconst 0, 1), (26, .putfield 24, 3), (29, .aload_n 0, 1), (30, .iconst 1, 1), (31, .putfield 27, 3), (34, .aload_n 0, 1), (35, .bipush 72, 2), (37, .newarray .boolean, 2), (39, .putfield 30, 3), (42, .aload_n 0, 1), (43, .bipush 72, 2), (45, .newarray .boolean, 2), (47, .putfield 34, 3), (50, .aload_n 0, 1), (51, .bipush 36, 2), (53, .newarray .boolean, 2), (55, .putfield 37, 3), (58, .aload_n 0, 1), (59, .sipush 504, 3), (62, .newarray .int, 2), (64, .putfield 40, 3), (67, .aload_n 0, 1), (68, .bipush 72, 2), (70, .newarray .int, 2), (72, .putfield 44, 3)]
theorem dtX3_init_0 : tbX3_init_0.all (fun e => decide (decode cX3_init e.1 = .ok e.2)) = true := by decide +kernel
def tbX3_init_1 : List (Nat × Instr × Nat) := [(75, .aload_n 0, 1), (76, .bipush 72, 2), (78, .newarray .int, 2), (80, .putfield 47, 3), (83, .return_, 1)]
theorem dtX3_init_1 : tbX3_init_1.all (fun e => decide (decode cX3_init e.1 = .ok e.2)) = true := by decide +kernel
def tbX3_raise_0 : List (Nat × Instr × Nat) := [(0, .aload_n 0, 1), (1, .iload_n 1, 1), (2, .putfield 9, 3), (5, .aload_n 0, 1), (6, .iload_n 2, 1), (7, .putfield 15, 3), (10, .aload_n 0, 1), (11, .iload_n 3, 1), (12, .putfield 18, 3), (15, .aload_n 0, 1), (16, .iconst 0, 1), (17, .putfield 21, 3), (20, .aload_n 0, 1), (21, .iconst 0, 1), (22, .putfield 24, 3), (25, .iconst 0, 1), (26, .istore 4, 2), (28, .iload 4, 2), (30, .bipush 72, 2), (32, .if_icmp .ge 25, 3), (35, .aload_n 0, 1), (36, .getfield 30, 3), (39, .iload 4, 2), (41, .iconst 0, 1), (42, .bastore, 1), (43, .aload_n 0, 1), (44, .getfield 34, 3), (47, .iload 4, 2), (49, .iconst 0, 1), (50, .bastore, 1), (51, .iinc 4 1, 3), (54, .goto (-26), 3), (57, .iconst 0, 1), (58, .istore 4, 2), (60, .iload 4, 2), (62, .bipush 36, 2), (64, .if_icmp .ge 17, 3), (67, .aload_n 0, 1), (68, .getfield 37, 3), (71, .iload 4, 2)]
theorem dtX3_raise_0 : tbX3_raise_0.all (fun e => decide (decode cX3_raise e.1 = .ok e.2)) = true := by decide +kernel
def tbX3_raise_1 : List (Nat × Instr × Nat) := [(73, .iconst 0, 1), (74, .bastore, 1), (75, .iinc 4 1, 3), (78, .goto (-18), 3), (81, .aload_n 0, 1), (82, .invokevirtual 50, 3), (85, .return_, 1)]
theorem dtX3_raise_1 : tbX3_raise_1.all (fun e => decide (decode cX3_raise e.1 = .ok e.2)) = true := by decide +kernel
def tbX3_cells_0 : List (Nat × Instr × Nat) := [(0, .aload_n 0, 1), (1, .getfield 9, 3), (4, .aload_n 0, 1), (5, .getfield 15, 3), (8, .imul, 1), (9, .aload_n 0, 1), (10, .getfield 18, 3), (13, .imul, 1), (14, .ireturn, 1)]
theorem dtX3_cells_0 : tbX3_cells_0.all (fun e => decide (decode cX3_cells e.1 = .ok e.2)) = true := by decide +kernel
def tbX3_hasCell_0 : List (Nat × Instr × Nat) := [(0, .iload_n 1, 1), (1, .ifCond .lt 15, 3), (4, .iload_n 1, 1), (5, .aload_n 0, 1), (6, .invokevirtual 53, 3), (9, .if_icmp .ge 7, 3), (12, .iconst 1, 1), (13, .goto 4, 3), (16, .iconst 0, 1), (17, .ireturn, 1)]
theorem dtX3_hasCell_0 : tbX3_hasCell_0.all (fun e => decide (decode cX3_hasCell e.1 = .ok e.2)) = true := by decide +kernel
def tbX3_hasPlace_0 : List (Nat × Instr × Nat) := [(0, .iload_n 1, 1), (1, .ifCond .lt 27, 3), (4, .iload_n 1, 1), (5, .aload_n 0, 1), (6, .getfield 15, 3), (9, .if_icmp .ge 19, 3), (12, .iload_n 2, 1), (13, .ifCond .lt 15, 3), (16, .iload_n 2, 1), (17, .aload_n 0, 1), (18, .getfield 18, 3), (21, .if_icmp .ge 7, 3), (24, .iconst 1, 1), (25, .goto 4, 3), (28, .iconst 0, 1), (29, .ireturn, 1)]
theorem dtX3_hasPlace_0 : tbX3_hasPlace_0.all (fun e => decide (decode cX3_hasPlace e.1 = .ok e.2)) = true := by decide +kernel
def tbX3_hasArea_0 : List (Nat × Instr × Nat) := [(0, .iload_n 1, 1), (1, .ifCond .lt 47, 3), (4, .iload_n 1, 1), (5, .aload_n 0, 1), (6, .getfield 9, 3), (9, .if_icmp .ge 39, 3), (12, .iload_n 2, 1), (13, .iload_n 3, 1), (14, .if_icmp .gt 34, 3), (17, .iload 4, 2), (19, .iload 5, 2), (21, .if_icmp .gt 27, 3), (24, .aload_n 0, 1), (25, .iload_n 2, 1), (26, .iload 4, 2), (28, .invokevirtual 57, 3), (31, .ifCond .eq 17, 3), (34, .aload_n 0, 1), (35, .iload_n 3, 1), (36, .iload 5, 2), (38, .invokevirtual 57, 3), (41, .ifCond .eq 7, 3), (44, .iconst 1, 1), (45, .goto 4, 3), (48, .iconst 0, 1), (49, .ireturn, 1)]
theorem dtX3_hasArea_0 : tbX3_hasArea_0.all (fun e => decide (decode cX3_hasArea e.1 = .ok e.2)) = true := by decide +kernel
def tbX3_cellAt_0 : List (Nat × Instr × Nat) := [(0, .iload_n 1, 1), (1, .aload_n 0, 1), (2, .getfield 18, 3), (5, .imul, 1), (6, .iload_n 3, 1), (7, .iadd, 1), (8, .aload_n 0, 1), (9, .getfield 15, 3), (12, .imul, 1), (13, .iload_n 2, 1), (14, .iadd, 1), (15, .ireturn, 1)]
theorem dtX3_cellAt_0 : tbX3_cellAt_0.all (fun e => decide (decode cX3_cellAt e.1 = .ok e.2)) = true := by decide +kernel
def tbX3_xOf_0 : List (Nat × Instr × Nat) := [(0, .iload_n 1, 1), (1, .aload_n 0, 1), (2, .getfield 15, 3), (5, .irem, 1), (6, .ireturn, 1)]
theorem dtX3_xOf_0 : tbX3_xOf_0.all (fun e => decide (decode cX3_xOf e.1 = .ok e.2)) = true := by decide +kernel
def tbX3_yOf_0 : List (Nat × Instr × Nat) := [(0, .iload_n 1, 1), (1, .aload_n 0, 1), (2, .getfield 15, 3), (5, .idiv, 1), (6, .aload_n 0, 1), (7, .getfield 18, 3), (10, .irem, 1), (11, .ireturn, 1)]
theorem dtX3_yOf_0 : tbX3_yOf_0.all (fun e => decide (decode cX3_yOf e.1 = .ok e.2)) = true := by decide +kernel
def tbX3_floorOf_0 : List (Nat × Instr × Nat) := [(0, .iload_n 1, 1), (1, .aload_n 0, 1), (2, .getfield 15, 3), (5, .aload_n 0, 1), (6, .getfield 18, 3), (9, .imul, 1), (10, .idiv, 1), (11, .ireturn, 1)]
theorem dtX3_floorOf_0 : tbX3_floorOf_0.all (fun e => decide (decode cX3_floorOf e.1 = .ok e.2)) = true := by decide +kernel
def tbX3_areBeside_0 : List (Nat × Instr × Nat) := [(0, .aload_n 0, 1), (1, .iload_n 1, 1), (2, .invokevirtual 61, 3), (5, .aload_n 0, 1), (6, .iload_n 2, 1), (7, .invokevirtual 61, 3), (10, .isub, 1), (11, .invokestatic 65, 3), (14, .aload_n 0, 1), (15, .iload_n 1, 1), (16, .invokevirtual 70, 3), (19, .aload_n 0, 1), (20, .iload_n 2, 1), (21, .invokevirtual 70, 3), (24, .isub, 1), (25, .invokestatic 65, 3), (28, .iadd, 1), (29, .istore_n 3, 1), (30, .aload_n 0, 1), (31, .iload_n 1, 1), (32, .invokevirtual 73, 3), (35, .aload_n 0, 1), (36, .iload_n 2, 1), (37, .invokevirtual 73, 3), (40, .if_icmp .ne 12, 3), (43, .iload_n 3, 1), (44, .iconst 1, 1), (45, .if_icmp .ne 7, 3), (48, .iconst 1, 1), (49, .goto 4, 3), (52, .iconst 0, 1), (53, .ireturn, 1)]
theorem dtX3_areBeside_0 : tbX3_areBeside_0.all (fun e => decide (decode cX3_areBeside e.1 = .ok e.2)) = true := by decide +kernel
def tbX3_putWall_0 : List (Nat × Instr × Nat) := [(0, .aload_n 0, 1), (1, .iload_n 1, 1), (2, .invokevirtual 70, 3), (5, .aload_n 0, 1), (6, .iload_n 2, 1), (7, .invokevirtual 70, 3), (10, .if_icmp .ne 10, 3), (13, .aload_n 0, 1), (14, .getfield 30, 3), (17, .goto 7, 3), (20, .aload_n 0, 1), (21, .getfield 34, 3), (24, .astore 4, 2), (26, .aload 4, 2), (28, .iload_n 1, 1), (29, .baload, 1), (30, .iload_n 3, 1), (31, .if_icmp .ne 5, 3), (34, .iconst 0, 1), (35, .ireturn, 1), (36, .aload 4, 2), (38, .iload_n 1, 1), (39, .iload_n 3, 1), (40, .bastore, 1), (41, .aload_n 0, 1), (42, .dup, 1), (43, .getfield 21, 3), (46, .iload_n 3, 1), (47, .ifCond .eq 7, 3), (50, .iconst 1, 1), (51, .goto 4, 3), (54, .iconst (-1), 1), (55, .iadd, 1), (56, .putfield 21, 3), (59, .aload_n 0, 1), (60, .invokevirtual 50, 3), (63, .iconst 1, 1), (64, .ireturn, 1)]
theorem dtX3_putWall_0 : tbX3_putWall_0.all (fun e => decide (decode cX3_putWall e.1 = .ok e.2)) = true := by decide +kernel
def tbX3_putLift_0 : List (Nat × Instr × Nat) := [(0, .iload_n 2, 1), (1, .aload_n 0, 1), (2, .getfield 15, 3), (5, .imul, 1), (6, .iload_n 1, 1), (7, .iadd, 1), (8, .istore 4, 2), (10, .aload_n 0, 1), (11, .getfield 37, 3), (14, .iload 4, 2), (16, .baload, 1), (17, .iload_n 3, 1), (18, .if_icmp .ne 5, 3), (21, .iconst 0, 1), (22, .ireturn, 1), (23, .aload_n 0, 1), (24, .getfield 37, 3), (27, .iload 4, 2), (29, .iload_n 3, 1), (30, .bastore, 1), (31, .aload_n 0, 1), (32, .dup, 1), (33, .getfield 24, 3), (36, .iload_n 3, 1), (37, .ifCond .eq 7, 3), (40, .iconst 1, 1), (41, .goto 4, 3), (44, .iconst (-1), 1), (45, .iadd, 1), (46, .putfield 24, 3), (49, .aload_n 0, 1), (50, .invokevirtual 50, 3), (53, .iconst 1, 1), (54, .ireturn, 1)]
theorem dtX3_putLift_0 : tbX3_putLift_0.all (fun e => decide (decode cX3_putLift e.1 = .ok e.2)) = true := by decide +kernel
def tbX3_putStay_0 : List (Nat × Instr × Nat) := [(0, .aload_n 0, 1), (1, .getfield 27, 3), (4, .istore_n 2, 1), (5, .aload_n 0, 1), (6, .iload_n 1, 1), (7, .putfield 27, 3), (10, .aload_n 0, 1), (11, .invokevirtual 50, 3), (14, .iload_n 2, 1), (15, .ireturn, 1)]
theorem dtX3_putStay_0 : tbX3_putStay_0.all (fun e => decide (decode cX3_putStay e.1 = .ok e.2)) = true := by decide +kernel
def tbX3_chartSteps_0 : List (Nat × Instr × Nat) := [(0, .iconst 0, 1), (1, .istore_n 1, 1), (2, .iload_n 1, 1), (3, .aload_n 0, 1), (4, .invokevirtual 53, 3), (7, .if_icmp .ge 18, 3), (10, .aload_n 0, 1), (11, .iload_n 1, 1), (12, .iload_n 1, 1), (13, .bipush 7, 2), (15, .imul, 1), (16, .invokevirtual 76, 3), (19, .iinc 1 1, 3), (22, .goto (-20), 3), (25, .return_, 1)]
theorem dtX3_chartSteps_0 : tbX3_chartSteps_0.all (fun e => decide (decode cX3_chartSteps e.1 = .ok e.2)) = true := by decide +kernel
def tbX3_chartStepsFrom_0 : List (Nat × Instr × Nat) := [(0, .aload_n 0, 1), (1, .iload_n 1, 1), (2, .invokevirtual 61, 3), (5, .istore_n 3, 1), (6, .aload_n 0, 1), (7, .iload_n 1, 1), (8, .invokevirtual 70, 3), (11, .istore 4, 2), (13, .aload_n 0, 1), (14, .iload_n 1, 1), (15, .invokevirtual 73, 3), (18, .istore 5, 2), (20, .aload_n 0, 1), (21, .getfield 37, 3), (24, .iload 4, 2), (26, .aload_n 0, 1), (27, .getfield 15, 3), (30, .imul, 1), (31, .iload_n 3, 1), (32, .iadd, 1), (33, .baload, 1), (34, .istore 6, 2), (36, .aload_n 0, 1), (37, .getfield 40, 3), (40, .iload_n 2, 1), (41, .iload 6, 2), (43, .ifCond .eq 22, 3), (46, .iload 5, 2), (48, .ifCond .le 17, 3), (51, .iload_n 1, 1), (52, .aload_n 0, 1), (53, .getfield 15, 3), (56, .aload_n 0, 1), (57, .getfield 18, 3), (60, .imul, 1), (61, .isub, 1), (62, .goto 4, 3), (65, .iconst (-1), 1), (66, .iastore, 1), (67, .aload_n 0, 1)]
theorem dtX3_chartStepsFrom_0 : tbX3_chartStepsFrom_0.all (fun e => decide (decode cX3_chartStepsFrom e.1 = .ok e.2)) = true := by decide +kernel
def tbX3_chartStepsFrom_1 : List (Nat × Instr × Nat) := [(68, .getfield 40, 3), (71, .iload_n 2, 1), (72, .iconst 1, 1), (73, .iadd, 1), (74, .iload 4, 2), (76, .ifCond .le 26, 3), (79, .aload_n 0, 1), (80, .getfield 34, 3), (83, .iload_n 1, 1), (84, .aload_n 0, 1), (85, .getfield 15, 3), (88, .isub, 1), (89, .baload, 1), (90, .ifCond .ne 12, 3), (93, .iload_n 1, 1), (94, .aload_n 0, 1), (95, .getfield 15, 3), (98, .isub, 1), (99, .goto 4, 3), (102, .iconst (-1), 1), (103, .iastore, 1), (104, .aload_n 0, 1), (105, .getfield 40, 3), (108, .iload_n 2, 1), (109, .iconst 2, 1), (110, .iadd, 1), (111, .iload_n 3, 1), (112, .ifCond .le 20, 3), (115, .aload_n 0, 1), (116, .getfield 30, 3), (119, .iload_n 1, 1), (120, .iconst 1, 1), (121, .isub, 1), (122, .baload, 1), (123, .ifCond .ne 9, 3), (126, .iload_n 1, 1), (127, .iconst 1, 1), (128, .isub, 1), (129, .goto 4, 3), (132, .iconst (-1), 1)]
theorem dtX3_chartStepsFrom_1 : tbX3_chartStepsFrom_1.all (fun e => decide (decode cX3_chartStepsFrom e.1 = .ok e.2)) = true := by decide +kernel
def tbX3_chartStepsFrom_2 : List (Nat × Instr × Nat) := [(133, .iastore, 1), (134, .aload_n 0, 1), (135, .getfield 40, 3), (138, .iload_n 2, 1), (139, .iconst 3, 1), (140, .iadd, 1), (141, .aload_n 0, 1), (142, .getfield 27, 3), (145, .ifCond .le 7, 3), (148, .iload_n 1, 1), (149, .goto 4, 3), (152, .iconst (-1), 1), (153, .iastore, 1), (154, .aload_n 0, 1), (155, .getfield 40, 3), (158, .iload_n 2, 1), (159, .iconst 4, 1), (160, .iadd, 1), (161, .iload_n 3, 1), (162, .aload_n 0, 1), (163, .getfield 15, 3), (166, .iconst 1, 1), (167, .isub, 1), (168, .if_icmp .ge 18, 3), (171, .aload_n 0, 1), (172, .getfield 30, 3), (175, .iload_n 1, 1), (176, .baload, 1), (177, .ifCond .ne 9, 3), (180, .iload_n 1, 1), (181, .iconst 1, 1), (182, .iadd, 1), (183, .goto 4, 3), (186, .iconst (-1), 1), (187, .iastore, 1), (188, .aload_n 0, 1), (189, .getfield 40, 3), (192, .iload_n 2, 1), (193, .iconst 5, 1), (194, .iadd, 1)]
theorem dtX3_chartStepsFrom_2 : tbX3_chartStepsFrom_2.all (fun e => decide (decode cX3_chartStepsFrom e.1 = .ok e.2)) = true := by decide +kernel
def tbX3_chartStepsFrom_3 : List (Nat × Instr × Nat) := [(195, .iload 4, 2), (197, .aload_n 0, 1), (198, .getfield 18, 3), (201, .iconst 1, 1), (202, .isub, 1), (203, .if_icmp .ge 21, 3), (206, .aload_n 0, 1), (207, .getfield 34, 3), (210, .iload_n 1, 1), (211, .baload, 1), (212, .ifCond .ne 12, 3), (215, .iload_n 1, 1), (216, .aload_n 0, 1), (217, .getfield 15, 3), (220, .iadd, 1), (221, .goto 4, 3), (224, .iconst (-1), 1), (225, .iastore, 1), (226, .aload_n 0, 1), (227, .getfield 40, 3), (230, .iload_n 2, 1), (231, .bipush 6, 2), (233, .iadd, 1), (234, .iload 6, 2), (236, .ifCond .eq 28, 3), (239, .iload 5, 2), (241, .aload_n 0, 1), (242, .getfield 9, 3), (245, .iconst 1, 1), (246, .isub, 1), (247, .if_icmp .ge 17, 3), (250, .iload_n 1, 1), (251, .aload_n 0, 1), (252, .getfield 15, 3), (255, .aload_n 0, 1), (256, .getfield 18, 3), (259, .imul, 1), (260, .iadd, 1), (261, .goto 4, 3), (264, .iconst (-1), 1)]
theorem dtX3_chartStepsFrom_3 : tbX3_chartStepsFrom_3.all (fun e => decide (decode cX3_chartStepsFrom e.1 = .ok e.2)) = true := by decide +kernel
def tbX3_chartStepsFrom_4 : List (Nat × Instr × Nat) := [(265, .iastore, 1), (266, .return_, 1)]
theorem dtX3_chartStepsFrom_4 : tbX3_chartStepsFrom_4.all (fun e => decide (decode cX3_chartStepsFrom e.1 = .ok e.2)) = true := by decide +kernel
def tbX3_targetOf_0 : List (Nat × Instr × Nat) := [(0, .aload_n 0, 1), (1, .getfield 40, 3), (4, .iload_n 1, 1), (5, .bipush 7, 2), (7, .imul, 1), (8, .iload_n 2, 1), (9, .iadd, 1), (10, .iaload, 1), (11, .ireturn, 1)]
theorem dtX3_targetOf_0 : tbX3_targetOf_0.all (fun e => decide (decode cX3_targetOf e.1 = .ok e.2)) = true := by decide +kernel
def tbX3_likelyTo_0 : List (Nat × Instr × Nat) := [(0, .iload_n 1, 1), (1, .iconst 3, 1), (2, .if_icmp .ne 8, 3), (5, .aload_n 0, 1), (6, .getfield 27, 3), (9, .ireturn, 1), (10, .iload_n 1, 1), (11, .ifCond .eq 9, 3), (14, .iload_n 1, 1), (15, .bipush 6, 2), (17, .if_icmp .ne 7, 3), (20, .iconst 1, 1), (21, .goto 4, 3), (24, .iconst 2, 1), (25, .ireturn, 1)]
theorem dtX3_likelyTo_0 : tbX3_likelyTo_0.all (fun e => decide (decode cX3_likelyTo e.1 = .ok e.2)) = true := by decide +kernel
def tbX3_likelyOfAll_0 : List (Nat × Instr × Nat) := [(0, .iconst 0, 1), (1, .istore_n 2, 1), (2, .iconst 0, 1), (3, .istore_n 3, 1), (4, .iload_n 3, 1), (5, .bipush 7, 2), (7, .if_icmp .ge 27, 3), (10, .aload_n 0, 1), (11, .iload_n 1, 1), (12, .iload_n 3, 1), (13, .invokevirtual 80, 3), (16, .iconst (-1), 1), (17, .if_icmp .eq 11, 3), (20, .iload_n 2, 1), (21, .aload_n 0, 1), (22, .iload_n 3, 1), (23, .invokevirtual 84, 3), (26, .iadd, 1), (27, .istore_n 2, 1), (28, .iinc 3 1, 3), (31, .goto (-27), 3), (34, .iload_n 2, 1), (35, .ireturn, 1)]
theorem dtX3_likelyOfAll_0 : tbX3_likelyOfAll_0.all (fun e => decide (decode cX3_likelyOfAll e.1 = .ok e.2)) = true := by decide +kernel
def tbX3_likelyBetween_0 : List (Nat × Instr × Nat) := [(0, .iconst 0, 1), (1, .istore_n 3, 1), (2, .iload_n 3, 1), (3, .bipush 7, 2), (5, .if_icmp .ge 25, 3), (8, .aload_n 0, 1), (9, .iload_n 1, 1), (10, .iload_n 3, 1), (11, .invokevirtual 80, 3), (14, .iload_n 2, 1), (15, .if_icmp .ne 9, 3), (18, .aload_n 0, 1), (19, .iload_n 3, 1), (20, .invokevirtual 84, 3), (23, .ireturn, 1), (24, .iinc 3 1, 3), (27, .goto (-25), 3), (30, .iconst 0, 1), (31, .ireturn, 1)]
theorem dtX3_likelyBetween_0 : tbX3_likelyBetween_0.all (fun e => decide (decode cX3_likelyBetween e.1 = .ok e.2)) = true := by decide +kernel
def tbX3_fewestSteps_0 : List (Nat × Instr × Nat) := [(0, .aload_n 0, 1), (1, .getfield 44, 3), (4, .iconst (-1), 1), (5, .invokestatic 87, 3), (8, .aload_n 0, 1), (9, .getfield 44, 3), (12, .iload_n 1, 1), (13, .iconst 0, 1), (14, .iastore, 1), (15, .aload_n 0, 1), (16, .getfield 47, 3), (19, .iconst 0, 1), (20, .iload_n 1, 1), (21, .iastore, 1), (22, .iconst 1, 1), (23, .istore_n 3, 1), (24, .iconst 0, 1), (25, .istore 4, 2), (27, .iload 4, 2), (29, .iload_n 3, 1), (30, .if_icmp .ge 104, 3), (33, .iload 4, 2), (35, .bipush 72, 2), (37, .if_icmp .ge 97, 3), (40, .aload_n 0, 1), (41, .getfield 47, 3), (44, .iload 4, 2), (46, .iaload, 1), (47, .istore 5, 2), (49, .iconst 0, 1), (50, .istore 6, 2), (52, .iload 6, 2), (54, .bipush 7, 2), (56, .if_icmp .ge 72, 3), (59, .aload_n 0, 1), (60, .iload 5, 2), (62, .iload 6, 2), (64, .invokevirtual 80, 3), (67, .istore 7, 2), (69, .aload_n 0, 1)]
theorem dtX3_fewestSteps_0 : tbX3_fewestSteps_0.all (fun e => decide (decode cX3_fewestSteps e.1 = .ok e.2)) = true := by decide +kernel
def tbX3_fewestSteps_1 : List (Nat × Instr × Nat) := [(70, .iload 7, 2), (72, .invokevirtual 93, 3), (75, .ifCond .eq 47, 3), (78, .aload_n 0, 1), (79, .getfield 44, 3), (82, .iload 7, 2), (84, .iaload, 1), (85, .iconst (-1), 1), (86, .if_icmp .ne 36, 3), (89, .iload_n 3, 1), (90, .bipush 72, 2), (92, .if_icmp .ge 30, 3), (95, .aload_n 0, 1), (96, .getfield 44, 3), (99, .iload 7, 2), (101, .aload_n 0, 1), (102, .getfield 44, 3), (105, .iload 5, 2), (107, .iaload, 1), (108, .iconst 1, 1), (109, .iadd, 1), (110, .iastore, 1), (111, .aload_n 0, 1), (112, .getfield 47, 3), (115, .iload_n 3, 1), (116, .iload 7, 2), (118, .iastore, 1), (119, .iinc 3 1, 3), (122, .iinc 6 1, 3), (125, .goto (-73), 3), (128, .iinc 4 1, 3), (131, .goto (-104), 3), (134, .aload_n 0, 1), (135, .getfield 44, 3), (138, .iload_n 2, 1), (139, .iaload, 1), (140, .ireturn, 1)]
theorem dtX3_fewestSteps_1 : tbX3_fewestSteps_1.all (fun e => decide (decode cX3_fewestSteps e.1 = .ok e.2)) = true := by decide +kernel
def tbX4_init_0 : List (Nat × Instr × Nat) := [(0, .aload_n 0, 1), (1, .invokespecial 3, 3), (4, .aload_n 0, 1), (5, .iconst 0, 1), (6, .putfield 9, 3), (9, .aload_n 0, 1), (10, .sipush 6336, 3), (13, .newarray .int, 2), (15, .putfield 15, 3), (18, .return_, 1)]
theorem dtX4_init_0 : tbX4_init_0.all (fun e => decide (decode cX4_init e.1 = .ok e.2)) = true := by decide +kernel
def tbX4_clear_0 : List (Nat × Instr × Nat) := [(0, .aload_n 0, 1), (1, .getfield 15, 3), (4, .iconst 0, 1), (5, .invokestatic 19, 3), (8, .return_, 1)]
theorem dtX4_clear_0 : tbX4_clear_0.all (fun e => decide (decode cX4_clear e.1 = .ok e.2)) = true := by decide +kernel
def tbX4_putDead_0 : List (Nat × Instr × Nat) := [(0, .aload_n 0, 1), (1, .iload_n 2, 1), (2, .ifCond .eq 14, 3), (5, .aload_n 0, 1), (6, .getfield 9, 3), (9, .iconst 1, 1), (10, .iload_n 1, 1), (11, .ishl, 1), (12, .ior, 1), (13, .goto 13, 3), (16, .aload_n 0, 1), (17, .getfield 9, 3), (20, .iconst 1, 1), (21, .iload_n 1, 1), (22, .ishl, 1), (23, .iconst (-1), 1), (24, .ixor, 1), (25, .iand, 1), (26, .putfield 9, 3), (29, .return_, 1)]
theorem dtX4_putDead_0 : tbX4_putDead_0.all (fun e => decide (decode cX4_putDead e.1 = .ok e.2)) = true := by decide +kernel
def tbX4_isDead_0 : List (Nat × Instr × Nat) := [(0, .aload_n 0, 1), (1, .getfield 9, 3), (4, .iload_n 1, 1), (5, .ishr, 1), (6, .iconst 1, 1), (7, .iand, 1), (8, .iconst 1, 1), (9, .if_icmp .ne 7, 3), (12, .iconst 1, 1), (13, .goto 4, 3), (16, .iconst 0, 1), (17, .ireturn, 1)]
theorem dtX4_isDead_0 : tbX4_isDead_0.all (fun e => decide (decode cX4_isDead e.1 = .ok e.2)) = true := by decide +kernel
def tbX4_slotOf_0 : List (Nat × Instr × Nat) := [(0, .iload_n 0, 1), (1, .bipush 72, 2), (3, .imul, 1), (4, .iload_n 1, 1), (5, .iadd, 1), (6, .bipush 11, 2), (8, .imul, 1), (9, .iload_n 2, 1), (10, .iadd, 1), (11, .iconst (-1), 1), (12, .isub, 1), (13, .ireturn, 1)]
theorem dtX4_slotOf_0 : tbX4_slotOf_0.all (fun e => decide (decode cX4_slotOf e.1 = .ok e.2)) = true := by decide +kernel
def tbX4_weightOf_0 : List (Nat × Instr × Nat) := [(0, .aload_n 0, 1), (1, .getfield 15, 3), (4, .iload_n 1, 1), (5, .iload_n 2, 1), (6, .iload_n 3, 1), (7, .invokestatic 25, 3), (10, .iaload, 1), (11, .iconst 1, 1), (12, .iadd, 1), (13, .ireturn, 1)]
theorem dtX4_weightOf_0 : tbX4_weightOf_0.all (fun e => decide (decode cX4_weightOf e.1 = .ok e.2)) = true := by decide +kernel
def tbX4_weightOfAll_0 : List (Nat × Instr × Nat) := [(0, .iconst 0, 1), (1, .istore_n 3, 1), (2, .iconst (-1), 1), (3, .istore 4, 2), (5, .iload 4, 2), (7, .bipush 9, 2), (9, .if_icmp .gt 20, 3), (12, .iload_n 3, 1), (13, .aload_n 0, 1), (14, .iload_n 1, 1), (15, .iload_n 2, 1), (16, .iload 4, 2), (18, .invokevirtual 29, 3), (21, .iadd, 1), (22, .istore_n 3, 1), (23, .iinc 4 1, 3), (26, .goto (-21), 3), (29, .iload_n 3, 1), (30, .ireturn, 1)]
theorem dtX4_weightOfAll_0 : tbX4_weightOfAll_0.all (fun e => decide (decode cX4_weightOfAll e.1 = .ok e.2)) = true := by decide +kernel
def tbX4_greatestWeight_0 : List (Nat × Instr × Nat) := [(0, .iconst 1, 1), (1, .istore 4, 2), (3, .iconst 0, 1), (4, .istore 5, 2), (6, .iload 5, 2), (8, .iload_n 3, 1), (9, .if_icmp .ge 24, 3), (12, .iload 4, 2), (14, .aload_n 0, 1), (15, .iload_n 1, 1), (16, .iload 5, 2), (18, .iload_n 2, 1), (19, .invokevirtual 29, 3), (22, .invokestatic 32, 3), (25, .istore 4, 2), (27, .iinc 5 1, 3), (30, .goto (-24), 3), (33, .iload 4, 2), (35, .ireturn, 1)]
theorem dtX4_greatestWeight_0 : tbX4_greatestWeight_0.all (fun e => decide (decode cX4_greatestWeight e.1 = .ok e.2)) = true := by decide +kernel
def tbX4_addRow_0 : List (Nat × Instr × Nat) := [(0, .iconst 0, 1), (1, .istore 4, 2), (3, .iconst 0, 1), (4, .istore 5, 2), (6, .iload 5, 2), (8, .bipush 8, 2), (10, .if_icmp .ge 60, 3), (13, .aload_n 1, 1), (14, .iload_n 2, 1), (15, .iload 5, 2), (17, .invokevirtual 38, 3), (20, .istore 6, 2), (22, .iload 6, 2), (24, .bipush (-2), 2), (26, .if_icmp .eq 38, 3), (29, .iinc 4 1, 3), (32, .iload 5, 2), (34, .iload_n 3, 1), (35, .iload 6, 2), (37, .invokestatic 25, 3), (40, .istore 7, 2), (42, .aload_n 0, 1), (43, .getfield 15, 3), (46, .iload 7, 2), (48, .sipush 255, 3), (51, .aload_n 0, 1), (52, .getfield 15, 3), (55, .iload 7, 2), (57, .iaload, 1), (58, .iconst 1, 1), (59, .iadd, 1), (60, .invokestatic 43, 3), (63, .iastore, 1), (64, .iinc 5 1, 3), (67, .goto (-61), 3), (70, .iload 4, 2), (72, .ireturn, 1)]
theorem dtX4_addRow_0 : tbX4_addRow_0.all (fun e => decide (decode cX4_addRow e.1 = .ok e.2)) = true := by decide +kernel
def tbX4_rowWeight_0 : List (Nat × Instr × Nat) := [(0, .iconst 0, 1), (1, .istore 6, 2), (3, .iconst 0, 1), (4, .istore 7, 2), (6, .iload 7, 2), (8, .bipush 8, 2), (10, .if_icmp .ge 57, 3), (13, .aload_n 1, 1), (14, .iload_n 2, 1), (15, .iload 7, 2), (17, .iload 4, 2), (19, .invokevirtual 46, 3), (22, .istore 8, 2), (24, .iload 8, 2), (26, .bipush (-2), 2), (28, .if_icmp .eq 33, 3), (31, .iload 7, 2), (33, .iload 5, 2), (35, .if_icmp .eq 26, 3), (38, .aload_n 0, 1), (39, .iload 7, 2), (41, .invokevirtual 49, 3), (44, .ifCond .ne 17, 3), (47, .iload 6, 2), (49, .aload_n 0, 1), (50, .iload 7, 2), (52, .iload_n 3, 1), (53, .iload 8, 2), (55, .invokevirtual 29, 3), (58, .iadd, 1), (59, .istore 6, 2), (61, .iinc 7 1, 3), (64, .goto (-58), 3), (67, .iload 6, 2), (69, .ireturn, 1)]
theorem dtX4_rowWeight_0 : tbX4_rowWeight_0.all (fun e => decide (decode cX4_rowWeight e.1 = .ok e.2)) = true := by decide +kernel
def tbX4_bestOffset_0 : List (Nat × Instr × Nat) := [(0, .iconst 0, 1), (1, .istore 4, 2), (3, .aload_n 0, 1), (4, .aload_n 1, 1), (5, .iload_n 2, 1), (6, .iload_n 3, 1), (7, .iconst 0, 1), (8, .iconst (-1), 1), (9, .invokevirtual 53, 3), (12, .istore 5, 2), (14, .iconst 1, 1), (15, .istore 6, 2), (17, .iload 6, 2), (19, .iconst 4, 1), (20, .if_icmp .gt 65, 3), (23, .aload_n 0, 1), (24, .aload_n 1, 1), (25, .iload_n 2, 1), (26, .iload_n 3, 1), (27, .iload 6, 2), (29, .ineg, 1), (30, .iconst (-1), 1), (31, .invokevirtual 53, 3), (34, .istore 7, 2), (36, .iload 7, 2), (38, .iload 5, 2), (40, .if_icmp .le 12, 3), (43, .iload 7, 2), (45, .istore 5, 2), (47, .iload 6, 2), (49, .ineg, 1), (50, .istore 4, 2), (52, .aload_n 0, 1), (53, .aload_n 1, 1), (54, .iload_n 2, 1), (55, .iload_n 3, 1), (56, .iload 6, 2), (58, .iconst (-1), 1), (59, .invokevirtual 53, 3), (62, .istore 8, 2)]
theorem dtX4_bestOffset_0 : tbX4_bestOffset_0.all (fun e => decide (decode cX4_bestOffset e.1 = .ok e.2)) = true := by decide +kernel
def tbX4_bestOffset_1 : List (Nat × Instr × Nat) := [(64, .iload 8, 2), (66, .iload 5, 2), (68, .if_icmp .le 11, 3), (71, .iload 8, 2), (73, .istore 5, 2), (75, .iload 6, 2), (77, .istore 4, 2), (79, .iinc 6 1, 3), (82, .goto (-65), 3), (85, .iload 4, 2), (87, .ireturn, 1)]
theorem dtX4_bestOffset_1 : tbX4_bestOffset_1.all (fun e => decide (decode cX4_bestOffset e.1 = .ok e.2)) = true := by decide +kernel
def tbX5_init_0 : List (Nat × Instr × Nat) := [(0, .aload_n 0, 1), (1, .invokespecial 3, 3), (4, .aload_n 0, 1), (5, .iconst 1, 1), (6, .putfield 9, 3), (9, .aload_n 0, 1), (10, .iconst 0, 1), (11, .putfield 15, 3), (14, .aload_n 0, 1), (15, .iconst 0, 1), (16, .putfield 19, 3), (19, .aload_n 0, 1), (20, .sipush 240, 3), (23, .newarray .int, 2), (25, .putfield 22, 3), (28, .return_, 1)]
theorem dtX5_init_0 : tbX5_init_0.all (fun e => decide (decode cX5_init e.1 = .ok e.2)) = true := by decide +kernel
def tbX5_renew_0 : List (Nat × Instr × Nat) := [(0, .aload_n 0, 1), (1, .iconst 0, 1), (2, .putfield 9, 3), (5, .aload_n 0, 1), (6, .iload_n 1, 1), (7, .putfield 15, 3), (10, .aload_n 0, 1), (11, .iload_n 2, 1), (12, .putfield 19, 3), (15, .aload_n 0, 1), (16, .getfield 22, 3), (19, .iconst 0, 1), (20, .invokestatic 26, 3), (23, .return_, 1)]
theorem dtX5_renew_0 : tbX5_renew_0.all (fun e => decide (decode cX5_renew e.1 = .ok e.2)) = true := by decide +kernel
def tbX5_drop_0 : List (Nat × Instr × Nat) := [(0, .aload_n 0, 1), (1, .getfield 19, 3), (4, .istore_n 1, 1), (5, .aload_n 0, 1), (6, .iconst 1, 1), (7, .putfield 9, 3), (10, .aload_n 0, 1), (11, .iconst 0, 1), (12, .putfield 19, 3), (15, .iload_n 1, 1), (16, .ireturn, 1)]
theorem dtX5_drop_0 : tbX5_drop_0.all (fun e => decide (decode cX5_drop e.1 = .ok e.2)) = true := by decide +kernel
def tbX5_store_0 : List (Nat × Instr × Nat) := [(0, .aload_n 0, 1), (1, .getfield 15, 3), (4, .ifCond .ne 14, 3), (7, .aload_n 0, 1), (8, .getfield 22, 3), (11, .iload_n 1, 1), (12, .iload_n 2, 1), (13, .i2b, 1), (14, .iastore, 1), (15, .goto 29, 3), (18, .aload_n 0, 1), (19, .getfield 15, 3), (22, .iconst 1, 1), (23, .if_icmp .ne 14, 3), (26, .aload_n 0, 1), (27, .getfield 22, 3), (30, .iload_n 1, 1), (31, .iload_n 2, 1), (32, .i2s, 1), (33, .iastore, 1), (34, .goto 10, 3), (37, .aload_n 0, 1), (38, .getfield 22, 3), (41, .iload_n 1, 1), (42, .iload_n 2, 1), (43, .iastore, 1), (44, .return_, 1)]
theorem dtX5_store_0 : tbX5_store_0.all (fun e => decide (decode cX5_store e.1 = .ok e.2)) = true := by decide +kernel
def tbX5_hasItems_0 : List (Nat × Instr × Nat) := [(0, .iload_n 1, 1), (1, .ifCond .lt 29, 3), (4, .iload_n 2, 1), (5, .ifCond .lt 25, 3), (8, .iload_n 1, 1), (9, .aload_n 0, 1), (10, .getfield 19, 3), (13, .if_icmp .gt 17, 3), (16, .iload_n 2, 1), (17, .aload_n 0, 1), (18, .getfield 19, 3), (21, .iload_n 1, 1), (22, .isub, 1), (23, .if_icmp .gt 7, 3), (26, .iconst 1, 1), (27, .goto 4, 3), (30, .iconst 0, 1), (31, .ireturn, 1)]
theorem dtX5_hasItems_0 : tbX5_hasItems_0.all (fun e => decide (decode cX5_hasItems e.1 = .ok e.2)) = true := by decide +kernel
def tbX5_rows_0 : List (Nat × Instr × Nat) := [(0, .aload_n 0, 1), (1, .getfield 19, 3), (4, .bipush 8, 2), (6, .idiv, 1), (7, .ireturn, 1)]
theorem dtX5_rows_0 : tbX5_rows_0.all (fun e => decide (decode cX5_rows e.1 = .ok e.2)) = true := by decide +kernel
def tbX5_heardOf_0 : List (Nat × Instr × Nat) := [(0, .aload_n 0, 1), (1, .getfield 22, 3), (4, .iload_n 1, 1), (5, .bipush 8, 2), (7, .imul, 1), (8, .iload_n 2, 1), (9, .iadd, 1), (10, .iaload, 1), (11, .istore_n 3, 1), (12, .iload_n 3, 1), (13, .iconst (-1), 1), (14, .if_icmp .lt 13, 3), (17, .iload_n 3, 1), (18, .bipush 9, 2), (20, .if_icmp .gt 7, 3), (23, .iload_n 3, 1), (24, .goto 5, 3), (27, .bipush (-2), 2), (29, .ireturn, 1)]
theorem dtX5_heardOf_0 : tbX5_heardOf_0.all (fun e => decide (decode cX5_heardOf e.1 = .ok e.2)) = true := by decide +kernel
def tbX5_heardBy_0 : List (Nat × Instr × Nat) := [(0, .aload_n 0, 1), (1, .iload_n 1, 1), (2, .iload_n 2, 1), (3, .invokevirtual 32, 3), (6, .istore 4, 2), (8, .iload 4, 2), (10, .bipush (-2), 2), (12, .if_icmp .eq 9, 3), (15, .iload 4, 2), (17, .iconst (-1), 1), (18, .if_icmp .ne 6, 3), (21, .iload 4, 2), (23, .ireturn, 1), (24, .iconst 0, 1), (25, .bipush 9, 2), (27, .iload 4, 2), (29, .iload_n 3, 1), (30, .isub, 1), (31, .invokestatic 36, 3), (34, .invokestatic 41, 3), (37, .ireturn, 1)]
theorem dtX5_heardBy_0 : tbX5_heardBy_0.all (fun e => decide (decode cX5_heardBy e.1 = .ok e.2)) = true := by decide +kernel
def tbX6_init_0 : List (Nat × Instr × Nat) := [(0, .aload_n 0, 1), (1, .invokespecial 3, 3), (4, .aload_n 0, 1), (5, .bipush 30, 2), (7, .newarray .int, 2), (9, .putfield 9, 3), (12, .aload_n 0, 1), (13, .sipush 2160, 3), (16, .newarray .int, 2), (18, .putfield 15, 3), (21, .return_, 1)]
theorem dtX6_init_0 : tbX6_init_0.all (fun e => decide (decode cX6_init e.1 = .ok e.2)) = true := by decide +kernel
def tbX6_findWay_0 : List (Nat × Instr × Nat) := [(0, .aload_n 3, 1), (1, .invokevirtual 18, 3), (4, .bipush 30, 2), (6, .invokestatic 24, 3), (9, .istore 5, 2), (11, .iload 5, 2), (13, .ifCond .ne 5, 3), (16, .iconst (-1), 1), (17, .ireturn, 1), (18, .iload 5, 2), (20, .iconst 1, 1), (21, .isub, 1), (22, .istore 6, 2), (24, .iload 6, 2), (26, .ifCond .lt 114, 3), (29, .iload 6, 2), (31, .iload 5, 2), (33, .iconst 1, 1), (34, .isub, 1), (35, .if_icmp .ne 7, 3), (38, .iconst 1, 1), (39, .goto 4, 3), (42, .iconst 0, 1), (43, .istore 7, 2), (45, .iconst 0, 1), (46, .istore 8, 2), (48, .iload 8, 2), (50, .aload_n 1, 1), (51, .invokevirtual 30, 3), (54, .if_icmp .ge 80, 3), (57, .iload 7, 2), (59, .ifCond .eq 7, 3), (62, .iconst 0, 1), (63, .goto 21, 3), (66, .aload_n 0, 1), (67, .aload_n 1, 1), (68, .iload 6, 2), (70, .iload 8, 2), (72, .aload_n 0, 1), (73, .aload_n 1, 1)]
theorem dtX6_findWay_0 : tbX6_findWay_0.all (fun e => decide (decode cX6_findWay e.1 = .ok e.2)) = true := by decide +kernel
def tbX6_findWay_1 : List (Nat × Instr × Nat) := [(74, .iload 6, 2), (76, .iload 8, 2), (78, .invokevirtual 35, 3), (81, .invokevirtual 39, 3), (84, .istore 9, 2), (86, .aload_n 2, 1), (87, .aload_n 3, 1), (88, .iload 6, 2), (90, .iload 8, 2), (92, .iconst 0, 1), (93, .iload 4, 2), (95, .invokevirtual 43, 3), (98, .istore 10, 2), (100, .aload_n 0, 1), (101, .getfield 15, 3), (104, .iload 6, 2), (106, .bipush 72, 2), (108, .imul, 1), (109, .iload 8, 2), (111, .iadd, 1), (112, .iload 9, 2), (114, .iconst (-1), 1), (115, .if_icmp .ne 7, 3), (118, .iconst (-1), 1), (119, .goto 8, 3), (122, .iload 10, 2), (124, .iload 9, 2), (126, .iadd, 1), (127, .iastore, 1), (128, .iinc 8 1, 3), (131, .goto (-83), 3), (134, .iinc 6 (-1), 3), (137, .goto (-113), 3), (140, .aload_n 0, 1), (141, .aload_n 1, 1), (142, .invokevirtual 30, 3), (145, .invokevirtual 49, 3), (148, .istore 6, 2), (150, .aload_n 0, 1), (151, .getfield 15, 3)]
theorem dtX6_findWay_1 : tbX6_findWay_1.all (fun e => decide (decode cX6_findWay e.1 = .ok e.2)) = true := by decide +kernel
def tbX6_findWay_2 : List (Nat × Instr × Nat) := [(154, .iload 6, 2), (156, .iaload, 1), (157, .iconst (-1), 1), (158, .if_icmp .eq 12, 3), (161, .aload_n 0, 1), (162, .aload_n 1, 1), (163, .iload 6, 2), (165, .iload 5, 2), (167, .invokevirtual 53, 3), (170, .aload_n 0, 1), (171, .getfield 15, 3), (174, .iload 6, 2), (176, .iaload, 1), (177, .ireturn, 1)]
theorem dtX6_findWay_2 : tbX6_findWay_2.all (fun e => decide (decode cX6_findWay e.1 = .ok e.2)) = true := by decide +kernel
def tbX6_scoreAfter_0 : List (Nat × Instr × Nat) := [(0, .iload 4, 2), (2, .iconst (-1), 1), (3, .if_icmp .ne 7, 3), (6, .iconst (-1), 1), (7, .goto 10, 3), (10, .aload_n 1, 1), (11, .iload_n 3, 1), (12, .iload 4, 2), (14, .invokevirtual 57, 3), (17, .istore 5, 2), (19, .aload_n 1, 1), (20, .iload 5, 2), (22, .invokevirtual 60, 3), (25, .ifCond .ne 5, 3), (28, .iconst (-1), 1), (29, .ireturn, 1), (30, .aload_n 0, 1), (31, .getfield 15, 3), (34, .iload_n 2, 1), (35, .iconst 1, 1), (36, .iadd, 1), (37, .bipush 72, 2), (39, .imul, 1), (40, .iload 5, 2), (42, .iadd, 1), (43, .iaload, 1), (44, .istore 6, 2), (46, .iload 6, 2), (48, .iconst (-1), 1), (49, .if_icmp .ne 7, 3), (52, .iconst (-1), 1), (53, .goto 12, 3), (56, .iload 6, 2), (58, .aload_n 1, 1), (59, .iload 4, 2), (61, .invokevirtual 64, 3), (64, .iadd, 1), (65, .ireturn, 1)]
theorem dtX6_scoreAfter_0 : tbX6_scoreAfter_0.all (fun e => decide (decode cX6_scoreAfter e.1 = .ok e.2)) = true := by decide +kernel
def tbX6_bestDirection_0 : List (Nat × Instr × Nat) := [(0, .iconst (-1), 1), (1, .istore 4, 2), (3, .iconst (-1), 1), (4, .istore 5, 2), (6, .iconst 0, 1), (7, .istore 6, 2), (9, .iload 6, 2), (11, .bipush 7, 2), (13, .if_icmp .ge 35, 3), (16, .aload_n 0, 1), (17, .aload_n 1, 1), (18, .iload_n 2, 1), (19, .iload_n 3, 1), (20, .iload 6, 2), (22, .invokevirtual 39, 3), (25, .istore 7, 2), (27, .iload 7, 2), (29, .iload 5, 2), (31, .if_icmp .le 11, 3), (34, .iload 7, 2), (36, .istore 5, 2), (38, .iload 6, 2), (40, .istore 4, 2), (42, .iinc 6 1, 3), (45, .goto (-36), 3), (48, .iload 4, 2), (50, .ireturn, 1)]
theorem dtX6_bestDirection_0 : tbX6_bestDirection_0.all (fun e => decide (decode cX6_bestDirection e.1 = .ok e.2)) = true := by decide +kernel
def tbX6_bestFirst_0 : List (Nat × Instr × Nat) := [(0, .iconst 0, 1), (1, .istore_n 2, 1), (2, .iconst 1, 1), (3, .istore_n 3, 1), (4, .iload_n 3, 1), (5, .iload_n 1, 1), (6, .if_icmp .ge 26, 3), (9, .aload_n 0, 1), (10, .getfield 15, 3), (13, .iload_n 3, 1), (14, .iaload, 1), (15, .aload_n 0, 1), (16, .getfield 15, 3), (19, .iload_n 2, 1), (20, .iaload, 1), (21, .if_icmp .le 5, 3), (24, .iload_n 3, 1), (25, .istore_n 2, 1), (26, .iinc 3 1, 3), (29, .goto (-25), 3), (32, .iload_n 2, 1), (33, .ireturn, 1)]
theorem dtX6_bestFirst_0 : tbX6_bestFirst_0.all (fun e => decide (decode cX6_bestFirst e.1 = .ok e.2)) = true := by decide +kernel
def tbX6_trace_0 : List (Nat × Instr × Nat) := [(0, .aload_n 0, 1), (1, .getfield 9, 3), (4, .iconst 0, 1), (5, .iload_n 2, 1), (6, .iastore, 1), (7, .iconst 1, 1), (8, .istore 4, 2), (10, .iload 4, 2), (12, .iload_n 3, 1), (13, .if_icmp .ge 69, 3), (16, .aload_n 0, 1), (17, .aload_n 1, 1), (18, .iload 4, 2), (20, .iconst 1, 1), (21, .isub, 1), (22, .aload_n 0, 1), (23, .getfield 9, 3), (26, .iload 4, 2), (28, .iconst 1, 1), (29, .isub, 1), (30, .iaload, 1), (31, .invokevirtual 35, 3), (34, .istore 5, 2), (36, .aload_n 0, 1), (37, .getfield 9, 3), (40, .iload 4, 2), (42, .iload 5, 2), (44, .iconst (-1), 1), (45, .if_icmp .ne 15, 3), (48, .aload_n 0, 1), (49, .getfield 9, 3), (52, .iload 4, 2), (54, .iconst 1, 1), (55, .isub, 1), (56, .iaload, 1), (57, .goto 18, 3), (60, .aload_n 1, 1), (61, .aload_n 0, 1), (62, .getfield 9, 3), (65, .iload 4, 2)]
theorem dtX6_trace_0 : tbX6_trace_0.all (fun e => decide (decode cX6_trace e.1 = .ok e.2)) = true := by decide +kernel
def tbX6_trace_1 : List (Nat × Instr × Nat) := [(67, .iconst 1, 1), (68, .isub, 1), (69, .iaload, 1), (70, .iload 5, 2), (72, .invokevirtual 57, 3), (75, .iastore, 1), (76, .iinc 4 1, 3), (79, .goto (-69), 3), (82, .return_, 1)]
theorem dtX6_trace_1 : tbX6_trace_1.all (fun e => decide (decode cX6_trace e.1 = .ok e.2)) = true := by decide +kernel
def tbJ7_fill_d0a16_0 : List (Nat × Instr × Nat) := [(0, .iconst 0, 1), (1, .istore_n 3, 1), (2, .aload_n 0, 1), (3, .arraylength, 1), (4, .istore 4, 2), (6, .iload_n 3, 1), (7, .iload 4, 2), (9, .if_icmp .ge 13, 3), (12, .aload_n 0, 1), (13, .iload_n 3, 1), (14, .lload_n 1, 1), (15, .lastore, 1), (16, .iinc 3 1, 3), (19, .goto (-13), 3), (22, .return_, 1)]
theorem dtJ7_fill_d0a16_0 : tbJ7_fill_d0a16_0.all (fun e => decide (decode cJ7_fill_d0a16 e.1 = .ok e.2)) = true := by decide +kernel
def tbJ7_fill_53178_0 : List (Nat × Instr × Nat) := [(0, .iconst 0, 1), (1, .istore_n 2, 1), (2, .aload_n 0, 1), (3, .arraylength, 1), (4, .istore_n 3, 1), (5, .iload_n 2, 1), (6, .iload_n 3, 1), (7, .if_icmp .ge 13, 3), (10, .aload_n 0, 1), (11, .iload_n 2, 1), (12, .iload_n 1, 1), (13, .iastore, 1), (14, .iinc 2 1, 3), (17, .goto (-12), 3), (20, .return_, 1)]
theorem dtJ7_fill_53178_0 : tbJ7_fill_53178_0.all (fun e => decide (decode cJ7_fill_53178 e.1 = .ok e.2)) = true := by decide +kernel
end
section
/-! THE HOUSE, read; memories that differ in few places -/
def zN (σ : zMem) : Int := σ 0 0 * σ 1 0 * σ 2 0
def zHw (σ : zMem) : Prop := (1 ≤ σ 0 0 ∧ σ 0 0 ≤ 3) ∧ (1 ≤ σ 1 0 ∧ σ 1 0 ≤ 6) ∧ (1 ≤ σ 2 0 ∧ σ 2 0 ≤ 6) ∧ zN σ ≤ 72
theorem zHw_wh {σ : zMem} (h : zHw σ) : 1 ≤ σ 1 0 * σ 2 0 ∧ σ 1 0 * σ 2 0 ≤ 36 := by
  obtain ⟨-, h1, h2, -⟩ := h
  have a := Int.mul_le_mul h1.2 h2.2 (by omega) (by omega)
  have b := Int.mul_pos (show 0 < σ 1 0 by omega) (show 0 < σ 2 0 by omega)
  omega
theorem zN_eq (σ : zMem) : zN σ = σ 0 0 * (σ 1 0 * σ 2 0) := Int.mul_assoc _ _ _
theorem zHw_N {σ : zMem} (h : zHw σ) : 1 ≤ zN σ ∧ zN σ ≤ 72 := by
  have a := zHw_wh h
  have b := Int.mul_pos (show 0 < σ 0 0 by have := h.1; omega) (show 0 < σ 1 0 * σ 2 0 by omega)
  rw [← zN_eq] at b
  have c := h.2.2.2
  omega
def zE (μ σ : zMem) (l : List Nat) : Prop := ∀ k, k ∉ l → μ k = σ k
theorem zE_rf {σ : zMem} {l : List Nat} : zE σ σ l := fun _ _ => rfl
theorem zS_s (σ : zMem) (k : Nat) (F : Int → Int) : zS σ k F k = F := by
  unfold zS
  rw [show Nat.beq k k = true from Nat.beq_refl k]
  rfl
theorem zS_o {σ : zMem} {k k' : Nat} {F : Int → Int} (h : (k' == k) = false) : zS σ k F k' = σ k' := by
  unfold zS
  cases hb : Nat.beq k' k with
  | false => rfl
  | true => exact absurd (Nat.eq_of_beq_eq_true hb) (by simpa using h)
theorem zS_n {σ : zMem} {k k' : Nat} {F : Int → Int} (h : k' ≠ k) : zS σ k F k' = σ k' := zS_o (by simpa using h)
theorem zE_set {μ σ : zMem} {l : List Nat} {k : Nat} {F : Int → Int} (h : zE μ σ l) (hk : k ∈ l) : zE (zS μ k F) σ l := fun j hj => by
  have hne : j ≠ k := fun e => hj (by rw [e]; exact hk)
  rw [zS_n hne, h j hj]
theorem zE_tr {μ ν σ : zMem} {l : List Nat} (h1 : zE μ ν l) (h2 : zE ν σ l) : zE μ σ l := fun j hj => (h1 j hj).trans (h2 j hj)
theorem zE_mo {μ σ : zMem} {l l' : List Nat} (h : zE μ σ l) (hl : ∀ k ∈ l, k ∈ l') : zE μ σ l' := fun j hj => h j (fun q => hj (hl j q))
theorem zU_s (F : Int → Int) (i v : Int) : zU F i v i = v := if_pos rfl
theorem zU_n {F : Int → Int} {i v j : Int} (h : j ≠ i) : zU F i v j = F j := if_neg h
theorem zHw_E {μ σ : zMem} {l : List Nat} (h : zE μ σ l) (h0 : 0 ∉ l := by decide) (h1 : 1 ∉ l := by decide) (h2 : 2 ∉ l := by decide) (hw : zHw σ) : zHw μ := by
  unfold zHw zN
  rw [h 0 h0, h 1 h1, h 2 h2]
  exact hw
theorem zN_E {μ σ : zMem} {l : List Nat} (h : zE μ σ l) (h0 : 0 ∉ l := by decide) (h1 : 1 ∉ l := by decide) (h2 : 2 ∉ l := by decide) : zN μ = zN σ := by
  unfold zN
  rw [h 0 h0, h 1 h1, h 2 h2]
def zIsA (σ : zMem) (f x0 x1 y0 y1 : Int) : Prop := (0 ≤ f ∧ f < σ 0 0) ∧ x0 ≤ x1 ∧ y0 ≤ y1 ∧ (0 ≤ x0 ∧ x0 < σ 1 0) ∧ (0 ≤ y0 ∧ y0 < σ 2 0) ∧ (0 ≤ x1 ∧ x1 < σ 1 0) ∧ (0 ≤ y1 ∧ y1 < σ 2 0)
def zLik (σ : zMem) (d : Int) : Int := if d = 3 then σ 3 0 else if d = 0 ∨ d = 6 then 1 else 2
def zAll (σ : zMem) (c : Int) : Nat → Int
  | 0 => 0
  | n + 1 => zAll σ c n + if σ 33 (c * 7 + n) = -1 then 0 else zLik σ n
theorem zLik_b {σ : zMem} (h : 0 ≤ σ 3 0 ∧ σ 3 0 ≤ 9) (d : Int) : 0 ≤ zLik σ d ∧ zLik σ d ≤ 9 := by
  unfold zLik
  split
  · omega
  · split <;> omega
theorem zAll_b {σ : zMem} (h : 0 ≤ σ 3 0 ∧ σ 3 0 ≤ 9) (c : Int) : ∀ n : Nat, 0 ≤ zAll σ c n ∧ zAll σ c n ≤ 9 * n
  | 0 => by simp [zAll]
  | n + 1 => by
    have a := zAll_b h c n
    have b := zLik_b h n
    rw [zAll]
    split <;> (constructor <;> (try push_cast) <;> omega)
/-- an array's numbers beyond its end are free -/
theorem z_arr {K : z_KT} {cells slots pc : Nat} {L : List (Option Value)} {st : List Value} {ws : va_W} {a : Nat} {cA : ClassId} {n : Nat} {f f' : Nat → Int32} (q0 : Nat) (ha : ws[q0]? = some (a, .inl (cA, n, .inl f))) (hf : ∀ j, j < n → f j = f' j) (k : Gd K cells slots pc L st (ws.set q0 (a, .inl (cA, n, .inl f')))) : Gd K cells slots pc L st ws := by
  obtain ⟨p, l, e, R, s, m, args, below, meth, c, A, H0, Q, D, t⟩ := K
  intro H locs ls hP hD hS hl
  refine k H locs ls (hP.set hD ha ?_ fun _ _ => rfl) (hD.set ha) hS hl
  have h := hP q0 _ ha
  show H[a]? = some (vp_cell _ _)
  have h2 : H[a]? = some (vp_cell cA (n, .inl f)) := h
  rw [h2, vp_cell_i, vp_cell_i]
  unfold arrV
  congr 3
  funext j
  exact congrArg Value.int (hf j.val j.isLt)
theorem z_arrL {K : z_KT} {cells slots pc : Nat} {L : List (Option Value)} {st : List Value} {ws : va_W} {a : Nat} {cA : ClassId} {n : Nat} {f f' : Nat → Int64} (q0 : Nat) (ha : ws[q0]? = some (a, .inl (cA, n, .inr (.inl f)))) (hf : ∀ j, j < n → f j = f' j) (k : Gd K cells slots pc L st (ws.set q0 (a, .inl (cA, n, .inr (.inl f'))))) : Gd K cells slots pc L st ws := by
  obtain ⟨p, l, e, R, s, m, args, below, meth, c, A, H0, Q, D, t⟩ := K
  intro H locs ls hP hD hS hl
  refine k H locs ls (hP.set hD ha ?_ fun _ _ => rfl) (hD.set ha) hS hl
  have h := hP q0 _ ha
  show H[a]? = some (vp_cell _ _)
  have h2 : H[a]? = some (vp_cell cA (n, .inr (.inl f))) := h
  rw [h2, vp_cell_l, vp_cell_l]
  unfold arrV
  congr 3
  funext j
  exact congrArg Value.long (hf j.val j.isLt)
theorem zx_X7 {K : z_KT} {cells slots pc : Nat} {L : List (Option Value)} {st : List Value} {ad : Nat → Nat} {σ : zMem} (F : Int → Int) (h : ∀ i, 0 ≤ i → i < 30 → σ 15 i = F i) (k : Gd K cells slots pc L st (wX ad (z_t K) (zS σ 15 F))) : Gd K cells slots pc L st (wX ad (z_t K) σ) := z_arr 7 rfl (fun j hj => congrArg zI (h j (by omega) (by omega))) (z_ws (ws' := wX ad (z_t K) (zS σ 15 F)) rfl k)
theorem zx_X8 {K : z_KT} {cells slots pc : Nat} {L : List (Option Value)} {st : List Value} {ad : Nat → Nat} {σ : zMem} (F : Int → Int) (h : ∀ i, 0 ≤ i → i < 72 → σ 4 i = F i) (k : Gd K cells slots pc L st (wX ad (z_t K) (zS σ 4 F))) : Gd K cells slots pc L st (wX ad (z_t K) σ) := z_arr 8 rfl (fun j hj => congrArg zI (h j (by omega) (by omega))) (z_ws (ws' := wX ad (z_t K) (zS σ 4 F)) rfl k)
theorem zx_X9 {K : z_KT} {cells slots pc : Nat} {L : List (Option Value)} {st : List Value} {ad : Nat → Nat} {σ : zMem} (F : Int → Int) (h : ∀ i, 0 ≤ i → i < 72 → σ 5 i = F i) (k : Gd K cells slots pc L st (wX ad (z_t K) (zS σ 5 F))) : Gd K cells slots pc L st (wX ad (z_t K) σ) := z_arr 9 rfl (fun j hj => congrArg zI (h j (by omega) (by omega))) (z_ws (ws' := wX ad (z_t K) (zS σ 5 F)) rfl k)
theorem zx_X10 {K : z_KT} {cells slots pc : Nat} {L : List (Option Value)} {st : List Value} {ad : Nat → Nat} {σ : zMem} (F : Int → Int) (h : ∀ i, 0 ≤ i → i < 36 → σ 6 i = F i) (k : Gd K cells slots pc L st (wX ad (z_t K) (zS σ 6 F))) : Gd K cells slots pc L st (wX ad (z_t K) σ) := z_arr 10 rfl (fun j hj => congrArg zI (h j (by omega) (by omega))) (z_ws (ws' := wX ad (z_t K) (zS σ 6 F)) rfl k)
theorem zx_X11 {K : z_KT} {cells slots pc : Nat} {L : List (Option Value)} {st : List Value} {ad : Nat → Nat} {σ : zMem} (F : Int → Int) (h : ∀ i, 0 ≤ i → i < 504 → σ 33 i = F i) (k : Gd K cells slots pc L st (wX ad (z_t K) (zS σ 33 F))) : Gd K cells slots pc L st (wX ad (z_t K) σ) := z_arr 11 rfl (fun j hj => congrArg zI (h j (by omega) (by omega))) (z_ws (ws' := wX ad (z_t K) (zS σ 33 F)) rfl k)
theorem zx_X12 {K : z_KT} {cells slots pc : Nat} {L : List (Option Value)} {st : List Value} {ad : Nat → Nat} {σ : zMem} (F : Int → Int) (h : ∀ i, 0 ≤ i → i < 72 → σ 34 i = F i) (k : Gd K cells slots pc L st (wX ad (z_t K) (zS σ 34 F))) : Gd K cells slots pc L st (wX ad (z_t K) σ) := z_arr 12 rfl (fun j hj => congrArg zI (h j (by omega) (by omega))) (z_ws (ws' := wX ad (z_t K) (zS σ 34 F)) rfl k)
theorem zx_X13 {K : z_KT} {cells slots pc : Nat} {L : List (Option Value)} {st : List Value} {ad : Nat → Nat} {σ : zMem} (F : Int → Int) (h : ∀ i, 0 ≤ i → i < 72 → σ 35 i = F i) (k : Gd K cells slots pc L st (wX ad (z_t K) (zS σ 35 F))) : Gd K cells slots pc L st (wX ad (z_t K) σ) := z_arr 13 rfl (fun j hj => congrArg zI (h j (by omega) (by omega))) (z_ws (ws' := wX ad (z_t K) (zS σ 35 F)) rfl k)
theorem zx_X14 {K : z_KT} {cells slots pc : Nat} {L : List (Option Value)} {st : List Value} {ad : Nat → Nat} {σ : zMem} (F : Int → Int) (h : ∀ i, 0 ≤ i → i < 6336 → σ 8 i = F i) (k : Gd K cells slots pc L st (wX ad (z_t K) (zS σ 8 F))) : Gd K cells slots pc L st (wX ad (z_t K) σ) := z_arr 14 rfl (fun j hj => congrArg zI (h j (by omega) (by omega))) (z_ws (ws' := wX ad (z_t K) (zS σ 8 F)) rfl k)
theorem zx_X15 {K : z_KT} {cells slots pc : Nat} {L : List (Option Value)} {st : List Value} {ad : Nat → Nat} {σ : zMem} (F : Int → Int) (h : ∀ i, 0 ≤ i → i < 72 → σ 9 i = F i) (k : Gd K cells slots pc L st (wX ad (z_t K) (zS σ 9 F))) : Gd K cells slots pc L st (wX ad (z_t K) σ) := z_arr 15 rfl (fun j hj => congrArg zI (h j (by omega) (by omega))) (z_ws (ws' := wX ad (z_t K) (zS σ 9 F)) rfl k)
theorem zx_X16 {K : z_KT} {cells slots pc : Nat} {L : List (Option Value)} {st : List Value} {ad : Nat → Nat} {σ : zMem} (F : Int → Int) (h : ∀ i, 0 ≤ i → i < 72 → σ 37 i = F i) (k : Gd K cells slots pc L st (wX ad (z_t K) (zS σ 37 F))) : Gd K cells slots pc L st (wX ad (z_t K) σ) := z_arrL 16 rfl (fun j hj => congrArg zL (h j (by omega) (by omega))) (z_ws (ws' := wX ad (z_t K) (zS σ 37 F)) rfl k)
theorem zx_X17 {K : z_KT} {cells slots pc : Nat} {L : List (Option Value)} {st : List Value} {ad : Nat → Nat} {σ : zMem} (F : Int → Int) (h : ∀ i, 0 ≤ i → i < 72 → σ 38 i = F i) (k : Gd K cells slots pc L st (wX ad (z_t K) (zS σ 38 F))) : Gd K cells slots pc L st (wX ad (z_t K) σ) := z_arrL 17 rfl (fun j hj => congrArg zL (h j (by omega) (by omega))) (z_ws (ws' := wX ad (z_t K) (zS σ 38 F)) rfl k)
theorem zx_X18 {K : z_KT} {cells slots pc : Nat} {L : List (Option Value)} {st : List Value} {ad : Nat → Nat} {σ : zMem} (F : Int → Int) (h : ∀ i, 0 ≤ i → i < 30 → σ 39 i = F i) (k : Gd K cells slots pc L st (wX ad (z_t K) (zS σ 39 F))) : Gd K cells slots pc L st (wX ad (z_t K) σ) := z_arr 18 rfl (fun j hj => congrArg zI (h j (by omega) (by omega))) (z_ws (ws' := wX ad (z_t K) (zS σ 39 F)) rfl k)
theorem zx_X19 {K : z_KT} {cells slots pc : Nat} {L : List (Option Value)} {st : List Value} {ad : Nat → Nat} {σ : zMem} (F : Int → Int) (h : ∀ i, 0 ≤ i → i < 2160 → σ 41 i = F i) (k : Gd K cells slots pc L st (wX ad (z_t K) (zS σ 41 F))) : Gd K cells slots pc L st (wX ad (z_t K) σ) := z_arr 19 rfl (fun j hj => congrArg zI (h j (by omega) (by omega))) (z_ws (ws' := wX ad (z_t K) (zS σ 41 F)) rfl k)
theorem zx_X20 {K : z_KT} {cells slots pc : Nat} {L : List (Option Value)} {st : List Value} {ad : Nat → Nat} {σ : zMem} (F : Int → Int) (h : ∀ i, 0 ≤ i → i < 20 → σ 10 i = F i) (k : Gd K cells slots pc L st (wX ad (z_t K) (zS σ 10 F))) : Gd K cells slots pc L st (wX ad (z_t K) σ) := z_arr 20 rfl (fun j hj => congrArg zI (h j (by omega) (by omega))) (z_ws (ws' := wX ad (z_t K) (zS σ 10 F)) rfl k)
theorem zx_M1 {K : z_KT} {cells slots pc : Nat} {L : List (Option Value)} {st : List Value} {ad : Nat → Nat} {σ : zMem} (F : Int → Int) (h : ∀ i, 0 ≤ i → i < 108 → σ 4 i = F i) (k : Gd K cells slots pc L st (wM ad (z_t K) (zS σ 4 F))) : Gd K cells slots pc L st (wM ad (z_t K) σ) := z_arr 1 rfl (fun j hj => congrArg zI (h j (by omega) (by omega))) (z_ws (ws' := wM ad (z_t K) (zS σ 4 F)) rfl k)
theorem zx_M2 {K : z_KT} {cells slots pc : Nat} {L : List (Option Value)} {st : List Value} {ad : Nat → Nat} {σ : zMem} (F : Int → Int) (h : ∀ i, 0 ≤ i → i < 108 → σ 5 i = F i) (k : Gd K cells slots pc L st (wM ad (z_t K) (zS σ 5 F))) : Gd K cells slots pc L st (wM ad (z_t K) σ) := z_arr 2 rfl (fun j hj => congrArg zI (h j (by omega) (by omega))) (z_ws (ws' := wM ad (z_t K) (zS σ 5 F)) rfl k)
theorem zx_M3 {K : z_KT} {cells slots pc : Nat} {L : List (Option Value)} {st : List Value} {ad : Nat → Nat} {σ : zMem} (F : Int → Int) (h : ∀ i, 0 ≤ i → i < 36 → σ 6 i = F i) (k : Gd K cells slots pc L st (wM ad (z_t K) (zS σ 6 F))) : Gd K cells slots pc L st (wM ad (z_t K) σ) := z_arr 3 rfl (fun j hj => congrArg zI (h j (by omega) (by omega))) (z_ws (ws' := wM ad (z_t K) (zS σ 6 F)) rfl k)
theorem zx_M4 {K : z_KT} {cells slots pc : Nat} {L : List (Option Value)} {st : List Value} {ad : Nat → Nat} {σ : zMem} (F : Int → Int) (h : ∀ i, 0 ≤ i → i < 8 → σ 7 i = F i) (k : Gd K cells slots pc L st (wM ad (z_t K) (zS σ 7 F))) : Gd K cells slots pc L st (wM ad (z_t K) σ) := z_arr 4 rfl (fun j hj => congrArg zI (h j (by omega) (by omega))) (z_ws (ws' := wM ad (z_t K) (zS σ 7 F)) rfl k)
theorem zx_M5 {K : z_KT} {cells slots pc : Nat} {L : List (Option Value)} {st : List Value} {ad : Nat → Nat} {σ : zMem} (F : Int → Int) (h : ∀ i, 0 ≤ i → i < 6336 → σ 8 i = F i) (k : Gd K cells slots pc L st (wM ad (z_t K) (zS σ 8 F))) : Gd K cells slots pc L st (wM ad (z_t K) σ) := z_arr 5 rfl (fun j hj => congrArg zI (h j (by omega) (by omega))) (z_ws (ws' := wM ad (z_t K) (zS σ 8 F)) rfl k)
theorem zx_M6 {K : z_KT} {cells slots pc : Nat} {L : List (Option Value)} {st : List Value} {ad : Nat → Nat} {σ : zMem} (F : Int → Int) (h : ∀ i, 0 ≤ i → i < 72 → σ 9 i = F i) (k : Gd K cells slots pc L st (wM ad (z_t K) (zS σ 9 F))) : Gd K cells slots pc L st (wM ad (z_t K) σ) := z_arr 6 rfl (fun j hj => congrArg zI (h j (by omega) (by omega))) (z_ws (ws' := wM ad (z_t K) (zS σ 9 F)) rfl k)
theorem zx_M7 {K : z_KT} {cells slots pc : Nat} {L : List (Option Value)} {st : List Value} {ad : Nat → Nat} {σ : zMem} (F : Int → Int) (h : ∀ i, 0 ≤ i → i < 20 → σ 10 i = F i) (k : Gd K cells slots pc L st (wM ad (z_t K) (zS σ 10 F))) : Gd K cells slots pc L st (wM ad (z_t K) σ) := z_arr 7 rfl (fun j hj => congrArg zI (h j (by omega) (by omega))) (z_ws (ws' := wM ad (z_t K) (zS σ 10 F)) rfl k)
theorem zx_M8 {K : z_KT} {cells slots pc : Nat} {L : List (Option Value)} {st : List Value} {ad : Nat → Nat} {σ : zMem} (F : Int → Int) (h : ∀ i, 0 ≤ i → i < 72 → σ 61 i = F i) (k : Gd K cells slots pc L st (wM ad (z_t K) (zS σ 61 F))) : Gd K cells slots pc L st (wM ad (z_t K) σ) := z_arr 8 rfl (fun j hj => congrArg zI (h j (by omega) (by omega))) (z_ws (ws' := wM ad (z_t K) (zS σ 61 F)) rfl k)
theorem zx_M9 {K : z_KT} {cells slots pc : Nat} {L : List (Option Value)} {st : List Value} {ad : Nat → Nat} {σ : zMem} (F : Int → Int) (h : ∀ i, 0 ≤ i → i < 72 → σ 62 i = F i) (k : Gd K cells slots pc L st (wM ad (z_t K) (zS σ 62 F))) : Gd K cells slots pc L st (wM ad (z_t K) σ) := z_arrL 9 rfl (fun j hj => congrArg zL (h j (by omega) (by omega))) (z_ws (ws' := wM ad (z_t K) (zS σ 62 F)) rfl k)
theorem zx_M10 {K : z_KT} {cells slots pc : Nat} {L : List (Option Value)} {st : List Value} {ad : Nat → Nat} {σ : zMem} (F : Int → Int) (h : ∀ i, 0 ≤ i → i < 72 → σ 63 i = F i) (k : Gd K cells slots pc L st (wM ad (z_t K) (zS σ 63 F))) : Gd K cells slots pc L st (wM ad (z_t K) σ) := z_arrL 10 rfl (fun j hj => congrArg zL (h j (by omega) (by omega))) (z_ws (ws' := wM ad (z_t K) (zS σ 63 F)) rfl k)
theorem zx_M11 {K : z_KT} {cells slots pc : Nat} {L : List (Option Value)} {st : List Value} {ad : Nat → Nat} {σ : zMem} (F : Int → Int) (h : ∀ i, 0 ≤ i → i < 72 → σ 64 i = F i) (k : Gd K cells slots pc L st (wM ad (z_t K) (zS σ 64 F))) : Gd K cells slots pc L st (wM ad (z_t K) σ) := z_arr 11 rfl (fun j hj => congrArg zI (h j (by omega) (by omega))) (z_ws (ws' := wM ad (z_t K) (zS σ 64 F)) rfl k)
theorem zx_M12 {K : z_KT} {cells slots pc : Nat} {L : List (Option Value)} {st : List Value} {ad : Nat → Nat} {σ : zMem} (F : Int → Int) (h : ∀ i, 0 ≤ i → i < 30 → σ 15 i = F i) (k : Gd K cells slots pc L st (wM ad (z_t K) (zS σ 15 F))) : Gd K cells slots pc L st (wM ad (z_t K) σ) := z_arr 12 rfl (fun j hj => congrArg zI (h j (by omega) (by omega))) (z_ws (ws' := wM ad (z_t K) (zS σ 15 F)) rfl k)
theorem zx_M13 {K : z_KT} {cells slots pc : Nat} {L : List (Option Value)} {st : List Value} {ad : Nat → Nat} {σ : zMem} (F : Int → Int) (h : ∀ i, 0 ≤ i → i < 30 → σ 65 i = F i) (k : Gd K cells slots pc L st (wM ad (z_t K) (zS σ 65 F))) : Gd K cells slots pc L st (wM ad (z_t K) σ) := z_arr 13 rfl (fun j hj => congrArg zI (h j (by omega) (by omega))) (z_ws (ws' := wM ad (z_t K) (zS σ 65 F)) rfl k)
theorem zx_M14 {K : z_KT} {cells slots pc : Nat} {L : List (Option Value)} {st : List Value} {ad : Nat → Nat} {σ : zMem} (F : Int → Int) (h : ∀ i, 0 ≤ i → i < 2160 → σ 66 i = F i) (k : Gd K cells slots pc L st (wM ad (z_t K) (zS σ 66 F))) : Gd K cells slots pc L st (wM ad (z_t K) σ) := z_arr 14 rfl (fun j hj => congrArg zI (h j (by omega) (by omega))) (z_ws (ws' := wM ad (z_t K) (zS σ 66 F)) rfl k)
theorem zx_M15 {K : z_KT} {cells slots pc : Nat} {L : List (Option Value)} {st : List Value} {ad : Nat → Nat} {σ : zMem} (F : Int → Int) (h : ∀ i, 0 ≤ i → i < 150 → σ 13 i = F i) (k : Gd K cells slots pc L st (wM ad (z_t K) (zS σ 13 F))) : Gd K cells slots pc L st (wM ad (z_t K) σ) := z_arr 15 rfl (fun j hj => congrArg zI (h j (by omega) (by omega))) (z_ws (ws' := wM ad (z_t K) (zS σ 13 F)) rfl k)
theorem zx_M16 {K : z_KT} {cells slots pc : Nat} {L : List (Option Value)} {st : List Value} {ad : Nat → Nat} {σ : zMem} (F : Int → Int) (h : ∀ i, 0 ≤ i → i < 4 → σ 16 i = F i) (k : Gd K cells slots pc L st (wM ad (z_t K) (zS σ 16 F))) : Gd K cells slots pc L st (wM ad (z_t K) σ) := z_arr 16 rfl (fun j hj => congrArg zI (h j (by omega) (by omega))) (z_ws (ws' := wM ad (z_t K) (zS σ 16 F)) rfl k)
theorem zx_M17 {K : z_KT} {cells slots pc : Nat} {L : List (Option Value)} {st : List Value} {ad : Nat → Nat} {σ : zMem} (F : Int → Int) (h : ∀ i, 0 ≤ i → i < 4 → σ 17 i = F i) (k : Gd K cells slots pc L st (wM ad (z_t K) (zS σ 17 F))) : Gd K cells slots pc L st (wM ad (z_t K) σ) := z_arr 17 rfl (fun j hj => congrArg zI (h j (by omega) (by omega))) (z_ws (ws' := wM ad (z_t K) (zS σ 17 F)) rfl k)
theorem zx_M18 {K : z_KT} {cells slots pc : Nat} {L : List (Option Value)} {st : List Value} {ad : Nat → Nat} {σ : zMem} (F : Int → Int) (h : ∀ i, 0 ≤ i → i < 4 → σ 18 i = F i) (k : Gd K cells slots pc L st (wM ad (z_t K) (zS σ 18 F))) : Gd K cells slots pc L st (wM ad (z_t K) σ) := z_arr 18 rfl (fun j hj => congrArg zI (h j (by omega) (by omega))) (z_ws (ws' := wM ad (z_t K) (zS σ 18 F)) rfl k)
theorem zx_M19 {K : z_KT} {cells slots pc : Nat} {L : List (Option Value)} {st : List Value} {ad : Nat → Nat} {σ : zMem} (F : Int → Int) (h : ∀ i, 0 ≤ i → i < 960 → σ 20 i = F i) (k : Gd K cells slots pc L st (wM ad (z_t K) (zS σ 20 F))) : Gd K cells slots pc L st (wM ad (z_t K) σ) := z_arr 19 rfl (fun j hj => congrArg zI (h j (by omega) (by omega))) (z_ws (ws' := wM ad (z_t K) (zS σ 20 F)) rfl k)
theorem zx_M20 {K : z_KT} {cells slots pc : Nat} {L : List (Option Value)} {st : List Value} {ad : Nat → Nat} {σ : zMem} (F : Int → Int) (h : ∀ i, 0 ≤ i → i < 240 → σ 67 i = F i) (k : Gd K cells slots pc L st (wM ad (z_t K) (zS σ 67 F))) : Gd K cells slots pc L st (wM ad (z_t K) σ) := z_arr 20 rfl (fun j hj => congrArg zI (h j (by omega) (by omega))) (z_ws (ws' := wM ad (z_t K) (zS σ 67 F)) rfl k)
/-- where a cell is -/
theorem zGeo {σ : zMem} (hw : zHw σ) {c : Int} (hc : 0 ≤ c ∧ c < zN σ) : (0 ≤ c % σ 1 0 ∧ c % σ 1 0 < σ 1 0) ∧ (0 ≤ c / σ 1 0 % σ 2 0 ∧ c / σ 1 0 % σ 2 0 < σ 2 0) ∧ (0 ≤ c / (σ 1 0 * σ 2 0) ∧ c / (σ 1 0 * σ 2 0) < σ 0 0) ∧ c = c / (σ 1 0 * σ 2 0) * (σ 1 0 * σ 2 0) + (c / σ 1 0 % σ 2 0 * σ 1 0 + c % σ 1 0) ∧ (0 ≤ c / σ 1 0 % σ 2 0 * σ 1 0 + c % σ 1 0 ∧ c / σ 1 0 % σ 2 0 * σ 1 0 + c % σ 1 0 < σ 1 0 * σ 2 0) := by
  have hW := hw
  unfold zHw at hW
  have hwh := zHw_wh hw
  have e1 := Int.emod_add_mul_ediv c (σ 1 0)
  have e2 := Int.emod_add_mul_ediv (c / σ 1 0) (σ 2 0)
  have e3 : c / σ 1 0 / σ 2 0 = c / (σ 1 0 * σ 2 0) := by rw [Int.ediv_ediv_of_nonneg (by omega)]
  have b1 := Int.emod_nonneg c (show σ 1 0 ≠ 0 by omega)
  have b2 := Int.emod_lt_of_pos c (show 0 < σ 1 0 by omega)
  have b3 := Int.emod_nonneg (c / σ 1 0) (show σ 2 0 ≠ 0 by omega)
  have b4 := Int.emod_lt_of_pos (c / σ 1 0) (show 0 < σ 2 0 by omega)
  have b5 : 0 ≤ c / (σ 1 0 * σ 2 0) := Int.ediv_nonneg hc.1 (by omega)
  have b6 : c / (σ 1 0 * σ 2 0) < σ 0 0 := by
    rw [Int.ediv_lt_iff_lt_mul (by omega), ← zN_eq]
    exact hc.2
  have e4 : c = c / (σ 1 0 * σ 2 0) * (σ 1 0 * σ 2 0) + (c / σ 1 0 % σ 2 0 * σ 1 0 + c % σ 1 0) := by
    rw [← e3]
    generalize c / σ 1 0 / σ 2 0 = q at e2 ⊢
    generalize c / σ 1 0 % σ 2 0 = y at e2 ⊢
    rw [← e2] at e1
    rw [Int.mul_add] at e1
    have m1 : σ 1 0 * y = y * σ 1 0 := Int.mul_comm _ _
    have m2 : σ 1 0 * (σ 2 0 * q) = q * (σ 1 0 * σ 2 0) := by rw [← Int.mul_assoc, Int.mul_comm]
    rw [m1, m2] at e1
    omega
  refine ⟨⟨b1, b2⟩, ⟨b3, b4⟩, ⟨b5, b6⟩, e4, ?_⟩
  have m3 : c / σ 1 0 % σ 2 0 * σ 1 0 ≤ (σ 2 0 - 1) * σ 1 0 := Int.mul_le_mul_of_nonneg_right (by omega) (by omega)
  have m4 : 0 ≤ c / σ 1 0 % σ 2 0 * σ 1 0 := Int.mul_nonneg b3 (by omega)
  rw [Int.sub_mul, Int.one_mul, Int.mul_comm (σ 2 0)] at m3
  omega
theorem zb_m100 : (Int8.ofInt (-100)).toInt32 = zI (-100) := by decide +kernel
theorem zb_m10 : (Int8.ofInt (-10)).toInt32 = zI (-10) := by decide +kernel
theorem zb_m4 : (Int8.ofInt (-4)).toInt32 = zI (-4) := by decide +kernel
theorem zb_m3 : (Int8.ofInt (-3)).toInt32 = zI (-3) := by decide +kernel
theorem zb_m2 : (Int8.ofInt (-2)).toInt32 = zI (-2) := by decide +kernel
theorem zb_6 : (Int8.ofInt (6)).toInt32 = zI (6) := by decide +kernel
theorem zb_7 : (Int8.ofInt (7)).toInt32 = zI (7) := by decide +kernel
theorem zb_8 : (Int8.ofInt (8)).toInt32 = zI (8) := by decide +kernel
theorem zb_9 : (Int8.ofInt (9)).toInt32 = zI (9) := by decide +kernel
theorem zb_10 : (Int8.ofInt (10)).toInt32 = zI (10) := by decide +kernel
theorem zb_11 : (Int8.ofInt (11)).toInt32 = zI (11) := by decide +kernel
theorem zb_19 : (Int8.ofInt (19)).toInt32 = zI (19) := by decide +kernel
theorem zb_20 : (Int8.ofInt (20)).toInt32 = zI (20) := by decide +kernel
theorem zb_30 : (Int8.ofInt (30)).toInt32 = zI (30) := by decide +kernel
theorem zb_31 : (Int8.ofInt (31)).toInt32 = zI (31) := by decide +kernel
theorem zb_36 : (Int8.ofInt (36)).toInt32 = zI (36) := by decide +kernel
theorem zb_72 : (Int8.ofInt (72)).toInt32 = zI (72) := by decide +kernel
theorem zb_108 : (Int8.ofInt (108)).toInt32 = zI (108) := by decide +kernel
theorem zs_150 : (Int16.ofInt (150)).toInt32 = zI (150) := by decide +kernel
theorem zs_240 : (Int16.ofInt (240)).toInt32 = zI (240) := by decide +kernel
theorem zs_255 : (Int16.ofInt (255)).toInt32 = zI (255) := by decide +kernel
theorem zs_504 : (Int16.ofInt (504)).toInt32 = zI (504) := by decide +kernel
theorem zs_792 : (Int16.ofInt (792)).toInt32 = zI (792) := by decide +kernel
theorem zs_960 : (Int16.ofInt (960)).toInt32 = zI (960) := by decide +kernel
theorem zs_2160 : (Int16.ofInt (2160)).toInt32 = zI (2160) := by decide +kernel
theorem zs_6336 : (Int16.ofInt (6336)).toInt32 = zI (6336) := by decide +kernel
theorem gk_RX1_39 : Cond.constant RX1 39 (zI (1000000)) ∈ wsL_law := by
  have h := gw_6_21
  rw [show ((1000000) : Int32) = zI (1000000) from by decide +kernel] at h
  exact h
theorem gk_RX1_40 : Cond.constantLong RX1 40 (zL (1000000)) ∈ wsL_law := by
  have h := gw_6_22
  rw [show ((1000000) : Int64) = zL (1000000) from by decide +kernel] at h
  exact h
theorem gk_RX8_160 : Cond.constant RX8 160 (zI (1000000)) ∈ wsL_law := by
  have h := gw_9_6
  rw [show ((1000000) : Int32) = zI (1000000) from by decide +kernel] at h
  exact h
theorem gk_RX8_161 : Cond.constantLong RX8 161 (zL (1000000)) ∈ wsL_law := by
  have h := gw_9_7
  rw [show ((1000000) : Int64) = zL (1000000) from by decide +kernel] at h
  exact h
theorem gk_RX8_163 : Cond.constantLong RX8 163 (zL (-1)) ∈ wsL_law := by
  have h := gw_9_8
  rw [show ((-1) : Int64) = zL (-1) from by decide +kernel] at h
  exact h
theorem gk_RX1_52 : Cond.constantLong RX1 52 (zL (1000)) ∈ wsL_law := by
  have h := gw_21_2
  rw [show ((1000) : Int64) = zL (1000) from by decide +kernel] at h
  exact h
theorem gk_RX8_169 : Cond.constantLong RX8 169 (zL (1000)) ∈ wsL_law := by
  have h := gw_21_22
  rw [show ((1000) : Int64) = zL (1000) from by decide +kernel] at h
  exact h
theorem gk_RX7_166 : Cond.constant RX7 166 (zI (1000000)) ∈ wsL_law := by
  have h := gw_25_4
  rw [show ((1000000) : Int32) = zI (1000000) from by decide +kernel] at h
  exact h
theorem gk_RX7_222 : Cond.constant RX7 222 (zI (-2147483648)) ∈ wsL_law := by
  have h := gw_34_23
  rw [show ((-2147483648) : Int32) = zI (-2147483648) from by decide +kernel] at h
  exact h
theorem gk_RX8_202 : Cond.constant RX8 202 (zI (-2147483648)) ∈ wsL_law := by
  have h := gw_35_5
  rw [show ((-2147483648) : Int32) = zI (-2147483648) from by decide +kernel] at h
  exact h
theorem gk_RX7_268 : Cond.constantLong RX7 268 (zL (17)) ∈ wsL_law := by
  have h := gw_36_19
  rw [show ((17) : Int64) = zL (17) from by decide +kernel] at h
  exact h
theorem gk_RX7_270 : Cond.constantLong RX7 270 (zL (31)) ∈ wsL_law := by
  have h := gw_36_20
  rw [show ((31) : Int64) = zL (31) from by decide +kernel] at h
  exact h
theorem gk_RX8_203 : Cond.constantLong RX8 203 (zL (17)) ∈ wsL_law := by
  have h := gw_37_6
  rw [show ((17) : Int64) = zL (17) from by decide +kernel] at h
  exact h
theorem gk_RX8_205 : Cond.constantLong RX8 205 (zL (31)) ∈ wsL_law := by
  have h := gw_37_7
  rw [show ((31) : Int64) = zL (31) from by decide +kernel] at h
  exact h
section ZD
variable {K : z_KT} {cells slots pc : Nat} {st : List Value} {ws : va_W}
theorem z_drop0 {v : Option Value} {r : List (Option Value)} (k : Gd K cells slots pc (none :: r) st ws) : Gd K cells slots pc (v :: r) st ws := z_forget (L' := none :: r) rfl (fun j u h => by
  by_cases e : j = 0
  · subst e; exact absurd h (by simp)
  · have q : (none :: r) = (v :: r).set 0 none := rfl
    rw [q, List.getElem?_set_ne (Ne.symm e)] at h
    exact h) k
theorem z_drop1 {a0 : Option Value} {v : Option Value} {r : List (Option Value)} (k : Gd K cells slots pc (a0 :: none :: r) st ws) : Gd K cells slots pc (a0 :: v :: r) st ws := z_forget (L' := a0 :: none :: r) rfl (fun j u h => by
  by_cases e : j = 1
  · subst e; exact absurd h (by simp)
  · have q : (a0 :: none :: r) = (a0 :: v :: r).set 1 none := rfl
    rw [q, List.getElem?_set_ne (Ne.symm e)] at h
    exact h) k
theorem z_drop2 {a0 a1 : Option Value} {v : Option Value} {r : List (Option Value)} (k : Gd K cells slots pc (a0 :: a1 :: none :: r) st ws) : Gd K cells slots pc (a0 :: a1 :: v :: r) st ws := z_forget (L' := a0 :: a1 :: none :: r) rfl (fun j u h => by
  by_cases e : j = 2
  · subst e; exact absurd h (by simp)
  · have q : (a0 :: a1 :: none :: r) = (a0 :: a1 :: v :: r).set 2 none := rfl
    rw [q, List.getElem?_set_ne (Ne.symm e)] at h
    exact h) k
theorem z_drop3 {a0 a1 a2 : Option Value} {v : Option Value} {r : List (Option Value)} (k : Gd K cells slots pc (a0 :: a1 :: a2 :: none :: r) st ws) : Gd K cells slots pc (a0 :: a1 :: a2 :: v :: r) st ws := z_forget (L' := a0 :: a1 :: a2 :: none :: r) rfl (fun j u h => by
  by_cases e : j = 3
  · subst e; exact absurd h (by simp)
  · have q : (a0 :: a1 :: a2 :: none :: r) = (a0 :: a1 :: a2 :: v :: r).set 3 none := rfl
    rw [q, List.getElem?_set_ne (Ne.symm e)] at h
    exact h) k
theorem z_drop4 {a0 a1 a2 a3 : Option Value} {v : Option Value} {r : List (Option Value)} (k : Gd K cells slots pc (a0 :: a1 :: a2 :: a3 :: none :: r) st ws) : Gd K cells slots pc (a0 :: a1 :: a2 :: a3 :: v :: r) st ws := z_forget (L' := a0 :: a1 :: a2 :: a3 :: none :: r) rfl (fun j u h => by
  by_cases e : j = 4
  · subst e; exact absurd h (by simp)
  · have q : (a0 :: a1 :: a2 :: a3 :: none :: r) = (a0 :: a1 :: a2 :: a3 :: v :: r).set 4 none := rfl
    rw [q, List.getElem?_set_ne (Ne.symm e)] at h
    exact h) k
theorem z_drop5 {a0 a1 a2 a3 a4 : Option Value} {v : Option Value} {r : List (Option Value)} (k : Gd K cells slots pc (a0 :: a1 :: a2 :: a3 :: a4 :: none :: r) st ws) : Gd K cells slots pc (a0 :: a1 :: a2 :: a3 :: a4 :: v :: r) st ws := z_forget (L' := a0 :: a1 :: a2 :: a3 :: a4 :: none :: r) rfl (fun j u h => by
  by_cases e : j = 5
  · subst e; exact absurd h (by simp)
  · have q : (a0 :: a1 :: a2 :: a3 :: a4 :: none :: r) = (a0 :: a1 :: a2 :: a3 :: a4 :: v :: r).set 5 none := rfl
    rw [q, List.getElem?_set_ne (Ne.symm e)] at h
    exact h) k
theorem z_drop6 {a0 a1 a2 a3 a4 a5 : Option Value} {v : Option Value} {r : List (Option Value)} (k : Gd K cells slots pc (a0 :: a1 :: a2 :: a3 :: a4 :: a5 :: none :: r) st ws) : Gd K cells slots pc (a0 :: a1 :: a2 :: a3 :: a4 :: a5 :: v :: r) st ws := z_forget (L' := a0 :: a1 :: a2 :: a3 :: a4 :: a5 :: none :: r) rfl (fun j u h => by
  by_cases e : j = 6
  · subst e; exact absurd h (by simp)
  · have q : (a0 :: a1 :: a2 :: a3 :: a4 :: a5 :: none :: r) = (a0 :: a1 :: a2 :: a3 :: a4 :: a5 :: v :: r).set 6 none := rfl
    rw [q, List.getElem?_set_ne (Ne.symm e)] at h
    exact h) k
theorem z_drop7 {a0 a1 a2 a3 a4 a5 a6 : Option Value} {v : Option Value} {r : List (Option Value)} (k : Gd K cells slots pc (a0 :: a1 :: a2 :: a3 :: a4 :: a5 :: a6 :: none :: r) st ws) : Gd K cells slots pc (a0 :: a1 :: a2 :: a3 :: a4 :: a5 :: a6 :: v :: r) st ws := z_forget (L' := a0 :: a1 :: a2 :: a3 :: a4 :: a5 :: a6 :: none :: r) rfl (fun j u h => by
  by_cases e : j = 7
  · subst e; exact absurd h (by simp)
  · have q : (a0 :: a1 :: a2 :: a3 :: a4 :: a5 :: a6 :: none :: r) = (a0 :: a1 :: a2 :: a3 :: a4 :: a5 :: a6 :: v :: r).set 7 none := rfl
    rw [q, List.getElem?_set_ne (Ne.symm e)] at h
    exact h) k
theorem z_drop8 {a0 a1 a2 a3 a4 a5 a6 a7 : Option Value} {v : Option Value} {r : List (Option Value)} (k : Gd K cells slots pc (a0 :: a1 :: a2 :: a3 :: a4 :: a5 :: a6 :: a7 :: none :: r) st ws) : Gd K cells slots pc (a0 :: a1 :: a2 :: a3 :: a4 :: a5 :: a6 :: a7 :: v :: r) st ws := z_forget (L' := a0 :: a1 :: a2 :: a3 :: a4 :: a5 :: a6 :: a7 :: none :: r) rfl (fun j u h => by
  by_cases e : j = 8
  · subst e; exact absurd h (by simp)
  · have q : (a0 :: a1 :: a2 :: a3 :: a4 :: a5 :: a6 :: a7 :: none :: r) = (a0 :: a1 :: a2 :: a3 :: a4 :: a5 :: a6 :: a7 :: v :: r).set 8 none := rfl
    rw [q, List.getElem?_set_ne (Ne.symm e)] at h
    exact h) k
theorem z_drop9 {a0 a1 a2 a3 a4 a5 a6 a7 a8 : Option Value} {v : Option Value} {r : List (Option Value)} (k : Gd K cells slots pc (a0 :: a1 :: a2 :: a3 :: a4 :: a5 :: a6 :: a7 :: a8 :: none :: r) st ws) : Gd K cells slots pc (a0 :: a1 :: a2 :: a3 :: a4 :: a5 :: a6 :: a7 :: a8 :: v :: r) st ws := z_forget (L' := a0 :: a1 :: a2 :: a3 :: a4 :: a5 :: a6 :: a7 :: a8 :: none :: r) rfl (fun j u h => by
  by_cases e : j = 9
  · subst e; exact absurd h (by simp)
  · have q : (a0 :: a1 :: a2 :: a3 :: a4 :: a5 :: a6 :: a7 :: a8 :: none :: r) = (a0 :: a1 :: a2 :: a3 :: a4 :: a5 :: a6 :: a7 :: a8 :: v :: r).set 9 none := rfl
    rw [q, List.getElem?_set_ne (Ne.symm e)] at h
    exact h) k
theorem z_drop10 {a0 a1 a2 a3 a4 a5 a6 a7 a8 a9 : Option Value} {v : Option Value} {r : List (Option Value)} (k : Gd K cells slots pc (a0 :: a1 :: a2 :: a3 :: a4 :: a5 :: a6 :: a7 :: a8 :: a9 :: none :: r) st ws) : Gd K cells slots pc (a0 :: a1 :: a2 :: a3 :: a4 :: a5 :: a6 :: a7 :: a8 :: a9 :: v :: r) st ws := z_forget (L' := a0 :: a1 :: a2 :: a3 :: a4 :: a5 :: a6 :: a7 :: a8 :: a9 :: none :: r) rfl (fun j u h => by
  by_cases e : j = 10
  · subst e; exact absurd h (by simp)
  · have q : (a0 :: a1 :: a2 :: a3 :: a4 :: a5 :: a6 :: a7 :: a8 :: a9 :: none :: r) = (a0 :: a1 :: a2 :: a3 :: a4 :: a5 :: a6 :: a7 :: a8 :: a9 :: v :: r).set 10 none := rfl
    rw [q, List.getElem?_set_ne (Ne.symm e)] at h
    exact h) k
theorem z_drop11 {a0 a1 a2 a3 a4 a5 a6 a7 a8 a9 a10 : Option Value} {v : Option Value} {r : List (Option Value)} (k : Gd K cells slots pc (a0 :: a1 :: a2 :: a3 :: a4 :: a5 :: a6 :: a7 :: a8 :: a9 :: a10 :: none :: r) st ws) : Gd K cells slots pc (a0 :: a1 :: a2 :: a3 :: a4 :: a5 :: a6 :: a7 :: a8 :: a9 :: a10 :: v :: r) st ws := z_forget (L' := a0 :: a1 :: a2 :: a3 :: a4 :: a5 :: a6 :: a7 :: a8 :: a9 :: a10 :: none :: r) rfl (fun j u h => by
  by_cases e : j = 11
  · subst e; exact absurd h (by simp)
  · have q : (a0 :: a1 :: a2 :: a3 :: a4 :: a5 :: a6 :: a7 :: a8 :: a9 :: a10 :: none :: r) = (a0 :: a1 :: a2 :: a3 :: a4 :: a5 :: a6 :: a7 :: a8 :: a9 :: a10 :: v :: r).set 11 none := rfl
    rw [q, List.getElem?_set_ne (Ne.symm e)] at h
    exact h) k
theorem z_drop12 {a0 a1 a2 a3 a4 a5 a6 a7 a8 a9 a10 a11 : Option Value} {v : Option Value} {r : List (Option Value)} (k : Gd K cells slots pc (a0 :: a1 :: a2 :: a3 :: a4 :: a5 :: a6 :: a7 :: a8 :: a9 :: a10 :: a11 :: none :: r) st ws) : Gd K cells slots pc (a0 :: a1 :: a2 :: a3 :: a4 :: a5 :: a6 :: a7 :: a8 :: a9 :: a10 :: a11 :: v :: r) st ws := z_forget (L' := a0 :: a1 :: a2 :: a3 :: a4 :: a5 :: a6 :: a7 :: a8 :: a9 :: a10 :: a11 :: none :: r) rfl (fun j u h => by
  by_cases e : j = 12
  · subst e; exact absurd h (by simp)
  · have q : (a0 :: a1 :: a2 :: a3 :: a4 :: a5 :: a6 :: a7 :: a8 :: a9 :: a10 :: a11 :: none :: r) = (a0 :: a1 :: a2 :: a3 :: a4 :: a5 :: a6 :: a7 :: a8 :: a9 :: a10 :: a11 :: v :: r).set 12 none := rfl
    rw [q, List.getElem?_set_ne (Ne.symm e)] at h
    exact h) k
theorem z_drop13 {a0 a1 a2 a3 a4 a5 a6 a7 a8 a9 a10 a11 a12 : Option Value} {v : Option Value} {r : List (Option Value)} (k : Gd K cells slots pc (a0 :: a1 :: a2 :: a3 :: a4 :: a5 :: a6 :: a7 :: a8 :: a9 :: a10 :: a11 :: a12 :: none :: r) st ws) : Gd K cells slots pc (a0 :: a1 :: a2 :: a3 :: a4 :: a5 :: a6 :: a7 :: a8 :: a9 :: a10 :: a11 :: a12 :: v :: r) st ws := z_forget (L' := a0 :: a1 :: a2 :: a3 :: a4 :: a5 :: a6 :: a7 :: a8 :: a9 :: a10 :: a11 :: a12 :: none :: r) rfl (fun j u h => by
  by_cases e : j = 13
  · subst e; exact absurd h (by simp)
  · have q : (a0 :: a1 :: a2 :: a3 :: a4 :: a5 :: a6 :: a7 :: a8 :: a9 :: a10 :: a11 :: a12 :: none :: r) = (a0 :: a1 :: a2 :: a3 :: a4 :: a5 :: a6 :: a7 :: a8 :: a9 :: a10 :: a11 :: a12 :: v :: r).set 13 none := rfl
    rw [q, List.getElem?_set_ne (Ne.symm e)] at h
    exact h) k
theorem z_drop14 {a0 a1 a2 a3 a4 a5 a6 a7 a8 a9 a10 a11 a12 a13 : Option Value} {v : Option Value} {r : List (Option Value)} (k : Gd K cells slots pc (a0 :: a1 :: a2 :: a3 :: a4 :: a5 :: a6 :: a7 :: a8 :: a9 :: a10 :: a11 :: a12 :: a13 :: none :: r) st ws) : Gd K cells slots pc (a0 :: a1 :: a2 :: a3 :: a4 :: a5 :: a6 :: a7 :: a8 :: a9 :: a10 :: a11 :: a12 :: a13 :: v :: r) st ws := z_forget (L' := a0 :: a1 :: a2 :: a3 :: a4 :: a5 :: a6 :: a7 :: a8 :: a9 :: a10 :: a11 :: a12 :: a13 :: none :: r) rfl (fun j u h => by
  by_cases e : j = 14
  · subst e; exact absurd h (by simp)
  · have q : (a0 :: a1 :: a2 :: a3 :: a4 :: a5 :: a6 :: a7 :: a8 :: a9 :: a10 :: a11 :: a12 :: a13 :: none :: r) = (a0 :: a1 :: a2 :: a3 :: a4 :: a5 :: a6 :: a7 :: a8 :: a9 :: a10 :: a11 :: a12 :: a13 :: v :: r).set 14 none := rfl
    rw [q, List.getElem?_set_ne (Ne.symm e)] at h
    exact h) k
theorem z_drop15 {a0 a1 a2 a3 a4 a5 a6 a7 a8 a9 a10 a11 a12 a13 a14 : Option Value} {v : Option Value} {r : List (Option Value)} (k : Gd K cells slots pc (a0 :: a1 :: a2 :: a3 :: a4 :: a5 :: a6 :: a7 :: a8 :: a9 :: a10 :: a11 :: a12 :: a13 :: a14 :: none :: r) st ws) : Gd K cells slots pc (a0 :: a1 :: a2 :: a3 :: a4 :: a5 :: a6 :: a7 :: a8 :: a9 :: a10 :: a11 :: a12 :: a13 :: a14 :: v :: r) st ws := z_forget (L' := a0 :: a1 :: a2 :: a3 :: a4 :: a5 :: a6 :: a7 :: a8 :: a9 :: a10 :: a11 :: a12 :: a13 :: a14 :: none :: r) rfl (fun j u h => by
  by_cases e : j = 15
  · subst e; exact absurd h (by simp)
  · have q : (a0 :: a1 :: a2 :: a3 :: a4 :: a5 :: a6 :: a7 :: a8 :: a9 :: a10 :: a11 :: a12 :: a13 :: a14 :: none :: r) = (a0 :: a1 :: a2 :: a3 :: a4 :: a5 :: a6 :: a7 :: a8 :: a9 :: a10 :: a11 :: a12 :: a13 :: a14 :: v :: r).set 15 none := rfl
    rw [q, List.getElem?_set_ne (Ne.symm e)] at h
    exact h) k
end ZD
end
section
/-! THE HOUSE: where steps lead -/
def zPl (σ : zMem) (c : Int) : Int := c / σ 1 0 % σ 2 0 * σ 1 0 + c % σ 1 0
def zT0 (σ : zMem) (c : Int) : Int := if ¬ σ 6 (c / σ 1 0 % σ 2 0 * σ 1 0 + c % σ 1 0) = 0 ∧ 0 < c / (σ 1 0 * σ 2 0) then c - σ 1 0 * σ 2 0 else -1
def zT1 (σ : zMem) (c : Int) : Int := if 0 < c / σ 1 0 % σ 2 0 ∧ σ 5 (c - σ 1 0) = 0 then c - σ 1 0 else -1
def zT2 (σ : zMem) (c : Int) : Int := if 0 < c % σ 1 0 ∧ σ 4 (c - 1) = 0 then c - 1 else -1
def zT3 (σ : zMem) (c : Int) : Int := if 0 < σ 3 0 then c else -1
def zT4 (σ : zMem) (c : Int) : Int := if c % σ 1 0 < σ 1 0 - 1 ∧ σ 4 c = 0 then c + 1 else -1
def zT5 (σ : zMem) (c : Int) : Int := if c / σ 1 0 % σ 2 0 < σ 2 0 - 1 ∧ σ 5 c = 0 then c + σ 1 0 else -1
def zT6 (σ : zMem) (c : Int) : Int := if ¬ σ 6 (c / σ 1 0 % σ 2 0 * σ 1 0 + c % σ 1 0) = 0 ∧ c / (σ 1 0 * σ 2 0) < σ 0 0 - 1 then c + σ 1 0 * σ 2 0 else -1
def zTg (σ : zMem) (c d : Int) : Int := if d = 0 then zT0 σ c else if d = 1 then zT1 σ c else if d = 2 then zT2 σ c else if d = 3 then zT3 σ c else if d = 4 then zT4 σ c else if d = 5 then zT5 σ c else zT6 σ c
def zTb (σ : zMem) : Prop := ∀ c, 0 ≤ c → c < zN σ → ∀ d, 0 ≤ d → d < 7 → σ 33 (c * 7 + d) = zTg σ c d
theorem zTg_E {μ σ : zMem} {l : List Nat} (h : zE μ σ l) (h0 : 0 ∉ l := by decide) (h1 : 1 ∉ l := by decide) (h2 : 2 ∉ l := by decide) (h3 : 3 ∉ l := by decide) (h4 : 4 ∉ l := by decide) (h5 : 5 ∉ l := by decide) (h6 : 6 ∉ l := by decide) (c d : Int) : zTg μ c d = zTg σ c d := by
  unfold zTg zT0 zT1 zT2 zT3 zT4 zT5 zT6
  rw [h 0 h0, h 1 h1, h 2 h2, h 3 h3, h 4 h4, h 5 h5, h 6 h6]
def zRow (μ σ : zMem) (a c k : Int) : Prop := zE μ σ [33] ∧ (∀ j, 0 ≤ j → j < k → μ 33 (a + j) = zTg σ c j) ∧ ∀ i, i < a ∨ a + 7 ≤ i → μ 33 i = σ 33 i
theorem zRow_st {μ σ : zMem} {a c k k1 i v : Int} (h : zRow μ σ a c k) (hk : (0 ≤ k ∧ k < 7) ∧ k1 = k + 1) (hv : v = zTg σ c k) (hi : i = a + k) : zRow (zS μ 33 (zU (μ 33) i v)) σ a c k1 := by
  refine ⟨zE_set h.1 (by decide), fun j h0 h1 => ?_, fun j hj => ?_⟩
  · rw [zS_s]
    by_cases e : j = k
    · subst e; rw [hi, zU_s, hv]
    · rw [zU_n (by omega), h.2.1 j h0 (by omega)]
  · rw [zS_s, zU_n (by omega), h.2.2 j hj]
theorem zGeo2 {σ : zMem} (hw : zHw σ) {c : Int} (hc : 0 ≤ c ∧ c < zN σ) : (0 < c / σ 1 0 % σ 2 0 → σ 1 0 ≤ c) ∧ (0 < c % σ 1 0 → 1 ≤ c) := by
  have hW := hw
  unfold zHw at hW
  constructor
  · intro h
    rcases Int.lt_or_le c (σ 1 0) with q | q
    · rw [Int.ediv_eq_zero_of_lt hc.1 q] at h
      simp at h
    · exact q
  · intro h
    rcases Int.lt_or_le c 1 with q | q
    · have : c = 0 := by omega
      rw [this] at h
      simp at h
    · exact q
theorem zTg_b {σ : zMem} (hw : zHw σ) {c : Int} (hc : 0 ≤ c ∧ c < zN σ) {d : Int} (hd : 0 ≤ d ∧ d < 7) : zTg σ c d = -1 ∨ (0 ≤ zTg σ c d ∧ zTg σ c d < zN σ) := by
  have hW := hw
  unfold zHw at hW
  obtain ⟨g1, g2, g3, g4, g5⟩ := zGeo hw hc
  obtain ⟨g6, g7⟩ := zGeo2 hw hc
  have hwh := zHw_wh hw
  have e := zN_eq σ
  have m1 : 0 < c / (σ 1 0 * σ 2 0) → σ 1 0 * σ 2 0 ≤ c := by
    intro h
    have := Int.mul_le_mul_of_nonneg_right (show 1 ≤ c / (σ 1 0 * σ 2 0) by omega) (show 0 ≤ σ 1 0 * σ 2 0 by omega)
    omega
  have m2 : c / (σ 1 0 * σ 2 0) < σ 0 0 - 1 → c + σ 1 0 * σ 2 0 < zN σ := by
    intro h
    have := Int.mul_le_mul_of_nonneg_right (show c / (σ 1 0 * σ 2 0) + 2 ≤ σ 0 0 by omega) (show 0 ≤ σ 1 0 * σ 2 0 by omega)
    rw [Int.add_mul] at this
    omega
  have m0 : c / (σ 1 0 * σ 2 0) * (σ 1 0 * σ 2 0) + σ 1 0 * σ 2 0 ≤ zN σ := by
    have := Int.mul_le_mul_of_nonneg_right (show c / (σ 1 0 * σ 2 0) + 1 ≤ σ 0 0 by omega) (show 0 ≤ σ 1 0 * σ 2 0 by omega)
    rw [Int.add_mul, Int.one_mul] at this
    omega
  have m3 : c % σ 1 0 < σ 1 0 - 1 → c + 1 < zN σ := by
    intro h
    have := Int.mul_le_mul_of_nonneg_right (show c / σ 1 0 % σ 2 0 ≤ σ 2 0 - 1 by omega) (show 0 ≤ σ 1 0 by omega)
    rw [Int.sub_mul, Int.one_mul, Int.mul_comm (σ 2 0)] at this
    omega
  have m4 : c / σ 1 0 % σ 2 0 < σ 2 0 - 1 → c + σ 1 0 < zN σ := by
    intro h
    have := Int.mul_le_mul_of_nonneg_right (show c / σ 1 0 % σ 2 0 + 2 ≤ σ 2 0 by omega) (show 0 ≤ σ 1 0 by omega)
    rw [Int.add_mul, Int.mul_comm (σ 2 0)] at this
    omega
  unfold zTg zT0 zT1 zT2 zT3 zT4 zT5 zT6
  split
  · split
    · rename_i h; have := m1 h.2; omega
    · exact Or.inl rfl
  · split
    · split
      · rename_i h; have := g6 h.1; omega
      · exact Or.inl rfl
    · split
      · split
        · rename_i h; have := g7 h.1; omega
        · exact Or.inl rfl
      · split
        · split
          · omega
          · exact Or.inl rfl
        · split
          · split
            · rename_i h; have := m3 h.1; omega
            · exact Or.inl rfl
          · split
            · split
              · rename_i h; have := m4 h.1; omega
              · exact Or.inl rfl
            · split
              · rename_i h; have := m2 h.2; omega
              · exact Or.inl rfl
theorem zTb_b {σ : zMem} (hw : zHw σ) (ht : zTb σ) {c : Int} (hc : 0 ≤ c ∧ c < zN σ) (d : Int) (h0 : 0 ≤ d) (h1 : d < 7) : -1 ≤ σ 33 (c * 7 + d) ∧ σ 33 (c * 7 + d) < zN σ := by
  have a := zTg_b hw hc ⟨h0, h1⟩
  have b := zHw_N hw
  rw [ht c hc.1 hc.2 d h0 h1]
  omega
def zBo (σ : zMem) (k : Nat) : Prop := ∀ i, σ k i = 0 ∨ σ k i = 1
theorem zBo_u {σ : zMem} {k : Nat} (h : zBo σ k) {i v : Int} (hv : v = 0 ∨ v = 1) : ∀ j, zU (σ k) i v j = 0 ∨ zU (σ k) i v j = 1 := by
  intro j
  by_cases e : j = i
  · subst e; rw [zU_s]; exact hv
  · rw [zU_n e]; exact h j

set_option maxRecDepth 100000 in
set_option maxHeartbeats 4000000 in
theorem k_X3_cells {l : Launch} {D : va_G} {t : Nat → ClassId} {ad : Nat → Nat} {σ : zMem}   : z_Ci l D t yX3_cells cX3_cells 1 .int 0 0 0 0 [.ref (ad 1)] (wX ad t σ) (fun r w => w = wX ad t σ ∧ r = zN σ) := by
  refine z_Ci_of (by decide +kernel) [some (.ref (ad 1))] rfl rfl (Nat.le_of_ble_eq_true rfl) fun K hl hD ht hR hn C ret => ?_
  subst hl; subst hD; subst ht
  refine z_aload_n C (z_d dtX3_cells_0 0 rfl) rfl ?_
  refine gf_X3_9 C (z_d dtX3_cells_0 1 rfl) ?_
  refine z_aload_n C (z_d dtX3_cells_0 2 rfl) rfl ?_
  refine gf_X3_15 C (z_d dtX3_cells_0 3 rfl) ?_
  refine z_imul C (z_d dtX3_cells_0 4 rfl) ?_
  refine z_aload_n C (z_d dtX3_cells_0 5 rfl) rfl ?_
  refine gf_X3_18 C (z_d dtX3_cells_0 6 rfl) ?_
  refine z_imul C (z_d dtX3_cells_0 7 rfl) ?_
  exact ret _ _ _ _ (z_d dtX3_cells_0 8 rfl) (⟨rfl, rfl⟩) rfl

set_option maxRecDepth 100000 in
set_option maxHeartbeats 4000000 in
theorem k_X3_hasCell {l : Launch} {D : va_G} {t : Nat → ClassId} {ad : Nat → Nat} {σ : zMem} {c : Int} (hw : zHw σ) (hc : -2147483648 ≤ c ∧ c < 2147483648) : z_Ci l D t yX3_hasCell cX3_hasCell 2 .boolean 1 20 0 0 [.ref (ad 1), .int (zI c)] (wX ad t σ) (fun r w => w = wX ad t σ ∧ ((r = 1 ∧ (0 ≤ c ∧ c < zN σ)) ∨ (r = 0 ∧ ¬ (0 ≤ c ∧ c < zN σ)))) := by
  refine z_Ci_of (by decide +kernel) [some (.ref (ad 1)), some (.int (zI c))] rfl rfl (Nat.le_of_ble_eq_true rfl) fun K hl hD ht hR hn C ret => ?_
  subst hl; subst hD; subst ht
  have hN := zHw_N hw
  refine z_iload_n C (z_d dtX3_hasCell_0 0 rfl) rfl ?_
  refine z_if_lt (tgt := 16) C (z_d dtX3_hasCell_0 1 rfl) (by decide) (by omega) (fun h_1 => ?_) (fun h_1 => ?_)
  · refine z_iconst C (z_d dtX3_hasCell_0 8 rfl) ?_
    exact ret _ _ _ _ (z_d dtX3_hasCell_0 9 rfl) (⟨rfl, by omega⟩) (z_nb (by omega))
  · refine z_iload_n C (z_d dtX3_hasCell_0 2 rfl) rfl ?_
    refine z_aload_n C (z_d dtX3_hasCell_0 3 rfl) rfl ?_
    refine z_callV C (z_d dtX3_hasCell_0 4 rfl) (k_X3_cells  ) cal_X3_cells gw_5_5 rfl 1 3 rfl rfl rfl rfl hR ⟨rfl, rfl, rfl, rfl⟩ rfl (fun r_6 w_6 h_6 => ?_)
    obtain ⟨rfl, rfl⟩ := h_6
    refine z_icmp_ge (tgt := 16) C (z_d dtX3_hasCell_0 5 rfl) (by decide) (by omega) (fun h_9 => ?_) (fun h_9 => ?_)
    · refine z_iconst C (z_d dtX3_hasCell_0 8 rfl) ?_
      exact ret _ _ _ _ (z_d dtX3_hasCell_0 9 rfl) (⟨rfl, by omega⟩) (z_nb (by omega))
    · refine z_iconst C (z_d dtX3_hasCell_0 6 rfl) ?_
      refine z_goto (tgt := 17) C (z_d dtX3_hasCell_0 7 rfl) (by decide) ?_
      exact ret _ _ _ _ (z_d dtX3_hasCell_0 9 rfl) (⟨rfl, by omega⟩) (z_nb (by omega))

set_option maxRecDepth 100000 in
set_option maxHeartbeats 4000000 in
theorem k_X3_hasPlace {l : Launch} {D : va_G} {t : Nat → ClassId} {ad : Nat → Nat} {σ : zMem} {x y : Int} (hw : zHw σ) (hx : -2147483648 ≤ x ∧ x < 2147483648) (hy : -2147483648 ≤ y ∧ y < 2147483648) : z_Ci l D t yX3_hasPlace cX3_hasPlace 3 .boolean 0 0 0 0 [.ref (ad 1), .int (zI x), .int (zI y)] (wX ad t σ) (fun r w => w = wX ad t σ ∧ ((r = 1 ∧ ((0 ≤ x ∧ x < σ 1 0) ∧ (0 ≤ y ∧ y < σ 2 0))) ∨ (r = 0 ∧ ¬ ((0 ≤ x ∧ x < σ 1 0) ∧ (0 ≤ y ∧ y < σ 2 0))))) := by
  refine z_Ci_of (by decide +kernel) [some (.ref (ad 1)), some (.int (zI x)), some (.int (zI y))] rfl rfl (Nat.le_of_ble_eq_true rfl) fun K hl hD ht hR hn C ret => ?_
  subst hl; subst hD; subst ht
  have hW := hw; unfold zHw at hW
  refine z_iload_n C (z_d dtX3_hasPlace_0 0 rfl) rfl ?_
  refine z_if_lt (tgt := 28) C (z_d dtX3_hasPlace_0 1 rfl) (by decide) (by omega) (fun h_1 => ?_) (fun h_1 => ?_)
  · refine z_iconst C (z_d dtX3_hasPlace_0 14 rfl) ?_
    exact ret _ _ _ _ (z_d dtX3_hasPlace_0 15 rfl) (⟨rfl, by omega⟩) (z_nb (by omega))
  · refine z_iload_n C (z_d dtX3_hasPlace_0 2 rfl) rfl ?_
    refine z_aload_n C (z_d dtX3_hasPlace_0 3 rfl) rfl ?_
    refine gf_X3_15 C (z_d dtX3_hasPlace_0 4 rfl) ?_
    refine z_icmp_ge (tgt := 28) C (z_d dtX3_hasPlace_0 5 rfl) (by decide) (by omega) (fun h_9 => ?_) (fun h_9 => ?_)
    · refine z_iconst C (z_d dtX3_hasPlace_0 14 rfl) ?_
      exact ret _ _ _ _ (z_d dtX3_hasPlace_0 15 rfl) (⟨rfl, by omega⟩) (z_nb (by omega))
    · refine z_iload_n C (z_d dtX3_hasPlace_0 6 rfl) rfl ?_
      refine z_if_lt (tgt := 28) C (z_d dtX3_hasPlace_0 7 rfl) (by decide) (by omega) (fun h_13 => ?_) (fun h_13 => ?_)
      · refine z_iconst C (z_d dtX3_hasPlace_0 14 rfl) ?_
        exact ret _ _ _ _ (z_d dtX3_hasPlace_0 15 rfl) (⟨rfl, by omega⟩) (z_nb (by omega))
      · refine z_iload_n C (z_d dtX3_hasPlace_0 8 rfl) rfl ?_
        refine z_aload_n C (z_d dtX3_hasPlace_0 9 rfl) rfl ?_
        refine gf_X3_18 C (z_d dtX3_hasPlace_0 10 rfl) ?_
        refine z_icmp_ge (tgt := 28) C (z_d dtX3_hasPlace_0 11 rfl) (by decide) (by omega) (fun h_21 => ?_) (fun h_21 => ?_)
        · refine z_iconst C (z_d dtX3_hasPlace_0 14 rfl) ?_
          exact ret _ _ _ _ (z_d dtX3_hasPlace_0 15 rfl) (⟨rfl, by omega⟩) (z_nb (by omega))
        · refine z_iconst C (z_d dtX3_hasPlace_0 12 rfl) ?_
          refine z_goto (tgt := 29) C (z_d dtX3_hasPlace_0 13 rfl) (by decide) ?_
          exact ret _ _ _ _ (z_d dtX3_hasPlace_0 15 rfl) (⟨rfl, by omega⟩) (z_nb (by omega))

set_option maxRecDepth 100000 in
set_option maxHeartbeats 4000000 in
theorem k_X3_hasArea {l : Launch} {D : va_G} {t : Nat → ClassId} {ad : Nat → Nat} {σ : zMem} {f x0 x1 y0 y1 : Int} (hw : zHw σ) (hf : -2147483648 ≤ f ∧ f < 2147483648) (hx0 : -2147483648 ≤ x0 ∧ x0 < 2147483648) (hx1 : -2147483648 ≤ x1 ∧ x1 < 2147483648) (hy0 : -2147483648 ≤ y0 ∧ y0 < 2147483648) (hy1 : -2147483648 ≤ y1 ∧ y1 < 2147483648) : z_Ci l D t yX3_hasArea cX3_hasArea 6 .boolean 1 22 0 0 [.ref (ad 1), .int (zI f), .int (zI x0), .int (zI x1), .int (zI y0), .int (zI y1)] (wX ad t σ) (fun r w => w = wX ad t σ ∧ ((r = 1 ∧ (zIsA σ f x0 x1 y0 y1)) ∨ (r = 0 ∧ ¬ (zIsA σ f x0 x1 y0 y1)))) := by
  refine z_Ci_of (by decide +kernel) [some (.ref (ad 1)), some (.int (zI f)), some (.int (zI x0)), some (.int (zI x1)), some (.int (zI y0)), some (.int (zI y1))] rfl rfl (Nat.le_of_ble_eq_true rfl) fun K hl hD ht hR hn C ret => ?_
  subst hl; subst hD; subst ht
  have hW := hw; unfold zHw at hW
  refine z_iload_n C (z_d dtX3_hasArea_0 0 rfl) rfl ?_
  refine z_if_lt (tgt := 48) C (z_d dtX3_hasArea_0 1 rfl) (by decide) (by omega) (fun h_1 => ?_) (fun h_1 => ?_)
  · refine z_iconst C (z_d dtX3_hasArea_0 24 rfl) ?_
    exact ret _ _ _ _ (z_d dtX3_hasArea_0 25 rfl) (⟨rfl, by unfold zIsA; omega⟩) (z_nb (by omega))
  · refine z_iload_n C (z_d dtX3_hasArea_0 2 rfl) rfl ?_
    refine z_aload_n C (z_d dtX3_hasArea_0 3 rfl) rfl ?_
    refine gf_X3_9 C (z_d dtX3_hasArea_0 4 rfl) ?_
    refine z_icmp_ge (tgt := 48) C (z_d dtX3_hasArea_0 5 rfl) (by decide) (by omega) (fun h_9 => ?_) (fun h_9 => ?_)
    · refine z_iconst C (z_d dtX3_hasArea_0 24 rfl) ?_
      exact ret _ _ _ _ (z_d dtX3_hasArea_0 25 rfl) (⟨rfl, by unfold zIsA; omega⟩) (z_nb (by omega))
    · refine z_iload_n C (z_d dtX3_hasArea_0 6 rfl) rfl ?_
      refine z_iload_n C (z_d dtX3_hasArea_0 7 rfl) rfl ?_
      refine z_icmp_gt (tgt := 48) C (z_d dtX3_hasArea_0 8 rfl) (by decide) (by omega) (fun h_14 => ?_) (fun h_14 => ?_)
      · refine z_iconst C (z_d dtX3_hasArea_0 24 rfl) ?_
        exact ret _ _ _ _ (z_d dtX3_hasArea_0 25 rfl) (⟨rfl, by unfold zIsA; omega⟩) (z_nb (by omega))
      · refine z_iload C (z_d dtX3_hasArea_0 9 rfl) rfl ?_
        refine z_iload C (z_d dtX3_hasArea_0 10 rfl) rfl ?_
        refine z_icmp_gt (tgt := 48) C (z_d dtX3_hasArea_0 11 rfl) (by decide) (by omega) (fun h_21 => ?_) (fun h_21 => ?_)
        · refine z_iconst C (z_d dtX3_hasArea_0 24 rfl) ?_
          exact ret _ _ _ _ (z_d dtX3_hasArea_0 25 rfl) (⟨rfl, by unfold zIsA; omega⟩) (z_nb (by omega))
        · refine z_aload_n C (z_d dtX3_hasArea_0 12 rfl) rfl ?_
          refine z_iload_n C (z_d dtX3_hasArea_0 13 rfl) rfl ?_
          refine z_iload C (z_d dtX3_hasArea_0 14 rfl) rfl ?_
          refine z_callV C (z_d dtX3_hasArea_0 15 rfl) (k_X3_hasPlace  (by first | assumption | omega) (by first | assumption | omega) (by first | assumption | omega)) cal_X3_hasPlace gw_24_7 rfl 1 3 rfl rfl rfl rfl hR ⟨rfl, rfl, rfl, rfl⟩ rfl (fun r_28 w_28 h_28 => ?_)
          obtain ⟨rfl, h_28⟩ := h_28
          refine z_if_eq (tgt := 48) C (z_d dtX3_hasArea_0 16 rfl) (by decide) (by omega) (fun h_31 => ?_) (fun h_31 => ?_)
          · refine z_iconst C (z_d dtX3_hasArea_0 24 rfl) ?_
            exact ret _ _ _ _ (z_d dtX3_hasArea_0 25 rfl) (⟨rfl, by unfold zIsA; omega⟩) (z_nb (by omega))
          · refine z_aload_n C (z_d dtX3_hasArea_0 17 rfl) rfl ?_
            refine z_iload_n C (z_d dtX3_hasArea_0 18 rfl) rfl ?_
            refine z_iload C (z_d dtX3_hasArea_0 19 rfl) rfl ?_
            refine z_callV C (z_d dtX3_hasArea_0 20 rfl) (k_X3_hasPlace  (by first | assumption | omega) (by first | assumption | omega) (by first | assumption | omega)) cal_X3_hasPlace gw_24_7 rfl 1 3 rfl rfl rfl rfl hR ⟨rfl, rfl, rfl, rfl⟩ rfl (fun r_38 w_38 h_38 => ?_)
            obtain ⟨rfl, h_38⟩ := h_38
            refine z_if_eq (tgt := 48) C (z_d dtX3_hasArea_0 21 rfl) (by decide) (by omega) (fun h_41 => ?_) (fun h_41 => ?_)
            · refine z_iconst C (z_d dtX3_hasArea_0 24 rfl) ?_
              exact ret _ _ _ _ (z_d dtX3_hasArea_0 25 rfl) (⟨rfl, by unfold zIsA; omega⟩) (z_nb (by omega))
            · refine z_iconst C (z_d dtX3_hasArea_0 22 rfl) ?_
              refine z_goto (tgt := 49) C (z_d dtX3_hasArea_0 23 rfl) (by decide) ?_
              exact ret _ _ _ _ (z_d dtX3_hasArea_0 25 rfl) (⟨rfl, by unfold zIsA; omega⟩) (z_nb (by omega))

set_option maxRecDepth 100000 in
set_option maxHeartbeats 4000000 in
theorem k_X3_cellAt {l : Launch} {D : va_G} {t : Nat → ClassId} {ad : Nat → Nat} {σ : zMem} {f x y : Int}  : z_Ci l D t yX3_cellAt cX3_cellAt 4 .int 0 0 0 0 [.ref (ad 1), .int (zI f), .int (zI x), .int (zI y)] (wX ad t σ) (fun r w => w = wX ad t σ ∧ r = (f * σ 2 0 + y) * σ 1 0 + x) := by
  refine z_Ci_of (by decide +kernel) [some (.ref (ad 1)), some (.int (zI f)), some (.int (zI x)), some (.int (zI y))] rfl rfl (Nat.le_of_ble_eq_true rfl) fun K hl hD ht hR hn C ret => ?_
  subst hl; subst hD; subst ht
  refine z_iload_n C (z_d dtX3_cellAt_0 0 rfl) rfl ?_
  refine z_aload_n C (z_d dtX3_cellAt_0 1 rfl) rfl ?_
  refine gf_X3_18 C (z_d dtX3_cellAt_0 2 rfl) ?_
  refine z_imul C (z_d dtX3_cellAt_0 3 rfl) ?_
  refine z_iload_n C (z_d dtX3_cellAt_0 4 rfl) rfl ?_
  refine z_iadd C (z_d dtX3_cellAt_0 5 rfl) ?_
  refine z_aload_n C (z_d dtX3_cellAt_0 6 rfl) rfl ?_
  refine gf_X3_15 C (z_d dtX3_cellAt_0 7 rfl) ?_
  refine z_imul C (z_d dtX3_cellAt_0 8 rfl) ?_
  refine z_iload_n C (z_d dtX3_cellAt_0 9 rfl) rfl ?_
  refine z_iadd C (z_d dtX3_cellAt_0 10 rfl) ?_
  exact ret _ _ _ _ (z_d dtX3_cellAt_0 11 rfl) (⟨rfl, rfl⟩) rfl

set_option maxRecDepth 100000 in
set_option maxHeartbeats 4000000 in
theorem k_X3_xOf {l : Launch} {D : va_G} {t : Nat → ClassId} {ad : Nat → Nat} {σ : zMem} {c : Int} (hw : zHw σ) (hc : 0 ≤ c ∧ c < 2147483648) : z_Ci l D t yX3_xOf cX3_xOf 2 .int 0 0 0 0 [.ref (ad 1), .int (zI c)] (wX ad t σ) (fun r w => w = wX ad t σ ∧ r = c % σ 1 0) := by
  refine z_Ci_of (by decide +kernel) [some (.ref (ad 1)), some (.int (zI c))] rfl rfl (Nat.le_of_ble_eq_true rfl) fun K hl hD ht hR hn C ret => ?_
  subst hl; subst hD; subst ht
  have hW := hw; unfold zHw at hW
  refine z_iload_n C (z_d dtX3_xOf_0 0 rfl) rfl ?_
  refine z_aload_n C (z_d dtX3_xOf_0 1 rfl) rfl ?_
  refine gf_X3_15 C (z_d dtX3_xOf_0 2 rfl) ?_
  refine z_irem C (z_d dtX3_xOf_0 3 rfl) (by omega) ?_
  exact ret _ _ _ _ (z_d dtX3_xOf_0 4 rfl) (⟨rfl, rfl⟩) rfl

set_option maxRecDepth 100000 in
set_option maxHeartbeats 4000000 in
theorem k_X3_yOf {l : Launch} {D : va_G} {t : Nat → ClassId} {ad : Nat → Nat} {σ : zMem} {c : Int} (hw : zHw σ) (hc : 0 ≤ c ∧ c < 2147483648) : z_Ci l D t yX3_yOf cX3_yOf 2 .int 0 0 0 0 [.ref (ad 1), .int (zI c)] (wX ad t σ) (fun r w => w = wX ad t σ ∧ r = c / σ 1 0 % σ 2 0) := by
  refine z_Ci_of (by decide +kernel) [some (.ref (ad 1)), some (.int (zI c))] rfl rfl (Nat.le_of_ble_eq_true rfl) fun K hl hD ht hR hn C ret => ?_
  subst hl; subst hD; subst ht
  have hW := hw; unfold zHw at hW
  have q1 := Int.ediv_nonneg hc.1 (show 0 ≤ σ 1 0 by omega)
  have q2 := Int.ediv_le_self (σ 1 0) hc.1
  refine z_iload_n C (z_d dtX3_yOf_0 0 rfl) rfl ?_
  refine z_aload_n C (z_d dtX3_yOf_0 1 rfl) rfl ?_
  refine gf_X3_15 C (z_d dtX3_yOf_0 2 rfl) ?_
  refine z_idiv C (z_d dtX3_yOf_0 3 rfl) (by omega) ?_
  refine z_aload_n C (z_d dtX3_yOf_0 4 rfl) rfl ?_
  refine gf_X3_18 C (z_d dtX3_yOf_0 5 rfl) ?_
  refine z_irem C (z_d dtX3_yOf_0 6 rfl) (by omega) ?_
  exact ret _ _ _ _ (z_d dtX3_yOf_0 7 rfl) (⟨rfl, rfl⟩) rfl

set_option maxRecDepth 100000 in
set_option maxHeartbeats 4000000 in
theorem k_X3_floorOf {l : Launch} {D : va_G} {t : Nat → ClassId} {ad : Nat → Nat} {σ : zMem} {c : Int} (hw : zHw σ) (hc : 0 ≤ c ∧ c < 2147483648) : z_Ci l D t yX3_floorOf cX3_floorOf 2 .int 0 0 0 0 [.ref (ad 1), .int (zI c)] (wX ad t σ) (fun r w => w = wX ad t σ ∧ r = c / (σ 1 0 * σ 2 0)) := by
  refine z_Ci_of (by decide +kernel) [some (.ref (ad 1)), some (.int (zI c))] rfl rfl (Nat.le_of_ble_eq_true rfl) fun K hl hD ht hR hn C ret => ?_
  subst hl; subst hD; subst ht
  have hW := zHw_wh hw
  refine z_iload_n C (z_d dtX3_floorOf_0 0 rfl) rfl ?_
  refine z_aload_n C (z_d dtX3_floorOf_0 1 rfl) rfl ?_
  refine gf_X3_15 C (z_d dtX3_floorOf_0 2 rfl) ?_
  refine z_aload_n C (z_d dtX3_floorOf_0 3 rfl) rfl ?_
  refine gf_X3_18 C (z_d dtX3_floorOf_0 4 rfl) ?_
  refine z_imul C (z_d dtX3_floorOf_0 5 rfl) ?_
  refine z_idiv C (z_d dtX3_floorOf_0 6 rfl) (by omega) ?_
  exact ret _ _ _ _ (z_d dtX3_floorOf_0 7 rfl) (⟨rfl, rfl⟩) rfl

set_option maxRecDepth 100000 in
set_option maxHeartbeats 4000000 in
theorem k_X3_targetOf {l : Launch} {D : va_G} {t : Nat → ClassId} {ad : Nat → Nat} {σ : zMem} {c d : Int} (hc : 0 ≤ c ∧ c < 72) (hd : 0 ≤ d ∧ d < 7) : z_Ci l D t yX3_targetOf cX3_targetOf 3 .int 0 0 0 0 [.ref (ad 1), .int (zI c), .int (zI d)] (wX ad t σ) (fun r w => w = wX ad t σ ∧ r = σ 33 (c * 7 + d)) := by
  refine z_Ci_of (by decide +kernel) [some (.ref (ad 1)), some (.int (zI c)), some (.int (zI d))] rfl rfl (Nat.le_of_ble_eq_true rfl) fun K hl hD ht hR hn C ret => ?_
  subst hl; subst hD; subst ht
  refine z_aload_n C (z_d dtX3_targetOf_0 0 rfl) rfl ?_
  refine gf_X3_40 C (z_d dtX3_targetOf_0 1 rfl) ?_
  refine z_iload_n C (z_d dtX3_targetOf_0 2 rfl) rfl ?_
  refine z_bipush C (z_d dtX3_targetOf_0 3 rfl) zb_7 ?_
  refine z_imul C (z_d dtX3_targetOf_0 4 rfl) ?_
  refine z_iload_n C (z_d dtX3_targetOf_0 5 rfl) rfl ?_
  refine z_iadd C (z_d dtX3_targetOf_0 6 rfl) ?_
  refine al_X11 C (z_d dtX3_targetOf_0 7 rfl) (by omega) ?_
  exact ret _ _ _ _ (z_d dtX3_targetOf_0 8 rfl) (⟨rfl, rfl⟩) rfl

set_option maxRecDepth 100000 in
set_option maxHeartbeats 4000000 in
theorem k_X3_likelyTo {l : Launch} {D : va_G} {t : Nat → ClassId} {ad : Nat → Nat} {σ : zMem} {d : Int} (hd : 0 ≤ d ∧ d < 7) : z_Ci l D t yX3_likelyTo cX3_likelyTo 2 .int 0 0 0 0 [.ref (ad 1), .int (zI d)] (wX ad t σ) (fun r w => w = wX ad t σ ∧ r = zLik σ d) := by
  refine z_Ci_of (by decide +kernel) [some (.ref (ad 1)), some (.int (zI d))] rfl rfl (Nat.le_of_ble_eq_true rfl) fun K hl hD ht hR hn C ret => ?_
  subst hl; subst hD; subst ht
  refine z_iload_n C (z_d dtX3_likelyTo_0 0 rfl) rfl ?_
  refine z_iconst C (z_d dtX3_likelyTo_0 1 rfl) ?_
  refine z_icmp_ne (tgt := 10) C (z_d dtX3_likelyTo_0 2 rfl) (by decide) (by omega) (fun h_2 => ?_) (fun h_2 => ?_)
  · refine z_iload_n C (z_d dtX3_likelyTo_0 6 rfl) rfl ?_
    refine z_if_eq (tgt := 20) C (z_d dtX3_likelyTo_0 7 rfl) (by decide) (by omega) (fun h_11 => ?_) (fun h_11 => ?_)
    · refine z_iconst C (z_d dtX3_likelyTo_0 11 rfl) ?_
      refine z_goto (tgt := 25) C (z_d dtX3_likelyTo_0 12 rfl) (by decide) ?_
      exact ret _ _ _ _ (z_d dtX3_likelyTo_0 14 rfl) (⟨rfl, by rw [zLik, if_neg (by omega)]; first | rw [if_pos (by omega)] | rw [if_neg (by omega)]⟩) rfl
    · refine z_iload_n C (z_d dtX3_likelyTo_0 8 rfl) rfl ?_
      refine z_bipush C (z_d dtX3_likelyTo_0 9 rfl) zb_6 ?_
      refine z_icmp_ne (tgt := 24) C (z_d dtX3_likelyTo_0 10 rfl) (by decide) (by omega) (fun h_17 => ?_) (fun h_17 => ?_)
      · refine z_iconst C (z_d dtX3_likelyTo_0 13 rfl) ?_
        exact ret _ _ _ _ (z_d dtX3_likelyTo_0 14 rfl) (⟨rfl, by rw [zLik, if_neg (by omega)]; first | rw [if_pos (by omega)] | rw [if_neg (by omega)]⟩) rfl
      · refine z_iconst C (z_d dtX3_likelyTo_0 11 rfl) ?_
        refine z_goto (tgt := 25) C (z_d dtX3_likelyTo_0 12 rfl) (by decide) ?_
        exact ret _ _ _ _ (z_d dtX3_likelyTo_0 14 rfl) (⟨rfl, by rw [zLik, if_neg (by omega)]; first | rw [if_pos (by omega)] | rw [if_neg (by omega)]⟩) rfl
  · refine z_aload_n C (z_d dtX3_likelyTo_0 3 rfl) rfl ?_
    refine gf_X3_27 C (z_d dtX3_likelyTo_0 4 rfl) ?_
    exact ret _ _ _ _ (z_d dtX3_likelyTo_0 5 rfl) (⟨rfl, by rw [zLik, if_pos (by omega)]⟩) rfl

set_option maxRecDepth 100000 in
set_option maxHeartbeats 4000000 in
theorem k_X3_likelyOfAll {l : Launch} {D : va_G} {t : Nat → ClassId} {ad : Nat → Nat} {σ : zMem} {c : Int} (hw : zHw σ) (hc : 0 ≤ c ∧ c < zN σ) (hs : 0 ≤ σ 3 0 ∧ σ 3 0 ≤ 9) (ht : zTb σ) : z_Ci l D t yX3_likelyOfAll cX3_likelyOfAll 4 .int 1 22 0 0 [.ref (ad 1), .int (zI c)] (wX ad t σ) (fun r w => w = wX ad t σ ∧ r = zAll σ c 7) := by
  refine z_Ci_of (by decide +kernel) [some (.ref (ad 1)), some (.int (zI c)), none, none] rfl rfl (Nat.le_of_ble_eq_true rfl) fun K hl hD ht hR hn C ret => ?_
  subst hl; subst hD; subst ht
  have hN := zHw_N hw
  have htb := zTb_b hw ht hc
  refine z_iconst C (z_d dtX3_likelyOfAll_0 0 rfl) ?_
  refine z_istore_n2 C (z_d dtX3_likelyOfAll_0 1 rfl) rfl ?_
  refine z_iconst C (z_d dtX3_likelyOfAll_0 2 rfl) ?_
  refine z_istore_n3 C (z_d dtX3_likelyOfAll_0 3 rfl) rfl ?_
  have lp_4 : ∀ (N_4 : Nat) (i : Nat) (d s : Int), (d = i ∧ i ≤ 7) → (s = zAll σ c i) → 7 - i < N_4 → Gd K 0 0 4 [some (.ref (ad 1)), some (.int (zI c)), some (.int (zI s)), some (.int (zI d))] [] (wX ad (z_t K) σ) := by
    intro N_4
    induction N_4 with
    | zero => intro i d s hi hs2 hm_4; exact absurd hm_4 (Nat.not_lt_zero _)
    | succ N_4 ih_4 =>
      intro i d s hi hs2 hm_4
      obtain ⟨rfl, hi⟩ := hi
      have hb := htb i (by omega)
      refine z_iload_n C (z_d dtX3_likelyOfAll_0 4 rfl) rfl ?_
      refine z_bipush C (z_d dtX3_likelyOfAll_0 5 rfl) zb_7 ?_
      refine z_icmp_ge (tgt := 34) C (z_d dtX3_likelyOfAll_0 6 rfl) (by decide) (by omega) (fun h_7 => ?_) (fun h_7 => ?_)
      · refine z_iload_n C (z_d dtX3_likelyOfAll_0 21 rfl) rfl ?_
        exact ret _ _ _ _ (z_d dtX3_likelyOfAll_0 22 rfl) (⟨rfl, by rw [hs2, show i = 7 by omega]⟩) rfl
      · refine z_aload_n C (z_d dtX3_likelyOfAll_0 7 rfl) rfl ?_
        refine z_iload_n C (z_d dtX3_likelyOfAll_0 8 rfl) rfl ?_
        refine z_iload_n C (z_d dtX3_likelyOfAll_0 9 rfl) rfl ?_
        refine z_callV C (z_d dtX3_likelyOfAll_0 10 rfl) (k_X3_targetOf  (by first | assumption | omega) (by first | assumption | omega)) cal_X3_targetOf gw_13_8 rfl 1 3 rfl rfl rfl rfl hR ⟨rfl, rfl, rfl, rfl⟩ rfl (fun r_13 w_13 h_13 => ?_)
        obtain ⟨rfl, rfl⟩ := h_13
        refine z_iconst C (z_d dtX3_likelyOfAll_0 11 rfl) ?_
        refine z_icmp_eq (tgt := 28) C (z_d dtX3_likelyOfAll_0 12 rfl) (by decide) (by omega) (fun h_17 => ?_) (fun h_17 => ?_)
        · refine z_iinc3 C (z_d dtX3_likelyOfAll_0 19 rfl) rfl ?_
          refine z_goto (tgt := 4) C (z_d dtX3_likelyOfAll_0 20 rfl) (by decide) ?_
          exact ih_4 (i + 1) _ _ (by omega) (by rw [zAll]; split <;> omega) (by omega)
        · refine z_iload_n C (z_d dtX3_likelyOfAll_0 13 rfl) rfl ?_
          refine z_aload_n C (z_d dtX3_likelyOfAll_0 14 rfl) rfl ?_
          refine z_iload_n C (z_d dtX3_likelyOfAll_0 15 rfl) rfl ?_
          refine z_callV C (z_d dtX3_likelyOfAll_0 16 rfl) (k_X3_likelyTo  (by first | assumption | omega)) cal_X3_likelyTo gw_13_12 rfl 1 3 rfl rfl rfl rfl hR ⟨rfl, rfl, rfl, rfl⟩ rfl (fun r_23 w_23 h_23 => ?_)
          obtain ⟨rfl, rfl⟩ := h_23
          refine z_iadd C (z_d dtX3_likelyOfAll_0 17 rfl) ?_
          refine z_istore_n2 C (z_d dtX3_likelyOfAll_0 18 rfl) rfl ?_
          refine z_iinc3 C (z_d dtX3_likelyOfAll_0 19 rfl) rfl ?_
          refine z_goto (tgt := 4) C (z_d dtX3_likelyOfAll_0 20 rfl) (by decide) ?_
          exact ih_4 (i + 1) _ _ (by omega) (by rw [zAll]; split <;> omega) (by omega)
  exact lp_4 _ 0 _ _ (by omega) rfl (Nat.lt_succ_self _)

set_option maxRecDepth 100000 in
set_option maxHeartbeats 4000000 in
theorem k_X3_likelyBetween {l : Launch} {D : va_G} {t : Nat → ClassId} {ad : Nat → Nat} {σ : zMem} {c to : Int} (hw : zHw σ) (hc : 0 ≤ c ∧ c < zN σ) (ht : zTb σ) (hto : -2147483648 ≤ to ∧ to < 2147483648) : z_Ci l D t yX3_likelyBetween cX3_likelyBetween 4 .int 1 22 0 0 [.ref (ad 1), .int (zI c), .int (zI to)] (wX ad t σ) (fun r w => w = wX ad t σ ∧ ((∃ d, 0 ≤ d ∧ d < 7 ∧ σ 33 (c * 7 + d) = to ∧ (∀ j, 0 ≤ j → j < d → σ 33 (c * 7 + j) ≠ to) ∧ r = zLik σ d) ∨ ((∀ d, 0 ≤ d → d < 7 → σ 33 (c * 7 + d) ≠ to) ∧ r = 0))) := by
  refine z_Ci_of (by decide +kernel) [some (.ref (ad 1)), some (.int (zI c)), some (.int (zI to)), none] rfl rfl (Nat.le_of_ble_eq_true rfl) fun K hl hD ht hR hn C ret => ?_
  subst hl; subst hD; subst ht
  have hN := zHw_N hw
  have htb := zTb_b hw ht hc
  refine z_iconst C (z_d dtX3_likelyBetween_0 0 rfl) ?_
  refine z_istore_n3 C (z_d dtX3_likelyBetween_0 1 rfl) rfl ?_
  have lp_2 : ∀ (N_2 : Nat) (d : Int), (0 ≤ d ∧ d ≤ 7) → (∀ j, 0 ≤ j → j < d → σ 33 (c * 7 + j) ≠ to) → (7 - d).toNat < N_2 → Gd K 0 0 2 [some (.ref (ad 1)), some (.int (zI c)), some (.int (zI to)), some (.int (zI d))] [] (wX ad (z_t K) σ) := by
    intro N_2
    induction N_2 with
    | zero => intro d hd hn hm_2; exact absurd hm_2 (Nat.not_lt_zero _)
    | succ N_2 ih_2 =>
      intro d hd hn hm_2
      have hb := htb d hd.1
      refine z_iload_n C (z_d dtX3_likelyBetween_0 2 rfl) rfl ?_
      refine z_bipush C (z_d dtX3_likelyBetween_0 3 rfl) zb_7 ?_
      refine z_icmp_ge (tgt := 30) C (z_d dtX3_likelyBetween_0 4 rfl) (by decide) (by omega) (fun h_5 => ?_) (fun h_5 => ?_)
      · refine z_iconst C (z_d dtX3_likelyBetween_0 17 rfl) ?_
        exact ret _ _ _ _ (z_d dtX3_likelyBetween_0 18 rfl) (⟨rfl, Or.inr ⟨fun j h0 h1 => hn j h0 (by omega), rfl⟩⟩) rfl
      · refine z_aload_n C (z_d dtX3_likelyBetween_0 5 rfl) rfl ?_
        refine z_iload_n C (z_d dtX3_likelyBetween_0 6 rfl) rfl ?_
        refine z_iload_n C (z_d dtX3_likelyBetween_0 7 rfl) rfl ?_
        refine z_callV C (z_d dtX3_likelyBetween_0 8 rfl) (k_X3_targetOf  (by first | assumption | omega) (by first | assumption | omega)) cal_X3_targetOf gw_13_8 rfl 1 3 rfl rfl rfl rfl hR ⟨rfl, rfl, rfl, rfl⟩ rfl (fun r_11 w_11 h_11 => ?_)
        obtain ⟨rfl, rfl⟩ := h_11
        refine z_iload_n C (z_d dtX3_likelyBetween_0 9 rfl) rfl ?_
        refine z_icmp_ne (tgt := 24) C (z_d dtX3_likelyBetween_0 10 rfl) (by decide) (by omega) (fun h_15 => ?_) (fun h_15 => ?_)
        · refine z_iinc3 C (z_d dtX3_likelyBetween_0 15 rfl) rfl ?_
          refine z_goto (tgt := 2) C (z_d dtX3_likelyBetween_0 16 rfl) (by decide) ?_
          exact ih_2 _ (by omega) (fun j h0 h1 => by
                by_cases e : j = d
                · subst e; omega
                · exact hn j h0 (by omega)) (by omega)
        · refine z_aload_n C (z_d dtX3_likelyBetween_0 11 rfl) rfl ?_
          refine z_iload_n C (z_d dtX3_likelyBetween_0 12 rfl) rfl ?_
          refine z_callV C (z_d dtX3_likelyBetween_0 13 rfl) (k_X3_likelyTo  (by first | assumption | omega)) cal_X3_likelyTo gw_13_12 rfl 1 3 rfl rfl rfl rfl hR ⟨rfl, rfl, rfl, rfl⟩ rfl (fun r_20 w_20 h_20 => ?_)
          obtain ⟨rfl, rfl⟩ := h_20
          exact ret _ _ _ _ (z_d dtX3_likelyBetween_0 14 rfl) (⟨rfl, Or.inl ⟨d, by omega, by omega, by omega, hn, rfl⟩⟩) rfl
  exact lp_2 _ _ (by omega) (fun j h0 h1 => absurd h1 (by omega)) (Nat.lt_succ_self _)

set_option maxRecDepth 100000 in
set_option maxHeartbeats 4000000 in
theorem k_X3_areBeside {l : Launch} {D : va_G} {t : Nat → ClassId} {ad : Nat → Nat} {σ : zMem} {a b : Int} (hw : zHw σ) (ha : 0 ≤ a ∧ a < zN σ) (hb : 0 ≤ b ∧ b < zN σ) : z_Ci l D t yX3_areBeside cX3_areBeside 4 .boolean 1 21 0 0 [.ref (ad 1), .int (zI a), .int (zI b)] (wX ad t σ) (fun r w => w = wX ad t σ ∧ ((r = 1 ∧ (a / (σ 1 0 * σ 2 0) = b / (σ 1 0 * σ 2 0) ∧ ((a % σ 1 0 = b % σ 1 0 ∧ (a / σ 1 0 % σ 2 0 - b / σ 1 0 % σ 2 0 = 1 ∨ a / σ 1 0 % σ 2 0 - b / σ 1 0 % σ 2 0 = -1)) ∨ (a / σ 1 0 % σ 2 0 = b / σ 1 0 % σ 2 0 ∧ (a % σ 1 0 - b % σ 1 0 = 1 ∨ a % σ 1 0 - b % σ 1 0 = -1))))) ∨ (r = 0 ∧ ¬ (a / (σ 1 0 * σ 2 0) = b / (σ 1 0 * σ 2 0) ∧ ((a % σ 1 0 = b % σ 1 0 ∧ (a / σ 1 0 % σ 2 0 - b / σ 1 0 % σ 2 0 = 1 ∨ a / σ 1 0 % σ 2 0 - b / σ 1 0 % σ 2 0 = -1)) ∨ (a / σ 1 0 % σ 2 0 = b / σ 1 0 % σ 2 0 ∧ (a % σ 1 0 - b % σ 1 0 = 1 ∨ a % σ 1 0 - b % σ 1 0 = -1))))))) := by
  refine z_Ci_of (by decide +kernel) [some (.ref (ad 1)), some (.int (zI a)), some (.int (zI b)), none] rfl rfl (Nat.le_of_ble_eq_true rfl) fun K hl hD ht hR hn C ret => ?_
  subst hl; subst hD; subst ht
  have hN := zHw_N hw
  have hW := hw; unfold zHw at hW
  have ga := zGeo hw ha
  have gb := zGeo hw hb
  refine z_aload_n C (z_d dtX3_areBeside_0 0 rfl) rfl ?_
  refine z_iload_n C (z_d dtX3_areBeside_0 1 rfl) rfl ?_
  refine z_callV C (z_d dtX3_areBeside_0 2 rfl) (k_X3_xOf  (by first | assumption | omega) (by first | assumption | omega)) cal_X3_xOf gw_5_13 rfl 1 3 rfl rfl rfl rfl hR ⟨rfl, rfl, rfl, rfl⟩ rfl (fun r_2 w_2 h_2 => ?_)
  obtain ⟨rfl, rfl⟩ := h_2
  refine z_aload_n C (z_d dtX3_areBeside_0 3 rfl) rfl ?_
  refine z_iload_n C (z_d dtX3_areBeside_0 4 rfl) rfl ?_
  refine z_callV C (z_d dtX3_areBeside_0 5 rfl) (k_X3_xOf  (by first | assumption | omega) (by first | assumption | omega)) cal_X3_xOf gw_5_13 rfl 1 3 rfl rfl rfl rfl hR ⟨rfl, rfl, rfl, rfl⟩ rfl (fun r_7 w_7 h_7 => ?_)
  obtain ⟨rfl, rfl⟩ := h_7
  refine z_isub C (z_d dtX3_areBeside_0 6 rfl) ?_
  refine z_mabsP C (z_d dtX3_areBeside_0 7 rfl) gw_10_9 gw_10_10 gw_9_20 gw_10_11 rfl (by rw [hR]; exact Nat.le_of_ble_eq_true rfl) (by rw [hR]; exact Nat.le_of_ble_eq_true rfl) (by rw [hR]; exact Nat.le_refl _) (by rw [hR]; exact Nat.le_refl _) (by omega) (fun m_11 h_11 => ?_)
  refine z_aload_n C (z_d dtX3_areBeside_0 8 rfl) rfl ?_
  refine z_iload_n C (z_d dtX3_areBeside_0 9 rfl) rfl ?_
  refine z_callV C (z_d dtX3_areBeside_0 10 rfl) (k_X3_yOf  (by first | assumption | omega) (by first | assumption | omega)) cal_X3_yOf gw_5_17 rfl 1 3 rfl rfl rfl rfl hR ⟨rfl, rfl, rfl, rfl⟩ rfl (fun r_16 w_16 h_16 => ?_)
  obtain ⟨rfl, rfl⟩ := h_16
  refine z_aload_n C (z_d dtX3_areBeside_0 11 rfl) rfl ?_
  refine z_iload_n C (z_d dtX3_areBeside_0 12 rfl) rfl ?_
  refine z_callV C (z_d dtX3_areBeside_0 13 rfl) (k_X3_yOf  (by first | assumption | omega) (by first | assumption | omega)) cal_X3_yOf gw_5_17 rfl 1 3 rfl rfl rfl rfl hR ⟨rfl, rfl, rfl, rfl⟩ rfl (fun r_21 w_21 h_21 => ?_)
  obtain ⟨rfl, rfl⟩ := h_21
  refine z_isub C (z_d dtX3_areBeside_0 14 rfl) ?_
  refine z_mabsP C (z_d dtX3_areBeside_0 15 rfl) gw_10_9 gw_10_10 gw_9_20 gw_10_11 rfl (by rw [hR]; exact Nat.le_of_ble_eq_true rfl) (by rw [hR]; exact Nat.le_of_ble_eq_true rfl) (by rw [hR]; exact Nat.le_refl _) (by rw [hR]; exact Nat.le_refl _) (by omega) (fun m_25 h_25 => ?_)
  refine z_iadd C (z_d dtX3_areBeside_0 16 rfl) ?_
  refine z_istore_n3 C (z_d dtX3_areBeside_0 17 rfl) rfl ?_
  refine z_aload_n C (z_d dtX3_areBeside_0 18 rfl) rfl ?_
  refine z_iload_n C (z_d dtX3_areBeside_0 19 rfl) rfl ?_
  refine z_callV C (z_d dtX3_areBeside_0 20 rfl) (k_X3_floorOf  (by first | assumption | omega) (by first | assumption | omega)) cal_X3_floorOf gw_5_21 rfl 1 3 rfl rfl rfl rfl hR ⟨rfl, rfl, rfl, rfl⟩ rfl (fun r_32 w_32 h_32 => ?_)
  obtain ⟨rfl, rfl⟩ := h_32
  refine z_aload_n C (z_d dtX3_areBeside_0 21 rfl) rfl ?_
  refine z_iload_n C (z_d dtX3_areBeside_0 22 rfl) rfl ?_
  refine z_callV C (z_d dtX3_areBeside_0 23 rfl) (k_X3_floorOf  (by first | assumption | omega) (by first | assumption | omega)) cal_X3_floorOf gw_5_21 rfl 1 3 rfl rfl rfl rfl hR ⟨rfl, rfl, rfl, rfl⟩ rfl (fun r_37 w_37 h_37 => ?_)
  obtain ⟨rfl, rfl⟩ := h_37
  refine z_icmp_ne (tgt := 52) C (z_d dtX3_areBeside_0 24 rfl) (by decide) (by omega) (fun h_40 => ?_) (fun h_40 => ?_)
  · refine z_iconst C (z_d dtX3_areBeside_0 30 rfl) ?_
    exact ret _ _ _ _ (z_d dtX3_areBeside_0 31 rfl) (⟨rfl, by omega⟩) (z_nb (by omega))
  · refine z_iload_n C (z_d dtX3_areBeside_0 25 rfl) rfl ?_
    refine z_iconst C (z_d dtX3_areBeside_0 26 rfl) ?_
    refine z_icmp_ne (tgt := 52) C (z_d dtX3_areBeside_0 27 rfl) (by decide) (by omega) (fun h_45 => ?_) (fun h_45 => ?_)
    · refine z_iconst C (z_d dtX3_areBeside_0 30 rfl) ?_
      exact ret _ _ _ _ (z_d dtX3_areBeside_0 31 rfl) (⟨rfl, by omega⟩) (z_nb (by omega))
    · refine z_iconst C (z_d dtX3_areBeside_0 28 rfl) ?_
      refine z_goto (tgt := 53) C (z_d dtX3_areBeside_0 29 rfl) (by decide) ?_
      exact ret _ _ _ _ (z_d dtX3_areBeside_0 31 rfl) (⟨rfl, by omega⟩) (z_nb (by omega))

set_option maxRecDepth 100000 in
set_option maxHeartbeats 4000000 in
theorem k_X3_chartStepsFrom {l : Launch} {D : va_G} {t : Nat → ClassId} {ad : Nat → Nat} {σ : zMem} {c : Int} (hw : zHw σ) (hc : 0 ≤ c ∧ c < zN σ) (hs : 0 ≤ σ 3 0 ∧ σ 3 0 ≤ 9) (h4 : zBo σ 4) (h5 : zBo σ 5) (h6 : zBo σ 6) : z_Cv l D t yX3_chartStepsFrom cX3_chartStepsFrom 7 1 21 0 0 [.ref (ad 1), .int (zI c), .int (zI (c * 7))] (wX ad t σ) (fun w => ∃ σ', w = wX ad t σ' ∧ zRow σ' σ (c * 7) c 7) := by
  refine z_Cv_of (by decide +kernel) [some (.ref (ad 1)), some (.int (zI c)), some (.int (zI (c * 7))), none, none, none, none] rfl rfl (Nat.le_of_ble_eq_true rfl) fun K hl hD ht hR hn C ret => ?_
  subst hl; subst hD; subst ht
  have hN := zHw_N hw
  have hW := hw; unfold zHw at hW
  have hwh := zHw_wh hw
  have g := zGeo hw hc
  have g2 := zGeo2 hw hc
  have b4 := h4 c
  have b41 := h4 (c - 1)
  have b5 := h5 c
  have b51 := h5 (c - σ 1 0)
  have b6 := h6 (c / σ 1 0 % σ 2 0 * σ 1 0 + c % σ 1 0)
  refine z_aload_n C (z_d dtX3_chartStepsFrom_0 0 rfl) rfl ?_
  refine z_iload_n C (z_d dtX3_chartStepsFrom_0 1 rfl) rfl ?_
  refine z_callV C (z_d dtX3_chartStepsFrom_0 2 rfl) (k_X3_xOf  (by first | assumption | omega) (by first | assumption | omega)) cal_X3_xOf gw_5_13 rfl 1 3 rfl rfl rfl rfl hR ⟨rfl, rfl, rfl, rfl⟩ rfl (fun r_2 w_2 h_2 => ?_)
  obtain ⟨rfl, rfl⟩ := h_2
  refine z_istore_n3 C (z_d dtX3_chartStepsFrom_0 3 rfl) rfl ?_
  refine z_aload_n C (z_d dtX3_chartStepsFrom_0 4 rfl) rfl ?_
  refine z_iload_n C (z_d dtX3_chartStepsFrom_0 5 rfl) rfl ?_
  refine z_callV C (z_d dtX3_chartStepsFrom_0 6 rfl) (k_X3_yOf  (by first | assumption | omega) (by first | assumption | omega)) cal_X3_yOf gw_5_17 rfl 1 3 rfl rfl rfl rfl hR ⟨rfl, rfl, rfl, rfl⟩ rfl (fun r_8 w_8 h_8 => ?_)
  obtain ⟨rfl, rfl⟩ := h_8
  refine z_istore4 C (z_d dtX3_chartStepsFrom_0 7 rfl) rfl ?_
  refine z_aload_n C (z_d dtX3_chartStepsFrom_0 8 rfl) rfl ?_
  refine z_iload_n C (z_d dtX3_chartStepsFrom_0 9 rfl) rfl ?_
  refine z_callV C (z_d dtX3_chartStepsFrom_0 10 rfl) (k_X3_floorOf  (by first | assumption | omega) (by first | assumption | omega)) cal_X3_floorOf gw_5_21 rfl 1 3 rfl rfl rfl rfl hR ⟨rfl, rfl, rfl, rfl⟩ rfl (fun r_15 w_15 h_15 => ?_)
  obtain ⟨rfl, rfl⟩ := h_15
  refine z_istore5 C (z_d dtX3_chartStepsFrom_0 11 rfl) rfl ?_
  refine z_aload_n C (z_d dtX3_chartStepsFrom_0 12 rfl) rfl ?_
  refine gf_X3_37 C (z_d dtX3_chartStepsFrom_0 13 rfl) ?_
  refine z_iload C (z_d dtX3_chartStepsFrom_0 14 rfl) rfl ?_
  refine z_aload_n C (z_d dtX3_chartStepsFrom_0 15 rfl) rfl ?_
  refine gf_X3_15 C (z_d dtX3_chartStepsFrom_0 16 rfl) ?_
  try simp (decide := true) only [zS_s, zS_o, zC, e0, e1, e2, e3, e4, e5, e6]
  refine z_imul C (z_d dtX3_chartStepsFrom_0 17 rfl) ?_
  refine z_iload_n C (z_d dtX3_chartStepsFrom_0 18 rfl) rfl ?_
  refine z_iadd C (z_d dtX3_chartStepsFrom_0 19 rfl) ?_
  refine al_X10 C (z_d dtX3_chartStepsFrom_0 20 rfl) (by omega) ?_
  try simp (decide := true) only [zS_s, zS_o, zC, e0, e1, e2, e3, e4, e5, e6]
  refine z_istore6 C (z_d dtX3_chartStepsFrom_0 21 rfl) rfl ?_
  have jn_265 : ∀ (v : Int) (μ : zMem), (v = zT6 σ c) → (zRow μ σ (c * 7) c 6) → Gd K 0 0 265 [some (.ref (ad 1)), some (.int (zI c)), some (.int (zI (c * 7))), some (.int (zI (c % σ 1 0))), some (.int (zI (c / σ 1 0 % σ 2 0))), some (.int (zI (c / (σ 1 0 * σ 2 0)))), some (.int (zI (σ 6 (c / σ 1 0 % σ 2 0 * σ 1 0 + c % σ 1 0))))] [.int (zI v), .int (zI (c * 7 + 6)), .ref (ad 11)] (wX ad (z_t K) μ) := by
    intro v μ hv hr
    have e0 := hr.1 0 (by decide)
    have e1 := hr.1 1 (by decide)
    have e2 := hr.1 2 (by decide)
    have e3 := hr.1 3 (by decide)
    have e4 := hr.1 4 (by decide)
    have e5 := hr.1 5 (by decide)
    have e6 := hr.1 6 (by decide)
    refine as_X11 C (z_d dtX3_chartStepsFrom_4 0 rfl) (by omega) ?_
    exact ret _ _ _ (z_d dtX3_chartStepsFrom_4 1 rfl) (⟨_, rfl, zRow_st hr (by omega) (by rw [hv]; simp [zTg]) (by omega)⟩)
  have jn_225 : ∀ (v : Int) (μ : zMem), (v = zT5 σ c) → (zRow μ σ (c * 7) c 5) → Gd K 0 0 225 [some (.ref (ad 1)), some (.int (zI c)), some (.int (zI (c * 7))), some (.int (zI (c % σ 1 0))), some (.int (zI (c / σ 1 0 % σ 2 0))), some (.int (zI (c / (σ 1 0 * σ 2 0)))), some (.int (zI (σ 6 (c / σ 1 0 % σ 2 0 * σ 1 0 + c % σ 1 0))))] [.int (zI v), .int (zI (c * 7 + 5)), .ref (ad 11)] (wX ad (z_t K) μ) := by
    intro v μ hv hr
    have e0 := hr.1 0 (by decide)
    have e1 := hr.1 1 (by decide)
    have e2 := hr.1 2 (by decide)
    have e3 := hr.1 3 (by decide)
    have e4 := hr.1 4 (by decide)
    have e5 := hr.1 5 (by decide)
    have e6 := hr.1 6 (by decide)
    refine as_X11 C (z_d dtX3_chartStepsFrom_3 17 rfl) (by omega) ?_
    refine z_aload_n C (z_d dtX3_chartStepsFrom_3 18 rfl) rfl ?_
    refine gf_X3_40 C (z_d dtX3_chartStepsFrom_3 19 rfl) ?_
    refine z_iload_n C (z_d dtX3_chartStepsFrom_3 20 rfl) rfl ?_
    refine z_bipush C (z_d dtX3_chartStepsFrom_3 21 rfl) zb_6 ?_
    refine z_iadd C (z_d dtX3_chartStepsFrom_3 22 rfl) ?_
    refine z_iload C (z_d dtX3_chartStepsFrom_3 23 rfl) rfl ?_
    refine z_if_eq (tgt := 264) C (z_d dtX3_chartStepsFrom_3 24 rfl) (by decide) (by omega) (fun h_236 => ?_) (fun h_236 => ?_)
    · refine z_iconst C (z_d dtX3_chartStepsFrom_3 39 rfl) ?_
      exact jn_265 _ _ (by unfold zT6; first | rw [if_pos (by omega)] | rw [if_neg (by omega)]) (zRow_st hr (by omega) (by rw [hv]; simp [zTg]) (by omega))
    · refine z_iload C (z_d dtX3_chartStepsFrom_3 25 rfl) rfl ?_
      refine z_aload_n C (z_d dtX3_chartStepsFrom_3 26 rfl) rfl ?_
      refine gf_X3_9 C (z_d dtX3_chartStepsFrom_3 27 rfl) ?_
      try simp (decide := true) only [zS_s, zS_o, zC, e0, e1, e2, e3, e4, e5, e6]
      refine z_iconst C (z_d dtX3_chartStepsFrom_3 28 rfl) ?_
      refine z_isub C (z_d dtX3_chartStepsFrom_3 29 rfl) ?_
      refine z_icmp_ge (tgt := 264) C (z_d dtX3_chartStepsFrom_3 30 rfl) (by decide) (by omega) (fun h_247 => ?_) (fun h_247 => ?_)
      · refine z_iconst C (z_d dtX3_chartStepsFrom_3 39 rfl) ?_
        exact jn_265 _ _ (by unfold zT6; first | rw [if_pos (by omega)] | rw [if_neg (by omega)]) (zRow_st hr (by omega) (by rw [hv]; simp [zTg]) (by omega))
      · refine z_iload_n C (z_d dtX3_chartStepsFrom_3 31 rfl) rfl ?_
        refine z_aload_n C (z_d dtX3_chartStepsFrom_3 32 rfl) rfl ?_
        refine gf_X3_15 C (z_d dtX3_chartStepsFrom_3 33 rfl) ?_
        try simp (decide := true) only [zS_s, zS_o, zC, e0, e1, e2, e3, e4, e5, e6]
        refine z_aload_n C (z_d dtX3_chartStepsFrom_3 34 rfl) rfl ?_
        refine gf_X3_18 C (z_d dtX3_chartStepsFrom_3 35 rfl) ?_
        try simp (decide := true) only [zS_s, zS_o, zC, e0, e1, e2, e3, e4, e5, e6]
        refine z_imul C (z_d dtX3_chartStepsFrom_3 36 rfl) ?_
        refine z_iadd C (z_d dtX3_chartStepsFrom_3 37 rfl) ?_
        refine z_goto (tgt := 265) C (z_d dtX3_chartStepsFrom_3 38 rfl) (by decide) ?_
        exact jn_265 _ _ (by unfold zT6; first | rw [if_pos (by omega)] | rw [if_neg (by omega)]) (zRow_st hr (by omega) (by rw [hv]; simp [zTg]) (by omega))
  have jn_187 : ∀ (v : Int) (μ : zMem), (v = zT4 σ c) → (zRow μ σ (c * 7) c 4) → Gd K 0 0 187 [some (.ref (ad 1)), some (.int (zI c)), some (.int (zI (c * 7))), some (.int (zI (c % σ 1 0))), some (.int (zI (c / σ 1 0 % σ 2 0))), some (.int (zI (c / (σ 1 0 * σ 2 0)))), some (.int (zI (σ 6 (c / σ 1 0 % σ 2 0 * σ 1 0 + c % σ 1 0))))] [.int (zI v), .int (zI (c * 7 + 4)), .ref (ad 11)] (wX ad (z_t K) μ) := by
    intro v μ hv hr
    have e0 := hr.1 0 (by decide)
    have e1 := hr.1 1 (by decide)
    have e2 := hr.1 2 (by decide)
    have e3 := hr.1 3 (by decide)
    have e4 := hr.1 4 (by decide)
    have e5 := hr.1 5 (by decide)
    have e6 := hr.1 6 (by decide)
    refine as_X11 C (z_d dtX3_chartStepsFrom_2 34 rfl) (by omega) ?_
    refine z_aload_n C (z_d dtX3_chartStepsFrom_2 35 rfl) rfl ?_
    refine gf_X3_40 C (z_d dtX3_chartStepsFrom_2 36 rfl) ?_
    refine z_iload_n C (z_d dtX3_chartStepsFrom_2 37 rfl) rfl ?_
    refine z_iconst C (z_d dtX3_chartStepsFrom_2 38 rfl) ?_
    refine z_iadd C (z_d dtX3_chartStepsFrom_2 39 rfl) ?_
    refine z_iload C (z_d dtX3_chartStepsFrom_3 0 rfl) rfl ?_
    refine z_aload_n C (z_d dtX3_chartStepsFrom_3 1 rfl) rfl ?_
    refine gf_X3_18 C (z_d dtX3_chartStepsFrom_3 2 rfl) ?_
    try simp (decide := true) only [zS_s, zS_o, zC, e0, e1, e2, e3, e4, e5, e6]
    refine z_iconst C (z_d dtX3_chartStepsFrom_3 3 rfl) ?_
    refine z_isub C (z_d dtX3_chartStepsFrom_3 4 rfl) ?_
    refine z_icmp_ge (tgt := 224) C (z_d dtX3_chartStepsFrom_3 5 rfl) (by decide) (by omega) (fun h_203 => ?_) (fun h_203 => ?_)
    · refine z_iconst C (z_d dtX3_chartStepsFrom_3 16 rfl) ?_
      exact jn_225 _ _ (by unfold zT5; first | rw [if_pos (by omega)] | rw [if_neg (by omega)]) (zRow_st hr (by omega) (by rw [hv]; simp [zTg]) (by omega))
    · refine z_aload_n C (z_d dtX3_chartStepsFrom_3 6 rfl) rfl ?_
      refine gf_X3_34 C (z_d dtX3_chartStepsFrom_3 7 rfl) ?_
      refine z_iload_n C (z_d dtX3_chartStepsFrom_3 8 rfl) rfl ?_
      refine al_X9 C (z_d dtX3_chartStepsFrom_3 9 rfl) (by omega) ?_
      try simp (decide := true) only [zS_s, zS_o, zC, e0, e1, e2, e3, e4, e5, e6]
      refine z_if_ne (tgt := 224) C (z_d dtX3_chartStepsFrom_3 10 rfl) (by decide) (by omega) (fun h_212 => ?_) (fun h_212 => ?_)
      · refine z_iconst C (z_d dtX3_chartStepsFrom_3 16 rfl) ?_
        exact jn_225 _ _ (by unfold zT5; first | rw [if_pos (by omega)] | rw [if_neg (by omega)]) (zRow_st hr (by omega) (by rw [hv]; simp [zTg]) (by omega))
      · refine z_iload_n C (z_d dtX3_chartStepsFrom_3 11 rfl) rfl ?_
        refine z_aload_n C (z_d dtX3_chartStepsFrom_3 12 rfl) rfl ?_
        refine gf_X3_15 C (z_d dtX3_chartStepsFrom_3 13 rfl) ?_
        try simp (decide := true) only [zS_s, zS_o, zC, e0, e1, e2, e3, e4, e5, e6]
        refine z_iadd C (z_d dtX3_chartStepsFrom_3 14 rfl) ?_
        refine z_goto (tgt := 225) C (z_d dtX3_chartStepsFrom_3 15 rfl) (by decide) ?_
        exact jn_225 _ _ (by unfold zT5; first | rw [if_pos (by omega)] | rw [if_neg (by omega)]) (zRow_st hr (by omega) (by rw [hv]; simp [zTg]) (by omega))
  have jn_153 : ∀ (v : Int) (μ : zMem), (v = zT3 σ c) → (zRow μ σ (c * 7) c 3) → Gd K 0 0 153 [some (.ref (ad 1)), some (.int (zI c)), some (.int (zI (c * 7))), some (.int (zI (c % σ 1 0))), some (.int (zI (c / σ 1 0 % σ 2 0))), some (.int (zI (c / (σ 1 0 * σ 2 0)))), some (.int (zI (σ 6 (c / σ 1 0 % σ 2 0 * σ 1 0 + c % σ 1 0))))] [.int (zI v), .int (zI (c * 7 + 3)), .ref (ad 11)] (wX ad (z_t K) μ) := by
    intro v μ hv hr
    have e0 := hr.1 0 (by decide)
    have e1 := hr.1 1 (by decide)
    have e2 := hr.1 2 (by decide)
    have e3 := hr.1 3 (by decide)
    have e4 := hr.1 4 (by decide)
    have e5 := hr.1 5 (by decide)
    have e6 := hr.1 6 (by decide)
    refine as_X11 C (z_d dtX3_chartStepsFrom_2 12 rfl) (by omega) ?_
    refine z_aload_n C (z_d dtX3_chartStepsFrom_2 13 rfl) rfl ?_
    refine gf_X3_40 C (z_d dtX3_chartStepsFrom_2 14 rfl) ?_
    refine z_iload_n C (z_d dtX3_chartStepsFrom_2 15 rfl) rfl ?_
    refine z_iconst C (z_d dtX3_chartStepsFrom_2 16 rfl) ?_
    refine z_iadd C (z_d dtX3_chartStepsFrom_2 17 rfl) ?_
    refine z_iload_n C (z_d dtX3_chartStepsFrom_2 18 rfl) rfl ?_
    refine z_aload_n C (z_d dtX3_chartStepsFrom_2 19 rfl) rfl ?_
    refine gf_X3_15 C (z_d dtX3_chartStepsFrom_2 20 rfl) ?_
    try simp (decide := true) only [zS_s, zS_o, zC, e0, e1, e2, e3, e4, e5, e6]
    refine z_iconst C (z_d dtX3_chartStepsFrom_2 21 rfl) ?_
    refine z_isub C (z_d dtX3_chartStepsFrom_2 22 rfl) ?_
    refine z_icmp_ge (tgt := 186) C (z_d dtX3_chartStepsFrom_2 23 rfl) (by decide) (by omega) (fun h_168 => ?_) (fun h_168 => ?_)
    · refine z_iconst C (z_d dtX3_chartStepsFrom_2 33 rfl) ?_
      exact jn_187 _ _ (by unfold zT4; first | rw [if_pos (by omega)] | rw [if_neg (by omega)]) (zRow_st hr (by omega) (by rw [hv]; simp [zTg]) (by omega))
    · refine z_aload_n C (z_d dtX3_chartStepsFrom_2 24 rfl) rfl ?_
      refine gf_X3_30 C (z_d dtX3_chartStepsFrom_2 25 rfl) ?_
      refine z_iload_n C (z_d dtX3_chartStepsFrom_2 26 rfl) rfl ?_
      refine al_X8 C (z_d dtX3_chartStepsFrom_2 27 rfl) (by omega) ?_
      try simp (decide := true) only [zS_s, zS_o, zC, e0, e1, e2, e3, e4, e5, e6]
      refine z_if_ne (tgt := 186) C (z_d dtX3_chartStepsFrom_2 28 rfl) (by decide) (by omega) (fun h_177 => ?_) (fun h_177 => ?_)
      · refine z_iconst C (z_d dtX3_chartStepsFrom_2 33 rfl) ?_
        exact jn_187 _ _ (by unfold zT4; first | rw [if_pos (by omega)] | rw [if_neg (by omega)]) (zRow_st hr (by omega) (by rw [hv]; simp [zTg]) (by omega))
      · refine z_iload_n C (z_d dtX3_chartStepsFrom_2 29 rfl) rfl ?_
        refine z_iconst C (z_d dtX3_chartStepsFrom_2 30 rfl) ?_
        refine z_iadd C (z_d dtX3_chartStepsFrom_2 31 rfl) ?_
        refine z_goto (tgt := 187) C (z_d dtX3_chartStepsFrom_2 32 rfl) (by decide) ?_
        exact jn_187 _ _ (by unfold zT4; first | rw [if_pos (by omega)] | rw [if_neg (by omega)]) (zRow_st hr (by omega) (by rw [hv]; simp [zTg]) (by omega))
  have jn_133 : ∀ (v : Int) (μ : zMem), (v = zT2 σ c) → (zRow μ σ (c * 7) c 2) → Gd K 0 0 133 [some (.ref (ad 1)), some (.int (zI c)), some (.int (zI (c * 7))), some (.int (zI (c % σ 1 0))), some (.int (zI (c / σ 1 0 % σ 2 0))), some (.int (zI (c / (σ 1 0 * σ 2 0)))), some (.int (zI (σ 6 (c / σ 1 0 % σ 2 0 * σ 1 0 + c % σ 1 0))))] [.int (zI v), .int (zI (c * 7 + 2)), .ref (ad 11)] (wX ad (z_t K) μ) := by
    intro v μ hv hr
    have e0 := hr.1 0 (by decide)
    have e1 := hr.1 1 (by decide)
    have e2 := hr.1 2 (by decide)
    have e3 := hr.1 3 (by decide)
    have e4 := hr.1 4 (by decide)
    have e5 := hr.1 5 (by decide)
    have e6 := hr.1 6 (by decide)
    refine as_X11 C (z_d dtX3_chartStepsFrom_2 0 rfl) (by omega) ?_
    refine z_aload_n C (z_d dtX3_chartStepsFrom_2 1 rfl) rfl ?_
    refine gf_X3_40 C (z_d dtX3_chartStepsFrom_2 2 rfl) ?_
    refine z_iload_n C (z_d dtX3_chartStepsFrom_2 3 rfl) rfl ?_
    refine z_iconst C (z_d dtX3_chartStepsFrom_2 4 rfl) ?_
    refine z_iadd C (z_d dtX3_chartStepsFrom_2 5 rfl) ?_
    refine z_aload_n C (z_d dtX3_chartStepsFrom_2 6 rfl) rfl ?_
    refine gf_X3_27 C (z_d dtX3_chartStepsFrom_2 7 rfl) ?_
    try simp (decide := true) only [zS_s, zS_o, zC, e0, e1, e2, e3, e4, e5, e6]
    refine z_if_le (tgt := 152) C (z_d dtX3_chartStepsFrom_2 8 rfl) (by decide) (by omega) (fun h_145 => ?_) (fun h_145 => ?_)
    · refine z_iconst C (z_d dtX3_chartStepsFrom_2 11 rfl) ?_
      exact jn_153 _ _ (by unfold zT3; first | rw [if_pos (by omega)] | rw [if_neg (by omega)]) (zRow_st hr (by omega) (by rw [hv]; simp [zTg]) (by omega))
    · refine z_iload_n C (z_d dtX3_chartStepsFrom_2 9 rfl) rfl ?_
      refine z_goto (tgt := 153) C (z_d dtX3_chartStepsFrom_2 10 rfl) (by decide) ?_
      exact jn_153 _ _ (by unfold zT3; first | rw [if_pos (by omega)] | rw [if_neg (by omega)]) (zRow_st hr (by omega) (by rw [hv]; simp [zTg]) (by omega))
  have jn_103 : ∀ (v : Int) (μ : zMem), (v = zT1 σ c) → (zRow μ σ (c * 7) c 1) → Gd K 0 0 103 [some (.ref (ad 1)), some (.int (zI c)), some (.int (zI (c * 7))), some (.int (zI (c % σ 1 0))), some (.int (zI (c / σ 1 0 % σ 2 0))), some (.int (zI (c / (σ 1 0 * σ 2 0)))), some (.int (zI (σ 6 (c / σ 1 0 % σ 2 0 * σ 1 0 + c % σ 1 0))))] [.int (zI v), .int (zI (c * 7 + 1)), .ref (ad 11)] (wX ad (z_t K) μ) := by
    intro v μ hv hr
    have e0 := hr.1 0 (by decide)
    have e1 := hr.1 1 (by decide)
    have e2 := hr.1 2 (by decide)
    have e3 := hr.1 3 (by decide)
    have e4 := hr.1 4 (by decide)
    have e5 := hr.1 5 (by decide)
    have e6 := hr.1 6 (by decide)
    refine as_X11 C (z_d dtX3_chartStepsFrom_1 20 rfl) (by omega) ?_
    refine z_aload_n C (z_d dtX3_chartStepsFrom_1 21 rfl) rfl ?_
    refine gf_X3_40 C (z_d dtX3_chartStepsFrom_1 22 rfl) ?_
    refine z_iload_n C (z_d dtX3_chartStepsFrom_1 23 rfl) rfl ?_
    refine z_iconst C (z_d dtX3_chartStepsFrom_1 24 rfl) ?_
    refine z_iadd C (z_d dtX3_chartStepsFrom_1 25 rfl) ?_
    refine z_iload_n C (z_d dtX3_chartStepsFrom_1 26 rfl) rfl ?_
    refine z_if_le (tgt := 132) C (z_d dtX3_chartStepsFrom_1 27 rfl) (by decide) (by omega) (fun h_112 => ?_) (fun h_112 => ?_)
    · refine z_iconst C (z_d dtX3_chartStepsFrom_1 39 rfl) ?_
      exact jn_133 _ _ (by unfold zT2; first | rw [if_pos (by omega)] | rw [if_neg (by omega)]) (zRow_st hr (by omega) (by rw [hv]; simp [zTg]) (by omega))
    · refine z_aload_n C (z_d dtX3_chartStepsFrom_1 28 rfl) rfl ?_
      refine gf_X3_30 C (z_d dtX3_chartStepsFrom_1 29 rfl) ?_
      refine z_iload_n C (z_d dtX3_chartStepsFrom_1 30 rfl) rfl ?_
      refine z_iconst C (z_d dtX3_chartStepsFrom_1 31 rfl) ?_
      refine z_isub C (z_d dtX3_chartStepsFrom_1 32 rfl) ?_
      refine al_X8 C (z_d dtX3_chartStepsFrom_1 33 rfl) (by omega) ?_
      try simp (decide := true) only [zS_s, zS_o, zC, e0, e1, e2, e3, e4, e5, e6]
      refine z_if_ne (tgt := 132) C (z_d dtX3_chartStepsFrom_1 34 rfl) (by decide) (by omega) (fun h_123 => ?_) (fun h_123 => ?_)
      · refine z_iconst C (z_d dtX3_chartStepsFrom_1 39 rfl) ?_
        exact jn_133 _ _ (by unfold zT2; first | rw [if_pos (by omega)] | rw [if_neg (by omega)]) (zRow_st hr (by omega) (by rw [hv]; simp [zTg]) (by omega))
      · refine z_iload_n C (z_d dtX3_chartStepsFrom_1 35 rfl) rfl ?_
        refine z_iconst C (z_d dtX3_chartStepsFrom_1 36 rfl) ?_
        refine z_isub C (z_d dtX3_chartStepsFrom_1 37 rfl) ?_
        refine z_goto (tgt := 133) C (z_d dtX3_chartStepsFrom_1 38 rfl) (by decide) ?_
        exact jn_133 _ _ (by unfold zT2; first | rw [if_pos (by omega)] | rw [if_neg (by omega)]) (zRow_st hr (by omega) (by rw [hv]; simp [zTg]) (by omega))
  have jn_66 : ∀ (v : Int) (μ : zMem), (v = zT0 σ c) → (zRow μ σ (c * 7) c 0) → Gd K 0 0 66 [some (.ref (ad 1)), some (.int (zI c)), some (.int (zI (c * 7))), some (.int (zI (c % σ 1 0))), some (.int (zI (c / σ 1 0 % σ 2 0))), some (.int (zI (c / (σ 1 0 * σ 2 0)))), some (.int (zI (σ 6 (c / σ 1 0 % σ 2 0 * σ 1 0 + c % σ 1 0))))] [.int (zI v), .int (zI (c * 7)), .ref (ad 11)] (wX ad (z_t K) μ) := by
    intro v μ hv hr
    have e0 := hr.1 0 (by decide)
    have e1 := hr.1 1 (by decide)
    have e2 := hr.1 2 (by decide)
    have e3 := hr.1 3 (by decide)
    have e4 := hr.1 4 (by decide)
    have e5 := hr.1 5 (by decide)
    have e6 := hr.1 6 (by decide)
    refine as_X11 C (z_d dtX3_chartStepsFrom_0 38 rfl) (by omega) ?_
    refine z_aload_n C (z_d dtX3_chartStepsFrom_0 39 rfl) rfl ?_
    refine gf_X3_40 C (z_d dtX3_chartStepsFrom_1 0 rfl) ?_
    refine z_iload_n C (z_d dtX3_chartStepsFrom_1 1 rfl) rfl ?_
    refine z_iconst C (z_d dtX3_chartStepsFrom_1 2 rfl) ?_
    refine z_iadd C (z_d dtX3_chartStepsFrom_1 3 rfl) ?_
    refine z_iload C (z_d dtX3_chartStepsFrom_1 4 rfl) rfl ?_
    refine z_if_le (tgt := 102) C (z_d dtX3_chartStepsFrom_1 5 rfl) (by decide) (by omega) (fun h_76 => ?_) (fun h_76 => ?_)
    · refine z_iconst C (z_d dtX3_chartStepsFrom_1 19 rfl) ?_
      exact jn_103 _ _ (by unfold zT1; first | rw [if_pos (by omega)] | rw [if_neg (by omega)]) (zRow_st hr (by omega) (by rw [hv]; simp [zTg]) (by omega))
    · refine z_aload_n C (z_d dtX3_chartStepsFrom_1 6 rfl) rfl ?_
      refine gf_X3_34 C (z_d dtX3_chartStepsFrom_1 7 rfl) ?_
      refine z_iload_n C (z_d dtX3_chartStepsFrom_1 8 rfl) rfl ?_
      refine z_aload_n C (z_d dtX3_chartStepsFrom_1 9 rfl) rfl ?_
      refine gf_X3_15 C (z_d dtX3_chartStepsFrom_1 10 rfl) ?_
      try simp (decide := true) only [zS_s, zS_o, zC, e0, e1, e2, e3, e4, e5, e6]
      refine z_isub C (z_d dtX3_chartStepsFrom_1 11 rfl) ?_
      refine al_X9 C (z_d dtX3_chartStepsFrom_1 12 rfl) (by omega) ?_
      try simp (decide := true) only [zS_s, zS_o, zC, e0, e1, e2, e3, e4, e5, e6]
      refine z_if_ne (tgt := 102) C (z_d dtX3_chartStepsFrom_1 13 rfl) (by decide) (by omega) (fun h_90 => ?_) (fun h_90 => ?_)
      · refine z_iconst C (z_d dtX3_chartStepsFrom_1 19 rfl) ?_
        exact jn_103 _ _ (by unfold zT1; first | rw [if_pos (by omega)] | rw [if_neg (by omega)]) (zRow_st hr (by omega) (by rw [hv]; simp [zTg]) (by omega))
      · refine z_iload_n C (z_d dtX3_chartStepsFrom_1 14 rfl) rfl ?_
        refine z_aload_n C (z_d dtX3_chartStepsFrom_1 15 rfl) rfl ?_
        refine gf_X3_15 C (z_d dtX3_chartStepsFrom_1 16 rfl) ?_
        try simp (decide := true) only [zS_s, zS_o, zC, e0, e1, e2, e3, e4, e5, e6]
        refine z_isub C (z_d dtX3_chartStepsFrom_1 17 rfl) ?_
        refine z_goto (tgt := 103) C (z_d dtX3_chartStepsFrom_1 18 rfl) (by decide) ?_
        exact jn_103 _ _ (by unfold zT1; first | rw [if_pos (by omega)] | rw [if_neg (by omega)]) (zRow_st hr (by omega) (by rw [hv]; simp [zTg]) (by omega))
  refine z_aload_n C (z_d dtX3_chartStepsFrom_0 22 rfl) rfl ?_
  refine gf_X3_40 C (z_d dtX3_chartStepsFrom_0 23 rfl) ?_
  refine z_iload_n C (z_d dtX3_chartStepsFrom_0 24 rfl) rfl ?_
  refine z_iload C (z_d dtX3_chartStepsFrom_0 25 rfl) rfl ?_
  refine z_if_eq (tgt := 65) C (z_d dtX3_chartStepsFrom_0 26 rfl) (by decide) (by omega) (fun h_43 => ?_) (fun h_43 => ?_)
  · refine z_iconst C (z_d dtX3_chartStepsFrom_0 37 rfl) ?_
    exact jn_66 _ _ (by unfold zT0; first | rw [if_pos (by omega)] | rw [if_neg (by omega)]) ⟨zE_rf, fun j h0 h1 => absurd h1 (by omega), fun _ _ => rfl⟩
  · refine z_iload C (z_d dtX3_chartStepsFrom_0 27 rfl) rfl ?_
    refine z_if_le (tgt := 65) C (z_d dtX3_chartStepsFrom_0 28 rfl) (by decide) (by omega) (fun h_48 => ?_) (fun h_48 => ?_)
    · refine z_iconst C (z_d dtX3_chartStepsFrom_0 37 rfl) ?_
      exact jn_66 _ _ (by unfold zT0; first | rw [if_pos (by omega)] | rw [if_neg (by omega)]) ⟨zE_rf, fun j h0 h1 => absurd h1 (by omega), fun _ _ => rfl⟩
    · refine z_iload_n C (z_d dtX3_chartStepsFrom_0 29 rfl) rfl ?_
      refine z_aload_n C (z_d dtX3_chartStepsFrom_0 30 rfl) rfl ?_
      refine gf_X3_15 C (z_d dtX3_chartStepsFrom_0 31 rfl) ?_
      try simp (decide := true) only [zS_s, zS_o, zC, e0, e1, e2, e3, e4, e5, e6]
      refine z_aload_n C (z_d dtX3_chartStepsFrom_0 32 rfl) rfl ?_
      refine gf_X3_18 C (z_d dtX3_chartStepsFrom_0 33 rfl) ?_
      try simp (decide := true) only [zS_s, zS_o, zC, e0, e1, e2, e3, e4, e5, e6]
      refine z_imul C (z_d dtX3_chartStepsFrom_0 34 rfl) ?_
      refine z_isub C (z_d dtX3_chartStepsFrom_0 35 rfl) ?_
      refine z_goto (tgt := 66) C (z_d dtX3_chartStepsFrom_0 36 rfl) (by decide) ?_
      exact jn_66 _ _ (by unfold zT0; first | rw [if_pos (by omega)] | rw [if_neg (by omega)]) ⟨zE_rf, fun j h0 h1 => absurd h1 (by omega), fun _ _ => rfl⟩
end
section
/-! Arrays.fill; the sheets' items -/
theorem z_iastG {K : z_KT} {cc : ByteArray} {own : String} {nL cells slots pc : Nat} {L : List (Option Value)} {rest : List Value} {ws : va_W} (C : Fc K cc own nL) {a n : Nat} {f : Nat → Int32} {i : Int} {x : Int32} (d : decode cc pc = .ok (.iastore, 1)) (q0 : Nat) (ha : ws[q0]? = some (a, .inl (z_t K 0, n, .inl f))) (hi : 0 ≤ i ∧ i < n) (hn : n < 2147483648) (k : Gd K cells slots (pc + 1) L rest (ws.set q0 (a, .inl (z_t K 0, n, .inl (upd f i.toNat x))))) : Gd K cells slots pc L (.int x :: .int (zI i) :: .ref a :: rest) ws := by
  obtain ⟨p, l, e, R, s, m, args, below, meth, c, A, H0, Q, D, t⟩ := K
  obtain ⟨hx, hb, hml, ho, hts, hK, hA⟩ := C
  intro H locs ls hP hD hS hl
  refine va_iast hx hb hK hP hD hS q0 0 ha rfl (zI_in hi.1 hi.2 hn) d fun H1 locs1 hP hD hS => ?_
  rw [zI_clamp hi.1 (by omega)] at hP hD
  exact k H1 locs1 ls hP hD hS hl
theorem z_lastG {K : z_KT} {cc : ByteArray} {own : String} {nL cells slots pc : Nat} {L : List (Option Value)} {rest : List Value} {ws : va_W} (C : Fc K cc own nL) {a n : Nat} {f : Nat → Int64} {i : Int} {x : Int64} (d : decode cc pc = .ok (.lastore, 1)) (q0 : Nat) (ha : ws[q0]? = some (a, .inl (z_t K 1, n, .inr (.inl f)))) (hi : 0 ≤ i ∧ i < n) (hn : n < 2147483648) (k : Gd K cells slots (pc + 1) L rest (ws.set q0 (a, .inl (z_t K 1, n, .inr (.inl (vp_updL f i.toNat x)))))) : Gd K cells slots pc L (.long x :: .int (zI i) :: .ref a :: rest) ws := by
  obtain ⟨p, l, e, R, s, m, args, below, meth, c, A, H0, Q, D, t⟩ := K
  obtain ⟨hx, hb, hml, ho, hts, hK, hA⟩ := C
  intro H locs ls hP hD hS hl
  refine va_last hx hb hK hP hD hS q0 1 ha rfl (zI_in hi.1 hi.2 hn) d fun H1 locs1 hP hD hS => ?_
  rw [zI_clamp hi.1 (by omega)] at hP hD
  exact k H1 locs1 ls hP hD hS hl
set_option maxRecDepth 100000 in
set_option maxHeartbeats 4000000 in
theorem k_fillI {l : Launch} {D : va_G} {t : Nat → ClassId} {ws : va_W} {a n : Nat} {f : Nat → Int32} {v : Int} (q0 : Nat) (ha : ws[q0]? = some (a, .inl (t 0, n, .inl f))) (hn : n < 2147483648) : z_Cv l D t yJ7_fill_53178 cJ7_fill_53178 4 0 0 0 0 [.ref a, .int (zI v)] ws (fun w => w = ws.set q0 (a, .inl (t 0, n, .inl (fun _ : Nat => zI v)))) := by
  refine z_Cv_of (by decide +kernel) [some (.ref a), some (.int (zI v)), none, none] rfl rfl (Nat.le_of_ble_eq_true rfl) fun K hl hD ht hR hn2 C ret => ?_
  subst hl; subst hD; subst ht
  have hq : q0 < ws.length := (List.getElem?_eq_some_iff.mp ha).1
  refine z_iconst C (z_d dtJ7_fill_53178_0 0 rfl) ?_
  refine z_istore_n2 C (z_d dtJ7_fill_53178_0 1 rfl) rfl ?_
  refine z_aload_n C (z_d dtJ7_fill_53178_0 2 rfl) rfl ?_
  refine z_alen (tx := 0) (ty := .int) C (z_d dtJ7_fill_53178_0 3 rfl) q0 ha rfl ?_
  refine z_istore_n3 C (z_d dtJ7_fill_53178_0 4 rfl) rfl ?_
  have lp : ∀ (N i : Nat) (G : Nat → Int32), i ≤ n → (∀ j, j < i → G j = zI v) → n - i < N → Gd K 0 0 5 [some (.ref a), some (.int (zI v)), some (.int (zI i)), some (.int (zI n))] [] (ws.set q0 (a, .inl (z_t K 0, n, .inl G))) := by
    intro N
    induction N with
    | zero => intro i G h1 h2 h3; exact absurd h3 (Nat.not_lt_zero _)
    | succ N ih =>
      intro i G h1 h2 h3
      refine z_iload_n C (z_d dtJ7_fill_53178_0 5 rfl) rfl ?_
      refine z_iload_n C (z_d dtJ7_fill_53178_0 6 rfl) rfl ?_
      refine z_icmp_ge (tgt := 20) C (z_d dtJ7_fill_53178_0 7 rfl) (by decide) (by omega) (fun h => ?_) (fun h => ?_)
      · refine z_arr (f' := fun _ => zI v) q0 (List.getElem?_set_self hq) (fun j hj => h2 j (by omega)) ?_
        exact ret _ _ _ (z_d dtJ7_fill_53178_0 14 rfl) (by rw [List.set_set])
      · refine z_aload_n C (z_d dtJ7_fill_53178_0 8 rfl) rfl ?_
        refine z_iload_n C (z_d dtJ7_fill_53178_0 9 rfl) rfl ?_
        refine z_iload_n C (z_d dtJ7_fill_53178_0 10 rfl) rfl ?_
        refine z_iastG C (z_d dtJ7_fill_53178_0 11 rfl) q0 (List.getElem?_set_self hq) (by omega) hn ?_
        refine z_iinc2 C (z_d dtJ7_fill_53178_0 12 rfl) rfl ?_
        refine z_goto (tgt := 5) C (z_d dtJ7_fill_53178_0 13 rfl) (by decide) ?_
        rw [List.set_set]
        refine ih (i + 1) _ (by omega) (fun j hj => ?_) (by omega)
        show (if j = (i : Int).toNat then zI v else G j) = zI v
        by_cases e : j = (i : Int).toNat
        · rw [if_pos e]
        · rw [if_neg e]; exact h2 j (by omega)
  have h0 : ws = ws.set q0 (a, .inl (z_t K 0, n, .inl f)) := by
    obtain ⟨hh, ee⟩ := List.getElem?_eq_some_iff.mp ha
    rw [← ee]
    exact (List.set_getElem_self hh).symm
  rw [h0]
  refine lp _ 0 f (Nat.zero_le _) (fun j hj => absurd hj (Nat.not_lt_zero _)) (Nat.lt_succ_self _)
set_option maxRecDepth 100000 in
set_option maxHeartbeats 4000000 in
theorem k_fillL {l : Launch} {D : va_G} {t : Nat → ClassId} {ws : va_W} {a n : Nat} {f : Nat → Int64} {v : Int} (q0 : Nat) (ha : ws[q0]? = some (a, .inl (t 1, n, .inr (.inl f)))) (hn : n < 2147483648) : z_Cv l D t yJ7_fill_d0a16 cJ7_fill_d0a16 5 0 0 0 0 [.ref a, .long (zL v)] ws (fun w => w = ws.set q0 (a, .inl (t 1, n, .inr (.inl (fun _ : Nat => zL v))))) := by
  refine z_Cv_of (by decide +kernel) [some (.ref a), some (.long (zL v)), none, none, none] rfl rfl (Nat.le_of_ble_eq_true rfl) fun K hl hD ht hR hn2 C ret => ?_
  subst hl; subst hD; subst ht
  have hq : q0 < ws.length := (List.getElem?_eq_some_iff.mp ha).1
  refine z_iconst C (z_d dtJ7_fill_d0a16_0 0 rfl) ?_
  refine z_istore_n3 C (z_d dtJ7_fill_d0a16_0 1 rfl) rfl ?_
  refine z_aload_n C (z_d dtJ7_fill_d0a16_0 2 rfl) rfl ?_
  refine z_alen (tx := 1) (ty := .long) C (z_d dtJ7_fill_d0a16_0 3 rfl) q0 ha rfl ?_
  refine z_istore4 C (z_d dtJ7_fill_d0a16_0 4 rfl) rfl ?_
  have lp : ∀ (N i : Nat) (G : Nat → Int64), i ≤ n → (∀ j, j < i → G j = zL v) → n - i < N → Gd K 0 0 6 [some (.ref a), some (.long (zL v)), none, some (.int (zI i)), some (.int (zI n))] [] (ws.set q0 (a, .inl (z_t K 1, n, .inr (.inl G)))) := by
    intro N
    induction N with
    | zero => intro i G h1 h2 h3; exact absurd h3 (Nat.not_lt_zero _)
    | succ N ih =>
      intro i G h1 h2 h3
      refine z_iload_n C (z_d dtJ7_fill_d0a16_0 5 rfl) rfl ?_
      refine z_iload C (z_d dtJ7_fill_d0a16_0 6 rfl) rfl ?_
      refine z_icmp_ge (tgt := 22) C (z_d dtJ7_fill_d0a16_0 7 rfl) (by decide) (by omega) (fun h => ?_) (fun h => ?_)
      · refine z_arrL (f' := fun _ => zL v) q0 (List.getElem?_set_self hq) (fun j hj => h2 j (by omega)) ?_
        exact ret _ _ _ (z_d dtJ7_fill_d0a16_0 14 rfl) (by rw [List.set_set])
      · refine z_aload_n C (z_d dtJ7_fill_d0a16_0 8 rfl) rfl ?_
        refine z_iload_n C (z_d dtJ7_fill_d0a16_0 9 rfl) rfl ?_
        refine z_lload_n C (z_d dtJ7_fill_d0a16_0 10 rfl) rfl ?_
        refine z_lastG C (z_d dtJ7_fill_d0a16_0 11 rfl) q0 (List.getElem?_set_self hq) (by omega) hn ?_
        refine z_iinc3 C (z_d dtJ7_fill_d0a16_0 12 rfl) rfl ?_
        refine z_goto (tgt := 6) C (z_d dtJ7_fill_d0a16_0 13 rfl) (by decide) ?_
        rw [List.set_set]
        refine ih (i + 1) _ (by omega) (fun j hj => ?_) (by omega)
        show (if j = (i : Int).toNat then zL v else G j) = zL v
        by_cases e : j = (i : Int).toNat
        · rw [if_pos e]
        · rw [if_neg e]; exact h2 j (by omega)
  have h0 : ws = ws.set q0 (a, .inl (z_t K 1, n, .inr (.inl f))) := by
    obtain ⟨hh, ee⟩ := List.getElem?_eq_some_iff.mp ha
    rw [← ee]
    exact (List.set_getElem_self hh).symm
  rw [h0]
  refine lp _ 0 f (Nat.zero_le _) (fun j hj => absurd hj (Nat.not_lt_zero _)) (Nat.lt_succ_self _)
theorem kf_X12 {l : Launch} {D : va_G} {t : Nat → ClassId} {ad : Nat → Nat} {σ : zMem} {v : Int} : z_Cv l D t yJ7_fill_53178 cJ7_fill_53178 4 0 0 0 0 [.ref (ad 12), .int (zI v)] (wX ad t σ) (fun w => w = wX ad t (zS σ 34 (zC v))) := k_fillI (n := 72) 12 rfl (by decide)
theorem kf_X14 {l : Launch} {D : va_G} {t : Nat → ClassId} {ad : Nat → Nat} {σ : zMem} {v : Int} : z_Cv l D t yJ7_fill_53178 cJ7_fill_53178 4 0 0 0 0 [.ref (ad 14), .int (zI v)] (wX ad t σ) (fun w => w = wX ad t (zS σ 8 (zC v))) := k_fillI (n := 6336) 14 rfl (by decide)
theorem kf_X15 {l : Launch} {D : va_G} {t : Nat → ClassId} {ad : Nat → Nat} {σ : zMem} {v : Int} : z_Cv l D t yJ7_fill_53178 cJ7_fill_53178 4 0 0 0 0 [.ref (ad 15), .int (zI v)] (wX ad t σ) (fun w => w = wX ad t (zS σ 9 (zC v))) := k_fillI (n := 72) 15 rfl (by decide)
theorem kf_X16 {l : Launch} {D : va_G} {t : Nat → ClassId} {ad : Nat → Nat} {σ : zMem} {v : Int} : z_Cv l D t yJ7_fill_d0a16 cJ7_fill_d0a16 5 0 0 0 0 [.ref (ad 16), .long (zL v)] (wX ad t σ) (fun w => w = wX ad t (zS σ 37 (zC v))) := k_fillL (n := 72) 16 rfl (by decide)
theorem kf_X20 {l : Launch} {D : va_G} {t : Nat → ClassId} {ad : Nat → Nat} {σ : zMem} {v : Int} : z_Cv l D t yJ7_fill_53178 cJ7_fill_53178 4 0 0 0 0 [.ref (ad 20), .int (zI v)] (wX ad t σ) (fun w => w = wX ad t (zS σ 10 (zC v))) := k_fillI (n := 20) 20 rfl (by decide)
/-- one sheet's items change, the others' stay -/
theorem z_items {K : z_KT} {cells slots pc : Nat} {L : List (Option Value)} {st : List Value} {ad : Nat → Nat} {σ : zMem} {z : Int} (hz : 0 ≤ z ∧ z < 4) {f : Nat → Int32} (G : Int → Int) (h1 : ∀ j : Nat, j < 240 → f j = zI (G (240 * z + j))) (h2 : ∀ i, 0 ≤ i → (i < 240 * z ∨ 240 * z + 240 ≤ i) → G i = σ 20 i) (k : Gd K cells slots pc L st (wX ad (z_t K) (zS σ 20 G))) : Gd K cells slots pc L st ((wX ad (z_t K) σ).set (26 + z.toNat) (ad (26 + z.toNat), .inl (z_t K 0, 240, .inl f))) := by
  have key : ∀ (y : Int), 0 ≤ y ∧ y < 4 → ¬ y = z → ∀ j : Nat, j < 240 → zI (σ 20 (240 * y + j)) = zI (G (240 * y + j)) := fun y hy hne j hj => by
    rw [h2 (240 * y + j) (by omega) (by omega)]
  rcases (show z = 0 ∨ z = 1 ∨ z = 2 ∨ z = 3 by omega) with rfl | rfl | rfl | rfl
  · refine z_arr (f' := fun j : Nat => zI (G (240 * 0 + j))) 26 rfl h1 ?_
    refine z_arr (f' := fun j : Nat => zI (G (240 * 1 + j))) 27 rfl (key 1 (by omega) (by omega)) ?_
    refine z_arr (f' := fun j : Nat => zI (G (240 * 2 + j))) 28 rfl (key 2 (by omega) (by omega)) ?_
    refine z_arr (f' := fun j : Nat => zI (G (240 * 3 + j))) 29 rfl (key 3 (by omega) (by omega)) ?_
    exact k
  · refine z_arr (f' := fun j : Nat => zI (G (240 * 0 + j))) 26 rfl (key 0 (by omega) (by omega)) ?_
    refine z_arr (f' := fun j : Nat => zI (G (240 * 1 + j))) 27 rfl h1 ?_
    refine z_arr (f' := fun j : Nat => zI (G (240 * 2 + j))) 28 rfl (key 2 (by omega) (by omega)) ?_
    refine z_arr (f' := fun j : Nat => zI (G (240 * 3 + j))) 29 rfl (key 3 (by omega) (by omega)) ?_
    exact k
  · refine z_arr (f' := fun j : Nat => zI (G (240 * 0 + j))) 26 rfl (key 0 (by omega) (by omega)) ?_
    refine z_arr (f' := fun j : Nat => zI (G (240 * 1 + j))) 27 rfl (key 1 (by omega) (by omega)) ?_
    refine z_arr (f' := fun j : Nat => zI (G (240 * 2 + j))) 28 rfl h1 ?_
    refine z_arr (f' := fun j : Nat => zI (G (240 * 3 + j))) 29 rfl (key 3 (by omega) (by omega)) ?_
    exact k
  · refine z_arr (f' := fun j : Nat => zI (G (240 * 0 + j))) 26 rfl (key 0 (by omega) (by omega)) ?_
    refine z_arr (f' := fun j : Nat => zI (G (240 * 1 + j))) 27 rfl (key 1 (by omega) (by omega)) ?_
    refine z_arr (f' := fun j : Nat => zI (G (240 * 2 + j))) 28 rfl (key 2 (by omega) (by omega)) ?_
    refine z_arr (f' := fun j : Nat => zI (G (240 * 3 + j))) 29 rfl h1 ?_
    exact k
theorem as_Xsi {K : z_KT} {cc : ByteArray} {own : String} {nL cells slots pc : Nat} {L : List (Option Value)} {rest : List Value} {ad : Nat → Nat} {σ : zMem} (C : Fc K cc own nL) {z i x : Int} (hz : 0 ≤ z ∧ z < 4) (d : decode cc pc = .ok (.iastore, 1)) (hi : 0 ≤ i ∧ i < 240) (k : Gd K cells slots (pc + 1) L rest (wX ad (z_t K) (zS σ 20 (zU (σ 20) (240 * z + i) x)))) : Gd K cells slots pc L (.int (zI x) :: .int (zI i) :: .ref (ad (26 + z.toNat)) :: rest) (wX ad (z_t K) σ) := by
  refine z_iast C (F := fun j => σ 20 (240 * z + j)) d (26 + z.toNat) (wX_si hz) hi (by decide) ?_
  refine z_items hz (zU (σ 20) (240 * z + i) x) (fun j hj => ?_) (fun j h0 hj => zU_n (by omega)) k
  show zI (if (j : Int) = i then x else σ 20 (240 * z + j)) = zI (if 240 * z + (j : Int) = 240 * z + i then x else σ 20 (240 * z + j))
  by_cases e : (j : Int) = i
  · rw [if_pos e, if_pos (by omega)]
  · rw [if_neg e, if_neg (by omega)]
end
section
/-! THE HOUSE: writes; the sheets; the map -/
def zKw (σ : zMem) (a b : Int) : Nat := if a / σ 1 0 % σ 2 0 = b / σ 1 0 % σ 2 0 then 4 else 5
def zPre (μ σ : zMem) (i : Int) : Prop := zE μ σ [33] ∧ ∀ c, 0 ≤ c → c < i → ∀ d, 0 ≤ d → d < 7 → μ 33 (c * 7 + d) = zTg σ c d
theorem zPre_st {μ ν σ : zMem} {i i1 : Int} (h : zPre μ σ i) (hr : zRow ν μ (i * 7) i 7) (hi : 0 ≤ i ∧ i1 = i + 1) : zPre ν σ i1 := by
  refine ⟨zE_tr hr.1 h.1, fun c h0 h1 d g0 g1 => ?_⟩
  by_cases e : c = i
  · subst e
    rw [hr.2.1 d g0 g1, zTg_E h.1]
  · rw [hr.2.2 _ (by omega), h.2 c h0 (by omega) d g0 g1]
theorem zBo_E {μ σ : zMem} {l : List Nat} {k : Nat} (h : zE μ σ l) (hk : k ∉ l := by decide) (hb : zBo σ k) : zBo μ k := by
  unfold zBo
  rw [h k hk]
  exact hb
theorem zBo_C {σ : zMem} {k : Nat} {v : Int} (h : σ k = zC v) (hv : v = 0 ∨ v = 1) : zBo σ k := fun i => by
  rw [h]; exact hv
theorem zPlace {σ : zMem} (hw : zHw σ) {x y : Int} (hx : 0 ≤ x ∧ x < σ 1 0) (hy : 0 ≤ y ∧ y < σ 2 0) : 0 ≤ y * σ 1 0 + x ∧ y * σ 1 0 + x < 36 := by
  have hwh := zHw_wh hw
  have hW := hw
  unfold zHw at hW
  have m3 : y * σ 1 0 ≤ (σ 2 0 - 1) * σ 1 0 := Int.mul_le_mul_of_nonneg_right (by omega) (by omega)
  have m4 : 0 ≤ y * σ 1 0 := Int.mul_nonneg hy.1 (by omega)
  rw [Int.sub_mul, Int.one_mul, Int.mul_comm (σ 2 0)] at m3
  omega

set_option maxRecDepth 100000 in
set_option maxHeartbeats 4000000 in
theorem k_X3_chartSteps {l : Launch} {D : va_G} {t : Nat → ClassId} {ad : Nat → Nat} {σ : zMem}  (hw : zHw σ) (hs : 0 ≤ σ 3 0 ∧ σ 3 0 ≤ 9) (h4 : zBo σ 4) (h5 : zBo σ 5) (h6 : zBo σ 6) : z_Cv l D t yX3_chartSteps cX3_chartSteps 2 2 47 0 0 [.ref (ad 1)] (wX ad t σ) (fun w => ∃ σ', w = wX ad t σ' ∧ zE σ' σ [33] ∧ zTb σ') := by
  refine z_Cv_of (by decide +kernel) [some (.ref (ad 1)), none] rfl rfl (Nat.le_of_ble_eq_true rfl) fun K hl hD ht hR hn C ret => ?_
  subst hl; subst hD; subst ht
  have hN := zHw_N hw
  refine z_iconst C (z_d dtX3_chartSteps_0 0 rfl) ?_
  refine z_istore_n1 C (z_d dtX3_chartSteps_0 1 rfl) rfl ?_
  have lp_2 : ∀ (N_2 : Nat) (c : Int) (μ : zMem), (0 ≤ c ∧ c ≤ zN σ) → (zPre μ σ c) → (zN σ - c).toNat < N_2 → Gd K 0 0 2 [some (.ref (ad 1)), some (.int (zI c))] [] (wX ad (z_t K) μ) := by
    intro N_2
    induction N_2 with
    | zero => intro c μ hc hp hm_2; exact absurd hm_2 (Nat.not_lt_zero _)
    | succ N_2 ih_2 =>
      intro c μ hc hp hm_2
      have eN := zN_E hp.1 (by decide) (by decide) (by decide)
      have hw2 := zHw_E hp.1 (by decide) (by decide) (by decide) hw
      have e3 := hp.1 3 (by decide)
      refine z_iload_n C (z_d dtX3_chartSteps_0 2 rfl) rfl ?_
      refine z_aload_n C (z_d dtX3_chartSteps_0 3 rfl) rfl ?_
      refine z_callV C (z_d dtX3_chartSteps_0 4 rfl) (k_X3_cells  ) cal_X3_cells gw_5_5 rfl 1 3 rfl rfl rfl rfl hR ⟨rfl, rfl, rfl, rfl⟩ rfl (fun r_4 w_4 h_4 => ?_)
      obtain ⟨rfl, rfl⟩ := h_4
      refine z_icmp_ge (tgt := 25) C (z_d dtX3_chartSteps_0 5 rfl) (by decide) (by omega) (fun h_7 => ?_) (fun h_7 => ?_)
      · exact ret _ _ _ (z_d dtX3_chartSteps_0 14 rfl) (⟨_, rfl, hp.1, fun c h0 h1 d g0 g1 => by rw [hp.2 c h0 (by have := eN; omega) d g0 g1, zTg_E hp.1]⟩)
      · refine z_aload_n C (z_d dtX3_chartSteps_0 6 rfl) rfl ?_
        refine z_iload_n C (z_d dtX3_chartSteps_0 7 rfl) rfl ?_
        refine z_iload_n C (z_d dtX3_chartSteps_0 8 rfl) rfl ?_
        refine z_bipush C (z_d dtX3_chartSteps_0 9 rfl) zb_7 ?_
        refine z_imul C (z_d dtX3_chartSteps_0 10 rfl) ?_
        refine z_callVv C (z_d dtX3_chartSteps_0 11 rfl) (k_X3_chartStepsFrom  hw2 (by omega) (by rw [e3]; exact hs) (zBo_E hp.1 (by decide) h4) (zBo_E hp.1 (by decide) h5) (zBo_E hp.1 (by decide) h6)) cal_X3_chartStepsFrom gw_5_9 rfl 1 3 rfl rfl rfl rfl hR ⟨rfl, rfl, rfl, rfl⟩ rfl (fun w_16 h_16 => ?_)
        obtain ⟨σ_16, rfl, h_16⟩ := h_16
        refine z_iinc1 C (z_d dtX3_chartSteps_0 12 rfl) rfl ?_
        refine z_goto (tgt := 2) C (z_d dtX3_chartSteps_0 13 rfl) (by decide) ?_
        exact ih_2 _ _ (by omega) (zPre_st hp h_16 (by omega)) (by omega)
  exact lp_2 _ _ _ (by omega) ⟨zE_rf, fun c h0 h1 => absurd h1 (by omega)⟩ (Nat.lt_succ_self _)

set_option maxRecDepth 100000 in
set_option maxHeartbeats 4000000 in
theorem k_X3_raise {l : Launch} {D : va_G} {t : Nat → ClassId} {ad : Nat → Nat} {σ : zMem} {f x y : Int} (hf : (1 ≤ f ∧ f ≤ 3) ∧ (1 ≤ x ∧ x ≤ 6) ∧ (1 ≤ y ∧ y ≤ 6) ∧ f * x * y ≤ 72) (hs : 0 ≤ σ 3 0 ∧ σ 3 0 ≤ 9) : z_Cv l D t yX3_raise cX3_raise 5 3 68 0 0 [.ref (ad 1), .int (zI f), .int (zI x), .int (zI y)] (wX ad t σ) (fun w => ∃ σ', w = wX ad t σ' ∧ zE σ' σ [0, 1, 2, 4, 5, 6, 31, 32, 33] ∧ σ' 0 = zC f ∧ σ' 1 = zC x ∧ σ' 2 = zC y ∧ σ' 31 = zC 0 ∧ σ' 32 = zC 0 ∧ σ' 4 = zC 0 ∧ σ' 5 = zC 0 ∧ σ' 6 = zC 0 ∧ zTb σ') := by
  refine z_Cv_of (by decide +kernel) [some (.ref (ad 1)), some (.int (zI f)), some (.int (zI x)), some (.int (zI y)), none] rfl rfl (Nat.le_of_ble_eq_true rfl) fun K hl hD ht hR hn C ret => ?_
  subst hl; subst hD; subst ht
  refine z_aload_n C (z_d dtX3_raise_0 0 rfl) rfl ?_
  refine z_iload_n C (z_d dtX3_raise_0 1 rfl) rfl ?_
  refine pf_X3_9 C (z_d dtX3_raise_0 2 rfl) ?_
  refine z_aload_n C (z_d dtX3_raise_0 3 rfl) rfl ?_
  refine z_iload_n C (z_d dtX3_raise_0 4 rfl) rfl ?_
  refine pf_X3_15 C (z_d dtX3_raise_0 5 rfl) ?_
  refine z_aload_n C (z_d dtX3_raise_0 6 rfl) rfl ?_
  refine z_iload_n C (z_d dtX3_raise_0 7 rfl) rfl ?_
  refine pf_X3_18 C (z_d dtX3_raise_0 8 rfl) ?_
  refine z_aload_n C (z_d dtX3_raise_0 9 rfl) rfl ?_
  refine z_iconst C (z_d dtX3_raise_0 10 rfl) ?_
  refine pf_X3_21 C (z_d dtX3_raise_0 11 rfl) ?_
  refine z_aload_n C (z_d dtX3_raise_0 12 rfl) rfl ?_
  refine z_iconst C (z_d dtX3_raise_0 13 rfl) ?_
  refine pf_X3_24 C (z_d dtX3_raise_0 14 rfl) ?_
  refine z_iconst C (z_d dtX3_raise_0 15 rfl) ?_
  refine z_istore4 C (z_d dtX3_raise_0 16 rfl) rfl ?_
  have lp_28 : ∀ (N_28 : Nat) (i : Int) (μ : zMem), (0 ≤ i ∧ i ≤ 72) → (zE μ σ [0, 1, 2, 4, 5, 6, 31, 32]) → (μ 0 = zC f ∧ μ 1 = zC x ∧ μ 2 = zC y ∧ μ 31 = zC 0 ∧ μ 32 = zC 0 ∧ ∀ j, 0 ≤ j → j < i → μ 4 j = 0 ∧ μ 5 j = 0) → (72 - i).toNat < N_28 → Gd K 0 0 28 [some (.ref (ad 1)), some (.int (zI f)), some (.int (zI x)), some (.int (zI y)), some (.int (zI i))] [] (wX ad (z_t K) μ) := by
    intro N_28
    induction N_28 with
    | zero => intro i μ hi hE hm hm_28; exact absurd hm_28 (Nat.not_lt_zero _)
    | succ N_28 ih_28 =>
      intro i μ hi hE hm hm_28
      refine z_iload C (z_d dtX3_raise_0 17 rfl) rfl ?_
      refine z_bipush C (z_d dtX3_raise_0 18 rfl) zb_72 ?_
      refine z_icmp_ge (tgt := 57) C (z_d dtX3_raise_0 19 rfl) (by decide) (by omega) (fun h_32 => ?_) (fun h_32 => ?_)
      · refine z_iconst C (z_d dtX3_raise_0 32 rfl) ?_
        refine z_istore4 C (z_d dtX3_raise_0 33 rfl) rfl ?_
        refine zx_X8 (zC 0) (fun j h0 h1 => (hm.2.2.2.2.2 j h0 (by omega)).1) ?_
        refine zx_X9 (zC 0) (fun j h0 h1 => (hm.2.2.2.2.2 j h0 (by omega)).2) ?_
        have lp_60 : ∀ (N_60 : Nat) (i : Int) (μ : zMem), (0 ≤ i ∧ i ≤ 36) → (zE μ σ [0, 1, 2, 4, 5, 6, 31, 32]) → (μ 0 = zC f ∧ μ 1 = zC x ∧ μ 2 = zC y ∧ μ 31 = zC 0 ∧ μ 32 = zC 0 ∧ μ 4 = zC 0 ∧ μ 5 = zC 0 ∧ ∀ j, 0 ≤ j → j < i → μ 6 j = 0) → (36 - i).toNat < N_60 → Gd K 0 0 60 [some (.ref (ad 1)), some (.int (zI f)), some (.int (zI x)), some (.int (zI y)), some (.int (zI i))] [] (wX ad (z_t K) μ) := by
          intro N_60
          induction N_60 with
          | zero => intro i μ hi hE hm hm_60; exact absurd hm_60 (Nat.not_lt_zero _)
          | succ N_60 ih_60 =>
            intro i μ hi hE hm hm_60
            refine z_iload C (z_d dtX3_raise_0 34 rfl) rfl ?_
            refine z_bipush C (z_d dtX3_raise_0 35 rfl) zb_36 ?_
            refine z_icmp_ge (tgt := 81) C (z_d dtX3_raise_0 36 rfl) (by decide) (by omega) (fun h_64 => ?_) (fun h_64 => ?_)
            · refine zx_X10 (zC 0) (fun j h0 h1 => hm.2.2.2.2.2.2.2 j h0 (by omega)) ?_
              have k0 : (zS μ 6 (zC 0)) 0 = zC f := hm.1
              have k1 : (zS μ 6 (zC 0)) 1 = zC x := hm.2.1
              have k2 : (zS μ 6 (zC 0)) 2 = zC y := hm.2.2.1
              have hE2 := zE_set (F := zC 0) hE (show 6 ∈ _ by decide)
              have hw2 : zHw (zS μ 6 (zC 0)) := by
                unfold zHw zN
                rw [k0, k1, k2]
                exact hf
              refine z_aload_n C (z_d dtX3_raise_1 4 rfl) rfl ?_
              refine z_callVv C (z_d dtX3_raise_1 5 rfl) (k_X3_chartSteps  hw2 (by rw [hE2 3 (by decide)]; exact hs) (zBo_C (v := 0) (by exact hm.2.2.2.2.2.1) (Or.inl rfl)) (zBo_C (v := 0) (by exact hm.2.2.2.2.2.2.1) (Or.inl rfl)) (zBo_C (v := 0) rfl (Or.inl rfl))) cal_X3_chartSteps gw_5_1 rfl 1 3 rfl rfl rfl rfl hR ⟨rfl, rfl, rfl, rfl⟩ rfl (fun w_82 h_82 => ?_)
              obtain ⟨σ_82, rfl, hE_82, hT_82⟩ := h_82
              exact ret _ _ _ (z_d dtX3_raise_1 6 rfl) (⟨_, rfl, zE_tr (zE_mo hE_82 (by decide)) (zE_mo hE2 (by decide)), (hE_82 0 (by decide)).trans k0, (hE_82 1 (by decide)).trans k1, (hE_82 2 (by decide)).trans k2, (hE_82 31 (by decide)).trans hm.2.2.2.1, (hE_82 32 (by decide)).trans hm.2.2.2.2.1, (hE_82 4 (by decide)).trans hm.2.2.2.2.2.1, (hE_82 5 (by decide)).trans hm.2.2.2.2.2.2.1, (hE_82 6 (by decide)), hT_82⟩)
            · refine z_aload_n C (z_d dtX3_raise_0 37 rfl) rfl ?_
              refine gf_X3_37 C (z_d dtX3_raise_0 38 rfl) ?_
              refine z_iload C (z_d dtX3_raise_0 39 rfl) rfl ?_
              refine z_iconst C (z_d dtX3_raise_1 0 rfl) ?_
              refine as_X10 C (z_d dtX3_raise_1 1 rfl) (by omega) (by omega) ?_
              refine z_iinc4 C (z_d dtX3_raise_1 2 rfl) rfl ?_
              refine z_goto (tgt := 60) C (z_d dtX3_raise_1 3 rfl) (by decide) ?_
              exact ih_60 _ _ (by omega) (zE_set hE (by decide)) ⟨hm.1, hm.2.1, hm.2.2.1, hm.2.2.2.1, hm.2.2.2.2.1, hm.2.2.2.2.2.1, hm.2.2.2.2.2.2.1, fun j h0 h1 => by
                      show zU (μ 6) i 0 j = 0
                      by_cases e : j = i
                      · subst e; exact zU_s _ _ _
                      · rw [zU_n e]; exact hm.2.2.2.2.2.2.2 j h0 (by omega)⟩ (by omega)
        exact lp_60 _ _ _ (by omega) (zE_set (zE_set hE (by decide)) (by decide)) ⟨hm.1, hm.2.1, hm.2.2.1, hm.2.2.2.1, hm.2.2.2.2.1, rfl, rfl, fun j h0 h1 => absurd h1 (by omega)⟩ (Nat.lt_succ_self _)
      · refine z_aload_n C (z_d dtX3_raise_0 20 rfl) rfl ?_
        refine gf_X3_30 C (z_d dtX3_raise_0 21 rfl) ?_
        refine z_iload C (z_d dtX3_raise_0 22 rfl) rfl ?_
        refine z_iconst C (z_d dtX3_raise_0 23 rfl) ?_
        refine as_X8 C (z_d dtX3_raise_0 24 rfl) (by omega) (by omega) ?_
        refine z_aload_n C (z_d dtX3_raise_0 25 rfl) rfl ?_
        refine gf_X3_34 C (z_d dtX3_raise_0 26 rfl) ?_
        refine z_iload C (z_d dtX3_raise_0 27 rfl) rfl ?_
        refine z_iconst C (z_d dtX3_raise_0 28 rfl) ?_
        refine as_X9 C (z_d dtX3_raise_0 29 rfl) (by omega) (by omega) ?_
        refine z_iinc4 C (z_d dtX3_raise_0 30 rfl) rfl ?_
        refine z_goto (tgt := 28) C (z_d dtX3_raise_0 31 rfl) (by decide) ?_
        exact ih_28 _ _ (by omega) (zE_set (zE_set hE (by decide)) (by decide)) ⟨hm.1, hm.2.1, hm.2.2.1, hm.2.2.2.1, hm.2.2.2.2.1, fun j h0 h1 => by
                show zU (μ 4) i 0 j = 0 ∧ zU (μ 5) i 0 j = 0
                by_cases e : j = i
                · subst e; exact ⟨zU_s _ _ _, zU_s _ _ _⟩
                · rw [zU_n e, zU_n e]; exact hm.2.2.2.2.2 j h0 (by omega)⟩ (by omega)
  exact lp_28 _ _ _ (by omega) (zE_set (zE_set (zE_set (zE_set (zE_set zE_rf (by decide)) (by decide)) (by decide)) (by decide)) (by decide)) ⟨rfl, rfl, rfl, rfl, rfl, fun j h0 h1 => absurd h1 (by omega)⟩ (Nat.lt_succ_self _)

set_option maxRecDepth 100000 in
set_option maxHeartbeats 4000000 in
theorem k_X3_putWall {l : Launch} {D : va_G} {t : Nat → ClassId} {ad : Nat → Nat} {σ : zMem} {a b s : Int} (hw : zHw σ) (ha : 0 ≤ a ∧ a < zN σ) (hb : 0 ≤ b ∧ b < zN σ) (h01 : s = 0 ∨ s = 1) (hs : 0 ≤ σ 3 0 ∧ σ 3 0 ≤ 9) (h4 : zBo σ 4) (h5 : zBo σ 5) (h6 : zBo σ 6) : z_Ci l D t yX3_putWall cX3_putWall 5 .int 3 68 0 0 [.ref (ad 1), .int (zI a), .int (zI b), .int (zI s)] (wX ad t σ) (fun r w => ∃ σ', w = wX ad t σ' ∧ ((σ (zKw σ a b) a = s ∧ r = 0 ∧ σ' = σ) ∨ (¬ σ (zKw σ a b) a = s ∧ r = 1 ∧ zE σ' (zS (zS σ (zKw σ a b) (zU (σ (zKw σ a b)) a s)) 31 (zC (σ 31 0 + (2 * s - 1)))) [33] ∧ zTb σ'))) := by
  refine z_Ci_of (by decide +kernel) [some (.ref (ad 1)), some (.int (zI a)), some (.int (zI b)), some (.int (zI s)), none] rfl rfl (Nat.le_of_ble_eq_true rfl) fun K hl hD ht hR hn C ret => ?_
  subst hl; subst hD; subst ht
  have hN := zHw_N hw
  have hW := hw; unfold zHw at hW
  have ga := zGeo hw ha
  have gb := zGeo hw hb
  have b4 := h4 a
  have b5 := h5 a
  refine z_aload_n C (z_d dtX3_putWall_0 0 rfl) rfl ?_
  refine z_iload_n C (z_d dtX3_putWall_0 1 rfl) rfl ?_
  refine z_callV C (z_d dtX3_putWall_0 2 rfl) (k_X3_yOf  (by first | assumption | omega) (by first | assumption | omega)) cal_X3_yOf gw_5_17 rfl 1 3 rfl rfl rfl rfl hR ⟨rfl, rfl, rfl, rfl⟩ rfl (fun r_2 w_2 h_2 => ?_)
  obtain ⟨rfl, rfl⟩ := h_2
  refine z_aload_n C (z_d dtX3_putWall_0 3 rfl) rfl ?_
  refine z_iload_n C (z_d dtX3_putWall_0 4 rfl) rfl ?_
  refine z_callV C (z_d dtX3_putWall_0 5 rfl) (k_X3_yOf  (by first | assumption | omega) (by first | assumption | omega)) cal_X3_yOf gw_5_17 rfl 1 3 rfl rfl rfl rfl hR ⟨rfl, rfl, rfl, rfl⟩ rfl (fun r_7 w_7 h_7 => ?_)
  obtain ⟨rfl, rfl⟩ := h_7
  refine z_icmp_ne (tgt := 20) C (z_d dtX3_putWall_0 6 rfl) (by decide) (by omega) (fun h_10 => ?_) (fun h_10 => ?_)
  · have hk : zKw σ a b = 5 := by unfold zKw; rw [if_neg h_10]
    refine z_aload_n C (z_d dtX3_putWall_0 10 rfl) rfl ?_
    refine gf_X3_34 C (z_d dtX3_putWall_0 11 rfl) ?_
    refine z_astore4 C (z_d dtX3_putWall_0 12 rfl) rfl ?_
    refine z_aload C (z_d dtX3_putWall_0 13 rfl) rfl ?_
    refine z_iload_n C (z_d dtX3_putWall_0 14 rfl) rfl ?_
    refine al_X9 C (z_d dtX3_putWall_0 15 rfl) (by omega) ?_
    try simp (decide := true) only [zS_s, zS_o, zC]
    refine z_iload_n C (z_d dtX3_putWall_0 16 rfl) rfl ?_
    refine z_icmp_ne (tgt := 36) C (z_d dtX3_putWall_0 17 rfl) (by decide) (by omega) (fun h_31 => ?_) (fun h_31 => ?_)
    · refine z_aload C (z_d dtX3_putWall_0 20 rfl) rfl ?_
      refine z_iload_n C (z_d dtX3_putWall_0 21 rfl) rfl ?_
      refine z_iload_n C (z_d dtX3_putWall_0 22 rfl) rfl ?_
      refine as_X9 C (z_d dtX3_putWall_0 23 rfl) (by omega) (by omega) ?_
      refine z_aload_n C (z_d dtX3_putWall_0 24 rfl) rfl ?_
      refine z_dup C (z_d dtX3_putWall_0 25 rfl) rfl ?_
      refine gf_X3_21 C (z_d dtX3_putWall_0 26 rfl) ?_
      try simp (decide := true) only [zS_s, zS_o, zC]
      refine z_iload_n C (z_d dtX3_putWall_0 27 rfl) rfl ?_
      refine z_if_eq (tgt := 54) C (z_d dtX3_putWall_0 28 rfl) (by decide) (by omega) (fun h_47 => ?_) (fun h_47 => ?_)
      · refine z_iconst C (z_d dtX3_putWall_0 31 rfl) ?_
        refine z_iadd C (z_d dtX3_putWall_0 32 rfl) ?_
        refine pf_X3_21 C (z_d dtX3_putWall_0 33 rfl) ?_
        try rw [show σ 31 0 + 1 = σ 31 0 + (2 * s - 1) by omega]
        try rw [show σ 31 0 + -1 = σ 31 0 + (2 * s - 1) by omega]
        generalize hμ : zS (zS σ _ _) 31 _ = μ
        have hm : zE μ (zS (zS σ (zKw σ a b) (zU (σ (zKw σ a b)) a s)) 31 (zC (σ 31 0 + (2 * s - 1)))) [33] := by
          rw [← hμ, hk]; exact zE_rf
        have hm2 : zE μ σ [4, 5, 31] := by
          rw [← hμ]; exact zE_set (zE_set zE_rf (by decide)) (by decide)
        have m4 : zBo μ 4 := by
          rw [← hμ]
          first | exact zBo_u h4 h01 | exact h4
        have m5 : zBo μ 5 := by
          rw [← hμ]
          first | exact zBo_u h5 h01 | exact h5
        refine z_aload_n C (z_d dtX3_putWall_0 34 rfl) rfl ?_
        refine z_callVv C (z_d dtX3_putWall_0 35 rfl) (k_X3_chartSteps  (zHw_E hm2 (by decide) (by decide) (by decide) hw) (by rw [hm2 3 (by decide)]; exact hs) m4 m5 (zBo_E hm2 (by decide) h6)) cal_X3_chartSteps gw_5_1 rfl 1 3 rfl rfl rfl rfl hR ⟨rfl, rfl, rfl, rfl⟩ rfl (fun w_60 h_60 => ?_)
        obtain ⟨σ_60, rfl, hE_60, hT_60⟩ := h_60
        refine z_iconst C (z_d dtX3_putWall_0 36 rfl) ?_
        exact ret _ _ _ _ (z_d dtX3_putWall_0 37 rfl) (⟨_, rfl, Or.inr ⟨by rw [hk]; omega, rfl, zE_tr hE_60 hm, hT_60⟩⟩) rfl
      · refine z_iconst C (z_d dtX3_putWall_0 29 rfl) ?_
        refine z_goto (tgt := 55) C (z_d dtX3_putWall_0 30 rfl) (by decide) ?_
        refine z_iadd C (z_d dtX3_putWall_0 32 rfl) ?_
        refine pf_X3_21 C (z_d dtX3_putWall_0 33 rfl) ?_
        try rw [show σ 31 0 + 1 = σ 31 0 + (2 * s - 1) by omega]
        try rw [show σ 31 0 + -1 = σ 31 0 + (2 * s - 1) by omega]
        generalize hμ : zS (zS σ _ _) 31 _ = μ
        have hm : zE μ (zS (zS σ (zKw σ a b) (zU (σ (zKw σ a b)) a s)) 31 (zC (σ 31 0 + (2 * s - 1)))) [33] := by
          rw [← hμ, hk]; exact zE_rf
        have hm2 : zE μ σ [4, 5, 31] := by
          rw [← hμ]; exact zE_set (zE_set zE_rf (by decide)) (by decide)
        have m4 : zBo μ 4 := by
          rw [← hμ]
          first | exact zBo_u h4 h01 | exact h4
        have m5 : zBo μ 5 := by
          rw [← hμ]
          first | exact zBo_u h5 h01 | exact h5
        refine z_aload_n C (z_d dtX3_putWall_0 34 rfl) rfl ?_
        refine z_callVv C (z_d dtX3_putWall_0 35 rfl) (k_X3_chartSteps  (zHw_E hm2 (by decide) (by decide) (by decide) hw) (by rw [hm2 3 (by decide)]; exact hs) m4 m5 (zBo_E hm2 (by decide) h6)) cal_X3_chartSteps gw_5_1 rfl 1 3 rfl rfl rfl rfl hR ⟨rfl, rfl, rfl, rfl⟩ rfl (fun w_60 h_60 => ?_)
        obtain ⟨σ_60, rfl, hE_60, hT_60⟩ := h_60
        refine z_iconst C (z_d dtX3_putWall_0 36 rfl) ?_
        exact ret _ _ _ _ (z_d dtX3_putWall_0 37 rfl) (⟨_, rfl, Or.inr ⟨by rw [hk]; omega, rfl, zE_tr hE_60 hm, hT_60⟩⟩) rfl
    · refine z_iconst C (z_d dtX3_putWall_0 18 rfl) ?_
      exact ret _ _ _ _ (z_d dtX3_putWall_0 19 rfl) (⟨σ, rfl, Or.inl ⟨by rw [hk]; omega, rfl, rfl⟩⟩) rfl
  · have hk : zKw σ a b = 4 := by unfold zKw; rw [if_pos h_10]
    refine z_aload_n C (z_d dtX3_putWall_0 7 rfl) rfl ?_
    refine gf_X3_30 C (z_d dtX3_putWall_0 8 rfl) ?_
    refine z_goto (tgt := 24) C (z_d dtX3_putWall_0 9 rfl) (by decide) ?_
    refine z_astore4 C (z_d dtX3_putWall_0 12 rfl) rfl ?_
    refine z_aload C (z_d dtX3_putWall_0 13 rfl) rfl ?_
    refine z_iload_n C (z_d dtX3_putWall_0 14 rfl) rfl ?_
    refine al_X8 C (z_d dtX3_putWall_0 15 rfl) (by omega) ?_
    try simp (decide := true) only [zS_s, zS_o, zC]
    refine z_iload_n C (z_d dtX3_putWall_0 16 rfl) rfl ?_
    refine z_icmp_ne (tgt := 36) C (z_d dtX3_putWall_0 17 rfl) (by decide) (by omega) (fun h_31 => ?_) (fun h_31 => ?_)
    · refine z_aload C (z_d dtX3_putWall_0 20 rfl) rfl ?_
      refine z_iload_n C (z_d dtX3_putWall_0 21 rfl) rfl ?_
      refine z_iload_n C (z_d dtX3_putWall_0 22 rfl) rfl ?_
      refine as_X8 C (z_d dtX3_putWall_0 23 rfl) (by omega) (by omega) ?_
      refine z_aload_n C (z_d dtX3_putWall_0 24 rfl) rfl ?_
      refine z_dup C (z_d dtX3_putWall_0 25 rfl) rfl ?_
      refine gf_X3_21 C (z_d dtX3_putWall_0 26 rfl) ?_
      try simp (decide := true) only [zS_s, zS_o, zC]
      refine z_iload_n C (z_d dtX3_putWall_0 27 rfl) rfl ?_
      refine z_if_eq (tgt := 54) C (z_d dtX3_putWall_0 28 rfl) (by decide) (by omega) (fun h_47 => ?_) (fun h_47 => ?_)
      · refine z_iconst C (z_d dtX3_putWall_0 31 rfl) ?_
        refine z_iadd C (z_d dtX3_putWall_0 32 rfl) ?_
        refine pf_X3_21 C (z_d dtX3_putWall_0 33 rfl) ?_
        try rw [show σ 31 0 + 1 = σ 31 0 + (2 * s - 1) by omega]
        try rw [show σ 31 0 + -1 = σ 31 0 + (2 * s - 1) by omega]
        generalize hμ : zS (zS σ _ _) 31 _ = μ
        have hm : zE μ (zS (zS σ (zKw σ a b) (zU (σ (zKw σ a b)) a s)) 31 (zC (σ 31 0 + (2 * s - 1)))) [33] := by
          rw [← hμ, hk]; exact zE_rf
        have hm2 : zE μ σ [4, 5, 31] := by
          rw [← hμ]; exact zE_set (zE_set zE_rf (by decide)) (by decide)
        have m4 : zBo μ 4 := by
          rw [← hμ]
          first | exact zBo_u h4 h01 | exact h4
        have m5 : zBo μ 5 := by
          rw [← hμ]
          first | exact zBo_u h5 h01 | exact h5
        refine z_aload_n C (z_d dtX3_putWall_0 34 rfl) rfl ?_
        refine z_callVv C (z_d dtX3_putWall_0 35 rfl) (k_X3_chartSteps  (zHw_E hm2 (by decide) (by decide) (by decide) hw) (by rw [hm2 3 (by decide)]; exact hs) m4 m5 (zBo_E hm2 (by decide) h6)) cal_X3_chartSteps gw_5_1 rfl 1 3 rfl rfl rfl rfl hR ⟨rfl, rfl, rfl, rfl⟩ rfl (fun w_60 h_60 => ?_)
        obtain ⟨σ_60, rfl, hE_60, hT_60⟩ := h_60
        refine z_iconst C (z_d dtX3_putWall_0 36 rfl) ?_
        exact ret _ _ _ _ (z_d dtX3_putWall_0 37 rfl) (⟨_, rfl, Or.inr ⟨by rw [hk]; omega, rfl, zE_tr hE_60 hm, hT_60⟩⟩) rfl
      · refine z_iconst C (z_d dtX3_putWall_0 29 rfl) ?_
        refine z_goto (tgt := 55) C (z_d dtX3_putWall_0 30 rfl) (by decide) ?_
        refine z_iadd C (z_d dtX3_putWall_0 32 rfl) ?_
        refine pf_X3_21 C (z_d dtX3_putWall_0 33 rfl) ?_
        try rw [show σ 31 0 + 1 = σ 31 0 + (2 * s - 1) by omega]
        try rw [show σ 31 0 + -1 = σ 31 0 + (2 * s - 1) by omega]
        generalize hμ : zS (zS σ _ _) 31 _ = μ
        have hm : zE μ (zS (zS σ (zKw σ a b) (zU (σ (zKw σ a b)) a s)) 31 (zC (σ 31 0 + (2 * s - 1)))) [33] := by
          rw [← hμ, hk]; exact zE_rf
        have hm2 : zE μ σ [4, 5, 31] := by
          rw [← hμ]; exact zE_set (zE_set zE_rf (by decide)) (by decide)
        have m4 : zBo μ 4 := by
          rw [← hμ]
          first | exact zBo_u h4 h01 | exact h4
        have m5 : zBo μ 5 := by
          rw [← hμ]
          first | exact zBo_u h5 h01 | exact h5
        refine z_aload_n C (z_d dtX3_putWall_0 34 rfl) rfl ?_
        refine z_callVv C (z_d dtX3_putWall_0 35 rfl) (k_X3_chartSteps  (zHw_E hm2 (by decide) (by decide) (by decide) hw) (by rw [hm2 3 (by decide)]; exact hs) m4 m5 (zBo_E hm2 (by decide) h6)) cal_X3_chartSteps gw_5_1 rfl 1 3 rfl rfl rfl rfl hR ⟨rfl, rfl, rfl, rfl⟩ rfl (fun w_60 h_60 => ?_)
        obtain ⟨σ_60, rfl, hE_60, hT_60⟩ := h_60
        refine z_iconst C (z_d dtX3_putWall_0 36 rfl) ?_
        exact ret _ _ _ _ (z_d dtX3_putWall_0 37 rfl) (⟨_, rfl, Or.inr ⟨by rw [hk]; omega, rfl, zE_tr hE_60 hm, hT_60⟩⟩) rfl
    · refine z_iconst C (z_d dtX3_putWall_0 18 rfl) ?_
      exact ret _ _ _ _ (z_d dtX3_putWall_0 19 rfl) (⟨σ, rfl, Or.inl ⟨by rw [hk]; omega, rfl, rfl⟩⟩) rfl

set_option maxRecDepth 100000 in
set_option maxHeartbeats 4000000 in
theorem k_X3_putLift {l : Launch} {D : va_G} {t : Nat → ClassId} {ad : Nat → Nat} {σ : zMem} {x y s : Int} (hw : zHw σ) (hx : 0 ≤ x ∧ x < σ 1 0) (hy : 0 ≤ y ∧ y < σ 2 0) (h01 : s = 0 ∨ s = 1) (hs : 0 ≤ σ 3 0 ∧ σ 3 0 ≤ 9) (h4 : zBo σ 4) (h5 : zBo σ 5) (h6 : zBo σ 6) : z_Ci l D t yX3_putLift cX3_putLift 5 .int 3 68 0 0 [.ref (ad 1), .int (zI x), .int (zI y), .int (zI s)] (wX ad t σ) (fun r w => ∃ σ', w = wX ad t σ' ∧ ((σ 6 (y * σ 1 0 + x) = s ∧ r = 0 ∧ σ' = σ) ∨ (¬ σ 6 (y * σ 1 0 + x) = s ∧ r = 1 ∧ zE σ' (zS (zS σ 6 (zU (σ 6) (y * σ 1 0 + x) s)) 32 (zC (σ 32 0 + (2 * s - 1)))) [33] ∧ zTb σ'))) := by
  refine z_Ci_of (by decide +kernel) [some (.ref (ad 1)), some (.int (zI x)), some (.int (zI y)), some (.int (zI s)), none] rfl rfl (Nat.le_of_ble_eq_true rfl) fun K hl hD ht hR hn C ret => ?_
  subst hl; subst hD; subst ht
  have hN := zHw_N hw
  have hW := hw; unfold zHw at hW
  have b6 := h6 (y * σ 1 0 + x)
  have hp := zPlace hw hx hy
  refine z_iload_n C (z_d dtX3_putLift_0 0 rfl) rfl ?_
  refine z_aload_n C (z_d dtX3_putLift_0 1 rfl) rfl ?_
  refine gf_X3_15 C (z_d dtX3_putLift_0 2 rfl) ?_
  try simp (decide := true) only [zS_s, zS_o, zC]
  refine z_imul C (z_d dtX3_putLift_0 3 rfl) ?_
  refine z_iload_n C (z_d dtX3_putLift_0 4 rfl) rfl ?_
  refine z_iadd C (z_d dtX3_putLift_0 5 rfl) ?_
  refine z_istore4 C (z_d dtX3_putLift_0 6 rfl) rfl ?_
  refine z_aload_n C (z_d dtX3_putLift_0 7 rfl) rfl ?_
  refine gf_X3_37 C (z_d dtX3_putLift_0 8 rfl) ?_
  refine z_iload C (z_d dtX3_putLift_0 9 rfl) rfl ?_
  refine al_X10 C (z_d dtX3_putLift_0 10 rfl) (by omega) ?_
  try simp (decide := true) only [zS_s, zS_o, zC]
  refine z_iload_n C (z_d dtX3_putLift_0 11 rfl) rfl ?_
  refine z_icmp_ne (tgt := 23) C (z_d dtX3_putLift_0 12 rfl) (by decide) (by omega) (fun h_18 => ?_) (fun h_18 => ?_)
  · refine z_aload_n C (z_d dtX3_putLift_0 15 rfl) rfl ?_
    refine gf_X3_37 C (z_d dtX3_putLift_0 16 rfl) ?_
    refine z_iload C (z_d dtX3_putLift_0 17 rfl) rfl ?_
    refine z_iload_n C (z_d dtX3_putLift_0 18 rfl) rfl ?_
    refine as_X10 C (z_d dtX3_putLift_0 19 rfl) (by omega) (by omega) ?_
    refine z_aload_n C (z_d dtX3_putLift_0 20 rfl) rfl ?_
    refine z_dup C (z_d dtX3_putLift_0 21 rfl) rfl ?_
    refine gf_X3_24 C (z_d dtX3_putLift_0 22 rfl) ?_
    try simp (decide := true) only [zS_s, zS_o, zC]
    refine z_iload_n C (z_d dtX3_putLift_0 23 rfl) rfl ?_
    refine z_if_eq (tgt := 44) C (z_d dtX3_putLift_0 24 rfl) (by decide) (by omega) (fun h_37 => ?_) (fun h_37 => ?_)
    · refine z_iconst C (z_d dtX3_putLift_0 27 rfl) ?_
      refine z_iadd C (z_d dtX3_putLift_0 28 rfl) ?_
      refine pf_X3_24 C (z_d dtX3_putLift_0 29 rfl) ?_
      try rw [show σ 32 0 + 1 = σ 32 0 + (2 * s - 1) by omega]
      try rw [show σ 32 0 + -1 = σ 32 0 + (2 * s - 1) by omega]
      generalize hμ : zS (zS σ _ _) 32 _ = μ
      have hm : zE μ (zS (zS σ 6 (zU (σ 6) (y * σ 1 0 + x) s)) 32 (zC (σ 32 0 + (2 * s - 1)))) [33] := by
        rw [← hμ]; exact zE_rf
      have hm2 : zE μ σ [6, 32] := by
        rw [← hμ]; exact zE_set (zE_set zE_rf (by decide)) (by decide)
      have m6 : zBo μ 6 := by
        rw [← hμ]
        exact zBo_u h6 h01
      refine z_aload_n C (z_d dtX3_putLift_0 30 rfl) rfl ?_
      refine z_callVv C (z_d dtX3_putLift_0 31 rfl) (k_X3_chartSteps  (zHw_E hm2 (by decide) (by decide) (by decide) hw) (by rw [hm2 3 (by decide)]; exact hs) (zBo_E hm2 (by decide) h4) (zBo_E hm2 (by decide) h5) m6) cal_X3_chartSteps gw_5_1 rfl 1 3 rfl rfl rfl rfl hR ⟨rfl, rfl, rfl, rfl⟩ rfl (fun w_50 h_50 => ?_)
      obtain ⟨σ_50, rfl, hE_50, hT_50⟩ := h_50
      refine z_iconst C (z_d dtX3_putLift_0 32 rfl) ?_
      exact ret _ _ _ _ (z_d dtX3_putLift_0 33 rfl) (⟨_, rfl, Or.inr ⟨by omega, rfl, zE_tr hE_50 hm, hT_50⟩⟩) rfl
    · refine z_iconst C (z_d dtX3_putLift_0 25 rfl) ?_
      refine z_goto (tgt := 45) C (z_d dtX3_putLift_0 26 rfl) (by decide) ?_
      refine z_iadd C (z_d dtX3_putLift_0 28 rfl) ?_
      refine pf_X3_24 C (z_d dtX3_putLift_0 29 rfl) ?_
      try rw [show σ 32 0 + 1 = σ 32 0 + (2 * s - 1) by omega]
      try rw [show σ 32 0 + -1 = σ 32 0 + (2 * s - 1) by omega]
      generalize hμ : zS (zS σ _ _) 32 _ = μ
      have hm : zE μ (zS (zS σ 6 (zU (σ 6) (y * σ 1 0 + x) s)) 32 (zC (σ 32 0 + (2 * s - 1)))) [33] := by
        rw [← hμ]; exact zE_rf
      have hm2 : zE μ σ [6, 32] := by
        rw [← hμ]; exact zE_set (zE_set zE_rf (by decide)) (by decide)
      have m6 : zBo μ 6 := by
        rw [← hμ]
        exact zBo_u h6 h01
      refine z_aload_n C (z_d dtX3_putLift_0 30 rfl) rfl ?_
      refine z_callVv C (z_d dtX3_putLift_0 31 rfl) (k_X3_chartSteps  (zHw_E hm2 (by decide) (by decide) (by decide) hw) (by rw [hm2 3 (by decide)]; exact hs) (zBo_E hm2 (by decide) h4) (zBo_E hm2 (by decide) h5) m6) cal_X3_chartSteps gw_5_1 rfl 1 3 rfl rfl rfl rfl hR ⟨rfl, rfl, rfl, rfl⟩ rfl (fun w_50 h_50 => ?_)
      obtain ⟨σ_50, rfl, hE_50, hT_50⟩ := h_50
      refine z_iconst C (z_d dtX3_putLift_0 32 rfl) ?_
      exact ret _ _ _ _ (z_d dtX3_putLift_0 33 rfl) (⟨_, rfl, Or.inr ⟨by omega, rfl, zE_tr hE_50 hm, hT_50⟩⟩) rfl
  · refine z_iconst C (z_d dtX3_putLift_0 13 rfl) ?_
    exact ret _ _ _ _ (z_d dtX3_putLift_0 14 rfl) (⟨σ, rfl, Or.inl ⟨by omega, rfl, rfl⟩⟩) rfl

set_option maxRecDepth 100000 in
set_option maxHeartbeats 4000000 in
theorem k_X3_putStay {l : Launch} {D : va_G} {t : Nat → ClassId} {ad : Nat → Nat} {σ : zMem} {s : Int} (hw : zHw σ) (h09 : 0 ≤ s ∧ s ≤ 9) (h4 : zBo σ 4) (h5 : zBo σ 5) (h6 : zBo σ 6) : z_Ci l D t yX3_putStay cX3_putStay 3 .int 3 68 0 0 [.ref (ad 1), .int (zI s)] (wX ad t σ) (fun r w => ∃ σ', w = wX ad t σ' ∧ r = σ 3 0 ∧ zE σ' (zS σ 3 (zC s)) [33] ∧ zTb σ') := by
  refine z_Ci_of (by decide +kernel) [some (.ref (ad 1)), some (.int (zI s)), none] rfl rfl (Nat.le_of_ble_eq_true rfl) fun K hl hD ht hR hn C ret => ?_
  subst hl; subst hD; subst ht
  refine z_aload_n C (z_d dtX3_putStay_0 0 rfl) rfl ?_
  refine gf_X3_27 C (z_d dtX3_putStay_0 1 rfl) ?_
  refine z_istore_n2 C (z_d dtX3_putStay_0 2 rfl) rfl ?_
  refine z_aload_n C (z_d dtX3_putStay_0 3 rfl) rfl ?_
  refine z_iload_n C (z_d dtX3_putStay_0 4 rfl) rfl ?_
  refine pf_X3_27 C (z_d dtX3_putStay_0 5 rfl) ?_
  have hm2 : zE (zS σ 3 (zC s)) σ [3] := zE_set zE_rf (by decide)
  refine z_aload_n C (z_d dtX3_putStay_0 6 rfl) rfl ?_
  refine z_callVv C (z_d dtX3_putStay_0 7 rfl) (k_X3_chartSteps  (zHw_E hm2 (by decide) (by decide) (by decide) hw) h09 (zBo_E hm2 (by decide) h4) (zBo_E hm2 (by decide) h5) (zBo_E hm2 (by decide) h6)) cal_X3_chartSteps gw_5_1 rfl 1 3 rfl rfl rfl rfl hR ⟨rfl, rfl, rfl, rfl⟩ rfl (fun w_11 h_11 => ?_)
  obtain ⟨σ_11, rfl, hE_11, hT_11⟩ := h_11
  refine z_iload_n C (z_d dtX3_putStay_0 8 rfl) rfl ?_
  exact ret _ _ _ _ (z_d dtX3_putStay_0 9 rfl) (⟨_, rfl, rfl, hE_11, hT_11⟩) rfl
end
section
/-! what both sides answer, as numbers: heard, weights, surveys, offsets -/
def zHv (σ : zMem) (s row k : Int) : Int := σ 20 (240 * s + (row * 8 + k))
def zH0 (v : Int) : Int := if -1 ≤ v ∧ v ≤ 9 then v else -2
def zHo (v o : Int) : Int := if -1 ≤ v ∧ v ≤ 9 then (if v = -1 then -1 else if v - o < 0 then 0 else if 9 < v - o then 9 else v - o) else -2
theorem zHo_0 (v : Int) : zHo v 0 = zH0 v := by
  unfold zHo zH0
  split
  · split
    · omega
    · split
      · omega
      · split <;> omega
  · rfl
theorem zH0_b (v : Int) : zH0 v = -2 ∨ (-1 ≤ zH0 v ∧ zH0 v ≤ 9) := by
  unfold zH0
  split <;> omega
theorem zHo_b (v o : Int) : zHo v o = -2 ∨ (-1 ≤ zHo v o ∧ zHo v o ≤ 9) := by
  unfold zHo
  split
  · split
    · omega
    · split
      · omega
      · split <;> omega
  · omega
def zMp (σ : zMem) : Prop := ∀ i, 0 ≤ σ 8 i ∧ σ 8 i ≤ 255
def zIt (σ : zMem) : Prop := ∀ i, -2147483648 ≤ σ 20 i ∧ σ 20 i < 2147483648
def zAt (k c v : Int) : Int := 792 * k + 11 * c + v + 1
def zWt (σ : zMem) (k c v : Int) : Int := σ 8 (zAt k c v) + 1
theorem zAt_b {k c v : Int} (hk : 0 ≤ k ∧ k < 8) (hc : 0 ≤ c ∧ c < 72) (hv : -1 ≤ v ∧ v ≤ 9) : 0 ≤ zAt k c v ∧ zAt k c v < 6336 := by
  unfold zAt
  omega
theorem zWt_b {σ : zMem} (h : zMp σ) (k c v : Int) : 1 ≤ zWt σ k c v ∧ zWt σ k c v ≤ 256 := by
  have := h (zAt k c v)
  unfold zWt
  omega
def zWa (σ : zMem) (k c : Int) : Nat → Int
  | 0 => 0
  | n + 1 => zWa σ k c n + zWt σ k c ((n : Int) - 1)
theorem zWa_b {σ : zMem} (h : zMp σ) (k c : Int) : ∀ n : Nat, 0 ≤ zWa σ k c n ∧ zWa σ k c n ≤ 256 * n
  | 0 => by simp [zWa]
  | n + 1 => by
    have a := zWa_b h k c n
    have b := zWt_b h k c ((n : Int) - 1)
    rw [zWa]
    constructor <;> (try push_cast) <;> omega
def zGw (σ : zMem) (k v : Int) : Nat → Int
  | 0 => 1
  | n + 1 => if zWt σ k n v > zGw σ k v n then zWt σ k n v else zGw σ k v n
theorem zGw_b {σ : zMem} (h : zMp σ) (k v : Int) : ∀ n : Nat, 1 ≤ zGw σ k v n ∧ zGw σ k v n ≤ 256
  | 0 => by simp [zGw]
  | n + 1 => by
    have a := zGw_b h k v n
    have b := zWt_b h k n v
    rw [zGw]
    split <;> omega
theorem zGw_le {σ : zMem} (k v : Int) : ∀ (n : Nat) (c : Nat), c < n → zWt σ k c v ≤ zGw σ k v n
  | 0, c, h => absurd h (Nat.not_lt_zero _)
  | n + 1, c, h => by
    rw [zGw]
    rcases Nat.lt_succ_iff_lt_or_eq.mp h with q | q
    · have := zGw_le (σ := σ) k v n c q
      split <;> omega
    · subst q
      split <;> omega
/-- a survey: the map behind the first senders; how many were not missing -/
def zSv (σ : zMem) (s row c : Int) : Nat → Int → Int
  | 0 => σ 8
  | n + 1 => if zH0 (zHv σ s row n) = -2 then zSv σ s row c n else zU (zSv σ s row c n) (zAt n c (zH0 (zHv σ s row n))) (if zSv σ s row c n (zAt n c (zH0 (zHv σ s row n))) < 255 then zSv σ s row c n (zAt n c (zH0 (zHv σ s row n))) + 1 else 255)
def zSn (σ : zMem) (s row : Int) : Nat → Int
  | 0 => 0
  | n + 1 => zSn σ s row n + if zH0 (zHv σ s row n) = -2 then 0 else 1
theorem zSv_b {σ : zMem} (h : zMp σ) (s row c : Int) : ∀ (n : Nat) (i : Int), 0 ≤ zSv σ s row c n i ∧ zSv σ s row c n i ≤ 255
  | 0, i => h i
  | n + 1, i => by
    have a := zSv_b h s row c n
    rw [zSv]
    split
    · exact a i
    · have b := a (zAt n c (zH0 (zHv σ s row n)))
      unfold zU
      split
      · split <;> omega
      · exact a i
theorem zSn_b (σ : zMem) (s row : Int) : ∀ n : Nat, 0 ≤ zSn σ s row n ∧ zSn σ s row n ≤ n
  | 0 => by simp [zSn]
  | n + 1 => by
    have a := zSn_b σ s row n
    rw [zSn]
    split <;> (constructor <;> (try push_cast) <;> omega)
/-- all weights of a row in a cell, by an offset, without one sender -/
def zRw (σ : zMem) (s row c o wo : Int) : Nat → Int
  | 0 => 0
  | n + 1 => zRw σ s row c o wo n + if zHo (zHv σ s row n) o ≠ -2 ∧ (n : Int) ≠ wo ∧ σ 7 n = 0 then zWt σ n c (zHo (zHv σ s row n) o) else 0
theorem zRw_b {σ : zMem} (h : zMp σ) (s row c o wo : Int) : ∀ n : Nat, 0 ≤ zRw σ s row c o wo n ∧ zRw σ s row c o wo n ≤ 256 * n
  | 0 => by simp [zRw]
  | n + 1 => by
    have a := zRw_b h s row c o wo n
    have b := zWt_b h n c (zHo (zHv σ s row n) o)
    rw [zRw]
    split <;> (constructor <;> (try push_cast) <;> omega)
/-- the best offset behind amounts up to n: it, and its sum -/
def zOf (σ : zMem) (s row c : Int) : Nat → Int × Int
  | 0 => (0, zRw σ s row c 0 (-1) 8)
  | n + 1 =>
    let p := zOf σ s row c n
    let q : Int × Int := if zRw σ s row c (-((n : Int) + 1)) (-1) 8 > p.2 then (-((n : Int) + 1), zRw σ s row c (-((n : Int) + 1)) (-1) 8) else p
    if zRw σ s row c ((n : Int) + 1) (-1) 8 > q.2 then ((n : Int) + 1, zRw σ s row c ((n : Int) + 1) (-1) 8) else q
def zNr (form x : Int) : Int := if form = 0 then ((zI x).toInt8.toInt32).toInt else if form = 1 then ((zI x).toInt16.toInt32).toInt else x
theorem zNr_b (form : Int) {x : Int} (hx : -2147483648 ≤ x ∧ x < 2147483648) : -2147483648 ≤ zNr form x ∧ zNr form x < 2147483648 := by
  unfold zNr
  split
  · exact zI_rg _
  · split
    · exact zI_rg _
    · exact hx
/-- the dead ones as bits -/
def zDb (F : Int → Int) : Int := F 0 + 2 * F 1 + 4 * F 2 + 8 * F 3 + 16 * F 4 + 32 * F 5 + 64 * F 6 + 128 * F 7
def z_p2 (k : Int) : Int := if k = 0 then 1 else if k = 1 then 2 else if k = 2 then 4 else if k = 3 then 8 else if k = 4 then 16 else if k = 5 then 32 else if k = 6 then 64 else 128
theorem z_bitD : ∀ (d : Fin 256) (k : Fin 8), (zI (d.val : Int) >>> (zI (k.val : Int) &&& 31)) &&& zI 1 = zI ((d.val : Int) / z_p2 k.val % 2) := by decide +kernel
theorem z_shr {D k : Int} (hD : 0 ≤ D ∧ D < 256) (hk : 0 ≤ k ∧ k < 8) : zI D >>> (zI k &&& 31) = zI (D / z_p2 k) := by
  have key : ∀ (d : Fin 256) (k : Fin 8), zI (d.val : Int) >>> (zI (k.val : Int) &&& 31) = zI ((d.val : Int) / z_p2 k.val) := by decide +kernel
  have := key ⟨D.toNat, by omega⟩ ⟨k.toNat, by omega⟩
  simp only [Int.toNat_of_nonneg hD.1, Int.toNat_of_nonneg hk.1] at this
  exact this
theorem z_and1 {D : Int} (hD : 0 ≤ D ∧ D < 256) : zI D &&& zI 1 = zI (D % 2) := by
  have key : ∀ (d : Fin 256), zI (d.val : Int) &&& zI 1 = zI ((d.val : Int) % 2) := by decide +kernel
  have := key ⟨D.toNat, by omega⟩
  simp only [Int.toNat_of_nonneg hD.1] at this
  exact this
theorem z_shl {k : Int} (hk : 0 ≤ k ∧ k < 8) : zI 1 <<< (zI k &&& 31) = zI (z_p2 k) := by
  have key : ∀ (k : Fin 8), zI 1 <<< (zI (k.val : Int) &&& 31) = zI (z_p2 k.val) := by decide +kernel
  have := key ⟨k.toNat, by omega⟩
  simp only [Int.toNat_of_nonneg hk.1] at this
  exact this
theorem z_orb {D k : Int} (hD : 0 ≤ D ∧ D < 256) (hk : 0 ≤ k ∧ k < 8) : zI D ||| zI (z_p2 k) = zI (D + (1 - D / z_p2 k % 2) * z_p2 k) := by
  have key : ∀ (d : Fin 256) (k : Fin 8), zI (d.val : Int) ||| zI (z_p2 k.val) = zI ((d.val : Int) + (1 - (d.val : Int) / z_p2 k.val % 2) * z_p2 k.val) := by decide +kernel
  have := key ⟨D.toNat, by omega⟩ ⟨k.toNat, by omega⟩
  simp only [Int.toNat_of_nonneg hD.1, Int.toNat_of_nonneg hk.1] at this
  exact this
theorem z_xor1 (x : Int) : zI x ^^^ zI (-1) = zI (-x - 1) := by
  apply Int32.toBitVec_inj.mp
  show (Int32.ofInt x).toBitVec ^^^ (Int32.ofInt (-1)).toBitVec = (Int32.ofInt (-x - 1)).toBitVec
  have e : (Int32.ofInt (-1)).toBitVec = BitVec.allOnes 32 := by decide
  rw [e, BitVec.xor_allOnes]
  show ~~~ (BitVec.ofInt 32 x) = BitVec.ofInt 32 (-x - 1)
  rw [BitVec.not_eq_neg_add, ← BitVec.ofInt_neg, Int.sub_eq_add_neg, BitVec.ofInt_add, BitVec.sub_eq_add_neg]
  congr 1
theorem z_andn {D k : Int} (hD : 0 ≤ D ∧ D < 256) (hk : 0 ≤ k ∧ k < 8) : zI D &&& zI (-z_p2 k - 1) = zI (D - D / z_p2 k % 2 * z_p2 k) := by
  have key : ∀ (d : Fin 256) (k : Fin 8), zI (d.val : Int) &&& zI (-z_p2 k.val - 1) = zI ((d.val : Int) - (d.val : Int) / z_p2 k.val % 2 * z_p2 k.val) := by decide +kernel
  have := key ⟨D.toNat, by omega⟩ ⟨k.toNat, by omega⟩
  simp only [Int.toNat_of_nonneg hD.1, Int.toNat_of_nonneg hk.1] at this
  exact this
theorem zDb_b {F : Int → Int} (h : ∀ i, F i = 0 ∨ F i = 1) : 0 ≤ zDb F ∧ zDb F < 256 := by
  have h0 := h 0; have h1 := h 1; have h2 := h 2; have h3 := h 3; have h4 := h 4; have h5 := h 5; have h6 := h 6; have h7 := h 7
  unfold zDb
  omega
theorem zDb_k {F : Int → Int} (h : ∀ i, F i = 0 ∨ F i = 1) {k : Int} (hk : 0 ≤ k ∧ k < 8) : zDb F / z_p2 k % 2 = F k := by
  have h0 := h 0; have h1 := h 1; have h2 := h 2; have h3 := h 3; have h4 := h 4; have h5 := h 5; have h6 := h 6; have h7 := h 7
  unfold zDb
  rcases (show k = 0 ∨ k = 1 ∨ k = 2 ∨ k = 3 ∨ k = 4 ∨ k = 5 ∨ k = 6 ∨ k = 7 by omega) with rfl | rfl | rfl | rfl | rfl | rfl | rfl | rfl <;> simp only [z_p2] <;> simp (decide := true) only [if_true, if_false] <;> omega
theorem zDb_u {F : Int → Int} {k v : Int} (hk : 0 ≤ k ∧ k < 8) : zDb (zU F k v) = zDb F + (v - F k) * z_p2 k := by
  unfold zDb zU
  rcases (show k = 0 ∨ k = 1 ∨ k = 2 ∨ k = 3 ∨ k = 4 ∨ k = 5 ∨ k = 6 ∨ k = 7 by omega) with rfl | rfl | rfl | rfl | rfl | rfl | rfl | rfl <;> simp (decide := true) only [z_p2, if_true, if_false] <;> omega
theorem zOf_11 {σ : zMem} {s row c : Int} {n : Nat} {b m : Int} (h : (b, m) = zOf σ s row c n) (h1 : zRw σ s row c (-((n : Int) + 1)) (-1) 8 > m) (h2 : zRw σ s row c ((n : Int) + 1) (-1) 8 > zRw σ s row c (-((n : Int) + 1)) (-1) 8) : ((n : Int) + 1, zRw σ s row c ((n : Int) + 1) (-1) 8) = zOf σ s row c (n + 1) := by
  simp only [zOf, ← h, if_pos h1, if_pos h2]
theorem zOf_10 {σ : zMem} {s row c : Int} {n : Nat} {b m : Int} (h : (b, m) = zOf σ s row c n) (h1 : zRw σ s row c (-((n : Int) + 1)) (-1) 8 > m) (h2 : ¬ zRw σ s row c ((n : Int) + 1) (-1) 8 > zRw σ s row c (-((n : Int) + 1)) (-1) 8) : (-((n : Int) + 1), zRw σ s row c (-((n : Int) + 1)) (-1) 8) = zOf σ s row c (n + 1) := by
  simp only [zOf, ← h, if_pos h1, if_neg h2]
theorem zOf_01 {σ : zMem} {s row c : Int} {n : Nat} {b m : Int} (h : (b, m) = zOf σ s row c n) (h1 : ¬ zRw σ s row c (-((n : Int) + 1)) (-1) 8 > m) (h2 : zRw σ s row c ((n : Int) + 1) (-1) 8 > m) : ((n : Int) + 1, zRw σ s row c ((n : Int) + 1) (-1) 8) = zOf σ s row c (n + 1) := by
  simp only [zOf, ← h, if_neg h1, if_pos h2]
theorem zOf_00 {σ : zMem} {s row c : Int} {n : Nat} {b m : Int} (h : (b, m) = zOf σ s row c n) (h1 : ¬ zRw σ s row c (-((n : Int) + 1)) (-1) 8 > m) (h2 : ¬ zRw σ s row c ((n : Int) + 1) (-1) 8 > m) : (b, m) = zOf σ s row c (n + 1) := by
  simp only [zOf, ← h, if_neg h1, if_neg h2]
end
section
/-! THE SHEETS, THE MAP -/
set_option maxRecDepth 100000 in
set_option maxHeartbeats 4000000 in
theorem k_X5_renew {l : Launch} {D : va_G} {t : Nat → ClassId} {ad : Nat → Nat} {σ : zMem} {z f n : Int} (hz : 0 ≤ z ∧ z < 4) : z_Cv l D t yX5_renew cX5_renew 3 1 23 0 0 [.ref (ad (22 + z.toNat)), .int (zI f), .int (zI n)] (wX ad t σ) (fun w => w = wX ad t (zS (zS (zS (zS σ 16 (zU (σ 16) z 1)) 17 (zU (σ 17) z f)) 40 (zU (σ 40) z n)) 20 (fun i => if 240 * z ≤ i ∧ i < 240 * z + 240 then 0 else σ 20 i))) := by
  refine z_Cv_of (by decide +kernel) [some (.ref (ad (22 + z.toNat))), some (.int (zI f)), some (.int (zI n))] rfl rfl (Nat.le_of_ble_eq_true rfl) fun K hl hD ht hR hn C ret => ?_
  subst hl; subst hD; subst ht
  refine z_aload_n C (z_d dtX5_renew_0 0 rfl) rfl ?_
  refine z_iconst C (z_d dtX5_renew_0 1 rfl) ?_
  refine pf_X5_9 C (by omega) (by omega) (z_d dtX5_renew_0 2 rfl) (x := 1) ?_
  refine z_aload_n C (z_d dtX5_renew_0 3 rfl) rfl ?_
  refine z_iload_n C (z_d dtX5_renew_0 4 rfl) rfl ?_
  refine pf_X5_15 C (by omega) (z_d dtX5_renew_0 5 rfl) ?_
  refine z_aload_n C (z_d dtX5_renew_0 6 rfl) rfl ?_
  refine z_iload_n C (z_d dtX5_renew_0 7 rfl) rfl ?_
  refine pf_X5_19 C (by omega) (z_d dtX5_renew_0 8 rfl) ?_
  refine z_aload_n C (z_d dtX5_renew_0 9 rfl) rfl ?_
  refine gf_X5_22 C (by omega) (z_d dtX5_renew_0 10 rfl) ?_
  refine z_iconst C (z_d dtX5_renew_0 11 rfl) ?_
  refine z_callSv C (z_d dtX5_renew_0 12 rfl) (k_fillI (n := 240) (26 + z.toNat) (wX_si hz) (by decide)) cal_J7_fill_53178 gw_33_5 rfl rfl hR ⟨rfl, rfl, rfl, rfl⟩ rfl (fun w_20 h_20 => ?_)
  subst h_20
  refine z_items hz (fun i => if 240 * z ≤ i ∧ i < 240 * z + 240 then 0 else σ 20 i) (fun j hj => by rw [if_pos (by omega)]) (fun j h0 hj => by rw [if_neg (by omega)]; rfl) ?_
  exact ret _ _ _ (z_d dtX5_renew_0 13 rfl) (rfl)

set_option maxRecDepth 100000 in
set_option maxHeartbeats 4000000 in
theorem k_X5_drop {l : Launch} {D : va_G} {t : Nat → ClassId} {ad : Nat → Nat} {σ : zMem} {z : Int} (hz : 0 ≤ z ∧ z < 4) : z_Ci l D t yX5_drop cX5_drop 2 .int 0 0 0 0 [.ref (ad (22 + z.toNat))] (wX ad t σ) (fun r w => w = wX ad t (zS (zS σ 16 (zU (σ 16) z 0)) 40 (zU (σ 40) z 0)) ∧ r = σ 40 z) := by
  refine z_Ci_of (by decide +kernel) [some (.ref (ad (22 + z.toNat))), none] rfl rfl (Nat.le_of_ble_eq_true rfl) fun K hl hD ht hR hn C ret => ?_
  subst hl; subst hD; subst ht
  refine z_aload_n C (z_d dtX5_drop_0 0 rfl) rfl ?_
  refine gf_X5_19 C (by omega) (z_d dtX5_drop_0 1 rfl) ?_
  refine z_istore_n1 C (z_d dtX5_drop_0 2 rfl) rfl ?_
  refine z_aload_n C (z_d dtX5_drop_0 3 rfl) rfl ?_
  refine z_iconst C (z_d dtX5_drop_0 4 rfl) ?_
  refine pf_X5_9 C (by omega) (by omega) (z_d dtX5_drop_0 5 rfl) (x := 0) ?_
  refine z_aload_n C (z_d dtX5_drop_0 6 rfl) rfl ?_
  refine z_iconst C (z_d dtX5_drop_0 7 rfl) ?_
  refine pf_X5_19 C (by omega) (z_d dtX5_drop_0 8 rfl) ?_
  refine z_iload_n C (z_d dtX5_drop_0 9 rfl) rfl ?_
  exact ret _ _ _ _ (z_d dtX5_drop_0 10 rfl) (⟨rfl, rfl⟩) rfl

set_option maxRecDepth 100000 in
set_option maxHeartbeats 4000000 in
theorem k_X5_store {l : Launch} {D : va_G} {t : Nat → ClassId} {ad : Nat → Nat} {σ : zMem} {z i x : Int} (hz : 0 ≤ z ∧ z < 4) (hi : 0 ≤ i ∧ i < 240) (hf : 0 ≤ σ 17 z ∧ σ 17 z ≤ 2) : z_Cv l D t yX5_store cX5_store 3 0 0 0 0 [.ref (ad (22 + z.toNat)), .int (zI i), .int (zI x)] (wX ad t σ) (fun w => w = wX ad t (zS σ 20 (zU (σ 20) (240 * z + i) (zNr (σ 17 z) x)))) := by
  refine z_Cv_of (by decide +kernel) [some (.ref (ad (22 + z.toNat))), some (.int (zI i)), some (.int (zI x))] rfl rfl (Nat.le_of_ble_eq_true rfl) fun K hl hD ht hR hn C ret => ?_
  subst hl; subst hD; subst ht
  refine z_aload_n C (z_d dtX5_store_0 0 rfl) rfl ?_
  refine gf_X5_15 C (by omega) (z_d dtX5_store_0 1 rfl) ?_
  refine z_if_ne (tgt := 18) C (z_d dtX5_store_0 2 rfl) (by decide) (by omega) (fun h_4 => ?_) (fun h_4 => ?_)
  · refine z_aload_n C (z_d dtX5_store_0 10 rfl) rfl ?_
    refine gf_X5_15 C (by omega) (z_d dtX5_store_0 11 rfl) ?_
    refine z_iconst C (z_d dtX5_store_0 12 rfl) ?_
    refine z_icmp_ne (tgt := 37) C (z_d dtX5_store_0 13 rfl) (by decide) (by omega) (fun h_23 => ?_) (fun h_23 => ?_)
    · refine z_aload_n C (z_d dtX5_store_0 21 rfl) rfl ?_
      refine gf_X5_22 C (by omega) (z_d dtX5_store_0 22 rfl) ?_
      refine z_iload_n C (z_d dtX5_store_0 23 rfl) rfl ?_
      refine z_iload_n C (z_d dtX5_store_0 24 rfl) rfl ?_
      refine as_Xsi C (by omega) (z_d dtX5_store_0 25 rfl) (by omega) ?_
      try rw [show ((zI x).toInt8.toInt32).toInt = zNr (σ 17 z) x by unfold zNr; rw [if_pos (by omega)]]
      try rw [show ((zI x).toInt16.toInt32).toInt = zNr (σ 17 z) x by unfold zNr; rw [if_neg (by omega), if_pos (by omega)]]
      exact ret _ _ _ (z_d dtX5_store_0 26 rfl) ((by first | rfl | (rw [zNr, if_neg (by omega), if_neg (by omega)])))
    · refine z_aload_n C (z_d dtX5_store_0 14 rfl) rfl ?_
      refine gf_X5_22 C (by omega) (z_d dtX5_store_0 15 rfl) ?_
      refine z_iload_n C (z_d dtX5_store_0 16 rfl) rfl ?_
      refine z_iload_n C (z_d dtX5_store_0 17 rfl) rfl ?_
      refine z_i2s C (z_d dtX5_store_0 18 rfl) (zI_of _).symm ?_
      refine as_Xsi C (by omega) (z_d dtX5_store_0 19 rfl) (by omega) ?_
      refine z_goto (tgt := 44) C (z_d dtX5_store_0 20 rfl) (by decide) ?_
      try rw [show ((zI x).toInt8.toInt32).toInt = zNr (σ 17 z) x by unfold zNr; rw [if_pos (by omega)]]
      try rw [show ((zI x).toInt16.toInt32).toInt = zNr (σ 17 z) x by unfold zNr; rw [if_neg (by omega), if_pos (by omega)]]
      exact ret _ _ _ (z_d dtX5_store_0 26 rfl) ((by first | rfl | (rw [zNr, if_neg (by omega), if_neg (by omega)])))
  · refine z_aload_n C (z_d dtX5_store_0 3 rfl) rfl ?_
    refine gf_X5_22 C (by omega) (z_d dtX5_store_0 4 rfl) ?_
    refine z_iload_n C (z_d dtX5_store_0 5 rfl) rfl ?_
    refine z_iload_n C (z_d dtX5_store_0 6 rfl) rfl ?_
    refine z_i2b C (z_d dtX5_store_0 7 rfl) (zI_of _).symm ?_
    refine as_Xsi C (by omega) (z_d dtX5_store_0 8 rfl) (by omega) ?_
    refine z_goto (tgt := 44) C (z_d dtX5_store_0 9 rfl) (by decide) ?_
    try rw [show ((zI x).toInt8.toInt32).toInt = zNr (σ 17 z) x by unfold zNr; rw [if_pos (by omega)]]
    try rw [show ((zI x).toInt16.toInt32).toInt = zNr (σ 17 z) x by unfold zNr; rw [if_neg (by omega), if_pos (by omega)]]
    exact ret _ _ _ (z_d dtX5_store_0 26 rfl) ((by first | rfl | (rw [zNr, if_neg (by omega), if_neg (by omega)])))

set_option maxRecDepth 100000 in
set_option maxHeartbeats 4000000 in
theorem k_X5_hasItems {l : Launch} {D : va_G} {t : Nat → ClassId} {ad : Nat → Nat} {σ : zMem} {z a n : Int} (hz : 0 ≤ z ∧ z < 4) (hsz : 0 ≤ σ 40 z ∧ σ 40 z ≤ 240) (ha : -2147483648 ≤ a ∧ a < 2147483648) (hn2 : -2147483648 ≤ n ∧ n < 2147483648) : z_Ci l D t yX5_hasItems cX5_hasItems 3 .boolean 0 0 0 0 [.ref (ad (22 + z.toNat)), .int (zI a), .int (zI n)] (wX ad t σ) (fun r w => w = wX ad t σ ∧ ((r = 1 ∧ (0 ≤ a ∧ 0 ≤ n ∧ a ≤ σ 40 z ∧ n ≤ σ 40 z - a)) ∨ (r = 0 ∧ ¬ (0 ≤ a ∧ 0 ≤ n ∧ a ≤ σ 40 z ∧ n ≤ σ 40 z - a)))) := by
  refine z_Ci_of (by decide +kernel) [some (.ref (ad (22 + z.toNat))), some (.int (zI a)), some (.int (zI n))] rfl rfl (Nat.le_of_ble_eq_true rfl) fun K hl hD ht hR hn C ret => ?_
  subst hl; subst hD; subst ht
  refine z_iload_n C (z_d dtX5_hasItems_0 0 rfl) rfl ?_
  refine z_if_lt (tgt := 30) C (z_d dtX5_hasItems_0 1 rfl) (by decide) (by omega) (fun h_1 => ?_) (fun h_1 => ?_)
  · refine z_iconst C (z_d dtX5_hasItems_0 16 rfl) ?_
    exact ret _ _ _ _ (z_d dtX5_hasItems_0 17 rfl) (⟨rfl, by omega⟩) (z_nb (by omega))
  · refine z_iload_n C (z_d dtX5_hasItems_0 2 rfl) rfl ?_
    refine z_if_lt (tgt := 30) C (z_d dtX5_hasItems_0 3 rfl) (by decide) (by omega) (fun h_5 => ?_) (fun h_5 => ?_)
    · refine z_iconst C (z_d dtX5_hasItems_0 16 rfl) ?_
      exact ret _ _ _ _ (z_d dtX5_hasItems_0 17 rfl) (⟨rfl, by omega⟩) (z_nb (by omega))
    · refine z_iload_n C (z_d dtX5_hasItems_0 4 rfl) rfl ?_
      refine z_aload_n C (z_d dtX5_hasItems_0 5 rfl) rfl ?_
      refine gf_X5_19 C (by omega) (z_d dtX5_hasItems_0 6 rfl) ?_
      refine z_icmp_gt (tgt := 30) C (z_d dtX5_hasItems_0 7 rfl) (by decide) (by omega) (fun h_13 => ?_) (fun h_13 => ?_)
      · refine z_iconst C (z_d dtX5_hasItems_0 16 rfl) ?_
        exact ret _ _ _ _ (z_d dtX5_hasItems_0 17 rfl) (⟨rfl, by omega⟩) (z_nb (by omega))
      · refine z_iload_n C (z_d dtX5_hasItems_0 8 rfl) rfl ?_
        refine z_aload_n C (z_d dtX5_hasItems_0 9 rfl) rfl ?_
        refine gf_X5_19 C (by omega) (z_d dtX5_hasItems_0 10 rfl) ?_
        refine z_iload_n C (z_d dtX5_hasItems_0 11 rfl) rfl ?_
        refine z_isub C (z_d dtX5_hasItems_0 12 rfl) ?_
        refine z_icmp_gt (tgt := 30) C (z_d dtX5_hasItems_0 13 rfl) (by decide) (by omega) (fun h_23 => ?_) (fun h_23 => ?_)
        · refine z_iconst C (z_d dtX5_hasItems_0 16 rfl) ?_
          exact ret _ _ _ _ (z_d dtX5_hasItems_0 17 rfl) (⟨rfl, by omega⟩) (z_nb (by omega))
        · refine z_iconst C (z_d dtX5_hasItems_0 14 rfl) ?_
          refine z_goto (tgt := 31) C (z_d dtX5_hasItems_0 15 rfl) (by decide) ?_
          exact ret _ _ _ _ (z_d dtX5_hasItems_0 17 rfl) (⟨rfl, by omega⟩) (z_nb (by omega))

set_option maxRecDepth 100000 in
set_option maxHeartbeats 4000000 in
theorem k_X5_rows {l : Launch} {D : va_G} {t : Nat → ClassId} {ad : Nat → Nat} {σ : zMem} {z : Int} (hz : 0 ≤ z ∧ z < 4) (hsz : 0 ≤ σ 40 z ∧ σ 40 z ≤ 240) : z_Ci l D t yX5_rows cX5_rows 1 .int 0 0 0 0 [.ref (ad (22 + z.toNat))] (wX ad t σ) (fun r w => w = wX ad t σ ∧ r = σ 40 z / 8) := by
  refine z_Ci_of (by decide +kernel) [some (.ref (ad (22 + z.toNat)))] rfl rfl (Nat.le_of_ble_eq_true rfl) fun K hl hD ht hR hn C ret => ?_
  subst hl; subst hD; subst ht
  refine z_aload_n C (z_d dtX5_rows_0 0 rfl) rfl ?_
  refine gf_X5_19 C (by omega) (z_d dtX5_rows_0 1 rfl) ?_
  refine z_bipush C (z_d dtX5_rows_0 2 rfl) zb_8 ?_
  refine z_idiv C (z_d dtX5_rows_0 3 rfl) (by omega) ?_
  exact ret _ _ _ _ (z_d dtX5_rows_0 4 rfl) (⟨rfl, rfl⟩) rfl

set_option maxRecDepth 100000 in
set_option maxHeartbeats 4000000 in
theorem k_X5_heardOf {l : Launch} {D : va_G} {t : Nat → ClassId} {ad : Nat → Nat} {σ : zMem} {z row k : Int} (hz : 0 ≤ z ∧ z < 4) (hit : zIt σ) (hrow : 0 ≤ row ∧ row < 30) (hk : 0 ≤ k ∧ k < 8) : z_Ci l D t yX5_heardOf cX5_heardOf 4 .int 0 0 0 0 [.ref (ad (22 + z.toNat)), .int (zI row), .int (zI k)] (wX ad t σ) (fun r w => w = wX ad t σ ∧ r = zH0 (zHv σ z row k)) := by
  refine z_Ci_of (by decide +kernel) [some (.ref (ad (22 + z.toNat))), some (.int (zI row)), some (.int (zI k)), none] rfl rfl (Nat.le_of_ble_eq_true rfl) fun K hl hD ht hR hn C ret => ?_
  subst hl; subst hD; subst ht
  have hv := hit (240 * z + (row * 8 + k))
  refine z_aload_n C (z_d dtX5_heardOf_0 0 rfl) rfl ?_
  refine gf_X5_22 C (by omega) (z_d dtX5_heardOf_0 1 rfl) ?_
  refine z_iload_n C (z_d dtX5_heardOf_0 2 rfl) rfl ?_
  refine z_bipush C (z_d dtX5_heardOf_0 3 rfl) zb_8 ?_
  refine z_imul C (z_d dtX5_heardOf_0 4 rfl) ?_
  refine z_iload_n C (z_d dtX5_heardOf_0 5 rfl) rfl ?_
  refine z_iadd C (z_d dtX5_heardOf_0 6 rfl) ?_
  refine al_Xsi C (by omega) (z_d dtX5_heardOf_0 7 rfl) (by omega) ?_
  refine z_istore_n3 C (z_d dtX5_heardOf_0 8 rfl) rfl ?_
  refine z_iload_n C (z_d dtX5_heardOf_0 9 rfl) rfl ?_
  refine z_iconst C (z_d dtX5_heardOf_0 10 rfl) ?_
  refine z_icmp_lt (tgt := 27) C (z_d dtX5_heardOf_0 11 rfl) (by decide) (by omega) (fun h_14 => ?_) (fun h_14 => ?_)
  · refine z_bipush C (z_d dtX5_heardOf_0 17 rfl) zb_m2 ?_
    exact ret _ _ _ _ (z_d dtX5_heardOf_0 18 rfl) (⟨rfl, by unfold zH0 zHv; first | rw [if_pos (by omega)] | rw [if_neg (by omega)]⟩) rfl
  · refine z_iload_n C (z_d dtX5_heardOf_0 12 rfl) rfl ?_
    refine z_bipush C (z_d dtX5_heardOf_0 13 rfl) zb_9 ?_
    refine z_icmp_gt (tgt := 27) C (z_d dtX5_heardOf_0 14 rfl) (by decide) (by omega) (fun h_20 => ?_) (fun h_20 => ?_)
    · refine z_bipush C (z_d dtX5_heardOf_0 17 rfl) zb_m2 ?_
      exact ret _ _ _ _ (z_d dtX5_heardOf_0 18 rfl) (⟨rfl, by unfold zH0 zHv; first | rw [if_pos (by omega)] | rw [if_neg (by omega)]⟩) rfl
    · refine z_iload_n C (z_d dtX5_heardOf_0 15 rfl) rfl ?_
      refine z_goto (tgt := 29) C (z_d dtX5_heardOf_0 16 rfl) (by decide) ?_
      exact ret _ _ _ _ (z_d dtX5_heardOf_0 18 rfl) (⟨rfl, by unfold zH0 zHv; first | rw [if_pos (by omega)] | rw [if_neg (by omega)]⟩) rfl

set_option maxRecDepth 100000 in
set_option maxHeartbeats 4000000 in
theorem k_X5_heardBy {l : Launch} {D : va_G} {t : Nat → ClassId} {ad : Nat → Nat} {σ : zMem} {z row k o : Int} (hz : 0 ≤ z ∧ z < 4) (hit : zIt σ) (hrow : 0 ≤ row ∧ row < 30) (hk : 0 ≤ k ∧ k < 8) (ho : -4 ≤ o ∧ o ≤ 4) : z_Ci l D t yX5_heardBy cX5_heardBy 5 .int 1 23 0 0 [.ref (ad (22 + z.toNat)), .int (zI row), .int (zI k), .int (zI o)] (wX ad t σ) (fun r w => w = wX ad t σ ∧ r = zHo (zHv σ z row k) o) := by
  refine z_Ci_of (by decide +kernel) [some (.ref (ad (22 + z.toNat))), some (.int (zI row)), some (.int (zI k)), some (.int (zI o)), none] rfl rfl (Nat.le_of_ble_eq_true rfl) fun K hl hD ht hR hn C ret => ?_
  subst hl; subst hD; subst ht
  have hb := zH0_b (zHv σ z row k)
  generalize hv : zHv σ z row k = v at hb ⊢
  have hd : zH0 v = -2 ∧ ¬ (-1 ≤ v ∧ v ≤ 9) ∨ zH0 v = v ∧ (-1 ≤ v ∧ v ≤ 9) := by
    unfold zH0
    split <;> omega
  refine z_aload_n C (z_d dtX5_heardBy_0 0 rfl) rfl ?_
  refine z_iload_n C (z_d dtX5_heardBy_0 1 rfl) rfl ?_
  refine z_iload_n C (z_d dtX5_heardBy_0 2 rfl) rfl ?_
  refine z_callV C (z_d dtX5_heardBy_0 3 rfl) (k_X5_heardOf  (by first | assumption | omega) (by first | assumption | omega) (by first | assumption | omega) (by first | assumption | omega)) cal_X5_heardOf gw_19_6 rfl (22 + _) 5 (wX_sh (by omega)) rfl rfl rfl hR ⟨rfl, rfl, rfl, rfl⟩ rfl (fun r_3 w_3 h_3 => ?_)
  obtain ⟨rfl, rfl⟩ := h_3
  rw [hv]
  refine z_istore4 C (z_d dtX5_heardBy_0 4 rfl) rfl ?_
  refine z_iload C (z_d dtX5_heardBy_0 5 rfl) rfl ?_
  refine z_bipush C (z_d dtX5_heardBy_0 6 rfl) zb_m2 ?_
  refine z_icmp_eq (tgt := 21) C (z_d dtX5_heardBy_0 7 rfl) (by decide) (by omega) (fun h_12 => ?_) (fun h_12 => ?_)
  · refine z_iload C (z_d dtX5_heardBy_0 11 rfl) rfl ?_
    exact ret _ _ _ _ (z_d dtX5_heardBy_0 12 rfl) (⟨rfl, by
        rw [hv]
        unfold zHo
        by_cases q : -1 ≤ v ∧ v ≤ 9
        · rw [if_pos q]
          split
          · omega
          · split
            · omega
            · split <;> omega
        · rw [if_neg q]; omega⟩) rfl
  · refine z_iload C (z_d dtX5_heardBy_0 8 rfl) rfl ?_
    refine z_iconst C (z_d dtX5_heardBy_0 9 rfl) ?_
    refine z_icmp_ne (tgt := 24) C (z_d dtX5_heardBy_0 10 rfl) (by decide) (by omega) (fun h_18 => ?_) (fun h_18 => ?_)
    · refine z_iconst C (z_d dtX5_heardBy_0 13 rfl) ?_
      refine z_bipush C (z_d dtX5_heardBy_0 14 rfl) zb_9 ?_
      refine z_iload C (z_d dtX5_heardBy_0 15 rfl) rfl ?_
      refine z_iload_n C (z_d dtX5_heardBy_0 16 rfl) rfl ?_
      refine z_isub C (z_d dtX5_heardBy_0 17 rfl) ?_
      refine z_mminP C (z_d dtX5_heardBy_0 18 rfl) gw_19_4 gw_9_19 gw_9_20 gw_9_21 rfl (by rw [hR]; exact Nat.le_of_ble_eq_true rfl) (by rw [hR]; exact Nat.le_of_ble_eq_true rfl) (by rw [hR]; exact Nat.le_refl _) (by rw [hR]; exact Nat.le_refl _) (by omega) (fun m_31 h_31 => ?_)
      refine z_mmaxP C (z_d dtX5_heardBy_0 19 rfl) gw_19_5 gw_9_23 gw_9_20 gw_10_0 rfl (by rw [hR]; exact Nat.le_of_ble_eq_true rfl) (by rw [hR]; exact Nat.le_of_ble_eq_true rfl) (by rw [hR]; exact Nat.le_refl _) (by rw [hR]; exact Nat.le_refl _) (by omega) (fun m_34 h_34 => ?_)
      exact ret _ _ _ _ (z_d dtX5_heardBy_0 20 rfl) (⟨rfl, by
          rw [hv]
          unfold zHo
          by_cases q : -1 ≤ v ∧ v ≤ 9
          · rw [if_pos q]
            split
            · omega
            · split
              · omega
              · split <;> omega
          · rw [if_neg q]; omega⟩) rfl
    · refine z_iload C (z_d dtX5_heardBy_0 11 rfl) rfl ?_
      exact ret _ _ _ _ (z_d dtX5_heardBy_0 12 rfl) (⟨rfl, by
          rw [hv]
          unfold zHo
          by_cases q : -1 ≤ v ∧ v ≤ 9
          · rw [if_pos q]
            split
            · omega
            · split
              · omega
              · split <;> omega
          · rw [if_neg q]; omega⟩) rfl

set_option maxRecDepth 100000 in
set_option maxHeartbeats 4000000 in
theorem k_X4_clear {l : Launch} {D : va_G} {t : Nat → ClassId} {ad : Nat → Nat} {σ : zMem}   : z_Cv l D t yX4_clear cX4_clear 1 1 23 0 0 [.ref (ad 2)] (wX ad t σ) (fun w => w = wX ad t (zS σ 8 (zC 0))) := by
  refine z_Cv_of (by decide +kernel) [some (.ref (ad 2))] rfl rfl (Nat.le_of_ble_eq_true rfl) fun K hl hD ht hR hn C ret => ?_
  subst hl; subst hD; subst ht
  refine z_aload_n C (z_d dtX4_clear_0 0 rfl) rfl ?_
  refine gf_X4_15 C (z_d dtX4_clear_0 1 rfl) ?_
  refine z_iconst C (z_d dtX4_clear_0 2 rfl) ?_
  refine z_callSv C (z_d dtX4_clear_0 3 rfl) kf_X14 cal_J7_fill_53178 gw_6_5 rfl rfl hR ⟨rfl, rfl, rfl, rfl⟩ rfl (fun w_5 h_5 => ?_)
  subst h_5
  exact ret _ _ _ (z_d dtX4_clear_0 4 rfl) (rfl)

set_option maxRecDepth 100000 in
set_option maxHeartbeats 4000000 in
theorem k_X4_putDead {l : Launch} {D : va_G} {t : Nat → ClassId} {ad : Nat → Nat} {σ : zMem} {k s : Int} (hk : 0 ≤ k ∧ k < 8) (hdd : σ 30 0 = zDb (σ 7)) (h7 : zBo σ 7) (h01 : s = 0 ∨ s = 1) : z_Cv l D t yX4_putDead cX4_putDead 3 0 0 0 0 [.ref (ad 2), .int (zI k), .int (zI s)] (wX ad t σ) (fun w => w = wX ad t (zS σ 30 (zC (zDb (zU (σ 7) k s))))) := by
  refine z_Cv_of (by decide +kernel) [some (.ref (ad 2)), some (.int (zI k)), some (.int (zI s))] rfl rfl (Nat.le_of_ble_eq_true rfl) fun K hl hD ht hR hn C ret => ?_
  subst hl; subst hD; subst ht
  have hD := zDb_b h7
  have hB := zDb_k h7 hk
  have hU := zDb_u (F := σ 7) (v := s) hk
  have hm := Int.mul_comm (zDb (σ 7) / z_p2 k % 2) (z_p2 k)
  refine z_aload_n C (z_d dtX4_putDead_0 0 rfl) rfl ?_
  refine z_iload_n C (z_d dtX4_putDead_0 1 rfl) rfl ?_
  refine z_if_eq (tgt := 16) C (z_d dtX4_putDead_0 2 rfl) (by decide) (by omega) (fun h_2 => ?_) (fun h_2 => ?_)
  · refine z_aload_n C (z_d dtX4_putDead_0 10 rfl) rfl ?_
    refine gf_X4_9 C (z_d dtX4_putDead_0 11 rfl) ?_
    refine z_iconst C (z_d dtX4_putDead_0 12 rfl) ?_
    refine z_iload_n C (z_d dtX4_putDead_0 13 rfl) rfl ?_
    refine z_ishl C (z_d dtX4_putDead_0 14 rfl) (z_shl hk) ?_
    refine z_iconst C (z_d dtX4_putDead_0 15 rfl) ?_
    refine z_ixor C (z_d dtX4_putDead_0 16 rfl) (z_xor1 _) ?_
    refine z_iand C (z_d dtX4_putDead_0 17 rfl) (z_andn (by omega) hk) ?_
    try rw [show σ 30 0 + (1 - σ 30 0 / z_p2 k % 2) * z_p2 k = zDb (zU (σ 7) k s) by rw [hU, hdd, hB, show s = 1 by omega]]
    try rw [show σ 30 0 - σ 30 0 / z_p2 k % 2 * z_p2 k = zDb (zU (σ 7) k s) by rw [hU, hdd, hB, show s = 0 by omega, Int.zero_sub, Int.neg_mul]; rfl]
    refine pf_X4_9 C (z_d dtX4_putDead_0 18 rfl) ?_
    exact ret _ _ _ (z_d dtX4_putDead_0 19 rfl) (rfl)
  · refine z_aload_n C (z_d dtX4_putDead_0 3 rfl) rfl ?_
    refine gf_X4_9 C (z_d dtX4_putDead_0 4 rfl) ?_
    refine z_iconst C (z_d dtX4_putDead_0 5 rfl) ?_
    refine z_iload_n C (z_d dtX4_putDead_0 6 rfl) rfl ?_
    refine z_ishl C (z_d dtX4_putDead_0 7 rfl) (z_shl hk) ?_
    refine z_ior C (z_d dtX4_putDead_0 8 rfl) (z_orb (by omega) hk) ?_
    refine z_goto (tgt := 26) C (z_d dtX4_putDead_0 9 rfl) (by decide) ?_
    try rw [show σ 30 0 + (1 - σ 30 0 / z_p2 k % 2) * z_p2 k = zDb (zU (σ 7) k s) by rw [hU, hdd, hB, show s = 1 by omega]]
    try rw [show σ 30 0 - σ 30 0 / z_p2 k % 2 * z_p2 k = zDb (zU (σ 7) k s) by rw [hU, hdd, hB, show s = 0 by omega, Int.zero_sub, Int.neg_mul]; rfl]
    refine pf_X4_9 C (z_d dtX4_putDead_0 18 rfl) ?_
    exact ret _ _ _ (z_d dtX4_putDead_0 19 rfl) (rfl)

set_option maxRecDepth 100000 in
set_option maxHeartbeats 4000000 in
theorem k_X4_isDead {l : Launch} {D : va_G} {t : Nat → ClassId} {ad : Nat → Nat} {σ : zMem} {k : Int} (hk : 0 ≤ k ∧ k < 8) (hdd : σ 30 0 = zDb (σ 7)) (h7 : zBo σ 7) : z_Ci l D t yX4_isDead cX4_isDead 2 .boolean 0 0 0 0 [.ref (ad 2), .int (zI k)] (wX ad t σ) (fun r w => w = wX ad t σ ∧ ((r = 1 ∧ (σ 7 k = 1)) ∨ (r = 0 ∧ ¬ (σ 7 k = 1)))) := by
  refine z_Ci_of (by decide +kernel) [some (.ref (ad 2)), some (.int (zI k))] rfl rfl (Nat.le_of_ble_eq_true rfl) fun K hl hD ht hR hn C ret => ?_
  subst hl; subst hD; subst ht
  have hD := zDb_b h7
  have hB := zDb_k h7 hk
  have h7k := h7 k
  have hq : 0 ≤ σ 30 0 / z_p2 k ∧ σ 30 0 / z_p2 k < 256 := by
    have hp : 1 ≤ z_p2 k := by unfold z_p2; repeat (split; omega); omega
    have a := Int.ediv_nonneg (a := σ 30 0) (b := z_p2 k) (by omega) (by omega)
    have b := Int.ediv_le_self (z_p2 k) (show 0 ≤ σ 30 0 by omega)
    omega
  refine z_aload_n C (z_d dtX4_isDead_0 0 rfl) rfl ?_
  refine gf_X4_9 C (z_d dtX4_isDead_0 1 rfl) ?_
  refine z_iload_n C (z_d dtX4_isDead_0 2 rfl) rfl ?_
  refine z_ishr C (z_d dtX4_isDead_0 3 rfl) (z_shr (by omega) hk) ?_
  refine z_iconst C (z_d dtX4_isDead_0 4 rfl) ?_
  refine z_iand C (z_d dtX4_isDead_0 5 rfl) (z_and1 hq) ?_
  refine z_iconst C (z_d dtX4_isDead_0 6 rfl) ?_
  refine z_icmp_ne (tgt := 16) C (z_d dtX4_isDead_0 7 rfl) (by decide) (by omega) (fun h_9 => ?_) (fun h_9 => ?_)
  · refine z_iconst C (z_d dtX4_isDead_0 10 rfl) ?_
    exact ret _ _ _ _ (z_d dtX4_isDead_0 11 rfl) (⟨rfl, by rw [hdd, hB] at *; omega⟩) (z_nb (by omega))
  · refine z_iconst C (z_d dtX4_isDead_0 8 rfl) ?_
    refine z_goto (tgt := 17) C (z_d dtX4_isDead_0 9 rfl) (by decide) ?_
    exact ret _ _ _ _ (z_d dtX4_isDead_0 11 rfl) (⟨rfl, by rw [hdd, hB] at *; omega⟩) (z_nb (by omega))

set_option maxRecDepth 100000 in
set_option maxHeartbeats 4000000 in
theorem k_X4_slotOf {l : Launch} {D : va_G} {t : Nat → ClassId} {ad : Nat → Nat} {σ : zMem} {k c v : Int}  : z_Ci l D t yX4_slotOf cX4_slotOf 3 .int 0 0 0 0 [.int (zI k), .int (zI c), .int (zI v)] (wX ad t σ) (fun r w => w = wX ad t σ ∧ r = zAt k c v) := by
  refine z_Ci_of (by decide +kernel) [some (.int (zI k)), some (.int (zI c)), some (.int (zI v))] rfl rfl (Nat.le_of_ble_eq_true rfl) fun K hl hD ht hR hn C ret => ?_
  subst hl; subst hD; subst ht
  refine z_iload_n C (z_d dtX4_slotOf_0 0 rfl) rfl ?_
  refine z_bipush C (z_d dtX4_slotOf_0 1 rfl) zb_72 ?_
  refine z_imul C (z_d dtX4_slotOf_0 2 rfl) ?_
  refine z_iload_n C (z_d dtX4_slotOf_0 3 rfl) rfl ?_
  refine z_iadd C (z_d dtX4_slotOf_0 4 rfl) ?_
  refine z_bipush C (z_d dtX4_slotOf_0 5 rfl) zb_11 ?_
  refine z_imul C (z_d dtX4_slotOf_0 6 rfl) ?_
  refine z_iload_n C (z_d dtX4_slotOf_0 7 rfl) rfl ?_
  refine z_iadd C (z_d dtX4_slotOf_0 8 rfl) ?_
  refine z_iconst C (z_d dtX4_slotOf_0 9 rfl) ?_
  refine z_isub C (z_d dtX4_slotOf_0 10 rfl) ?_
  exact ret _ _ _ _ (z_d dtX4_slotOf_0 11 rfl) (⟨rfl, by unfold zAt; omega⟩) rfl

set_option maxRecDepth 100000 in
set_option maxHeartbeats 4000000 in
theorem k_X4_weightOf {l : Launch} {D : va_G} {t : Nat → ClassId} {ad : Nat → Nat} {σ : zMem} {k c v : Int} (hk : 0 ≤ k ∧ k < 8) (hc : 0 ≤ c ∧ c < 72) (hv : -1 ≤ v ∧ v ≤ 9) : z_Ci l D t yX4_weightOf cX4_weightOf 4 .int 1 22 0 0 [.ref (ad 2), .int (zI k), .int (zI c), .int (zI v)] (wX ad t σ) (fun r w => w = wX ad t σ ∧ r = zWt σ k c v) := by
  refine z_Ci_of (by decide +kernel) [some (.ref (ad 2)), some (.int (zI k)), some (.int (zI c)), some (.int (zI v))] rfl rfl (Nat.le_of_ble_eq_true rfl) fun K hl hD ht hR hn C ret => ?_
  subst hl; subst hD; subst ht
  have ha := zAt_b hk hc hv
  refine z_aload_n C (z_d dtX4_weightOf_0 0 rfl) rfl ?_
  refine gf_X4_15 C (z_d dtX4_weightOf_0 1 rfl) ?_
  refine z_iload_n C (z_d dtX4_weightOf_0 2 rfl) rfl ?_
  refine z_iload_n C (z_d dtX4_weightOf_0 3 rfl) rfl ?_
  refine z_iload_n C (z_d dtX4_weightOf_0 4 rfl) rfl ?_
  refine z_callS C (z_d dtX4_weightOf_0 5 rfl) (k_X4_slotOf  ) cal_X4_slotOf gw_16_9 rfl rfl hR ⟨rfl, rfl, rfl, rfl⟩ rfl (fun r_7 w_7 h_7 => ?_)
  obtain ⟨rfl, rfl⟩ := h_7
  refine al_X14 C (z_d dtX4_weightOf_0 6 rfl) (by omega) ?_
  refine z_iconst C (z_d dtX4_weightOf_0 7 rfl) ?_
  refine z_iadd C (z_d dtX4_weightOf_0 8 rfl) ?_
  exact ret _ _ _ _ (z_d dtX4_weightOf_0 9 rfl) (⟨rfl, rfl⟩) rfl

set_option maxRecDepth 100000 in
set_option maxHeartbeats 4000000 in
theorem k_X4_weightOfAll {l : Launch} {D : va_G} {t : Nat → ClassId} {ad : Nat → Nat} {σ : zMem} {k c : Int} (hk : 0 ≤ k ∧ k < 8) (hc : 0 ≤ c ∧ c < 72) : z_Ci l D t yX4_weightOfAll cX4_weightOfAll 5 .int 2 45 0 0 [.ref (ad 2), .int (zI k), .int (zI c)] (wX ad t σ) (fun r w => w = wX ad t σ ∧ r = zWa σ k c 11) := by
  refine z_Ci_of (by decide +kernel) [some (.ref (ad 2)), some (.int (zI k)), some (.int (zI c)), none, none] rfl rfl (Nat.le_of_ble_eq_true rfl) fun K hl hD ht hR hn C ret => ?_
  subst hl; subst hD; subst ht
  refine z_iconst C (z_d dtX4_weightOfAll_0 0 rfl) ?_
  refine z_istore_n3 C (z_d dtX4_weightOfAll_0 1 rfl) rfl ?_
  refine z_iconst C (z_d dtX4_weightOfAll_0 2 rfl) ?_
  refine z_istore4 C (z_d dtX4_weightOfAll_0 3 rfl) rfl ?_
  have lp_5 : ∀ (N_5 : Nat) (i : Nat) (v s : Int), (v = i - 1 ∧ i ≤ 11) → (s = zWa σ k c i) → 11 - i < N_5 → Gd K 0 0 5 [some (.ref (ad 2)), some (.int (zI k)), some (.int (zI c)), some (.int (zI s)), some (.int (zI v))] [] (wX ad (z_t K) σ) := by
    intro N_5
    induction N_5 with
    | zero => intro i v s hi hs hm_5; exact absurd hm_5 (Nat.not_lt_zero _)
    | succ N_5 ih_5 =>
      intro i v s hi hs hm_5
      obtain ⟨rfl, hi⟩ := hi
      refine z_iload C (z_d dtX4_weightOfAll_0 4 rfl) rfl ?_
      refine z_bipush C (z_d dtX4_weightOfAll_0 5 rfl) zb_9 ?_
      refine z_icmp_gt (tgt := 29) C (z_d dtX4_weightOfAll_0 6 rfl) (by decide) (by omega) (fun h_9 => ?_) (fun h_9 => ?_)
      · refine z_iload_n C (z_d dtX4_weightOfAll_0 17 rfl) rfl ?_
        exact ret _ _ _ _ (z_d dtX4_weightOfAll_0 18 rfl) (⟨rfl, by rw [hs, show i = 11 by omega]⟩) rfl
      · refine z_iload_n C (z_d dtX4_weightOfAll_0 7 rfl) rfl ?_
        refine z_aload_n C (z_d dtX4_weightOfAll_0 8 rfl) rfl ?_
        refine z_iload_n C (z_d dtX4_weightOfAll_0 9 rfl) rfl ?_
        refine z_iload_n C (z_d dtX4_weightOfAll_0 10 rfl) rfl ?_
        refine z_iload C (z_d dtX4_weightOfAll_0 11 rfl) rfl ?_
        refine z_callV C (z_d dtX4_weightOfAll_0 12 rfl) (k_X4_weightOf  (by first | assumption | omega) (by first | assumption | omega) (by first | assumption | omega)) cal_X4_weightOf gw_19_11 rfl 2 4 rfl rfl rfl rfl hR ⟨rfl, rfl, rfl, rfl⟩ rfl (fun r_18 w_18 h_18 => ?_)
        obtain ⟨rfl, rfl⟩ := h_18
        refine z_iadd C (z_d dtX4_weightOfAll_0 13 rfl) ?_
        refine z_istore_n3 C (z_d dtX4_weightOfAll_0 14 rfl) rfl ?_
        refine z_iinc4 C (z_d dtX4_weightOfAll_0 15 rfl) rfl ?_
        refine z_goto (tgt := 5) C (z_d dtX4_weightOfAll_0 16 rfl) (by decide) ?_
        exact ih_5 (i + 1) _ _ (by omega) (by rw [zWa, hs]) (by omega)
  exact lp_5 _ 0 _ _ (by omega) rfl (Nat.lt_succ_self _)

set_option maxRecDepth 100000 in
set_option maxHeartbeats 4000000 in
theorem k_X4_greatestWeight {l : Launch} {D : va_G} {t : Nat → ClassId} {ad : Nat → Nat} {σ : zMem} {k v n : Int} (hk : 0 ≤ k ∧ k < 8) (hv : -1 ≤ v ∧ v ≤ 9) (hmp : zMp σ) (hn2 : 1 ≤ n ∧ n ≤ 72) : z_Ci l D t yX4_greatestWeight cX4_greatestWeight 6 .int 2 45 0 0 [.ref (ad 2), .int (zI k), .int (zI v), .int (zI n)] (wX ad t σ) (fun r w => w = wX ad t σ ∧ r = zGw σ k v n.toNat) := by
  refine z_Ci_of (by decide +kernel) [some (.ref (ad 2)), some (.int (zI k)), some (.int (zI v)), some (.int (zI n)), none, none] rfl rfl (Nat.le_of_ble_eq_true rfl) fun K hl hD ht hR hn C ret => ?_
  subst hl; subst hD; subst ht
  refine z_iconst C (z_d dtX4_greatestWeight_0 0 rfl) ?_
  refine z_istore4 C (z_d dtX4_greatestWeight_0 1 rfl) rfl ?_
  refine z_iconst C (z_d dtX4_greatestWeight_0 2 rfl) ?_
  refine z_istore5 C (z_d dtX4_greatestWeight_0 3 rfl) rfl ?_
  have lp_6 : ∀ (N_6 : Nat) (i : Nat) (c g : Int), (c = i ∧ i ≤ n.toNat) → (g = zGw σ k v i) → n.toNat - i < N_6 → Gd K 0 0 6 [some (.ref (ad 2)), some (.int (zI k)), some (.int (zI v)), some (.int (zI n)), some (.int (zI g)), some (.int (zI c))] [] (wX ad (z_t K) σ) := by
    intro N_6
    induction N_6 with
    | zero => intro i c g hi hg hm_6; exact absurd hm_6 (Nat.not_lt_zero _)
    | succ N_6 ih_6 =>
      intro i c g hi hg hm_6
      obtain ⟨rfl, hi⟩ := hi
      have hb1 := zGw_b hmp k v i
      have hb2 := zWt_b hmp k i v
      refine z_iload C (z_d dtX4_greatestWeight_0 4 rfl) rfl ?_
      refine z_iload_n C (z_d dtX4_greatestWeight_0 5 rfl) rfl ?_
      refine z_icmp_ge (tgt := 33) C (z_d dtX4_greatestWeight_0 6 rfl) (by decide) (by omega) (fun h_9 => ?_) (fun h_9 => ?_)
      · refine z_iload C (z_d dtX4_greatestWeight_0 17 rfl) rfl ?_
        exact ret _ _ _ _ (z_d dtX4_greatestWeight_0 18 rfl) (⟨rfl, by rw [hg, show i = n.toNat by omega]⟩) rfl
      · refine z_iload C (z_d dtX4_greatestWeight_0 7 rfl) rfl ?_
        refine z_aload_n C (z_d dtX4_greatestWeight_0 8 rfl) rfl ?_
        refine z_iload_n C (z_d dtX4_greatestWeight_0 9 rfl) rfl ?_
        refine z_iload C (z_d dtX4_greatestWeight_0 10 rfl) rfl ?_
        refine z_iload_n C (z_d dtX4_greatestWeight_0 11 rfl) rfl ?_
        refine z_callV C (z_d dtX4_greatestWeight_0 12 rfl) (k_X4_weightOf  (by first | assumption | omega) (by first | assumption | omega) (by first | assumption | omega)) cal_X4_weightOf gw_19_11 rfl 2 4 rfl rfl rfl rfl hR ⟨rfl, rfl, rfl, rfl⟩ rfl (fun r_19 w_19 h_19 => ?_)
        obtain ⟨rfl, rfl⟩ := h_19
        refine z_mmaxP C (z_d dtX4_greatestWeight_0 13 rfl) gw_22_21 gw_9_23 gw_9_20 gw_10_0 rfl (by rw [hR]; exact Nat.le_of_ble_eq_true rfl) (by rw [hR]; exact Nat.le_of_ble_eq_true rfl) (by rw [hR]; exact Nat.le_refl _) (by rw [hR]; exact Nat.le_refl _) (by omega) (fun m_22 h_22 => ?_)
        refine z_istore4 C (z_d dtX4_greatestWeight_0 14 rfl) rfl ?_
        refine z_iinc5 C (z_d dtX4_greatestWeight_0 15 rfl) rfl ?_
        refine z_goto (tgt := 6) C (z_d dtX4_greatestWeight_0 16 rfl) (by decide) ?_
        exact ih_6 (i + 1) _ _ (by omega) (by rw [zGw]; split <;> omega) (by omega)
  exact lp_6 _ 0 _ _ (by omega) rfl (Nat.lt_succ_self _)

set_option maxRecDepth 100000 in
set_option maxHeartbeats 4000000 in
theorem k_X4_addRow {l : Launch} {D : va_G} {t : Nat → ClassId} {ad : Nat → Nat} {σ : zMem} {z row c : Int} (hz : 0 ≤ z ∧ z < 4) (hit : zIt σ) (hrow : 0 ≤ row ∧ row < 30) (hc : 0 ≤ c ∧ c < 72) (hmp : zMp σ) : z_Ci l D t yX4_addRow cX4_addRow 8 .int 1 23 0 0 [.ref (ad 2), .ref (ad (22 + z.toNat)), .int (zI row), .int (zI c)] (wX ad t σ) (fun r w => w = wX ad t (zS σ 8 (zSv σ z row c 8)) ∧ r = zSn σ z row 8) := by
  refine z_Ci_of (by decide +kernel) [some (.ref (ad 2)), some (.ref (ad (22 + z.toNat))), some (.int (zI row)), some (.int (zI c)), none, none, none, none] rfl rfl (Nat.le_of_ble_eq_true rfl) fun K hl hD ht hR hn C ret => ?_
  subst hl; subst hD; subst ht
  refine z_iconst C (z_d dtX4_addRow_0 0 rfl) ?_
  refine z_istore4 C (z_d dtX4_addRow_0 1 rfl) rfl ?_
  refine z_iconst C (z_d dtX4_addRow_0 2 rfl) ?_
  refine z_istore5 C (z_d dtX4_addRow_0 3 rfl) rfl ?_
  have lp_6 : ∀ (N_6 : Nat) (i : Nat) (k s : Int) (μ : zMem), (k = i ∧ i ≤ 8) → (s = zSn σ z row i) → (μ = zS σ 8 (zSv σ z row c i)) → 8 - i < N_6 → Gd K 0 0 6 [some (.ref (ad 2)), some (.ref (ad (22 + z.toNat))), some (.int (zI row)), some (.int (zI c)), some (.int (zI s)), some (.int (zI k)), none, none] [] (wX ad (z_t K) μ) := by
    intro N_6
    induction N_6 with
    | zero => intro i k s μ hi hs hm hm_6; exact absurd hm_6 (Nat.not_lt_zero _)
    | succ N_6 ih_6 =>
      intro i k s μ hi hs hm hm_6
      obtain ⟨rfl, hi⟩ := hi
      have e8 : μ 8 = zSv σ z row c i := by rw [hm]; rfl
      have e20 : μ 20 = σ 20 := by rw [hm]; rfl
      have hit2 : zIt μ := by unfold zIt; rw [e20]; exact hit
      have hb := zSv_b hmp z row c i
      have hv9 := zH0_b (zHv σ z row i)
      refine z_iload C (z_d dtX4_addRow_0 4 rfl) rfl ?_
      refine z_bipush C (z_d dtX4_addRow_0 5 rfl) zb_8 ?_
      refine z_icmp_ge (tgt := 70) C (z_d dtX4_addRow_0 6 rfl) (by decide) (by omega) (fun h_10 => ?_) (fun h_10 => ?_)
      · refine z_iload C (z_d dtX4_addRow_0 35 rfl) rfl ?_
        exact ret _ _ _ _ (z_d dtX4_addRow_0 36 rfl) (⟨by rw [hm, show i = 8 by omega], by rw [hs, show i = 8 by omega]⟩) rfl
      · refine z_aload_n C (z_d dtX4_addRow_0 7 rfl) rfl ?_
        refine z_iload_n C (z_d dtX4_addRow_0 8 rfl) rfl ?_
        refine z_iload C (z_d dtX4_addRow_0 9 rfl) rfl ?_
        refine z_callV C (z_d dtX4_addRow_0 10 rfl) (k_X5_heardOf  (by first | assumption | omega) hit2 (by first | assumption | omega) (by first | assumption | omega)) cal_X5_heardOf gw_16_5 rfl (22 + _) 5 (wX_sh (by omega)) rfl rfl rfl hR ⟨rfl, rfl, rfl, rfl⟩ rfl (fun r_17 w_17 h_17 => ?_)
        obtain ⟨rfl, hr17⟩ := h_17
        rw [show zHv μ z row i = zHv σ z row i by unfold zHv; rw [e20]] at hr17
        subst hr17
        refine z_istore6 C (z_d dtX4_addRow_0 11 rfl) rfl ?_
        refine z_iload C (z_d dtX4_addRow_0 12 rfl) rfl ?_
        refine z_bipush C (z_d dtX4_addRow_0 13 rfl) zb_m2 ?_
        refine z_icmp_eq (tgt := 64) C (z_d dtX4_addRow_0 14 rfl) (by decide) (by omega) (fun h_26 => ?_) (fun h_26 => ?_)
        · refine z_iinc5 C (z_d dtX4_addRow_0 33 rfl) rfl ?_
          refine z_goto (tgt := 6) C (z_d dtX4_addRow_0 34 rfl) (by decide) ?_
          refine z_drop6 ?_
          exact ih_6 (i + 1) _ _ _ (by omega) (by rw [zSn]; (first | rw [if_pos (by omega)] | rw [if_neg (by omega)]); omega) (by
                rw [zSv]
                first
                  | rw [if_pos (by omega)]; exact hm
                  | (rw [if_neg (by omega), e8, show m_60 = (if zSv σ z row c i (zAt i c (zH0 (zHv σ z row i))) < 255 then zSv σ z row c i (zAt i c (zH0 (zHv σ z row i))) + 1 else 255) by have := hb (zAt i c (zH0 (zHv σ z row i))); split <;> omega]; rw [hm]; funext j; unfold zS; cases hj : Nat.beq j 8 <;> rfl)) (by omega)
        · refine z_iinc4 C (z_d dtX4_addRow_0 15 rfl) rfl ?_
          refine z_iload C (z_d dtX4_addRow_0 16 rfl) rfl ?_
          refine z_iload_n C (z_d dtX4_addRow_0 17 rfl) rfl ?_
          refine z_iload C (z_d dtX4_addRow_0 18 rfl) rfl ?_
          refine z_callS C (z_d dtX4_addRow_0 19 rfl) (k_X4_slotOf  ) cal_X4_slotOf gw_16_9 rfl rfl hR ⟨rfl, rfl, rfl, rfl⟩ rfl (fun r_37 w_37 h_37 => ?_)
          obtain ⟨rfl, rfl⟩ := h_37
          have ha := zAt_b (k := (i : Int)) (c := c) (v := zH0 (zHv σ z row i)) (by omega) hc (by omega)
          have hb3 := hb (zAt i c (zH0 (zHv σ z row i)))
          refine z_istore7 C (z_d dtX4_addRow_0 20 rfl) rfl ?_
          refine z_aload_n C (z_d dtX4_addRow_0 21 rfl) rfl ?_
          refine gf_X4_15 C (z_d dtX4_addRow_0 22 rfl) ?_
          refine z_iload C (z_d dtX4_addRow_0 23 rfl) rfl ?_
          refine z_sipush C (z_d dtX4_addRow_0 24 rfl) zs_255 ?_
          refine z_aload_n C (z_d dtX4_addRow_0 25 rfl) rfl ?_
          refine gf_X4_15 C (z_d dtX4_addRow_0 26 rfl) ?_
          refine z_iload C (z_d dtX4_addRow_0 27 rfl) rfl ?_
          refine al_X14 C (z_d dtX4_addRow_0 28 rfl) (by omega) ?_
          try simp (decide := true) only [zS_s, zS_o, zC, e8]
          refine z_iconst C (z_d dtX4_addRow_0 29 rfl) ?_
          refine z_iadd C (z_d dtX4_addRow_0 30 rfl) ?_
          refine z_mminP C (z_d dtX4_addRow_0 31 rfl) gw_16_4 gw_9_19 gw_9_20 gw_9_21 rfl (by rw [hR]; exact Nat.le_of_ble_eq_true rfl) (by rw [hR]; exact Nat.le_of_ble_eq_true rfl) (by rw [hR]; exact Nat.le_refl _) (by rw [hR]; exact Nat.le_refl _) (by omega) (fun m_60 h_60 => ?_)
          refine as_X14 C (z_d dtX4_addRow_0 32 rfl) (by omega) ?_
          refine z_iinc5 C (z_d dtX4_addRow_0 33 rfl) rfl ?_
          refine z_goto (tgt := 6) C (z_d dtX4_addRow_0 34 rfl) (by decide) ?_
          refine z_drop6 ?_
          refine z_drop7 ?_
          exact ih_6 (i + 1) _ _ _ (by omega) (by rw [zSn]; (first | rw [if_pos (by omega)] | rw [if_neg (by omega)]); omega) (by
                rw [zSv]
                first
                  | rw [if_pos (by omega)]; exact hm
                  | (rw [if_neg (by omega), e8, show m_60 = (if zSv σ z row c i (zAt i c (zH0 (zHv σ z row i))) < 255 then zSv σ z row c i (zAt i c (zH0 (zHv σ z row i))) + 1 else 255) by have := hb (zAt i c (zH0 (zHv σ z row i))); split <;> omega]; rw [hm]; funext j; unfold zS; cases hj : Nat.beq j 8 <;> rfl)) (by omega)
  exact lp_6 _ 0 _ _ _ (by omega) rfl (by funext j; unfold zS; cases hj : Nat.beq j 8 with
      | true => rw [Nat.eq_of_beq_eq_true hj]; rfl
      | false => rfl) (Nat.lt_succ_self _)

set_option maxRecDepth 100000 in
set_option maxHeartbeats 4000000 in
theorem k_X4_rowWeight {l : Launch} {D : va_G} {t : Nat → ClassId} {ad : Nat → Nat} {σ : zMem} {z row c o wo : Int} (hz : 0 ≤ z ∧ z < 4) (hit : zIt σ) (hrow : 0 ≤ row ∧ row < 30) (hc : 0 ≤ c ∧ c < 72) (hmp : zMp σ) (hdd : σ 30 0 = zDb (σ 7)) (h7 : zBo σ 7) (ho : -4 ≤ o ∧ o ≤ 4) (hwo : -1 ≤ wo ∧ wo < 8) : z_Ci l D t yX4_rowWeight cX4_rowWeight 9 .int 2 47 0 0 [.ref (ad 2), .ref (ad (22 + z.toNat)), .int (zI row), .int (zI c), .int (zI o), .int (zI wo)] (wX ad t σ) (fun r w => w = wX ad t σ ∧ r = zRw σ z row c o wo 8) := by
  refine z_Ci_of (by decide +kernel) [some (.ref (ad 2)), some (.ref (ad (22 + z.toNat))), some (.int (zI row)), some (.int (zI c)), some (.int (zI o)), some (.int (zI wo)), none, none, none] rfl rfl (Nat.le_of_ble_eq_true rfl) fun K hl hD ht hR hn C ret => ?_
  subst hl; subst hD; subst ht
  refine z_iconst C (z_d dtX4_rowWeight_0 0 rfl) ?_
  refine z_istore6 C (z_d dtX4_rowWeight_0 1 rfl) rfl ?_
  refine z_iconst C (z_d dtX4_rowWeight_0 2 rfl) ?_
  refine z_istore7 C (z_d dtX4_rowWeight_0 3 rfl) rfl ?_
  have lp_6 : ∀ (N_6 : Nat) (i : Nat) (k s : Int), (k = i ∧ i ≤ 8) → (s = zRw σ z row c o wo i) → 8 - i < N_6 → Gd K 0 0 6 [some (.ref (ad 2)), some (.ref (ad (22 + z.toNat))), some (.int (zI row)), some (.int (zI c)), some (.int (zI o)), some (.int (zI wo)), some (.int (zI s)), some (.int (zI k)), none] [] (wX ad (z_t K) σ) := by
    intro N_6
    induction N_6 with
    | zero => intro i k s hi hs hm_6; exact absurd hm_6 (Nat.not_lt_zero _)
    | succ N_6 ih_6 =>
      intro i k s hi hs hm_6
      obtain ⟨rfl, hi⟩ := hi
      have hv9 := zHo_b (zHv σ z row i) o
      have h7i := h7 i
      refine z_iload C (z_d dtX4_rowWeight_0 4 rfl) rfl ?_
      refine z_bipush C (z_d dtX4_rowWeight_0 5 rfl) zb_8 ?_
      refine z_icmp_ge (tgt := 67) C (z_d dtX4_rowWeight_0 6 rfl) (by decide) (by omega) (fun h_10 => ?_) (fun h_10 => ?_)
      · refine z_iload C (z_d dtX4_rowWeight_0 33 rfl) rfl ?_
        exact ret _ _ _ _ (z_d dtX4_rowWeight_0 34 rfl) (⟨rfl, by rw [hs, show i = 8 by omega]⟩) rfl
      · refine z_aload_n C (z_d dtX4_rowWeight_0 7 rfl) rfl ?_
        refine z_iload_n C (z_d dtX4_rowWeight_0 8 rfl) rfl ?_
        refine z_iload C (z_d dtX4_rowWeight_0 9 rfl) rfl ?_
        refine z_iload C (z_d dtX4_rowWeight_0 10 rfl) rfl ?_
        refine z_callV C (z_d dtX4_rowWeight_0 11 rfl) (k_X5_heardBy  (by first | assumption | omega) (by first | assumption | omega) (by first | assumption | omega) (by first | assumption | omega) (by first | assumption | omega)) cal_X5_heardBy gw_19_0 rfl (22 + _) 5 (wX_sh (by omega)) rfl rfl rfl hR ⟨rfl, rfl, rfl, rfl⟩ rfl (fun r_19 w_19 h_19 => ?_)
        obtain ⟨rfl, rfl⟩ := h_19
        refine z_istore8 C (z_d dtX4_rowWeight_0 12 rfl) rfl ?_
        refine z_iload C (z_d dtX4_rowWeight_0 13 rfl) rfl ?_
        refine z_bipush C (z_d dtX4_rowWeight_0 14 rfl) zb_m2 ?_
        refine z_icmp_eq (tgt := 61) C (z_d dtX4_rowWeight_0 15 rfl) (by decide) (by omega) (fun h_28 => ?_) (fun h_28 => ?_)
        · refine z_iinc7 C (z_d dtX4_rowWeight_0 31 rfl) rfl ?_
          refine z_goto (tgt := 6) C (z_d dtX4_rowWeight_0 32 rfl) (by decide) ?_
          refine z_drop8 ?_
          exact ih_6 (i + 1) _ _ (by omega) (by rw [zRw, hs]; (first | rw [if_pos (by omega)] | rw [if_neg (by omega)]) <;> first | rfl | omega) (by omega)
        · refine z_iload C (z_d dtX4_rowWeight_0 16 rfl) rfl ?_
          refine z_iload C (z_d dtX4_rowWeight_0 17 rfl) rfl ?_
          refine z_icmp_eq (tgt := 61) C (z_d dtX4_rowWeight_0 18 rfl) (by decide) (by omega) (fun h_35 => ?_) (fun h_35 => ?_)
          · refine z_iinc7 C (z_d dtX4_rowWeight_0 31 rfl) rfl ?_
            refine z_goto (tgt := 6) C (z_d dtX4_rowWeight_0 32 rfl) (by decide) ?_
            refine z_drop8 ?_
            exact ih_6 (i + 1) _ _ (by omega) (by rw [zRw, hs]; (first | rw [if_pos (by omega)] | rw [if_neg (by omega)]) <;> first | rfl | omega) (by omega)
          · refine z_aload_n C (z_d dtX4_rowWeight_0 19 rfl) rfl ?_
            refine z_iload C (z_d dtX4_rowWeight_0 20 rfl) rfl ?_
            refine z_callV C (z_d dtX4_rowWeight_0 21 rfl) (k_X4_isDead  (by first | assumption | omega) (by first | assumption | omega) (by first | assumption | omega)) cal_X4_isDead gw_19_7 rfl 2 4 rfl rfl rfl rfl hR ⟨rfl, rfl, rfl, rfl⟩ rfl (fun r_41 w_41 h_41 => ?_)
            obtain ⟨rfl, h_41⟩ := h_41
            refine z_if_ne (tgt := 61) C (z_d dtX4_rowWeight_0 22 rfl) (by decide) (by omega) (fun h_44 => ?_) (fun h_44 => ?_)
            · refine z_iinc7 C (z_d dtX4_rowWeight_0 31 rfl) rfl ?_
              refine z_goto (tgt := 6) C (z_d dtX4_rowWeight_0 32 rfl) (by decide) ?_
              refine z_drop8 ?_
              exact ih_6 (i + 1) _ _ (by omega) (by rw [zRw, hs]; (first | rw [if_pos (by omega)] | rw [if_neg (by omega)]) <;> first | rfl | omega) (by omega)
            · refine z_iload C (z_d dtX4_rowWeight_0 23 rfl) rfl ?_
              refine z_aload_n C (z_d dtX4_rowWeight_0 24 rfl) rfl ?_
              refine z_iload C (z_d dtX4_rowWeight_0 25 rfl) rfl ?_
              refine z_iload_n C (z_d dtX4_rowWeight_0 26 rfl) rfl ?_
              refine z_iload C (z_d dtX4_rowWeight_0 27 rfl) rfl ?_
              refine z_callV C (z_d dtX4_rowWeight_0 28 rfl) (k_X4_weightOf  (by first | assumption | omega) (by first | assumption | omega) (by first | assumption | omega)) cal_X4_weightOf gw_19_11 rfl 2 4 rfl rfl rfl rfl hR ⟨rfl, rfl, rfl, rfl⟩ rfl (fun r_55 w_55 h_55 => ?_)
              obtain ⟨rfl, rfl⟩ := h_55
              refine z_iadd C (z_d dtX4_rowWeight_0 29 rfl) ?_
              refine z_istore6 C (z_d dtX4_rowWeight_0 30 rfl) rfl ?_
              refine z_iinc7 C (z_d dtX4_rowWeight_0 31 rfl) rfl ?_
              refine z_goto (tgt := 6) C (z_d dtX4_rowWeight_0 32 rfl) (by decide) ?_
              refine z_drop8 ?_
              exact ih_6 (i + 1) _ _ (by omega) (by rw [zRw, hs]; (first | rw [if_pos (by omega)] | rw [if_neg (by omega)]) <;> first | rfl | omega) (by omega)
  exact lp_6 _ 0 _ _ (by omega) rfl (Nat.lt_succ_self _)

set_option maxRecDepth 100000 in
set_option maxHeartbeats 4000000 in
theorem k_X4_bestOffset {l : Launch} {D : va_G} {t : Nat → ClassId} {ad : Nat → Nat} {σ : zMem} {z row c : Int} (hz : 0 ≤ z ∧ z < 4) (hit : zIt σ) (hrow : 0 ≤ row ∧ row < 30) (hc : 0 ≤ c ∧ c < 72) (hmp : zMp σ) (hdd : σ 30 0 = zDb (σ 7)) (h7 : zBo σ 7) : z_Ci l D t yX4_bestOffset cX4_bestOffset 9 .int 3 75 0 0 [.ref (ad 2), .ref (ad (22 + z.toNat)), .int (zI row), .int (zI c)] (wX ad t σ) (fun r w => w = wX ad t σ ∧ r = (zOf σ z row c 4).1) := by
  refine z_Ci_of (by decide +kernel) [some (.ref (ad 2)), some (.ref (ad (22 + z.toNat))), some (.int (zI row)), some (.int (zI c)), none, none, none, none, none] rfl rfl (Nat.le_of_ble_eq_true rfl) fun K hl hD ht hR hn C ret => ?_
  subst hl; subst hD; subst ht
  refine z_iconst C (z_d dtX4_bestOffset_0 0 rfl) ?_
  refine z_istore4 C (z_d dtX4_bestOffset_0 1 rfl) rfl ?_
  refine z_aload_n C (z_d dtX4_bestOffset_0 2 rfl) rfl ?_
  refine z_aload_n C (z_d dtX4_bestOffset_0 3 rfl) rfl ?_
  refine z_iload_n C (z_d dtX4_bestOffset_0 4 rfl) rfl ?_
  refine z_iload_n C (z_d dtX4_bestOffset_0 5 rfl) rfl ?_
  refine z_iconst C (z_d dtX4_bestOffset_0 6 rfl) ?_
  refine z_iconst C (z_d dtX4_bestOffset_0 7 rfl) ?_
  refine z_callV C (z_d dtX4_bestOffset_0 8 rfl) (k_X4_rowWeight  (by first | assumption | omega) (by first | assumption | omega) (by first | assumption | omega) (by first | assumption | omega) (by first | assumption | omega) (by first | assumption | omega) (by first | assumption | omega) (by first | assumption | omega) (by first | assumption | omega)) cal_X4_rowWeight gw_18_20 rfl 2 4 rfl rfl rfl rfl hR ⟨rfl, rfl, rfl, rfl⟩ rfl (fun r_9 w_9 h_9 => ?_)
  obtain ⟨rfl, rfl⟩ := h_9
  refine z_istore5 C (z_d dtX4_bestOffset_0 9 rfl) rfl ?_
  refine z_iconst C (z_d dtX4_bestOffset_0 10 rfl) ?_
  refine z_istore6 C (z_d dtX4_bestOffset_0 11 rfl) rfl ?_
  have lp_17 : ∀ (N_17 : Nat) (i : Nat) (a b m : Int), (a = i + 1 ∧ i ≤ 4) → ((b, m) = zOf σ z row c i) → (0 ≤ m ∧ m ≤ 2048) → 4 - i < N_17 → Gd K 0 0 17 [some (.ref (ad 2)), some (.ref (ad (22 + z.toNat))), some (.int (zI row)), some (.int (zI c)), some (.int (zI b)), some (.int (zI m)), some (.int (zI a)), none, none] [] (wX ad (z_t K) σ) := by
    intro N_17
    induction N_17 with
    | zero => intro i a b m hi hs hm hm_17; exact absurd hm_17 (Nat.not_lt_zero _)
    | succ N_17 ih_17 =>
      intro i a b m hi hs hm hm_17
      obtain ⟨rfl, hi⟩ := hi
      have hw1 := zRw_b hmp z row c (-((i : Int) + 1)) (-1) 8
      have hw2 := zRw_b hmp z row c ((i : Int) + 1) (-1) 8
      refine z_iload C (z_d dtX4_bestOffset_0 12 rfl) rfl ?_
      refine z_iconst C (z_d dtX4_bestOffset_0 13 rfl) ?_
      refine z_icmp_gt (tgt := 85) C (z_d dtX4_bestOffset_0 14 rfl) (by decide) (by omega) (fun h_20 => ?_) (fun h_20 => ?_)
      · refine z_iload C (z_d dtX4_bestOffset_1 9 rfl) rfl ?_
        exact ret _ _ _ _ (z_d dtX4_bestOffset_1 10 rfl) (⟨rfl, by rw [show (4 : Nat) = i by omega, ← hs]⟩) rfl
      · refine z_aload_n C (z_d dtX4_bestOffset_0 15 rfl) rfl ?_
        refine z_aload_n C (z_d dtX4_bestOffset_0 16 rfl) rfl ?_
        refine z_iload_n C (z_d dtX4_bestOffset_0 17 rfl) rfl ?_
        refine z_iload_n C (z_d dtX4_bestOffset_0 18 rfl) rfl ?_
        refine z_iload C (z_d dtX4_bestOffset_0 19 rfl) rfl ?_
        refine z_ineg C (z_d dtX4_bestOffset_0 20 rfl) ?_
        refine z_iconst C (z_d dtX4_bestOffset_0 21 rfl) ?_
        refine z_callV C (z_d dtX4_bestOffset_0 22 rfl) (k_X4_rowWeight  (by first | assumption | omega) (by first | assumption | omega) (by first | assumption | omega) (by first | assumption | omega) (by first | assumption | omega) (by first | assumption | omega) (by first | assumption | omega) (by first | assumption | omega) (by first | assumption | omega)) cal_X4_rowWeight gw_18_20 rfl 2 4 rfl rfl rfl rfl hR ⟨rfl, rfl, rfl, rfl⟩ rfl (fun r_31 w_31 h_31 => ?_)
        obtain ⟨rfl, rfl⟩ := h_31
        refine z_istore7 C (z_d dtX4_bestOffset_0 23 rfl) rfl ?_
        refine z_iload C (z_d dtX4_bestOffset_0 24 rfl) rfl ?_
        refine z_iload C (z_d dtX4_bestOffset_0 25 rfl) rfl ?_
        refine z_icmp_le (tgt := 52) C (z_d dtX4_bestOffset_0 26 rfl) (by decide) (by omega) (fun h_40 => ?_) (fun h_40 => ?_)
        · refine z_aload_n C (z_d dtX4_bestOffset_0 32 rfl) rfl ?_
          refine z_aload_n C (z_d dtX4_bestOffset_0 33 rfl) rfl ?_
          refine z_iload_n C (z_d dtX4_bestOffset_0 34 rfl) rfl ?_
          refine z_iload_n C (z_d dtX4_bestOffset_0 35 rfl) rfl ?_
          refine z_iload C (z_d dtX4_bestOffset_0 36 rfl) rfl ?_
          refine z_iconst C (z_d dtX4_bestOffset_0 37 rfl) ?_
          refine z_callV C (z_d dtX4_bestOffset_0 38 rfl) (k_X4_rowWeight  (by first | assumption | omega) (by first | assumption | omega) (by first | assumption | omega) (by first | assumption | omega) (by first | assumption | omega) (by first | assumption | omega) (by first | assumption | omega) (by first | assumption | omega) (by first | assumption | omega)) cal_X4_rowWeight gw_18_20 rfl 2 4 rfl rfl rfl rfl hR ⟨rfl, rfl, rfl, rfl⟩ rfl (fun r_59 w_59 h_59 => ?_)
          obtain ⟨rfl, rfl⟩ := h_59
          refine z_istore8 C (z_d dtX4_bestOffset_0 39 rfl) rfl ?_
          refine z_iload C (z_d dtX4_bestOffset_1 0 rfl) rfl ?_
          refine z_iload C (z_d dtX4_bestOffset_1 1 rfl) rfl ?_
          refine z_icmp_le (tgt := 79) C (z_d dtX4_bestOffset_1 2 rfl) (by decide) (by omega) (fun h_68 => ?_) (fun h_68 => ?_)
          · refine z_iinc6 C (z_d dtX4_bestOffset_1 7 rfl) rfl ?_
            refine z_goto (tgt := 17) C (z_d dtX4_bestOffset_1 8 rfl) (by decide) ?_
            refine z_drop7 ?_
            refine z_drop8 ?_
            exact ih_17 (i + 1) _ _ _ (by omega) (by first | exact zOf_11 hs (by omega) (by omega) | exact zOf_10 hs (by omega) (by omega) | exact zOf_01 hs (by omega) (by omega) | exact zOf_00 hs (by omega) (by omega)) (by omega) (by omega)
          · refine z_iload C (z_d dtX4_bestOffset_1 3 rfl) rfl ?_
            refine z_istore5 C (z_d dtX4_bestOffset_1 4 rfl) rfl ?_
            refine z_iload C (z_d dtX4_bestOffset_1 5 rfl) rfl ?_
            refine z_istore4 C (z_d dtX4_bestOffset_1 6 rfl) rfl ?_
            refine z_iinc6 C (z_d dtX4_bestOffset_1 7 rfl) rfl ?_
            refine z_goto (tgt := 17) C (z_d dtX4_bestOffset_1 8 rfl) (by decide) ?_
            refine z_drop7 ?_
            refine z_drop8 ?_
            exact ih_17 (i + 1) _ _ _ (by omega) (by first | exact zOf_11 hs (by omega) (by omega) | exact zOf_10 hs (by omega) (by omega) | exact zOf_01 hs (by omega) (by omega) | exact zOf_00 hs (by omega) (by omega)) (by omega) (by omega)
        · refine z_iload C (z_d dtX4_bestOffset_0 27 rfl) rfl ?_
          refine z_istore5 C (z_d dtX4_bestOffset_0 28 rfl) rfl ?_
          refine z_iload C (z_d dtX4_bestOffset_0 29 rfl) rfl ?_
          refine z_ineg C (z_d dtX4_bestOffset_0 30 rfl) ?_
          refine z_istore4 C (z_d dtX4_bestOffset_0 31 rfl) rfl ?_
          refine z_aload_n C (z_d dtX4_bestOffset_0 32 rfl) rfl ?_
          refine z_aload_n C (z_d dtX4_bestOffset_0 33 rfl) rfl ?_
          refine z_iload_n C (z_d dtX4_bestOffset_0 34 rfl) rfl ?_
          refine z_iload_n C (z_d dtX4_bestOffset_0 35 rfl) rfl ?_
          refine z_iload C (z_d dtX4_bestOffset_0 36 rfl) rfl ?_
          refine z_iconst C (z_d dtX4_bestOffset_0 37 rfl) ?_
          refine z_callV C (z_d dtX4_bestOffset_0 38 rfl) (k_X4_rowWeight  (by first | assumption | omega) (by first | assumption | omega) (by first | assumption | omega) (by first | assumption | omega) (by first | assumption | omega) (by first | assumption | omega) (by first | assumption | omega) (by first | assumption | omega) (by first | assumption | omega)) cal_X4_rowWeight gw_18_20 rfl 2 4 rfl rfl rfl rfl hR ⟨rfl, rfl, rfl, rfl⟩ rfl (fun r_59 w_59 h_59 => ?_)
          obtain ⟨rfl, rfl⟩ := h_59
          refine z_istore8 C (z_d dtX4_bestOffset_0 39 rfl) rfl ?_
          refine z_iload C (z_d dtX4_bestOffset_1 0 rfl) rfl ?_
          refine z_iload C (z_d dtX4_bestOffset_1 1 rfl) rfl ?_
          refine z_icmp_le (tgt := 79) C (z_d dtX4_bestOffset_1 2 rfl) (by decide) (by omega) (fun h_68 => ?_) (fun h_68 => ?_)
          · refine z_iinc6 C (z_d dtX4_bestOffset_1 7 rfl) rfl ?_
            refine z_goto (tgt := 17) C (z_d dtX4_bestOffset_1 8 rfl) (by decide) ?_
            refine z_drop7 ?_
            refine z_drop8 ?_
            exact ih_17 (i + 1) _ _ _ (by omega) (by first | exact zOf_11 hs (by omega) (by omega) | exact zOf_10 hs (by omega) (by omega) | exact zOf_01 hs (by omega) (by omega) | exact zOf_00 hs (by omega) (by omega)) (by omega) (by omega)
          · refine z_iload C (z_d dtX4_bestOffset_1 3 rfl) rfl ?_
            refine z_istore5 C (z_d dtX4_bestOffset_1 4 rfl) rfl ?_
            refine z_iload C (z_d dtX4_bestOffset_1 5 rfl) rfl ?_
            refine z_istore4 C (z_d dtX4_bestOffset_1 6 rfl) rfl ?_
            refine z_iinc6 C (z_d dtX4_bestOffset_1 7 rfl) rfl ?_
            refine z_goto (tgt := 17) C (z_d dtX4_bestOffset_1 8 rfl) (by decide) ?_
            refine z_drop7 ?_
            refine z_drop8 ?_
            exact ih_17 (i + 1) _ _ _ (by omega) (by first | exact zOf_11 hs (by omega) (by omega) | exact zOf_10 hs (by omega) (by omega) | exact zOf_01 hs (by omega) (by omega) | exact zOf_00 hs (by omega) (by omega)) (by omega) (by omega)
  exact lp_17 _ 0 _ _ _ (by omega) rfl (by have := zRw_b hmp z row c 0 (-1) 8; omega) (Nat.lt_succ_self _)
end
section
/-! shares as numbers: sums, the greatest, making whole, leading, hearing -/
def zSum (F : Int → Int) : Nat → Int
  | 0 => 0
  | n + 1 => zSum F n + F n
theorem zSum_cg {F G : Int → Int} : ∀ n : Nat, (∀ c : Int, 0 ≤ c → c < n → F c = G c) → zSum F n = zSum G n
  | 0, _ => rfl
  | n + 1, h => by
    rw [zSum, zSum, zSum_cg n (fun c h0 h1 => h c h0 (by omega)), h n (by omega) (by omega)]
theorem zSum_b {F : Int → Int} {a b : Int} : ∀ n : Nat, (∀ c : Int, 0 ≤ c → c < n → a ≤ F c ∧ F c ≤ b) → a * n ≤ zSum F n ∧ zSum F n ≤ b * n
  | 0, _ => by simp [zSum]
  | n + 1, h => by
    have q := zSum_b n (fun c h0 h1 => h c h0 (by omega))
    have r := h n (by omega) (by omega)
    rw [zSum]
    push_cast
    rw [Int.mul_add, Int.mul_add]
    omega
theorem zSum_p {F : Int → Int} : ∀ n : Nat, (∀ c : Int, 0 ≤ c → c < n → 0 ≤ F c) → 0 ≤ zSum F n
  | 0, _ => by simp [zSum]
  | n + 1, h => by
    have q := zSum_p n (fun c h0 h1 => h c h0 (by omega))
    have r := h n (by omega) (by omega)
    rw [zSum]
    omega
theorem zSum_le {F : Int → Int} : ∀ n : Nat, (∀ c : Int, 0 ≤ c → c < n → 0 ≤ F c) → ∀ c : Int, 0 ≤ c → c < n → F c ≤ zSum F n
  | 0, _, c, h0, h1 => by omega
  | n + 1, h, c, h0, h1 => by
    have p := zSum_p n (fun c a b => h c a (by omega))
    have hn := h n (by omega) (by omega)
    rw [zSum]
    by_cases e : c = n
    · rw [e]; omega
    · have := zSum_le n (fun c a b => h c a (by omega)) c h0 (by omega)
      omega
theorem zSum_U {F : Int → Int} {i v : Int} : ∀ n : Nat, 0 ≤ i → i < n → zSum (zU F i v) n = zSum F n + (v - F i)
  | 0, h0, h1 => by omega
  | n + 1, h0, h1 => by
    rw [zSum, zSum]
    by_cases e : i = n
    · rw [zSum_cg (F := zU F i v) (G := F) n (fun c a b => zU_n (by omega)), ← e, zU_s]
      omega
    · rw [zSum_U n h0 (by omega), zU_n (by omega)]
      omega
theorem zSum_mul {F : Int → Int} (k : Int) : ∀ n : Nat, zSum (fun c => F c * k) n = zSum F n * k
  | 0 => by simp [zSum]
  | n + 1 => by
    rw [zSum, zSum, zSum_mul k n, Int.add_mul]
theorem zSum_add {F G : Int → Int} : ∀ n : Nat, zSum (fun c => F c + G c) n = zSum F n + zSum G n
  | 0 => by simp [zSum]
  | n + 1 => by
    rw [zSum, zSum, zSum, zSum_add n]
    omega
/-- the first of the greatest -/
def zMx (F : Int → Int) : Nat → Int
  | 0 => 0
  | n + 1 => if F n > F (zMx F n) then n else zMx F n
theorem zMx_b (F : Int → Int) : ∀ n : Nat, 0 ≤ zMx F n ∧ (1 ≤ n → zMx F n < n)
  | 0 => by simp [zMx]
  | n + 1 => by
    have q := zMx_b F n
    rw [zMx]
    split
    · constructor <;> (try push_cast) <;> omega
    · refine ⟨q.1, fun _ => ?_⟩
      rcases Nat.eq_zero_or_pos n with e | e
      · subst e; simp [zMx]
      · have := q.2 e
        push_cast; omega
theorem zMx_cg {F G : Int → Int} : ∀ n : Nat, (∀ c : Int, 0 ≤ c → c < n → F c = G c) → zMx F n = zMx G n
  | 0, _ => rfl
  | n + 1, h => by
    have q := zMx_cg n (fun c h0 h1 => h c h0 (by omega))
    have b := zMx_b G n
    rw [zMx, zMx, q, h n (by omega) (by omega)]
    rcases Nat.eq_zero_or_pos n with e | e
    · subst e
      rw [show zMx G 0 = 0 from rfl, h 0 (by omega) (by omega)]
    · rw [h (zMx G n) b.1 (by have := b.2 e; omega)]
theorem zMx_max {F : Int → Int} : ∀ n : Nat, ∀ c : Int, 0 ≤ c → c < n → F c ≤ F (zMx F n)
  | 0, c, h0, h1 => by omega
  | n + 1, c, h0, h1 => by
    rw [zMx]
    by_cases e : c = n
    · subst e
      split <;> omega
    · have := zMx_max (F := F) n c h0 (by omega)
      split <;> omega
/-- what lacks, handed out one each -/
def zHc (n : Nat) (v : Int) (p : (Int → Int) × (Int → Int)) : Nat → (Int → Int) × (Int → Int)
  | 0 => p
  | k + 1 => (zU (zHc n v p k).1 (zMx (zHc n v p k).2 n) ((zHc n v p k).1 (zMx (zHc n v p k).2 n) + 1), zU (zHc n v p k).2 (zMx (zHc n v p k).2 n) v)
theorem zHc_cg {n : Nat} (hn : 1 ≤ n) {v : Int} {p q : (Int → Int) × (Int → Int)} (h1 : ∀ c : Int, 0 ≤ c → c < n → p.1 c = q.1 c) (h2 : ∀ c : Int, 0 ≤ c → c < n → p.2 c = q.2 c) : ∀ k : Nat, (∀ c : Int, 0 ≤ c → c < n → (zHc n v p k).1 c = (zHc n v q k).1 c) ∧ ∀ c : Int, 0 ≤ c → c < n → (zHc n v p k).2 c = (zHc n v q k).2 c
  | 0 => ⟨h1, h2⟩
  | k + 1 => by
    obtain ⟨a, b⟩ := zHc_cg hn h1 h2 k
    have e := zMx_cg n b
    have g := zMx_b (zHc n v q k).2 n
    constructor
    · intro c c0 c1
      show zU _ _ _ c = zU _ _ _ c
      rw [e]
      unfold zU
      rw [a c c0 c1, a _ g.1 (g.2 hn)]
    · intro c c0 c1
      show zU _ _ _ c = zU _ _ _ c
      rw [e]
      unfold zU
      rw [b c c0 c1]
theorem zHc_sum {n : Nat} (hn : 1 ≤ n) {v : Int} {p : (Int → Int) × (Int → Int)} : ∀ k : Nat, zSum (zHc n v p k).1 n = zSum p.1 n + k
  | 0 => by simp [zHc]
  | k + 1 => by
    have g := zMx_b (zHc n v p k).2 n
    show zSum (zU _ _ _) n = _
    rw [zSum_U n g.1 (g.2 hn), zHc_sum hn k]
    push_cast
    omega
theorem zHc_r {n : Nat} {v : Int} {p : (Int → Int) × (Int → Int)} (hv : 0 ≤ v) {b : Int} (hb : v ≤ b) (h : ∀ c : Int, 0 ≤ c → c < n → 0 ≤ p.2 c ∧ p.2 c ≤ b) : ∀ k : Nat, ∀ c : Int, 0 ≤ c → c < n → 0 ≤ (zHc n v p k).2 c ∧ (zHc n v p k).2 c ≤ b
  | 0 => h
  | k + 1 => fun c c0 c1 => by
    have a := zHc_r hv hb h k c c0 c1
    show 0 ≤ zU _ _ _ c ∧ zU _ _ _ c ≤ b
    unfold zU
    split <;> omega
theorem zHc_s {n : Nat} {v : Int} {p : (Int → Int) × (Int → Int)} {b : Int} (h : ∀ c : Int, 0 ≤ c → c < n → 0 ≤ p.1 c ∧ p.1 c ≤ b) : ∀ k : Nat, ∀ c : Int, 0 ≤ c → c < n → 0 ≤ (zHc n v p k).1 c ∧ (zHc n v p k).1 c ≤ b + k
  | 0 => fun c c0 c1 => by have := h c c0 c1; simp only [zHc]; push_cast; omega
  | k + 1 => fun c c0 c1 => by
    have a := zHc_s (v := v) h k c c0 c1
    show 0 ≤ zU _ _ _ c ∧ zU _ _ _ c ≤ _
    unfold zU
    split
    · rename_i e; rw [← e]; push_cast; omega
    · push_cast; omega
def zQo (W : Int → Int) (n : Nat) : Int → Int := fun c => W c * 1000000 / zSum W n
def zRe (W : Int → Int) (n : Nat) : Int → Int := fun c => W c * 1000000 % zSum W n
def zLk (W : Int → Int) (n : Nat) : Int := 1000000 - zSum (zQo W n) n
def zWh (W : Int → Int) (n : Nat) : Int → Int := (zHc n 0 (zQo W n, zRe W n) (zLk W n).toNat).1
theorem zSum_qr {W : Int → Int} {S : Int} : ∀ n : Nat, zSum (fun c => W c * 1000000 / S) n * S + zSum (fun c => W c * 1000000 % S) n = zSum W n * 1000000
  | 0 => by simp [zSum]
  | n + 1 => by
    rw [zSum, zSum, zSum, Int.add_mul, Int.add_mul]
    have q := zSum_qr (W := W) (S := S) n
    have r := Int.mul_ediv_add_emod (W n * 1000000) S
    rw [Int.mul_comm S] at r
    omega
theorem zLk_eq (W : Int → Int) (n : Nat) : zLk W n * zSum W n = zSum (zRe W n) n := by
  have q := zSum_qr (W := W) (S := zSum W n) n
  unfold zLk
  rw [Int.sub_mul, Int.mul_comm 1000000]
  have e1 : zSum (zQo W n) n = zSum (fun c => W c * 1000000 / zSum W n) n := rfl
  have e2 : zSum (zRe W n) n = zSum (fun c => W c * 1000000 % zSum W n) n := rfl
  rw [e1, e2]
  omega
theorem zLk_b {W : Int → Int} {n : Nat} (hS : 0 < zSum W n) : 0 ≤ zLk W n ∧ zLk W n ≤ n := by
  have e := zLk_eq W n
  have p := zSum_b (F := zRe W n) (a := 0) (b := zSum W n) n (fun c _ _ => ⟨Int.emod_nonneg _ (by omega), Int.le_of_lt (Int.emod_lt_of_pos _ hS)⟩)
  rw [← e] at p
  constructor
  · rcases Int.lt_or_le (zLk W n) 0 with h | h
    · have := Int.mul_neg_of_neg_of_pos h hS
      omega
    · exact h
  · rw [Int.mul_comm (zSum W n)] at p
    exact Int.le_of_mul_le_mul_right p.2 hS
theorem zQo_b {W : Int → Int} {n : Nat} (hS : 0 < zSum W n) (hW : ∀ c : Int, 0 ≤ c → c < n → 0 ≤ W c) (c : Int) (h0 : 0 ≤ c) (h1 : c < n) : 0 ≤ zQo W n c ∧ zQo W n c ≤ 1000000 := by
  have a := hW c h0 h1
  have b := zSum_le n hW c h0 h1
  refine ⟨Int.ediv_nonneg (by omega) (by omega), ?_⟩
  unfold zQo
  have := Int.ediv_le_ediv hS (Int.mul_le_mul_of_nonneg_right b (show (0 : Int) ≤ 1000000 by decide))
  rw [Int.mul_comm (zSum W n), Int.mul_ediv_cancel _ (by omega)] at this
  exact this
theorem zWh_sum {W : Int → Int} {n : Nat} (hn : 1 ≤ n) (hS : 0 < zSum W n) : zSum (zWh W n) n = 1000000 := by
  have := zLk_b hS
  unfold zWh
  rw [zHc_sum hn]
  show zSum (zQo W n) n + _ = _
  unfold zLk at this ⊢
  omega
/-- a count of shares -/
def zCs (F : Int → Int) : Nat → Int
  | 0 => 0
  | n + 1 => zCs F n + if F n > 0 then 1 else 0
theorem zCs_b (F : Int → Int) : ∀ n : Nat, 0 ≤ zCs F n ∧ zCs F n ≤ n
  | 0 => by simp [zCs]
  | n + 1 => by
    have a := zCs_b F n
    rw [zCs]
    split <;> (constructor <;> (try push_cast) <;> omega)
theorem zCs_cg {F G : Int → Int} : ∀ n : Nat, (∀ c : Int, 0 ≤ c → c < n → F c = G c) → zCs F n = zCs G n
  | 0, _ => rfl
  | n + 1, h => by
    rw [zCs, zCs, zCs_cg n (fun c h0 h1 => h c h0 (by omega)), h n (by omega) (by omega)]
/-- the greatest taken one by one: their sum, and what is left -/
def zTk (R : Int → Int) (n : Nat) : Nat → Int × (Int → Int)
  | 0 => (0, R)
  | k + 1 => ((zTk R n k).1 + (zTk R n k).2 (zMx (zTk R n k).2 n), zU (zTk R n k).2 (zMx (zTk R n k).2 n) 0)
theorem zTk_b {R : Int → Int} {n : Nat} (hn : 1 ≤ n) {b : Int} (hb : 0 ≤ b) (h : ∀ c : Int, 0 ≤ c → c < n → 0 ≤ R c ∧ R c ≤ b) : ∀ k : Nat, (0 ≤ (zTk R n k).1 ∧ (zTk R n k).1 ≤ b * k) ∧ ∀ c : Int, 0 ≤ c → c < n → 0 ≤ (zTk R n k).2 c ∧ (zTk R n k).2 c ≤ b
  | 0 => ⟨by simp [zTk], h⟩
  | k + 1 => by
    obtain ⟨a, c⟩ := zTk_b hn hb h k
    have g := zMx_b (zTk R n k).2 n
    have q := c _ g.1 (g.2 hn)
    refine ⟨?_, fun i i0 i1 => ?_⟩
    · show 0 ≤ _ + _ ∧ _ + _ ≤ _
      push_cast
      rw [Int.mul_add]
      omega
    · show 0 ≤ zU _ _ _ i ∧ zU _ _ _ i ≤ b
      have := c i i0 i1
      unfold zU
      split <;> omega
/-- leading, as the system does it -/
def zSp (σ : zMem) (c lv all : Int) (F : Int → Int) : Nat → Int → Int
  | 0 => F
  | d + 1 => if 0 ≤ σ 33 (c * 7 + d) ∧ σ 33 (c * 7 + d) < zN σ then zU (zSp σ c lv all F d) (σ 33 (c * 7 + d)) (zSp σ c lv all F d (σ 33 (c * 7 + d)) + lv * zLik σ d / all) else zSp σ c lv all F d
def zLw (σ : zMem) : Nat → Int → Int
  | 0 => zC 0
  | c + 1 => if zAll σ c 7 ≤ 0 then zU (zLw σ c) c (zLw σ c c + σ 9 c * 1000) else zSp σ c (σ 9 c * 1000) (zAll σ c 7) (zLw σ c) 7
theorem zSp_b {σ : zMem} {c lv all b : Int} {F : Int → Int} (hs : 0 ≤ σ 3 0 ∧ σ 3 0 ≤ 9) (hl : 0 ≤ lv ∧ lv ≤ 1000000000) (ha : 1 ≤ all) (h : ∀ i, 0 ≤ F i ∧ F i ≤ b) : ∀ (d : Nat) (i : Int), 0 ≤ zSp σ c lv all F d i ∧ zSp σ c lv all F d i ≤ b + 9000000000 * d
  | 0, i => by have := h i; simp only [zSp]; push_cast; omega
  | d + 1, i => by
    have a := zSp_b (c := c) hs hl ha h d
    have k := zLik_b hs d
    have m0 := Int.mul_nonneg hl.1 k.1
    have m1 : lv * zLik σ d ≤ 1000000000 * 9 := Int.mul_le_mul hl.2 k.2 k.1 (by omega)
    have q0 := Int.ediv_nonneg m0 (show 0 ≤ all by omega)
    have q1 := Int.ediv_le_self all m0
    rw [zSp]
    split
    · have a2 := a (σ 33 (c * 7 + d))
      have a3 := a i
      unfold zU
      push_cast
      split <;> omega
    · have a3 := a i
      push_cast
      omega
theorem zLw_b {σ : zMem} (hs : 0 ≤ σ 3 0 ∧ σ 3 0 ≤ 9) : ∀ (n : Nat), (∀ c : Int, 0 ≤ c → c < n → 0 ≤ σ 9 c ∧ σ 9 c ≤ 1000000) → ∀ i, 0 ≤ zLw σ n i ∧ zLw σ n i ≤ 63000000000 * n
  | 0, _, i => by simp [zLw, zC]
  | n + 1, h9, i => by
    have a := zLw_b hs n (fun c h0 h1 => h9 c h0 (by omega))
    have k := h9 n (by omega) (by omega)
    rw [zLw]
    split
    · have a2 := a n
      have a3 := a i
      unfold zU
      push_cast
      split <;> omega
    · have := zSp_b (σ := σ) (c := n) (lv := σ 9 n * 1000) (all := zAll σ n 7) (b := 63000000000 * n) (F := zLw σ n) hs (by omega) (by omega) a 7 i
      push_cast at this ⊢
      omega
/-- hearing: each cell's number behind the first senders -/
def zHm (σ : zMem) (s row o : Int) (n : Nat) : Nat → Int → Int
  | 0 => zC 1000
  | k + 1 => fun c => if zHo (zHv σ s row k) o ≠ -2 ∧ σ 7 k = 0 then zHm σ s row o n k c * zWt σ k c (zHo (zHv σ s row k) o) / zGw σ k (zHo (zHv σ s row k) o) n else zHm σ s row o n k c
theorem zHm_b {σ : zMem} (hmp : zMp σ) {s row o : Int} {n : Nat} : ∀ (k : Nat) (c : Nat), c < n → 0 ≤ zHm σ s row o n k c ∧ zHm σ s row o n k c ≤ 1000
  | 0, c, _ => by simp [zHm, zC]
  | k + 1, c, hc => by
    have a := zHm_b (s := s) (row := row) (o := o) hmp k c hc
    have w := zWt_b hmp k c (zHo (zHv σ s row k) o)
    have g := zGw_b hmp k (zHo (zHv σ s row k) o) n
    have l := zGw_le (σ := σ) k (zHo (zHv σ s row k) o) n c hc
    simp only [zHm]
    split
    · refine ⟨Int.ediv_nonneg (Int.mul_nonneg a.1 (by omega)) (by omega), ?_⟩
      have m : zHm σ s row o n k c * zWt σ k c (zHo (zHv σ s row k) o) ≤ 1000 * zGw σ k (zHo (zHv σ s row k) o) n := Int.mul_le_mul a.2 l (by omega) (by omega)
      have := Int.ediv_le_ediv (show 0 < zGw σ k (zHo (zHv σ s row k) o) n by omega) m
      rw [Int.mul_ediv_cancel _ (by omega)] at this
      exact this
    · exact a
theorem z_lcmpP {K : z_KT} {cc : ByteArray} {own : String} {nL cells slots pc : Nat} {L : List (Option Value)} {rest : List Value} {ws : va_W} (C : Fc K cc own nL) {x y : Int} (d : decode cc pc = .ok (.lcmp, 1)) (hb1 : (-9223372036854775808 ≤ x ∧ x < 9223372036854775808) ∧ (-9223372036854775808 ≤ y ∧ y < 9223372036854775808)) (k : ∀ m : Int, (m = 1 ∧ y < x) ∨ (m = 0 ∧ x = y) ∨ (m = -1 ∧ x < y) → Gd K cells slots (pc + 1) L (.int (zI m) :: rest) ws) : Gd K cells slots pc L (.long (zL y) :: .long (zL x) :: rest) ws := z_lcmp C d hb1 (k _ (by
  split
  · omega
  · split <;> omega))
theorem zS_zS (σ : zMem) (k : Nat) (F G : Int → Int) : zS (zS σ k F) k G = zS σ k G := by
  funext j
  unfold zS
  cases Nat.beq j k <;> rfl
theorem zLik_E {μ σ : zMem} {l : List Nat} (h : zE μ σ l) (h3 : 3 ∉ l := by decide) (d : Int) : zLik μ d = zLik σ d := by
  unfold zLik
  rw [h 3 h3]
theorem zAll_E {μ σ : zMem} {l : List Nat} (h : zE μ σ l) (h3 : 3 ∉ l := by decide) (h33 : 33 ∉ l := by decide) (c : Int) : ∀ n : Nat, zAll μ c n = zAll σ c n
  | 0 => rfl
  | n + 1 => by
    rw [zAll, zAll, zAll_E h h3 h33 c n, h 33 h33, zLik_E h h3]
theorem zTb_E {μ σ : zMem} {l : List Nat} (h : zE μ σ l) (h0 : 0 ∉ l := by decide) (h1 : 1 ∉ l := by decide) (h2 : 2 ∉ l := by decide) (h3 : 3 ∉ l := by decide) (h4 : 4 ∉ l := by decide) (h5 : 5 ∉ l := by decide) (h6 : 6 ∉ l := by decide) (h33 : 33 ∉ l := by decide) (ht : zTb σ) : zTb μ := by
  intro c c0 c1 d d0 d1
  rw [h 33 h33, ht c c0 (by rw [zN_E h h0 h1 h2] at c1; exact c1) d d0 d1, zTg_E h h0 h1 h2 h3 h4 h5 h6]
theorem zSp_E {μ σ : zMem} {l : List Nat} (h : zE μ σ l) (h0 : 0 ∉ l := by decide) (h1 : 1 ∉ l := by decide) (h2 : 2 ∉ l := by decide) (h3 : 3 ∉ l := by decide) (h33 : 33 ∉ l := by decide) (c lv all : Int) (F : Int → Int) : ∀ d : Nat, zSp μ c lv all F d = zSp σ c lv all F d
  | 0 => rfl
  | d + 1 => by
    rw [zSp, zSp, zSp_E h h0 h1 h2 h3 h33 c lv all F d, h 33 h33, zN_E h h0 h1 h2, zLik_E h h3]
theorem zWt_E {μ σ : zMem} {l : List Nat} (h : zE μ σ l) (h8 : 8 ∉ l := by decide) (k c v : Int) : zWt μ k c v = zWt σ k c v := by
  unfold zWt
  rw [h 8 h8]
theorem zGw_E {μ σ : zMem} {l : List Nat} (h : zE μ σ l) (h8 : 8 ∉ l := by decide) (k v : Int) : ∀ n : Nat, zGw μ k v n = zGw σ k v n
  | 0 => rfl
  | n + 1 => by
    rw [zGw, zGw, zGw_E h h8 k v n, zWt_E h h8]
theorem zHv_E {μ σ : zMem} {l : List Nat} (h : zE μ σ l) (h20 : 20 ∉ l := by decide) (s row k : Int) : zHv μ s row k = zHv σ s row k := by
  unfold zHv
  rw [h 20 h20]
theorem zWh_cg {W V : Int → Int} {n : Nat} (hn : 1 ≤ n) (h : ∀ c : Int, 0 ≤ c → c < n → W c = V c) (c : Int) (h0 : 0 ≤ c) (h1 : c < n) : zWh W n c = zWh V n c := by
  have e := zSum_cg n h
  have q : ∀ c : Int, 0 ≤ c → c < n → zQo W n c = zQo V n c := fun c a b => by unfold zQo; rw [e, h c a b]
  have r : ∀ c : Int, 0 ≤ c → c < n → zRe W n c = zRe V n c := fun c a b => by unfold zRe; rw [e, h c a b]
  have s := zSum_cg n q
  unfold zWh zLk
  rw [s]
  exact (zHc_cg hn q r _).1 c h0 h1
theorem zTk_st {R F : Int → Int} {n k : Nat} (hn : 1 ≤ n) {s x : Int} (h1 : s = (zTk R n k).1) (h2 : ∀ c : Int, 0 ≤ c → c < n → F c = (zTk R n k).2 c) (hx : x = zMx F n) : s + F x = (zTk R n (k + 1)).1 ∧ ∀ c : Int, 0 ≤ c → c < n → zU F x 0 c = (zTk R n (k + 1)).2 c := by
  have e := zMx_cg n h2
  have g := zMx_b (zTk R n k).2 n
  rw [e] at hx
  constructor
  · show _ = _ + _
    rw [h1, hx, h2 _ g.1 (g.2 hn)]
  · intro c c0 c1
    show _ = zU _ _ _ c
    rw [hx]
    unfold zU
    rw [h2 c c0 c1]
theorem zMx_1 (F : Int → Int) : zMx F (1 : Int).toNat = 0 := by
  show (if F ((0 : Nat) : Int) > F (zMx F 0) then ((0 : Nat) : Int) else zMx F 0) = 0
  split <;> rfl
end
section
/-! SHARES -/
set_option maxRecDepth 100000 in
set_option maxHeartbeats 4000000 in
theorem k_X1_shareOf {l : Launch} {D : va_G} {t : Nat → ClassId} {ad : Nat → Nat} {σ : zMem} {c : Int} (hc : 0 ≤ c ∧ c < 72) : z_Ci l D t yX1_shareOf cX1_shareOf 2 .int 0 0 0 0 [.ref (ad 3), .int (zI c)] (wX ad t σ) (fun r w => w = wX ad t σ ∧ r = σ 9 c) := by
  refine z_Ci_of (by decide +kernel) [some (.ref (ad 3)), some (.int (zI c))] rfl rfl (Nat.le_of_ble_eq_true rfl) fun K hl hD ht hR hnm C ret => ?_
  subst hl; subst hD; subst ht
  refine z_aload_n C (z_d dtX1_shareOf_0 0 rfl) rfl ?_
  refine gf_X1_15 C (z_d dtX1_shareOf_0 1 rfl) ?_
  refine z_iload_n C (z_d dtX1_shareOf_0 2 rfl) rfl ?_
  refine al_X15 C (z_d dtX1_shareOf_0 3 rfl) (by omega) ?_
  exact ret _ _ _ _ (z_d dtX1_shareOf_0 4 rfl) (⟨rfl, rfl⟩) rfl

set_option maxRecDepth 100000 in
set_option maxHeartbeats 4000000 in
theorem k_X1_makeKnown {l : Launch} {D : va_G} {t : Nat → ClassId} {ad : Nat → Nat} {σ : zMem} {c : Int} (hc : 0 ≤ c ∧ c < 72) : z_Cv l D t yX1_makeKnown cX1_makeKnown 2 1 23 0 0 [.ref (ad 3), .int (zI c)] (wX ad t σ) (fun w => w = wX ad t (zS σ 9 (zU (zC 0) c 1000000))) := by
  refine z_Cv_of (by decide +kernel) [some (.ref (ad 3)), some (.int (zI c))] rfl rfl (Nat.le_of_ble_eq_true rfl) fun K hl hD ht hR hnm C ret => ?_
  subst hl; subst hD; subst ht
  refine z_aload_n C (z_d dtX1_makeKnown_0 0 rfl) rfl ?_
  refine gf_X1_15 C (z_d dtX1_makeKnown_0 1 rfl) ?_
  refine z_iconst C (z_d dtX1_makeKnown_0 2 rfl) ?_
  refine z_callSv C (z_d dtX1_makeKnown_0 3 rfl) kf_X15 cal_J7_fill_53178 gw_20_13 rfl rfl hR ⟨rfl, rfl, rfl, rfl⟩ rfl (fun w_5 h_5 => ?_)
  subst h_5
  refine z_aload_n C (z_d dtX1_makeKnown_0 4 rfl) rfl ?_
  refine gf_X1_15 C (z_d dtX1_makeKnown_0 5 rfl) ?_
  refine z_iload_n C (z_d dtX1_makeKnown_0 6 rfl) rfl ?_
  refine z_ldc C gk_RX1_39 (z_d dtX1_makeKnown_0 7 rfl) ?_
  refine as_X15 C (z_d dtX1_makeKnown_0 8 rfl) (by omega) ?_
  exact ret _ _ _ (z_d dtX1_makeKnown_0 9 rfl) ((by congr 1; funext j; unfold zS; cases Nat.beq j 9 <;> rfl))

set_option maxRecDepth 100000 in
set_option maxHeartbeats 4000000 in
theorem k_X1_handOut {l : Launch} {D : va_G} {t : Nat → ClassId} {ad : Nat → Nat} {σ : zMem} {n m : Nat} (hn : σ 36 0 = (n : Int) ∧ 1 ≤ n ∧ n ≤ 72) (hm : m ≤ 72) (h38 : ∀ c : Int, 0 ≤ c → c < n → 0 ≤ σ 38 c ∧ σ 38 c ≤ 1000000000000000) : z_Cv l D t yX1_handOut cX1_handOut 5 0 0 0 0 [.ref (ad 3), .int (zI m)] (wX ad t σ) (fun w => ∃ σ', w = wX ad t σ' ∧ zE σ' σ [9, 38] ∧ σ' 9 = (zHc n 0 (σ 9, σ 38) m).1) := by
  refine z_Cv_of (by decide +kernel) [some (.ref (ad 3)), some (.int (zI m)), none, none, none] rfl rfl (Nat.le_of_ble_eq_true rfl) fun K hl hD ht hR hnm C ret => ?_
  subst hl; subst hD; subst ht
  refine z_iconst C (z_d dtX1_handOut_0 0 rfl) ?_
  refine z_istore_n2 C (z_d dtX1_handOut_0 1 rfl) rfl ?_
  have lp_2 : ∀ (N_2 : Nat) (i : Nat) (k : Int) (μ : zMem), (k = i ∧ i ≤ m) → (zE μ σ [9, 38]) → ((μ 9, μ 38) = zHc n 0 (σ 9, σ 38) i) → m - i < N_2 → Gd K 0 0 2 [some (.ref (ad 3)), some (.int (zI m)), some (.int (zI k)), none, none] [] (wX ad (z_t K) μ) := by
    intro N_2
    induction N_2 with
    | zero => intro i k μ hi hE hq hm_2; exact absurd hm_2 (Nat.not_lt_zero _)
    | succ N_2 ih_2 =>
      intro i k μ hi hE hq hm_2
      obtain ⟨rfl, hi⟩ := hi
      have e36 := hE 36 (by decide)
      have hr : ∀ c : Int, 0 ≤ c → c < n → 0 ≤ μ 38 c ∧ μ 38 c ≤ 1000000000000000 := by
        have := zHc_r (p := (σ 9, σ 38)) (v := 0) (n := n) (by omega) (b := 1000000000000000) (by omega) h38 i
        rw [← hq] at this
        exact this
      refine z_iload_n C (z_d dtX1_handOut_0 2 rfl) rfl ?_
      refine z_iload_n C (z_d dtX1_handOut_0 3 rfl) rfl ?_
      refine z_icmp_ge (tgt := 70) C (z_d dtX1_handOut_0 4 rfl) (by decide) (by omega) (fun h_4 => ?_) (fun h_4 => ?_)
      · exact ret _ _ _ (z_d dtX1_handOut_1 2 rfl) (⟨_, rfl, hE, (by
            have : i = m := by omega
            subst this
            exact congrArg Prod.fst hq)⟩)
      · refine z_iconst C (z_d dtX1_handOut_0 5 rfl) ?_
        refine z_istore_n3 C (z_d dtX1_handOut_0 6 rfl) rfl ?_
        refine z_iconst C (z_d dtX1_handOut_0 7 rfl) ?_
        refine z_istore4 C (z_d dtX1_handOut_0 8 rfl) rfl ?_
        have lp_12 : ∀ (N_12 : Nat) (c x : Int), (1 ≤ c ∧ c ≤ n) → (x = zMx (μ 38) c.toNat) → (n - c).toNat < N_12 → Gd K 0 0 12 [some (.ref (ad 3)), some (.int (zI m)), some (.int (zI (i : Int))), some (.int (zI x)), some (.int (zI c))] [] (wX ad (z_t K) μ) := by
          intro N_12
          induction N_12 with
          | zero => intro c x hc hx hm_12; exact absurd hm_12 (Nat.not_lt_zero _)
          | succ N_12 ih_12 =>
            intro c x hc hx hm_12
            have hxb := zMx_b (μ 38) c.toNat
            have hx0 := hr x (by omega) (by omega)
            have hc0 := fun q : c < n => hr c (by omega) q
            refine z_iload C (z_d dtX1_handOut_0 9 rfl) rfl ?_
            refine z_aload_n C (z_d dtX1_handOut_0 10 rfl) rfl ?_
            refine gf_X1_9 C (z_d dtX1_handOut_0 11 rfl) ?_
            try simp (decide := true) only [zS_s, zS_o, zC, e36]
            refine z_icmp_ge (tgt := 47) C (z_d dtX1_handOut_0 12 rfl) (by decide) (by omega) (fun h_18 => ?_) (fun h_18 => ?_)
            · refine z_aload_n C (z_d dtX1_handOut_0 27 rfl) rfl ?_
              refine gf_X1_15 C (z_d dtX1_handOut_0 28 rfl) ?_
              refine z_iload_n C (z_d dtX1_handOut_0 29 rfl) rfl ?_
              refine z_dup2 C (z_d dtX1_handOut_0 30 rfl) rfl rfl ?_
              refine al_X15 C (z_d dtX1_handOut_0 31 rfl) (by omega) ?_
              try simp (decide := true) only [zS_s, zS_o, zC, e36]
              refine z_iconst C (z_d dtX1_handOut_0 32 rfl) ?_
              refine z_iadd C (z_d dtX1_handOut_0 33 rfl) ?_
              refine as_X15 C (z_d dtX1_handOut_0 34 rfl) (by omega) ?_
              refine z_aload_n C (z_d dtX1_handOut_0 35 rfl) rfl ?_
              refine gf_X1_23 C (z_d dtX1_handOut_0 36 rfl) ?_
              refine z_iload_n C (z_d dtX1_handOut_0 37 rfl) rfl ?_
              refine z_lconst C (x := 0) rfl (z_d dtX1_handOut_0 38 rfl) ?_
              refine as_X17 C (z_d dtX1_handOut_0 39 rfl) (by omega) ?_
              refine z_iinc2 C (z_d dtX1_handOut_1 0 rfl) rfl ?_
              refine z_goto (tgt := 2) C (z_d dtX1_handOut_1 1 rfl) (by decide) ?_
              refine z_drop3 ?_
              refine z_drop4 ?_
              exact ih_2 (i + 1) _ _ (by omega) (zE_set (zE_set hE (by decide)) (by decide)) (by
                    show (zU (μ 9) _ _, zU (μ 38) _ _) = (zU _ _ _, zU _ _ _)
                    rw [← hq, hx, show c = n by omega, Int.toNat_natCast]) (by omega)
            · refine z_aload_n C (z_d dtX1_handOut_0 13 rfl) rfl ?_
              refine gf_X1_23 C (z_d dtX1_handOut_0 14 rfl) ?_
              refine z_iload C (z_d dtX1_handOut_0 15 rfl) rfl ?_
              refine al_X17 C (z_d dtX1_handOut_0 16 rfl) (by omega) ?_
              try simp (decide := true) only [zS_s, zS_o, zC, e36]
              refine z_aload_n C (z_d dtX1_handOut_0 17 rfl) rfl ?_
              refine gf_X1_23 C (z_d dtX1_handOut_0 18 rfl) ?_
              refine z_iload_n C (z_d dtX1_handOut_0 19 rfl) rfl ?_
              refine al_X17 C (z_d dtX1_handOut_0 20 rfl) (by omega) ?_
              try simp (decide := true) only [zS_s, zS_o, zC, e36]
              refine z_lcmpP C (z_d dtX1_handOut_0 21 rfl) (by omega) (fun m_34 h_34 => ?_)
              refine z_if_le (tgt := 41) C (z_d dtX1_handOut_0 22 rfl) (by decide) (by omega) (fun h_35 => ?_) (fun h_35 => ?_)
              · refine z_iinc4 C (z_d dtX1_handOut_0 25 rfl) rfl ?_
                refine z_goto (tgt := 12) C (z_d dtX1_handOut_0 26 rfl) (by decide) ?_
                exact ih_12 _ _ (by omega) (by
                        rw [show (c + 1).toNat = c.toNat + 1 by omega, zMx, Int.toNat_of_nonneg (by omega), ← hx]
                        first | rw [if_pos (by omega)] | rw [if_neg (by omega)]) (by omega)
              · refine z_iload C (z_d dtX1_handOut_0 23 rfl) rfl ?_
                refine z_istore_n3 C (z_d dtX1_handOut_0 24 rfl) rfl ?_
                refine z_iinc4 C (z_d dtX1_handOut_0 25 rfl) rfl ?_
                refine z_goto (tgt := 12) C (z_d dtX1_handOut_0 26 rfl) (by decide) ?_
                exact ih_12 _ _ (by omega) (by
                        rw [show (c + 1).toNat = c.toNat + 1 by omega, zMx, Int.toNat_of_nonneg (by omega), ← hx]
                        first | rw [if_pos (by omega)] | rw [if_neg (by omega)]) (by omega)
        exact lp_12 _ _ _ (by omega) (zMx_1 _).symm (Nat.lt_succ_self _)
  exact lp_2 _ 0 _ _ (by omega) zE_rf rfl (Nat.lt_succ_self _)

set_option maxRecDepth 100000 in
set_option maxHeartbeats 4000000 in
theorem k_X1_makeWhole {l : Launch} {D : va_G} {t : Nat → ClassId} {ad : Nat → Nat} {σ : zMem} {n : Nat} (hn : σ 36 0 = (n : Int) ∧ 1 ≤ n ∧ n ≤ 72) (h37 : ∀ c : Int, 0 ≤ c → c < n → 0 ≤ σ 37 c ∧ σ 37 c ≤ 5000000000000) : z_Ci l D t yX1_makeWhole cX1_makeWhole 7 .boolean 1 24 0 0 [.ref (ad 3)] (wX ad t σ) (fun r w => ∃ σ', w = wX ad t σ' ∧ ((zSum (σ 37) n ≤ 0 ∧ r = 0 ∧ σ' = σ) ∨ (0 < zSum (σ 37) n ∧ r = 1 ∧ zE σ' σ [9, 38] ∧ ∀ c : Int, 0 ≤ c → c < n → σ' 9 c = zWh (σ 37) n c))) := by
  refine z_Ci_of (by decide +kernel) [some (.ref (ad 3)), none, none, none, none, none, none] rfl rfl (Nat.le_of_ble_eq_true rfl) fun K hl hD ht hR hnm C ret => ?_
  subst hl; subst hD; subst ht
  refine z_lconst C (x := 0) rfl (z_d dtX1_makeWhole_0 0 rfl) ?_
  refine z_lstore_n1 C (z_d dtX1_makeWhole_0 1 rfl) rfl ?_
  refine z_iconst C (z_d dtX1_makeWhole_0 2 rfl) ?_
  refine z_istore_n3 C (z_d dtX1_makeWhole_0 3 rfl) rfl ?_
  have lp_4 : ∀ (N_4 : Nat) (i : Nat) (c s : Int), (c = i ∧ i ≤ n) → (s = zSum (σ 37) i) → n - i < N_4 → Gd K 0 0 4 [some (.ref (ad 3)), some (.long (zL s)), none, some (.int (zI c)), none, none, none] [] (wX ad (z_t K) σ) := by
    intro N_4
    induction N_4 with
    | zero => intro i c s hi hs hm_4; exact absurd hm_4 (Nat.not_lt_zero _)
    | succ N_4 ih_4 =>
      intro i c s hi hs hm_4
      obtain ⟨rfl, hi⟩ := hi
      have hsb := zSum_b (F := σ 37) (a := 0) (b := 5000000000000) i (fun c h0 h1 => h37 c h0 (by omega))
      have hci := fun q : i < n => h37 i (by omega) (by omega)
      refine z_iload_n C (z_d dtX1_makeWhole_0 4 rfl) rfl ?_
      refine z_aload_n C (z_d dtX1_makeWhole_0 5 rfl) rfl ?_
      refine gf_X1_9 C (z_d dtX1_makeWhole_0 6 rfl) ?_
      try simp (decide := true) only [zS_s, zS_o, zC, zU_s, e37, e36]
      refine z_icmp_ge (tgt := 27) C (z_d dtX1_makeWhole_0 7 rfl) (by decide) (by omega) (fun h_9 => ?_) (fun h_9 => ?_)
      · refine z_lload_n C (z_d dtX1_makeWhole_0 17 rfl) rfl ?_
        refine z_lconst C (x := 0) rfl (z_d dtX1_makeWhole_0 18 rfl) ?_
        refine z_lcmpP C (z_d dtX1_makeWhole_0 19 rfl) (by omega) (fun m_29 h_29 => ?_)
        refine z_if_gt (tgt := 35) C (z_d dtX1_makeWhole_0 20 rfl) (by decide) (by omega) (fun h_30 => ?_) (fun h_30 => ?_)
        · have hs2 : s = zSum (σ 37) n := by rw [hs, show i = n by omega]
          subst hs2
          have hS : 0 < zSum (σ 37) n := by omega
          have hlk := zLk_b hS
          refine z_ldc C gk_RX1_39 (z_d dtX1_makeWhole_0 23 rfl) ?_
          refine z_istore_n3 C (z_d dtX1_makeWhole_0 24 rfl) rfl ?_
          refine z_iconst C (z_d dtX1_makeWhole_0 25 rfl) ?_
          refine z_istore4 C (z_d dtX1_makeWhole_0 26 rfl) rfl ?_
          have lp_41 : ∀ (N_41 : Nat) (i2 : Nat) (c k : Int) (μ : zMem), (c = i2 ∧ i2 ≤ n) → (zE μ σ [9, 38]) → (k = 1000000 - zSum (zQo (σ 37) n) i2) → (∀ j : Int, 0 ≤ j → j < i2 → μ 9 j = zQo (σ 37) n j ∧ μ 38 j = zRe (σ 37) n j) → n - i2 < N_41 → Gd K 0 0 41 [some (.ref (ad 3)), some (.long (zL (zSum (σ 37) n))), none, some (.int (zI k)), some (.int (zI c)), none, none] [] (wX ad (z_t K) μ) := by
            intro N_41
            induction N_41 with
            | zero => intro i2 c k μ hi2 hE hk hm hm_41; exact absurd hm_41 (Nat.not_lt_zero _)
            | succ N_41 ih_41 =>
              intro i2 c k μ hi2 hE hk hm hm_41
              obtain ⟨rfl, hi2⟩ := hi2
              have e36 := hE 36 (by decide)
              have e37 := hE 37 (by decide)
              have hcj := fun q : i2 < n => h37 i2 (by omega) (by omega)
              have hqb := zSum_b (F := zQo (σ 37) n) (a := 0) (b := 1000000) i2 (fun c h0 h1 => zQo_b hS (fun c a b => (h37 c a b).1) c h0 (by omega))
              refine z_iload C (z_d dtX1_makeWhole_0 27 rfl) rfl ?_
              refine z_aload_n C (z_d dtX1_makeWhole_0 28 rfl) rfl ?_
              refine gf_X1_9 C (z_d dtX1_makeWhole_0 29 rfl) ?_
              try simp (decide := true) only [zS_s, zS_o, zC, zU_s, e37, e36]
              refine z_icmp_ge (tgt := 102) C (z_d dtX1_makeWhole_0 30 rfl) (by decide) (by omega) (fun h_47 => ?_) (fun h_47 => ?_)
              · refine z_aload_n C (z_d dtX1_makeWhole_1 22 rfl) rfl ?_
                refine z_iload_n C (z_d dtX1_makeWhole_1 23 rfl) rfl ?_
                refine z_top (show k = (((zLk (σ 37) n).toNat : Nat) : Int) by rw [hk, show i2 = n by omega, Int.toNat_of_nonneg hlk.1]; rfl) ?_
                refine z_callVv C (z_d dtX1_makeWhole_1 24 rfl) (k_X1_handOut  (by rw [e36]; exact hn) (by omega) (fun c h0 h1 => by
                          rw [(hm c h0 (by omega)).2]
                          have a := Int.emod_nonneg (σ 37 c * 1000000) (show zSum (σ 37) n ≠ 0 by omega)
                          have b := Int.emod_lt_of_pos (σ 37 c * 1000000) hS
                          unfold zRe
                          omega)) cal_X1_handOut gw_6_23 rfl 3 1 rfl rfl rfl rfl hR ⟨rfl, rfl, rfl, rfl⟩ rfl (fun w_104 h_104 => ?_)
                obtain ⟨σ_104, rfl, hE_104, h_104⟩ := h_104
                refine z_iconst C (z_d dtX1_makeWhole_1 25 rfl) ?_
                exact ret _ _ _ _ (z_d dtX1_makeWhole_1 26 rfl) (⟨_, rfl, Or.inr ⟨hS, rfl, zE_tr hE_104 hE, fun c h0 h1 => by
                          rw [h_104]
                          exact (zHc_cg (p := (μ 9, μ 38)) (q := (zQo (σ 37) n, zRe (σ 37) n)) hn.2.1 (fun c a b => (hm c a (by omega)).1) (fun c a b => (hm c a (by omega)).2) _).1 c h0 h1⟩⟩) (z_nb (by omega))
              · refine z_aload_n C (z_d dtX1_makeWhole_0 31 rfl) rfl ?_
                refine gf_X1_19 C (z_d dtX1_makeWhole_0 32 rfl) ?_
                refine z_iload C (z_d dtX1_makeWhole_0 33 rfl) rfl ?_
                refine al_X16 C (z_d dtX1_makeWhole_0 34 rfl) (by omega) ?_
                try simp (decide := true) only [zS_s, zS_o, zC, zU_s, e37, e36]
                refine z_ldc2 C gk_RX1_40 (z_d dtX1_makeWhole_0 35 rfl) ?_
                refine z_lmul C (z_d dtX1_makeWhole_0 36 rfl) ?_
                refine z_lstore5 C (z_d dtX1_makeWhole_0 37 rfl) rfl ?_
                refine z_aload_n C (z_d dtX1_makeWhole_0 38 rfl) rfl ?_
                refine gf_X1_15 C (z_d dtX1_makeWhole_0 39 rfl) ?_
                refine z_iload C (z_d dtX1_makeWhole_1 0 rfl) rfl ?_
                refine z_lload C (z_d dtX1_makeWhole_1 1 rfl) rfl ?_
                refine z_lload_n C (z_d dtX1_makeWhole_1 2 rfl) rfl ?_
                refine z_ldiv C (z_d dtX1_makeWhole_1 3 rfl) (by omega) ?_
                refine z_l2i C (z_d dtX1_makeWhole_1 4 rfl) ?_
                refine as_X15 C (z_d dtX1_makeWhole_1 5 rfl) (by omega) ?_
                refine z_aload_n C (z_d dtX1_makeWhole_1 6 rfl) rfl ?_
                refine gf_X1_23 C (z_d dtX1_makeWhole_1 7 rfl) ?_
                refine z_iload C (z_d dtX1_makeWhole_1 8 rfl) rfl ?_
                refine z_lload C (z_d dtX1_makeWhole_1 9 rfl) rfl ?_
                refine z_lload_n C (z_d dtX1_makeWhole_1 10 rfl) rfl ?_
                refine z_lrem C (z_d dtX1_makeWhole_1 11 rfl) (by omega) ?_
                refine as_X17 C (z_d dtX1_makeWhole_1 12 rfl) (by omega) ?_
                refine z_iload_n C (z_d dtX1_makeWhole_1 13 rfl) rfl ?_
                refine z_aload_n C (z_d dtX1_makeWhole_1 14 rfl) rfl ?_
                refine gf_X1_15 C (z_d dtX1_makeWhole_1 15 rfl) ?_
                refine z_iload C (z_d dtX1_makeWhole_1 16 rfl) rfl ?_
                refine al_X15 C (z_d dtX1_makeWhole_1 17 rfl) (by omega) ?_
                try simp (decide := true) only [zS_s, zS_o, zC, zU_s, e37, e36]
                refine z_isub C (z_d dtX1_makeWhole_1 18 rfl) ?_
                refine z_istore_n3 C (z_d dtX1_makeWhole_1 19 rfl) rfl ?_
                refine z_iinc4 C (z_d dtX1_makeWhole_1 20 rfl) rfl ?_
                refine z_goto (tgt := 41) C (z_d dtX1_makeWhole_1 21 rfl) (by decide) ?_
                refine z_drop5 ?_
                exact ih_41 (i2 + 1) _ _ _ (by omega) (zE_set (zE_set hE (by decide)) (by decide)) (by
                        rw [zSum]
                        show _ = 1000000 - (_ + σ 37 i2 * 1000000 / zSum (σ 37) n)
                        omega) (fun j h0 h1 => by
                        show zU (μ 9) _ _ j = _ ∧ zU (μ 38) _ _ j = _
                        by_cases e : j = i2
                        · subst e; rw [zU_s, zU_s]; exact ⟨rfl, rfl⟩
                        · rw [zU_n e, zU_n e]; exact hm j h0 (by omega)) (by omega)
          exact lp_41 _ 0 _ _ _ (by omega) zE_rf (by simp [zSum]) (fun j h0 h1 => absurd h1 (by omega)) (Nat.lt_succ_self _)
        · refine z_iconst C (z_d dtX1_makeWhole_0 21 rfl) ?_
          exact ret _ _ _ _ (z_d dtX1_makeWhole_0 22 rfl) (⟨_, rfl, Or.inl ⟨by rw [show n = i by omega]; omega, rfl, rfl⟩⟩) (z_nb (by omega))
      · refine z_lload_n C (z_d dtX1_makeWhole_0 8 rfl) rfl ?_
        refine z_aload_n C (z_d dtX1_makeWhole_0 9 rfl) rfl ?_
        refine gf_X1_19 C (z_d dtX1_makeWhole_0 10 rfl) ?_
        refine z_iload_n C (z_d dtX1_makeWhole_0 11 rfl) rfl ?_
        refine al_X16 C (z_d dtX1_makeWhole_0 12 rfl) (by omega) ?_
        try simp (decide := true) only [zS_s, zS_o, zC, zU_s, e37, e36]
        refine z_ladd C (z_d dtX1_makeWhole_0 13 rfl) ?_
        refine z_lstore_n1 C (z_d dtX1_makeWhole_0 14 rfl) rfl ?_
        refine z_iinc3 C (z_d dtX1_makeWhole_0 15 rfl) rfl ?_
        refine z_goto (tgt := 4) C (z_d dtX1_makeWhole_0 16 rfl) (by decide) ?_
        exact ih_4 (i + 1) _ _ (by omega) (by rw [zSum, hs]) (by omega)
  exact lp_4 _ 0 _ _ (by omega) rfl (Nat.lt_succ_self _)

set_option maxRecDepth 100000 in
set_option maxHeartbeats 4000000 in
theorem k_X1_makeAlike {l : Launch} {D : va_G} {t : Nat → ClassId} {ad : Nat → Nat} {σ : zMem} {n : Nat} (hn2 : 1 ≤ n ∧ n ≤ 72) : z_Cv l D t yX1_makeAlike cX1_makeAlike 2 2 50 0 0 [.ref (ad 3), .int (zI n)] (wX ad t σ) (fun w => ∃ σ', w = wX ad t σ' ∧ zE σ' σ [9, 36, 37, 38] ∧ σ' 36 = zC n ∧ ∀ c : Int, 0 ≤ c → c < n → σ' 9 c = zWh (zC 1) n c) := by
  refine z_Cv_of (by decide +kernel) [some (.ref (ad 3)), some (.int (zI n))] rfl rfl (Nat.le_of_ble_eq_true rfl) fun K hl hD ht hR hnm C ret => ?_
  subst hl; subst hD; subst ht
  refine z_aload_n C (z_d dtX1_makeAlike_0 0 rfl) rfl ?_
  refine z_iload_n C (z_d dtX1_makeAlike_0 1 rfl) rfl ?_
  refine pf_X1_9 C (z_d dtX1_makeAlike_0 2 rfl) ?_
  refine z_aload_n C (z_d dtX1_makeAlike_0 3 rfl) rfl ?_
  refine gf_X1_19 C (z_d dtX1_makeAlike_0 4 rfl) ?_
  refine z_lconst C (x := 1) rfl (z_d dtX1_makeAlike_0 5 rfl) ?_
  refine z_callSv C (z_d dtX1_makeAlike_0 6 rfl) kf_X16 cal_J7_fill_d0a16 gw_6_14 rfl rfl hR ⟨rfl, rfl, rfl, rfl⟩ rfl (fun w_10 h_10 => ?_)
  subst h_10
  generalize hμ : zS (zS σ 36 (zC n)) 37 (zC 1) = μ
  have m37 : μ 37 = zC 1 := by rw [← hμ]; rfl
  have m36 : μ 36 = zC n := by rw [← hμ]; rfl
  have hE : zE μ σ [36, 37] := by rw [← hμ]; exact zE_set (zE_set zE_rf (by decide)) (by decide)
  have hsum := zSum_b (F := zC 1) (a := 1) (b := 1) n (fun c _ _ => ⟨Int.le_refl _, Int.le_refl _⟩)
  refine z_aload_n C (z_d dtX1_makeAlike_0 7 rfl) rfl ?_
  refine z_callV C (z_d dtX1_makeAlike_0 8 rfl) (k_X1_makeWhole  (show μ 36 0 = (n : Int) ∧ _ from ⟨by rw [m36]; rfl, hn2⟩) (fun c _ _ => by rw [m37]; exact ⟨show (0 : Int) ≤ 1 by decide, show (1 : Int) ≤ 5000000000000 by decide⟩)) cal_X1_makeWhole gw_6_17 rfl 3 1 rfl rfl rfl rfl hR ⟨rfl, rfl, rfl, rfl⟩ rfl (fun r_14 w_14 h_14 => ?_)
  obtain ⟨σ_14, rfl, h_14⟩ := h_14
  refine z_pop C (z_d dtX1_makeAlike_0 9 rfl) rfl ?_
  exact ret _ _ _ (z_d dtX1_makeAlike_0 10 rfl) (by
      rw [m37] at h_14
      rcases h_14 with ⟨a, -, -⟩ | ⟨-, -, a, b⟩
      · omega
      · exact ⟨_, rfl, zE_tr (zE_mo a (by decide)) (zE_mo hE (by decide)), (a 36 (by decide)).trans m36, b⟩)

set_option maxRecDepth 100000 in
set_option maxHeartbeats 4000000 in
theorem k_X1_spread {l : Launch} {D : va_G} {t : Nat → ClassId} {ad : Nat → Nat} {σ : zMem} {c lv all : Int} (hw : zHw σ) (ht : zTb σ) (hs : 0 ≤ σ 3 0 ∧ σ 3 0 ≤ 9) (hc : 0 ≤ c ∧ c < zN σ) (hl : 0 ≤ lv ∧ lv ≤ 1000000000) (ha : 1 ≤ all ∧ all ≤ 1000) : z_Cv l D t yX1_spread cX1_spread 8 2 41 0 0 [.ref (ad 3), .ref (ad 1), .int (zI c), .long (zL lv), .int (zI all)] (wX ad t σ) (fun w => w = wX ad t (zS σ 37 (zSp σ c lv all (σ 37) 7))) := by
  refine z_Cv_of (by decide +kernel) [some (.ref (ad 3)), some (.ref (ad 1)), some (.int (zI c)), some (.long (zL lv)), none, some (.int (zI all)), none, none] rfl rfl (Nat.le_of_ble_eq_true rfl) fun K hl hD ht hR hnm C ret => ?_
  subst hl; subst hD; subst ht
  have hN := zHw_N hw
  have htb := zTb_b hw ht hc
  refine z_iconst C (z_d dtX1_spread_0 0 rfl) ?_
  refine z_istore6 C (z_d dtX1_spread_0 1 rfl) rfl ?_
  have lp_3 : ∀ (N_3 : Nat) (i : Nat) (d : Int) (μ : zMem), (d = i ∧ i ≤ 7) → (μ = zS σ 37 (zSp σ c lv all (σ 37) i)) → 7 - i < N_3 → Gd K 0 0 3 [some (.ref (ad 3)), some (.ref (ad 1)), some (.int (zI c)), some (.long (zL lv)), none, some (.int (zI all)), some (.int (zI d)), none] [] (wX ad (z_t K) μ) := by
    intro N_3
    induction N_3 with
    | zero => intro i d μ hi hm hm_3; exact absurd hm_3 (Nat.not_lt_zero _)
    | succ N_3 ih_3 =>
      intro i d μ hi hm hm_3
      obtain ⟨rfl, hi⟩ := hi
      have hE : zE μ σ [37] := by rw [hm]; exact zE_set zE_rf (by decide)
      have e37 : μ 37 = zSp σ c lv all (σ 37) i := by rw [hm]; rfl
      have e33 := hE 33 (by decide)
      have eN := zN_E hE (by decide) (by decide) (by decide)
      have hb := htb i (by omega)
      have hk := zLik_b hs i
      have hk0 := Int.mul_nonneg hl.1 hk.1
      have hk1 : lv * zLik σ i ≤ 1000000000 * 9 := Int.mul_le_mul hl.2 hk.2 hk.1 (by omega)
      have eL := zLik_E hE (by decide) i
      refine z_iload C (z_d dtX1_spread_0 2 rfl) rfl ?_
      refine z_bipush C (z_d dtX1_spread_0 3 rfl) zb_7 ?_
      refine z_icmp_ge (tgt := 62) C (z_d dtX1_spread_0 4 rfl) (by decide) (by omega) (fun h_7 => ?_) (fun h_7 => ?_)
      · exact ret _ _ _ (z_d dtX1_spread_0 34 rfl) (by rw [hm, show i = 7 by omega])
      · refine z_aload_n C (z_d dtX1_spread_0 5 rfl) rfl ?_
        refine z_iload_n C (z_d dtX1_spread_0 6 rfl) rfl ?_
        refine z_iload C (z_d dtX1_spread_0 7 rfl) rfl ?_
        refine z_callV C (z_d dtX1_spread_0 8 rfl) (k_X3_targetOf  (by omega) (by first | assumption | omega)) cal_X3_targetOf gw_21_11 rfl 1 3 rfl rfl rfl rfl hR ⟨rfl, rfl, rfl, rfl⟩ rfl (fun r_14 w_14 h_14 => ?_)
        obtain ⟨rfl, rfl⟩ := h_14
        rw [e33]
        refine z_istore7 C (z_d dtX1_spread_0 9 rfl) rfl ?_
        refine z_aload_n C (z_d dtX1_spread_0 10 rfl) rfl ?_
        refine z_iload C (z_d dtX1_spread_0 11 rfl) rfl ?_
        refine z_callV C (z_d dtX1_spread_0 12 rfl) (k_X3_hasCell  (zHw_E hE (by decide) (by decide) (by decide) hw) (by first | assumption | omega)) cal_X3_hasCell gw_21_12 rfl 1 3 rfl rfl rfl rfl hR ⟨rfl, rfl, rfl, rfl⟩ rfl (fun r_22 w_22 h_22 => ?_)
        obtain ⟨rfl, h_22⟩ := h_22
        rw [eN] at h_22
        refine z_if_eq (tgt := 56) C (z_d dtX1_spread_0 13 rfl) (by decide) (by omega) (fun h_25 => ?_) (fun h_25 => ?_)
        · refine z_iinc6 C (z_d dtX1_spread_0 32 rfl) rfl ?_
          refine z_goto (tgt := 3) C (z_d dtX1_spread_0 33 rfl) (by decide) ?_
          refine z_drop7 ?_
          exact ih_3 (i + 1) _ _ (by omega) (by
                rw [zSp]
                first
                  | (rw [if_neg (by omega)]; exact hm)
                  | (rw [if_pos (by omega), hm, zS_zS, zS_s])) (by omega)
        · refine z_iload C (z_d dtX1_spread_0 14 rfl) rfl ?_
          refine z_if_le (tgt := 56) C (z_d dtX1_spread_0 15 rfl) (by decide) (by omega) (fun h_30 => ?_) (fun h_30 => ?_)
          · refine z_iinc6 C (z_d dtX1_spread_0 32 rfl) rfl ?_
            refine z_goto (tgt := 3) C (z_d dtX1_spread_0 33 rfl) (by decide) ?_
            refine z_drop7 ?_
            exact ih_3 (i + 1) _ _ (by omega) (by
                  rw [zSp]
                  first
                    | (rw [if_neg (by omega)]; exact hm)
                    | (rw [if_pos (by omega), hm, zS_zS, zS_s])) (by omega)
          · refine z_aload_n C (z_d dtX1_spread_0 16 rfl) rfl ?_
            refine gf_X1_19 C (z_d dtX1_spread_0 17 rfl) ?_
            refine z_iload C (z_d dtX1_spread_0 18 rfl) rfl ?_
            refine z_dup2 C (z_d dtX1_spread_0 19 rfl) rfl rfl ?_
            refine al_X16 C (z_d dtX1_spread_0 20 rfl) (by omega) ?_
            try simp (decide := true) only [zS_s, zS_o, zC, e37]
            refine z_lload_n C (z_d dtX1_spread_0 21 rfl) rfl ?_
            refine z_aload_n C (z_d dtX1_spread_0 22 rfl) rfl ?_
            refine z_iload C (z_d dtX1_spread_0 23 rfl) rfl ?_
            refine z_callV C (z_d dtX1_spread_0 24 rfl) (k_X3_likelyTo  (by first | assumption | omega)) cal_X3_likelyTo gw_21_13 rfl 1 3 rfl rfl rfl rfl hR ⟨rfl, rfl, rfl, rfl⟩ rfl (fun r_45 w_45 h_45 => ?_)
            obtain ⟨rfl, rfl⟩ := h_45
            rw [eL]
            refine z_i2l C (z_d dtX1_spread_0 25 rfl) (by omega) ?_
            refine z_lmul C (z_d dtX1_spread_0 26 rfl) ?_
            refine z_iload C (z_d dtX1_spread_0 27 rfl) rfl ?_
            refine z_i2l C (z_d dtX1_spread_0 28 rfl) (by omega) ?_
            refine z_ldiv C (z_d dtX1_spread_0 29 rfl) (by omega) ?_
            refine z_ladd C (z_d dtX1_spread_0 30 rfl) ?_
            refine as_X16 C (z_d dtX1_spread_0 31 rfl) (by omega) ?_
            refine z_iinc6 C (z_d dtX1_spread_0 32 rfl) rfl ?_
            refine z_goto (tgt := 3) C (z_d dtX1_spread_0 33 rfl) (by decide) ?_
            refine z_drop7 ?_
            exact ih_3 (i + 1) _ _ (by omega) (by
                  rw [zSp]
                  first
                    | (rw [if_neg (by omega)]; exact hm)
                    | (rw [if_pos (by omega), hm, zS_zS, zS_s])) (by omega)
  exact lp_3 _ 0 _ _ (by omega) (by funext j; unfold zS; cases hj : Nat.beq j 37 with
      | true => rw [Nat.eq_of_beq_eq_true hj]; rfl
      | false => rfl) (Nat.lt_succ_self _)

set_option maxRecDepth 100000 in
set_option maxHeartbeats 4000000 in
theorem k_X1_leadOneStep {l : Launch} {D : va_G} {t : Nat → ClassId} {ad : Nat → Nat} {σ : zMem} {n : Nat} (hw : zHw σ) (ht : zTb σ) (hs : 0 ≤ σ 3 0 ∧ σ 3 0 ≤ 9) (hn : σ 36 0 = (n : Int) ∧ 1 ≤ n ∧ n ≤ 72) (hnN : zN σ = n) (h9 : ∀ c : Int, 0 ≤ c → c < n → 0 ≤ σ 9 c ∧ σ 9 c ≤ 1000000) : z_Cv l D t yX1_leadOneStep cX1_leadOneStep 6 3 68 0 0 [.ref (ad 3), .ref (ad 1)] (wX ad t σ) (fun w => ∃ σ', w = wX ad t σ' ∧ zE σ' σ [9, 37, 38] ∧ ((zSum (zLw σ n) n ≤ 0 ∧ σ' 9 = σ 9) ∨ (0 < zSum (zLw σ n) n ∧ ∀ c : Int, 0 ≤ c → c < n → σ' 9 c = zWh (zLw σ n) n c))) := by
  refine z_Cv_of (by decide +kernel) [some (.ref (ad 3)), some (.ref (ad 1)), none, none, none, none] rfl rfl (Nat.le_of_ble_eq_true rfl) fun K hl hD ht hR hnm C ret => ?_
  subst hl; subst hD; subst ht
  refine z_aload_n C (z_d dtX1_leadOneStep_0 0 rfl) rfl ?_
  refine gf_X1_19 C (z_d dtX1_leadOneStep_0 1 rfl) ?_
  refine z_lconst C (x := 0) rfl (z_d dtX1_leadOneStep_0 2 rfl) ?_
  refine z_callSv C (z_d dtX1_leadOneStep_0 3 rfl) kf_X16 cal_J7_fill_d0a16 gw_6_14 rfl rfl hR ⟨rfl, rfl, rfl, rfl⟩ rfl (fun w_5 h_5 => ?_)
  subst h_5
  refine z_iconst C (z_d dtX1_leadOneStep_0 4 rfl) ?_
  refine z_istore_n2 C (z_d dtX1_leadOneStep_0 5 rfl) rfl ?_
  have lp_10 : ∀ (N_10 : Nat) (i : Nat) (c : Int) (μ : zMem), (c = i ∧ i ≤ n) → (μ = zS σ 37 (zLw σ i)) → n - i < N_10 → Gd K 0 0 10 [some (.ref (ad 3)), some (.ref (ad 1)), some (.int (zI c)), none, none, none] [] (wX ad (z_t K) μ) := by
    intro N_10
    induction N_10 with
    | zero => intro i c μ hi hm hm_10; exact absurd hm_10 (Nat.not_lt_zero _)
    | succ N_10 ih_10 =>
      intro i c μ hi hm hm_10
      obtain ⟨rfl, hi⟩ := hi
      have hE : zE μ σ [37] := by rw [hm]; exact zE_set zE_rf (by decide)
      have e37 : μ 37 = zLw σ i := by rw [hm]; rfl
      have e36 := hE 36 (by decide)
      have e9 := hE 9 (by decide)
      have eN := zN_E hE (by decide) (by decide) (by decide)
      have eA := zAll_E hE (by decide) (by decide) i 7
      have hA := zAll_b hs i 7
      have h9i := fun q : i < n => h9 i (by omega) (by omega)
      have hw2 := zHw_E hE (by decide) (by decide) (by decide) hw
      have ht2 := zTb_E hE (by decide) (by decide) (by decide) (by decide) (by decide) (by decide) (by decide) (by decide) ht
      have e3 := hE 3 (by decide)
      refine z_iload_n C (z_d dtX1_leadOneStep_0 6 rfl) rfl ?_
      refine z_aload_n C (z_d dtX1_leadOneStep_0 7 rfl) rfl ?_
      refine gf_X1_9 C (z_d dtX1_leadOneStep_0 8 rfl) ?_
      try simp (decide := true) only [zS_s, zS_o, zC, e37, e9, e36]
      refine z_icmp_ge (tgt := 70) C (z_d dtX1_leadOneStep_0 9 rfl) (by decide) (by omega) (fun h_15 => ?_) (fun h_15 => ?_)
      · refine z_aload_n C (z_d dtX1_leadOneStep_1 1 rfl) rfl ?_
        have hLb := zLw_b hs n h9
        refine z_callV C (z_d dtX1_leadOneStep_1 2 rfl) (k_X1_makeWhole (n := n) (by rw [e36]; exact hn) (fun c h0 h1 => by
                  rw [e37, show i = n by omega]
                  have := hLb c
                  omega)) cal_X1_makeWhole gw_6_17 rfl 3 1 rfl rfl rfl rfl hR ⟨rfl, rfl, rfl, rfl⟩ rfl (fun r_71 w_71 h_71 => ?_)
        obtain ⟨σ_71, rfl, h_71⟩ := h_71
        refine z_pop C (z_d dtX1_leadOneStep_1 3 rfl) rfl ?_
        exact ret _ _ _ (z_d dtX1_leadOneStep_1 4 rfl) (by
                  rw [e37, show i = n by omega] at h_71
                  rcases h_71 with ⟨a, -, b⟩ | ⟨a, -, b, g⟩
                  · subst b; exact ⟨_, rfl, zE_mo hE (by decide), Or.inl ⟨a, e9⟩⟩
                  · exact ⟨_, rfl, zE_tr (zE_mo b (by decide)) (zE_mo hE (by decide)), Or.inr ⟨a, g⟩⟩)
      · refine z_aload_n C (z_d dtX1_leadOneStep_0 10 rfl) rfl ?_
        refine z_iload_n C (z_d dtX1_leadOneStep_0 11 rfl) rfl ?_
        refine z_callV C (z_d dtX1_leadOneStep_0 12 rfl) (k_X3_likelyOfAll  (by first | assumption | omega) (by omega) (by rw [e3]; exact hs) (by first | assumption | omega)) cal_X3_likelyOfAll gw_21_3 rfl 1 3 rfl rfl rfl rfl hR ⟨rfl, rfl, rfl, rfl⟩ rfl (fun r_20 w_20 h_20 => ?_)
        obtain ⟨rfl, rfl⟩ := h_20
        rw [eA]
        refine z_istore_n3 C (z_d dtX1_leadOneStep_0 13 rfl) rfl ?_
        refine z_aload_n C (z_d dtX1_leadOneStep_0 14 rfl) rfl ?_
        refine gf_X1_15 C (z_d dtX1_leadOneStep_0 15 rfl) ?_
        refine z_iload_n C (z_d dtX1_leadOneStep_0 16 rfl) rfl ?_
        refine al_X15 C (z_d dtX1_leadOneStep_0 17 rfl) (by omega) ?_
        try simp (decide := true) only [zS_s, zS_o, zC, e37, e9, e36]
        refine z_i2l C (z_d dtX1_leadOneStep_0 18 rfl) (by omega) ?_
        refine z_ldc2 C gk_RX1_52 (z_d dtX1_leadOneStep_0 19 rfl) ?_
        refine z_lmul C (z_d dtX1_leadOneStep_0 20 rfl) ?_
        refine z_lstore4 C (z_d dtX1_leadOneStep_0 21 rfl) rfl ?_
        refine z_iload_n C (z_d dtX1_leadOneStep_0 22 rfl) rfl ?_
        refine z_if_gt (tgt := 55) C (z_d dtX1_leadOneStep_0 23 rfl) (by decide) (by omega) (fun h_38 => ?_) (fun h_38 => ?_)
        · refine z_aload_n C (z_d dtX1_leadOneStep_0 33 rfl) rfl ?_
          refine z_aload_n C (z_d dtX1_leadOneStep_0 34 rfl) rfl ?_
          refine z_iload_n C (z_d dtX1_leadOneStep_0 35 rfl) rfl ?_
          refine z_lload C (z_d dtX1_leadOneStep_0 36 rfl) rfl ?_
          refine z_iload_n C (z_d dtX1_leadOneStep_0 37 rfl) rfl ?_
          refine z_callVv C (z_d dtX1_leadOneStep_0 38 rfl) (k_X1_spread  (by first | assumption | omega) (by first | assumption | omega) (by rw [e3]; exact hs) (by omega) (by first | assumption | omega) (by first | assumption | omega)) cal_X1_spread gw_21_7 rfl 3 1 rfl rfl rfl rfl hR ⟨rfl, rfl, rfl, rfl⟩ rfl (fun w_61 h_61 => ?_)
          obtain rfl := h_61
          rw [zSp_E hE (by decide) (by decide) (by decide) (by decide) (by decide), e37]
          refine z_iinc2 C (z_d dtX1_leadOneStep_0 39 rfl) rfl ?_
          refine z_goto (tgt := 10) C (z_d dtX1_leadOneStep_1 0 rfl) (by decide) ?_
          refine z_drop3 ?_
          refine z_drop4 ?_
          exact ih_10 (i + 1) _ _ (by omega) (by
                rw [zLw]
                first
                  | (rw [if_pos (by omega), hm, zS_zS, zS_s])
                  | (rw [if_neg (by omega), hm, zS_zS])) (by omega)
        · refine z_aload_n C (z_d dtX1_leadOneStep_0 24 rfl) rfl ?_
          refine gf_X1_19 C (z_d dtX1_leadOneStep_0 25 rfl) ?_
          refine z_iload_n C (z_d dtX1_leadOneStep_0 26 rfl) rfl ?_
          refine z_dup2 C (z_d dtX1_leadOneStep_0 27 rfl) rfl rfl ?_
          refine al_X16 C (z_d dtX1_leadOneStep_0 28 rfl) (by omega) ?_
          try simp (decide := true) only [zS_s, zS_o, zC, e37, e9, e36]
          refine z_lload C (z_d dtX1_leadOneStep_0 29 rfl) rfl ?_
          refine z_ladd C (z_d dtX1_leadOneStep_0 30 rfl) ?_
          refine as_X16 C (z_d dtX1_leadOneStep_0 31 rfl) (by omega) ?_
          refine z_goto (tgt := 64) C (z_d dtX1_leadOneStep_0 32 rfl) (by decide) ?_
          refine z_iinc2 C (z_d dtX1_leadOneStep_0 39 rfl) rfl ?_
          refine z_goto (tgt := 10) C (z_d dtX1_leadOneStep_1 0 rfl) (by decide) ?_
          refine z_drop3 ?_
          refine z_drop4 ?_
          exact ih_10 (i + 1) _ _ (by omega) (by
                rw [zLw]
                first
                  | (rw [if_pos (by omega), hm, zS_zS, zS_s])
                  | (rw [if_neg (by omega), hm, zS_zS])) (by omega)
  exact lp_10 _ 0 _ _ (by omega) rfl (Nat.lt_succ_self _)

set_option maxRecDepth 100000 in
set_option maxHeartbeats 4000000 in
theorem k_X1_weighSender {l : Launch} {D : va_G} {t : Nat → ClassId} {ad : Nat → Nat} {σ : zMem} {k v : Int} {n : Nat} (hn : σ 36 0 = (n : Int) ∧ 1 ≤ n ∧ n ≤ 72) (hk : 0 ≤ k ∧ k < 8) (hv : -1 ≤ v ∧ v ≤ 9) (hmp : zMp σ) (h37 : ∀ c : Int, 0 ≤ c → c < n → 0 ≤ σ 37 c ∧ σ 37 c ≤ 1000) : z_Cv l D t yX1_weighSender cX1_weighSender 6 3 70 0 0 [.ref (ad 3), .ref (ad 2), .int (zI k), .int (zI v)] (wX ad t σ) (fun w => ∃ σ', w = wX ad t σ' ∧ zE σ' σ [37] ∧ ∀ c : Int, 0 ≤ c → c < n → σ' 37 c = σ 37 c * zWt σ k c v / zGw σ k v n) := by
  refine z_Cv_of (by decide +kernel) [some (.ref (ad 3)), some (.ref (ad 2)), some (.int (zI k)), some (.int (zI v)), none, none] rfl rfl (Nat.le_of_ble_eq_true rfl) fun K hl hD ht hR hnm C ret => ?_
  subst hl; subst hD; subst ht
  have hG := zGw_b hmp k v n
  refine z_aload_n C (z_d dtX1_weighSender_0 0 rfl) rfl ?_
  refine z_iload_n C (z_d dtX1_weighSender_0 1 rfl) rfl ?_
  refine z_iload_n C (z_d dtX1_weighSender_0 2 rfl) rfl ?_
  refine z_aload_n C (z_d dtX1_weighSender_0 3 rfl) rfl ?_
  refine gf_X1_9 C (z_d dtX1_weighSender_0 4 rfl) ?_
  try simp (decide := true) only [zS_s, zS_o, zC, e36]
  refine z_top hn.1 ?_
  refine z_callV C (z_d dtX1_weighSender_0 5 rfl) (k_X4_greatestWeight (n := (n : Int)) (by first | assumption | omega) (by first | assumption | omega) (by first | assumption | omega) (by omega)) cal_X4_greatestWeight gw_22_17 rfl 2 4 rfl rfl rfl rfl hR ⟨rfl, rfl, rfl, rfl⟩ rfl (fun r_7 w_7 h_7 => ?_)
  obtain ⟨rfl, rfl⟩ := h_7
  rw [show ((n : Int)).toNat = n from Int.toNat_natCast n]
  refine z_istore4 C (z_d dtX1_weighSender_0 6 rfl) rfl ?_
  refine z_iconst C (z_d dtX1_weighSender_0 7 rfl) ?_
  refine z_istore5 C (z_d dtX1_weighSender_0 8 rfl) rfl ?_
  have lp_15 : ∀ (N_15 : Nat) (i : Nat) (c : Int) (μ : zMem), (c = i ∧ i ≤ n) → (zE μ σ [37]) → ((∀ c : Int, 0 ≤ c → c < i → μ 37 c = σ 37 c * zWt σ k c v / zGw σ k v n) ∧ ∀ c : Int, i ≤ c → μ 37 c = σ 37 c) → n - i < N_15 → Gd K 0 0 15 [some (.ref (ad 3)), some (.ref (ad 2)), some (.int (zI k)), some (.int (zI v)), some (.int (zI (zGw σ k v n))), some (.int (zI c))] [] (wX ad (z_t K) μ) := by
    intro N_15
    induction N_15 with
    | zero => intro i c μ hi hE hm hm_15; exact absurd hm_15 (Nat.not_lt_zero _)
    | succ N_15 ih_15 =>
      intro i c μ hi hE hm hm_15
      obtain ⟨rfl, hi⟩ := hi
      have e36 := hE 36 (by decide)
      have ei := hm.2 i (by omega)
      have hci := fun q : i < n => h37 i (by omega) (by omega)
      have hwb := zWt_b hmp k i v
      have hwm : i < n → 0 ≤ σ 37 i * zWt σ k i v ∧ σ 37 i * zWt σ k i v ≤ 1000 * 256 := fun q => ⟨Int.mul_nonneg (hci q).1 (by omega), Int.mul_le_mul (hci q).2 hwb.2 (by omega) (by omega)⟩
      have eW := zWt_E hE (by decide) k i v
      refine z_iload C (z_d dtX1_weighSender_0 9 rfl) rfl ?_
      refine z_aload_n C (z_d dtX1_weighSender_0 10 rfl) rfl ?_
      refine gf_X1_9 C (z_d dtX1_weighSender_0 11 rfl) ?_
      try simp (decide := true) only [zS_s, zS_o, zC, e36]
      refine z_icmp_ge (tgt := 58) C (z_d dtX1_weighSender_0 12 rfl) (by decide) (by omega) (fun h_21 => ?_) (fun h_21 => ?_)
      · exact ret _ _ _ (z_d dtX1_weighSender_0 33 rfl) (⟨_, rfl, hE, fun c h0 h1 => hm.1 c h0 (by omega)⟩)
      · refine z_aload_n C (z_d dtX1_weighSender_0 13 rfl) rfl ?_
        refine gf_X1_19 C (z_d dtX1_weighSender_0 14 rfl) ?_
        refine z_iload C (z_d dtX1_weighSender_0 15 rfl) rfl ?_
        refine z_aload_n C (z_d dtX1_weighSender_0 16 rfl) rfl ?_
        refine gf_X1_19 C (z_d dtX1_weighSender_0 17 rfl) ?_
        refine z_iload C (z_d dtX1_weighSender_0 18 rfl) rfl ?_
        refine al_X16 C (z_d dtX1_weighSender_0 19 rfl) (by omega) ?_
        try simp (decide := true) only [zS_s, zS_o, zC, e36]
        refine z_aload_n C (z_d dtX1_weighSender_0 20 rfl) rfl ?_
        refine z_iload_n C (z_d dtX1_weighSender_0 21 rfl) rfl ?_
        refine z_iload C (z_d dtX1_weighSender_0 22 rfl) rfl ?_
        refine z_iload_n C (z_d dtX1_weighSender_0 23 rfl) rfl ?_
        refine z_callV C (z_d dtX1_weighSender_0 24 rfl) (k_X4_weightOf  (by first | assumption | omega) (by first | assumption | omega) (by first | assumption | omega)) cal_X4_weightOf gw_22_22 rfl 2 4 rfl rfl rfl rfl hR ⟨rfl, rfl, rfl, rfl⟩ rfl (fun r_42 w_42 h_42 => ?_)
        obtain ⟨rfl, rfl⟩ := h_42
        rw [ei, eW]
        refine z_i2l C (z_d dtX1_weighSender_0 25 rfl) (by omega) ?_
        refine z_lmul C (z_d dtX1_weighSender_0 26 rfl) ?_
        refine z_iload C (z_d dtX1_weighSender_0 27 rfl) rfl ?_
        refine z_i2l C (z_d dtX1_weighSender_0 28 rfl) (by omega) ?_
        refine z_ldiv C (z_d dtX1_weighSender_0 29 rfl) (by omega) ?_
        refine as_X16 C (z_d dtX1_weighSender_0 30 rfl) (by omega) ?_
        refine z_iinc5 C (z_d dtX1_weighSender_0 31 rfl) rfl ?_
        refine z_goto (tgt := 15) C (z_d dtX1_weighSender_0 32 rfl) (by decide) ?_
        exact ih_15 (i + 1) _ _ (by omega) (zE_set hE (by decide)) ⟨fun c h0 h1 => by
                rw [zS_s]
                by_cases e : c = i
                · subst e; rw [zU_s]
                · rw [zU_n e]; exact hm.1 c h0 (by omega), fun c h0 => by
                rw [zS_s, zU_n (by omega)]; exact hm.2 c (by omega)⟩ (by omega)
  exact lp_15 _ 0 _ _ (by omega) zE_rf ⟨fun c h0 h1 => absurd h1 (by omega), fun _ _ => rfl⟩ (Nat.lt_succ_self _)

set_option maxRecDepth 100000 in
set_option maxHeartbeats 4000000 in
theorem k_X1_hearRow {l : Launch} {D : va_G} {t : Nat → ClassId} {ad : Nat → Nat} {σ : zMem} {z row o : Int} {n : Nat} (hn : σ 36 0 = (n : Int) ∧ 1 ≤ n ∧ n ≤ 72) (hz : 0 ≤ z ∧ z < 4) (hit : zIt σ) (hrow : 0 ≤ row ∧ row < 30) (hmp : zMp σ) (hdd : σ 30 0 = zDb (σ 7)) (h7 : zBo σ 7) (ho : -4 ≤ o ∧ o ≤ 4) (h9 : ∀ c : Int, 0 ≤ c → c < n → 0 ≤ σ 9 c ∧ σ 9 c ≤ 1000000) : z_Ci l D t yX1_hearRow cX1_hearRow 7 .boolean 4 95 0 0 [.ref (ad 3), .ref (ad 2), .ref (ad (22 + z.toNat)), .int (zI row), .int (zI o)] (wX ad t σ) (fun r w => ∃ σ', w = wX ad t σ' ∧ ((zSum (fun c => zHm σ z row o n 8 c * σ 9 c) n ≤ 0 ∧ r = 0 ∧ zE σ' σ [37, 38]) ∨ (0 < zSum (fun c => zHm σ z row o n 8 c * σ 9 c) n ∧ r = 1 ∧ zE σ' σ [9, 37, 38] ∧ ∀ c : Int, 0 ≤ c → c < n → σ' 9 c = zWh (fun c => zHm σ z row o n 8 c * σ 9 c) n c))) := by
  refine z_Ci_of (by decide +kernel) [some (.ref (ad 3)), some (.ref (ad 2)), some (.ref (ad (22 + z.toNat))), some (.int (zI row)), some (.int (zI o)), none, none] rfl rfl (Nat.le_of_ble_eq_true rfl) fun K hl hD ht hR hnm C ret => ?_
  subst hl; subst hD; subst ht
  refine z_aload_n C (z_d dtX1_hearRow_0 0 rfl) rfl ?_
  refine gf_X1_19 C (z_d dtX1_hearRow_0 1 rfl) ?_
  refine z_ldc2 C gk_RX1_52 (z_d dtX1_hearRow_0 2 rfl) ?_
  refine z_callSv C (z_d dtX1_hearRow_0 3 rfl) kf_X16 cal_J7_fill_d0a16 gw_6_14 rfl rfl hR ⟨rfl, rfl, rfl, rfl⟩ rfl (fun w_7 h_7 => ?_)
  subst h_7
  refine z_iconst C (z_d dtX1_hearRow_0 4 rfl) ?_
  refine z_istore5 C (z_d dtX1_hearRow_0 5 rfl) rfl ?_
  have lp_13 : ∀ (N_13 : Nat) (i : Nat) (k : Int) (μ : zMem), (k = i ∧ i ≤ 8) → (zE μ σ [37]) → (∀ c : Int, 0 ≤ c → c < n → μ 37 c = zHm σ z row o n i c) → 8 - i < N_13 → Gd K 0 0 13 [some (.ref (ad 3)), some (.ref (ad 2)), some (.ref (ad (22 + z.toNat))), some (.int (zI row)), some (.int (zI o)), some (.int (zI k)), none] [] (wX ad (z_t K) μ) := by
    intro N_13
    induction N_13 with
    | zero => intro i k μ hi hE hm hm_13; exact absurd hm_13 (Nat.not_lt_zero _)
    | succ N_13 ih_13 =>
      intro i k μ hi hE hm hm_13
      obtain ⟨rfl, hi⟩ := hi
      have hit2 : zIt μ := by unfold zIt; rw [hE 20 (by decide)]; exact hit
      have hmp2 : zMp μ := by unfold zMp; rw [hE 8 (by decide)]; exact hmp
      have hdd2 : μ 30 0 = zDb (μ 7) := by rw [hE 30 (by decide), hE 7 (by decide)]; exact hdd
      have h72 := zBo_E hE (by decide) h7
      have e7 := hE 7 (by decide)
      have h7i := h7 i
      have hv9 := zHo_b (zHv σ z row i) o
      have eV := zHv_E hE (by decide) z row i
      have e36 := hE 36 (by decide)
      refine z_iload C (z_d dtX1_hearRow_0 6 rfl) rfl ?_
      refine z_bipush C (z_d dtX1_hearRow_0 7 rfl) zb_8 ?_
      refine z_icmp_ge (tgt := 62) C (z_d dtX1_hearRow_0 8 rfl) (by decide) (by omega) (fun h_17 => ?_) (fun h_17 => ?_)
      · refine z_iconst C (z_d dtX1_hearRow_0 29 rfl) ?_
        refine z_istore5 C (z_d dtX1_hearRow_0 30 rfl) rfl ?_
        have lp_65 : ∀ (N_65 : Nat) (i2 : Nat) (c : Int) (μ : zMem), (c = i2 ∧ i2 ≤ n) → (zE μ σ [37]) → ((∀ c : Int, 0 ≤ c → c < i2 → μ 37 c = zHm σ z row o n 8 c * σ 9 c) ∧ ∀ c : Int, i2 ≤ c → c < n → μ 37 c = zHm σ z row o n 8 c) → n - i2 < N_65 → Gd K 0 0 65 [some (.ref (ad 3)), some (.ref (ad 2)), some (.ref (ad (22 + z.toNat))), some (.int (zI row)), some (.int (zI o)), some (.int (zI c)), none] [] (wX ad (z_t K) μ) := by
          intro N_65
          induction N_65 with
          | zero => intro i2 c μ hi2 hE hm hm_65; exact absurd hm_65 (Nat.not_lt_zero _)
          | succ N_65 ih_65 =>
            intro i2 c μ hi2 hE hm hm_65
            obtain ⟨rfl, hi2⟩ := hi2
            have e36 := hE 36 (by decide)
            have e9 := hE 9 (by decide)
            have h9i := fun q : i2 < n => h9 i2 (by omega) (by omega)
            refine z_iload C (z_d dtX1_hearRow_0 31 rfl) rfl ?_
            refine z_aload_n C (z_d dtX1_hearRow_0 32 rfl) rfl ?_
            refine gf_X1_9 C (z_d dtX1_hearRow_0 33 rfl) ?_
            try simp (decide := true) only [zS_s, zS_o, zC, e36, e9]
            refine z_icmp_ge (tgt := 98) C (z_d dtX1_hearRow_0 34 rfl) (by decide) (by omega) (fun h_71 => ?_) (fun h_71 => ?_)
            · refine z_aload_n C (z_d dtX1_hearRow_1 9 rfl) rfl ?_
              refine z_callV C (z_d dtX1_hearRow_1 10 rfl) (k_X1_makeWhole (n := n) (by rw [e36]; exact hn) (fun c h0 h1 => by
                        rw [hm.1 c h0 (by omega)]
                        have a := zHm_b (s := z) (row := row) (o := o) hmp 8 c.toNat (n := n) (by omega)
                        rw [Int.toNat_of_nonneg h0] at a
                        have b := h9 c h0 h1
                        exact ⟨Int.mul_nonneg a.1 b.1, Int.le_trans (Int.mul_le_mul a.2 b.2 b.1 (by omega)) (by decide)⟩)) cal_X1_makeWhole gw_6_17 rfl 3 1 rfl rfl rfl rfl hR ⟨rfl, rfl, rfl, rfl⟩ rfl (fun r_99 w_99 h_99 => ?_)
              obtain ⟨σ_99, rfl, h_99⟩ := h_99
              rw [zSum_cg (F := μ 37) (G := fun c => zHm σ z row o n 8 c * σ 9 c) n (fun c h0 h1 => hm.1 c h0 (by omega))] at h_99
              exact ret _ _ _ _ (z_d dtX1_hearRow_1 11 rfl) (by
                        rcases h_99 with ⟨a, b, g⟩ | ⟨a, b, g, q⟩
                        · subst g; exact ⟨_, rfl, Or.inl ⟨a, b, zE_mo hE (by decide)⟩⟩
                        · exact ⟨_, rfl, Or.inr ⟨a, b, zE_tr (zE_mo g (by decide)) (zE_mo hE (by decide)), fun c h0 h1 => by
                          rw [q c h0 h1]
                          exact zWh_cg hn.2.1 (fun c a b => hm.1 c a (by omega)) c h0 h1⟩⟩) (z_nb (by omega))
            · refine z_aload_n C (z_d dtX1_hearRow_0 35 rfl) rfl ?_
              refine gf_X1_19 C (z_d dtX1_hearRow_0 36 rfl) ?_
              refine z_iload C (z_d dtX1_hearRow_0 37 rfl) rfl ?_
              refine z_dup2 C (z_d dtX1_hearRow_0 38 rfl) rfl rfl ?_
              refine al_X16 C (z_d dtX1_hearRow_0 39 rfl) (by omega) ?_
              try simp (decide := true) only [zS_s, zS_o, zC, e36, e9]
              refine z_aload_n C (z_d dtX1_hearRow_1 0 rfl) rfl ?_
              refine gf_X1_15 C (z_d dtX1_hearRow_1 1 rfl) ?_
              refine z_iload C (z_d dtX1_hearRow_1 2 rfl) rfl ?_
              refine al_X15 C (z_d dtX1_hearRow_1 3 rfl) (by omega) ?_
              try simp (decide := true) only [zS_s, zS_o, zC, e36, e9]
              refine z_i2l C (z_d dtX1_hearRow_1 4 rfl) (by omega) ?_
              refine z_lmul C (z_d dtX1_hearRow_1 5 rfl) ?_
              refine as_X16 C (z_d dtX1_hearRow_1 6 rfl) (by omega) ?_
              refine z_iinc5 C (z_d dtX1_hearRow_1 7 rfl) rfl ?_
              refine z_goto (tgt := 65) C (z_d dtX1_hearRow_1 8 rfl) (by decide) ?_
              exact ih_65 (i2 + 1) _ _ (by omega) (zE_set hE (by decide)) ⟨fun c h0 h1 => by
                      rw [zS_s]
                      by_cases e : c = i2
                      · subst e; rw [zU_s, hm.2 i2 (by omega) (by omega)]
                      · rw [zU_n e]; exact hm.1 c h0 (by omega), fun c h0 h1 => by
                      rw [zS_s, zU_n (by omega)]; exact hm.2 c (by omega) h1⟩ (by omega)
        exact lp_65 _ 0 _ _ (by omega) hE ⟨fun c h0 h1 => absurd h1 (by omega), fun c h0 h1 => by rw [hm c (by omega) h1, show i = 8 by omega]⟩ (Nat.lt_succ_self _)
      · refine z_aload_n C (z_d dtX1_hearRow_0 9 rfl) rfl ?_
        refine z_iload_n C (z_d dtX1_hearRow_0 10 rfl) rfl ?_
        refine z_iload C (z_d dtX1_hearRow_0 11 rfl) rfl ?_
        refine z_iload C (z_d dtX1_hearRow_0 12 rfl) rfl ?_
        refine z_callV C (z_d dtX1_hearRow_0 13 rfl) (k_X5_heardBy  (by first | assumption | omega) (by first | assumption | omega) (by first | assumption | omega) (by first | assumption | omega) (by first | assumption | omega)) cal_X5_heardBy gw_22_11 rfl (22 + _) 5 (wX_sh (by omega)) rfl rfl rfl hR ⟨rfl, rfl, rfl, rfl⟩ rfl (fun r_26 w_26 h_26 => ?_)
        obtain ⟨rfl, rfl⟩ := h_26
        rw [eV]
        refine z_istore6 C (z_d dtX1_hearRow_0 14 rfl) rfl ?_
        refine z_iload C (z_d dtX1_hearRow_0 15 rfl) rfl ?_
        refine z_bipush C (z_d dtX1_hearRow_0 16 rfl) zb_m2 ?_
        refine z_icmp_eq (tgt := 56) C (z_d dtX1_hearRow_0 17 rfl) (by decide) (by omega) (fun h_35 => ?_) (fun h_35 => ?_)
        · refine z_iinc5 C (z_d dtX1_hearRow_0 27 rfl) rfl ?_
          refine z_goto (tgt := 13) C (z_d dtX1_hearRow_0 28 rfl) (by decide) ?_
          refine z_drop6 ?_
          exact ih_13 (i + 1) _ _ (by omega) (by first | exact hE | exact zE_tr hE_53 hE) (fun c h0 h1 => by
                simp only [zHm]
                first
                  | (rw [if_pos ⟨by omega, by rw [e7] at *; omega⟩, h_53 c h0 h1, hm c h0 h1, zWt_E hE (by decide), zGw_E hE (by decide)])
                  | (rw [if_neg (by rw [e7] at *; omega)]; exact hm c h0 h1)) (by omega)
        · refine z_aload_n C (z_d dtX1_hearRow_0 18 rfl) rfl ?_
          refine z_iload C (z_d dtX1_hearRow_0 19 rfl) rfl ?_
          refine z_callV C (z_d dtX1_hearRow_0 20 rfl) (k_X4_isDead  (by first | assumption | omega) (by first | assumption | omega) (by first | assumption | omega)) cal_X4_isDead gw_22_12 rfl 2 4 rfl rfl rfl rfl hR ⟨rfl, rfl, rfl, rfl⟩ rfl (fun r_41 w_41 h_41 => ?_)
          obtain ⟨rfl, h_41⟩ := h_41
          rw [e7] at h_41
          refine z_if_ne (tgt := 56) C (z_d dtX1_hearRow_0 21 rfl) (by decide) (by omega) (fun h_44 => ?_) (fun h_44 => ?_)
          · refine z_iinc5 C (z_d dtX1_hearRow_0 27 rfl) rfl ?_
            refine z_goto (tgt := 13) C (z_d dtX1_hearRow_0 28 rfl) (by decide) ?_
            refine z_drop6 ?_
            exact ih_13 (i + 1) _ _ (by omega) (by first | exact hE | exact zE_tr hE_53 hE) (fun c h0 h1 => by
                  simp only [zHm]
                  first
                    | (rw [if_pos ⟨by omega, by rw [e7] at *; omega⟩, h_53 c h0 h1, hm c h0 h1, zWt_E hE (by decide), zGw_E hE (by decide)])
                    | (rw [if_neg (by rw [e7] at *; omega)]; exact hm c h0 h1)) (by omega)
          · refine z_aload_n C (z_d dtX1_hearRow_0 22 rfl) rfl ?_
            refine z_aload_n C (z_d dtX1_hearRow_0 23 rfl) rfl ?_
            refine z_iload C (z_d dtX1_hearRow_0 24 rfl) rfl ?_
            refine z_iload C (z_d dtX1_hearRow_0 25 rfl) rfl ?_
            refine z_callVv C (z_d dtX1_hearRow_0 26 rfl) (k_X1_weighSender (n := n) (by rw [e36]; exact hn) (by first | assumption | omega) (by first | assumption | omega) (by first | assumption | omega) (fun c h0 h1 => by
                      rw [hm c h0 h1]
                      have := zHm_b (s := z) (row := row) (o := o) hmp i c.toNat (n := n) (by omega)
                      rw [Int.toNat_of_nonneg h0] at this
                      exact this)) cal_X1_weighSender gw_22_13 rfl 3 1 rfl rfl rfl rfl hR ⟨rfl, rfl, rfl, rfl⟩ rfl (fun w_53 h_53 => ?_)
            obtain ⟨σ_53, rfl, hE_53, h_53⟩ := h_53
            refine z_iinc5 C (z_d dtX1_hearRow_0 27 rfl) rfl ?_
            refine z_goto (tgt := 13) C (z_d dtX1_hearRow_0 28 rfl) (by decide) ?_
            refine z_drop6 ?_
            exact ih_13 (i + 1) _ _ (by omega) (by first | exact hE | exact zE_tr hE_53 hE) (fun c h0 h1 => by
                  simp only [zHm]
                  first
                    | (rw [if_pos ⟨by omega, by rw [e7] at *; omega⟩, h_53 c h0 h1, hm c h0 h1, zWt_E hE (by decide), zGw_E hE (by decide)])
                    | (rw [if_neg (by rw [e7] at *; omega)]; exact hm c h0 h1)) (by omega)
  exact lp_13 _ 0 _ _ (by omega) (zE_set zE_rf (by decide)) (fun c h0 h1 => rfl) (Nat.lt_succ_self _)

set_option maxRecDepth 100000 in
set_option maxHeartbeats 4000000 in
theorem k_X1_cellsWithShare {l : Launch} {D : va_G} {t : Nat → ClassId} {ad : Nat → Nat} {σ : zMem} {n : Nat} (hn : σ 36 0 = (n : Int) ∧ 1 ≤ n ∧ n ≤ 72) (h9 : ∀ c : Int, 0 ≤ c → c < n → 0 ≤ σ 9 c ∧ σ 9 c ≤ 1000000) : z_Ci l D t yX1_cellsWithShare cX1_cellsWithShare 3 .int 0 0 0 0 [.ref (ad 3)] (wX ad t σ) (fun r w => w = wX ad t σ ∧ r = zCs (σ 9) n) := by
  refine z_Ci_of (by decide +kernel) [some (.ref (ad 3)), none, none] rfl rfl (Nat.le_of_ble_eq_true rfl) fun K hl hD ht hR hnm C ret => ?_
  subst hl; subst hD; subst ht
  refine z_iconst C (z_d dtX1_cellsWithShare_0 0 rfl) ?_
  refine z_istore_n1 C (z_d dtX1_cellsWithShare_0 1 rfl) rfl ?_
  refine z_iconst C (z_d dtX1_cellsWithShare_0 2 rfl) ?_
  refine z_istore_n2 C (z_d dtX1_cellsWithShare_0 3 rfl) rfl ?_
  have lp_4 : ∀ (N_4 : Nat) (i : Nat) (c s : Int), (c = i ∧ i ≤ n) → (s = zCs (σ 9) i) → n - i < N_4 → Gd K 0 0 4 [some (.ref (ad 3)), some (.int (zI s)), some (.int (zI c))] [] (wX ad (z_t K) σ) := by
    intro N_4
    induction N_4 with
    | zero => intro i c s hi hs2 hm_4; exact absurd hm_4 (Nat.not_lt_zero _)
    | succ N_4 ih_4 =>
      intro i c s hi hs2 hm_4
      obtain ⟨rfl, hi⟩ := hi
      have h9i := fun q : i < n => h9 i (by omega) (by omega)
      refine z_iload_n C (z_d dtX1_cellsWithShare_0 4 rfl) rfl ?_
      refine z_aload_n C (z_d dtX1_cellsWithShare_0 5 rfl) rfl ?_
      refine gf_X1_9 C (z_d dtX1_cellsWithShare_0 6 rfl) ?_
      refine z_icmp_ge (tgt := 30) C (z_d dtX1_cellsWithShare_0 7 rfl) (by decide) (by omega) (fun h_9 => ?_) (fun h_9 => ?_)
      · refine z_iload_n C (z_d dtX1_cellsWithShare_0 16 rfl) rfl ?_
        exact ret _ _ _ _ (z_d dtX1_cellsWithShare_0 17 rfl) (⟨rfl, by rw [hs2, show i = n by omega]⟩) rfl
      · refine z_aload_n C (z_d dtX1_cellsWithShare_0 8 rfl) rfl ?_
        refine gf_X1_15 C (z_d dtX1_cellsWithShare_0 9 rfl) ?_
        refine z_iload_n C (z_d dtX1_cellsWithShare_0 10 rfl) rfl ?_
        refine al_X15 C (z_d dtX1_cellsWithShare_0 11 rfl) (by omega) ?_
        refine z_if_le (tgt := 24) C (z_d dtX1_cellsWithShare_0 12 rfl) (by decide) (by omega) (fun h_18 => ?_) (fun h_18 => ?_)
        · refine z_iinc2 C (z_d dtX1_cellsWithShare_0 14 rfl) rfl ?_
          refine z_goto (tgt := 4) C (z_d dtX1_cellsWithShare_0 15 rfl) (by decide) ?_
          exact ih_4 (i + 1) _ _ (by omega) (by rw [zCs]; (first | rw [if_pos (by omega)] | rw [if_neg (by omega)]) <;> omega) (by omega)
        · refine z_iinc1 C (z_d dtX1_cellsWithShare_0 13 rfl) rfl ?_
          refine z_iinc2 C (z_d dtX1_cellsWithShare_0 14 rfl) rfl ?_
          refine z_goto (tgt := 4) C (z_d dtX1_cellsWithShare_0 15 rfl) (by decide) ?_
          exact ih_4 (i + 1) _ _ (by omega) (by rw [zCs]; (first | rw [if_pos (by omega)] | rw [if_neg (by omega)]) <;> omega) (by omega)
  exact lp_4 _ 0 _ _ (by omega) rfl (Nat.lt_succ_self _)

set_option maxRecDepth 100000 in
set_option maxHeartbeats 4000000 in
theorem k_X1_greatestCell {l : Launch} {D : va_G} {t : Nat → ClassId} {ad : Nat → Nat} {σ : zMem} {n : Nat} (hn : σ 36 0 = (n : Int) ∧ 1 ≤ n ∧ n ≤ 72) (h9 : ∀ c : Int, 0 ≤ c → c < n → 0 ≤ σ 9 c ∧ σ 9 c ≤ 1000000) : z_Ci l D t yX1_greatestCell cX1_greatestCell 3 .int 0 0 0 0 [.ref (ad 3)] (wX ad t σ) (fun r w => w = wX ad t σ ∧ r = zMx (σ 9) n) := by
  refine z_Ci_of (by decide +kernel) [some (.ref (ad 3)), none, none] rfl rfl (Nat.le_of_ble_eq_true rfl) fun K hl hD ht hR hnm C ret => ?_
  subst hl; subst hD; subst ht
  refine z_iconst C (z_d dtX1_greatestCell_0 0 rfl) ?_
  refine z_istore_n1 C (z_d dtX1_greatestCell_0 1 rfl) rfl ?_
  refine z_iconst C (z_d dtX1_greatestCell_0 2 rfl) ?_
  refine z_istore_n2 C (z_d dtX1_greatestCell_0 3 rfl) rfl ?_
  have lp_4 : ∀ (N_4 : Nat) (c x : Int), (1 ≤ c ∧ c ≤ n) → (x = zMx (σ 9) c.toNat) → (n - c).toNat < N_4 → Gd K 0 0 4 [some (.ref (ad 3)), some (.int (zI x)), some (.int (zI c))] [] (wX ad (z_t K) σ) := by
    intro N_4
    induction N_4 with
    | zero => intro c x hc hx hm_4; exact absurd hm_4 (Nat.not_lt_zero _)
    | succ N_4 ih_4 =>
      intro c x hc hx hm_4
      have hxb := zMx_b (σ 9) c.toNat
      have hx0 := h9 x (by omega) (by omega)
      have hc0 := fun q : c < n => h9 c (by omega) q
      refine z_iload_n C (z_d dtX1_greatestCell_0 4 rfl) rfl ?_
      refine z_aload_n C (z_d dtX1_greatestCell_0 5 rfl) rfl ?_
      refine gf_X1_9 C (z_d dtX1_greatestCell_0 6 rfl) ?_
      refine z_icmp_ge (tgt := 35) C (z_d dtX1_greatestCell_0 7 rfl) (by decide) (by omega) (fun h_9 => ?_) (fun h_9 => ?_)
      · refine z_iload_n C (z_d dtX1_greatestCell_0 21 rfl) rfl ?_
        exact ret _ _ _ _ (z_d dtX1_greatestCell_0 22 rfl) (⟨rfl, by rw [hx, show c = n by omega, Int.toNat_natCast]⟩) rfl
      · refine z_aload_n C (z_d dtX1_greatestCell_0 8 rfl) rfl ?_
        refine gf_X1_15 C (z_d dtX1_greatestCell_0 9 rfl) ?_
        refine z_iload_n C (z_d dtX1_greatestCell_0 10 rfl) rfl ?_
        refine al_X15 C (z_d dtX1_greatestCell_0 11 rfl) (by omega) ?_
        refine z_aload_n C (z_d dtX1_greatestCell_0 12 rfl) rfl ?_
        refine gf_X1_15 C (z_d dtX1_greatestCell_0 13 rfl) ?_
        refine z_iload_n C (z_d dtX1_greatestCell_0 14 rfl) rfl ?_
        refine al_X15 C (z_d dtX1_greatestCell_0 15 rfl) (by omega) ?_
        refine z_icmp_le (tgt := 29) C (z_d dtX1_greatestCell_0 16 rfl) (by decide) (by omega) (fun h_24 => ?_) (fun h_24 => ?_)
        · refine z_iinc2 C (z_d dtX1_greatestCell_0 19 rfl) rfl ?_
          refine z_goto (tgt := 4) C (z_d dtX1_greatestCell_0 20 rfl) (by decide) ?_
          exact ih_4 _ _ (by omega) (by
                  rw [show (c + 1).toNat = c.toNat + 1 by omega, zMx, Int.toNat_of_nonneg (by omega), ← hx]
                  first | rw [if_pos (by omega)] | rw [if_neg (by omega)]) (by omega)
        · refine z_iload_n C (z_d dtX1_greatestCell_0 17 rfl) rfl ?_
          refine z_istore_n1 C (z_d dtX1_greatestCell_0 18 rfl) rfl ?_
          refine z_iinc2 C (z_d dtX1_greatestCell_0 19 rfl) rfl ?_
          refine z_goto (tgt := 4) C (z_d dtX1_greatestCell_0 20 rfl) (by decide) ?_
          exact ih_4 _ _ (by omega) (by
                  rw [show (c + 1).toNat = c.toNat + 1 by omega, zMx, Int.toNat_of_nonneg (by omega), ← hx]
                  first | rw [if_pos (by omega)] | rw [if_neg (by omega)]) (by omega)
  exact lp_4 _ _ _ (by omega) (zMx_1 _).symm (Nat.lt_succ_self _)

set_option maxRecDepth 100000 in
set_option maxHeartbeats 4000000 in
theorem k_X1_fewestCellsWith {l : Launch} {D : va_G} {t : Nat → ClassId} {ad : Nat → Nat} {σ : zMem} {n : Nat} {q : Int} (hn : σ 36 0 = (n : Int) ∧ 1 ≤ n ∧ n ≤ 72) (h9 : ∀ c : Int, 0 ≤ c → c < n → 0 ≤ σ 9 c ∧ σ 9 c ≤ 1000000) (hq : 0 ≤ q ∧ q ≤ 1000000) : z_Ci l D t yX1_fewestCellsWith cX1_fewestCellsWith 7 .int 0 0 0 0 [.ref (ad 3), .int (zI q)] (wX ad t σ) (fun r w => ∃ σ', w = wX ad t σ' ∧ zE σ' σ [38] ∧ ∃ k : Nat, r = k ∧ k ≤ n ∧ (∀ j : Nat, j < k → (zTk (σ 9) n j).1 < q) ∧ (q ≤ (zTk (σ 9) n k).1 ∨ k = n)) := by
  refine z_Ci_of (by decide +kernel) [some (.ref (ad 3)), some (.int (zI q)), none, none, none, none, none] rfl rfl (Nat.le_of_ble_eq_true rfl) fun K hl hD ht hR hnm C ret => ?_
  subst hl; subst hD; subst ht
  refine z_iconst C (z_d dtX1_fewestCellsWith_0 0 rfl) ?_
  refine z_istore_n2 C (z_d dtX1_fewestCellsWith_0 1 rfl) rfl ?_
  have lp_2 : ∀ (N_2 : Nat) (i : Nat) (c : Int) (μ : zMem), (c = i ∧ i ≤ n) → (zE μ σ [38]) → (∀ j : Int, 0 ≤ j → j < i → μ 38 j = σ 9 j) → n - i < N_2 → Gd K 0 0 2 [some (.ref (ad 3)), some (.int (zI q)), some (.int (zI c)), none, none, none, none] [] (wX ad (z_t K) μ) := by
    intro N_2
    induction N_2 with
    | zero => intro i c μ hi hE hm hm_2; exact absurd hm_2 (Nat.not_lt_zero _)
    | succ N_2 ih_2 =>
      intro i c μ hi hE hm hm_2
      obtain ⟨rfl, hi⟩ := hi
      have e36 := hE 36 (by decide)
      have e9 := hE 9 (by decide)
      have h9i := fun q : i < n => h9 i (by omega) (by omega)
      refine z_iload_n C (z_d dtX1_fewestCellsWith_0 2 rfl) rfl ?_
      refine z_aload_n C (z_d dtX1_fewestCellsWith_0 3 rfl) rfl ?_
      refine gf_X1_9 C (z_d dtX1_fewestCellsWith_0 4 rfl) ?_
      try simp (decide := true) only [zS_s, zS_o, zC, e36, e9]
      refine z_icmp_ge (tgt := 29) C (z_d dtX1_fewestCellsWith_0 5 rfl) (by decide) (by omega) (fun h_7 => ?_) (fun h_7 => ?_)
      · refine z_lconst C (x := 0) rfl (z_d dtX1_fewestCellsWith_0 17 rfl) ?_
        refine z_lstore_n2 C (z_d dtX1_fewestCellsWith_0 18 rfl) rfl ?_
        refine z_iconst C (z_d dtX1_fewestCellsWith_0 19 rfl) ?_
        refine z_istore4 C (z_d dtX1_fewestCellsWith_0 20 rfl) rfl ?_
        have lp_34 : ∀ (N_34 : Nat) (i2 : Nat) (a s : Int) (μ : zMem), (a = i2 ∧ i2 ≤ n) → (zE μ σ [38]) → (s = (zTk (σ 9) n i2).1) → (∀ c : Int, 0 ≤ c → c < n → μ 38 c = (zTk (σ 9) n i2).2 c) → (∀ j : Nat, j < i2 → (zTk (σ 9) n j).1 < q) → n - i2 < N_34 → Gd K 0 0 34 [some (.ref (ad 3)), some (.int (zI q)), some (.long (zL s)), none, some (.int (zI a)), none, none] [] (wX ad (z_t K) μ) := by
          intro N_34
          induction N_34 with
          | zero => intro i2 a s μ hi2 hE hs2 hm hj hm_34; exact absurd hm_34 (Nat.not_lt_zero _)
          | succ N_34 ih_34 =>
            intro i2 a s μ hi2 hE hs2 hm hj hm_34
            obtain ⟨rfl, hi2⟩ := hi2
            have e36 := hE 36 (by decide)
            have hb := zTk_b (R := σ 9) (n := n) hn.2.1 (b := 1000000) (by omega) h9 i2
            have hr : ∀ c : Int, 0 ≤ c → c < n → 0 ≤ μ 38 c ∧ μ 38 c ≤ 1000000 := fun c h0 h1 => by rw [hm c h0 h1]; exact hb.2 c h0 h1
            refine z_lload_n C (z_d dtX1_fewestCellsWith_0 21 rfl) rfl ?_
            refine z_iload_n C (z_d dtX1_fewestCellsWith_0 22 rfl) rfl ?_
            refine z_i2l C (z_d dtX1_fewestCellsWith_0 23 rfl) (by omega) ?_
            refine z_lcmpP C (z_d dtX1_fewestCellsWith_0 24 rfl) (by omega) (fun m_37 h_37 => ?_)
            refine z_if_ge (tgt := 117) C (z_d dtX1_fewestCellsWith_0 25 rfl) (by decide) (by omega) (fun h_38 => ?_) (fun h_38 => ?_)
            · refine z_iload C (z_d dtX1_fewestCellsWith_1 26 rfl) rfl ?_
              exact ret _ _ _ _ (z_d dtX1_fewestCellsWith_1 27 rfl) (⟨_, rfl, hE, i2, rfl, by omega, hj, by omega⟩) rfl
            · refine z_iload C (z_d dtX1_fewestCellsWith_0 26 rfl) rfl ?_
              refine z_aload_n C (z_d dtX1_fewestCellsWith_0 27 rfl) rfl ?_
              refine gf_X1_9 C (z_d dtX1_fewestCellsWith_0 28 rfl) ?_
              try simp (decide := true) only [zS_s, zS_o, zC, e36, e9]
              refine z_icmp_ge (tgt := 117) C (z_d dtX1_fewestCellsWith_0 29 rfl) (by decide) (by omega) (fun h_47 => ?_) (fun h_47 => ?_)
              · refine z_iload C (z_d dtX1_fewestCellsWith_1 26 rfl) rfl ?_
                exact ret _ _ _ _ (z_d dtX1_fewestCellsWith_1 27 rfl) (⟨_, rfl, hE, i2, rfl, by omega, hj, by omega⟩) rfl
              · refine z_iconst C (z_d dtX1_fewestCellsWith_0 30 rfl) ?_
                refine z_istore5 C (z_d dtX1_fewestCellsWith_0 31 rfl) rfl ?_
                refine z_iconst C (z_d dtX1_fewestCellsWith_0 32 rfl) ?_
                refine z_istore6 C (z_d dtX1_fewestCellsWith_0 33 rfl) rfl ?_
                have lp_56 : ∀ (N_56 : Nat) (c x : Int), (1 ≤ c ∧ c ≤ n) → (x = zMx (μ 38) c.toNat) → (n - c).toNat < N_56 → Gd K 0 0 56 [some (.ref (ad 3)), some (.int (zI q)), some (.long (zL s)), none, some (.int (zI (i2 : Int))), some (.int (zI x)), some (.int (zI c))] [] (wX ad (z_t K) μ) := by
                  intro N_56
                  induction N_56 with
                  | zero => intro c x hc hx hm_56; exact absurd hm_56 (Nat.not_lt_zero _)
                  | succ N_56 ih_56 =>
                    intro c x hc hx hm_56
                    have hxb := zMx_b (μ 38) c.toNat
                    have hx0 := hr x (by omega) (by omega)
                    have hc0 := fun q : c < n => hr c (by omega) q
                    refine z_iload C (z_d dtX1_fewestCellsWith_0 34 rfl) rfl ?_
                    refine z_aload_n C (z_d dtX1_fewestCellsWith_0 35 rfl) rfl ?_
                    refine gf_X1_9 C (z_d dtX1_fewestCellsWith_0 36 rfl) ?_
                    try simp (decide := true) only [zS_s, zS_o, zC, e36, e9]
                    refine z_icmp_ge (tgt := 93) C (z_d dtX1_fewestCellsWith_0 37 rfl) (by decide) (by omega) (fun h_62 => ?_) (fun h_62 => ?_)
                    · refine z_lload_n C (z_d dtX1_fewestCellsWith_1 12 rfl) rfl ?_
                      refine z_aload_n C (z_d dtX1_fewestCellsWith_1 13 rfl) rfl ?_
                      refine gf_X1_23 C (z_d dtX1_fewestCellsWith_1 14 rfl) ?_
                      refine z_iload C (z_d dtX1_fewestCellsWith_1 15 rfl) rfl ?_
                      refine al_X17 C (z_d dtX1_fewestCellsWith_1 16 rfl) (by omega) ?_
                      try simp (decide := true) only [zS_s, zS_o, zC, e36, e9]
                      refine z_ladd C (z_d dtX1_fewestCellsWith_1 17 rfl) ?_
                      refine z_lstore_n2 C (z_d dtX1_fewestCellsWith_1 18 rfl) rfl ?_
                      refine z_aload_n C (z_d dtX1_fewestCellsWith_1 19 rfl) rfl ?_
                      refine gf_X1_23 C (z_d dtX1_fewestCellsWith_1 20 rfl) ?_
                      refine z_iload C (z_d dtX1_fewestCellsWith_1 21 rfl) rfl ?_
                      refine z_lconst C (x := 0) rfl (z_d dtX1_fewestCellsWith_1 22 rfl) ?_
                      refine as_X17 C (z_d dtX1_fewestCellsWith_1 23 rfl) (by omega) ?_
                      refine z_iinc4 C (z_d dtX1_fewestCellsWith_1 24 rfl) rfl ?_
                      refine z_goto (tgt := 34) C (z_d dtX1_fewestCellsWith_1 25 rfl) (by decide) ?_
                      refine z_drop5 ?_
                      refine z_drop6 ?_
                      exact ih_34 (i2 + 1) _ _ _ (by omega) (zE_set hE (by decide)) (by have := zTk_st hn.2.1 hs2 hm (hx.trans (by rw [show c = n by omega, Int.toNat_natCast])); exact this.1) (by have := zTk_st hn.2.1 hs2 hm (hx.trans (by rw [show c = n by omega, Int.toNat_natCast])); exact this.2) (fun j h => by
                              rcases Nat.lt_succ_iff_lt_or_eq.mp h with p | p
                              · exact hj j p
                              · subst p; omega) (by omega)
                    · refine z_aload_n C (z_d dtX1_fewestCellsWith_0 38 rfl) rfl ?_
                      refine gf_X1_23 C (z_d dtX1_fewestCellsWith_0 39 rfl) ?_
                      refine z_iload C (z_d dtX1_fewestCellsWith_1 0 rfl) rfl ?_
                      refine al_X17 C (z_d dtX1_fewestCellsWith_1 1 rfl) (by omega) ?_
                      try simp (decide := true) only [zS_s, zS_o, zC, e36, e9]
                      refine z_aload_n C (z_d dtX1_fewestCellsWith_1 2 rfl) rfl ?_
                      refine gf_X1_23 C (z_d dtX1_fewestCellsWith_1 3 rfl) ?_
                      refine z_iload C (z_d dtX1_fewestCellsWith_1 4 rfl) rfl ?_
                      refine al_X17 C (z_d dtX1_fewestCellsWith_1 5 rfl) (by omega) ?_
                      try simp (decide := true) only [zS_s, zS_o, zC, e36, e9]
                      refine z_lcmpP C (z_d dtX1_fewestCellsWith_1 6 rfl) (by omega) (fun m_79 h_79 => ?_)
                      refine z_if_le (tgt := 87) C (z_d dtX1_fewestCellsWith_1 7 rfl) (by decide) (by omega) (fun h_80 => ?_) (fun h_80 => ?_)
                      · refine z_iinc6 C (z_d dtX1_fewestCellsWith_1 10 rfl) rfl ?_
                        refine z_goto (tgt := 56) C (z_d dtX1_fewestCellsWith_1 11 rfl) (by decide) ?_
                        exact ih_56 _ _ (by omega) (by
                                rw [show (c + 1).toNat = c.toNat + 1 by omega, zMx, Int.toNat_of_nonneg (by omega), ← hx]
                                first | rw [if_pos (by omega)] | rw [if_neg (by omega)]) (by omega)
                      · refine z_iload C (z_d dtX1_fewestCellsWith_1 8 rfl) rfl ?_
                        refine z_istore5 C (z_d dtX1_fewestCellsWith_1 9 rfl) rfl ?_
                        refine z_iinc6 C (z_d dtX1_fewestCellsWith_1 10 rfl) rfl ?_
                        refine z_goto (tgt := 56) C (z_d dtX1_fewestCellsWith_1 11 rfl) (by decide) ?_
                        exact ih_56 _ _ (by omega) (by
                                rw [show (c + 1).toNat = c.toNat + 1 by omega, zMx, Int.toNat_of_nonneg (by omega), ← hx]
                                first | rw [if_pos (by omega)] | rw [if_neg (by omega)]) (by omega)
                exact lp_56 _ _ _ (by omega) (zMx_1 _).symm (Nat.lt_succ_self _)
        exact lp_34 _ 0 _ _ _ (by omega) hE rfl (fun c h0 h1 => hm c h0 (by omega)) (fun j h => absurd h (Nat.not_lt_zero _)) (Nat.lt_succ_self _)
      · refine z_aload_n C (z_d dtX1_fewestCellsWith_0 6 rfl) rfl ?_
        refine gf_X1_23 C (z_d dtX1_fewestCellsWith_0 7 rfl) ?_
        refine z_iload_n C (z_d dtX1_fewestCellsWith_0 8 rfl) rfl ?_
        refine z_aload_n C (z_d dtX1_fewestCellsWith_0 9 rfl) rfl ?_
        refine gf_X1_15 C (z_d dtX1_fewestCellsWith_0 10 rfl) ?_
        refine z_iload_n C (z_d dtX1_fewestCellsWith_0 11 rfl) rfl ?_
        refine al_X15 C (z_d dtX1_fewestCellsWith_0 12 rfl) (by omega) ?_
        try simp (decide := true) only [zS_s, zS_o, zC, e36, e9]
        refine z_i2l C (z_d dtX1_fewestCellsWith_0 13 rfl) (by omega) ?_
        refine as_X17 C (z_d dtX1_fewestCellsWith_0 14 rfl) (by omega) ?_
        refine z_iinc2 C (z_d dtX1_fewestCellsWith_0 15 rfl) rfl ?_
        refine z_goto (tgt := 2) C (z_d dtX1_fewestCellsWith_0 16 rfl) (by decide) ?_
        exact ih_2 (i + 1) _ _ (by omega) (zE_set hE (by decide)) (fun j h0 h1 => by
                rw [zS_s]
                by_cases e : j = i
                · subst e; rw [zU_s]
                · rw [zU_n e]; exact hm j h0 (by omega)) (by omega)
  exact lp_2 _ 0 _ _ (by omega) zE_rf (fun j h0 h1 => absurd h1 (by omega)) (Nat.lt_succ_self _)
end
section
/-! areas, walkers, ways as numbers -/
def zAz (σ : zMem) (z : Int) : Prop := (0 ≤ σ 50 (5 * z) ∧ σ 50 (5 * z) < 3) ∧ (0 ≤ σ 50 (5 * z + 1) ∧ σ 50 (5 * z + 1) ≤ σ 50 (5 * z + 2) ∧ σ 50 (5 * z + 2) < 6) ∧ (0 ≤ σ 50 (5 * z + 3) ∧ σ 50 (5 * z + 3) ≤ σ 50 (5 * z + 4) ∧ σ 50 (5 * z + 4) < 6)
def zEx (x0 x1 y0 y1 : Int) : Int := (x1 - x0 + 1) * (y1 - y0 + 1)
def zIb (f x0 x1 y0 y1 f' x0' x1' y0' y1' : Int) : Int := if f = f' ∧ 0 < min x1 x1' - max x0 x0' + 1 ∧ 0 < min y1 y1' - max y0 y0' + 1 then (min x1 x1' - max x0 x0' + 1) * (min y1 y1' - max y0 y0' + 1) else 0
def zAp (σ : zMem) (z y : Int) : Int := zEx (σ 50 (5 * z + 1)) (σ 50 (5 * z + 2)) (σ 50 (5 * z + 3)) (σ 50 (5 * z + 4)) + zEx (σ 50 (5 * y + 1)) (σ 50 (5 * y + 2)) (σ 50 (5 * y + 3)) (σ 50 (5 * y + 4)) - 2 * zIb (σ 50 (5 * z)) (σ 50 (5 * z + 1)) (σ 50 (5 * z + 2)) (σ 50 (5 * z + 3)) (σ 50 (5 * z + 4)) (σ 50 (5 * y)) (σ 50 (5 * y + 1)) (σ 50 (5 * y + 2)) (σ 50 (5 * y + 3)) (σ 50 (5 * y + 4))
theorem zEx_b {x0 x1 y0 y1 : Int} (hx : 0 ≤ x0 ∧ x0 ≤ x1 ∧ x1 < 6) (hy : 0 ≤ y0 ∧ y0 ≤ y1 ∧ y1 < 6) : 1 ≤ zEx x0 x1 y0 y1 ∧ zEx x0 x1 y0 y1 ≤ 36 := by
  unfold zEx
  have a := Int.mul_le_mul (show x1 - x0 + 1 ≤ 6 by omega) (show y1 - y0 + 1 ≤ 6 by omega) (by omega) (by omega)
  have b := Int.mul_pos (show 0 < x1 - x0 + 1 by omega) (show 0 < y1 - y0 + 1 by omega)
  omega
theorem zIb_b {f x0 x1 y0 y1 f' x0' x1' y0' y1' : Int} (hx : 0 ≤ x0 ∧ x0 ≤ x1 ∧ x1 < 6) (hy : 0 ≤ y0 ∧ y0 ≤ y1 ∧ y1 < 6) : 0 ≤ zIb f x0 x1 y0 y1 f' x0' x1' y0' y1' ∧ zIb f x0 x1 y0 y1 f' x0' x1' y0' y1' ≤ 36 := by
  unfold zIb
  split
  · rename_i h
    have a := Int.mul_le_mul (show min x1 x1' - max x0 x0' + 1 ≤ 6 by omega) (show min y1 y1' - max y0 y0' + 1 ≤ 6 by omega) (by omega) (by omega)
    have b := Int.mul_pos h.2.1 h.2.2
    omega
  · omega
theorem zAp_b {σ : zMem} {z y : Int} (hz : zAz σ z) (hy : zAz σ y) : -72 ≤ zAp σ z y ∧ zAp σ z y ≤ 72 := by
  have a := zEx_b hz.2.1 hz.2.2
  have b := zEx_b hy.2.1 hy.2.2
  have c := zIb_b (f := σ 50 (5 * z)) (f' := σ 50 (5 * y)) (x0' := σ 50 (5 * y + 1)) (x1' := σ 50 (5 * y + 2)) (y0' := σ 50 (5 * y + 3)) (y1' := σ 50 (5 * y + 4)) hz.2.1 hz.2.2
  unfold zAp
  omega
abbrev zIn (σ : zMem) (c f x0 x1 y0 y1 : Int) : Prop := c / (σ 1 0 * σ 2 0) = f ∧ (x0 ≤ c % σ 1 0 ∧ c % σ 1 0 ≤ x1) ∧ (y0 ≤ c / σ 1 0 % σ 2 0 ∧ c / σ 1 0 % σ 2 0 ≤ y1)
def zNi (σ : zMem) (f x0 x1 y0 y1 : Int) : Nat → Int
  | 0 => 0
  | n + 1 => zNi σ f x0 x1 y0 y1 n + if (0 ≤ σ 10 n ∧ σ 10 n < zN σ) ∧ zIn σ (σ 10 n) f x0 x1 y0 y1 then 1 else 0
theorem zNi_b (σ : zMem) (f x0 x1 y0 y1 : Int) : ∀ n : Nat, 0 ≤ zNi σ f x0 x1 y0 y1 n ∧ zNi σ f x0 x1 y0 y1 n ≤ n
  | 0 => by simp [zNi]
  | n + 1 => by
    have a := zNi_b σ f x0 x1 y0 y1 n
    rw [zNi]
    split <;> (constructor <;> (try push_cast) <;> omega)
def zSo (F : Int → Int) : Nat → Int
  | 0 => 0
  | n + 1 => zSo F n + if F n = -1 then 0 else 1
theorem zSo_b (F : Int → Int) : ∀ n : Nat, 0 ≤ zSo F n ∧ zSo F n ≤ n
  | 0 => by simp [zSo]
  | n + 1 => by
    have a := zSo_b F n
    rw [zSo]
    split <;> (constructor <;> (try push_cast) <;> omega)
/-- one step on, and the best direction -/
def zSa (σ : zMem) (V : Int → Int) (c d : Int) : Int := if d = -1 then -1 else if 0 ≤ σ 33 (c * 7 + d) ∧ σ 33 (c * 7 + d) < zN σ then (if V (σ 33 (c * 7 + d)) = -1 then -1 else V (σ 33 (c * 7 + d)) + zLik σ d) else -1
def zBd (σ : zMem) (V : Int → Int) (c : Int) : Nat → Int × Int
  | 0 => (-1, -1)
  | n + 1 => if zSa σ V c n > (zBd σ V c n).2 then ((n : Int), zSa σ V c n) else zBd σ V c n
theorem zSa_b {σ : zMem} {V : Int → Int} {b : Int} (hs : 0 ≤ σ 3 0 ∧ σ 3 0 ≤ 9) (hb : 0 ≤ b) (hV : ∀ c, 0 ≤ c → c < zN σ → -1 ≤ V c ∧ V c ≤ b) (c d : Int) : -1 ≤ zSa σ V c d ∧ zSa σ V c d ≤ b + 9 := by
  unfold zSa
  split
  · omega
  · split
    · rename_i h
      have a := hV _ h.1 h.2
      have l := zLik_b hs d
      split <;> omega
    · omega
theorem zBd_b {σ : zMem} {V : Int → Int} {b : Int} (hs : 0 ≤ σ 3 0 ∧ σ 3 0 ≤ 9) (hb : 0 ≤ b) (hV : ∀ c, 0 ≤ c → c < zN σ → -1 ≤ V c ∧ V c ≤ b) (c : Int) : ∀ n : Nat, (-1 ≤ (zBd σ V c n).1 ∧ (zBd σ V c n).1 < n) ∧ (-1 ≤ (zBd σ V c n).2 ∧ (zBd σ V c n).2 ≤ b + 9)
  | 0 => by
    simp only [zBd]
    omega
  | n + 1 => by
    have a := zBd_b hs hb hV c n
    have e := zSa_b hs hb hV c n
    rw [zBd]
    split
    · dsimp only
      push_cast
      omega
    · push_cast
      omega
theorem zBd_sa {σ : zMem} {V : Int → Int} (c : Int) : ∀ n : Nat, zSa σ V c (zBd σ V c n).1 = (zBd σ V c n).2
  | 0 => by
    show zSa σ V c (-1) = -1
    unfold zSa
    rw [if_pos rfl]
  | n + 1 => by
    rw [zBd]
    split
    · rfl
    · exact zBd_sa c n
theorem zSa_cg {σ : zMem} {V U : Int → Int} (h : ∀ c, 0 ≤ c → c < zN σ → V c = U c) (c d : Int) : zSa σ V c d = zSa σ U c d := by
  unfold zSa
  split
  · rfl
  · split
    · rename_i q
      rw [h _ q.1 q.2]
    · rfl
theorem zBd_cg {σ : zMem} {V U : Int → Int} (h : ∀ c, 0 ≤ c → c < zN σ → V c = U c) (c : Int) : ∀ n : Nat, zBd σ V c n = zBd σ U c n
  | 0 => rfl
  | n + 1 => by
    rw [zBd, zBd, zBd_cg h c n, zSa_cg h]
/-- the best score from a row on, k rows ahead of the last of R -/
def zV (σ : zMem) (z wo R : Int) : Nat → Int → Int
  | 0 => fun c => zRw σ z (R - 1) c 0 wo 8
  | k + 1 => fun c => if (zBd σ (zV σ z wo R k) c 7).2 = -1 then -1 else zRw σ z (R - 1 - ((k : Int) + 1)) c 0 wo 8 + (zBd σ (zV σ z wo R k) c 7).2
theorem zV_b {σ : zMem} (hmp : zMp σ) (hs : 0 ≤ σ 3 0 ∧ σ 3 0 ≤ 9) (z wo R : Int) : ∀ (k : Nat) (c : Int), -1 ≤ zV σ z wo R k c ∧ zV σ z wo R k c ≤ 3000 * ((k : Int) + 1)
  | 0, c => by
    have a := zRw_b hmp z (R - 1) c 0 wo 8
    simp only [zV]
    omega
  | k + 1, c => by
    have i := zV_b hmp hs z wo R k
    have a := zRw_b hmp z (R - 1 - ((k : Int) + 1)) c 0 wo 8
    have e := zBd_b (V := zV σ z wo R k) (b := 3000 * ((k : Int) + 1)) hs (by omega) (fun c _ _ => i c) c 7
    simp only [zV]
    push_cast
    split <;> omega
/-- the cells of the best way -/
def zWy (σ : zMem) (z wo R : Int) : Nat → Int
  | 0 => zMx (zV σ z wo R (R - 1).toNat) (zN σ).toNat
  | k + 1 => if (zBd σ (zV σ z wo R (R - 1 - ((k : Int) + 1)).toNat) (zWy σ z wo R k) 7).1 = -1 then zWy σ z wo R k else σ 33 (zWy σ z wo R k * 7 + (zBd σ (zV σ z wo R (R - 1 - ((k : Int) + 1)).toNat) (zWy σ z wo R k) 7).1)
theorem as_Xar {K : z_KT} {cc : ByteArray} {own : String} {nL cells slots pc : Nat} {L : List (Option Value)} {rest : List Value} {ad : Nat → Nat} {σ : zMem} (C : Fc K cc own nL) {z i : Int} (d : decode cc pc = .ok (.aastore, 1)) (hi : 0 ≤ i ∧ i < 30) (hz : 0 ≤ z ∧ z < σ 49 0) (k : Gd K cells slots (pc + 1) L rest (wX ad (z_t K) (zS σ 51 (zU (σ 51) i z)))) : Gd K cells slots pc L (.ref (σ 48 z).toNat :: .int (zI i) :: .ref (ad 21) :: rest) (wX ad (z_t K) σ) := by
  have e : va_up (arF σ) i.toNat (some (σ 48 z).toNat) = arF (zS σ 51 (zU (σ 51) i z)) := by
    funext j
    show (if j = i.toNat then _ else arF σ j) = (if zU (σ 51) i z j < 0 then none else some (σ 48 (zU (σ 51) i z j)).toNat)
    unfold zU arF
    by_cases h : j = i.toNat
    · rw [if_pos h, if_pos (show (j : Int) = i by omega), if_neg (by omega)]
    · rw [if_neg h, if_neg (show ¬ (j : Int) = i by omega)]
  obtain ⟨p, l, ee, R, s, m, args, below, meth, c, A, H0, Q, D, t⟩ := K
  obtain ⟨hx, hb, hml, ho, hts, hK, hA⟩ := C
  intro H locs ls hP hD hS hl
  refine va_astq hx hb hK hP hD hS 21 4 (30 + z.toNat) 0 (n := 30) (f := arF σ) (r := (RX0, TX0, 5)) rfl rfl (wX_ar hz) rfl (zI_in hi.1 hi.2 (by decide)) d fun H1 locs1 hP hD hS => ?_
  rw [zI_clamp hi.1 (by omega), e] at hP hD
  exact k H1 locs1 ls hP hD hS hl
end
section
/-! AREAS, WALKERS, WAYS -/
set_option maxRecDepth 100000 in
set_option maxHeartbeats 4000000 in
theorem k_X0_extent {l : Launch} {D : va_G} {t : Nat → ClassId} {ad : Nat → Nat} {σ : zMem} {z : Int} (hz : 0 ≤ z ∧ z < σ 49 0) (haz : zAz σ z) : z_Ci l D t yX0_extent cX0_extent 1 .int 0 0 0 0 [.ref (σ 48 z).toNat] (wX ad t σ) (fun r w => w = wX ad t σ ∧ r = zEx (σ 50 (5 * z + 1)) (σ 50 (5 * z + 2)) (σ 50 (5 * z + 3)) (σ 50 (5 * z + 4))) := by
  refine z_Ci_of (by decide +kernel) [some (.ref (σ 48 z).toNat)] rfl rfl (Nat.le_of_ble_eq_true rfl) fun K hl hD ht hR hnm C ret => ?_
  subst hl; subst hD; subst ht
  have ha := haz; unfold zAz at ha
  refine z_aload_n C (z_d dtX0_extent_0 0 rfl) rfl ?_
  refine gf_X0_16 C (by omega) (z_d dtX0_extent_0 1 rfl) ?_
  refine z_aload_n C (z_d dtX0_extent_0 2 rfl) rfl ?_
  refine gf_X0_13 C (by omega) (z_d dtX0_extent_0 3 rfl) ?_
  refine z_isub C (z_d dtX0_extent_0 4 rfl) ?_
  refine z_iconst C (z_d dtX0_extent_0 5 rfl) ?_
  refine z_iadd C (z_d dtX0_extent_0 6 rfl) ?_
  refine z_aload_n C (z_d dtX0_extent_0 7 rfl) rfl ?_
  refine gf_X0_22 C (by omega) (z_d dtX0_extent_0 8 rfl) ?_
  refine z_aload_n C (z_d dtX0_extent_0 9 rfl) rfl ?_
  refine gf_X0_19 C (by omega) (z_d dtX0_extent_0 10 rfl) ?_
  refine z_isub C (z_d dtX0_extent_0 11 rfl) ?_
  refine z_iconst C (z_d dtX0_extent_0 12 rfl) ?_
  refine z_iadd C (z_d dtX0_extent_0 13 rfl) ?_
  refine z_imul C (z_d dtX0_extent_0 14 rfl) ?_
  exact ret _ _ _ _ (z_d dtX0_extent_0 15 rfl) (⟨rfl, rfl⟩) rfl

set_option maxRecDepth 100000 in
set_option maxHeartbeats 4000000 in
theorem k_X0_contains {l : Launch} {D : va_G} {t : Nat → ClassId} {ad : Nat → Nat} {σ : zMem} {z f x y : Int} (hz : 0 ≤ z ∧ z < σ 49 0) (haz : zAz σ z) (hf : -2147483648 ≤ f ∧ f < 2147483648) (hx : -2147483648 ≤ x ∧ x < 2147483648) (hyy : -2147483648 ≤ y ∧ y < 2147483648) : z_Ci l D t yX0_contains cX0_contains 4 .boolean 0 0 0 0 [.ref (σ 48 z).toNat, .int (zI f), .int (zI x), .int (zI y)] (wX ad t σ) (fun r w => w = wX ad t σ ∧ ((r = 1 ∧ (f = σ 50 (5 * z) ∧ (σ 50 (5 * z + 1) ≤ x ∧ x ≤ σ 50 (5 * z + 2)) ∧ (σ 50 (5 * z + 3) ≤ y ∧ y ≤ σ 50 (5 * z + 4)))) ∨ (r = 0 ∧ ¬ (f = σ 50 (5 * z) ∧ (σ 50 (5 * z + 1) ≤ x ∧ x ≤ σ 50 (5 * z + 2)) ∧ (σ 50 (5 * z + 3) ≤ y ∧ y ≤ σ 50 (5 * z + 4)))))) := by
  refine z_Ci_of (by decide +kernel) [some (.ref (σ 48 z).toNat), some (.int (zI f)), some (.int (zI x)), some (.int (zI y))] rfl rfl (Nat.le_of_ble_eq_true rfl) fun K hl hD ht hR hnm C ret => ?_
  subst hl; subst hD; subst ht
  have ha := haz; unfold zAz at ha
  refine z_iload_n C (z_d dtX0_contains_0 0 rfl) rfl ?_
  refine z_aload_n C (z_d dtX0_contains_0 1 rfl) rfl ?_
  refine gf_X0_7 C (by omega) (z_d dtX0_contains_0 2 rfl) ?_
  refine z_icmp_ne (tgt := 44) C (z_d dtX0_contains_0 3 rfl) (by decide) (by omega) (fun h_5 => ?_) (fun h_5 => ?_)
  · refine z_iconst C (z_d dtX0_contains_0 22 rfl) ?_
    exact ret _ _ _ _ (z_d dtX0_contains_0 23 rfl) (⟨rfl, by omega⟩) (z_nb (by omega))
  · refine z_iload_n C (z_d dtX0_contains_0 4 rfl) rfl ?_
    refine z_aload_n C (z_d dtX0_contains_0 5 rfl) rfl ?_
    refine gf_X0_13 C (by omega) (z_d dtX0_contains_0 6 rfl) ?_
    refine z_icmp_lt (tgt := 44) C (z_d dtX0_contains_0 7 rfl) (by decide) (by omega) (fun h_13 => ?_) (fun h_13 => ?_)
    · refine z_iconst C (z_d dtX0_contains_0 22 rfl) ?_
      exact ret _ _ _ _ (z_d dtX0_contains_0 23 rfl) (⟨rfl, by omega⟩) (z_nb (by omega))
    · refine z_iload_n C (z_d dtX0_contains_0 8 rfl) rfl ?_
      refine z_aload_n C (z_d dtX0_contains_0 9 rfl) rfl ?_
      refine gf_X0_16 C (by omega) (z_d dtX0_contains_0 10 rfl) ?_
      refine z_icmp_gt (tgt := 44) C (z_d dtX0_contains_0 11 rfl) (by decide) (by omega) (fun h_21 => ?_) (fun h_21 => ?_)
      · refine z_iconst C (z_d dtX0_contains_0 22 rfl) ?_
        exact ret _ _ _ _ (z_d dtX0_contains_0 23 rfl) (⟨rfl, by omega⟩) (z_nb (by omega))
      · refine z_iload_n C (z_d dtX0_contains_0 12 rfl) rfl ?_
        refine z_aload_n C (z_d dtX0_contains_0 13 rfl) rfl ?_
        refine gf_X0_19 C (by omega) (z_d dtX0_contains_0 14 rfl) ?_
        refine z_icmp_lt (tgt := 44) C (z_d dtX0_contains_0 15 rfl) (by decide) (by omega) (fun h_29 => ?_) (fun h_29 => ?_)
        · refine z_iconst C (z_d dtX0_contains_0 22 rfl) ?_
          exact ret _ _ _ _ (z_d dtX0_contains_0 23 rfl) (⟨rfl, by omega⟩) (z_nb (by omega))
        · refine z_iload_n C (z_d dtX0_contains_0 16 rfl) rfl ?_
          refine z_aload_n C (z_d dtX0_contains_0 17 rfl) rfl ?_
          refine gf_X0_22 C (by omega) (z_d dtX0_contains_0 18 rfl) ?_
          refine z_icmp_gt (tgt := 44) C (z_d dtX0_contains_0 19 rfl) (by decide) (by omega) (fun h_37 => ?_) (fun h_37 => ?_)
          · refine z_iconst C (z_d dtX0_contains_0 22 rfl) ?_
            exact ret _ _ _ _ (z_d dtX0_contains_0 23 rfl) (⟨rfl, by omega⟩) (z_nb (by omega))
          · refine z_iconst C (z_d dtX0_contains_0 20 rfl) ?_
            refine z_goto (tgt := 45) C (z_d dtX0_contains_0 21 rfl) (by decide) ?_
            exact ret _ _ _ _ (z_d dtX0_contains_0 23 rfl) (⟨rfl, by omega⟩) (z_nb (by omega))

set_option maxRecDepth 100000 in
set_option maxHeartbeats 4000000 in
theorem k_X0_cellsInBoth {l : Launch} {D : va_G} {t : Nat → ClassId} {ad : Nat → Nat} {σ : zMem} {z y : Int} (hz : 0 ≤ z ∧ z < σ 49 0) (haz : zAz σ z) (hy : 0 ≤ y ∧ y < σ 49 0) (hay : zAz σ y) : z_Ci l D t yX0_cellsInBoth cX0_cellsInBoth 4 .int 1 21 0 0 [.ref (σ 48 z).toNat, .ref (σ 48 y).toNat] (wX ad t σ) (fun r w => w = wX ad t σ ∧ r = zIb (σ 50 (5 * z)) (σ 50 (5 * z + 1)) (σ 50 (5 * z + 2)) (σ 50 (5 * z + 3)) (σ 50 (5 * z + 4)) (σ 50 (5 * y)) (σ 50 (5 * y + 1)) (σ 50 (5 * y + 2)) (σ 50 (5 * y + 3)) (σ 50 (5 * y + 4))) := by
  refine z_Ci_of (by decide +kernel) [some (.ref (σ 48 z).toNat), some (.ref (σ 48 y).toNat), none, none] rfl rfl (Nat.le_of_ble_eq_true rfl) fun K hl hD ht hR hnm C ret => ?_
  subst hl; subst hD; subst ht
  have ha := haz; unfold zAz at ha
  have hb := hay; unfold zAz at hb
  refine z_aload_n C (z_d dtX0_cellsInBoth_0 0 rfl) rfl ?_
  refine gf_X0_16 C (by omega) (z_d dtX0_cellsInBoth_0 1 rfl) ?_
  refine z_aload_n C (z_d dtX0_cellsInBoth_0 2 rfl) rfl ?_
  refine gf_X0_16 C (by omega) (z_d dtX0_cellsInBoth_0 3 rfl) ?_
  refine z_mminP C (z_d dtX0_cellsInBoth_0 4 rfl) gw_32_4 gw_9_19 gw_9_20 gw_9_21 rfl (by rw [hR]; exact Nat.le_of_ble_eq_true rfl) (by rw [hR]; exact Nat.le_of_ble_eq_true rfl) (by rw [hR]; exact Nat.le_refl _) (by rw [hR]; exact Nat.le_refl _) (by omega) (fun m_8 h_8 => ?_)
  refine z_aload_n C (z_d dtX0_cellsInBoth_0 5 rfl) rfl ?_
  refine gf_X0_13 C (by omega) (z_d dtX0_cellsInBoth_0 6 rfl) ?_
  refine z_aload_n C (z_d dtX0_cellsInBoth_0 7 rfl) rfl ?_
  refine gf_X0_13 C (by omega) (z_d dtX0_cellsInBoth_0 8 rfl) ?_
  refine z_mmaxP C (z_d dtX0_cellsInBoth_0 9 rfl) gw_32_5 gw_9_23 gw_9_20 gw_10_0 rfl (by rw [hR]; exact Nat.le_of_ble_eq_true rfl) (by rw [hR]; exact Nat.le_of_ble_eq_true rfl) (by rw [hR]; exact Nat.le_refl _) (by rw [hR]; exact Nat.le_refl _) (by omega) (fun m_19 h_19 => ?_)
  refine z_isub C (z_d dtX0_cellsInBoth_0 10 rfl) ?_
  refine z_iconst C (z_d dtX0_cellsInBoth_0 11 rfl) ?_
  refine z_iadd C (z_d dtX0_cellsInBoth_0 12 rfl) ?_
  refine z_istore_n2 C (z_d dtX0_cellsInBoth_0 13 rfl) rfl ?_
  refine z_aload_n C (z_d dtX0_cellsInBoth_0 14 rfl) rfl ?_
  refine gf_X0_22 C (by omega) (z_d dtX0_cellsInBoth_0 15 rfl) ?_
  refine z_aload_n C (z_d dtX0_cellsInBoth_0 16 rfl) rfl ?_
  refine gf_X0_22 C (by omega) (z_d dtX0_cellsInBoth_0 17 rfl) ?_
  refine z_mminP C (z_d dtX0_cellsInBoth_0 18 rfl) gw_32_4 gw_9_19 gw_9_20 gw_9_21 rfl (by rw [hR]; exact Nat.le_of_ble_eq_true rfl) (by rw [hR]; exact Nat.le_of_ble_eq_true rfl) (by rw [hR]; exact Nat.le_refl _) (by rw [hR]; exact Nat.le_refl _) (by omega) (fun m_34 h_34 => ?_)
  refine z_aload_n C (z_d dtX0_cellsInBoth_0 19 rfl) rfl ?_
  refine gf_X0_19 C (by omega) (z_d dtX0_cellsInBoth_0 20 rfl) ?_
  refine z_aload_n C (z_d dtX0_cellsInBoth_0 21 rfl) rfl ?_
  refine gf_X0_19 C (by omega) (z_d dtX0_cellsInBoth_0 22 rfl) ?_
  refine z_mmaxP C (z_d dtX0_cellsInBoth_0 23 rfl) gw_32_5 gw_9_23 gw_9_20 gw_10_0 rfl (by rw [hR]; exact Nat.le_of_ble_eq_true rfl) (by rw [hR]; exact Nat.le_of_ble_eq_true rfl) (by rw [hR]; exact Nat.le_refl _) (by rw [hR]; exact Nat.le_refl _) (by omega) (fun m_45 h_45 => ?_)
  refine z_isub C (z_d dtX0_cellsInBoth_0 24 rfl) ?_
  refine z_iconst C (z_d dtX0_cellsInBoth_0 25 rfl) ?_
  refine z_iadd C (z_d dtX0_cellsInBoth_0 26 rfl) ?_
  refine z_istore_n3 C (z_d dtX0_cellsInBoth_0 27 rfl) rfl ?_
  refine z_aload_n C (z_d dtX0_cellsInBoth_0 28 rfl) rfl ?_
  refine gf_X0_7 C (by omega) (z_d dtX0_cellsInBoth_0 29 rfl) ?_
  refine z_aload_n C (z_d dtX0_cellsInBoth_0 30 rfl) rfl ?_
  refine gf_X0_7 C (by omega) (z_d dtX0_cellsInBoth_0 31 rfl) ?_
  refine z_icmp_ne (tgt := 77) C (z_d dtX0_cellsInBoth_0 32 rfl) (by decide) (by omega) (fun h_60 => ?_) (fun h_60 => ?_)
  · refine z_iconst C (z_d dtX0_cellsInBoth_1 1 rfl) ?_
    exact ret _ _ _ _ (z_d dtX0_cellsInBoth_1 2 rfl) (⟨rfl, by
        unfold zIb
        first
          | (rw [if_pos (by omega), show min (σ 50 (5 * z + 2)) (σ 50 (5 * y + 2)) = m_8 by omega, show max (σ 50 (5 * z + 1)) (σ 50 (5 * y + 1)) = m_19 by omega, show min (σ 50 (5 * z + 4)) (σ 50 (5 * y + 4)) = m_34 by omega, show max (σ 50 (5 * z + 3)) (σ 50 (5 * y + 3)) = m_45 by omega])
          | rw [if_neg (by omega)]⟩) rfl
  · refine z_iload_n C (z_d dtX0_cellsInBoth_0 33 rfl) rfl ?_
    refine z_if_le (tgt := 77) C (z_d dtX0_cellsInBoth_0 34 rfl) (by decide) (by omega) (fun h_64 => ?_) (fun h_64 => ?_)
    · refine z_iconst C (z_d dtX0_cellsInBoth_1 1 rfl) ?_
      exact ret _ _ _ _ (z_d dtX0_cellsInBoth_1 2 rfl) (⟨rfl, by
          unfold zIb
          first
            | (rw [if_pos (by omega), show min (σ 50 (5 * z + 2)) (σ 50 (5 * y + 2)) = m_8 by omega, show max (σ 50 (5 * z + 1)) (σ 50 (5 * y + 1)) = m_19 by omega, show min (σ 50 (5 * z + 4)) (σ 50 (5 * y + 4)) = m_34 by omega, show max (σ 50 (5 * z + 3)) (σ 50 (5 * y + 3)) = m_45 by omega])
            | rw [if_neg (by omega)]⟩) rfl
    · refine z_iload_n C (z_d dtX0_cellsInBoth_0 35 rfl) rfl ?_
      refine z_if_le (tgt := 77) C (z_d dtX0_cellsInBoth_0 36 rfl) (by decide) (by omega) (fun h_68 => ?_) (fun h_68 => ?_)
      · refine z_iconst C (z_d dtX0_cellsInBoth_1 1 rfl) ?_
        exact ret _ _ _ _ (z_d dtX0_cellsInBoth_1 2 rfl) (⟨rfl, by
            unfold zIb
            first
              | (rw [if_pos (by omega), show min (σ 50 (5 * z + 2)) (σ 50 (5 * y + 2)) = m_8 by omega, show max (σ 50 (5 * z + 1)) (σ 50 (5 * y + 1)) = m_19 by omega, show min (σ 50 (5 * z + 4)) (σ 50 (5 * y + 4)) = m_34 by omega, show max (σ 50 (5 * z + 3)) (σ 50 (5 * y + 3)) = m_45 by omega])
              | rw [if_neg (by omega)]⟩) rfl
      · refine z_iload_n C (z_d dtX0_cellsInBoth_0 37 rfl) rfl ?_
        refine z_iload_n C (z_d dtX0_cellsInBoth_0 38 rfl) rfl ?_
        refine z_imul C (z_d dtX0_cellsInBoth_0 39 rfl) ?_
        refine z_goto (tgt := 78) C (z_d dtX0_cellsInBoth_1 0 rfl) (by decide) ?_
        exact ret _ _ _ _ (z_d dtX0_cellsInBoth_1 2 rfl) (⟨rfl, by
            unfold zIb
            first
              | (rw [if_pos (by omega), show min (σ 50 (5 * z + 2)) (σ 50 (5 * y + 2)) = m_8 by omega, show max (σ 50 (5 * z + 1)) (σ 50 (5 * y + 1)) = m_19 by omega, show min (σ 50 (5 * z + 4)) (σ 50 (5 * y + 4)) = m_34 by omega, show max (σ 50 (5 * z + 3)) (σ 50 (5 * y + 3)) = m_45 by omega])
              | rw [if_neg (by omega)]⟩) rfl

set_option maxRecDepth 100000 in
set_option maxHeartbeats 4000000 in
theorem k_X0_cellsApart {l : Launch} {D : va_G} {t : Nat → ClassId} {ad : Nat → Nat} {σ : zMem} {z y : Int} (hz : 0 ≤ z ∧ z < σ 49 0) (haz : zAz σ z) (hy : 0 ≤ y ∧ y < σ 49 0) (hay : zAz σ y) : z_Ci l D t yX0_cellsApart cX0_cellsApart 2 .int 2 44 0 0 [.ref (σ 48 z).toNat, .ref (σ 48 y).toNat] (wX ad t σ) (fun r w => w = wX ad t σ ∧ r = zAp σ z y) := by
  refine z_Ci_of (by decide +kernel) [some (.ref (σ 48 z).toNat), some (.ref (σ 48 y).toNat)] rfl rfl (Nat.le_of_ble_eq_true rfl) fun K hl hD ht hR hnm C ret => ?_
  subst hl; subst hD; subst ht
  refine z_aload_n C (z_d dtX0_cellsApart_0 0 rfl) rfl ?_
  refine z_callV C (z_d dtX0_cellsApart_0 1 rfl) (k_X0_extent  (by first | assumption | omega) (by first | assumption | omega)) cal_X0_extent gw_31_20 rfl (30 + _) 0 (wX_ar (by omega)) rfl rfl rfl hR ⟨rfl, rfl, rfl, rfl⟩ rfl (fun r_1 w_1 h_1 => ?_)
  obtain ⟨rfl, rfl⟩ := h_1
  refine z_aload_n C (z_d dtX0_cellsApart_0 2 rfl) rfl ?_
  refine z_callV C (z_d dtX0_cellsApart_0 3 rfl) (k_X0_extent  (by first | assumption | omega) (by first | assumption | omega)) cal_X0_extent gw_31_20 rfl (30 + _) 0 (wX_ar (by omega)) rfl rfl rfl hR ⟨rfl, rfl, rfl, rfl⟩ rfl (fun r_5 w_5 h_5 => ?_)
  obtain ⟨rfl, rfl⟩ := h_5
  refine z_iadd C (z_d dtX0_cellsApart_0 4 rfl) ?_
  refine z_iconst C (z_d dtX0_cellsApart_0 5 rfl) ?_
  refine z_aload_n C (z_d dtX0_cellsApart_0 6 rfl) rfl ?_
  refine z_aload_n C (z_d dtX0_cellsApart_0 7 rfl) rfl ?_
  refine z_callV C (z_d dtX0_cellsApart_0 8 rfl) (k_X0_cellsInBoth  (by first | assumption | omega) (by first | assumption | omega) (by first | assumption | omega) (by first | assumption | omega)) cal_X0_cellsInBoth gw_32_0 rfl (30 + _) 0 (wX_ar (by omega)) rfl rfl rfl hR ⟨rfl, rfl, rfl, rfl⟩ rfl (fun r_12 w_12 h_12 => ?_)
  obtain ⟨rfl, rfl⟩ := h_12
  refine z_imul C (z_d dtX0_cellsApart_0 9 rfl) ?_
  refine z_isub C (z_d dtX0_cellsApart_0 10 rfl) ?_
  exact ret _ _ _ _ (z_d dtX0_cellsApart_0 11 rfl) (⟨rfl, rfl⟩) rfl

set_option maxRecDepth 100000 in
set_option maxHeartbeats 4000000 in
theorem k_X2_scatter {l : Launch} {D : va_G} {t : Nat → ClassId} {ad : Nat → Nat} {σ : zMem}   : z_Cv l D t yX2_scatter cX2_scatter 1 1 23 0 0 [.ref (ad 5)] (wX ad t σ) (fun w => w = wX ad t (zS (zS σ 10 (zC (-1))) 12 (zC 0))) := by
  refine z_Cv_of (by decide +kernel) [some (.ref (ad 5))] rfl rfl (Nat.le_of_ble_eq_true rfl) fun K hl hD ht hR hnm C ret => ?_
  subst hl; subst hD; subst ht
  refine z_aload_n C (z_d dtX2_scatter_0 0 rfl) rfl ?_
  refine gf_X2_18 C (z_d dtX2_scatter_0 1 rfl) ?_
  refine z_iconst C (z_d dtX2_scatter_0 2 rfl) ?_
  refine z_callSv C (z_d dtX2_scatter_0 3 rfl) kf_X20 cal_J7_fill_53178 gw_7_7 rfl rfl hR ⟨rfl, rfl, rfl, rfl⟩ rfl (fun w_5 h_5 => ?_)
  subst h_5
  refine z_aload_n C (z_d dtX2_scatter_0 4 rfl) rfl ?_
  refine z_iconst C (z_d dtX2_scatter_0 5 rfl) ?_
  refine pf_X2_9 C (z_d dtX2_scatter_0 6 rfl) ?_
  exact ret _ _ _ (z_d dtX2_scatter_0 7 rfl) (rfl)

set_option maxRecDepth 100000 in
set_option maxHeartbeats 4000000 in
theorem k_X2_move {l : Launch} {D : va_G} {t : Nat → ClassId} {ad : Nat → Nat} {σ : zMem} {k c : Int} (hk : 0 ≤ k ∧ k < 20) : z_Ci l D t yX2_move cX2_move 4 .int 0 0 0 0 [.ref (ad 5), .int (zI k), .int (zI c)] (wX ad t σ) (fun r w => w = wX ad t (zS (zS σ 10 (zU (σ 10) k c)) 12 (zC 0)) ∧ r = σ 10 k) := by
  refine z_Ci_of (by decide +kernel) [some (.ref (ad 5)), some (.int (zI k)), some (.int (zI c)), none] rfl rfl (Nat.le_of_ble_eq_true rfl) fun K hl hD ht hR hnm C ret => ?_
  subst hl; subst hD; subst ht
  refine z_aload_n C (z_d dtX2_move_0 0 rfl) rfl ?_
  refine gf_X2_18 C (z_d dtX2_move_0 1 rfl) ?_
  refine z_iload_n C (z_d dtX2_move_0 2 rfl) rfl ?_
  refine al_X20 C (z_d dtX2_move_0 3 rfl) (by omega) ?_
  refine z_istore_n3 C (z_d dtX2_move_0 4 rfl) rfl ?_
  refine z_aload_n C (z_d dtX2_move_0 5 rfl) rfl ?_
  refine gf_X2_18 C (z_d dtX2_move_0 6 rfl) ?_
  refine z_iload_n C (z_d dtX2_move_0 7 rfl) rfl ?_
  refine z_iload_n C (z_d dtX2_move_0 8 rfl) rfl ?_
  refine as_X20 C (z_d dtX2_move_0 9 rfl) (by omega) ?_
  refine z_aload_n C (z_d dtX2_move_0 10 rfl) rfl ?_
  refine z_iconst C (z_d dtX2_move_0 11 rfl) ?_
  refine pf_X2_9 C (z_d dtX2_move_0 12 rfl) ?_
  refine z_iload_n C (z_d dtX2_move_0 13 rfl) rfl ?_
  exact ret _ _ _ _ (z_d dtX2_move_0 14 rfl) (⟨rfl, rfl⟩) rfl

set_option maxRecDepth 100000 in
set_option maxHeartbeats 4000000 in
theorem k_X2_putLeast {l : Launch} {D : va_G} {t : Nat → ClassId} {ad : Nat → Nat} {σ : zMem} {n : Int}  : z_Ci l D t yX2_putLeast cX2_putLeast 3 .int 0 0 0 0 [.ref (ad 5), .int (zI n)] (wX ad t σ) (fun r w => w = wX ad t (zS (zS σ 11 (zC n)) 12 (zC 0)) ∧ r = σ 11 0) := by
  refine z_Ci_of (by decide +kernel) [some (.ref (ad 5)), some (.int (zI n)), none] rfl rfl (Nat.le_of_ble_eq_true rfl) fun K hl hD ht hR hnm C ret => ?_
  subst hl; subst hD; subst ht
  refine z_aload_n C (z_d dtX2_putLeast_0 0 rfl) rfl ?_
  refine gf_X2_15 C (z_d dtX2_putLeast_0 1 rfl) ?_
  refine z_istore_n2 C (z_d dtX2_putLeast_0 2 rfl) rfl ?_
  refine z_aload_n C (z_d dtX2_putLeast_0 3 rfl) rfl ?_
  refine z_iload_n C (z_d dtX2_putLeast_0 4 rfl) rfl ?_
  refine pf_X2_15 C (z_d dtX2_putLeast_0 5 rfl) ?_
  refine z_aload_n C (z_d dtX2_putLeast_0 6 rfl) rfl ?_
  refine z_iconst C (z_d dtX2_putLeast_0 7 rfl) ?_
  refine pf_X2_9 C (z_d dtX2_putLeast_0 8 rfl) ?_
  refine z_iload_n C (z_d dtX2_putLeast_0 9 rfl) rfl ?_
  exact ret _ _ _ _ (z_d dtX2_putLeast_0 10 rfl) (⟨rfl, rfl⟩) rfl

set_option maxRecDepth 100000 in
set_option maxHeartbeats 4000000 in
theorem k_X2_somewhere {l : Launch} {D : va_G} {t : Nat → ClassId} {ad : Nat → Nat} {σ : zMem}  (h10 : ∀ i, -1 ≤ σ 10 i ∧ σ 10 i < 72) : z_Ci l D t yX2_somewhere cX2_somewhere 3 .int 0 0 0 0 [.ref (ad 5)] (wX ad t σ) (fun r w => w = wX ad t σ ∧ r = zSo (σ 10) 20) := by
  refine z_Ci_of (by decide +kernel) [some (.ref (ad 5)), none, none] rfl rfl (Nat.le_of_ble_eq_true rfl) fun K hl hD ht hR hnm C ret => ?_
  subst hl; subst hD; subst ht
  refine z_iconst C (z_d dtX2_somewhere_0 0 rfl) ?_
  refine z_istore_n1 C (z_d dtX2_somewhere_0 1 rfl) rfl ?_
  refine z_iconst C (z_d dtX2_somewhere_0 2 rfl) ?_
  refine z_istore_n2 C (z_d dtX2_somewhere_0 3 rfl) rfl ?_
  have lp_4 : ∀ (N_4 : Nat) (i : Nat) (k s : Int), (k = i ∧ i ≤ 20) → (s = zSo (σ 10) i) → 20 - i < N_4 → Gd K 0 0 4 [some (.ref (ad 5)), some (.int (zI s)), some (.int (zI k))] [] (wX ad (z_t K) σ) := by
    intro N_4
    induction N_4 with
    | zero => intro i k s hi hs hm_4; exact absurd hm_4 (Nat.not_lt_zero _)
    | succ N_4 ih_4 =>
      intro i k s hi hs hm_4
      obtain ⟨rfl, hi⟩ := hi
      have h10i := h10 i
      refine z_iload_n C (z_d dtX2_somewhere_0 4 rfl) rfl ?_
      refine z_bipush C (z_d dtX2_somewhere_0 5 rfl) zb_20 ?_
      refine z_icmp_ge (tgt := 29) C (z_d dtX2_somewhere_0 6 rfl) (by decide) (by omega) (fun h_7 => ?_) (fun h_7 => ?_)
      · refine z_iload_n C (z_d dtX2_somewhere_0 16 rfl) rfl ?_
        exact ret _ _ _ _ (z_d dtX2_somewhere_0 17 rfl) (⟨rfl, by rw [hs, show i = 20 by omega]⟩) rfl
      · refine z_aload_n C (z_d dtX2_somewhere_0 7 rfl) rfl ?_
        refine gf_X2_18 C (z_d dtX2_somewhere_0 8 rfl) ?_
        refine z_iload_n C (z_d dtX2_somewhere_0 9 rfl) rfl ?_
        refine al_X20 C (z_d dtX2_somewhere_0 10 rfl) (by omega) ?_
        refine z_iconst C (z_d dtX2_somewhere_0 11 rfl) ?_
        refine z_icmp_eq (tgt := 23) C (z_d dtX2_somewhere_0 12 rfl) (by decide) (by omega) (fun h_17 => ?_) (fun h_17 => ?_)
        · refine z_iinc2 C (z_d dtX2_somewhere_0 14 rfl) rfl ?_
          refine z_goto (tgt := 4) C (z_d dtX2_somewhere_0 15 rfl) (by decide) ?_
          exact ih_4 (i + 1) _ _ (by omega) (by rw [zSo]; (first | rw [if_pos (by omega)] | rw [if_neg (by omega)]) <;> omega) (by omega)
        · refine z_iinc1 C (z_d dtX2_somewhere_0 13 rfl) rfl ?_
          refine z_iinc2 C (z_d dtX2_somewhere_0 14 rfl) rfl ?_
          refine z_goto (tgt := 4) C (z_d dtX2_somewhere_0 15 rfl) (by decide) ?_
          exact ih_4 (i + 1) _ _ (by omega) (by rw [zSo]; (first | rw [if_pos (by omega)] | rw [if_neg (by omega)]) <;> omega) (by omega)
  exact lp_4 _ 0 _ _ (by omega) rfl (Nat.lt_succ_self _)

set_option maxRecDepth 100000 in
set_option maxHeartbeats 4000000 in
theorem k_X2_numberIn {l : Launch} {D : va_G} {t : Nat → ClassId} {ad : Nat → Nat} {σ : zMem} {z : Int} (hw : zHw σ) (hz : 0 ≤ z ∧ z < σ 49 0) (haz : zAz σ z) (h10 : ∀ i, -1 ≤ σ 10 i ∧ σ 10 i < 72) : z_Ci l D t yX2_numberIn cX2_numberIn 6 .int 2 41 0 0 [.ref (ad 5), .ref (σ 48 z).toNat, .ref (ad 1)] (wX ad t σ) (fun r w => w = wX ad t σ ∧ r = zNi σ (σ 50 (5 * z)) (σ 50 (5 * z + 1)) (σ 50 (5 * z + 2)) (σ 50 (5 * z + 3)) (σ 50 (5 * z + 4)) 20) := by
  refine z_Ci_of (by decide +kernel) [some (.ref (ad 5)), some (.ref (σ 48 z).toNat), some (.ref (ad 1)), none, none, none] rfl rfl (Nat.le_of_ble_eq_true rfl) fun K hl hD ht hR hnm C ret => ?_
  subst hl; subst hD; subst ht
  have ha := haz; unfold zAz at ha
  have hN := zHw_N hw
  have hW := hw; unfold zHw at hW
  refine z_iconst C (z_d dtX2_numberIn_0 0 rfl) ?_
  refine z_istore_n3 C (z_d dtX2_numberIn_0 1 rfl) rfl ?_
  refine z_iconst C (z_d dtX2_numberIn_0 2 rfl) ?_
  refine z_istore4 C (z_d dtX2_numberIn_0 3 rfl) rfl ?_
  have lp_5 : ∀ (N_5 : Nat) (i : Nat) (k s : Int), (k = i ∧ i ≤ 20) → (s = zNi σ (σ 50 (5 * z)) (σ 50 (5 * z + 1)) (σ 50 (5 * z + 2)) (σ 50 (5 * z + 3)) (σ 50 (5 * z + 4)) i) → 20 - i < N_5 → Gd K 0 0 5 [some (.ref (ad 5)), some (.ref (σ 48 z).toNat), some (.ref (ad 1)), some (.int (zI s)), some (.int (zI k)), none] [] (wX ad (z_t K) σ) := by
    intro N_5
    induction N_5 with
    | zero => intro i k s hi hs hm_5; exact absurd hm_5 (Nat.not_lt_zero _)
    | succ N_5 ih_5 =>
      intro i k s hi hs hm_5
      obtain ⟨rfl, hi⟩ := hi
      have h10i := h10 i
      have hg := fun q : 0 ≤ σ 10 i ∧ σ 10 i < zN σ => zGeo hw q
      refine z_iload C (z_d dtX2_numberIn_0 4 rfl) rfl ?_
      refine z_bipush C (z_d dtX2_numberIn_0 5 rfl) zb_20 ?_
      refine z_icmp_ge (tgt := 64) C (z_d dtX2_numberIn_0 6 rfl) (by decide) (by omega) (fun h_9 => ?_) (fun h_9 => ?_)
      · refine z_iload_n C (z_d dtX2_numberIn_0 31 rfl) rfl ?_
        exact ret _ _ _ _ (z_d dtX2_numberIn_0 32 rfl) (⟨rfl, by rw [hs, show i = 20 by omega]⟩) rfl
      · refine z_aload_n C (z_d dtX2_numberIn_0 7 rfl) rfl ?_
        refine gf_X2_18 C (z_d dtX2_numberIn_0 8 rfl) ?_
        refine z_iload C (z_d dtX2_numberIn_0 9 rfl) rfl ?_
        refine al_X20 C (z_d dtX2_numberIn_0 10 rfl) (by omega) ?_
        refine z_istore5 C (z_d dtX2_numberIn_0 11 rfl) rfl ?_
        refine z_aload_n C (z_d dtX2_numberIn_0 12 rfl) rfl ?_
        refine z_iload C (z_d dtX2_numberIn_0 13 rfl) rfl ?_
        refine z_callV C (z_d dtX2_numberIn_0 14 rfl) (k_X3_hasCell  (by first | assumption | omega) (by first | assumption | omega)) cal_X3_hasCell gw_31_4 rfl 1 3 rfl rfl rfl rfl hR ⟨rfl, rfl, rfl, rfl⟩ rfl (fun r_24 w_24 h_24 => ?_)
        obtain ⟨rfl, h_24⟩ := h_24
        have hg2 : (0 ≤ σ 10 i ∧ σ 10 i < zN σ) → _ := hg
        refine z_if_eq (tgt := 58) C (z_d dtX2_numberIn_0 15 rfl) (by decide) (by omega) (fun h_27 => ?_) (fun h_27 => ?_)
        · refine z_iinc4 C (z_d dtX2_numberIn_0 29 rfl) rfl ?_
          refine z_goto (tgt := 5) C (z_d dtX2_numberIn_0 30 rfl) (by decide) ?_
          refine z_drop5 ?_
          exact ih_5 (i + 1) _ _ (by omega) (by rw [zNi, hs]; (first | rw [if_pos (by omega)] | rw [if_neg (by omega)]) <;> omega) (by omega)
        · have hg3 := hg (by omega)
          refine z_aload_n C (z_d dtX2_numberIn_0 16 rfl) rfl ?_
          refine z_aload_n C (z_d dtX2_numberIn_0 17 rfl) rfl ?_
          refine z_iload C (z_d dtX2_numberIn_0 18 rfl) rfl ?_
          refine z_callV C (z_d dtX2_numberIn_0 19 rfl) (k_X3_floorOf  (by first | assumption | omega) (by first | assumption | omega)) cal_X3_floorOf gw_31_5 rfl 1 3 rfl rfl rfl rfl hR ⟨rfl, rfl, rfl, rfl⟩ rfl (fun r_34 w_34 h_34 => ?_)
          obtain ⟨rfl, rfl⟩ := h_34
          refine z_aload_n C (z_d dtX2_numberIn_0 20 rfl) rfl ?_
          refine z_iload C (z_d dtX2_numberIn_0 21 rfl) rfl ?_
          refine z_callV C (z_d dtX2_numberIn_0 22 rfl) (k_X3_xOf  (by first | assumption | omega) (by first | assumption | omega)) cal_X3_xOf gw_31_6 rfl 1 3 rfl rfl rfl rfl hR ⟨rfl, rfl, rfl, rfl⟩ rfl (fun r_40 w_40 h_40 => ?_)
          obtain ⟨rfl, rfl⟩ := h_40
          refine z_aload_n C (z_d dtX2_numberIn_0 23 rfl) rfl ?_
          refine z_iload C (z_d dtX2_numberIn_0 24 rfl) rfl ?_
          refine z_callV C (z_d dtX2_numberIn_0 25 rfl) (k_X3_yOf  (by first | assumption | omega) (by first | assumption | omega)) cal_X3_yOf gw_31_7 rfl 1 3 rfl rfl rfl rfl hR ⟨rfl, rfl, rfl, rfl⟩ rfl (fun r_46 w_46 h_46 => ?_)
          obtain ⟨rfl, rfl⟩ := h_46
          refine z_callV C (z_d dtX2_numberIn_0 26 rfl) (k_X0_contains  (by first | assumption | omega) (by first | assumption | omega) (by first | assumption | omega) (by first | assumption | omega) (by first | assumption | omega)) cal_X0_contains gw_31_8 rfl (30 + _) 0 (wX_ar (by omega)) rfl rfl rfl hR ⟨rfl, rfl, rfl, rfl⟩ rfl (fun r_49 w_49 h_49 => ?_)
          obtain ⟨rfl, h_49⟩ := h_49
          refine z_if_eq (tgt := 58) C (z_d dtX2_numberIn_0 27 rfl) (by decide) (by omega) (fun h_52 => ?_) (fun h_52 => ?_)
          · refine z_iinc4 C (z_d dtX2_numberIn_0 29 rfl) rfl ?_
            refine z_goto (tgt := 5) C (z_d dtX2_numberIn_0 30 rfl) (by decide) ?_
            refine z_drop5 ?_
            exact ih_5 (i + 1) _ _ (by omega) (by rw [zNi, hs]; (first | rw [if_pos (by omega)] | rw [if_neg (by omega)]) <;> omega) (by omega)
          · refine z_iinc3 C (z_d dtX2_numberIn_0 28 rfl) rfl ?_
            refine z_iinc4 C (z_d dtX2_numberIn_0 29 rfl) rfl ?_
            refine z_goto (tgt := 5) C (z_d dtX2_numberIn_0 30 rfl) (by decide) ?_
            refine z_drop5 ?_
            exact ih_5 (i + 1) _ _ (by omega) (by rw [zNi, hs]; (first | rw [if_pos (by omega)] | rw [if_neg (by omega)]) <;> omega) (by omega)
  exact lp_5 _ 0 _ _ (by omega) rfl (Nat.lt_succ_self _)

set_option maxRecDepth 100000 in
set_option maxHeartbeats 4000000 in
theorem k_X2_isTooNear {l : Launch} {D : va_G} {t : Nat → ClassId} {ad : Nat → Nat} {σ : zMem} {z : Int} (hz : 0 ≤ z ∧ z < σ 49 0) (haz : zAz σ z) (hg : 0 ≤ σ 12 0 ∧ σ 12 0 ≤ 30) (hl : 1 ≤ σ 11 0 ∧ σ 11 0 ≤ 20) (hai : ∀ i, 0 ≤ i → i < σ 12 0 → (0 ≤ σ 51 i ∧ σ 51 i < σ 49 0) ∧ zAz σ (σ 51 i)) : z_Ci l D t yX2_isTooNear cX2_isTooNear 4 .boolean 3 65 0 0 [.ref (ad 5), .ref (σ 48 z).toNat] (wX ad t σ) (fun r w => w = wX ad t σ ∧ ((r = 1 ∧ (∃ i, 0 ≤ i ∧ i < σ 12 0 ∧ 0 < zAp σ z (σ 51 i) ∧ zAp σ z (σ 51 i) < σ 11 0)) ∨ (r = 0 ∧ ¬ (∃ i, 0 ≤ i ∧ i < σ 12 0 ∧ 0 < zAp σ z (σ 51 i) ∧ zAp σ z (σ 51 i) < σ 11 0)))) := by
  refine z_Ci_of (by decide +kernel) [some (.ref (ad 5)), some (.ref (σ 48 z).toNat), none, none] rfl rfl (Nat.le_of_ble_eq_true rfl) fun K hl hD ht hR hnm C ret => ?_
  subst hl; subst hD; subst ht
  refine z_iconst C (z_d dtX2_isTooNear_0 0 rfl) ?_
  refine z_istore_n2 C (z_d dtX2_isTooNear_0 1 rfl) rfl ?_
  have lp_2 : ∀ (N_2 : Nat) (i : Int), (0 ≤ i ∧ i ≤ σ 12 0) → (∀ j, 0 ≤ j → j < i → ¬ (0 < zAp σ z (σ 51 j) ∧ zAp σ z (σ 51 j) < σ 11 0)) → (σ 12 0 - i).toNat < N_2 → Gd K 0 0 2 [some (.ref (ad 5)), some (.ref (σ 48 z).toNat), some (.int (zI i)), none] [] (wX ad (z_t K) σ) := by
    intro N_2
    induction N_2 with
    | zero => intro i hi hn hm_2; exact absurd hm_2 (Nat.not_lt_zero _)
    | succ N_2 ih_2 =>
      intro i hi hn hm_2
      have hq := fun q : i < σ 12 0 => hai i hi.1 q
      refine z_iload_n C (z_d dtX2_isTooNear_0 2 rfl) rfl ?_
      refine z_aload_n C (z_d dtX2_isTooNear_0 3 rfl) rfl ?_
      refine gf_X2_9 C (z_d dtX2_isTooNear_0 4 rfl) ?_
      refine z_icmp_ge (tgt := 41) C (z_d dtX2_isTooNear_0 5 rfl) (by decide) (by omega) (fun h_7 => ?_) (fun h_7 => ?_)
      · refine z_iconst C (z_d dtX2_isTooNear_0 23 rfl) ?_
        exact ret _ _ _ _ (z_d dtX2_isTooNear_0 24 rfl) (⟨rfl, Or.inr ⟨rfl, fun ⟨j, h0, h1, h2⟩ => hn j h0 (by omega) h2⟩⟩) (z_nb (by omega))
      · refine z_aload_n C (z_d dtX2_isTooNear_0 6 rfl) rfl ?_
        refine z_aload_n C (z_d dtX2_isTooNear_0 7 rfl) rfl ?_
        refine gf_X2_24 C (z_d dtX2_isTooNear_0 8 rfl) ?_
        refine z_iload_n C (z_d dtX2_isTooNear_0 9 rfl) rfl ?_
        have hq2 := hq (by omega)
        have hpb := zAp_b haz hq2.2
        refine al_Xar C (z_d dtX2_isTooNear_0 10 rfl) (by omega) hq2.1.1 ?_
        refine z_callV C (z_d dtX2_isTooNear_0 11 rfl) (k_X0_cellsApart  hz haz hq2.1 hq2.2) cal_X0_cellsApart gw_31_16 rfl (30 + _) 0 (wX_ar (by omega)) rfl rfl rfl hR ⟨rfl, rfl, rfl, rfl⟩ rfl (fun r_17 w_17 h_17 => ?_)
        obtain ⟨rfl, rfl⟩ := h_17
        refine z_istore_n3 C (z_d dtX2_isTooNear_0 12 rfl) rfl ?_
        refine z_iload_n C (z_d dtX2_isTooNear_0 13 rfl) rfl ?_
        refine z_if_le (tgt := 35) C (z_d dtX2_isTooNear_0 14 rfl) (by decide) (by omega) (fun h_22 => ?_) (fun h_22 => ?_)
        · refine z_iinc2 C (z_d dtX2_isTooNear_0 21 rfl) rfl ?_
          refine z_goto (tgt := 2) C (z_d dtX2_isTooNear_0 22 rfl) (by decide) ?_
          refine z_drop3 ?_
          exact ih_2 _ (by omega) (fun j h0 h1 => by
                by_cases e : j = i
                · subst e; omega
                · exact hn j h0 (by omega)) (by omega)
        · refine z_iload_n C (z_d dtX2_isTooNear_0 15 rfl) rfl ?_
          refine z_aload_n C (z_d dtX2_isTooNear_0 16 rfl) rfl ?_
          refine gf_X2_15 C (z_d dtX2_isTooNear_0 17 rfl) ?_
          refine z_icmp_ge (tgt := 35) C (z_d dtX2_isTooNear_0 18 rfl) (by decide) (by omega) (fun h_30 => ?_) (fun h_30 => ?_)
          · refine z_iinc2 C (z_d dtX2_isTooNear_0 21 rfl) rfl ?_
            refine z_goto (tgt := 2) C (z_d dtX2_isTooNear_0 22 rfl) (by decide) ?_
            refine z_drop3 ?_
            exact ih_2 _ (by omega) (fun j h0 h1 => by
                  by_cases e : j = i
                  · subst e; omega
                  · exact hn j h0 (by omega)) (by omega)
          · refine z_iconst C (z_d dtX2_isTooNear_0 19 rfl) ?_
            exact ret _ _ _ _ (z_d dtX2_isTooNear_0 20 rfl) (⟨rfl, Or.inl ⟨rfl, i, hi.1, by omega, by omega, by omega⟩⟩) (z_nb (by omega))
  exact lp_2 _ _ (by omega) (fun j h0 h1 => absurd h1 (by omega)) (Nat.lt_succ_self _)

set_option maxRecDepth 100000 in
set_option maxHeartbeats 4000000 in
theorem k_X2_wasGiven {l : Launch} {D : va_G} {t : Nat → ClassId} {ad : Nat → Nat} {σ : zMem} {z : Int} (hz : 0 ≤ z ∧ z < σ 49 0) (haz : zAz σ z) (hg : 0 ≤ σ 12 0 ∧ σ 12 0 ≤ 30) (hl : 1 ≤ σ 11 0 ∧ σ 11 0 ≤ 20) (hai : ∀ i, 0 ≤ i → i < σ 12 0 → (0 ≤ σ 51 i ∧ σ 51 i < σ 49 0) ∧ zAz σ (σ 51 i)) : z_Ci l D t yX2_wasGiven cX2_wasGiven 3 .boolean 3 65 0 0 [.ref (ad 5), .ref (σ 48 z).toNat] (wX ad t σ) (fun r w => w = wX ad t σ ∧ ((r = 1 ∧ (∃ i, 0 ≤ i ∧ i < σ 12 0 ∧ zAp σ z (σ 51 i) = 0)) ∨ (r = 0 ∧ ¬ (∃ i, 0 ≤ i ∧ i < σ 12 0 ∧ zAp σ z (σ 51 i) = 0)))) := by
  refine z_Ci_of (by decide +kernel) [some (.ref (ad 5)), some (.ref (σ 48 z).toNat), none] rfl rfl (Nat.le_of_ble_eq_true rfl) fun K hl hD ht hR hnm C ret => ?_
  subst hl; subst hD; subst ht
  refine z_iconst C (z_d dtX2_wasGiven_0 0 rfl) ?_
  refine z_istore_n2 C (z_d dtX2_wasGiven_0 1 rfl) rfl ?_
  have lp_2 : ∀ (N_2 : Nat) (i : Int), (0 ≤ i ∧ i ≤ σ 12 0) → (∀ j, 0 ≤ j → j < i → ¬ zAp σ z (σ 51 j) = 0) → (σ 12 0 - i).toNat < N_2 → Gd K 0 0 2 [some (.ref (ad 5)), some (.ref (σ 48 z).toNat), some (.int (zI i))] [] (wX ad (z_t K) σ) := by
    intro N_2
    induction N_2 with
    | zero => intro i hi hn hm_2; exact absurd hm_2 (Nat.not_lt_zero _)
    | succ N_2 ih_2 =>
      intro i hi hn hm_2
      have hq := fun q : i < σ 12 0 => hai i hi.1 q
      refine z_iload_n C (z_d dtX2_wasGiven_0 2 rfl) rfl ?_
      refine z_aload_n C (z_d dtX2_wasGiven_0 3 rfl) rfl ?_
      refine gf_X2_9 C (z_d dtX2_wasGiven_0 4 rfl) ?_
      refine z_icmp_ge (tgt := 31) C (z_d dtX2_wasGiven_0 5 rfl) (by decide) (by omega) (fun h_7 => ?_) (fun h_7 => ?_)
      · refine z_iconst C (z_d dtX2_wasGiven_0 17 rfl) ?_
        exact ret _ _ _ _ (z_d dtX2_wasGiven_0 18 rfl) (⟨rfl, Or.inr ⟨rfl, fun ⟨j, h0, h1, h2⟩ => hn j h0 (by omega) h2⟩⟩) (z_nb (by omega))
      · refine z_aload_n C (z_d dtX2_wasGiven_0 6 rfl) rfl ?_
        refine z_aload_n C (z_d dtX2_wasGiven_0 7 rfl) rfl ?_
        refine gf_X2_24 C (z_d dtX2_wasGiven_0 8 rfl) ?_
        refine z_iload_n C (z_d dtX2_wasGiven_0 9 rfl) rfl ?_
        have hq2 := hq (by omega)
        have hpb := zAp_b haz hq2.2
        refine al_Xar C (z_d dtX2_wasGiven_0 10 rfl) (by omega) hq2.1.1 ?_
        refine z_callV C (z_d dtX2_wasGiven_0 11 rfl) (k_X0_cellsApart  hz haz hq2.1 hq2.2) cal_X0_cellsApart gw_31_16 rfl (30 + _) 0 (wX_ar (by omega)) rfl rfl rfl hR ⟨rfl, rfl, rfl, rfl⟩ rfl (fun r_17 w_17 h_17 => ?_)
        obtain ⟨rfl, rfl⟩ := h_17
        refine z_if_ne (tgt := 25) C (z_d dtX2_wasGiven_0 12 rfl) (by decide) (by omega) (fun h_20 => ?_) (fun h_20 => ?_)
        · refine z_iinc2 C (z_d dtX2_wasGiven_0 15 rfl) rfl ?_
          refine z_goto (tgt := 2) C (z_d dtX2_wasGiven_0 16 rfl) (by decide) ?_
          exact ih_2 _ (by omega) (fun j h0 h1 => by
                by_cases e : j = i
                · subst e; omega
                · exact hn j h0 (by omega)) (by omega)
        · refine z_iconst C (z_d dtX2_wasGiven_0 13 rfl) ?_
          exact ret _ _ _ _ (z_d dtX2_wasGiven_0 14 rfl) (⟨rfl, Or.inl ⟨rfl, i, hi.1, by omega, by omega⟩⟩) (z_nb (by omega))
  exact lp_2 _ _ (by omega) (fun j h0 h1 => absurd h1 (by omega)) (Nat.lt_succ_self _)

set_option maxRecDepth 100000 in
set_option maxHeartbeats 4000000 in
theorem k_X2_giveAway {l : Launch} {D : va_G} {t : Nat → ClassId} {ad : Nat → Nat} {σ : zMem} {z : Int} (hw : zHw σ) (hz : 0 ≤ z ∧ z < σ 49 0) (haz : zAz σ z) (h10 : ∀ i, -1 ≤ σ 10 i ∧ σ 10 i < 72) (hg : 0 ≤ σ 12 0 ∧ σ 12 0 ≤ 30) (hl : 1 ≤ σ 11 0 ∧ σ 11 0 ≤ 20) (hai : ∀ i, 0 ≤ i → i < σ 12 0 → (0 ≤ σ 51 i ∧ σ 51 i < σ 49 0) ∧ zAz σ (σ 51 i)) : z_Ci l D t yX2_giveAway cX2_giveAway 4 .int 4 88 0 0 [.ref (ad 5), .ref (σ 48 z).toNat, .ref (ad 1)] (wX ad t σ) (fun r w => ∃ σ', w = wX ad t σ' ∧ (((zNi σ (σ 50 (5 * z)) (σ 50 (5 * z + 1)) (σ 50 (5 * z + 2)) (σ 50 (5 * z + 3)) (σ 50 (5 * z + 4)) 20 < σ 11 0 ∨ (∃ i, 0 ≤ i ∧ i < σ 12 0 ∧ 0 < zAp σ z (σ 51 i) ∧ zAp σ z (σ 51 i) < σ 11 0)) ∧ r = -3 ∧ σ' = σ) ∨ (¬ (zNi σ (σ 50 (5 * z)) (σ 50 (5 * z + 1)) (σ 50 (5 * z + 2)) (σ 50 (5 * z + 3)) (σ 50 (5 * z + 4)) 20 < σ 11 0 ∨ (∃ i, 0 ≤ i ∧ i < σ 12 0 ∧ 0 < zAp σ z (σ 51 i) ∧ zAp σ z (σ 51 i) < σ 11 0)) ∧ ((¬ (∃ i, 0 ≤ i ∧ i < σ 12 0 ∧ zAp σ z (σ 51 i) = 0) ∧ 30 ≤ σ 12 0 ∧ r = -4 ∧ σ' = σ) ∨ ((∃ i, 0 ≤ i ∧ i < σ 12 0 ∧ zAp σ z (σ 51 i) = 0) ∧ r = zNi σ (σ 50 (5 * z)) (σ 50 (5 * z + 1)) (σ 50 (5 * z + 2)) (σ 50 (5 * z + 3)) (σ 50 (5 * z + 4)) 20 - zNi σ (σ 50 (5 * z)) (σ 50 (5 * z + 1)) (σ 50 (5 * z + 2)) (σ 50 (5 * z + 3)) (σ 50 (5 * z + 4)) 20 % σ 11 0 ∧ σ' = σ) ∨ (¬ (∃ i, 0 ≤ i ∧ i < σ 12 0 ∧ zAp σ z (σ 51 i) = 0) ∧ σ 12 0 < 30 ∧ r = zNi σ (σ 50 (5 * z)) (σ 50 (5 * z + 1)) (σ 50 (5 * z + 2)) (σ 50 (5 * z + 3)) (σ 50 (5 * z + 4)) 20 - zNi σ (σ 50 (5 * z)) (σ 50 (5 * z + 1)) (σ 50 (5 * z + 2)) (σ 50 (5 * z + 3)) (σ 50 (5 * z + 4)) 20 % σ 11 0 ∧ σ' = zS (zS σ 51 (zU (σ 51) (σ 12 0) z)) 12 (zC (σ 12 0 + 1))))))) := by
  refine z_Ci_of (by decide +kernel) [some (.ref (ad 5)), some (.ref (σ 48 z).toNat), some (.ref (ad 1)), none] rfl rfl (Nat.le_of_ble_eq_true rfl) fun K hl hD ht hR hnm C ret => ?_
  subst hl; subst hD; subst ht
  have hnb := zNi_b σ (σ 50 (5 * z)) (σ 50 (5 * z + 1)) (σ 50 (5 * z + 2)) (σ 50 (5 * z + 3)) (σ 50 (5 * z + 4)) 20
  refine z_aload_n C (z_d dtX2_giveAway_0 0 rfl) rfl ?_
  refine z_aload_n C (z_d dtX2_giveAway_0 1 rfl) rfl ?_
  refine z_aload_n C (z_d dtX2_giveAway_0 2 rfl) rfl ?_
  refine z_callV C (z_d dtX2_giveAway_0 3 rfl) (k_X2_numberIn  (by first | assumption | omega) (by first | assumption | omega) (by first | assumption | omega) (by first | assumption | omega)) cal_X2_numberIn gw_31_0 rfl 5 2 rfl rfl rfl rfl hR ⟨rfl, rfl, rfl, rfl⟩ rfl (fun r_3 w_3 h_3 => ?_)
  obtain ⟨rfl, rfl⟩ := h_3
  refine z_istore_n3 C (z_d dtX2_giveAway_0 4 rfl) rfl ?_
  refine z_iload_n C (z_d dtX2_giveAway_0 5 rfl) rfl ?_
  refine z_aload_n C (z_d dtX2_giveAway_0 6 rfl) rfl ?_
  refine gf_X2_15 C (z_d dtX2_giveAway_0 7 rfl) ?_
  try simp (decide := true) only [zS_s, zS_o, zC]
  refine z_icmp_lt (tgt := 31) C (z_d dtX2_giveAway_0 8 rfl) (by decide) (by omega) (fun h_12 => ?_) (fun h_12 => ?_)
  · have hcase : zNi σ (σ 50 (5 * z)) (σ 50 (5 * z + 1)) (σ 50 (5 * z + 2)) (σ 50 (5 * z + 3)) (σ 50 (5 * z + 4)) 20 < σ 11 0 ∨ (∃ i, 0 ≤ i ∧ i < σ 12 0 ∧ 0 < zAp σ z (σ 51 i) ∧ zAp σ z (σ 51 i) < σ 11 0) := Or.inl (by omega)
    refine z_bipush C (z_d dtX2_giveAway_0 17 rfl) zb_m3 ?_
    exact ret _ _ _ _ (z_d dtX2_giveAway_0 18 rfl) (⟨σ, rfl, Or.inl ⟨hcase, rfl, rfl⟩⟩) rfl
  · refine z_aload_n C (z_d dtX2_giveAway_0 9 rfl) rfl ?_
    refine gf_X2_15 C (z_d dtX2_giveAway_0 10 rfl) ?_
    try simp (decide := true) only [zS_s, zS_o, zC]
    refine z_iconst C (z_d dtX2_giveAway_0 11 rfl) ?_
    refine z_icmp_lt (tgt := 31) C (z_d dtX2_giveAway_0 12 rfl) (by decide) (by omega) (fun h_20 => ?_) (fun h_20 => ?_)
    · exfalso; omega
    · refine z_aload_n C (z_d dtX2_giveAway_0 13 rfl) rfl ?_
      refine z_aload_n C (z_d dtX2_giveAway_0 14 rfl) rfl ?_
      refine z_callV C (z_d dtX2_giveAway_0 15 rfl) (k_X2_isTooNear  (by first | assumption | omega) (by first | assumption | omega) (by first | assumption | omega) (by first | assumption | omega) (by first | assumption | omega)) cal_X2_isTooNear gw_31_12 rfl 5 2 rfl rfl rfl rfl hR ⟨rfl, rfl, rfl, rfl⟩ rfl (fun r_25 w_25 h_25 => ?_)
      obtain ⟨rfl, h_25⟩ := h_25
      have hr25 : r_25 = 0 ∨ r_25 = 1 := by omega
      refine z_if_eq (tgt := 34) C (z_d dtX2_giveAway_0 16 rfl) (by decide) (by omega) (fun h_28 => ?_) (fun h_28 => ?_)
      · have hcase : ¬ (zNi σ (σ 50 (5 * z)) (σ 50 (5 * z + 1)) (σ 50 (5 * z + 2)) (σ 50 (5 * z + 3)) (σ 50 (5 * z + 4)) 20 < σ 11 0 ∨ (∃ i, 0 ≤ i ∧ i < σ 12 0 ∧ 0 < zAp σ z (σ 51 i) ∧ zAp σ z (σ 51 i) < σ 11 0)) := fun q => q.elim (fun a => by omega) (fun a => h_25.elim (fun b => by omega) (fun b => b.2 a))
        refine z_aload_n C (z_d dtX2_giveAway_0 19 rfl) rfl ?_
        refine z_aload_n C (z_d dtX2_giveAway_0 20 rfl) rfl ?_
        refine z_callV C (z_d dtX2_giveAway_0 21 rfl) (k_X2_wasGiven  (by first | assumption | omega) (by first | assumption | omega) (by first | assumption | omega) (by first | assumption | omega) (by first | assumption | omega)) cal_X2_wasGiven gw_32_6 rfl 5 2 rfl rfl rfl rfl hR ⟨rfl, rfl, rfl, rfl⟩ rfl (fun r_36 w_36 h_36 => ?_)
        obtain ⟨rfl, h_36⟩ := h_36
        have hr36 : r_36 = 0 ∨ r_36 = 1 := by omega
        refine z_if_ne (tgt := 74) C (z_d dtX2_giveAway_0 22 rfl) (by decide) (by omega) (fun h_39 => ?_) (fun h_39 => ?_)
        · have hwas : (∃ i, 0 ≤ i ∧ i < σ 12 0 ∧ zAp σ z (σ 51 i) = 0) := h_36.elim (fun q => q.2) (fun q => absurd q.1 h_39)
          refine z_iload_n C (z_d dtX2_giveAway_1 1 rfl) rfl ?_
          refine z_iload_n C (z_d dtX2_giveAway_1 2 rfl) rfl ?_
          refine z_aload_n C (z_d dtX2_giveAway_1 3 rfl) rfl ?_
          refine gf_X2_15 C (z_d dtX2_giveAway_1 4 rfl) ?_
          try simp (decide := true) only [zS_s, zS_o, zC]
          refine z_irem C (z_d dtX2_giveAway_1 5 rfl) (by omega) ?_
          refine z_isub C (z_d dtX2_giveAway_1 6 rfl) ?_
          exact ret _ _ _ _ (z_d dtX2_giveAway_1 7 rfl) (⟨_, rfl, Or.inr ⟨hcase, by
              first
                | exact Or.inr (Or.inl ⟨hwas, rfl, rfl⟩)
                | exact Or.inr (Or.inr ⟨hwas, by omega, rfl, rfl⟩)⟩⟩) rfl
        · have hwas : ¬ (∃ i, 0 ≤ i ∧ i < σ 12 0 ∧ zAp σ z (σ 51 i) = 0) := h_36.elim (fun q => by omega) (fun q => q.2)
          refine z_aload_n C (z_d dtX2_giveAway_0 23 rfl) rfl ?_
          refine gf_X2_9 C (z_d dtX2_giveAway_0 24 rfl) ?_
          try simp (decide := true) only [zS_s, zS_o, zC]
          refine z_bipush C (z_d dtX2_giveAway_0 25 rfl) zb_30 ?_
          refine z_icmp_lt (tgt := 54) C (z_d dtX2_giveAway_0 26 rfl) (by decide) (by omega) (fun h_48 => ?_) (fun h_48 => ?_)
          · refine z_aload_n C (z_d dtX2_giveAway_0 29 rfl) rfl ?_
            refine gf_X2_24 C (z_d dtX2_giveAway_0 30 rfl) ?_
            refine z_aload_n C (z_d dtX2_giveAway_0 31 rfl) rfl ?_
            refine gf_X2_9 C (z_d dtX2_giveAway_0 32 rfl) ?_
            try simp (decide := true) only [zS_s, zS_o, zC]
            refine z_aload_n C (z_d dtX2_giveAway_0 33 rfl) rfl ?_
            refine as_Xar C (z_d dtX2_giveAway_0 34 rfl) (by omega) (by omega) ?_
            refine z_aload_n C (z_d dtX2_giveAway_0 35 rfl) rfl ?_
            refine z_dup C (z_d dtX2_giveAway_0 36 rfl) rfl ?_
            refine gf_X2_9 C (z_d dtX2_giveAway_0 37 rfl) ?_
            try simp (decide := true) only [zS_s, zS_o, zC]
            refine z_iconst C (z_d dtX2_giveAway_0 38 rfl) ?_
            refine z_iadd C (z_d dtX2_giveAway_0 39 rfl) ?_
            refine pf_X2_9 C (z_d dtX2_giveAway_1 0 rfl) ?_
            refine z_iload_n C (z_d dtX2_giveAway_1 1 rfl) rfl ?_
            refine z_iload_n C (z_d dtX2_giveAway_1 2 rfl) rfl ?_
            refine z_aload_n C (z_d dtX2_giveAway_1 3 rfl) rfl ?_
            refine gf_X2_15 C (z_d dtX2_giveAway_1 4 rfl) ?_
            try simp (decide := true) only [zS_s, zS_o, zC]
            refine z_irem C (z_d dtX2_giveAway_1 5 rfl) (by omega) ?_
            refine z_isub C (z_d dtX2_giveAway_1 6 rfl) ?_
            exact ret _ _ _ _ (z_d dtX2_giveAway_1 7 rfl) (⟨_, rfl, Or.inr ⟨hcase, by
                first
                  | exact Or.inr (Or.inl ⟨hwas, rfl, rfl⟩)
                  | exact Or.inr (Or.inr ⟨hwas, by omega, rfl, rfl⟩)⟩⟩) rfl
          · refine z_bipush C (z_d dtX2_giveAway_0 27 rfl) zb_m4 ?_
            exact ret _ _ _ _ (z_d dtX2_giveAway_0 28 rfl) (⟨σ, rfl, Or.inr ⟨hcase, Or.inl ⟨hwas, by omega, rfl, rfl⟩⟩⟩) rfl
      · have hcase : zNi σ (σ 50 (5 * z)) (σ 50 (5 * z + 1)) (σ 50 (5 * z + 2)) (σ 50 (5 * z + 3)) (σ 50 (5 * z + 4)) 20 < σ 11 0 ∨ (∃ i, 0 ≤ i ∧ i < σ 12 0 ∧ 0 < zAp σ z (σ 51 i) ∧ zAp σ z (σ 51 i) < σ 11 0) := Or.inr (h_25.elim (fun q => q.2) (fun q => absurd q.1 h_28))
        refine z_bipush C (z_d dtX2_giveAway_0 17 rfl) zb_m3 ?_
        exact ret _ _ _ _ (z_d dtX2_giveAway_0 18 rfl) (⟨σ, rfl, Or.inl ⟨hcase, rfl, rfl⟩⟩) rfl

set_option maxRecDepth 100000 in
set_option maxHeartbeats 4000000 in
theorem k_X6_scoreAfter {l : Launch} {D : va_G} {t : Nat → ClassId} {ad : Nat → Nat} {σ : zMem} {row c d : Int} (hw : zHw σ) (ht : zTb σ) (hs : 0 ≤ σ 3 0 ∧ σ 3 0 ≤ 9) (hon : ∀ c, 0 ≤ c → c < zN σ → -1 ≤ σ 41 ((row + 1) * 72 + c) ∧ σ 41 ((row + 1) * 72 + c) ≤ 1000000) (hrow : 0 ≤ row ∧ row < 29) (hc : 0 ≤ c ∧ c < zN σ) (hd : -1 ≤ d ∧ d < 7) : z_Ci l D t yX6_scoreAfter cX6_scoreAfter 7 .int 2 41 0 0 [.ref (ad 4), .ref (ad 1), .int (zI row), .int (zI c), .int (zI d)] (wX ad t σ) (fun r w => w = wX ad t σ ∧ r = zSa σ (fun c => σ 41 ((row + 1) * 72 + c)) c d) := by
  refine z_Ci_of (by decide +kernel) [some (.ref (ad 4)), some (.ref (ad 1)), some (.int (zI row)), some (.int (zI c)), some (.int (zI d)), none, none] rfl rfl (Nat.le_of_ble_eq_true rfl) fun K hl hD ht hR hnm C ret => ?_
  subst hl; subst hD; subst ht
  have hN := zHw_N hw
  have hb := zTb_b hw ht hc d
  have hk := zLik_b hs d
  refine z_iload C (z_d dtX6_scoreAfter_0 0 rfl) rfl ?_
  refine z_iconst C (z_d dtX6_scoreAfter_0 1 rfl) ?_
  refine z_icmp_ne (tgt := 10) C (z_d dtX6_scoreAfter_0 2 rfl) (by decide) (by omega) (fun h_3 => ?_) (fun h_3 => ?_)
  · refine z_aload_n C (z_d dtX6_scoreAfter_0 5 rfl) rfl ?_
    refine z_iload_n C (z_d dtX6_scoreAfter_0 6 rfl) rfl ?_
    refine z_iload C (z_d dtX6_scoreAfter_0 7 rfl) rfl ?_
    refine z_callV C (z_d dtX6_scoreAfter_0 8 rfl) (k_X3_targetOf  (by first | assumption | omega) (by first | assumption | omega)) cal_X3_targetOf gw_26_12 rfl 1 3 rfl rfl rfl rfl hR ⟨rfl, rfl, rfl, rfl⟩ rfl (fun r_14 w_14 h_14 => ?_)
    obtain ⟨rfl, rfl⟩ := h_14
    refine z_istore5 C (z_d dtX6_scoreAfter_0 9 rfl) rfl ?_
    refine z_aload_n C (z_d dtX6_scoreAfter_0 10 rfl) rfl ?_
    refine z_iload C (z_d dtX6_scoreAfter_0 11 rfl) rfl ?_
    refine z_callV C (z_d dtX6_scoreAfter_0 12 rfl) (k_X3_hasCell  (by first | assumption | omega) (by first | assumption | omega)) cal_X3_hasCell gw_26_13 rfl 1 3 rfl rfl rfl rfl hR ⟨rfl, rfl, rfl, rfl⟩ rfl (fun r_22 w_22 h_22 => ?_)
    obtain ⟨rfl, h_22⟩ := h_22
    refine z_if_ne (tgt := 30) C (z_d dtX6_scoreAfter_0 13 rfl) (by decide) (by omega) (fun h_25 => ?_) (fun h_25 => ?_)
    · have hv := hon (σ 33 (c * 7 + d))
      refine z_aload_n C (z_d dtX6_scoreAfter_0 16 rfl) rfl ?_
      refine gf_X6_15 C (z_d dtX6_scoreAfter_0 17 rfl) ?_
      refine z_iload_n C (z_d dtX6_scoreAfter_0 18 rfl) rfl ?_
      refine z_iconst C (z_d dtX6_scoreAfter_0 19 rfl) ?_
      refine z_iadd C (z_d dtX6_scoreAfter_0 20 rfl) ?_
      refine z_bipush C (z_d dtX6_scoreAfter_0 21 rfl) zb_72 ?_
      refine z_imul C (z_d dtX6_scoreAfter_0 22 rfl) ?_
      refine z_iload C (z_d dtX6_scoreAfter_0 23 rfl) rfl ?_
      refine z_iadd C (z_d dtX6_scoreAfter_0 24 rfl) ?_
      refine al_X19 C (z_d dtX6_scoreAfter_0 25 rfl) (by omega) ?_
      refine z_istore6 C (z_d dtX6_scoreAfter_0 26 rfl) rfl ?_
      refine z_iload C (z_d dtX6_scoreAfter_0 27 rfl) rfl ?_
      refine z_iconst C (z_d dtX6_scoreAfter_0 28 rfl) ?_
      refine z_icmp_ne (tgt := 56) C (z_d dtX6_scoreAfter_0 29 rfl) (by decide) (by omega) (fun h_49 => ?_) (fun h_49 => ?_)
      · refine z_iload C (z_d dtX6_scoreAfter_0 32 rfl) rfl ?_
        refine z_aload_n C (z_d dtX6_scoreAfter_0 33 rfl) rfl ?_
        refine z_iload C (z_d dtX6_scoreAfter_0 34 rfl) rfl ?_
        refine z_callV C (z_d dtX6_scoreAfter_0 35 rfl) (k_X3_likelyTo  (by first | assumption | omega)) cal_X3_likelyTo gw_26_14 rfl 1 3 rfl rfl rfl rfl hR ⟨rfl, rfl, rfl, rfl⟩ rfl (fun r_61 w_61 h_61 => ?_)
        obtain ⟨rfl, rfl⟩ := h_61
        refine z_iadd C (z_d dtX6_scoreAfter_0 36 rfl) ?_
        exact ret _ _ _ _ (z_d dtX6_scoreAfter_0 37 rfl) (⟨rfl, by
            first
              | (exfalso; omega)
              | (unfold zSa
                 rw [if_neg (by omega), if_pos (by omega)]
                 first | rw [if_pos (by omega)] | rw [if_neg (by omega)])⟩) rfl
      · refine z_iconst C (z_d dtX6_scoreAfter_0 30 rfl) ?_
        refine z_goto (tgt := 65) C (z_d dtX6_scoreAfter_0 31 rfl) (by decide) ?_
        exact ret _ _ _ _ (z_d dtX6_scoreAfter_0 37 rfl) (⟨rfl, by
            first
              | (exfalso; omega)
              | (unfold zSa
                 rw [if_neg (by omega), if_pos (by omega)]
                 first | rw [if_pos (by omega)] | rw [if_neg (by omega)])⟩) rfl
    · refine z_iconst C (z_d dtX6_scoreAfter_0 14 rfl) ?_
      exact ret _ _ _ _ (z_d dtX6_scoreAfter_0 15 rfl) (⟨rfl, by
          unfold zSa
          first | rw [if_pos (by omega)] | rw [if_neg (by omega), if_neg (by omega)]⟩) rfl
  · refine z_iconst C (z_d dtX6_scoreAfter_0 3 rfl) ?_
    refine z_goto (tgt := 17) C (z_d dtX6_scoreAfter_0 4 rfl) (by decide) ?_
    refine z_istore5 C (z_d dtX6_scoreAfter_0 9 rfl) rfl ?_
    refine z_aload_n C (z_d dtX6_scoreAfter_0 10 rfl) rfl ?_
    refine z_iload C (z_d dtX6_scoreAfter_0 11 rfl) rfl ?_
    refine z_callV C (z_d dtX6_scoreAfter_0 12 rfl) (k_X3_hasCell  (by first | assumption | omega) (by first | assumption | omega)) cal_X3_hasCell gw_26_13 rfl 1 3 rfl rfl rfl rfl hR ⟨rfl, rfl, rfl, rfl⟩ rfl (fun r_22 w_22 h_22 => ?_)
    obtain ⟨rfl, h_22⟩ := h_22
    refine z_if_ne (tgt := 30) C (z_d dtX6_scoreAfter_0 13 rfl) (by decide) (by omega) (fun h_25 => ?_) (fun h_25 => ?_)
    · have hv := hon (σ 33 (c * 7 + d))
      refine z_aload_n C (z_d dtX6_scoreAfter_0 16 rfl) rfl ?_
      refine gf_X6_15 C (z_d dtX6_scoreAfter_0 17 rfl) ?_
      refine z_iload_n C (z_d dtX6_scoreAfter_0 18 rfl) rfl ?_
      refine z_iconst C (z_d dtX6_scoreAfter_0 19 rfl) ?_
      refine z_iadd C (z_d dtX6_scoreAfter_0 20 rfl) ?_
      refine z_bipush C (z_d dtX6_scoreAfter_0 21 rfl) zb_72 ?_
      refine z_imul C (z_d dtX6_scoreAfter_0 22 rfl) ?_
      refine z_iload C (z_d dtX6_scoreAfter_0 23 rfl) rfl ?_
      refine z_iadd C (z_d dtX6_scoreAfter_0 24 rfl) ?_
      refine al_X19 C (z_d dtX6_scoreAfter_0 25 rfl) (by omega) ?_
      refine z_istore6 C (z_d dtX6_scoreAfter_0 26 rfl) rfl ?_
      refine z_iload C (z_d dtX6_scoreAfter_0 27 rfl) rfl ?_
      refine z_iconst C (z_d dtX6_scoreAfter_0 28 rfl) ?_
      refine z_icmp_ne (tgt := 56) C (z_d dtX6_scoreAfter_0 29 rfl) (by decide) (by omega) (fun h_49 => ?_) (fun h_49 => ?_)
      · refine z_iload C (z_d dtX6_scoreAfter_0 32 rfl) rfl ?_
        refine z_aload_n C (z_d dtX6_scoreAfter_0 33 rfl) rfl ?_
        refine z_iload C (z_d dtX6_scoreAfter_0 34 rfl) rfl ?_
        refine z_callV C (z_d dtX6_scoreAfter_0 35 rfl) (k_X3_likelyTo  (by first | assumption | omega)) cal_X3_likelyTo gw_26_14 rfl 1 3 rfl rfl rfl rfl hR ⟨rfl, rfl, rfl, rfl⟩ rfl (fun r_61 w_61 h_61 => ?_)
        obtain ⟨rfl, rfl⟩ := h_61
        refine z_iadd C (z_d dtX6_scoreAfter_0 36 rfl) ?_
        exact ret _ _ _ _ (z_d dtX6_scoreAfter_0 37 rfl) (⟨rfl, by
            first
              | (exfalso; omega)
              | (unfold zSa
                 rw [if_neg (by omega), if_pos (by omega)]
                 first | rw [if_pos (by omega)] | rw [if_neg (by omega)])⟩) rfl
      · refine z_iconst C (z_d dtX6_scoreAfter_0 30 rfl) ?_
        refine z_goto (tgt := 65) C (z_d dtX6_scoreAfter_0 31 rfl) (by decide) ?_
        exact ret _ _ _ _ (z_d dtX6_scoreAfter_0 37 rfl) (⟨rfl, by
            first
              | (exfalso; omega)
              | (unfold zSa
                 rw [if_neg (by omega), if_pos (by omega)]
                 first | rw [if_pos (by omega)] | rw [if_neg (by omega)])⟩) rfl
    · refine z_iconst C (z_d dtX6_scoreAfter_0 14 rfl) ?_
      exact ret _ _ _ _ (z_d dtX6_scoreAfter_0 15 rfl) (⟨rfl, by
          unfold zSa
          first | rw [if_pos (by omega)] | rw [if_neg (by omega), if_neg (by omega)]⟩) rfl

set_option maxRecDepth 100000 in
set_option maxHeartbeats 4000000 in
theorem k_X6_bestDirection {l : Launch} {D : va_G} {t : Nat → ClassId} {ad : Nat → Nat} {σ : zMem} {row c : Int} (hw : zHw σ) (ht : zTb σ) (hs : 0 ≤ σ 3 0 ∧ σ 3 0 ≤ 9) (hon : ∀ c, 0 ≤ c → c < zN σ → -1 ≤ σ 41 ((row + 1) * 72 + c) ∧ σ 41 ((row + 1) * 72 + c) ≤ 1000000) (hrow : 0 ≤ row ∧ row < 29) (hc : 0 ≤ c ∧ c < zN σ) : z_Ci l D t yX6_bestDirection cX6_bestDirection 8 .int 3 67 0 0 [.ref (ad 4), .ref (ad 1), .int (zI row), .int (zI c)] (wX ad t σ) (fun r w => w = wX ad t σ ∧ r = (zBd σ (fun c => σ 41 ((row + 1) * 72 + c)) c 7).1) := by
  refine z_Ci_of (by decide +kernel) [some (.ref (ad 4)), some (.ref (ad 1)), some (.int (zI row)), some (.int (zI c)), none, none, none, none] rfl rfl (Nat.le_of_ble_eq_true rfl) fun K hl hD ht hR hnm C ret => ?_
  subst hl; subst hD; subst ht
  refine z_iconst C (z_d dtX6_bestDirection_0 0 rfl) ?_
  refine z_istore4 C (z_d dtX6_bestDirection_0 1 rfl) rfl ?_
  refine z_iconst C (z_d dtX6_bestDirection_0 2 rfl) ?_
  refine z_istore5 C (z_d dtX6_bestDirection_0 3 rfl) rfl ?_
  refine z_iconst C (z_d dtX6_bestDirection_0 4 rfl) ?_
  refine z_istore6 C (z_d dtX6_bestDirection_0 5 rfl) rfl ?_
  have lp_9 : ∀ (N_9 : Nat) (i : Nat) (d b m : Int), (d = i ∧ i ≤ 7) → ((b, m) = zBd σ (fun c => σ 41 ((row + 1) * 72 + c)) c i) → 7 - i < N_9 → Gd K 0 0 9 [some (.ref (ad 4)), some (.ref (ad 1)), some (.int (zI row)), some (.int (zI c)), some (.int (zI b)), some (.int (zI m)), some (.int (zI d)), none] [] (wX ad (z_t K) σ) := by
    intro N_9
    induction N_9 with
    | zero => intro i d b m hi hb hm_9; exact absurd hm_9 (Nat.not_lt_zero _)
    | succ N_9 ih_9 =>
      intro i d b m hi hb hm_9
      obtain ⟨rfl, hi⟩ := hi
      have hbb := zBd_b (V := (fun c => σ 41 ((row + 1) * 72 + c))) (b := 1000000) hs (by omega) hon c i
      rw [← hb] at hbb
      dsimp only at hbb
      have hsa := zSa_b (V := (fun c => σ 41 ((row + 1) * 72 + c))) (b := 1000000) hs (by omega) hon c i
      refine z_iload C (z_d dtX6_bestDirection_0 6 rfl) rfl ?_
      refine z_bipush C (z_d dtX6_bestDirection_0 7 rfl) zb_7 ?_
      refine z_icmp_ge (tgt := 48) C (z_d dtX6_bestDirection_0 8 rfl) (by decide) (by omega) (fun h_13 => ?_) (fun h_13 => ?_)
      · refine z_iload C (z_d dtX6_bestDirection_0 25 rfl) rfl ?_
        exact ret _ _ _ _ (z_d dtX6_bestDirection_0 26 rfl) (⟨rfl, by rw [show (7 : Nat) = i by omega, ← hb]⟩) rfl
      · refine z_aload_n C (z_d dtX6_bestDirection_0 9 rfl) rfl ?_
        refine z_aload_n C (z_d dtX6_bestDirection_0 10 rfl) rfl ?_
        refine z_iload_n C (z_d dtX6_bestDirection_0 11 rfl) rfl ?_
        refine z_iload_n C (z_d dtX6_bestDirection_0 12 rfl) rfl ?_
        refine z_iload C (z_d dtX6_bestDirection_0 13 rfl) rfl ?_
        refine z_callV C (z_d dtX6_bestDirection_0 14 rfl) (k_X6_scoreAfter  (by first | assumption | omega) (by first | assumption | omega) (by first | assumption | omega) (by first | assumption | omega) (by first | assumption | omega) (by first | assumption | omega) (by first | assumption | omega)) cal_X6_scoreAfter gw_26_8 rfl 4 6 rfl rfl rfl rfl hR ⟨rfl, rfl, rfl, rfl⟩ rfl (fun r_22 w_22 h_22 => ?_)
        obtain ⟨rfl, rfl⟩ := h_22
        refine z_istore7 C (z_d dtX6_bestDirection_0 15 rfl) rfl ?_
        refine z_iload C (z_d dtX6_bestDirection_0 16 rfl) rfl ?_
        refine z_iload C (z_d dtX6_bestDirection_0 17 rfl) rfl ?_
        refine z_icmp_le (tgt := 42) C (z_d dtX6_bestDirection_0 18 rfl) (by decide) (by omega) (fun h_31 => ?_) (fun h_31 => ?_)
        · refine z_iinc6 C (z_d dtX6_bestDirection_0 23 rfl) rfl ?_
          refine z_goto (tgt := 9) C (z_d dtX6_bestDirection_0 24 rfl) (by decide) ?_
          refine z_drop7 ?_
          exact ih_9 (i + 1) _ _ _ (by omega) (by
                  rw [zBd, ← hb]
                  dsimp only
                  first | rw [if_pos (show _ > _ by omega)] | rw [if_neg (show ¬ _ > _ by omega)]) (by omega)
        · refine z_iload C (z_d dtX6_bestDirection_0 19 rfl) rfl ?_
          refine z_istore5 C (z_d dtX6_bestDirection_0 20 rfl) rfl ?_
          refine z_iload C (z_d dtX6_bestDirection_0 21 rfl) rfl ?_
          refine z_istore4 C (z_d dtX6_bestDirection_0 22 rfl) rfl ?_
          refine z_iinc6 C (z_d dtX6_bestDirection_0 23 rfl) rfl ?_
          refine z_goto (tgt := 9) C (z_d dtX6_bestDirection_0 24 rfl) (by decide) ?_
          refine z_drop7 ?_
          exact ih_9 (i + 1) _ _ _ (by omega) (by
                  rw [zBd, ← hb]
                  dsimp only
                  first | rw [if_pos (show _ > _ by omega)] | rw [if_neg (show ¬ _ > _ by omega)]) (by omega)
  exact lp_9 _ 0 _ _ _ (by omega) rfl (Nat.lt_succ_self _)

set_option maxRecDepth 100000 in
set_option maxHeartbeats 4000000 in
theorem k_X6_bestFirst {l : Launch} {D : va_G} {t : Nat → ClassId} {ad : Nat → Nat} {σ : zMem} {n : Nat} (hn2 : 1 ≤ n ∧ n ≤ 72) (hv : ∀ c : Int, 0 ≤ c → c < n → -1 ≤ σ 41 c ∧ σ 41 c ≤ 1000000) : z_Ci l D t yX6_bestFirst cX6_bestFirst 4 .int 0 0 0 0 [.ref (ad 4), .int (zI n)] (wX ad t σ) (fun r w => w = wX ad t σ ∧ r = zMx (σ 41) n) := by
  refine z_Ci_of (by decide +kernel) [some (.ref (ad 4)), some (.int (zI n)), none, none] rfl rfl (Nat.le_of_ble_eq_true rfl) fun K hl hD ht hR hnm C ret => ?_
  subst hl; subst hD; subst ht
  refine z_iconst C (z_d dtX6_bestFirst_0 0 rfl) ?_
  refine z_istore_n2 C (z_d dtX6_bestFirst_0 1 rfl) rfl ?_
  refine z_iconst C (z_d dtX6_bestFirst_0 2 rfl) ?_
  refine z_istore_n3 C (z_d dtX6_bestFirst_0 3 rfl) rfl ?_
  have lp_4 : ∀ (N_4 : Nat) (c x : Int), (1 ≤ c ∧ c ≤ n) → (x = zMx (σ 41) c.toNat) → (n - c).toNat < N_4 → Gd K 0 0 4 [some (.ref (ad 4)), some (.int (zI n)), some (.int (zI x)), some (.int (zI c))] [] (wX ad (z_t K) σ) := by
    intro N_4
    induction N_4 with
    | zero => intro c x hc hx hm_4; exact absurd hm_4 (Nat.not_lt_zero _)
    | succ N_4 ih_4 =>
      intro c x hc hx hm_4
      have hxb := zMx_b (σ 41) c.toNat
      have hx0 := hv x (by omega) (by omega)
      have hc0 := fun q : c < n => hv c (by omega) q
      refine z_iload_n C (z_d dtX6_bestFirst_0 4 rfl) rfl ?_
      refine z_iload_n C (z_d dtX6_bestFirst_0 5 rfl) rfl ?_
      refine z_icmp_ge (tgt := 32) C (z_d dtX6_bestFirst_0 6 rfl) (by decide) (by omega) (fun h_6 => ?_) (fun h_6 => ?_)
      · refine z_iload_n C (z_d dtX6_bestFirst_0 20 rfl) rfl ?_
        exact ret _ _ _ _ (z_d dtX6_bestFirst_0 21 rfl) (⟨rfl, by rw [hx, show c = n by omega, Int.toNat_natCast]⟩) rfl
      · refine z_aload_n C (z_d dtX6_bestFirst_0 7 rfl) rfl ?_
        refine gf_X6_15 C (z_d dtX6_bestFirst_0 8 rfl) ?_
        refine z_iload_n C (z_d dtX6_bestFirst_0 9 rfl) rfl ?_
        refine al_X19 C (z_d dtX6_bestFirst_0 10 rfl) (by omega) ?_
        refine z_aload_n C (z_d dtX6_bestFirst_0 11 rfl) rfl ?_
        refine gf_X6_15 C (z_d dtX6_bestFirst_0 12 rfl) ?_
        refine z_iload_n C (z_d dtX6_bestFirst_0 13 rfl) rfl ?_
        refine al_X19 C (z_d dtX6_bestFirst_0 14 rfl) (by omega) ?_
        refine z_icmp_le (tgt := 26) C (z_d dtX6_bestFirst_0 15 rfl) (by decide) (by omega) (fun h_21 => ?_) (fun h_21 => ?_)
        · refine z_iinc3 C (z_d dtX6_bestFirst_0 18 rfl) rfl ?_
          refine z_goto (tgt := 4) C (z_d dtX6_bestFirst_0 19 rfl) (by decide) ?_
          exact ih_4 _ _ (by omega) (by
                  rw [show (c + 1).toNat = c.toNat + 1 by omega, zMx, Int.toNat_of_nonneg (by omega), ← hx]
                  first | rw [if_pos (by omega)] | rw [if_neg (by omega)]) (by omega)
        · refine z_iload_n C (z_d dtX6_bestFirst_0 16 rfl) rfl ?_
          refine z_istore_n2 C (z_d dtX6_bestFirst_0 17 rfl) rfl ?_
          refine z_iinc3 C (z_d dtX6_bestFirst_0 18 rfl) rfl ?_
          refine z_goto (tgt := 4) C (z_d dtX6_bestFirst_0 19 rfl) (by decide) ?_
          exact ih_4 _ _ (by omega) (by
                  rw [show (c + 1).toNat = c.toNat + 1 by omega, zMx, Int.toNat_of_nonneg (by omega), ← hx]
                  first | rw [if_pos (by omega)] | rw [if_neg (by omega)]) (by omega)
  exact lp_4 _ _ _ (by omega) (zMx_1 _).symm (Nat.lt_succ_self _)
end
section
/-! THE BEST WAY -/
theorem zSa_E {μ σ : zMem} {l : List Nat} (h : zE μ σ l) (h0 : 0 ∉ l := by decide) (h1 : 1 ∉ l := by decide) (h2 : 2 ∉ l := by decide) (h3 : 3 ∉ l := by decide) (h33 : 33 ∉ l := by decide) (V : Int → Int) (c d : Int) : zSa μ V c d = zSa σ V c d := by
  unfold zSa
  rw [h 33 h33, zN_E h h0 h1 h2, zLik_E h h3]
theorem zBd_E {μ σ : zMem} {l : List Nat} (h : zE μ σ l) (h0 : 0 ∉ l := by decide) (h1 : 1 ∉ l := by decide) (h2 : 2 ∉ l := by decide) (h3 : 3 ∉ l := by decide) (h33 : 33 ∉ l := by decide) (V : Int → Int) (c : Int) : ∀ n : Nat, zBd μ V c n = zBd σ V c n
  | 0 => rfl
  | n + 1 => by
    rw [zBd, zBd, zBd_E h h0 h1 h2 h3 h33 V c n, zSa_E h h0 h1 h2 h3 h33]
theorem zRw_E {μ σ : zMem} {l : List Nat} (h : zE μ σ l) (h7 : 7 ∉ l := by decide) (h8 : 8 ∉ l := by decide) (h20 : 20 ∉ l := by decide) (s row c o wo : Int) : ∀ n : Nat, zRw μ s row c o wo n = zRw σ s row c o wo n
  | 0 => rfl
  | n + 1 => by
    rw [zRw, zRw, zRw_E h h7 h8 h20 s row c o wo n, zHv_E h h20, h 7 h7, zWt_E h h8]
theorem zV_E {μ σ : zMem} {l : List Nat} (h : zE μ σ l) (h0 : 0 ∉ l := by decide) (h1 : 1 ∉ l := by decide) (h2 : 2 ∉ l := by decide) (h3 : 3 ∉ l := by decide) (h33 : 33 ∉ l := by decide) (h7 : 7 ∉ l := by decide) (h8 : 8 ∉ l := by decide) (h20 : 20 ∉ l := by decide) (z wo R : Int) : ∀ k : Nat, zV μ z wo R k = zV σ z wo R k
  | 0 => by
    funext c
    simp only [zV]
    rw [zRw_E h h7 h8 h20]
  | k + 1 => by
    funext c
    simp only [zV]
    rw [zV_E h h0 h1 h2 h3 h33 h7 h8 h20 z wo R k, zBd_E h h0 h1 h2 h3 h33, zRw_E h h7 h8 h20]
theorem zWy_E {μ σ : zMem} {l : List Nat} (h : zE μ σ l) (h0 : 0 ∉ l := by decide) (h1 : 1 ∉ l := by decide) (h2 : 2 ∉ l := by decide) (h3 : 3 ∉ l := by decide) (h33 : 33 ∉ l := by decide) (h7 : 7 ∉ l := by decide) (h8 : 8 ∉ l := by decide) (h20 : 20 ∉ l := by decide) (z wo R : Int) : ∀ k : Nat, zWy μ z wo R k = zWy σ z wo R k
  | 0 => by
    rw [zWy, zWy, zV_E h h0 h1 h2 h3 h33 h7 h8 h20, zN_E h h0 h1 h2]
  | k + 1 => by
    rw [zWy, zWy, zWy_E h h0 h1 h2 h3 h33 h7 h8 h20 z wo R k, zV_E h h0 h1 h2 h3 h33 h7 h8 h20, zBd_E h h0 h1 h2 h3 h33, h 33 h33]
theorem zBd_t {σ : zMem} {V : Int → Int} (c : Int) : ∀ n : Nat, -1 ≤ (zBd σ V c n).2 ∧ ((zBd σ V c n).1 = -1 ∨ (0 ≤ σ 33 (c * 7 + (zBd σ V c n).1) ∧ σ 33 (c * 7 + (zBd σ V c n).1) < zN σ))
  | 0 => ⟨show (-1 : Int) ≤ -1 from Int.le_refl _, Or.inl rfl⟩
  | n + 1 => by
    have a := zBd_t (σ := σ) (V := V) c n
    rw [zBd]
    split
    · rename_i h
      dsimp only
      have b := a.1
      refine ⟨by omega, ?_⟩
      by_cases q : 0 ≤ σ 33 (c * 7 + n) ∧ σ 33 (c * 7 + n) < zN σ
      · exact Or.inr q
      · exfalso
        unfold zSa at h
        split at h
        · omega
        · first
            | omega
            | (rw [if_neg q] at h; omega)
    · exact a
theorem zWy_b {σ : zMem} (hw : zHw σ) (ht : zTb σ) (hs : 0 ≤ σ 3 0 ∧ σ 3 0 ≤ 9) (hmp : zMp σ) {z wo R : Int} : ∀ k : Nat, 0 ≤ zWy σ z wo R k ∧ zWy σ z wo R k < zN σ
  | 0 => by
    have hN := zHw_N hw
    have a := zMx_b (zV σ z wo R (R - 1).toNat) (zN σ).toNat
    rw [zWy]
    have := a.2 (by omega)
    omega
  | k + 1 => by
    have a := zWy_b hw ht hs hmp (z := z) (wo := wo) (R := R) k
    have b := (zBd_t (σ := σ) (V := zV σ z wo R (R - 1 - ((k : Int) + 1)).toNat) (zWy σ z wo R k) 7).2
    rw [zWy]
    split
    · exact a
    · rename_i h
      exact b.resolve_left h
theorem zV_s0 {σ : zMem} {z wo R c : Int} {i : Nat} (hi : i = 0) : zRw σ z (R - 1 - (i : Int)) c 0 wo 8 + 0 = zV σ z wo R i c := by
  subst hi
  simp only [zV]
  rw [show R - 1 - ((0 : Nat) : Int) = R - 1 by omega]
  omega
theorem zV_s1 {σ : zMem} {z wo R c : Int} {i : Nat} (hi : 1 ≤ i) : ((zBd σ (zV σ z wo R (i - 1)) c 7).2 = -1 → -1 = zV σ z wo R i c) ∧ (¬ (zBd σ (zV σ z wo R (i - 1)) c 7).2 = -1 → zRw σ z (R - 1 - (i : Int)) c 0 wo 8 + (zBd σ (zV σ z wo R (i - 1)) c 7).2 = zV σ z wo R i c) := by
  obtain ⟨k, rfl⟩ : ∃ k, i = k + 1 := ⟨i - 1, by omega⟩
  simp only [zV, Nat.add_sub_cancel]
  rw [show R - 1 - ((k + 1 : Nat) : Int) = R - 1 - ((k : Int) + 1) by omega]
  constructor
  · intro h; rw [if_pos h]
  · intro h; rw [if_neg h]

set_option maxRecDepth 100000 in
set_option maxHeartbeats 4000000 in
theorem k_X6_trace {l : Launch} {D : va_G} {t : Nat → ClassId} {ad : Nat → Nat} {σ : zMem} {z wo R f : Int} (hw : zHw σ) (ht : zTb σ) (hs : 0 ≤ σ 3 0 ∧ σ 3 0 ≤ 9) (hmp : zMp σ) (hR2 : 1 ≤ R ∧ R ≤ 30) (hf : f = zWy σ z wo R 0) (hV : ∀ row c : Int, 0 ≤ row → row < R → 0 ≤ c → c < zN σ → σ 41 (row * 72 + c) = zV σ z wo R (R - 1 - row).toNat c) : z_Cv l D t yX6_trace cX6_trace 6 4 94 0 0 [.ref (ad 4), .ref (ad 1), .int (zI f), .int (zI R)] (wX ad t σ) (fun w => ∃ σ', w = wX ad t σ' ∧ zE σ' σ [39] ∧ ∀ k : Nat, k < R → σ' 39 k = zWy σ z wo R k) := by
  refine z_Cv_of (by decide +kernel) [some (.ref (ad 4)), some (.ref (ad 1)), some (.int (zI f)), some (.int (zI R)), none, none] rfl rfl (Nat.le_of_ble_eq_true rfl) fun K hl hD ht hR hnm C ret => ?_
  subst hl; subst hD; subst ht
  refine z_aload_n C (z_d dtX6_trace_0 0 rfl) rfl ?_
  refine gf_X6_9 C (z_d dtX6_trace_0 1 rfl) ?_
  refine z_iconst C (z_d dtX6_trace_0 2 rfl) ?_
  refine z_iload_n C (z_d dtX6_trace_0 3 rfl) rfl ?_
  refine as_X18 C (z_d dtX6_trace_0 4 rfl) (by omega) ?_
  refine z_iconst C (z_d dtX6_trace_0 5 rfl) ?_
  refine z_istore4 C (z_d dtX6_trace_0 6 rfl) rfl ?_
  have lp_10 : ∀ (N_10 : Nat) (j : Nat) (k : Int) (μ : zMem), (k = j + 1 ∧ j + 1 ≤ R) → (zE μ σ [39]) → (∀ q : Nat, q < j + 1 → μ 39 q = zWy σ z wo R q) → (R - j).toNat < N_10 → Gd K 0 0 10 [some (.ref (ad 4)), some (.ref (ad 1)), some (.int (zI f)), some (.int (zI R)), some (.int (zI k)), none] [] (wX ad (z_t K) μ) := by
    intro N_10
    induction N_10 with
    | zero => intro j k μ hj hE hm hm_10; exact absurd hm_10 (Nat.not_lt_zero _)
    | succ N_10 ih_10 =>
      intro j k μ hj hE hm hm_10
      obtain ⟨rfl, hj⟩ := hj
      have hN := zHw_N hw
      have eN := zN_E hE (by decide) (by decide) (by decide)
      have hyb := zWy_b hw ht hs hmp (z := z) (wo := wo) (R := R) j
      have ey : μ 39 ((j : Int) + 1 - 1) = zWy σ z wo R j := by
        rw [show (j : Int) + 1 - 1 = j by omega]
        exact hm j (by omega)
      have e41 := hE 41 (by decide)
      have e33 := hE 33 (by decide)
      have e3 := hE 3 (by decide)
      have hon : ∀ c, 0 ≤ c → c < zN μ → -1 ≤ μ 41 (((j : Int) + 1 - 1 + 1) * 72 + c) ∧ μ 41 (((j : Int) + 1 - 1 + 1) * 72 + c) ≤ 1000000 ∨ ¬ ((j : Int) + 1 < R) := by
        intro c h0 h1
        by_cases q : (j : Int) + 1 < R
        · left
          rw [e41, show (j : Int) + 1 - 1 + 1 = j + 1 by omega, hV _ _ (by omega) q h0 (by omega)]
          have := zV_b hmp hs z wo R (R - 1 - (j + 1)).toNat c
          omega
        · exact Or.inr q
      have hbd : ((j : Int) + 1 < R) → zBd μ (fun c => μ 41 (((j : Int) + 1 - 1 + 1) * 72 + c)) (zWy σ z wo R j) 7 = zBd σ (zV σ z wo R (R - 1 - ((j : Int) + 1)).toNat) (zWy σ z wo R j) 7 := fun q => by
        rw [zBd_E hE (by decide) (by decide) (by decide) (by decide) (by decide)]
        refine zBd_cg (fun c h0 h1 => ?_) _ 7
        try dsimp only
        rw [e41, show (j : Int) + 1 - 1 + 1 = j + 1 by omega]
        exact hV _ _ (by omega) q h0 h1
      have hbb := zBd_b (V := zV σ z wo R (R - 1 - ((j : Int) + 1)).toNat) (b := 1000000) hs (by omega) (fun c _ _ => by
        have := zV_b hmp hs z wo R (R - 1 - ((j : Int) + 1)).toNat c
        omega) (zWy σ z wo R j) 7
      refine z_iload C (z_d dtX6_trace_0 7 rfl) rfl ?_
      refine z_iload_n C (z_d dtX6_trace_0 8 rfl) rfl ?_
      refine z_icmp_ge (tgt := 82) C (z_d dtX6_trace_0 9 rfl) (by decide) (by omega) (fun h_13 => ?_) (fun h_13 => ?_)
      · exact ret _ _ _ (z_d dtX6_trace_1 8 rfl) (⟨_, rfl, hE, fun q h => hm q (by omega)⟩)
      · refine z_aload_n C (z_d dtX6_trace_0 10 rfl) rfl ?_
        refine z_aload_n C (z_d dtX6_trace_0 11 rfl) rfl ?_
        refine z_iload C (z_d dtX6_trace_0 12 rfl) rfl ?_
        refine z_iconst C (z_d dtX6_trace_0 13 rfl) ?_
        refine z_isub C (z_d dtX6_trace_0 14 rfl) ?_
        refine z_aload_n C (z_d dtX6_trace_0 15 rfl) rfl ?_
        refine gf_X6_9 C (z_d dtX6_trace_0 16 rfl) ?_
        refine z_iload C (z_d dtX6_trace_0 17 rfl) rfl ?_
        refine z_iconst C (z_d dtX6_trace_0 18 rfl) ?_
        refine z_isub C (z_d dtX6_trace_0 19 rfl) ?_
        refine al_X18 C (z_d dtX6_trace_0 20 rfl) (by omega) ?_
        try simp (decide := true) only [zS_s, zS_o, zC, ey]
        refine z_callV C (z_d dtX6_trace_0 21 rfl) (k_X6_bestDirection  (zHw_E hE (by decide) (by decide) (by decide) hw) (zTb_E hE (by decide) (by decide) (by decide) (by decide) (by decide) (by decide) (by decide) (by decide) ht) (by rw [e3]; exact hs) (fun c h0 h1 => (hon c h0 h1).resolve_right (by omega)) (by first | assumption | omega) (by first | assumption | omega)) cal_X6_bestDirection gw_26_4 rfl 4 6 rfl rfl rfl rfl hR ⟨rfl, rfl, rfl, rfl⟩ rfl (fun r_31 w_31 h_31 => ?_)
        obtain ⟨rfl, rfl⟩ := h_31
        rw [hbd (by omega)]
        refine z_istore5 C (z_d dtX6_trace_0 22 rfl) rfl ?_
        refine z_aload_n C (z_d dtX6_trace_0 23 rfl) rfl ?_
        refine gf_X6_9 C (z_d dtX6_trace_0 24 rfl) ?_
        refine z_iload C (z_d dtX6_trace_0 25 rfl) rfl ?_
        refine z_iload C (z_d dtX6_trace_0 26 rfl) rfl ?_
        refine z_iconst C (z_d dtX6_trace_0 27 rfl) ?_
        refine z_icmp_ne (tgt := 60) C (z_d dtX6_trace_0 28 rfl) (by decide) (by omega) (fun h_45 => ?_) (fun h_45 => ?_)
        · refine z_aload_n C (z_d dtX6_trace_0 36 rfl) rfl ?_
          refine z_aload_n C (z_d dtX6_trace_0 37 rfl) rfl ?_
          refine gf_X6_9 C (z_d dtX6_trace_0 38 rfl) ?_
          refine z_iload C (z_d dtX6_trace_0 39 rfl) rfl ?_
          refine z_iconst C (z_d dtX6_trace_1 0 rfl) ?_
          refine z_isub C (z_d dtX6_trace_1 1 rfl) ?_
          refine al_X18 C (z_d dtX6_trace_1 2 rfl) (by omega) ?_
          try simp (decide := true) only [zS_s, zS_o, zC, ey]
          refine z_iload C (z_d dtX6_trace_1 3 rfl) rfl ?_
          refine z_callV C (z_d dtX6_trace_1 4 rfl) (k_X3_targetOf  (by first | assumption | omega) (by first | assumption | omega)) cal_X3_targetOf gw_26_12 rfl 1 3 rfl rfl rfl rfl hR ⟨rfl, rfl, rfl, rfl⟩ rfl (fun r_72 w_72 h_72 => ?_)
          obtain ⟨rfl, rfl⟩ := h_72
          rw [e33]
          refine as_X18 C (z_d dtX6_trace_1 5 rfl) (by omega) ?_
          refine z_iinc4 C (z_d dtX6_trace_1 6 rfl) rfl ?_
          refine z_goto (tgt := 10) C (z_d dtX6_trace_1 7 rfl) (by decide) ?_
          refine z_drop5 ?_
          exact ih_10 (j + 1) _ _ (by omega) (zE_set hE (by decide)) (fun q h => by
                rw [zS_s]
                by_cases e : q = j + 1
                · subst e
                  rw [show ((j + 1 : Nat) : Int) = (j : Int) + 1 by omega, zU_s, zWy]
                  first | rw [if_pos (by omega)] | rw [if_neg (by omega)]
                · rw [zU_n (by omega)]
                  exact hm q (by omega)) (by omega)
        · refine z_aload_n C (z_d dtX6_trace_0 29 rfl) rfl ?_
          refine gf_X6_9 C (z_d dtX6_trace_0 30 rfl) ?_
          refine z_iload C (z_d dtX6_trace_0 31 rfl) rfl ?_
          refine z_iconst C (z_d dtX6_trace_0 32 rfl) ?_
          refine z_isub C (z_d dtX6_trace_0 33 rfl) ?_
          refine al_X18 C (z_d dtX6_trace_0 34 rfl) (by omega) ?_
          try simp (decide := true) only [zS_s, zS_o, zC, ey]
          refine z_goto (tgt := 75) C (z_d dtX6_trace_0 35 rfl) (by decide) ?_
          refine as_X18 C (z_d dtX6_trace_1 5 rfl) (by omega) ?_
          refine z_iinc4 C (z_d dtX6_trace_1 6 rfl) rfl ?_
          refine z_goto (tgt := 10) C (z_d dtX6_trace_1 7 rfl) (by decide) ?_
          refine z_drop5 ?_
          exact ih_10 (j + 1) _ _ (by omega) (zE_set hE (by decide)) (fun q h => by
                rw [zS_s]
                by_cases e : q = j + 1
                · subst e
                  rw [show ((j + 1 : Nat) : Int) = (j : Int) + 1 by omega, zU_s, zWy]
                  first | rw [if_pos (by omega)] | rw [if_neg (by omega)]
                · rw [zU_n (by omega)]
                  exact hm q (by omega)) (by omega)
  exact lp_10 _ 0 _ _ (by omega) (zE_set zE_rf (by decide)) (fun q h => by
        obtain rfl : q = 0 := by omega
        show zU (σ 39) 0 f 0 = _
        rw [zU_s, hf]) (Nat.lt_succ_self _)

set_option maxRecDepth 100000 in
set_option maxHeartbeats 4000000 in
theorem k_X6_findWay {l : Launch} {D : va_G} {t : Nat → ClassId} {ad : Nat → Nat} {σ : zMem} {z wo : Int} (hw : zHw σ) (ht : zTb σ) (hs : 0 ≤ σ 3 0 ∧ σ 3 0 ≤ 9) (hz : 0 ≤ z ∧ z < 4) (hsz : 0 ≤ σ 40 z ∧ σ 40 z ≤ 240) (hit : zIt σ) (hmp : zMp σ) (hdd : σ 30 0 = zDb (σ 7)) (h7 : zBo σ 7) (hwo : -1 ≤ wo ∧ wo < 8) : z_Ci l D t yX6_findWay cX6_findWay 11 .int 5 119 0 0 [.ref (ad 4), .ref (ad 1), .ref (ad 2), .ref (ad (22 + z.toNat)), .int (zI wo)] (wX ad t σ) (fun r w => ∃ σ', w = wX ad t σ' ∧ zE σ' σ [39, 41] ∧ ((σ 40 z / 8 = 0 ∧ r = -1) ∨ (1 ≤ σ 40 z / 8 ∧ r = zV σ z wo (σ 40 z / 8) (σ 40 z / 8 - 1).toNat (zWy σ z wo (σ 40 z / 8) 0) ∧ (r = -1 ∨ ∀ k : Nat, k < σ 40 z / 8 → σ' 39 k = zWy σ z wo (σ 40 z / 8) k)))) := by
  refine z_Ci_of (by decide +kernel) [some (.ref (ad 4)), some (.ref (ad 1)), some (.ref (ad 2)), some (.ref (ad (22 + z.toNat))), some (.int (zI wo)), none, none, none, none, none, none] rfl rfl (Nat.le_of_ble_eq_true rfl) fun K hl hD ht hR hnm C ret => ?_
  subst hl; subst hD; subst ht
  have hN := zHw_N hw
  have hRb : 0 ≤ σ 40 z / 8 ∧ σ 40 z / 8 ≤ 30 := by omega
  refine z_aload_n C (z_d dtX6_findWay_0 0 rfl) rfl ?_
  refine z_callV C (z_d dtX6_findWay_0 1 rfl) (k_X5_rows  (by first | assumption | omega) (by first | assumption | omega)) cal_X5_rows gw_26_2 rfl (22 + _) 5 (wX_sh (by omega)) rfl rfl rfl hR ⟨rfl, rfl, rfl, rfl⟩ rfl (fun r_1 w_1 h_1 => ?_)
  obtain ⟨rfl, rfl⟩ := h_1
  refine z_bipush C (z_d dtX6_findWay_0 2 rfl) zb_30 ?_
  refine z_mminP C (z_d dtX6_findWay_0 3 rfl) gw_26_1 gw_9_19 gw_9_20 gw_9_21 rfl (by rw [hR]; exact Nat.le_of_ble_eq_true rfl) (by rw [hR]; exact Nat.le_of_ble_eq_true rfl) (by rw [hR]; exact Nat.le_refl _) (by rw [hR]; exact Nat.le_refl _) (by omega) (fun m_6 h_6 => ?_)
  obtain rfl : m_6 = σ 40 z / 8 := by omega
  refine z_istore5 C (z_d dtX6_findWay_0 4 rfl) rfl ?_
  refine z_iload C (z_d dtX6_findWay_0 5 rfl) rfl ?_
  refine z_if_ne (tgt := 18) C (z_d dtX6_findWay_0 6 rfl) (by decide) (by omega) (fun h_13 => ?_) (fun h_13 => ?_)
  · refine z_iload C (z_d dtX6_findWay_0 9 rfl) rfl ?_
    refine z_iconst C (z_d dtX6_findWay_0 10 rfl) ?_
    refine z_isub C (z_d dtX6_findWay_0 11 rfl) ?_
    refine z_istore6 C (z_d dtX6_findWay_0 12 rfl) rfl ?_
    have lp_24 : ∀ (N_24 : Nat) (i : Nat) (row : Int) (μ : zMem), (row = σ 40 z / 8 - 1 - i ∧ i ≤ σ 40 z / 8) → (zE μ σ [41]) → (∀ j : Nat, j < i → ∀ c : Int, 0 ≤ c → c < zN σ → μ 41 ((σ 40 z / 8 - 1 - j) * 72 + c) = zV σ z wo (σ 40 z / 8) j c) → (σ 40 z / 8 - i).toNat < N_24 → Gd K 0 0 24 [some (.ref (ad 4)), some (.ref (ad 1)), some (.ref (ad 2)), some (.ref (ad (22 + z.toNat))), some (.int (zI wo)), some (.int (zI (σ 40 z / 8))), some (.int (zI row)), none, none, none, none] [] (wX ad (z_t K) μ) := by
      intro N_24
      induction N_24 with
      | zero => intro i row μ hi hE hA hm_24; exact absurd hm_24 (Nat.not_lt_zero _)
      | succ N_24 ih_24 =>
        intro i row μ hi hE hA hm_24
        obtain ⟨rfl, hi⟩ := hi
        refine z_iload C (z_d dtX6_findWay_0 13 rfl) rfl ?_
        refine z_if_lt (tgt := 140) C (z_d dtX6_findWay_0 14 rfl) (by decide) (by omega) (fun h_26 => ?_) (fun h_26 => ?_)
        · refine z_aload_n C (z_d dtX6_findWay_1 33 rfl) rfl ?_
          refine z_aload_n C (z_d dtX6_findWay_1 34 rfl) rfl ?_
          refine z_callV C (z_d dtX6_findWay_1 35 rfl) (k_X3_cells  ) cal_X3_cells gw_26_3 rfl 1 3 rfl rfl rfl rfl hR ⟨rfl, rfl, rfl, rfl⟩ rfl (fun r_142 w_142 h_142 => ?_)
          obtain ⟨rfl, rfl⟩ := h_142
          have eN2 := zN_E hE (by decide) (by decide) (by decide)
          refine z_top (show zN μ = (((zN σ).toNat : Nat) : Int) by omega) ?_
          have hcol : ∀ c : Int, 0 ≤ c → c < ((zN σ).toNat : Nat) → μ 41 c = zV σ z wo (σ 40 z / 8) (σ 40 z / 8 - 1).toNat c := fun c h0 h1 => by
            have := hA (σ 40 z / 8 - 1).toNat (by omega) c h0 (by omega)
            rw [show (σ 40 z / 8 - 1 - (((σ 40 z / 8 - 1).toNat : Nat) : Int)) * 72 + c = c by omega] at this
            exact this
          refine z_callV C (z_d dtX6_findWay_1 36 rfl) (k_X6_bestFirst  (by first | assumption | omega) (fun c h0 h1 => by
                    rw [hcol c h0 h1]
                    have := zV_b hmp hs z wo (σ 40 z / 8) (σ 40 z / 8 - 1).toNat c
                    omega)) cal_X6_bestFirst gw_26_16 rfl 4 6 rfl rfl rfl rfl hR ⟨rfl, rfl, rfl, rfl⟩ rfl (fun r_145 w_145 h_145 => ?_)
          obtain ⟨rfl, hr145⟩ := h_145
          rw [zMx_cg (F := μ 41) (G := zV σ z wo (σ 40 z / 8) (σ 40 z / 8 - 1).toNat) _ hcol] at hr145
          have hfb := zMx_b (zV σ z wo (σ 40 z / 8) (σ 40 z / 8 - 1).toNat) (zN σ).toNat
          have hfv := zV_b hmp hs z wo (σ 40 z / 8) (σ 40 z / 8 - 1).toNat r_145
          have hfc := hcol r_145 (by omega) (by omega)
          have hf0 : r_145 = zWy σ z wo (σ 40 z / 8) 0 := hr145
          refine z_istore6 C (z_d dtX6_findWay_1 37 rfl) rfl ?_
          refine z_aload_n C (z_d dtX6_findWay_1 38 rfl) rfl ?_
          refine gf_X6_15 C (z_d dtX6_findWay_1 39 rfl) ?_
          refine z_iload C (z_d dtX6_findWay_2 0 rfl) rfl ?_
          refine al_X19 C (z_d dtX6_findWay_2 1 rfl) (by omega) ?_
          try simp (decide := true) only [zS_s, zS_o, zC]
          refine z_iconst C (z_d dtX6_findWay_2 2 rfl) ?_
          refine z_icmp_eq (tgt := 170) C (z_d dtX6_findWay_2 3 rfl) (by decide) (by omega) (fun h_158 => ?_) (fun h_158 => ?_)
          · refine z_aload_n C (z_d dtX6_findWay_2 9 rfl) rfl ?_
            refine gf_X6_15 C (z_d dtX6_findWay_2 10 rfl) ?_
            refine z_iload C (z_d dtX6_findWay_2 11 rfl) rfl ?_
            refine al_X19 C (z_d dtX6_findWay_2 12 rfl) (by omega) ?_
            try simp (decide := true) only [zS_s, zS_o, zC]
            exact ret _ _ _ _ (z_d dtX6_findWay_2 13 rfl) (by
                first
                  | exact ⟨_, rfl, zE_tr (zE_mo hE_167 (by decide)) (zE_mo hE (by decide)), Or.inr ⟨by omega, by rw [h41, hfc, hf0], Or.inr (fun k hk => by
                      rw [h_167 k hk, zWy_E hE (by decide) (by decide) (by decide) (by decide) (by decide) (by decide) (by decide) (by decide)])⟩⟩
                  | exact ⟨_, rfl, zE_mo hE (by decide), Or.inr ⟨by omega, by rw [hfc, hf0], Or.inl (by omega)⟩⟩) rfl
          · refine z_aload_n C (z_d dtX6_findWay_2 4 rfl) rfl ?_
            refine z_aload_n C (z_d dtX6_findWay_2 5 rfl) rfl ?_
            refine z_iload C (z_d dtX6_findWay_2 6 rfl) rfl ?_
            refine z_iload C (z_d dtX6_findWay_2 7 rfl) rfl ?_
            refine z_callVv C (z_d dtX6_findWay_2 8 rfl) (k_X6_trace (z := z) (wo := wo) (R := σ 40 z / 8) (zHw_E hE (by decide) (by decide) (by decide) hw) (zTb_E hE (by decide) (by decide) (by decide) (by decide) (by decide) (by decide) (by decide) (by decide) ht) (by rw [hE 3 (by decide)]; exact hs) (by unfold zMp; rw [hE 8 (by decide)]; exact hmp) (by first | assumption | omega) (by rw [zWy_E hE (by decide) (by decide) (by decide) (by decide) (by decide) (by decide) (by decide) (by decide)]; exact hf0) (fun row c a1 a2 a3 a4 => by
                      rw [zV_E hE (by decide) (by decide) (by decide) (by decide) (by decide) (by decide) (by decide) (by decide)]
                      have := hA (σ 40 z / 8 - 1 - row).toNat (by omega) c a3 (by omega)
                      rw [show σ 40 z / 8 - 1 - (((σ 40 z / 8 - 1 - row).toNat : Nat) : Int) = row by omega] at this
                      exact this)) cal_X6_trace gw_26_20 rfl 4 6 rfl rfl rfl rfl hR ⟨rfl, rfl, rfl, rfl⟩ rfl (fun w_167 h_167 => ?_)
            obtain ⟨σ_167, rfl, hE_167, h_167⟩ := h_167
            have h41 : σ_167 41 = μ 41 := hE_167 41 (by decide)
            refine z_aload_n C (z_d dtX6_findWay_2 9 rfl) rfl ?_
            refine gf_X6_15 C (z_d dtX6_findWay_2 10 rfl) ?_
            refine z_iload C (z_d dtX6_findWay_2 11 rfl) rfl ?_
            refine al_X19 C (z_d dtX6_findWay_2 12 rfl) (by omega) ?_
            try simp (decide := true) only [zS_s, zS_o, zC]
            exact ret _ _ _ _ (z_d dtX6_findWay_2 13 rfl) (by
                first
                  | exact ⟨_, rfl, zE_tr (zE_mo hE_167 (by decide)) (zE_mo hE (by decide)), Or.inr ⟨by omega, by rw [h41, hfc, hf0], Or.inr (fun k hk => by
                      rw [h_167 k hk, zWy_E hE (by decide) (by decide) (by decide) (by decide) (by decide) (by decide) (by decide) (by decide)])⟩⟩
                  | exact ⟨_, rfl, zE_mo hE (by decide), Or.inr ⟨by omega, by rw [hfc, hf0], Or.inl (by omega)⟩⟩) rfl
        · have jn_43 : ∀ (il : Int), ((il = 1 ∧ i = 0) ∨ (il = 0 ∧ 1 ≤ i)) → Gd K 0 0 43 [some (.ref (ad 4)), some (.ref (ad 1)), some (.ref (ad 2)), some (.ref (ad (22 + z.toNat))), some (.int (zI wo)), some (.int (zI (σ 40 z / 8))), some (.int (zI (σ 40 z / 8 - 1 - (i : Int)))), none, none, none, none] [.int (zI il)] (wX ad (z_t K) μ) := by
            intro il hil
            refine z_istore7 C (z_d dtX6_findWay_0 23 rfl) rfl ?_
            refine z_iconst C (z_d dtX6_findWay_0 24 rfl) ?_
            refine z_istore8 C (z_d dtX6_findWay_0 25 rfl) rfl ?_
            have lp_48 : ∀ (N_48 : Nat) (c il : Int) (ν : zMem), (0 ≤ c ∧ c ≤ zN σ) → ((il = 1 ∧ i = 0) ∨ (il = 0 ∧ 1 ≤ i)) → (zE ν σ [41]) → (∀ j : Nat, j < i → ∀ c : Int, 0 ≤ c → c < zN σ → ν 41 ((σ 40 z / 8 - 1 - j) * 72 + c) = zV σ z wo (σ 40 z / 8) j c) → (∀ c2 : Int, 0 ≤ c2 → c2 < c → ν 41 ((σ 40 z / 8 - 1 - i) * 72 + c2) = zV σ z wo (σ 40 z / 8) i c2) → (zN σ - c).toNat < N_48 → Gd K 0 0 48 [some (.ref (ad 4)), some (.ref (ad 1)), some (.ref (ad 2)), some (.ref (ad (22 + z.toNat))), some (.int (zI wo)), some (.int (zI (σ 40 z / 8))), some (.int (zI (σ 40 z / 8 - 1 - (i : Int)))), some (.int (zI il)), some (.int (zI c)), none, none] [] (wX ad (z_t K) ν) := by
              intro N_48
              induction N_48 with
              | zero => intro c il ν hc hil2 hE2 hA2 hB hm_48; exact absurd hm_48 (Nat.not_lt_zero _)
              | succ N_48 ih_48 =>
                intro c il ν hc hil2 hE2 hA2 hB hm_48
                have eN := zN_E hE2 (by decide) (by decide) (by decide)
                have e41 := hE2 41
                have hw2 := zHw_E hE2 (by decide) (by decide) (by decide) hw
                have ht2 := zTb_E hE2 (by decide) (by decide) (by decide) (by decide) (by decide) (by decide) (by decide) (by decide) ht
                have e3 := hE2 3 (by decide)
                have e30 := hE2 30 (by decide)
                have e7 := hE2 7 (by decide)
                have e8 := hE2 8 (by decide)
                have e20 := hE2 20 (by decide)
                have hrw := zRw_b hmp z (σ 40 z / 8 - 1 - i) c 0 wo 8
                have eR := zRw_E hE2 (by decide) (by decide) (by decide) z (σ 40 z / 8 - 1 - i) c 0 wo 8
                have hon : 1 ≤ i → ∀ c, 0 ≤ c → c < zN ν → -1 ≤ ν 41 ((σ 40 z / 8 - 1 - (i : Int) + 1) * 72 + c) ∧ ν 41 ((σ 40 z / 8 - 1 - (i : Int) + 1) * 72 + c) ≤ 1000000 := fun q c h0 h1 => by
                  rw [show σ 40 z / 8 - 1 - (i : Int) + 1 = σ 40 z / 8 - 1 - ((i - 1 : Nat) : Int) by omega, hA2 (i - 1) (by omega) c h0 (by omega)]
                  have := zV_b hmp hs z wo (σ 40 z / 8) (i - 1) c
                  omega
                have hcg : 1 ≤ i → ∀ c, zBd ν (fun c => ν 41 ((σ 40 z / 8 - 1 - (i : Int) + 1) * 72 + c)) c 7 = zBd σ (zV σ z wo (σ 40 z / 8) (i - 1)) c 7 := fun q c => by
                  rw [zBd_E hE2 (by decide) (by decide) (by decide) (by decide) (by decide)]
                  refine zBd_cg (fun c h0 h1 => ?_) _ 7
                  try dsimp only
                  rw [show σ 40 z / 8 - 1 - (i : Int) + 1 = σ 40 z / 8 - 1 - ((i - 1 : Nat) : Int) by omega, hA2 (i - 1) (by omega) c h0 h1]
                have hbb := zBd_b (V := zV σ z wo (σ 40 z / 8) (i - 1)) (b := 1000000) hs (by omega) (fun c _ _ => by
                  have := zV_b hmp hs z wo (σ 40 z / 8) (i - 1) c
                  omega) c 7
                refine z_iload C (z_d dtX6_findWay_0 26 rfl) rfl ?_
                refine z_aload_n C (z_d dtX6_findWay_0 27 rfl) rfl ?_
                refine z_callV C (z_d dtX6_findWay_0 28 rfl) (k_X3_cells  ) cal_X3_cells gw_26_3 rfl 1 3 rfl rfl rfl rfl hR ⟨rfl, rfl, rfl, rfl⟩ rfl (fun r_51 w_51 h_51 => ?_)
                obtain ⟨rfl, rfl⟩ := h_51
                rw [eN]
                refine z_icmp_ge (tgt := 134) C (z_d dtX6_findWay_0 29 rfl) (by decide) (by omega) (fun h_54 => ?_) (fun h_54 => ?_)
                · refine z_iinc6 C (z_d dtX6_findWay_1 31 rfl) rfl ?_
                  refine z_goto (tgt := 24) C (z_d dtX6_findWay_1 32 rfl) (by decide) ?_
                  refine z_drop7 ?_
                  refine z_drop8 ?_
                  exact ih_24 (i + 1) _ _ (by omega) hE2 (fun j h c h0 h1 => by
                          rcases Nat.lt_succ_iff_lt_or_eq.mp h with p | p
                          · exact hA2 j p c h0 h1
                          · subst p; exact hB c h0 (by omega)) (by omega)
                · refine z_iload C (z_d dtX6_findWay_0 30 rfl) rfl ?_
                  refine z_if_eq (tgt := 66) C (z_d dtX6_findWay_0 31 rfl) (by decide) (by omega) (fun h_59 => ?_) (fun h_59 => ?_)
                  · refine z_aload_n C (z_d dtX6_findWay_0 34 rfl) rfl ?_
                    refine z_aload_n C (z_d dtX6_findWay_0 35 rfl) rfl ?_
                    refine z_iload C (z_d dtX6_findWay_0 36 rfl) rfl ?_
                    refine z_iload C (z_d dtX6_findWay_0 37 rfl) rfl ?_
                    refine z_aload_n C (z_d dtX6_findWay_0 38 rfl) rfl ?_
                    refine z_aload_n C (z_d dtX6_findWay_0 39 rfl) rfl ?_
                    refine z_iload C (z_d dtX6_findWay_1 0 rfl) rfl ?_
                    refine z_iload C (z_d dtX6_findWay_1 1 rfl) rfl ?_
                    refine z_callV C (z_d dtX6_findWay_1 2 rfl) (k_X6_bestDirection  hw2 ht2 (by rw [e3]; exact hs) (hon (by omega)) (by first | assumption | omega) (by omega)) cal_X6_bestDirection gw_26_4 rfl 4 6 rfl rfl rfl rfl hR ⟨rfl, rfl, rfl, rfl⟩ rfl (fun r_78 w_78 h_78 => ?_)
                    obtain ⟨rfl, rfl⟩ := h_78
                    rw [hcg (by omega)]
                    refine z_callV C (z_d dtX6_findWay_1 3 rfl) (k_X6_scoreAfter  hw2 ht2 (by rw [e3]; exact hs) (hon (by omega)) (by first | assumption | omega) (by omega) (by omega)) cal_X6_scoreAfter gw_26_8 rfl 4 6 rfl rfl rfl rfl hR ⟨rfl, rfl, rfl, rfl⟩ rfl (fun r_81 w_81 h_81 => ?_)
                    obtain ⟨rfl, rfl⟩ := h_81
                    rw [← hcg (by omega), zBd_sa, hcg (by omega)]
                    refine z_istore9 C (z_d dtX6_findWay_1 4 rfl) rfl ?_
                    refine z_aload_n C (z_d dtX6_findWay_1 5 rfl) rfl ?_
                    refine z_aload_n C (z_d dtX6_findWay_1 6 rfl) rfl ?_
                    refine z_iload C (z_d dtX6_findWay_1 7 rfl) rfl ?_
                    refine z_iload C (z_d dtX6_findWay_1 8 rfl) rfl ?_
                    refine z_iconst C (z_d dtX6_findWay_1 9 rfl) ?_
                    refine z_iload C (z_d dtX6_findWay_1 10 rfl) rfl ?_
                    refine z_callV C (z_d dtX6_findWay_1 11 rfl) (k_X4_rowWeight  (by first | assumption | omega) (by unfold zIt; rw [e20]; exact hit) (by first | assumption | omega) (by omega) (by unfold zMp; rw [e8]; exact hmp) (by rw [e30, e7]; exact hdd) (zBo_E hE2 (by decide) h7) (by first | assumption | omega) (by first | assumption | omega)) cal_X4_rowWeight gw_26_15 rfl 2 4 rfl rfl rfl rfl hR ⟨rfl, rfl, rfl, rfl⟩ rfl (fun r_95 w_95 h_95 => ?_)
                    obtain ⟨rfl, rfl⟩ := h_95
                    rw [eR]
                    refine z_istore10 C (z_d dtX6_findWay_1 12 rfl) rfl ?_
                    refine z_aload_n C (z_d dtX6_findWay_1 13 rfl) rfl ?_
                    refine gf_X6_15 C (z_d dtX6_findWay_1 14 rfl) ?_
                    refine z_iload C (z_d dtX6_findWay_1 15 rfl) rfl ?_
                    refine z_bipush C (z_d dtX6_findWay_1 16 rfl) zb_72 ?_
                    refine z_imul C (z_d dtX6_findWay_1 17 rfl) ?_
                    refine z_iload C (z_d dtX6_findWay_1 18 rfl) rfl ?_
                    refine z_iadd C (z_d dtX6_findWay_1 19 rfl) ?_
                    refine z_iload C (z_d dtX6_findWay_1 20 rfl) rfl ?_
                    refine z_iconst C (z_d dtX6_findWay_1 21 rfl) ?_
                    refine z_icmp_ne (tgt := 122) C (z_d dtX6_findWay_1 22 rfl) (by decide) (by omega) (fun h_115 => ?_) (fun h_115 => ?_)
                    · refine z_iload C (z_d dtX6_findWay_1 25 rfl) rfl ?_
                      refine z_iload C (z_d dtX6_findWay_1 26 rfl) rfl ?_
                      refine z_iadd C (z_d dtX6_findWay_1 27 rfl) ?_
                      refine as_X19 C (z_d dtX6_findWay_1 28 rfl) (by omega) ?_
                      refine z_iinc8 C (z_d dtX6_findWay_1 29 rfl) rfl ?_
                      refine z_goto (tgt := 48) C (z_d dtX6_findWay_1 30 rfl) (by decide) ?_
                      refine z_drop9 ?_
                      refine z_drop10 ?_
                      exact ih_48 _ _ _ (by omega) hil2 (zE_set hE2 (by decide)) (fun j h c2 h0 h1 => by
                              rw [zS_s, zU_n (by omega)]
                              exact hA2 j h c2 h0 h1) (fun c2 h0 h1 => by
                              rw [zS_s]
                              by_cases e : c2 = c
                              · subst e
                                rw [zU_s]
                                first | exact zV_s0 (by omega) | exact (zV_s1 (by omega)).1 h_115 | exact (zV_s1 (by omega)).2 h_115 | (exfalso; omega)
                              · rw [zU_n (by omega)]
                                exact hB c2 h0 (by omega)) (by omega)
                    · refine z_iconst C (z_d dtX6_findWay_1 23 rfl) ?_
                      refine z_goto (tgt := 127) C (z_d dtX6_findWay_1 24 rfl) (by decide) ?_
                      refine as_X19 C (z_d dtX6_findWay_1 28 rfl) (by omega) ?_
                      refine z_iinc8 C (z_d dtX6_findWay_1 29 rfl) rfl ?_
                      refine z_goto (tgt := 48) C (z_d dtX6_findWay_1 30 rfl) (by decide) ?_
                      refine z_drop9 ?_
                      refine z_drop10 ?_
                      exact ih_48 _ _ _ (by omega) hil2 (zE_set hE2 (by decide)) (fun j h c2 h0 h1 => by
                              rw [zS_s, zU_n (by omega)]
                              exact hA2 j h c2 h0 h1) (fun c2 h0 h1 => by
                              rw [zS_s]
                              by_cases e : c2 = c
                              · subst e
                                rw [zU_s]
                                first | exact zV_s0 (by omega) | exact (zV_s1 (by omega)).1 h_115 | exact (zV_s1 (by omega)).2 h_115 | (exfalso; omega)
                              · rw [zU_n (by omega)]
                                exact hB c2 h0 (by omega)) (by omega)
                  · refine z_iconst C (z_d dtX6_findWay_0 32 rfl) ?_
                    refine z_goto (tgt := 84) C (z_d dtX6_findWay_0 33 rfl) (by decide) ?_
                    refine z_istore9 C (z_d dtX6_findWay_1 4 rfl) rfl ?_
                    refine z_aload_n C (z_d dtX6_findWay_1 5 rfl) rfl ?_
                    refine z_aload_n C (z_d dtX6_findWay_1 6 rfl) rfl ?_
                    refine z_iload C (z_d dtX6_findWay_1 7 rfl) rfl ?_
                    refine z_iload C (z_d dtX6_findWay_1 8 rfl) rfl ?_
                    refine z_iconst C (z_d dtX6_findWay_1 9 rfl) ?_
                    refine z_iload C (z_d dtX6_findWay_1 10 rfl) rfl ?_
                    refine z_callV C (z_d dtX6_findWay_1 11 rfl) (k_X4_rowWeight  (by first | assumption | omega) (by unfold zIt; rw [e20]; exact hit) (by first | assumption | omega) (by omega) (by unfold zMp; rw [e8]; exact hmp) (by rw [e30, e7]; exact hdd) (zBo_E hE2 (by decide) h7) (by first | assumption | omega) (by first | assumption | omega)) cal_X4_rowWeight gw_26_15 rfl 2 4 rfl rfl rfl rfl hR ⟨rfl, rfl, rfl, rfl⟩ rfl (fun r_95 w_95 h_95 => ?_)
                    obtain ⟨rfl, rfl⟩ := h_95
                    rw [eR]
                    refine z_istore10 C (z_d dtX6_findWay_1 12 rfl) rfl ?_
                    refine z_aload_n C (z_d dtX6_findWay_1 13 rfl) rfl ?_
                    refine gf_X6_15 C (z_d dtX6_findWay_1 14 rfl) ?_
                    refine z_iload C (z_d dtX6_findWay_1 15 rfl) rfl ?_
                    refine z_bipush C (z_d dtX6_findWay_1 16 rfl) zb_72 ?_
                    refine z_imul C (z_d dtX6_findWay_1 17 rfl) ?_
                    refine z_iload C (z_d dtX6_findWay_1 18 rfl) rfl ?_
                    refine z_iadd C (z_d dtX6_findWay_1 19 rfl) ?_
                    refine z_iload C (z_d dtX6_findWay_1 20 rfl) rfl ?_
                    refine z_iconst C (z_d dtX6_findWay_1 21 rfl) ?_
                    refine z_icmp_ne (tgt := 122) C (z_d dtX6_findWay_1 22 rfl) (by decide) (by omega) (fun h_115 => ?_) (fun h_115 => ?_)
                    · refine z_iload C (z_d dtX6_findWay_1 25 rfl) rfl ?_
                      refine z_iload C (z_d dtX6_findWay_1 26 rfl) rfl ?_
                      refine z_iadd C (z_d dtX6_findWay_1 27 rfl) ?_
                      refine as_X19 C (z_d dtX6_findWay_1 28 rfl) (by omega) ?_
                      refine z_iinc8 C (z_d dtX6_findWay_1 29 rfl) rfl ?_
                      refine z_goto (tgt := 48) C (z_d dtX6_findWay_1 30 rfl) (by decide) ?_
                      refine z_drop9 ?_
                      refine z_drop10 ?_
                      exact ih_48 _ _ _ (by omega) hil2 (zE_set hE2 (by decide)) (fun j h c2 h0 h1 => by
                              rw [zS_s, zU_n (by omega)]
                              exact hA2 j h c2 h0 h1) (fun c2 h0 h1 => by
                              rw [zS_s]
                              by_cases e : c2 = c
                              · subst e
                                rw [zU_s]
                                first | exact zV_s0 (by omega) | exact (zV_s1 (by omega)).1 h_115 | exact (zV_s1 (by omega)).2 h_115 | (exfalso; omega)
                              · rw [zU_n (by omega)]
                                exact hB c2 h0 (by omega)) (by omega)
                    · refine z_iconst C (z_d dtX6_findWay_1 23 rfl) ?_
                      refine z_goto (tgt := 127) C (z_d dtX6_findWay_1 24 rfl) (by decide) ?_
                      refine as_X19 C (z_d dtX6_findWay_1 28 rfl) (by omega) ?_
                      refine z_iinc8 C (z_d dtX6_findWay_1 29 rfl) rfl ?_
                      refine z_goto (tgt := 48) C (z_d dtX6_findWay_1 30 rfl) (by decide) ?_
                      refine z_drop9 ?_
                      refine z_drop10 ?_
                      exact ih_48 _ _ _ (by omega) hil2 (zE_set hE2 (by decide)) (fun j h c2 h0 h1 => by
                              rw [zS_s, zU_n (by omega)]
                              exact hA2 j h c2 h0 h1) (fun c2 h0 h1 => by
                              rw [zS_s]
                              by_cases e : c2 = c
                              · subst e
                                rw [zU_s]
                                first | exact zV_s0 (by omega) | exact (zV_s1 (by omega)).1 h_115 | exact (zV_s1 (by omega)).2 h_115 | (exfalso; omega)
                              · rw [zU_n (by omega)]
                                exact hB c2 h0 (by omega)) (by omega)
            exact lp_48 _ _ _ _ (by omega) hil hE hA (fun c2 h0 h1 => absurd h1 (by omega)) (Nat.lt_succ_self _)
          refine z_iload C (z_d dtX6_findWay_0 15 rfl) rfl ?_
          refine z_iload C (z_d dtX6_findWay_0 16 rfl) rfl ?_
          refine z_iconst C (z_d dtX6_findWay_0 17 rfl) ?_
          refine z_isub C (z_d dtX6_findWay_0 18 rfl) ?_
          refine z_icmp_ne (tgt := 42) C (z_d dtX6_findWay_0 19 rfl) (by decide) (by omega) (fun h_35 => ?_) (fun h_35 => ?_)
          · refine z_iconst C (z_d dtX6_findWay_0 22 rfl) ?_
            exact jn_43 _ (by omega)
          · refine z_iconst C (z_d dtX6_findWay_0 20 rfl) ?_
            refine z_goto (tgt := 43) C (z_d dtX6_findWay_0 21 rfl) (by decide) ?_
            exact jn_43 _ (by omega)
    exact lp_24 _ 0 _ _ (by omega) zE_rf (fun j h => absurd h (Nat.not_lt_zero _)) (Nat.lt_succ_self _)
  · refine z_iconst C (z_d dtX6_findWay_0 7 rfl) ?_
    exact ret _ _ _ _ (z_d dtX6_findWay_0 8 rfl) (⟨_, rfl, zE_rf, Or.inl ⟨by omega, rfl⟩⟩) rfl
end
section
/-! what holds of the system at all times -/
def zWc (σ : zMem) : Int := zSum (fun c => σ 4 c + σ 5 c) (zN σ).toNat
def zLc (σ : zMem) : Int := zSum (σ 6) 36
def oH (σ : zMem) : Prop := zHw σ ∧ (0 ≤ σ 3 0 ∧ σ 3 0 ≤ 9) ∧ zTb σ ∧ zBo σ 4 ∧ zBo σ 5 ∧ zBo σ 6 ∧ σ 31 0 = zWc σ ∧ σ 32 0 = zLc σ
def oD (σ : zMem) : Prop := zBo σ 7 ∧ σ 30 0 = zDb (σ 7)
def oS (σ : zMem) : Prop := σ 36 0 = zN σ ∧ (∀ c, 0 ≤ c → c < zN σ → 0 ≤ σ 9 c ∧ σ 9 c ≤ 1000000) ∧ zSum (σ 9) (zN σ).toNat = 1000000
def oW (σ : zMem) : Prop := ∀ i, σ 10 i = -1 ∨ (0 ≤ σ 10 i ∧ σ 10 i < zN σ)
def oA (σ : zMem) : Prop := (1 ≤ σ 11 0 ∧ σ 11 0 ≤ 20) ∧ (0 ≤ σ 12 0 ∧ σ 12 0 ≤ 30) ∧ 0 ≤ σ 49 0 ∧ (∀ i, 0 ≤ i → i < σ 12 0 → (0 ≤ σ 51 i ∧ σ 51 i < σ 49 0) ∧ zIsA σ (σ 13 (5 * i)) (σ 13 (5 * i + 1)) (σ 13 (5 * i + 2)) (σ 13 (5 * i + 3)) (σ 13 (5 * i + 4)) ∧ σ 50 (5 * σ 51 i) = σ 13 (5 * i) ∧ σ 50 (5 * σ 51 i + 1) = σ 13 (5 * i + 1) ∧ σ 50 (5 * σ 51 i + 2) = σ 13 (5 * i + 2) ∧ σ 50 (5 * σ 51 i + 3) = σ 13 (5 * i + 3) ∧ σ 50 (5 * σ 51 i + 4) = σ 13 (5 * i + 4))
def oT (σ : zMem) : Prop := 0 ≤ σ 14 0 ∧ σ 14 0 ≤ 30
def oB (σ : zMem) : Prop := zBo σ 16 ∧ (∀ i, 0 ≤ σ 17 i ∧ σ 17 i ≤ 2) ∧ (∀ i, 0 ≤ σ 18 i ∧ σ 18 i ≤ 240) ∧ zIt σ ∧ ∀ i, σ 40 i = if σ 16 i = 1 then σ 18 i else 0
def okX (σ : zMem) : Prop := oH σ ∧ oD σ ∧ zMp σ ∧ oS σ ∧ oW σ ∧ oA σ ∧ oT σ ∧ oB σ
theorem oB_s {σ : zMem} (h : oB σ) (z : Int) : 0 ≤ σ 40 z ∧ σ 40 z ≤ 240 := by
  have a := h.2.2.2.2 z
  have b := h.2.2.1 z
  split at a <;> omega
theorem oS_n {σ : zMem} (h : oS σ) (hw : zHw σ) : σ 36 0 = ((zN σ).toNat : Int) ∧ 1 ≤ (zN σ).toNat ∧ (zN σ).toNat ≤ 72 := by
  have a := zHw_N hw
  have b := h.1
  omega
theorem oS_9 {σ : zMem} (h : oS σ) (hw : zHw σ) : ∀ c : Int, 0 ≤ c → c < ((zN σ).toNat : Int) → 0 ≤ σ 9 c ∧ σ 9 c ≤ 1000000 := fun c h0 h1 => h.2.1 c h0 (by have := zHw_N hw; omega)
theorem zWh_ok {W : Int → Int} {n : Nat} (hn : 1 ≤ n) (hW : ∀ c : Int, 0 ≤ c → c < n → 0 ≤ W c) (hS : 0 < zSum W n) : (∀ c : Int, 0 ≤ c → c < n → 0 ≤ zWh W n c ∧ zWh W n c ≤ 1000000) ∧ zSum (zWh W n) n = 1000000 := by
  have s := zWh_sum hn hS
  have a : ∀ c : Int, 0 ≤ c → c < n → 0 ≤ zWh W n c := fun c h0 h1 => (zHc_s (v := 0) (p := (zQo W n, zRe W n)) (b := 1000000) (zQo_b hS hW) (zLk W n).toNat c h0 h1).1
  refine ⟨fun c h0 h1 => ⟨a c h0 h1, ?_⟩, s⟩
  have := zSum_le n a c h0 h1
  omega
def zRp (σ : zMem) (z row : Int) : Int := if σ 16 z = 0 then 1 else if 0 ≤ row ∧ row < σ 18 z / 8 then 0 else 2
def zIp (σ : zMem) (z f i : Int) : Int := if σ 16 z = 0 then 1 else if ¬ σ 17 z = f then 3 else if 0 ≤ i ∧ i < σ 18 z then 0 else 2
/-- leading by n steps -/
def zL1 (σ : zMem) (F : Int → Int) : Int → Int := if zSum (zLw (zS σ 9 F) (zN σ).toNat) (zN σ).toNat ≤ 0 then F else zWh (zLw (zS σ 9 F) (zN σ).toNat) (zN σ).toNat
def zLn (σ : zMem) : Nat → Int → Int
  | 0 => σ 9
  | n + 1 => zL1 σ (zLn σ n)
theorem zLw_c {μ σ : zMem} (h0 : μ 0 = σ 0) (h1 : μ 1 = σ 1) (h2 : μ 2 = σ 2) (h3 : μ 3 = σ 3) (h33 : μ 33 = σ 33) : ∀ n : Nat, (∀ c : Int, 0 ≤ c → c < n → μ 9 c = σ 9 c) → zLw μ n = zLw σ n
  | 0, _ => rfl
  | n + 1, h9 => by
    have i := zLw_c h0 h1 h2 h3 h33 n (fun c a b => h9 c a (by omega))
    have eN : zN μ = zN σ := by unfold zN; rw [h0, h1, h2]
    have eL : ∀ d, zLik μ d = zLik σ d := fun d => by unfold zLik; rw [h3]
    have eA : ∀ m : Nat, zAll μ n m = zAll σ n m := by
      intro m
      induction m with
      | zero => rfl
      | succ m ih => rw [zAll, zAll, ih, h33, eL]
    have eS : ∀ (lv all : Int) (F : Int → Int) (d : Nat), zSp μ n lv all F d = zSp σ n lv all F d := by
      intro lv all F d
      induction d with
      | zero => rfl
      | succ d ih => rw [zSp, zSp, ih, h33, eN, eL]
    rw [zLw, zLw, i, eA, h9 n (by omega) (by omega), eS]
theorem zL1_cg {σ : zMem} (hw : zHw σ) {F G : Int → Int} (h : ∀ c : Int, 0 ≤ c → c < zN σ → F c = G c) : ∀ c : Int, 0 ≤ c → c < zN σ → zL1 σ F c = zL1 σ G c := by
  have hN := zHw_N hw
  have e := zLw_c (μ := zS σ 9 F) (σ := zS σ 9 G) rfl rfl rfl rfl rfl (zN σ).toNat (fun c a b => h c a (by omega))
  intro c a b
  unfold zL1
  rw [e]
  split
  · exact h c a b
  · rfl
theorem zLn_ok {σ : zMem} (hw : zHw σ) (hs : 0 ≤ σ 3 0 ∧ σ 3 0 ≤ 9) (h9 : ∀ c, 0 ≤ c → c < zN σ → 0 ≤ σ 9 c ∧ σ 9 c ≤ 1000000) (hsum : zSum (σ 9) (zN σ).toNat = 1000000) : ∀ n : Nat, (∀ c, 0 ≤ c → c < zN σ → 0 ≤ zLn σ n c ∧ zLn σ n c ≤ 1000000) ∧ zSum (zLn σ n) (zN σ).toNat = 1000000
  | 0 => ⟨h9, hsum⟩
  | n + 1 => by
    have hN := zHw_N hw
    have i := zLn_ok hw hs h9 hsum n
    have b := zLw_b (σ := zS σ 9 (zLn σ n)) hs (zN σ).toNat (fun c a b => i.1 c a (by omega))
    rw [zLn]
    unfold zL1
    split
    · exact i
    · rename_i q
      have := zWh_ok (W := zLw (zS σ 9 (zLn σ n)) (zN σ).toNat) (n := (zN σ).toNat) (by omega) (fun c _ _ => (b c).1) (by omega)
      exact ⟨fun c a b => this.1 c a (by omega), this.2⟩
/-- hearing: the weights -/
def zHx (σ : zMem) (z row o : Int) : Int → Int := fun c => zHm σ z row o (zN σ).toNat 8 c * σ 9 c
def zMr (σ : zMem) (z k : Int) : Nat → Int
  | 0 => 0
  | n + 1 => zMr σ z k n + if zH0 (zHv σ z n k) = -2 then 0 else 1
def zMu (σ : zMem) (z k R : Int) : Nat → Int
  | 0 => 0
  | n + 1 => zMu σ z k R n + if zH0 (zHv σ z n k) ≠ -2 ∧ zWt σ k (zWy σ z k R n) (zH0 (zHv σ z n k)) = 1 then 1 else 0
theorem zMr_b (σ : zMem) (z k : Int) : ∀ n : Nat, 0 ≤ zMr σ z k n ∧ zMr σ z k n ≤ n
  | 0 => by simp [zMr]
  | n + 1 => by
    have a := zMr_b σ z k n
    rw [zMr]
    split <;> (constructor <;> (try push_cast) <;> omega)
theorem zMu_b (σ : zMem) (z k R : Int) : ∀ n : Nat, 0 ≤ zMu σ z k R n ∧ zMu σ z k R n ≤ n
  | 0 => by simp [zMu]
  | n + 1 => by
    have a := zMu_b σ z k R n
    rw [zMu]
    split <;> (constructor <;> (try push_cast) <;> omega)
def zVf (σ : zMem) (z wo R : Int) : Int := zV σ z wo R (R - 1).toNat (zWy σ z wo R 0)
def zMvd (σ : zMem) (z k : Int) : Prop := 1 ≤ σ 18 z / 8 ∧ zVf σ z k (σ 18 z / 8) ≠ -1 ∧ zMr σ z k (σ 18 z / 8).toNat < 2 * zMu σ z k (σ 18 z / 8) (σ 18 z / 8).toNat
/-- a learning from a sheet: the map behind the first rows -/
def zLm (σ : zMem) (z : Int) (y : Nat → Int) : Nat → Int → Int
  | 0 => σ 8
  | n + 1 => zSv (zS σ 8 (zLm σ z y n)) z n (y n) 8
theorem zLm_b {σ : zMem} (h : zMp σ) (z : Int) (y : Nat → Int) : ∀ (n : Nat), zMp (zS σ 8 (zLm σ z y n))
  | 0 => h
  | n + 1 => zSv_b (zLm_b h z y n) z n (y n) 8
theorem cp_tell {K : z_KT} {cc : ByteArray} {nL cells slots pc : Nat} {L : List (Option Value)} {rest : List Value} {ad : Nat → Nat} {σ : zMem} (C : Fc K cc RX7 nL) {n : Int} (d : decode cc pc = .ok (.invokestatic 232, 3)) (hn : 0 ≤ n ∧ n ≤ 30) (hL : L.length = nL) (hf : 1 ≤ (z_Rm K).frames) (hlo : (rest.map fun v => v.category).sum + (nativeFrameWords "java/lang/System" "arraycopy" 5 + 11) ≤ (z_Rm K).locals) (k : Gd K cells slots (pc + 3) L rest (wX ad (z_t K) (zS σ 15 (fun i => if 0 ≤ i ∧ i < n then σ 39 i else σ 15 i)))) : Gd K cells slots pc L (.int (zI n) :: .int (zI 0) :: .ref (ad 7) :: .int (zI 0) :: .ref (ad 18) :: rest) (wX ad (z_t K) σ) := by
  have e : va_cpy (fun j : Nat => zI (σ 39 j)) (fun j : Nat => zI (σ 15 j)) (zI 0).toNatClampNeg (zI 0).toNatClampNeg (zI n).toNatClampNeg = fun j : Nat => zI ((fun i => if 0 ≤ i ∧ i < n then σ 39 i else σ 15 i) (j : Int)) := by
    funext j
    rw [zI_clamp (by omega) (by omega), zI_clamp hn.1 (by omega)]
    unfold va_cpy
    by_cases h : (0 : Int).toNat ≤ j ∧ j < (0 : Int).toNat + n.toNat
    · rw [if_pos h]
      show zI (σ 39 _) = zI (if 0 ≤ (j : Int) ∧ (j : Int) < n then σ 39 j else σ 15 j)
      rw [if_pos (by omega)]
      congr 2
      omega
    · rw [if_neg h]
      show zI (σ 15 _) = zI (if 0 ≤ (j : Int) ∧ (j : Int) < n then σ 39 j else σ 15 j)
      rw [if_neg (by omega)]
  obtain ⟨p, l, ee, R, s, m, args, below, meth, c, A, H0, Q, D, t⟩ := K
  obtain ⟨hx, hb, hml, ho, hts, hK, hA⟩ := C
  intro H locs ls hP hD hS hl
  have q0 : ¬ zI 0 < 0 := by rw [zI_0, zI_lt (by omega) (by omega)]; omega
  have qn : ¬ zI n < 0 := by rw [zI_0, zI_lt (by omega) (by omega)]; omega
  refine va_copyi hx hb (by rw [hml, ← hL]; exact hl.1.symm) ho (hts _ gw_27_5) (hts _ gw_27_6) (hts _ gw_27_7) (hts _ gw_27_8) hK hP hD hS 18 7 0 0 (n0 := 30) (n1 := 30) (ty := .int) rfl rfl rfl rfl rfl q0 q0 qn (by rw [zI_clamp (by omega) (by omega), zI_clamp hn.1 (by omega)]; omega) (by rw [zI_clamp (by omega) (by omega), zI_clamp hn.1 (by omega)]; omega) (fun _ _ => rfl) hf hlo d fun H1 locs1 hP hD hS => ?_
  rw [e] at hP hD
  exact k H1 locs1 ls hP hD hS hl
theorem cp_items {K : z_KT} {cc : ByteArray} {nL cells slots pc : Nat} {L : List (Option Value)} {rest : List Value} {ad : Nat → Nat} {σ : zMem} (C : Fc K cc RX7 nL) {z y i j n : Int} (d : decode cc pc = .ok (.invokestatic 232, 3)) (hz : 0 ≤ z ∧ z < 4) (hy : 0 ≤ y ∧ y < 4) (hi : 0 ≤ i ∧ i + n ≤ 240) (hj : 0 ≤ j ∧ j + n ≤ 240) (hn : 0 ≤ n) (hL : L.length = nL) (hf : 1 ≤ (z_Rm K).frames) (hlo : (rest.map fun v => v.category).sum + (nativeFrameWords "java/lang/System" "arraycopy" 5 + 11) ≤ (z_Rm K).locals) (k : Gd K cells slots (pc + 3) L rest (wX ad (z_t K) (zS σ 20 (fun q => if 240 * y + j ≤ q ∧ q < 240 * y + j + n then σ 20 (240 * z + i + (q - (240 * y + j))) else σ 20 q)))) : Gd K cells slots pc L (.int (zI n) :: .int (zI j) :: .ref (ad (26 + y.toNat)) :: .int (zI i) :: .ref (ad (26 + z.toNat)) :: rest) (wX ad (z_t K) σ) := by
  have key := z_items (K := K) (cells := cells) (slots := slots) (pc := pc + 3) (L := L) (st := rest) (ad := ad) (σ := σ) hy (f := va_cpy (fun q : Nat => zI (σ 20 (240 * z + q))) (fun q : Nat => zI (σ 20 (240 * y + q))) i.toNat j.toNat n.toNat) (fun q => if 240 * y + j ≤ q ∧ q < 240 * y + j + n then σ 20 (240 * z + i + (q - (240 * y + j))) else σ 20 q) (fun q hq => by
    unfold va_cpy
    by_cases h : j.toNat ≤ q ∧ q < j.toNat + n.toNat
    · rw [if_pos h, if_pos (by omega)]
      show zI (σ 20 (240 * z + ((i.toNat + (q - j.toNat) : Nat) : Int))) = zI (σ 20 (240 * z + i + (240 * y + (q : Int) - (240 * y + j))))
      rw [show 240 * z + ((i.toNat + (q - j.toNat) : Nat) : Int) = 240 * z + i + (240 * y + (q : Int) - (240 * y + j)) by omega]
    · rw [if_neg h, if_neg (by omega)]) (fun q _ hq => by rw [if_neg (by omega)]) k
  obtain ⟨p, l, ee, R, s, m, args, below, meth, c, A, H0, Q, D, t⟩ := K
  obtain ⟨hx, hb, hml, ho, hts, hK, hA⟩ := C
  intro H locs ls hP hD hS hl
  have q0 : ∀ x : Int, 0 ≤ x ∧ x ≤ 240 → ¬ zI x < 0 := fun x hx => by rw [zI_0, zI_lt (by omega) (by omega)]; omega
  refine va_copyi hx hb (by rw [hml, ← hL]; exact hl.1.symm) ho (hts _ gw_27_5) (hts _ gw_27_6) (hts _ gw_27_7) (hts _ gw_27_8) hK hP hD hS (26 + z.toNat) (26 + y.toNat) 0 0 (n0 := 240) (n1 := 240) (ty := .int) (wX_si hz) (wX_si hy) rfl rfl rfl (q0 i (by omega)) (q0 j (by omega)) (q0 n (by omega)) (by rw [zI_clamp (by omega) (by omega), zI_clamp hn (by omega)]; omega) (by rw [zI_clamp (by omega) (by omega), zI_clamp hn (by omega)]; omega) (fun _ _ => rfl) hf hlo d fun H1 locs1 hP hD hS => ?_
  rw [zI_clamp (i := i) (by omega) (by omega), zI_clamp (i := j) (by omega) (by omega), zI_clamp (i := n) hn (by omega)] at hP hD
  exact key H1 locs1 ls hP hD hS hl
end
section
/-! decode rows: InsidePlaces -/
def tbX7_init_0 : List (Nat × Instr × Nat) := [(0, .aload_n 0, 1), (1, .invokespecial 1, 3), (4, .aload_n 0, 1), (5, .new 7, 3), (8, .dup, 1), (9, .invokespecial 9, 3), (12, .putfield 10, 3), (15, .aload_n 0, 1), (16, .new 16, 3), (19, .dup, 1), (20, .invokespecial 18, 3), (23, .putfield 19, 3), (26, .aload_n 0, 1), (27, .new 23, 3), (30, .dup, 1), (31, .invokespecial 25, 3), (34, .putfield 26, 3), (37, .aload_n 0, 1), (38, .new 30, 3), (41, .dup, 1), (42, .invokespecial 32, 3), (45, .putfield 33, 3), (48, .aload_n 0, 1), (49, .new 37, 3), (52, .dup, 1), (53, .invokespecial 39, 3), (56, .putfield 40, 3), (59, .aload_n 0, 1), (60, .iconst 4, 1), (61, .anewarray 44, 3), (64, .putfield 46, 3), (67, .iconst 0, 1), (68, .istore_n 1, 1), (69, .iload_n 1, 1), (70, .iconst 4, 1), (71, .if_icmp .ge 22, 3), (74, .aload_n 0, 1), (75, .getfield 46, 3), (78, .iload_n 1, 1), (79, .new 44, 3)]
theorem dtX7_init_0 : tbX7_init_0.all (fun e => decide (decode cX7_init e.1 = .ok e.2)) = true := by decide +kernel
def tbX7_init_1 : List (Nat × Instr × Nat) := [(82, .dup, 1), (83, .invokespecial 50, 3), (86, .aastore, 1), (87, .iinc 1 1, 3), (90, .goto (-21), 3), (93, .aload_n 0, 1), (94, .bipush 30, 2), (96, .newarray .int, 2), (98, .putfield 51, 3), (101, .aload_n 0, 1), (102, .iconst 0, 1), (103, .putfield 55, 3), (106, .aload_n 0, 1), (107, .iconst 0, 1), (108, .putfield 59, 3), (111, .aload_n 0, 1), (112, .iconst 1, 1), (113, .iconst 4, 1), (114, .iconst 4, 1), (115, .invokevirtual 62, 3), (118, .return_, 1)]
theorem dtX7_init_1 : tbX7_init_1.all (fun e => decide (decode cX7_init e.1 = .ok e.2)) = true := by decide +kernel
def tbX7_building_0 : List (Nat × Instr × Nat) := [(0, .iload_n 1, 1), (1, .iconst 1, 1), (2, .if_icmp .lt 30, 3), (5, .iload_n 1, 1), (6, .iconst 3, 1), (7, .if_icmp .gt 25, 3), (10, .iload_n 2, 1), (11, .iconst 1, 1), (12, .if_icmp .lt 20, 3), (15, .iload_n 2, 1), (16, .bipush 6, 2), (18, .if_icmp .gt 14, 3), (21, .iload_n 3, 1), (22, .iconst 1, 1), (23, .if_icmp .lt 9, 3), (26, .iload_n 3, 1), (27, .bipush 6, 2), (29, .if_icmp .le 6, 3), (32, .bipush (-2), 2), (34, .ireturn, 1), (35, .iload_n 1, 1), (36, .iload_n 2, 1), (37, .imul, 1), (38, .iload_n 3, 1), (39, .imul, 1), (40, .bipush 72, 2), (42, .if_icmp .le 6, 3), (45, .bipush (-2), 2), (47, .ireturn, 1), (48, .aload_n 0, 1), (49, .iload_n 1, 1), (50, .iload_n 2, 1), (51, .iload_n 3, 1), (52, .invokevirtual 62, 3), (55, .aload_n 0, 1), (56, .getfield 10, 3), (59, .invokevirtual 66, 3), (62, .ireturn, 1)]
theorem dtX7_building_0 : tbX7_building_0.all (fun e => decide (decode cX7_building e.1 = .ok e.2)) = true := by decide +kernel
def tbX7_wall_0 : List (Nat × Instr × Nat) := [(0, .aload_n 0, 1), (1, .getfield 10, 3), (4, .iload_n 1, 1), (5, .invokevirtual 70, 3), (8, .ifCond .eq 26, 3), (11, .aload_n 0, 1), (12, .getfield 10, 3), (15, .iload_n 2, 1), (16, .invokevirtual 70, 3), (19, .ifCond .eq 15, 3), (22, .aload_n 0, 1), (23, .getfield 10, 3), (26, .iload_n 1, 1), (27, .iload_n 2, 1), (28, .invokevirtual 74, 3), (31, .ifCond .ne 6, 3), (34, .bipush (-2), 2), (36, .ireturn, 1), (37, .aload_n 0, 1), (38, .getfield 10, 3), (41, .iload_n 1, 1), (42, .iload_n 2, 1), (43, .invokestatic 78, 3), (46, .iload_n 1, 1), (47, .iload_n 2, 1), (48, .invokestatic 84, 3), (51, .iload_n 3, 1), (52, .invokevirtual 87, 3), (55, .ireturn, 1)]
theorem dtX7_wall_0 : tbX7_wall_0.all (fun e => decide (decode cX7_wall e.1 = .ok e.2)) = true := by decide +kernel
def tbX7_lift_0 : List (Nat × Instr × Nat) := [(0, .aload_n 0, 1), (1, .getfield 10, 3), (4, .iload_n 1, 1), (5, .iload_n 2, 1), (6, .invokevirtual 91, 3), (9, .ifCond .ne 6, 3), (12, .bipush (-2), 2), (14, .ireturn, 1), (15, .aload_n 0, 1), (16, .getfield 10, 3), (19, .iload_n 1, 1), (20, .iload_n 2, 1), (21, .iload_n 3, 1), (22, .invokevirtual 94, 3), (25, .ireturn, 1)]
theorem dtX7_lift_0 : tbX7_lift_0.all (fun e => decide (decode cX7_lift e.1 = .ok e.2)) = true := by decide +kernel
def tbX7_stay_0 : List (Nat × Instr × Nat) := [(0, .iload_n 1, 1), (1, .ifCond .lt 9, 3), (4, .iload_n 1, 1), (5, .bipush 9, 2), (7, .if_icmp .le 6, 3), (10, .bipush (-2), 2), (12, .ireturn, 1), (13, .aload_n 0, 1), (14, .getfield 10, 3), (17, .iload_n 1, 1), (18, .invokevirtual 97, 3), (21, .ireturn, 1)]
theorem dtX7_stay_0 : tbX7_stay_0.all (fun e => decide (decode cX7_stay e.1 = .ok e.2)) = true := by decide +kernel
def tbX7_step_0 : List (Nat × Instr × Nat) := [(0, .aload_n 0, 1), (1, .getfield 10, 3), (4, .iload_n 1, 1), (5, .invokevirtual 70, 3), (8, .ifCond .eq 14, 3), (11, .aload_n 0, 1), (12, .getfield 10, 3), (15, .iload_n 2, 1), (16, .invokevirtual 70, 3), (19, .ifCond .ne 6, 3), (22, .bipush (-2), 2), (24, .ireturn, 1), (25, .aload_n 0, 1), (26, .getfield 10, 3), (29, .iload_n 1, 1), (30, .iload_n 2, 1), (31, .invokevirtual 101, 3), (34, .ireturn, 1)]
theorem dtX7_step_0 : tbX7_step_0.all (fun e => decide (decode cX7_step e.1 = .ok e.2)) = true := by decide +kernel
def tbX7_far_0 : List (Nat × Instr × Nat) := [(0, .aload_n 0, 1), (1, .getfield 10, 3), (4, .iload_n 1, 1), (5, .invokevirtual 70, 3), (8, .ifCond .eq 14, 3), (11, .aload_n 0, 1), (12, .getfield 10, 3), (15, .iload_n 2, 1), (16, .invokevirtual 70, 3), (19, .ifCond .ne 6, 3), (22, .bipush (-2), 2), (24, .ireturn, 1), (25, .aload_n 0, 1), (26, .getfield 10, 3), (29, .iload_n 1, 1), (30, .iload_n 2, 1), (31, .invokevirtual 104, 3), (34, .ireturn, 1)]
theorem dtX7_far_0 : tbX7_far_0.all (fun e => decide (decode cX7_far e.1 = .ok e.2)) = true := by decide +kernel
def tbX7_dead_0 : List (Nat × Instr × Nat) := [(0, .iload_n 1, 1), (1, .invokestatic 107, 3), (4, .ifCond .ne 6, 3), (7, .bipush (-2), 2), (9, .ireturn, 1), (10, .aload_n 0, 1), (11, .getfield 19, 3), (14, .iload_n 1, 1), (15, .iload_n 2, 1), (16, .invokevirtual 110, 3), (19, .iconst 1, 1), (20, .ireturn, 1)]
theorem dtX7_dead_0 : tbX7_dead_0.all (fun e => decide (decode cX7_dead e.1 = .ok e.2)) = true := by decide +kernel
def tbX7_survey_0 : List (Nat × Instr × Nat) := [(0, .iload_n 1, 1), (1, .invokestatic 114, 3), (4, .ifCond .eq 14, 3), (7, .aload_n 0, 1), (8, .getfield 10, 3), (11, .iload_n 3, 1), (12, .invokevirtual 70, 3), (15, .ifCond .ne 6, 3), (18, .bipush (-2), 2), (20, .ireturn, 1), (21, .aload_n 0, 1), (22, .getfield 46, 3), (25, .iload_n 1, 1), (26, .aaload, 1), (27, .iload_n 2, 1), (28, .invokestatic 117, 3), (31, .istore 4, 2), (33, .iload 4, 2), (35, .ifCond .eq 10, 3), (38, .aload_n 0, 1), (39, .iload 4, 2), (41, .invokevirtual 121, 3), (44, .ireturn, 1), (45, .aload_n 0, 1), (46, .getfield 19, 3), (49, .aload_n 0, 1), (50, .getfield 46, 3), (53, .iload_n 1, 1), (54, .aaload, 1), (55, .iload_n 2, 1), (56, .iload_n 3, 1), (57, .invokevirtual 124, 3), (60, .ireturn, 1)]
theorem dtX7_survey_0 : tbX7_survey_0.all (fun e => decide (decode cX7_survey e.1 = .ok e.2)) = true := by decide +kernel
def tbX7_weight_0 : List (Nat × Instr × Nat) := [(0, .iload_n 1, 1), (1, .invokestatic 107, 3), (4, .ifCond .eq 25, 3), (7, .aload_n 0, 1), (8, .getfield 10, 3), (11, .iload_n 2, 1), (12, .invokevirtual 70, 3), (15, .ifCond .eq 14, 3), (18, .iload_n 3, 1), (19, .iconst (-1), 1), (20, .if_icmp .lt 9, 3), (23, .iload_n 3, 1), (24, .bipush 9, 2), (26, .if_icmp .le 6, 3), (29, .bipush (-2), 2), (31, .ireturn, 1), (32, .aload_n 0, 1), (33, .getfield 19, 3), (36, .iload_n 1, 1), (37, .iload_n 2, 1), (38, .iload_n 3, 1), (39, .invokevirtual 128, 3), (42, .ireturn, 1)]
theorem dtX7_weight_0 : tbX7_weight_0.all (fun e => decide (decode cX7_weight e.1 = .ok e.2)) = true := by decide +kernel
def tbX7_offset_0 : List (Nat × Instr × Nat) := [(0, .iload_n 1, 1), (1, .invokestatic 114, 3), (4, .ifCond .eq 14, 3), (7, .aload_n 0, 1), (8, .getfield 10, 3), (11, .iload_n 3, 1), (12, .invokevirtual 70, 3), (15, .ifCond .ne 6, 3), (18, .bipush (-100), 2), (20, .ireturn, 1), (21, .aload_n 0, 1), (22, .getfield 46, 3), (25, .iload_n 1, 1), (26, .aaload, 1), (27, .iload_n 2, 1), (28, .invokestatic 117, 3), (31, .istore 4, 2), (33, .iload 4, 2), (35, .ifCond .eq 10, 3), (38, .aload_n 0, 1), (39, .iload 4, 2), (41, .invokevirtual 121, 3), (44, .ireturn, 1), (45, .aload_n 0, 1), (46, .getfield 19, 3), (49, .aload_n 0, 1), (50, .getfield 46, 3), (53, .iload_n 1, 1), (54, .aaload, 1), (55, .iload_n 2, 1), (56, .iload_n 3, 1), (57, .invokevirtual 132, 3), (60, .ireturn, 1)]
theorem dtX7_offset_0 : tbX7_offset_0.all (fun e => decide (decode cX7_offset e.1 = .ok e.2)) = true := by decide +kernel
def tbX7_alike_0 : List (Nat × Instr × Nat) := [(0, .aload_n 0, 1), (1, .getfield 26, 3), (4, .aload_n 0, 1), (5, .getfield 10, 3), (8, .invokevirtual 66, 3), (11, .invokevirtual 135, 3), (14, .aload_n 0, 1), (15, .getfield 26, 3), (18, .aload_n 0, 1), (19, .getfield 10, 3), (22, .invokevirtual 66, 3), (25, .iconst 1, 1), (26, .isub, 1), (27, .invokevirtual 139, 3), (30, .ireturn, 1)]
theorem dtX7_alike_0 : tbX7_alike_0.all (fun e => decide (decode cX7_alike e.1 = .ok e.2)) = true := by decide +kernel
def tbX7_known_0 : List (Nat × Instr × Nat) := [(0, .aload_n 0, 1), (1, .getfield 10, 3), (4, .iload_n 1, 1), (5, .invokevirtual 70, 3), (8, .ifCond .ne 6, 3), (11, .bipush (-2), 2), (13, .ireturn, 1), (14, .aload_n 0, 1), (15, .getfield 26, 3), (18, .iload_n 1, 1), (19, .invokevirtual 142, 3), (22, .iconst 1, 1), (23, .ireturn, 1)]
theorem dtX7_known_0 : tbX7_known_0.all (fun e => decide (decode cX7_known e.1 = .ok e.2)) = true := by decide +kernel
def tbX7_lead_0 : List (Nat × Instr × Nat) := [(0, .iload_n 1, 1), (1, .iconst 1, 1), (2, .if_icmp .lt 9, 3), (5, .iload_n 1, 1), (6, .bipush 20, 2), (8, .if_icmp .le 6, 3), (11, .bipush (-2), 2), (13, .ireturn, 1), (14, .iconst 0, 1), (15, .istore_n 2, 1), (16, .iload_n 2, 1), (17, .iload_n 1, 1), (18, .if_icmp .ge 20, 3), (21, .aload_n 0, 1), (22, .getfield 26, 3), (25, .aload_n 0, 1), (26, .getfield 10, 3), (29, .invokevirtual 145, 3), (32, .iinc 2 1, 3), (35, .goto (-19), 3), (38, .aload_n 0, 1), (39, .getfield 26, 3), (42, .invokevirtual 149, 3), (45, .ireturn, 1)]
theorem dtX7_lead_0 : tbX7_lead_0.all (fun e => decide (decode cX7_lead e.1 = .ok e.2)) = true := by decide +kernel
def tbX7_hear_0 : List (Nat × Instr × Nat) := [(0, .iload_n 1, 1), (1, .invokestatic 114, 3), (4, .ifCond .eq 14, 3), (7, .iload_n 3, 1), (8, .bipush (-4), 2), (10, .if_icmp .lt 8, 3), (13, .iload_n 3, 1), (14, .iconst 4, 1), (15, .if_icmp .le 6, 3), (18, .bipush (-2), 2), (20, .ireturn, 1), (21, .aload_n 0, 1), (22, .getfield 46, 3), (25, .iload_n 1, 1), (26, .aaload, 1), (27, .iload_n 2, 1), (28, .invokestatic 117, 3), (31, .istore 4, 2), (33, .iload 4, 2), (35, .ifCond .eq 10, 3), (38, .aload_n 0, 1), (39, .iload 4, 2), (41, .invokevirtual 121, 3), (44, .ireturn, 1), (45, .aload_n 0, 1), (46, .getfield 26, 3), (49, .aload_n 0, 1), (50, .getfield 19, 3), (53, .aload_n 0, 1), (54, .getfield 46, 3), (57, .iload_n 1, 1), (58, .aaload, 1), (59, .iload_n 2, 1), (60, .iload_n 3, 1), (61, .invokevirtual 152, 3), (64, .ifCond .eq 13, 3), (67, .aload_n 0, 1), (68, .getfield 26, 3), (71, .invokevirtual 149, 3), (74, .goto 5, 3)]
theorem dtX7_hear_0 : tbX7_hear_0.all (fun e => decide (decode cX7_hear e.1 = .ok e.2)) = true := by decide +kernel
def tbX7_hear_1 : List (Nat × Instr × Nat) := [(77, .bipush (-3), 2), (79, .ireturn, 1)]
theorem dtX7_hear_1 : tbX7_hear_1.all (fun e => decide (decode cX7_hear e.1 = .ok e.2)) = true := by decide +kernel
def tbX7_share_0 : List (Nat × Instr × Nat) := [(0, .aload_n 0, 1), (1, .getfield 10, 3), (4, .iload_n 1, 1), (5, .invokevirtual 70, 3), (8, .ifCond .eq 14, 3), (11, .aload_n 0, 1), (12, .getfield 26, 3), (15, .iload_n 1, 1), (16, .invokevirtual 139, 3), (19, .goto 5, 3), (22, .bipush (-2), 2), (24, .ireturn, 1)]
theorem dtX7_share_0 : tbX7_share_0.all (fun e => decide (decode cX7_share e.1 = .ok e.2)) = true := by decide +kernel
def tbX7_likeliest_0 : List (Nat × Instr × Nat) := [(0, .aload_n 0, 1), (1, .getfield 26, 3), (4, .invokevirtual 156, 3), (7, .ireturn, 1)]
theorem dtX7_likeliest_0 : tbX7_likeliest_0.all (fun e => decide (decode cX7_likeliest e.1 = .ok e.2)) = true := by decide +kernel
def tbX7_within_0 : List (Nat × Instr × Nat) := [(0, .aload_n 0, 1), (1, .getfield 10, 3), (4, .iload_n 1, 1), (5, .iload_n 2, 1), (6, .iload_n 3, 1), (7, .iload 4, 2), (9, .iload 5, 2), (11, .invokevirtual 159, 3), (14, .ifCond .ne 6, 3), (17, .bipush (-2), 2), (19, .ireturn, 1), (20, .iconst 0, 1), (21, .istore 6, 2), (23, .iload 4, 2), (25, .istore 7, 2), (27, .iload 7, 2), (29, .iload 5, 2), (31, .if_icmp .gt 48, 3), (34, .iload_n 2, 1), (35, .istore 8, 2), (37, .iload 8, 2), (39, .iload_n 3, 1), (40, .if_icmp .gt 33, 3), (43, .iload 6, 2), (45, .aload_n 0, 1), (46, .getfield 26, 3), (49, .aload_n 0, 1), (50, .getfield 10, 3), (53, .iload_n 1, 1), (54, .iload 8, 2), (56, .iload 7, 2), (58, .invokevirtual 163, 3), (61, .invokevirtual 139, 3), (64, .iadd, 1), (65, .istore 6, 2), (67, .iinc 8 1, 3), (70, .goto (-33), 3), (73, .iinc 7 1, 3), (76, .goto (-49), 3), (79, .iload 6, 2)]
theorem dtX7_within_0 : tbX7_within_0.all (fun e => decide (decode cX7_within e.1 = .ok e.2)) = true := by decide +kernel
def tbX7_within_1 : List (Nat × Instr × Nat) := [(81, .ireturn, 1)]
theorem dtX7_within_1 : tbX7_within_1.all (fun e => decide (decode cX7_within e.1 = .ok e.2)) = true := by decide +kernel
def tbX7_sure_0 : List (Nat × Instr × Nat) := [(0, .iload_n 1, 1), (1, .ifCond .lt 9, 3), (4, .iload_n 1, 1), (5, .ldc 166, 2), (7, .if_icmp .le 6, 3), (10, .bipush (-2), 2), (12, .ireturn, 1), (13, .aload_n 0, 1), (14, .getfield 26, 3), (17, .iload_n 1, 1), (18, .invokevirtual 167, 3), (21, .ireturn, 1)]
theorem dtX7_sure_0 : tbX7_sure_0.all (fun e => decide (decode cX7_sure e.1 = .ok e.2)) = true := by decide +kernel
def tbX7_best_0 : List (Nat × Instr × Nat) := [(0, .iload_n 1, 1), (1, .invokestatic 114, 3), (4, .ifCond .ne 6, 3), (7, .bipush (-2), 2), (9, .ireturn, 1), (10, .aload_n 0, 1), (11, .aload_n 0, 1), (12, .getfield 46, 3), (15, .iload_n 1, 1), (16, .aaload, 1), (17, .invokevirtual 170, 3), (20, .istore_n 2, 1), (21, .iload_n 2, 1), (22, .ifCond .lt 16, 3), (25, .aload_n 0, 1), (26, .aload_n 0, 1), (27, .getfield 46, 3), (30, .iload_n 1, 1), (31, .aaload, 1), (32, .invokevirtual 174, 3), (35, .invokevirtual 177, 3), (38, .iload_n 2, 1), (39, .ireturn, 1)]
theorem dtX7_best_0 : tbX7_best_0.all (fun e => decide (decode cX7_best e.1 = .ok e.2)) = true := by decide +kernel
def tbX7_way_0 : List (Nat × Instr × Nat) := [(0, .iload_n 1, 1), (1, .ifCond .lt 20, 3), (4, .iload_n 1, 1), (5, .aload_n 0, 1), (6, .getfield 55, 3), (9, .if_icmp .ge 12, 3), (12, .aload_n 0, 1), (13, .getfield 51, 3), (16, .iload_n 1, 1), (17, .iaload, 1), (18, .goto 5, 3), (21, .bipush (-2), 2), (23, .ireturn, 1)]
theorem dtX7_way_0 : tbX7_way_0.all (fun e => decide (decode cX7_way e.1 = .ok e.2)) = true := by decide +kernel
def tbX7_learn_0 : List (Nat × Instr × Nat) := [(0, .iload_n 1, 1), (1, .invokestatic 114, 3), (4, .ifCond .ne 6, 3), (7, .bipush (-2), 2), (9, .ireturn, 1), (10, .aload_n 0, 1), (11, .getfield 46, 3), (14, .iload_n 1, 1), (15, .aaload, 1), (16, .astore_n 2, 1), (17, .aload_n 0, 1), (18, .aload_n 2, 1), (19, .invokevirtual 170, 3), (22, .istore_n 3, 1), (23, .iload_n 3, 1), (24, .ifCond .ge 5, 3), (27, .iload_n 3, 1), (28, .ireturn, 1), (29, .aload_n 0, 1), (30, .aload_n 2, 1), (31, .invokevirtual 174, 3), (34, .invokevirtual 177, 3), (37, .iconst 0, 1), (38, .istore 4, 2), (40, .iload 4, 2), (42, .aload_n 0, 1), (43, .getfield 55, 3), (46, .if_icmp .ge 27, 3), (49, .aload_n 0, 1), (50, .getfield 19, 3), (53, .aload_n 2, 1), (54, .iload 4, 2), (56, .aload_n 0, 1), (57, .getfield 51, 3), (60, .iload 4, 2), (62, .iaload, 1), (63, .invokevirtual 124, 3), (66, .pop, 1), (67, .iinc 4 1, 3), (70, .goto (-30), 3)]
theorem dtX7_learn_0 : tbX7_learn_0.all (fun e => decide (decode cX7_learn e.1 = .ok e.2)) = true := by decide +kernel
def tbX7_learn_1 : List (Nat × Instr × Nat) := [(73, .aload_n 0, 1), (74, .getfield 55, 3), (77, .ireturn, 1)]
theorem dtX7_learn_1 : tbX7_learn_1.all (fun e => decide (decode cX7_learn e.1 = .ok e.2)) = true := by decide +kernel
def tbX7_moved_0 : List (Nat × Instr × Nat) := [(0, .iload_n 1, 1), (1, .invokestatic 114, 3), (4, .ifCond .ne 6, 3), (7, .bipush (-2), 2), (9, .ireturn, 1), (10, .aload_n 0, 1), (11, .getfield 46, 3), (14, .iload_n 1, 1), (15, .aaload, 1), (16, .astore_n 2, 1), (17, .aload_n 0, 1), (18, .aload_n 2, 1), (19, .invokevirtual 170, 3), (22, .istore_n 3, 1), (23, .iload_n 3, 1), (24, .ifCond .ge 5, 3), (27, .iload_n 3, 1), (28, .ireturn, 1), (29, .iconst 0, 1), (30, .istore 4, 2), (32, .iconst 0, 1), (33, .istore 5, 2), (35, .iload 5, 2), (37, .bipush 8, 2), (39, .if_icmp .ge 40, 3), (42, .aload_n 0, 1), (43, .getfield 19, 3), (46, .iload 5, 2), (48, .invokevirtual 180, 3), (51, .ifCond .ne 22, 3), (54, .aload_n 0, 1), (55, .aload_n 2, 1), (56, .iload 5, 2), (58, .invokevirtual 183, 3), (61, .ifCond .eq 12, 3), (64, .iload 4, 2), (66, .iconst 1, 1), (67, .iload 5, 2), (69, .ishl, 1), (70, .ior, 1)]
theorem dtX7_moved_0 : tbX7_moved_0.all (fun e => decide (decode cX7_moved e.1 = .ok e.2)) = true := by decide +kernel
def tbX7_moved_1 : List (Nat × Instr × Nat) := [(71, .istore 4, 2), (73, .iinc 5 1, 3), (76, .goto (-41), 3), (79, .iload 4, 2), (81, .ireturn, 1)]
theorem dtX7_moved_1 : tbX7_moved_1.all (fun e => decide (decode cX7_moved e.1 = .ok e.2)) = true := by decide +kernel
def tbX7_put_0 : List (Nat × Instr × Nat) := [(0, .iload_n 1, 1), (1, .ifCond .lt 25, 3), (4, .iload_n 1, 1), (5, .bipush 20, 2), (7, .if_icmp .ge 19, 3), (10, .iload_n 2, 1), (11, .iconst (-1), 1), (12, .if_icmp .eq 17, 3), (15, .aload_n 0, 1), (16, .getfield 10, 3), (19, .iload_n 2, 1), (20, .invokevirtual 70, 3), (23, .ifCond .ne 6, 3), (26, .bipush (-2), 2), (28, .ireturn, 1), (29, .aload_n 0, 1), (30, .getfield 40, 3), (33, .iload_n 1, 1), (34, .iload_n 2, 1), (35, .invokevirtual 187, 3), (38, .ireturn, 1)]
theorem dtX7_put_0 : tbX7_put_0.all (fun e => decide (decode cX7_put e.1 = .ok e.2)) = true := by decide +kernel
def tbX7_least_0 : List (Nat × Instr × Nat) := [(0, .iload_n 1, 1), (1, .iconst 1, 1), (2, .if_icmp .lt 9, 3), (5, .iload_n 1, 1), (6, .bipush 20, 2), (8, .if_icmp .le 6, 3), (11, .bipush (-2), 2), (13, .ireturn, 1), (14, .aload_n 0, 1), (15, .getfield 40, 3), (18, .iload_n 1, 1), (19, .invokevirtual 190, 3), (22, .ireturn, 1)]
theorem dtX7_least_0 : tbX7_least_0.all (fun e => decide (decode cX7_least e.1 = .ok e.2)) = true := by decide +kernel
def tbX7_give_0 : List (Nat × Instr × Nat) := [(0, .aload_n 0, 1), (1, .getfield 10, 3), (4, .iload_n 1, 1), (5, .iload_n 2, 1), (6, .iload_n 3, 1), (7, .iload 4, 2), (9, .iload 5, 2), (11, .invokevirtual 159, 3), (14, .ifCond .ne 6, 3), (17, .bipush (-2), 2), (19, .ireturn, 1), (20, .aload_n 0, 1), (21, .getfield 40, 3), (24, .new 193, 3), (27, .dup, 1), (28, .iload_n 1, 1), (29, .iload_n 2, 1), (30, .iload_n 3, 1), (31, .iload 4, 2), (33, .iload 5, 2), (35, .invokespecial 195, 3), (38, .aload_n 0, 1), (39, .getfield 10, 3), (42, .invokevirtual 198, 3), (45, .ireturn, 1)]
theorem dtX7_give_0 : tbX7_give_0.all (fun e => decide (decode cX7_give e.1 = .ok e.2)) = true := by decide +kernel
def tbX7_sheet_0 : List (Nat × Instr × Nat) := [(0, .iload_n 1, 1), (1, .invokestatic 114, 3), (4, .ifCond .eq 17, 3), (7, .iload_n 2, 1), (8, .invokestatic 202, 3), (11, .ifCond .eq 10, 3), (14, .iload_n 3, 1), (15, .sipush 240, 3), (18, .if_icmp .le 6, 3), (21, .bipush (-2), 2), (23, .ireturn, 1), (24, .iload_n 3, 1), (25, .ifCond .ge 9, 3), (28, .aload_n 0, 1), (29, .iconst 5, 1), (30, .invokevirtual 121, 3), (33, .ireturn, 1), (34, .aload_n 0, 1), (35, .getfield 46, 3), (38, .iload_n 1, 1), (39, .aaload, 1), (40, .iload_n 2, 1), (41, .iload_n 3, 1), (42, .invokevirtual 205, 3), (45, .iload_n 3, 1), (46, .ireturn, 1)]
theorem dtX7_sheet_0 : tbX7_sheet_0.all (fun e => decide (decode cX7_sheet e.1 = .ok e.2)) = true := by decide +kernel
def tbX7_lose_0 : List (Nat × Instr × Nat) := [(0, .iload_n 1, 1), (1, .invokestatic 114, 3), (4, .ifCond .ne 6, 3), (7, .bipush (-2), 2), (9, .ireturn, 1), (10, .aload_n 0, 1), (11, .getfield 46, 3), (14, .iload_n 1, 1), (15, .aaload, 1), (16, .getfield 209, 3), (19, .ifCond .eq 9, 3), (22, .aload_n 0, 1), (23, .iconst 1, 1), (24, .invokevirtual 121, 3), (27, .ireturn, 1), (28, .aload_n 0, 1), (29, .getfield 46, 3), (32, .iload_n 1, 1), (33, .aaload, 1), (34, .invokevirtual 213, 3), (37, .ireturn, 1)]
theorem dtX7_lose_0 : tbX7_lose_0.all (fun e => decide (decode cX7_lose e.1 = .ok e.2)) = true := by decide +kernel
def tbX7_lay_0 : List (Nat × Instr × Nat) := [(0, .iload_n 1, 1), (1, .invokestatic 114, 3), (4, .ifCond .eq 10, 3), (7, .iload_n 2, 1), (8, .invokestatic 202, 3), (11, .ifCond .ne 6, 3), (14, .bipush (-2), 2), (16, .ireturn, 1), (17, .aload_n 0, 1), (18, .getfield 46, 3), (21, .iload_n 1, 1), (22, .aaload, 1), (23, .iload_n 2, 1), (24, .iload_n 3, 1), (25, .invokestatic 216, 3), (28, .istore 5, 2), (30, .iload 5, 2), (32, .ifCond .eq 10, 3), (35, .aload_n 0, 1), (36, .iload 5, 2), (38, .invokevirtual 121, 3), (41, .ireturn, 1), (42, .aload_n 0, 1), (43, .getfield 46, 3), (46, .iload_n 1, 1), (47, .aaload, 1), (48, .iload_n 3, 1), (49, .iload 4, 2), (51, .invokevirtual 219, 3), (54, .iconst 1, 1), (55, .ireturn, 1)]
theorem dtX7_lay_0 : tbX7_lay_0.all (fun e => decide (decode cX7_lay e.1 = .ok e.2)) = true := by decide +kernel
def tbX7_get_0 : List (Nat × Instr × Nat) := [(0, .iload_n 1, 1), (1, .invokestatic 114, 3), (4, .ifCond .eq 10, 3), (7, .iload_n 2, 1), (8, .invokestatic 202, 3), (11, .ifCond .ne 6, 3), (14, .ldc 222, 2), (16, .ireturn, 1), (17, .aload_n 0, 1), (18, .getfield 46, 3), (21, .iload_n 1, 1), (22, .aaload, 1), (23, .iload_n 2, 1), (24, .iload_n 3, 1), (25, .invokestatic 216, 3), (28, .istore 4, 2), (30, .iload 4, 2), (32, .ifCond .eq 13, 3), (35, .aload_n 0, 1), (36, .iload 4, 2), (38, .invokevirtual 121, 3), (41, .pop, 1), (42, .ldc 222, 2), (44, .ireturn, 1), (45, .aload_n 0, 1), (46, .getfield 46, 3), (49, .iload_n 1, 1), (50, .aaload, 1), (51, .getfield 223, 3), (54, .iload_n 3, 1), (55, .iaload, 1), (56, .ireturn, 1)]
theorem dtX7_get_0 : tbX7_get_0.all (fun e => decide (decode cX7_get e.1 = .ok e.2)) = true := by decide +kernel
def tbX7_copy_0 : List (Nat × Instr × Nat) := [(0, .iload_n 1, 1), (1, .invokestatic 114, 3), (4, .ifCond .eq 10, 3), (7, .iload_n 3, 1), (8, .invokestatic 114, 3), (11, .ifCond .ne 6, 3), (14, .bipush (-2), 2), (16, .ireturn, 1), (17, .aload_n 0, 1), (18, .getfield 46, 3), (21, .iload_n 1, 1), (22, .aaload, 1), (23, .astore 6, 2), (25, .aload_n 0, 1), (26, .getfield 46, 3), (29, .iload_n 3, 1), (30, .aaload, 1), (31, .astore 7, 2), (33, .aload 6, 2), (35, .getfield 209, 3), (38, .ifCond .ne 11, 3), (41, .aload 7, 2), (43, .getfield 209, 3), (46, .ifCond .eq 9, 3), (49, .aload_n 0, 1), (50, .iconst 1, 1), (51, .invokevirtual 121, 3), (54, .ireturn, 1), (55, .aload 6, 2), (57, .getfield 226, 3), (60, .aload 7, 2), (62, .getfield 226, 3), (65, .if_icmp .eq 9, 3), (68, .aload_n 0, 1), (69, .iconst 4, 1), (70, .invokevirtual 121, 3), (73, .ireturn, 1), (74, .aload 6, 2), (76, .iload_n 2, 1), (77, .iload 5, 2)]
theorem dtX7_copy_0 : tbX7_copy_0.all (fun e => decide (decode cX7_copy e.1 = .ok e.2)) = true := by decide +kernel
def tbX7_copy_1 : List (Nat × Instr × Nat) := [(79, .invokevirtual 229, 3), (82, .ifCond .eq 15, 3), (85, .aload 7, 2), (87, .iload 4, 2), (89, .iload 5, 2), (91, .invokevirtual 229, 3), (94, .ifCond .ne 9, 3), (97, .aload_n 0, 1), (98, .iconst 2, 1), (99, .invokevirtual 121, 3), (102, .ireturn, 1), (103, .aload 6, 2), (105, .getfield 223, 3), (108, .iload_n 2, 1), (109, .aload 7, 2), (111, .getfield 223, 3), (114, .iload 4, 2), (116, .iload 5, 2), (118, .invokestatic 232, 3), (121, .iconst 1, 1), (122, .ireturn, 1)]
theorem dtX7_copy_1 : tbX7_copy_1.all (fun e => decide (decode cX7_copy e.1 = .ok e.2)) = true := by decide +kernel
def tbX7_count_0 : List (Nat × Instr × Nat) := [(0, .iload_n 1, 1), (1, .tableswitch 144 0 10 #[59, 67, 75, 83, 91, 99, 107, 112, 120, 128, 136], 59), (60, .aload_n 0, 1), (61, .getfield 10, 3), (64, .getfield 238, 3), (67, .ireturn, 1), (68, .aload_n 0, 1), (69, .getfield 10, 3), (72, .getfield 241, 3), (75, .ireturn, 1), (76, .aload_n 0, 1), (77, .getfield 10, 3), (80, .getfield 244, 3), (83, .ireturn, 1), (84, .aload_n 0, 1), (85, .getfield 10, 3), (88, .getfield 247, 3), (91, .ireturn, 1), (92, .aload_n 0, 1), (93, .getfield 10, 3), (96, .getfield 250, 3), (99, .ireturn, 1), (100, .aload_n 0, 1), (101, .getfield 40, 3), (104, .getfield 253, 3), (107, .ireturn, 1), (108, .aload_n 0, 1), (109, .getfield 59, 3), (112, .ireturn, 1), (113, .aload_n 0, 1), (114, .getfield 10, 3), (117, .getfield 256, 3), (120, .ireturn, 1), (121, .aload_n 0, 1), (122, .getfield 40, 3), (125, .getfield 259, 3), (128, .ireturn, 1), (129, .aload_n 0, 1), (130, .getfield 19, 3), (133, .getfield 262, 3)]
theorem dtX7_count_0 : tbX7_count_0.all (fun e => decide (decode cX7_count e.1 = .ok e.2)) = true := by decide +kernel
def tbX7_count_1 : List (Nat × Instr × Nat) := [(136, .ireturn, 1), (137, .aload_n 0, 1), (138, .getfield 40, 3), (141, .invokevirtual 265, 3), (144, .ireturn, 1), (145, .bipush (-2), 2), (147, .ireturn, 1)]
theorem dtX7_count_1 : tbX7_count_1.all (fun e => decide (decode cX7_count e.1 = .ok e.2)) = true := by decide +kernel
def tbX7_digest_0 : List (Nat × Instr × Nat) := [(0, .ldc2_w 268, 3), (3, .lstore_n 1, 1), (4, .iconst 0, 1), (5, .istore_n 3, 1), (6, .iload_n 3, 1), (7, .bipush 10, 2), (9, .if_icmp .gt 28, 3), (12, .iload_n 3, 1), (13, .bipush 6, 2), (15, .if_icmp .eq 16, 3), (18, .ldc2_w 270, 3), (21, .lload_n 1, 1), (22, .lmul, 1), (23, .aload_n 0, 1), (24, .iload_n 3, 1), (25, .invokevirtual 272, 3), (28, .i2l, 1), (29, .ladd, 1), (30, .lstore_n 1, 1), (31, .iinc 3 1, 3), (34, .goto (-28), 3), (37, .aload_n 0, 1), (38, .getfield 10, 3), (41, .invokevirtual 66, 3), (44, .istore_n 3, 1), (45, .iconst 0, 1), (46, .istore 4, 2), (48, .iload 4, 2), (50, .iload_n 3, 1), (51, .if_icmp .ge 26, 3), (54, .ldc2_w 270, 3), (57, .lload_n 1, 1), (58, .lmul, 1), (59, .aload_n 0, 1), (60, .getfield 26, 3), (63, .iload 4, 2), (65, .invokevirtual 139, 3), (68, .i2l, 1), (69, .ladd, 1), (70, .lstore_n 1, 1)]
theorem dtX7_digest_0 : tbX7_digest_0.all (fun e => decide (decode cX7_digest e.1 = .ok e.2)) = true := by decide +kernel
def tbX7_digest_1 : List (Nat × Instr × Nat) := [(71, .iinc 4 1, 3), (74, .goto (-26), 3), (77, .iconst 0, 1), (78, .istore 4, 2), (80, .iload 4, 2), (82, .bipush 8, 2), (84, .if_icmp .ge 43, 3), (87, .iconst 0, 1), (88, .istore 5, 2), (90, .iload 5, 2), (92, .iload_n 3, 1), (93, .if_icmp .ge 28, 3), (96, .ldc2_w 270, 3), (99, .lload_n 1, 1), (100, .lmul, 1), (101, .aload_n 0, 1), (102, .getfield 19, 3), (105, .iload 4, 2), (107, .iload 5, 2), (109, .invokevirtual 275, 3), (112, .i2l, 1), (113, .ladd, 1), (114, .lstore_n 1, 1), (115, .iinc 5 1, 3), (118, .goto (-28), 3), (121, .iinc 4 1, 3), (124, .goto (-44), 3), (127, .lload_n 1, 1), (128, .lreturn, 1)]
theorem dtX7_digest_1 : tbX7_digest_1.all (fun e => decide (decode cX7_digest e.1 = .ok e.2)) = true := by decide +kernel
def tbX7_layOut_0 : List (Nat × Instr × Nat) := [(0, .aload_n 0, 1), (1, .getfield 10, 3), (4, .iload_n 1, 1), (5, .iload_n 2, 1), (6, .iload_n 3, 1), (7, .invokevirtual 278, 3), (10, .aload_n 0, 1), (11, .getfield 19, 3), (14, .invokevirtual 281, 3), (17, .aload_n 0, 1), (18, .getfield 26, 3), (21, .aload_n 0, 1), (22, .getfield 10, 3), (25, .invokevirtual 66, 3), (28, .invokevirtual 135, 3), (31, .aload_n 0, 1), (32, .getfield 40, 3), (35, .invokevirtual 284, 3), (38, .return_, 1)]
theorem dtX7_layOut_0 : tbX7_layOut_0.all (fun e => decide (decode cX7_layOut e.1 = .ok e.2)) = true := by decide +kernel
def tbX7_isSender_0 : List (Nat × Instr × Nat) := [(0, .iload_n 0, 1), (1, .ifCond .lt 13, 3), (4, .iload_n 0, 1), (5, .bipush 8, 2), (7, .if_icmp .ge 7, 3), (10, .iconst 1, 1), (11, .goto 4, 3), (14, .iconst 0, 1), (15, .ireturn, 1)]
theorem dtX7_isSender_0 : tbX7_isSender_0.all (fun e => decide (decode cX7_isSender e.1 = .ok e.2)) = true := by decide +kernel
def tbX7_isSheet_0 : List (Nat × Instr × Nat) := [(0, .iload_n 0, 1), (1, .ifCond .lt 12, 3), (4, .iload_n 0, 1), (5, .iconst 4, 1), (6, .if_icmp .ge 7, 3), (9, .iconst 1, 1), (10, .goto 4, 3), (13, .iconst 0, 1), (14, .ireturn, 1)]
theorem dtX7_isSheet_0 : tbX7_isSheet_0.all (fun e => decide (decode cX7_isSheet e.1 = .ok e.2)) = true := by decide +kernel
def tbX7_isForm_0 : List (Nat × Instr × Nat) := [(0, .iload_n 0, 1), (1, .ifCond .lt 12, 3), (4, .iload_n 0, 1), (5, .iconst 3, 1), (6, .if_icmp .ge 7, 3), (9, .iconst 1, 1), (10, .goto 4, 3), (13, .iconst 0, 1), (14, .ireturn, 1)]
theorem dtX7_isForm_0 : tbX7_isForm_0.all (fun e => decide (decode cX7_isForm e.1 = .ok e.2)) = true := by decide +kernel
def tbX7_finding_0 : List (Nat × Instr × Nat) := [(0, .aload_n 0, 1), (1, .iload_n 1, 1), (2, .putfield 59, 3), (5, .bipush (-10), 2), (7, .iload_n 1, 1), (8, .isub, 1), (9, .ireturn, 1)]
theorem dtX7_finding_0 : tbX7_finding_0.all (fun e => decide (decode cX7_finding e.1 = .ok e.2)) = true := by decide +kernel
def tbX7_rowProblem_0 : List (Nat × Instr × Nat) := [(0, .aload_n 0, 1), (1, .getfield 209, 3), (4, .ifCond .eq 5, 3), (7, .iconst 1, 1), (8, .ireturn, 1), (9, .iload_n 1, 1), (10, .ifCond .lt 15, 3), (13, .iload_n 1, 1), (14, .aload_n 0, 1), (15, .invokevirtual 174, 3), (18, .if_icmp .ge 7, 3), (21, .iconst 0, 1), (22, .goto 4, 3), (25, .iconst 2, 1), (26, .ireturn, 1)]
theorem dtX7_rowProblem_0 : tbX7_rowProblem_0.all (fun e => decide (decode cX7_rowProblem e.1 = .ok e.2)) = true := by decide +kernel
def tbX7_itemProblem_0 : List (Nat × Instr × Nat) := [(0, .aload_n 0, 1), (1, .getfield 209, 3), (4, .ifCond .eq 5, 3), (7, .iconst 1, 1), (8, .ireturn, 1), (9, .aload_n 0, 1), (10, .getfield 226, 3), (13, .iload_n 1, 1), (14, .if_icmp .eq 5, 3), (17, .iconst 3, 1), (18, .ireturn, 1), (19, .iload_n 2, 1), (20, .ifCond .lt 15, 3), (23, .iload_n 2, 1), (24, .aload_n 0, 1), (25, .getfield 287, 3), (28, .if_icmp .ge 7, 3), (31, .iconst 0, 1), (32, .goto 4, 3), (35, .iconst 2, 1), (36, .ireturn, 1)]
theorem dtX7_itemProblem_0 : tbX7_itemProblem_0.all (fun e => decide (decode cX7_itemProblem e.1 = .ok e.2)) = true := by decide +kernel
def tbX7_bestScore_0 : List (Nat × Instr × Nat) := [(0, .aload_n 1, 1), (1, .getfield 209, 3), (4, .ifCond .eq 9, 3), (7, .aload_n 0, 1), (8, .iconst 1, 1), (9, .invokevirtual 121, 3), (12, .ireturn, 1), (13, .aload_n 0, 1), (14, .getfield 33, 3), (17, .aload_n 0, 1), (18, .getfield 10, 3), (21, .aload_n 0, 1), (22, .getfield 19, 3), (25, .aload_n 1, 1), (26, .iconst (-1), 1), (27, .invokevirtual 290, 3), (30, .istore_n 2, 1), (31, .iload_n 2, 1), (32, .iconst (-1), 1), (33, .if_icmp .ne 8, 3), (36, .bipush (-3), 2), (38, .goto 4, 3), (41, .iload_n 2, 1), (42, .ireturn, 1)]
theorem dtX7_bestScore_0 : tbX7_bestScore_0.all (fun e => decide (decode cX7_bestScore e.1 = .ok e.2)) = true := by decide +kernel
def tbX7_tellWay_0 : List (Nat × Instr × Nat) := [(0, .aload_n 0, 1), (1, .iload_n 1, 1), (2, .bipush 30, 2), (4, .invokestatic 78, 3), (7, .putfield 55, 3), (10, .aload_n 0, 1), (11, .getfield 33, 3), (14, .getfield 294, 3), (17, .iconst 0, 1), (18, .aload_n 0, 1), (19, .getfield 51, 3), (22, .iconst 0, 1), (23, .aload_n 0, 1), (24, .getfield 55, 3), (27, .invokestatic 232, 3), (30, .return_, 1)]
theorem dtX7_tellWay_0 : tbX7_tellWay_0.all (fun e => decide (decode cX7_tellWay e.1 = .ok e.2)) = true := by decide +kernel
def tbX7_isMoved_0 : List (Nat × Instr × Nat) := [(0, .aload_n 0, 1), (1, .getfield 33, 3), (4, .aload_n 0, 1), (5, .getfield 10, 3), (8, .aload_n 0, 1), (9, .getfield 19, 3), (12, .aload_n 1, 1), (13, .iload_n 2, 1), (14, .invokevirtual 290, 3), (17, .iconst (-1), 1), (18, .if_icmp .ne 5, 3), (21, .iconst 0, 1), (22, .ireturn, 1), (23, .iconst 0, 1), (24, .istore_n 3, 1), (25, .iconst 0, 1), (26, .istore 4, 2), (28, .iconst 0, 1), (29, .istore 5, 2), (31, .iload 5, 2), (33, .aload_n 1, 1), (34, .invokevirtual 174, 3), (37, .if_icmp .ge 55, 3), (40, .aload_n 1, 1), (41, .iload 5, 2), (43, .iload_n 2, 1), (44, .invokevirtual 297, 3), (47, .istore 6, 2), (49, .iload 6, 2), (51, .bipush (-2), 2), (53, .if_icmp .eq 33, 3), (56, .iinc 3 1, 3), (59, .aload_n 0, 1), (60, .getfield 19, 3), (63, .iload_n 2, 1), (64, .aload_n 0, 1), (65, .getfield 33, 3), (68, .getfield 294, 3), (71, .iload 5, 2), (73, .iaload, 1)]
theorem dtX7_isMoved_0 : tbX7_isMoved_0.all (fun e => decide (decode cX7_isMoved e.1 = .ok e.2)) = true := by decide +kernel
def tbX7_isMoved_1 : List (Nat × Instr × Nat) := [(74, .iload 6, 2), (76, .invokevirtual 128, 3), (79, .iconst 1, 1), (80, .if_icmp .ne 6, 3), (83, .iinc 4 1, 3), (86, .iinc 5 1, 3), (89, .goto (-58), 3), (92, .iconst 2, 1), (93, .iload 4, 2), (95, .imul, 1), (96, .iload_n 3, 1), (97, .if_icmp .le 7, 3), (100, .iconst 1, 1), (101, .goto 4, 3), (104, .iconst 0, 1), (105, .ireturn, 1)]
theorem dtX7_isMoved_1 : tbX7_isMoved_1.all (fun e => decide (decode cX7_isMoved e.1 = .ok e.2)) = true := by decide +kernel
end
section
/-! THE SYSTEM: its own helpers -/
set_option maxRecDepth 100000 in
set_option maxHeartbeats 4000000 in
theorem k_X7_isSender {l : Launch} {D : va_G} {t : Nat → ClassId} {ad : Nat → Nat} {σ : zMem} {k : Int} (hk : -2147483648 ≤ k ∧ k < 2147483648) : z_Ci l D t yX7_isSender cX7_isSender 1 .boolean 0 0 0 0 [.int (zI k)] (wX ad t σ) (fun r w => w = wX ad t σ ∧ ((r = 1 ∧ (0 ≤ k ∧ k < 8)) ∨ (r = 0 ∧ ¬ (0 ≤ k ∧ k < 8)))) := by
  refine z_Ci_of (by decide +kernel) [some (.int (zI k))] rfl rfl (Nat.le_of_ble_eq_true rfl) fun K hl hD ht hR hnm C ret => ?_
  subst hl; subst hD; subst ht
  refine z_iload_n C (z_d dtX7_isSender_0 0 rfl) rfl ?_
  refine z_if_lt (tgt := 14) C (z_d dtX7_isSender_0 1 rfl) (by decide) (by omega) (fun h_1 => ?_) (fun h_1 => ?_)
  · refine z_iconst C (z_d dtX7_isSender_0 7 rfl) ?_
    exact ret _ _ _ _ (z_d dtX7_isSender_0 8 rfl) (⟨rfl, by omega⟩) (z_nb (by omega))
  · refine z_iload_n C (z_d dtX7_isSender_0 2 rfl) rfl ?_
    refine z_bipush C (z_d dtX7_isSender_0 3 rfl) zb_8 ?_
    refine z_icmp_ge (tgt := 14) C (z_d dtX7_isSender_0 4 rfl) (by decide) (by omega) (fun h_7 => ?_) (fun h_7 => ?_)
    · refine z_iconst C (z_d dtX7_isSender_0 7 rfl) ?_
      exact ret _ _ _ _ (z_d dtX7_isSender_0 8 rfl) (⟨rfl, by omega⟩) (z_nb (by omega))
    · refine z_iconst C (z_d dtX7_isSender_0 5 rfl) ?_
      refine z_goto (tgt := 15) C (z_d dtX7_isSender_0 6 rfl) (by decide) ?_
      exact ret _ _ _ _ (z_d dtX7_isSender_0 8 rfl) (⟨rfl, by omega⟩) (z_nb (by omega))

set_option maxRecDepth 100000 in
set_option maxHeartbeats 4000000 in
theorem k_X7_isSheet {l : Launch} {D : va_G} {t : Nat → ClassId} {ad : Nat → Nat} {σ : zMem} {k : Int} (hk : -2147483648 ≤ k ∧ k < 2147483648) : z_Ci l D t yX7_isSheet cX7_isSheet 1 .boolean 0 0 0 0 [.int (zI k)] (wX ad t σ) (fun r w => w = wX ad t σ ∧ ((r = 1 ∧ (0 ≤ k ∧ k < 4)) ∨ (r = 0 ∧ ¬ (0 ≤ k ∧ k < 4)))) := by
  refine z_Ci_of (by decide +kernel) [some (.int (zI k))] rfl rfl (Nat.le_of_ble_eq_true rfl) fun K hl hD ht hR hnm C ret => ?_
  subst hl; subst hD; subst ht
  refine z_iload_n C (z_d dtX7_isSheet_0 0 rfl) rfl ?_
  refine z_if_lt (tgt := 13) C (z_d dtX7_isSheet_0 1 rfl) (by decide) (by omega) (fun h_1 => ?_) (fun h_1 => ?_)
  · refine z_iconst C (z_d dtX7_isSheet_0 7 rfl) ?_
    exact ret _ _ _ _ (z_d dtX7_isSheet_0 8 rfl) (⟨rfl, by omega⟩) (z_nb (by omega))
  · refine z_iload_n C (z_d dtX7_isSheet_0 2 rfl) rfl ?_
    refine z_iconst C (z_d dtX7_isSheet_0 3 rfl) ?_
    refine z_icmp_ge (tgt := 13) C (z_d dtX7_isSheet_0 4 rfl) (by decide) (by omega) (fun h_6 => ?_) (fun h_6 => ?_)
    · refine z_iconst C (z_d dtX7_isSheet_0 7 rfl) ?_
      exact ret _ _ _ _ (z_d dtX7_isSheet_0 8 rfl) (⟨rfl, by omega⟩) (z_nb (by omega))
    · refine z_iconst C (z_d dtX7_isSheet_0 5 rfl) ?_
      refine z_goto (tgt := 14) C (z_d dtX7_isSheet_0 6 rfl) (by decide) ?_
      exact ret _ _ _ _ (z_d dtX7_isSheet_0 8 rfl) (⟨rfl, by omega⟩) (z_nb (by omega))

set_option maxRecDepth 100000 in
set_option maxHeartbeats 4000000 in
theorem k_X7_isForm {l : Launch} {D : va_G} {t : Nat → ClassId} {ad : Nat → Nat} {σ : zMem} {k : Int} (hk : -2147483648 ≤ k ∧ k < 2147483648) : z_Ci l D t yX7_isForm cX7_isForm 1 .boolean 0 0 0 0 [.int (zI k)] (wX ad t σ) (fun r w => w = wX ad t σ ∧ ((r = 1 ∧ (0 ≤ k ∧ k < 3)) ∨ (r = 0 ∧ ¬ (0 ≤ k ∧ k < 3)))) := by
  refine z_Ci_of (by decide +kernel) [some (.int (zI k))] rfl rfl (Nat.le_of_ble_eq_true rfl) fun K hl hD ht hR hnm C ret => ?_
  subst hl; subst hD; subst ht
  refine z_iload_n C (z_d dtX7_isForm_0 0 rfl) rfl ?_
  refine z_if_lt (tgt := 13) C (z_d dtX7_isForm_0 1 rfl) (by decide) (by omega) (fun h_1 => ?_) (fun h_1 => ?_)
  · refine z_iconst C (z_d dtX7_isForm_0 7 rfl) ?_
    exact ret _ _ _ _ (z_d dtX7_isForm_0 8 rfl) (⟨rfl, by omega⟩) (z_nb (by omega))
  · refine z_iload_n C (z_d dtX7_isForm_0 2 rfl) rfl ?_
    refine z_iconst C (z_d dtX7_isForm_0 3 rfl) ?_
    refine z_icmp_ge (tgt := 13) C (z_d dtX7_isForm_0 4 rfl) (by decide) (by omega) (fun h_6 => ?_) (fun h_6 => ?_)
    · refine z_iconst C (z_d dtX7_isForm_0 7 rfl) ?_
      exact ret _ _ _ _ (z_d dtX7_isForm_0 8 rfl) (⟨rfl, by omega⟩) (z_nb (by omega))
    · refine z_iconst C (z_d dtX7_isForm_0 5 rfl) ?_
      refine z_goto (tgt := 14) C (z_d dtX7_isForm_0 6 rfl) (by decide) ?_
      exact ret _ _ _ _ (z_d dtX7_isForm_0 8 rfl) (⟨rfl, by omega⟩) (z_nb (by omega))

set_option maxRecDepth 100000 in
set_option maxHeartbeats 4000000 in
theorem k_X7_finding {l : Launch} {D : va_G} {t : Nat → ClassId} {ad : Nat → Nat} {σ : zMem} {n : Int}  : z_Ci l D t yX7_finding cX7_finding 2 .int 0 0 0 0 [.ref (ad 0), .int (zI n)] (wX ad t σ) (fun r w => w = wX ad t (zS σ 19 (zC n)) ∧ r = -10 - n) := by
  refine z_Ci_of (by decide +kernel) [some (.ref (ad 0)), some (.int (zI n))] rfl rfl (Nat.le_of_ble_eq_true rfl) fun K hl hD ht hR hnm C ret => ?_
  subst hl; subst hD; subst ht
  refine z_aload_n C (z_d dtX7_finding_0 0 rfl) rfl ?_
  refine z_iload_n C (z_d dtX7_finding_0 1 rfl) rfl ?_
  refine pf_X7_59 C (z_d dtX7_finding_0 2 rfl) ?_
  refine z_bipush C (z_d dtX7_finding_0 3 rfl) zb_m10 ?_
  refine z_iload_n C (z_d dtX7_finding_0 4 rfl) rfl ?_
  refine z_isub C (z_d dtX7_finding_0 5 rfl) ?_
  exact ret _ _ _ _ (z_d dtX7_finding_0 6 rfl) (⟨rfl, rfl⟩) rfl

set_option maxRecDepth 100000 in
set_option maxHeartbeats 4000000 in
theorem k_X7_rowProblem {l : Launch} {D : va_G} {t : Nat → ClassId} {ad : Nat → Nat} {σ : zMem} {z row : Int} (hz : 0 ≤ z ∧ z < 4) (oB1 : oB σ) (hrow : -2147483648 ≤ row ∧ row < 2147483648) : z_Ci l D t yX7_rowProblem cX7_rowProblem 2 .int 1 20 0 0 [.ref (ad (22 + z.toNat)), .int (zI row)] (wX ad t σ) (fun r w => w = wX ad t σ ∧ r = zRp σ z row) := by
  refine z_Ci_of (by decide +kernel) [some (.ref (ad (22 + z.toNat))), some (.int (zI row))] rfl rfl (Nat.le_of_ble_eq_true rfl) fun K hl hD ht hR hnm C ret => ?_
  subst hl; subst hD; subst ht
  have h16 := oB1.1 z
  have hsz := oB_s oB1 z
  have h40 := oB1.2.2.2.2 z
  have hq : σ 16 z = 0 ∨ (σ 16 z = 1 ∧ σ 40 z = σ 18 z) := by
    split at h40 <;> omega
  refine z_aload_n C (z_d dtX7_rowProblem_0 0 rfl) rfl ?_
  refine gf_X7_209 C (by omega) (z_d dtX7_rowProblem_0 1 rfl) ?_
  refine z_if_eq (tgt := 9) C (z_d dtX7_rowProblem_0 2 rfl) (by decide) (by omega) (fun h_4 => ?_) (fun h_4 => ?_)
  · refine z_iload_n C (z_d dtX7_rowProblem_0 5 rfl) rfl ?_
    refine z_if_lt (tgt := 25) C (z_d dtX7_rowProblem_0 6 rfl) (by decide) (by omega) (fun h_10 => ?_) (fun h_10 => ?_)
    · refine z_iconst C (z_d dtX7_rowProblem_0 13 rfl) ?_
      exact ret _ _ _ _ (z_d dtX7_rowProblem_0 14 rfl) (⟨rfl, by
          unfold zRp
          first
            | rw [if_pos (by omega)]
            | rw [if_neg (by omega), if_pos (by omega)]
            | rw [if_neg (by omega), if_neg (by omega)]⟩) rfl
    · refine z_iload_n C (z_d dtX7_rowProblem_0 7 rfl) rfl ?_
      refine z_aload_n C (z_d dtX7_rowProblem_0 8 rfl) rfl ?_
      refine z_callV C (z_d dtX7_rowProblem_0 9 rfl) (k_X5_rows  (by first | assumption | omega) (by first | assumption | omega)) cal_X5_rows gw_15_16 rfl (22 + _) 5 (wX_sh (by omega)) rfl rfl rfl hR ⟨rfl, rfl, rfl, rfl⟩ rfl (fun r_15 w_15 h_15 => ?_)
      obtain ⟨rfl, rfl⟩ := h_15
      refine z_icmp_ge (tgt := 25) C (z_d dtX7_rowProblem_0 10 rfl) (by decide) (by omega) (fun h_18 => ?_) (fun h_18 => ?_)
      · refine z_iconst C (z_d dtX7_rowProblem_0 13 rfl) ?_
        exact ret _ _ _ _ (z_d dtX7_rowProblem_0 14 rfl) (⟨rfl, by
            unfold zRp
            first
              | rw [if_pos (by omega)]
              | rw [if_neg (by omega), if_pos (by omega)]
              | rw [if_neg (by omega), if_neg (by omega)]⟩) rfl
      · refine z_iconst C (z_d dtX7_rowProblem_0 11 rfl) ?_
        refine z_goto (tgt := 26) C (z_d dtX7_rowProblem_0 12 rfl) (by decide) ?_
        exact ret _ _ _ _ (z_d dtX7_rowProblem_0 14 rfl) (⟨rfl, by
            unfold zRp
            first
              | rw [if_pos (by omega)]
              | rw [if_neg (by omega), if_pos (by omega)]
              | rw [if_neg (by omega), if_neg (by omega)]⟩) rfl
  · refine z_iconst C (z_d dtX7_rowProblem_0 3 rfl) ?_
    exact ret _ _ _ _ (z_d dtX7_rowProblem_0 4 rfl) (⟨rfl, by
        unfold zRp
        first
          | rw [if_pos (by omega)]
          | rw [if_neg (by omega), if_pos (by omega)]
          | rw [if_neg (by omega), if_neg (by omega)]⟩) rfl

set_option maxRecDepth 100000 in
set_option maxHeartbeats 4000000 in
theorem k_X7_itemProblem {l : Launch} {D : va_G} {t : Nat → ClassId} {ad : Nat → Nat} {σ : zMem} {z f i : Int} (hz : 0 ≤ z ∧ z < 4) (oB1 : oB σ) (hf : -2147483648 ≤ f ∧ f < 2147483648) (hi : -2147483648 ≤ i ∧ i < 2147483648) : z_Ci l D t yX7_itemProblem cX7_itemProblem 3 .int 0 0 0 0 [.ref (ad (22 + z.toNat)), .int (zI f), .int (zI i)] (wX ad t σ) (fun r w => w = wX ad t σ ∧ r = zIp σ z f i) := by
  refine z_Ci_of (by decide +kernel) [some (.ref (ad (22 + z.toNat))), some (.int (zI f)), some (.int (zI i))] rfl rfl (Nat.le_of_ble_eq_true rfl) fun K hl hD ht hR hnm C ret => ?_
  subst hl; subst hD; subst ht
  have h16 := oB1.1 z
  have hff := oB1.2.1 z
  have hsz := oB_s oB1 z
  have h40 := oB1.2.2.2.2 z
  have hq : σ 16 z = 0 ∨ (σ 16 z = 1 ∧ σ 40 z = σ 18 z) := by
    split at h40 <;> omega
  refine z_aload_n C (z_d dtX7_itemProblem_0 0 rfl) rfl ?_
  refine gf_X7_209 C (by omega) (z_d dtX7_itemProblem_0 1 rfl) ?_
  refine z_if_eq (tgt := 9) C (z_d dtX7_itemProblem_0 2 rfl) (by decide) (by omega) (fun h_4 => ?_) (fun h_4 => ?_)
  · refine z_aload_n C (z_d dtX7_itemProblem_0 5 rfl) rfl ?_
    refine gf_X7_226 C (by omega) (z_d dtX7_itemProblem_0 6 rfl) ?_
    refine z_iload_n C (z_d dtX7_itemProblem_0 7 rfl) rfl ?_
    refine z_icmp_eq (tgt := 19) C (z_d dtX7_itemProblem_0 8 rfl) (by decide) (by omega) (fun h_14 => ?_) (fun h_14 => ?_)
    · refine z_iload_n C (z_d dtX7_itemProblem_0 11 rfl) rfl ?_
      refine z_if_lt (tgt := 35) C (z_d dtX7_itemProblem_0 12 rfl) (by decide) (by omega) (fun h_20 => ?_) (fun h_20 => ?_)
      · refine z_iconst C (z_d dtX7_itemProblem_0 19 rfl) ?_
        exact ret _ _ _ _ (z_d dtX7_itemProblem_0 20 rfl) (⟨rfl, by
            unfold zIp
            first
              | rw [if_pos (by omega)]
              | rw [if_neg (by omega), if_pos (by omega)]
              | rw [if_neg (by omega), if_neg (by omega), if_pos (by omega)]
              | rw [if_neg (by omega), if_neg (by omega), if_neg (by omega)]⟩) rfl
      · refine z_iload_n C (z_d dtX7_itemProblem_0 13 rfl) rfl ?_
        refine z_aload_n C (z_d dtX7_itemProblem_0 14 rfl) rfl ?_
        refine gf_X7_287 C (by omega) (z_d dtX7_itemProblem_0 15 rfl) ?_
        refine z_icmp_ge (tgt := 35) C (z_d dtX7_itemProblem_0 16 rfl) (by decide) (by omega) (fun h_28 => ?_) (fun h_28 => ?_)
        · refine z_iconst C (z_d dtX7_itemProblem_0 19 rfl) ?_
          exact ret _ _ _ _ (z_d dtX7_itemProblem_0 20 rfl) (⟨rfl, by
              unfold zIp
              first
                | rw [if_pos (by omega)]
                | rw [if_neg (by omega), if_pos (by omega)]
                | rw [if_neg (by omega), if_neg (by omega), if_pos (by omega)]
                | rw [if_neg (by omega), if_neg (by omega), if_neg (by omega)]⟩) rfl
        · refine z_iconst C (z_d dtX7_itemProblem_0 17 rfl) ?_
          refine z_goto (tgt := 36) C (z_d dtX7_itemProblem_0 18 rfl) (by decide) ?_
          exact ret _ _ _ _ (z_d dtX7_itemProblem_0 20 rfl) (⟨rfl, by
              unfold zIp
              first
                | rw [if_pos (by omega)]
                | rw [if_neg (by omega), if_pos (by omega)]
                | rw [if_neg (by omega), if_neg (by omega), if_pos (by omega)]
                | rw [if_neg (by omega), if_neg (by omega), if_neg (by omega)]⟩) rfl
    · refine z_iconst C (z_d dtX7_itemProblem_0 9 rfl) ?_
      exact ret _ _ _ _ (z_d dtX7_itemProblem_0 10 rfl) (⟨rfl, by
          unfold zIp
          first
            | rw [if_pos (by omega)]
            | rw [if_neg (by omega), if_pos (by omega)]
            | rw [if_neg (by omega), if_neg (by omega), if_pos (by omega)]
            | rw [if_neg (by omega), if_neg (by omega), if_neg (by omega)]⟩) rfl
  · refine z_iconst C (z_d dtX7_itemProblem_0 3 rfl) ?_
    exact ret _ _ _ _ (z_d dtX7_itemProblem_0 4 rfl) (⟨rfl, by
        unfold zIp
        first
          | rw [if_pos (by omega)]
          | rw [if_neg (by omega), if_pos (by omega)]
          | rw [if_neg (by omega), if_neg (by omega), if_pos (by omega)]
          | rw [if_neg (by omega), if_neg (by omega), if_neg (by omega)]⟩) rfl

set_option maxRecDepth 100000 in
set_option maxHeartbeats 4000000 in
theorem k_X7_bestScore {l : Launch} {D : va_G} {t : Nat → ClassId} {ad : Nat → Nat} {σ : zMem} {z : Int} (ok : okX σ) (hz : 0 ≤ z ∧ z < 4) : z_Ci l D t yX7_bestScore cX7_bestScore 3 .int 6 149 0 0 [.ref (ad 0), .ref (ad (22 + z.toNat))] (wX ad t σ) (fun r w => ∃ σ', w = wX ad t σ' ∧ ((σ 16 z = 0 ∧ r = -11 ∧ σ' = zS σ 19 (zC 1)) ∨ (σ 16 z = 1 ∧ zE σ' σ [39, 41] ∧ (((σ 18 z / 8 = 0 ∨ zVf σ z (-1) (σ 18 z / 8) = -1) ∧ r = -3) ∨ (1 ≤ σ 18 z / 8 ∧ 0 ≤ r ∧ r = zVf σ z (-1) (σ 18 z / 8) ∧ ∀ k : Nat, k < σ 18 z / 8 → σ' 39 k = zWy σ z (-1) (σ 18 z / 8) k))))) := by
  refine z_Ci_of (by decide +kernel) [some (.ref (ad 0)), some (.ref (ad (22 + z.toNat))), none] rfl rfl (Nat.le_of_ble_eq_true rfl) fun K hl hD ht hR hnm C ret => ?_
  subst hl; subst hD; subst ht
  have ok2 := ok
  obtain ⟨⟨hw, hs, ht, h4, h5, h6, hwc, hlc⟩, ⟨h7, hdd⟩, hmp, oS1, oW1, oA1, oT1, oB1⟩ := ok2
  have hN := zHw_N hw
  have hW := hw; unfold zHw at hW
  have hit := oB1.2.2.2.1
  have h16 := oB1.1
  have hff := oB1.2.1
  have hsz := oB_s oB1
  have h40 := oB1.2.2.2.2
  have h16z := h16 z
  have h40z := h40 z
  have hszz := hsz z
  have hq : σ 16 z = 0 ∨ (σ 16 z = 1 ∧ σ 40 z = σ 18 z) := by
    split at h40z <;> omega
  have hvb := zV_b hmp hs z (-1) (σ 40 z / 8) (σ 40 z / 8 - 1).toNat (zWy σ z (-1) (σ 40 z / 8) 0)
  refine z_aload_n C (z_d dtX7_bestScore_0 0 rfl) rfl ?_
  refine gf_X7_209 C (by omega) (z_d dtX7_bestScore_0 1 rfl) ?_
  refine z_if_eq (tgt := 13) C (z_d dtX7_bestScore_0 2 rfl) (by decide) (by omega) (fun h_4 => ?_) (fun h_4 => ?_)
  · refine z_aload_n C (z_d dtX7_bestScore_0 7 rfl) rfl ?_
    refine gf_X7_33 C (z_d dtX7_bestScore_0 8 rfl) ?_
    refine z_aload_n C (z_d dtX7_bestScore_0 9 rfl) rfl ?_
    refine gf_X7_10 C (z_d dtX7_bestScore_0 10 rfl) ?_
    refine z_aload_n C (z_d dtX7_bestScore_0 11 rfl) rfl ?_
    refine gf_X7_19 C (z_d dtX7_bestScore_0 12 rfl) ?_
    refine z_aload_n C (z_d dtX7_bestScore_0 13 rfl) rfl ?_
    refine z_iconst C (z_d dtX7_bestScore_0 14 rfl) ?_
    refine z_callV C (z_d dtX7_bestScore_0 15 rfl) (k_X6_findWay  (by first | assumption | omega) (by first | assumption | omega) (by first | assumption | omega) (by first | assumption | omega) hszz (by first | assumption | omega) (by first | assumption | omega) (by first | assumption | omega) (by first | assumption | omega) (by omega)) cal_X6_findWay gw_25_21 rfl 4 6 rfl rfl rfl rfl hR ⟨rfl, rfl, rfl, rfl⟩ rfl (fun r_27 w_27 h_27 => ?_)
    obtain ⟨σ_27, rfl, hE_27, h_27⟩ := h_27
    have e40 : σ 40 z = σ 18 z := by omega
    rw [e40] at h_27 hvb
    have hvf : zVf σ z (-1) (σ 18 z / 8) = zV σ z (-1) (σ 18 z / 8) (σ 18 z / 8 - 1).toNat (zWy σ z (-1) (σ 18 z / 8) 0) := rfl
    refine z_istore_n2 C (z_d dtX7_bestScore_0 16 rfl) rfl ?_
    refine z_iload_n C (z_d dtX7_bestScore_0 17 rfl) rfl ?_
    refine z_iconst C (z_d dtX7_bestScore_0 18 rfl) ?_
    refine z_icmp_ne (tgt := 41) C (z_d dtX7_bestScore_0 19 rfl) (by decide) (by omega) (fun h_33 => ?_) (fun h_33 => ?_)
    · refine z_iload_n C (z_d dtX7_bestScore_0 22 rfl) rfl ?_
      exact ret _ _ _ _ (z_d dtX7_bestScore_0 23 rfl) (⟨_, rfl, Or.inr ⟨by omega, hE_27, by
          rcases h_27 with ⟨a, b⟩ | ⟨a, b, g⟩
          · first
              | exact Or.inl ⟨Or.inl a, rfl⟩
              | (exfalso; omega)
          · first
              | exact Or.inl ⟨Or.inr (by omega), rfl⟩
              | exact Or.inr ⟨a, by omega, by omega, g.resolve_left (by omega)⟩⟩⟩) rfl
    · refine z_bipush C (z_d dtX7_bestScore_0 20 rfl) zb_m3 ?_
      refine z_goto (tgt := 42) C (z_d dtX7_bestScore_0 21 rfl) (by decide) ?_
      exact ret _ _ _ _ (z_d dtX7_bestScore_0 23 rfl) (⟨_, rfl, Or.inr ⟨by omega, hE_27, by
          rcases h_27 with ⟨a, b⟩ | ⟨a, b, g⟩
          · first
              | exact Or.inl ⟨Or.inl a, rfl⟩
              | (exfalso; omega)
          · first
              | exact Or.inl ⟨Or.inr (by omega), rfl⟩
              | exact Or.inr ⟨a, by omega, by omega, g.resolve_left (by omega)⟩⟩⟩) rfl
  · refine z_aload_n C (z_d dtX7_bestScore_0 3 rfl) rfl ?_
    refine z_iconst C (z_d dtX7_bestScore_0 4 rfl) ?_
    refine z_callV C (z_d dtX7_bestScore_0 5 rfl) (k_X7_finding  ) cal_X7_finding gw_15_20 rfl 0 7 rfl rfl rfl rfl hR ⟨rfl, rfl, rfl, rfl⟩ rfl (fun r_9 w_9 h_9 => ?_)
    obtain ⟨rfl, rfl⟩ := h_9
    exact ret _ _ _ _ (z_d dtX7_bestScore_0 6 rfl) (⟨_, rfl, Or.inl ⟨by omega, rfl, rfl⟩⟩) rfl

set_option maxRecDepth 100000 in
set_option maxHeartbeats 4000000 in
theorem k_X7_tellWay {l : Launch} {D : va_G} {t : Nat → ClassId} {ad : Nat → Nat} {σ : zMem} {R : Int} (hR2 : 0 ≤ R ∧ R ≤ 30) : z_Cv l D t yX7_tellWay cX7_tellWay 2 1 40 0 0 [.ref (ad 0), .int (zI R)] (wX ad t σ) (fun w => w = wX ad t (zS (zS σ 14 (zC R)) 15 (fun i => if 0 ≤ i ∧ i < R then σ 39 i else σ 15 i))) := by
  refine z_Cv_of (by decide +kernel) [some (.ref (ad 0)), some (.int (zI R))] rfl rfl (Nat.le_of_ble_eq_true rfl) fun K hl hD ht hR hnm C ret => ?_
  subst hl; subst hD; subst ht
  refine z_aload_n C (z_d dtX7_tellWay_0 0 rfl) rfl ?_
  refine z_iload_n C (z_d dtX7_tellWay_0 1 rfl) rfl ?_
  refine z_bipush C (z_d dtX7_tellWay_0 2 rfl) zb_30 ?_
  refine z_mminP C (z_d dtX7_tellWay_0 3 rfl) gw_9_18 gw_9_19 gw_9_20 gw_9_21 rfl (by rw [hR]; exact Nat.le_of_ble_eq_true rfl) (by rw [hR]; exact Nat.le_of_ble_eq_true rfl) (by rw [hR]; exact Nat.le_refl _) (by rw [hR]; exact Nat.le_refl _) (by omega) (fun m_4 h_4 => ?_)
  obtain rfl : m_4 = R := by omega
  refine pf_X7_55 C (z_d dtX7_tellWay_0 4 rfl) ?_
  refine z_aload_n C (z_d dtX7_tellWay_0 5 rfl) rfl ?_
  refine gf_X7_33 C (z_d dtX7_tellWay_0 6 rfl) ?_
  refine gf_X7_294 C (z_d dtX7_tellWay_0 7 rfl) ?_
  refine z_iconst C (z_d dtX7_tellWay_0 8 rfl) ?_
  refine z_aload_n C (z_d dtX7_tellWay_0 9 rfl) rfl ?_
  refine gf_X7_51 C (z_d dtX7_tellWay_0 10 rfl) ?_
  refine z_iconst C (z_d dtX7_tellWay_0 11 rfl) ?_
  refine z_aload_n C (z_d dtX7_tellWay_0 12 rfl) rfl ?_
  refine gf_X7_55 C (z_d dtX7_tellWay_0 13 rfl) ?_
  try simp (decide := true) only [zS_s, zS_o, zC]
  refine cp_tell C (z_d dtX7_tellWay_0 14 rfl) hR2 rfl (by rw [hR]; exact Nat.le_of_ble_eq_true rfl) (by rw [hR]; exact Nat.le_of_ble_eq_true (by decide +kernel)) ?_
  exact ret _ _ _ (z_d dtX7_tellWay_0 15 rfl) (rfl)

set_option maxRecDepth 100000 in
set_option maxHeartbeats 4000000 in
theorem k_X7_isMoved {l : Launch} {D : va_G} {t : Nat → ClassId} {ad : Nat → Nat} {σ : zMem} {z k : Int} (ok : okX σ) (hz : 0 ≤ z ∧ z < 4) (hk : 0 ≤ k ∧ k < 8) (hth : σ 16 z = 1) : z_Ci l D t yX7_isMoved cX7_isMoved 7 .boolean 6 149 0 0 [.ref (ad 0), .ref (ad (22 + z.toNat)), .int (zI k)] (wX ad t σ) (fun r w => ∃ σ', w = wX ad t σ' ∧ zE σ' σ [39, 41] ∧ ((r = 1 ∧ zMvd σ z k) ∨ (r = 0 ∧ ¬ zMvd σ z k))) := by
  refine z_Ci_of (by decide +kernel) [some (.ref (ad 0)), some (.ref (ad (22 + z.toNat))), some (.int (zI k)), none, none, none, none] rfl rfl (Nat.le_of_ble_eq_true rfl) fun K hl hD ht hR hnm C ret => ?_
  subst hl; subst hD; subst ht
  have ok2 := ok
  obtain ⟨⟨hw, hs, ht, h4, h5, h6, hwc, hlc⟩, ⟨h7, hdd⟩, hmp, oS1, oW1, oA1, oT1, oB1⟩ := ok2
  have hN := zHw_N hw
  have hW := hw; unfold zHw at hW
  have hit := oB1.2.2.2.1
  have h16 := oB1.1
  have hff := oB1.2.1
  have hsz := oB_s oB1
  have h40 := oB1.2.2.2.2
  have h40z := h40 z
  rw [if_pos hth] at h40z
  have hszz := hsz z
  have hvb := zV_b hmp hs z k (σ 18 z / 8) (σ 18 z / 8 - 1).toNat (zWy σ z k (σ 18 z / 8) 0)
  have hvf : zVf σ z k (σ 18 z / 8) = zV σ z k (σ 18 z / 8) (σ 18 z / 8 - 1).toNat (zWy σ z k (σ 18 z / 8) 0) := rfl
  refine z_aload_n C (z_d dtX7_isMoved_0 0 rfl) rfl ?_
  refine gf_X7_33 C (z_d dtX7_isMoved_0 1 rfl) ?_
  refine z_aload_n C (z_d dtX7_isMoved_0 2 rfl) rfl ?_
  refine gf_X7_10 C (z_d dtX7_isMoved_0 3 rfl) ?_
  refine z_aload_n C (z_d dtX7_isMoved_0 4 rfl) rfl ?_
  refine gf_X7_19 C (z_d dtX7_isMoved_0 5 rfl) ?_
  refine z_aload_n C (z_d dtX7_isMoved_0 6 rfl) rfl ?_
  refine z_iload_n C (z_d dtX7_isMoved_0 7 rfl) rfl ?_
  refine z_callV C (z_d dtX7_isMoved_0 8 rfl) (k_X6_findWay  (by first | assumption | omega) (by first | assumption | omega) (by first | assumption | omega) (by first | assumption | omega) hszz (by first | assumption | omega) (by first | assumption | omega) (by first | assumption | omega) (by first | assumption | omega) (by omega)) cal_X6_findWay gw_25_21 rfl 4 6 rfl rfl rfl rfl hR ⟨rfl, rfl, rfl, rfl⟩ rfl (fun r_14 w_14 h_14 => ?_)
  obtain ⟨σ_14, rfl, hE_14, h_14⟩ := h_14
  rw [h40z] at h_14
  refine z_iconst C (z_d dtX7_isMoved_0 9 rfl) ?_
  refine z_icmp_ne (tgt := 23) C (z_d dtX7_isMoved_0 10 rfl) (by decide) (by omega) (fun h_18 => ?_) (fun h_18 => ?_)
  · have hcs : 1 ≤ σ 18 z / 8 ∧ r_14 = zVf σ z k (σ 18 z / 8) ∧ ∀ q : Nat, q < σ 18 z / 8 → σ_14 39 q = zWy σ z k (σ 18 z / 8) q := by
      rcases h_14 with ⟨a, b⟩ | ⟨a, b, g⟩
      · exact absurd b h_18
      · exact ⟨a, b, g.resolve_left h_18⟩
    have e40 : σ_14 40 z = σ 40 z := by rw [hE_14 40 (by decide)]
    have e20 := hE_14 20 (by decide)
    have hwyb := zWy_b hw ht hs hmp (z := z) (wo := k) (R := σ 18 z / 8)
    refine z_iconst C (z_d dtX7_isMoved_0 13 rfl) ?_
    refine z_istore_n3 C (z_d dtX7_isMoved_0 14 rfl) rfl ?_
    refine z_iconst C (z_d dtX7_isMoved_0 15 rfl) ?_
    refine z_istore4 C (z_d dtX7_isMoved_0 16 rfl) rfl ?_
    refine z_iconst C (z_d dtX7_isMoved_0 17 rfl) ?_
    refine z_istore5 C (z_d dtX7_isMoved_0 18 rfl) rfl ?_
    have lp_31 : ∀ (N_31 : Nat) (i : Nat) (row a b : Int), (row = i ∧ i ≤ σ 18 z / 8) → (a = zMr σ z k i) → (b = zMu σ z k (σ 18 z / 8) i) → (σ 18 z / 8 - i).toNat < N_31 → Gd K 0 0 31 [some (.ref (ad 0)), some (.ref (ad (22 + z.toNat))), some (.int (zI k)), some (.int (zI a)), some (.int (zI b)), some (.int (zI row)), none] [] (wX ad (z_t K) σ_14) := by
      intro N_31
      induction N_31 with
      | zero => intro i row a b hi ha hb hm_31; exact absurd hm_31 (Nat.not_lt_zero _)
      | succ N_31 ih_31 =>
        intro i row a b hi ha hb hm_31
        obtain ⟨rfl, hi⟩ := hi
        have hab := zMr_b σ z k i
        have hbb := zMu_b σ z k (σ 18 z / 8) i
        have eV := zHv_E hE_14 (by decide) z i k
        have hv9 := zH0_b (zHv σ z i k)
        have hy := fun q : (i : Int) < σ 18 z / 8 => hcs.2.2 i q
        have hwy := hwyb i
        have hw1 := zWt_b hmp k (zWy σ z k (σ 18 z / 8) i) (zH0 (zHv σ z i k))
        have eW := zWt_E hE_14 (by decide) k (zWy σ z k (σ 18 z / 8) i) (zH0 (zHv σ z i k))
        refine z_iload C (z_d dtX7_isMoved_0 19 rfl) rfl ?_
        refine z_aload_n C (z_d dtX7_isMoved_0 20 rfl) rfl ?_
        refine z_callV C (z_d dtX7_isMoved_0 21 rfl) (k_X5_rows  (by first | assumption | omega) (by rw [e40]; exact hszz)) cal_X5_rows gw_15_16 rfl (22 + _) 5 (wX_sh (by omega)) rfl rfl rfl hR ⟨rfl, rfl, rfl, rfl⟩ rfl (fun r_34 w_34 h_34 => ?_)
        obtain ⟨rfl, rfl⟩ := h_34
        rw [e40, h40z]
        refine z_icmp_ge (tgt := 92) C (z_d dtX7_isMoved_0 22 rfl) (by decide) (by omega) (fun h_37 => ?_) (fun h_37 => ?_)
        · refine z_iconst C (z_d dtX7_isMoved_1 7 rfl) ?_
          refine z_iload C (z_d dtX7_isMoved_1 8 rfl) rfl ?_
          refine z_imul C (z_d dtX7_isMoved_1 9 rfl) ?_
          refine z_iload_n C (z_d dtX7_isMoved_1 10 rfl) rfl ?_
          refine z_icmp_le (tgt := 104) C (z_d dtX7_isMoved_1 11 rfl) (by decide) (by omega) (fun h_97 => ?_) (fun h_97 => ?_)
          · refine z_iconst C (z_d dtX7_isMoved_1 14 rfl) ?_
            exact ret _ _ _ _ (z_d dtX7_isMoved_1 15 rfl) (⟨_, rfl, hE_14, by
                have hin : (σ 18 z / 8).toNat = i := by omega
                unfold zMvd
                rw [hin]
                first
                  | exact Or.inl ⟨rfl, hcs.1, by omega, by omega⟩
                  | exact Or.inr ⟨rfl, fun q => by omega⟩⟩) (z_nb (by omega))
          · refine z_iconst C (z_d dtX7_isMoved_1 12 rfl) ?_
            refine z_goto (tgt := 105) C (z_d dtX7_isMoved_1 13 rfl) (by decide) ?_
            exact ret _ _ _ _ (z_d dtX7_isMoved_1 15 rfl) (⟨_, rfl, hE_14, by
                have hin : (σ 18 z / 8).toNat = i := by omega
                unfold zMvd
                rw [hin]
                first
                  | exact Or.inl ⟨rfl, hcs.1, by omega, by omega⟩
                  | exact Or.inr ⟨rfl, fun q => by omega⟩⟩) (z_nb (by omega))
        · refine z_aload_n C (z_d dtX7_isMoved_0 23 rfl) rfl ?_
          refine z_iload C (z_d dtX7_isMoved_0 24 rfl) rfl ?_
          refine z_iload_n C (z_d dtX7_isMoved_0 25 rfl) rfl ?_
          refine z_callV C (z_d dtX7_isMoved_0 26 rfl) (k_X5_heardOf  (by first | assumption | omega) (by unfold zIt; rw [e20]; exact hit) (by first | assumption | omega) (by first | assumption | omega)) cal_X5_heardOf gw_28_23 rfl (22 + _) 5 (wX_sh (by omega)) rfl rfl rfl hR ⟨rfl, rfl, rfl, rfl⟩ rfl (fun r_44 w_44 h_44 => ?_)
          obtain ⟨rfl, rfl⟩ := h_44
          rw [eV]
          refine z_istore6 C (z_d dtX7_isMoved_0 27 rfl) rfl ?_
          refine z_iload C (z_d dtX7_isMoved_0 28 rfl) rfl ?_
          refine z_bipush C (z_d dtX7_isMoved_0 29 rfl) zb_m2 ?_
          refine z_icmp_eq (tgt := 86) C (z_d dtX7_isMoved_0 30 rfl) (by decide) (by omega) (fun h_53 => ?_) (fun h_53 => ?_)
          · refine z_iinc5 C (z_d dtX7_isMoved_1 5 rfl) rfl ?_
            refine z_goto (tgt := 31) C (z_d dtX7_isMoved_1 6 rfl) (by decide) ?_
            refine z_drop6 ?_
            exact ih_31 (i + 1) _ _ _ (by omega) (by rw [zMr]; (first | rw [if_pos (by omega)] | rw [if_neg (by omega)]) <;> omega) (by rw [zMu]; (first | rw [if_pos (by omega)] | rw [if_neg (by omega)]) <;> omega) (by omega)
          · refine z_iinc3 C (z_d dtX7_isMoved_0 31 rfl) rfl ?_
            refine z_aload_n C (z_d dtX7_isMoved_0 32 rfl) rfl ?_
            refine gf_X7_19 C (z_d dtX7_isMoved_0 33 rfl) ?_
            refine z_iload_n C (z_d dtX7_isMoved_0 34 rfl) rfl ?_
            refine z_aload_n C (z_d dtX7_isMoved_0 35 rfl) rfl ?_
            refine gf_X7_33 C (z_d dtX7_isMoved_0 36 rfl) ?_
            refine gf_X7_294 C (z_d dtX7_isMoved_0 37 rfl) ?_
            refine z_iload C (z_d dtX7_isMoved_0 38 rfl) rfl ?_
            refine al_X18 C (z_d dtX7_isMoved_0 39 rfl) (by omega) ?_
            refine z_top (hy (by omega)) ?_
            refine z_iload C (z_d dtX7_isMoved_1 0 rfl) rfl ?_
            refine z_callV C (z_d dtX7_isMoved_1 1 rfl) (k_X4_weightOf  (by first | assumption | omega) (by omega) (by omega)) cal_X4_weightOf gw_18_0 rfl 2 4 rfl rfl rfl rfl hR ⟨rfl, rfl, rfl, rfl⟩ rfl (fun r_76 w_76 h_76 => ?_)
            obtain ⟨rfl, rfl⟩ := h_76
            rw [eW]
            refine z_iconst C (z_d dtX7_isMoved_1 2 rfl) ?_
            refine z_icmp_ne (tgt := 86) C (z_d dtX7_isMoved_1 3 rfl) (by decide) (by omega) (fun h_80 => ?_) (fun h_80 => ?_)
            · refine z_iinc5 C (z_d dtX7_isMoved_1 5 rfl) rfl ?_
              refine z_goto (tgt := 31) C (z_d dtX7_isMoved_1 6 rfl) (by decide) ?_
              refine z_drop6 ?_
              exact ih_31 (i + 1) _ _ _ (by omega) (by rw [zMr]; (first | rw [if_pos (by omega)] | rw [if_neg (by omega)]) <;> omega) (by rw [zMu]; (first | rw [if_pos (by omega)] | rw [if_neg (by omega)]) <;> omega) (by omega)
            · refine z_iinc4 C (z_d dtX7_isMoved_1 4 rfl) rfl ?_
              refine z_iinc5 C (z_d dtX7_isMoved_1 5 rfl) rfl ?_
              refine z_goto (tgt := 31) C (z_d dtX7_isMoved_1 6 rfl) (by decide) ?_
              refine z_drop6 ?_
              exact ih_31 (i + 1) _ _ _ (by omega) (by rw [zMr]; (first | rw [if_pos (by omega)] | rw [if_neg (by omega)]) <;> omega) (by rw [zMu]; (first | rw [if_pos (by omega)] | rw [if_neg (by omega)]) <;> omega) (by omega)
    exact lp_31 _ 0 _ _ _ (by omega) rfl rfl (Nat.lt_succ_self _)
  · refine z_iconst C (z_d dtX7_isMoved_0 11 rfl) ?_
    exact ret _ _ _ _ (z_d dtX7_isMoved_0 12 rfl) (⟨_, rfl, hE_14, Or.inr ⟨rfl, fun q => by
        unfold zMvd at q
        rcases h_14 with ⟨a, b⟩ | ⟨a, b, g⟩
        · omega
        · omega⟩⟩) (z_nb (by omega))
end
section
/-! THE SYSTEM: its calls -/
theorem zRp_b {σ : zMem} (h : oB σ) (z row : Int) : (0 ≤ zRp σ z row ∧ zRp σ z row ≤ 2) ∧ (zRp σ z row = 0 → 0 ≤ row ∧ row < 30) := by
  have a := h.2.2.1 z
  unfold zRp
  split
  · omega
  · split <;> omega

set_option maxRecDepth 100000 in
set_option maxHeartbeats 4000000 in
theorem k_X7_stay {l : Launch} {D : va_G} {t : Nat → ClassId} {ad : Nat → Nat} {σ : zMem} {s : Int} (ok : okX σ) (hs : -2147483648 ≤ s ∧ s < 2147483648) : z_Ci l D t yX7_stay cX7_stay 2 .int 4 90 0 0 [.ref (ad 0), .int (zI s)] (wX ad t σ) (fun r w => ∃ σ', w = wX ad t σ' ∧ ((¬ (0 ≤ s ∧ s ≤ 9) ∧ r = -2 ∧ σ' = σ) ∨ ((0 ≤ s ∧ s ≤ 9) ∧ r = σ 3 0 ∧ zE σ' (zS σ 3 (zC s)) [33] ∧ zTb σ'))) := by
  refine z_Ci_of (by decide +kernel) [some (.ref (ad 0)), some (.int (zI s))] rfl rfl (Nat.le_of_ble_eq_true rfl) fun K hl hD ht hR hnm C ret => ?_
  subst hl; subst hD; subst ht
  have ok2 := ok
  obtain ⟨⟨hw, hs, ht, h4, h5, h6, hwc, hlc⟩, ⟨h7, hdd⟩, hmp, oS1, oW1, oA1, oT1, oB1⟩ := ok2
  have hN := zHw_N hw
  have hW := hw; unfold zHw at hW
  refine z_iload_n C (z_d dtX7_stay_0 0 rfl) rfl ?_
  refine z_if_lt (tgt := 10) C (z_d dtX7_stay_0 1 rfl) (by decide) (by omega) (fun h_1 => ?_) (fun h_1 => ?_)
  · refine z_bipush C (z_d dtX7_stay_0 5 rfl) zb_m2 ?_
    exact ret _ _ _ _ (z_d dtX7_stay_0 6 rfl) (⟨σ, rfl, Or.inl ⟨by omega, rfl, rfl⟩⟩) rfl
  · refine z_iload_n C (z_d dtX7_stay_0 2 rfl) rfl ?_
    refine z_bipush C (z_d dtX7_stay_0 3 rfl) zb_9 ?_
    refine z_icmp_le (tgt := 13) C (z_d dtX7_stay_0 4 rfl) (by decide) (by omega) (fun h_7 => ?_) (fun h_7 => ?_)
    · refine z_aload_n C (z_d dtX7_stay_0 7 rfl) rfl ?_
      refine gf_X7_10 C (z_d dtX7_stay_0 8 rfl) ?_
      refine z_iload_n C (z_d dtX7_stay_0 9 rfl) rfl ?_
      refine z_callV C (z_d dtX7_stay_0 10 rfl) (k_X3_putStay  (by first | assumption | omega) (by first | assumption | omega) (by first | assumption | omega) (by first | assumption | omega) (by first | assumption | omega)) cal_X3_putStay gw_12_16 rfl 1 3 rfl rfl rfl rfl hR ⟨rfl, rfl, rfl, rfl⟩ rfl (fun r_18 w_18 h_18 => ?_)
      obtain ⟨σ_18, rfl, h_18⟩ := h_18
      exact ret _ _ _ _ (z_d dtX7_stay_0 11 rfl) (⟨_, rfl, Or.inr ⟨by omega, h_18⟩⟩) rfl
    · refine z_bipush C (z_d dtX7_stay_0 5 rfl) zb_m2 ?_
      exact ret _ _ _ _ (z_d dtX7_stay_0 6 rfl) (⟨σ, rfl, Or.inl ⟨by omega, rfl, rfl⟩⟩) rfl

set_option maxRecDepth 100000 in
set_option maxHeartbeats 4000000 in
theorem k_X7_step {l : Launch} {D : va_G} {t : Nat → ClassId} {ad : Nat → Nat} {σ : zMem} {a b : Int} (ok : okX σ) (ha : -2147483648 ≤ a ∧ a < 2147483648) (hb : -2147483648 ≤ b ∧ b < 2147483648) : z_Ci l D t yX7_step cX7_step 3 .int 2 45 0 0 [.ref (ad 0), .int (zI a), .int (zI b)] (wX ad t σ) (fun r w => w = wX ad t σ ∧ ((¬ ((0 ≤ a ∧ a < zN σ) ∧ (0 ≤ b ∧ b < zN σ)) ∧ r = -2) ∨ (((0 ≤ a ∧ a < zN σ) ∧ (0 ≤ b ∧ b < zN σ)) ∧ ((∃ d, 0 ≤ d ∧ d < 7 ∧ σ 33 (a * 7 + d) = b ∧ (∀ j, 0 ≤ j → j < d → σ 33 (a * 7 + j) ≠ b) ∧ r = zLik σ d) ∨ ((∀ d, 0 ≤ d → d < 7 → σ 33 (a * 7 + d) ≠ b) ∧ r = 0))))) := by
  refine z_Ci_of (by decide +kernel) [some (.ref (ad 0)), some (.int (zI a)), some (.int (zI b))] rfl rfl (Nat.le_of_ble_eq_true rfl) fun K hl hD ht hR hnm C ret => ?_
  subst hl; subst hD; subst ht
  have ok2 := ok
  obtain ⟨⟨hw, hs, ht, h4, h5, h6, hwc, hlc⟩, ⟨h7, hdd⟩, hmp, oS1, oW1, oA1, oT1, oB1⟩ := ok2
  have hN := zHw_N hw
  have hW := hw; unfold zHw at hW
  refine z_aload_n C (z_d dtX7_step_0 0 rfl) rfl ?_
  refine gf_X7_10 C (z_d dtX7_step_0 1 rfl) ?_
  refine z_iload_n C (z_d dtX7_step_0 2 rfl) rfl ?_
  refine z_callV C (z_d dtX7_step_0 3 rfl) (k_X3_hasCell  (by first | assumption | omega) (by first | assumption | omega)) cal_X3_hasCell gw_10_1 rfl 1 3 rfl rfl rfl rfl hR ⟨rfl, rfl, rfl, rfl⟩ rfl (fun r_5 w_5 h_5 => ?_)
  obtain ⟨rfl, h_5⟩ := h_5
  refine z_if_eq (tgt := 22) C (z_d dtX7_step_0 4 rfl) (by decide) (by omega) (fun h_8 => ?_) (fun h_8 => ?_)
  · refine z_bipush C (z_d dtX7_step_0 10 rfl) zb_m2 ?_
    exact ret _ _ _ _ (z_d dtX7_step_0 11 rfl) (⟨rfl, Or.inl ⟨by omega, rfl⟩⟩) rfl
  · refine z_aload_n C (z_d dtX7_step_0 5 rfl) rfl ?_
    refine gf_X7_10 C (z_d dtX7_step_0 6 rfl) ?_
    refine z_iload_n C (z_d dtX7_step_0 7 rfl) rfl ?_
    refine z_callV C (z_d dtX7_step_0 8 rfl) (k_X3_hasCell  (by first | assumption | omega) (by first | assumption | omega)) cal_X3_hasCell gw_10_1 rfl 1 3 rfl rfl rfl rfl hR ⟨rfl, rfl, rfl, rfl⟩ rfl (fun r_16 w_16 h_16 => ?_)
    obtain ⟨rfl, h_16⟩ := h_16
    refine z_if_ne (tgt := 25) C (z_d dtX7_step_0 9 rfl) (by decide) (by omega) (fun h_19 => ?_) (fun h_19 => ?_)
    · refine z_aload_n C (z_d dtX7_step_0 12 rfl) rfl ?_
      refine gf_X7_10 C (z_d dtX7_step_0 13 rfl) ?_
      refine z_iload_n C (z_d dtX7_step_0 14 rfl) rfl ?_
      refine z_iload_n C (z_d dtX7_step_0 15 rfl) rfl ?_
      refine z_callV C (z_d dtX7_step_0 16 rfl) (k_X3_likelyBetween  (by first | assumption | omega) (by omega) (by first | assumption | omega) (by first | assumption | omega)) cal_X3_likelyBetween gw_13_4 rfl 1 3 rfl rfl rfl rfl hR ⟨rfl, rfl, rfl, rfl⟩ rfl (fun r_31 w_31 h_31 => ?_)
      obtain ⟨rfl, h_31⟩ := h_31
      exact ret _ _ _ _ (z_d dtX7_step_0 17 rfl) (⟨rfl, Or.inr ⟨by omega, h_31⟩⟩) rfl
    · refine z_bipush C (z_d dtX7_step_0 10 rfl) zb_m2 ?_
      exact ret _ _ _ _ (z_d dtX7_step_0 11 rfl) (⟨rfl, Or.inl ⟨by omega, rfl⟩⟩) rfl

set_option maxRecDepth 100000 in
set_option maxHeartbeats 4000000 in
theorem k_X7_dead {l : Launch} {D : va_G} {t : Nat → ClassId} {ad : Nat → Nat} {σ : zMem} {k s : Int} (ok : okX σ) (hk : -2147483648 ≤ k ∧ k < 2147483648) (h01 : s = 0 ∨ s = 1) : z_Ci l D t yX7_dead cX7_dead 3 .int 1 22 0 0 [.ref (ad 0), .int (zI k), .int (zI s)] (wX ad t σ) (fun r w => ∃ σ', w = wX ad t σ' ∧ ((¬ (0 ≤ k ∧ k < 8) ∧ r = -2 ∧ σ' = σ) ∨ ((0 ≤ k ∧ k < 8) ∧ r = 1 ∧ σ' = zS σ 30 (zC (zDb (zU (σ 7) k s)))))) := by
  refine z_Ci_of (by decide +kernel) [some (.ref (ad 0)), some (.int (zI k)), some (.int (zI s))] rfl rfl (Nat.le_of_ble_eq_true rfl) fun K hl hD ht hR hnm C ret => ?_
  subst hl; subst hD; subst ht
  have ok2 := ok
  obtain ⟨⟨hw, hs, ht, h4, h5, h6, hwc, hlc⟩, ⟨h7, hdd⟩, hmp, oS1, oW1, oA1, oT1, oB1⟩ := ok2
  have hN := zHw_N hw
  have hW := hw; unfold zHw at hW
  refine z_iload_n C (z_d dtX7_dead_0 0 rfl) rfl ?_
  refine z_callS C (z_d dtX7_dead_0 1 rfl) (k_X7_isSender  (by first | assumption | omega)) cal_X7_isSender gw_14_18 rfl rfl hR ⟨rfl, rfl, rfl, rfl⟩ rfl (fun r_1 w_1 h_1 => ?_)
  obtain ⟨rfl, h_1⟩ := h_1
  refine z_if_ne (tgt := 10) C (z_d dtX7_dead_0 2 rfl) (by decide) (by omega) (fun h_4 => ?_) (fun h_4 => ?_)
  · refine z_aload_n C (z_d dtX7_dead_0 5 rfl) rfl ?_
    refine gf_X7_19 C (z_d dtX7_dead_0 6 rfl) ?_
    refine z_iload_n C (z_d dtX7_dead_0 7 rfl) rfl ?_
    refine z_iload_n C (z_d dtX7_dead_0 8 rfl) rfl ?_
    refine z_callVv C (z_d dtX7_dead_0 9 rfl) (k_X4_putDead  (by omega) (by first | assumption | omega) (by first | assumption | omega) (by first | assumption | omega)) cal_X4_putDead gw_14_21 rfl 2 4 rfl rfl rfl rfl hR ⟨rfl, rfl, rfl, rfl⟩ rfl (fun w_16 h_16 => ?_)
    obtain rfl := h_16
    refine z_iconst C (z_d dtX7_dead_0 10 rfl) ?_
    exact ret _ _ _ _ (z_d dtX7_dead_0 11 rfl) (⟨_, rfl, Or.inr ⟨by omega, rfl, rfl⟩⟩) rfl
  · refine z_bipush C (z_d dtX7_dead_0 3 rfl) zb_m2 ?_
    exact ret _ _ _ _ (z_d dtX7_dead_0 4 rfl) (⟨σ, rfl, Or.inl ⟨by omega, rfl, rfl⟩⟩) rfl

set_option maxRecDepth 100000 in
set_option maxHeartbeats 4000000 in
theorem k_X7_survey {l : Launch} {D : va_G} {t : Nat → ClassId} {ad : Nat → Nat} {σ : zMem} {z row c : Int} (ok : okX σ) (hz : -2147483648 ≤ z ∧ z < 2147483648) (hrow : -2147483648 ≤ row ∧ row < 2147483648) (hc : -2147483648 ≤ c ∧ c < 2147483648) : z_Ci l D t yX7_survey cX7_survey 5 .int 2 50 0 0 [.ref (ad 0), .int (zI z), .int (zI row), .int (zI c)] (wX ad t σ) (fun r w => ∃ σ', w = wX ad t σ' ∧ ((¬ ((0 ≤ z ∧ z < 4) ∧ (0 ≤ c ∧ c < zN σ)) ∧ r = -2 ∧ σ' = σ) ∨ (((0 ≤ z ∧ z < 4) ∧ (0 ≤ c ∧ c < zN σ)) ∧ ((¬ zRp σ z row = 0 ∧ r = -10 - zRp σ z row ∧ σ' = zS σ 19 (zC (zRp σ z row))) ∨ (zRp σ z row = 0 ∧ r = zSn σ z row 8 ∧ σ' = zS σ 8 (zSv σ z row c 8)))))) := by
  refine z_Ci_of (by decide +kernel) [some (.ref (ad 0)), some (.int (zI z)), some (.int (zI row)), some (.int (zI c)), none] rfl rfl (Nat.le_of_ble_eq_true rfl) fun K hl hD ht hR hnm C ret => ?_
  subst hl; subst hD; subst ht
  have ok2 := ok
  obtain ⟨⟨hw, hs, ht, h4, h5, h6, hwc, hlc⟩, ⟨h7, hdd⟩, hmp, oS1, oW1, oA1, oT1, oB1⟩ := ok2
  have hN := zHw_N hw
  have hW := hw; unfold zHw at hW
  have hit := oB1.2.2.2.1
  have h16 := oB1.1
  have hff := oB1.2.1
  have hsz := oB_s oB1
  have h40 := oB1.2.2.2.2
  have hrp := zRp_b oB1 z row
  refine z_iload_n C (z_d dtX7_survey_0 0 rfl) rfl ?_
  refine z_callS C (z_d dtX7_survey_0 1 rfl) (k_X7_isSheet  (by first | assumption | omega)) cal_X7_isSheet gw_15_9 rfl rfl hR ⟨rfl, rfl, rfl, rfl⟩ rfl (fun r_1 w_1 h_1 => ?_)
  obtain ⟨rfl, h_1⟩ := h_1
  refine z_if_eq (tgt := 18) C (z_d dtX7_survey_0 2 rfl) (by decide) (by omega) (fun h_4 => ?_) (fun h_4 => ?_)
  · refine z_bipush C (z_d dtX7_survey_0 8 rfl) zb_m2 ?_
    exact ret _ _ _ _ (z_d dtX7_survey_0 9 rfl) (⟨σ, rfl, Or.inl ⟨by omega, rfl, rfl⟩⟩) rfl
  · refine z_aload_n C (z_d dtX7_survey_0 3 rfl) rfl ?_
    refine gf_X7_10 C (z_d dtX7_survey_0 4 rfl) ?_
    refine z_iload_n C (z_d dtX7_survey_0 5 rfl) rfl ?_
    refine z_callV C (z_d dtX7_survey_0 6 rfl) (k_X3_hasCell  (by first | assumption | omega) (by first | assumption | omega)) cal_X3_hasCell gw_10_1 rfl 1 3 rfl rfl rfl rfl hR ⟨rfl, rfl, rfl, rfl⟩ rfl (fun r_12 w_12 h_12 => ?_)
    obtain ⟨rfl, h_12⟩ := h_12
    refine z_if_ne (tgt := 21) C (z_d dtX7_survey_0 7 rfl) (by decide) (by omega) (fun h_15 => ?_) (fun h_15 => ?_)
    · refine z_aload_n C (z_d dtX7_survey_0 10 rfl) rfl ?_
      refine gf_X7_46 C (z_d dtX7_survey_0 11 rfl) ?_
      refine z_iload_n C (z_d dtX7_survey_0 12 rfl) rfl ?_
      refine al_Xsh C (z_d dtX7_survey_0 13 rfl) (by omega) ?_
      refine z_iload_n C (z_d dtX7_survey_0 14 rfl) rfl ?_
      refine z_callS C (z_d dtX7_survey_0 15 rfl) (k_X7_rowProblem  (by first | assumption | omega) (by first | assumption | omega) (by first | assumption | omega)) cal_X7_rowProblem gw_15_12 rfl rfl hR ⟨rfl, rfl, rfl, rfl⟩ rfl (fun r_28 w_28 h_28 => ?_)
      obtain ⟨rfl, rfl⟩ := h_28
      refine z_istore4 C (z_d dtX7_survey_0 16 rfl) rfl ?_
      refine z_iload C (z_d dtX7_survey_0 17 rfl) rfl ?_
      refine z_if_eq (tgt := 45) C (z_d dtX7_survey_0 18 rfl) (by decide) (by omega) (fun h_35 => ?_) (fun h_35 => ?_)
      · refine z_aload_n C (z_d dtX7_survey_0 23 rfl) rfl ?_
        refine gf_X7_19 C (z_d dtX7_survey_0 24 rfl) ?_
        refine z_aload_n C (z_d dtX7_survey_0 25 rfl) rfl ?_
        refine gf_X7_46 C (z_d dtX7_survey_0 26 rfl) ?_
        refine z_iload_n C (z_d dtX7_survey_0 27 rfl) rfl ?_
        refine al_Xsh C (z_d dtX7_survey_0 28 rfl) (by omega) ?_
        refine z_iload_n C (z_d dtX7_survey_0 29 rfl) rfl ?_
        refine z_iload_n C (z_d dtX7_survey_0 30 rfl) rfl ?_
        refine z_callV C (z_d dtX7_survey_0 31 rfl) (k_X4_addRow  (by omega) hit (hrp.2 (by omega)) (by omega) (by first | assumption | omega)) cal_X4_addRow gw_16_0 rfl 2 4 rfl rfl rfl rfl hR ⟨rfl, rfl, rfl, rfl⟩ rfl (fun r_57 w_57 h_57 => ?_)
        obtain ⟨rfl, rfl⟩ := h_57
        exact ret _ _ _ _ (z_d dtX7_survey_0 32 rfl) (⟨_, rfl, Or.inr ⟨by omega, Or.inr ⟨by omega, rfl, rfl⟩⟩⟩) rfl
      · refine z_aload_n C (z_d dtX7_survey_0 19 rfl) rfl ?_
        refine z_iload C (z_d dtX7_survey_0 20 rfl) rfl ?_
        refine z_callV C (z_d dtX7_survey_0 21 rfl) (k_X7_finding  ) cal_X7_finding gw_15_20 rfl 0 7 rfl rfl rfl rfl hR ⟨rfl, rfl, rfl, rfl⟩ rfl (fun r_41 w_41 h_41 => ?_)
        obtain ⟨rfl, rfl⟩ := h_41
        exact ret _ _ _ _ (z_d dtX7_survey_0 22 rfl) (⟨_, rfl, Or.inr ⟨by omega, Or.inl ⟨by omega, rfl, rfl⟩⟩⟩) rfl
    · refine z_bipush C (z_d dtX7_survey_0 8 rfl) zb_m2 ?_
      exact ret _ _ _ _ (z_d dtX7_survey_0 9 rfl) (⟨σ, rfl, Or.inl ⟨by omega, rfl, rfl⟩⟩) rfl

set_option maxRecDepth 100000 in
set_option maxHeartbeats 4000000 in
theorem k_X7_weight {l : Launch} {D : va_G} {t : Nat → ClassId} {ad : Nat → Nat} {σ : zMem} {k c v : Int} (ok : okX σ) (hk : -2147483648 ≤ k ∧ k < 2147483648) (hc : -2147483648 ≤ c ∧ c < 2147483648) (hv : -2147483648 ≤ v ∧ v < 2147483648) : z_Ci l D t yX7_weight cX7_weight 4 .int 2 45 0 0 [.ref (ad 0), .int (zI k), .int (zI c), .int (zI v)] (wX ad t σ) (fun r w => w = wX ad t σ ∧ ((¬ ((0 ≤ k ∧ k < 8) ∧ (0 ≤ c ∧ c < zN σ) ∧ (-1 ≤ v ∧ v ≤ 9)) ∧ r = -2) ∨ (((0 ≤ k ∧ k < 8) ∧ (0 ≤ c ∧ c < zN σ) ∧ (-1 ≤ v ∧ v ≤ 9)) ∧ r = zWt σ k c v))) := by
  refine z_Ci_of (by decide +kernel) [some (.ref (ad 0)), some (.int (zI k)), some (.int (zI c)), some (.int (zI v))] rfl rfl (Nat.le_of_ble_eq_true rfl) fun K hl hD ht hR hnm C ret => ?_
  subst hl; subst hD; subst ht
  have ok2 := ok
  obtain ⟨⟨hw, hs, ht, h4, h5, h6, hwc, hlc⟩, ⟨h7, hdd⟩, hmp, oS1, oW1, oA1, oT1, oB1⟩ := ok2
  have hN := zHw_N hw
  have hW := hw; unfold zHw at hW
  refine z_iload_n C (z_d dtX7_weight_0 0 rfl) rfl ?_
  refine z_callS C (z_d dtX7_weight_0 1 rfl) (k_X7_isSender  (by first | assumption | omega)) cal_X7_isSender gw_14_18 rfl rfl hR ⟨rfl, rfl, rfl, rfl⟩ rfl (fun r_1 w_1 h_1 => ?_)
  obtain ⟨rfl, h_1⟩ := h_1
  refine z_if_eq (tgt := 29) C (z_d dtX7_weight_0 2 rfl) (by decide) (by omega) (fun h_4 => ?_) (fun h_4 => ?_)
  · refine z_bipush C (z_d dtX7_weight_0 14 rfl) zb_m2 ?_
    exact ret _ _ _ _ (z_d dtX7_weight_0 15 rfl) (⟨rfl, Or.inl ⟨by omega, rfl⟩⟩) rfl
  · refine z_aload_n C (z_d dtX7_weight_0 3 rfl) rfl ?_
    refine gf_X7_10 C (z_d dtX7_weight_0 4 rfl) ?_
    refine z_iload_n C (z_d dtX7_weight_0 5 rfl) rfl ?_
    refine z_callV C (z_d dtX7_weight_0 6 rfl) (k_X3_hasCell  (by first | assumption | omega) (by first | assumption | omega)) cal_X3_hasCell gw_10_1 rfl 1 3 rfl rfl rfl rfl hR ⟨rfl, rfl, rfl, rfl⟩ rfl (fun r_12 w_12 h_12 => ?_)
    obtain ⟨rfl, h_12⟩ := h_12
    refine z_if_eq (tgt := 29) C (z_d dtX7_weight_0 7 rfl) (by decide) (by omega) (fun h_15 => ?_) (fun h_15 => ?_)
    · refine z_bipush C (z_d dtX7_weight_0 14 rfl) zb_m2 ?_
      exact ret _ _ _ _ (z_d dtX7_weight_0 15 rfl) (⟨rfl, Or.inl ⟨by omega, rfl⟩⟩) rfl
    · refine z_iload_n C (z_d dtX7_weight_0 8 rfl) rfl ?_
      refine z_iconst C (z_d dtX7_weight_0 9 rfl) ?_
      refine z_icmp_lt (tgt := 29) C (z_d dtX7_weight_0 10 rfl) (by decide) (by omega) (fun h_20 => ?_) (fun h_20 => ?_)
      · refine z_bipush C (z_d dtX7_weight_0 14 rfl) zb_m2 ?_
        exact ret _ _ _ _ (z_d dtX7_weight_0 15 rfl) (⟨rfl, Or.inl ⟨by omega, rfl⟩⟩) rfl
      · refine z_iload_n C (z_d dtX7_weight_0 11 rfl) rfl ?_
        refine z_bipush C (z_d dtX7_weight_0 12 rfl) zb_9 ?_
        refine z_icmp_le (tgt := 32) C (z_d dtX7_weight_0 13 rfl) (by decide) (by omega) (fun h_26 => ?_) (fun h_26 => ?_)
        · refine z_aload_n C (z_d dtX7_weight_0 16 rfl) rfl ?_
          refine gf_X7_19 C (z_d dtX7_weight_0 17 rfl) ?_
          refine z_iload_n C (z_d dtX7_weight_0 18 rfl) rfl ?_
          refine z_iload_n C (z_d dtX7_weight_0 19 rfl) rfl ?_
          refine z_iload_n C (z_d dtX7_weight_0 20 rfl) rfl ?_
          refine z_callV C (z_d dtX7_weight_0 21 rfl) (k_X4_weightOf  (by omega) (by omega) (by omega)) cal_X4_weightOf gw_18_0 rfl 2 4 rfl rfl rfl rfl hR ⟨rfl, rfl, rfl, rfl⟩ rfl (fun r_39 w_39 h_39 => ?_)
          obtain ⟨rfl, rfl⟩ := h_39
          exact ret _ _ _ _ (z_d dtX7_weight_0 22 rfl) (⟨rfl, Or.inr ⟨by omega, rfl⟩⟩) rfl
        · refine z_bipush C (z_d dtX7_weight_0 14 rfl) zb_m2 ?_
          exact ret _ _ _ _ (z_d dtX7_weight_0 15 rfl) (⟨rfl, Or.inl ⟨by omega, rfl⟩⟩) rfl

set_option maxRecDepth 100000 in
set_option maxHeartbeats 4000000 in
theorem k_X7_offset {l : Launch} {D : va_G} {t : Nat → ClassId} {ad : Nat → Nat} {σ : zMem} {z row c : Int} (ok : okX σ) (hz : -2147483648 ≤ z ∧ z < 2147483648) (hrow : -2147483648 ≤ row ∧ row < 2147483648) (hc : -2147483648 ≤ c ∧ c < 2147483648) : z_Ci l D t yX7_offset cX7_offset 5 .int 4 103 0 0 [.ref (ad 0), .int (zI z), .int (zI row), .int (zI c)] (wX ad t σ) (fun r w => ∃ σ', w = wX ad t σ' ∧ ((¬ ((0 ≤ z ∧ z < 4) ∧ (0 ≤ c ∧ c < zN σ)) ∧ r = -100 ∧ σ' = σ) ∨ (((0 ≤ z ∧ z < 4) ∧ (0 ≤ c ∧ c < zN σ)) ∧ ((¬ zRp σ z row = 0 ∧ r = -10 - zRp σ z row ∧ σ' = zS σ 19 (zC (zRp σ z row))) ∨ (zRp σ z row = 0 ∧ r = (zOf σ z row c 4).1 ∧ σ' = σ))))) := by
  refine z_Ci_of (by decide +kernel) [some (.ref (ad 0)), some (.int (zI z)), some (.int (zI row)), some (.int (zI c)), none] rfl rfl (Nat.le_of_ble_eq_true rfl) fun K hl hD ht hR hnm C ret => ?_
  subst hl; subst hD; subst ht
  have ok2 := ok
  obtain ⟨⟨hw, hs, ht, h4, h5, h6, hwc, hlc⟩, ⟨h7, hdd⟩, hmp, oS1, oW1, oA1, oT1, oB1⟩ := ok2
  have hN := zHw_N hw
  have hW := hw; unfold zHw at hW
  have hit := oB1.2.2.2.1
  have h16 := oB1.1
  have hff := oB1.2.1
  have hsz := oB_s oB1
  have h40 := oB1.2.2.2.2
  have hrp := zRp_b oB1 z row
  refine z_iload_n C (z_d dtX7_offset_0 0 rfl) rfl ?_
  refine z_callS C (z_d dtX7_offset_0 1 rfl) (k_X7_isSheet  (by first | assumption | omega)) cal_X7_isSheet gw_15_9 rfl rfl hR ⟨rfl, rfl, rfl, rfl⟩ rfl (fun r_1 w_1 h_1 => ?_)
  obtain ⟨rfl, h_1⟩ := h_1
  refine z_if_eq (tgt := 18) C (z_d dtX7_offset_0 2 rfl) (by decide) (by omega) (fun h_4 => ?_) (fun h_4 => ?_)
  · refine z_bipush C (z_d dtX7_offset_0 8 rfl) zb_m100 ?_
    exact ret _ _ _ _ (z_d dtX7_offset_0 9 rfl) (⟨σ, rfl, Or.inl ⟨by omega, rfl, rfl⟩⟩) rfl
  · refine z_aload_n C (z_d dtX7_offset_0 3 rfl) rfl ?_
    refine gf_X7_10 C (z_d dtX7_offset_0 4 rfl) ?_
    refine z_iload_n C (z_d dtX7_offset_0 5 rfl) rfl ?_
    refine z_callV C (z_d dtX7_offset_0 6 rfl) (k_X3_hasCell  (by first | assumption | omega) (by first | assumption | omega)) cal_X3_hasCell gw_10_1 rfl 1 3 rfl rfl rfl rfl hR ⟨rfl, rfl, rfl, rfl⟩ rfl (fun r_12 w_12 h_12 => ?_)
    obtain ⟨rfl, h_12⟩ := h_12
    refine z_if_ne (tgt := 21) C (z_d dtX7_offset_0 7 rfl) (by decide) (by omega) (fun h_15 => ?_) (fun h_15 => ?_)
    · refine z_aload_n C (z_d dtX7_offset_0 10 rfl) rfl ?_
      refine gf_X7_46 C (z_d dtX7_offset_0 11 rfl) ?_
      refine z_iload_n C (z_d dtX7_offset_0 12 rfl) rfl ?_
      refine al_Xsh C (z_d dtX7_offset_0 13 rfl) (by omega) ?_
      refine z_iload_n C (z_d dtX7_offset_0 14 rfl) rfl ?_
      refine z_callS C (z_d dtX7_offset_0 15 rfl) (k_X7_rowProblem  (by first | assumption | omega) (by first | assumption | omega) (by first | assumption | omega)) cal_X7_rowProblem gw_15_12 rfl rfl hR ⟨rfl, rfl, rfl, rfl⟩ rfl (fun r_28 w_28 h_28 => ?_)
      obtain ⟨rfl, rfl⟩ := h_28
      refine z_istore4 C (z_d dtX7_offset_0 16 rfl) rfl ?_
      refine z_iload C (z_d dtX7_offset_0 17 rfl) rfl ?_
      refine z_if_eq (tgt := 45) C (z_d dtX7_offset_0 18 rfl) (by decide) (by omega) (fun h_35 => ?_) (fun h_35 => ?_)
      · refine z_aload_n C (z_d dtX7_offset_0 23 rfl) rfl ?_
        refine gf_X7_19 C (z_d dtX7_offset_0 24 rfl) ?_
        refine z_aload_n C (z_d dtX7_offset_0 25 rfl) rfl ?_
        refine gf_X7_46 C (z_d dtX7_offset_0 26 rfl) ?_
        refine z_iload_n C (z_d dtX7_offset_0 27 rfl) rfl ?_
        refine al_Xsh C (z_d dtX7_offset_0 28 rfl) (by omega) ?_
        refine z_iload_n C (z_d dtX7_offset_0 29 rfl) rfl ?_
        refine z_iload_n C (z_d dtX7_offset_0 30 rfl) rfl ?_
        refine z_callV C (z_d dtX7_offset_0 31 rfl) (k_X4_bestOffset  (by omega) hit (hrp.2 (by omega)) (by omega) (by first | assumption | omega) (by first | assumption | omega) (by first | assumption | omega)) cal_X4_bestOffset gw_18_16 rfl 2 4 rfl rfl rfl rfl hR ⟨rfl, rfl, rfl, rfl⟩ rfl (fun r_57 w_57 h_57 => ?_)
        obtain ⟨rfl, rfl⟩ := h_57
        exact ret _ _ _ _ (z_d dtX7_offset_0 32 rfl) (⟨_, rfl, Or.inr ⟨by omega, Or.inr ⟨by omega, rfl, rfl⟩⟩⟩) rfl
      · refine z_aload_n C (z_d dtX7_offset_0 19 rfl) rfl ?_
        refine z_iload C (z_d dtX7_offset_0 20 rfl) rfl ?_
        refine z_callV C (z_d dtX7_offset_0 21 rfl) (k_X7_finding  ) cal_X7_finding gw_15_20 rfl 0 7 rfl rfl rfl rfl hR ⟨rfl, rfl, rfl, rfl⟩ rfl (fun r_41 w_41 h_41 => ?_)
        obtain ⟨rfl, rfl⟩ := h_41
        exact ret _ _ _ _ (z_d dtX7_offset_0 22 rfl) (⟨_, rfl, Or.inr ⟨by omega, Or.inl ⟨by omega, rfl, rfl⟩⟩⟩) rfl
    · refine z_bipush C (z_d dtX7_offset_0 8 rfl) zb_m100 ?_
      exact ret _ _ _ _ (z_d dtX7_offset_0 9 rfl) (⟨σ, rfl, Or.inl ⟨by omega, rfl, rfl⟩⟩) rfl

set_option maxRecDepth 100000 in
set_option maxHeartbeats 4000000 in
theorem k_X7_alike {l : Launch} {D : va_G} {t : Nat → ClassId} {ad : Nat → Nat} {σ : zMem}  (ok : okX σ) : z_Ci l D t yX7_alike cX7_alike 1 .int 3 71 0 0 [.ref (ad 0)] (wX ad t σ) (fun r w => ∃ σ', w = wX ad t σ' ∧ zE σ' σ [9, 36, 37, 38] ∧ σ' 36 = zC (zN σ) ∧ (∀ c, 0 ≤ c → c < zN σ → σ' 9 c = zWh (zC 1) (zN σ).toNat c) ∧ r = zWh (zC 1) (zN σ).toNat (zN σ - 1)) := by
  refine z_Ci_of (by decide +kernel) [some (.ref (ad 0))] rfl rfl (Nat.le_of_ble_eq_true rfl) fun K hl hD ht hR hnm C ret => ?_
  subst hl; subst hD; subst ht
  have ok2 := ok
  obtain ⟨⟨hw, hs, ht, h4, h5, h6, hwc, hlc⟩, ⟨h7, hdd⟩, hmp, oS1, oW1, oA1, oT1, oB1⟩ := ok2
  have hN := zHw_N hw
  have hW := hw; unfold zHw at hW
  have hn := oS_n oS1 hw
  have h9 := oS_9 oS1 hw
  refine z_aload_n C (z_d dtX7_alike_0 0 rfl) rfl ?_
  refine gf_X7_26 C (z_d dtX7_alike_0 1 rfl) ?_
  refine z_aload_n C (z_d dtX7_alike_0 2 rfl) rfl ?_
  refine gf_X7_10 C (z_d dtX7_alike_0 3 rfl) ?_
  refine z_callV C (z_d dtX7_alike_0 4 rfl) (k_X3_cells  ) cal_X3_cells gw_6_9 rfl 1 3 rfl rfl rfl rfl hR ⟨rfl, rfl, rfl, rfl⟩ rfl (fun r_8 w_8 h_8 => ?_)
  obtain ⟨rfl, rfl⟩ := h_8
  refine z_top (show zN σ = (((zN σ).toNat : Nat) : Int) by omega) ?_
  refine z_callVv C (z_d dtX7_alike_0 5 rfl) (k_X1_makeAlike  (by first | assumption | omega)) cal_X1_makeAlike gw_6_10 rfl 3 1 rfl rfl rfl rfl hR ⟨rfl, rfl, rfl, rfl⟩ rfl (fun w_11 h_11 => ?_)
  obtain ⟨σ_11, rfl, hE_11, h_11⟩ := h_11
  have eN := zN_E hE_11 (by decide) (by decide) (by decide)
  have hw2 := zHw_E hE_11 (by decide) (by decide) (by decide) hw
  refine z_aload_n C (z_d dtX7_alike_0 6 rfl) rfl ?_
  refine gf_X7_26 C (z_d dtX7_alike_0 7 rfl) ?_
  refine z_aload_n C (z_d dtX7_alike_0 8 rfl) rfl ?_
  refine gf_X7_10 C (z_d dtX7_alike_0 9 rfl) ?_
  refine z_callV C (z_d dtX7_alike_0 10 rfl) (k_X3_cells  ) cal_X3_cells gw_6_9 rfl 1 3 rfl rfl rfl rfl hR ⟨rfl, rfl, rfl, rfl⟩ rfl (fun r_22 w_22 h_22 => ?_)
  obtain ⟨rfl, rfl⟩ := h_22
  rw [eN]
  refine z_iconst C (z_d dtX7_alike_0 11 rfl) ?_
  refine z_isub C (z_d dtX7_alike_0 12 rfl) ?_
  refine z_callV C (z_d dtX7_alike_0 13 rfl) (k_X1_shareOf  (by first | assumption | omega)) cal_X1_shareOf gw_20_0 rfl 3 1 rfl rfl rfl rfl hR ⟨rfl, rfl, rfl, rfl⟩ rfl (fun r_27 w_27 h_27 => ?_)
  obtain ⟨rfl, rfl⟩ := h_27
  exact ret _ _ _ _ (z_d dtX7_alike_0 14 rfl) (⟨_, rfl, hE_11, by rw [h_11.1, show (((zN σ).toNat : Nat) : Int) = zN σ by omega], fun c h0 h1 => h_11.2 c h0 (by omega), h_11.2 _ (by omega) (by omega)⟩) rfl

set_option maxRecDepth 100000 in
set_option maxHeartbeats 4000000 in
theorem k_X7_known {l : Launch} {D : va_G} {t : Nat → ClassId} {ad : Nat → Nat} {σ : zMem} {c : Int} (ok : okX σ) (hc : -2147483648 ≤ c ∧ c < 2147483648) : z_Ci l D t yX7_known cX7_known 2 .int 2 44 0 0 [.ref (ad 0), .int (zI c)] (wX ad t σ) (fun r w => ∃ σ', w = wX ad t σ' ∧ ((¬ (0 ≤ c ∧ c < zN σ) ∧ r = -2 ∧ σ' = σ) ∨ ((0 ≤ c ∧ c < zN σ) ∧ r = 1 ∧ σ' = zS σ 9 (zU (zC 0) c 1000000)))) := by
  refine z_Ci_of (by decide +kernel) [some (.ref (ad 0)), some (.int (zI c))] rfl rfl (Nat.le_of_ble_eq_true rfl) fun K hl hD ht hR hnm C ret => ?_
  subst hl; subst hD; subst ht
  have ok2 := ok
  obtain ⟨⟨hw, hs, ht, h4, h5, h6, hwc, hlc⟩, ⟨h7, hdd⟩, hmp, oS1, oW1, oA1, oT1, oB1⟩ := ok2
  have hN := zHw_N hw
  have hW := hw; unfold zHw at hW
  refine z_aload_n C (z_d dtX7_known_0 0 rfl) rfl ?_
  refine gf_X7_10 C (z_d dtX7_known_0 1 rfl) ?_
  refine z_iload_n C (z_d dtX7_known_0 2 rfl) rfl ?_
  refine z_callV C (z_d dtX7_known_0 3 rfl) (k_X3_hasCell  (by first | assumption | omega) (by first | assumption | omega)) cal_X3_hasCell gw_10_1 rfl 1 3 rfl rfl rfl rfl hR ⟨rfl, rfl, rfl, rfl⟩ rfl (fun r_5 w_5 h_5 => ?_)
  obtain ⟨rfl, h_5⟩ := h_5
  refine z_if_ne (tgt := 14) C (z_d dtX7_known_0 4 rfl) (by decide) (by omega) (fun h_8 => ?_) (fun h_8 => ?_)
  · refine z_aload_n C (z_d dtX7_known_0 7 rfl) rfl ?_
    refine gf_X7_26 C (z_d dtX7_known_0 8 rfl) ?_
    refine z_iload_n C (z_d dtX7_known_0 9 rfl) rfl ?_
    refine z_callVv C (z_d dtX7_known_0 10 rfl) (k_X1_makeKnown  (by omega)) cal_X1_makeKnown gw_20_9 rfl 3 1 rfl rfl rfl rfl hR ⟨rfl, rfl, rfl, rfl⟩ rfl (fun w_19 h_19 => ?_)
    obtain rfl := h_19
    refine z_iconst C (z_d dtX7_known_0 11 rfl) ?_
    exact ret _ _ _ _ (z_d dtX7_known_0 12 rfl) (⟨_, rfl, Or.inr ⟨by omega, rfl, rfl⟩⟩) rfl
  · refine z_bipush C (z_d dtX7_known_0 5 rfl) zb_m2 ?_
    exact ret _ _ _ _ (z_d dtX7_known_0 6 rfl) (⟨σ, rfl, Or.inl ⟨by omega, rfl, rfl⟩⟩) rfl

set_option maxRecDepth 100000 in
set_option maxHeartbeats 4000000 in
theorem k_X7_lead {l : Launch} {D : va_G} {t : Nat → ClassId} {ad : Nat → Nat} {σ : zMem} {n : Int} (ok : okX σ) (hn : -2147483648 ≤ n ∧ n < 2147483648) : z_Ci l D t yX7_lead cX7_lead 3 .int 4 93 0 0 [.ref (ad 0), .int (zI n)] (wX ad t σ) (fun r w => ∃ σ', w = wX ad t σ' ∧ ((¬ (1 ≤ n ∧ n ≤ 20) ∧ r = -2 ∧ σ' = σ) ∨ ((1 ≤ n ∧ n ≤ 20) ∧ zE σ' σ [9, 37, 38] ∧ (∀ c, 0 ≤ c → c < zN σ → σ' 9 c = zLn σ n.toNat c) ∧ r = zCs (zLn σ n.toNat) (zN σ).toNat))) := by
  refine z_Ci_of (by decide +kernel) [some (.ref (ad 0)), some (.int (zI n)), none] rfl rfl (Nat.le_of_ble_eq_true rfl) fun K hl hD ht hR hnm C ret => ?_
  subst hl; subst hD; subst ht
  have ok2 := ok
  obtain ⟨⟨hw, hs, ht, h4, h5, h6, hwc, hlc⟩, ⟨h7, hdd⟩, hmp, oS1, oW1, oA1, oT1, oB1⟩ := ok2
  have hN := zHw_N hw
  have hW := hw; unfold zHw at hW
  have hn := oS_n oS1 hw
  have h9 := oS_9 oS1 hw
  have hlo := zLn_ok hw hs oS1.2.1 oS1.2.2
  refine z_iload_n C (z_d dtX7_lead_0 0 rfl) rfl ?_
  refine z_iconst C (z_d dtX7_lead_0 1 rfl) ?_
  refine z_icmp_lt (tgt := 11) C (z_d dtX7_lead_0 2 rfl) (by decide) (by omega) (fun h_2 => ?_) (fun h_2 => ?_)
  · refine z_bipush C (z_d dtX7_lead_0 6 rfl) zb_m2 ?_
    exact ret _ _ _ _ (z_d dtX7_lead_0 7 rfl) (⟨σ, rfl, Or.inl ⟨by omega, rfl, rfl⟩⟩) rfl
  · refine z_iload_n C (z_d dtX7_lead_0 3 rfl) rfl ?_
    refine z_bipush C (z_d dtX7_lead_0 4 rfl) zb_20 ?_
    refine z_icmp_le (tgt := 14) C (z_d dtX7_lead_0 5 rfl) (by decide) (by omega) (fun h_8 => ?_) (fun h_8 => ?_)
    · refine z_iconst C (z_d dtX7_lead_0 8 rfl) ?_
      refine z_istore_n2 C (z_d dtX7_lead_0 9 rfl) rfl ?_
      have lp_16 : ∀ (N_16 : Nat) (i : Nat) (k : Int) (μ : zMem), (k = i ∧ i ≤ n) → (zE μ σ [9, 37, 38]) → (∀ c, 0 ≤ c → c < zN σ → μ 9 c = zLn σ i c) → (n - i).toNat < N_16 → Gd K 0 0 16 [some (.ref (ad 0)), some (.int (zI n)), some (.int (zI k))] [] (wX ad (z_t K) μ) := by
        intro N_16
        induction N_16 with
        | zero => intro i k μ hi hE hm hm_16; exact absurd hm_16 (Nat.not_lt_zero _)
        | succ N_16 ih_16 =>
          intro i k μ hi hE hm hm_16
          obtain ⟨rfl, hi⟩ := hi
          have eN := zN_E hE (by decide) (by decide) (by decide)
          have hw2 := zHw_E hE (by decide) (by decide) (by decide) hw
          have ht2 := zTb_E hE (by decide) (by decide) (by decide) (by decide) (by decide) (by decide) (by decide) (by decide) ht
          have e3 := hE 3 (by decide)
          have e36 := hE 36 (by decide)
          have h92 : ∀ c : Int, 0 ≤ c → c < ((zN σ).toNat : Int) → 0 ≤ μ 9 c ∧ μ 9 c ≤ 1000000 := fun c a b => by rw [hm c a (by omega)]; exact (hlo i).1 c a (by omega)
          have eL := zLw_c (μ := μ) (σ := zS σ 9 (zLn σ i)) (hE 0 (by decide)) (hE 1 (by decide)) (hE 2 (by decide)) (hE 3 (by decide)) (hE 33 (by decide)) (zN σ).toNat (fun c a b => hm c a (by omega))
          refine z_iload_n C (z_d dtX7_lead_0 10 rfl) rfl ?_
          refine z_iload_n C (z_d dtX7_lead_0 11 rfl) rfl ?_
          refine z_icmp_ge (tgt := 38) C (z_d dtX7_lead_0 12 rfl) (by decide) (by omega) (fun h_18 => ?_) (fun h_18 => ?_)
          · refine z_aload_n C (z_d dtX7_lead_0 20 rfl) rfl ?_
            refine gf_X7_26 C (z_d dtX7_lead_0 21 rfl) ?_
            refine z_callV C (z_d dtX7_lead_0 22 rfl) (k_X1_cellsWithShare (n := (zN σ).toNat) (by rw [e36]; exact hn) h92) cal_X1_cellsWithShare gw_21_14 rfl 3 1 rfl rfl rfl rfl hR ⟨rfl, rfl, rfl, rfl⟩ rfl (fun r_42 w_42 h_42 => ?_)
            obtain ⟨rfl, rfl⟩ := h_42
            rw [zCs_cg (F := μ 9) (G := zLn σ i) _ (fun c a b => hm c a (by omega))]
            exact ret _ _ _ _ (z_d dtX7_lead_0 23 rfl) (⟨_, rfl, Or.inr ⟨by omega, hE, by rw [show n.toNat = i by omega]; exact hm, by rw [show n.toNat = i by omega]⟩⟩) rfl
          · refine z_aload_n C (z_d dtX7_lead_0 13 rfl) rfl ?_
            refine gf_X7_26 C (z_d dtX7_lead_0 14 rfl) ?_
            refine z_aload_n C (z_d dtX7_lead_0 15 rfl) rfl ?_
            refine gf_X7_10 C (z_d dtX7_lead_0 16 rfl) ?_
            refine z_callVv C (z_d dtX7_lead_0 17 rfl) (k_X1_leadOneStep (n := (zN σ).toNat) (by first | assumption | omega) (by first | assumption | omega) (by rw [e3]; exact hs) (by rw [e36]; exact hn) (by rw [eN]; omega) h92) cal_X1_leadOneStep gw_20_22 rfl 3 1 rfl rfl rfl rfl hR ⟨rfl, rfl, rfl, rfl⟩ rfl (fun w_29 h_29 => ?_)
            obtain ⟨σ_29, rfl, hE_29, h_29⟩ := h_29
            refine z_iinc2 C (z_d dtX7_lead_0 18 rfl) rfl ?_
            refine z_goto (tgt := 16) C (z_d dtX7_lead_0 19 rfl) (by decide) ?_
            exact ih_16 (i + 1) _ _ (by omega) (zE_tr (zE_mo hE_29 (by decide)) hE) (fun c a b => by
                  rw [eL] at h_29
                  rw [zLn]
                  unfold zL1
                  rcases h_29 with ⟨p, q⟩ | ⟨p, q⟩
                  · rw [if_pos p, q]; exact hm c a b
                  · rw [if_neg (by omega)]; exact q c a (by omega)) (by omega)
      exact lp_16 _ 0 _ _ (by omega) zE_rf (fun c _ _ => rfl) (Nat.lt_succ_self _)
    · refine z_bipush C (z_d dtX7_lead_0 6 rfl) zb_m2 ?_
      exact ret _ _ _ _ (z_d dtX7_lead_0 7 rfl) (⟨σ, rfl, Or.inl ⟨by omega, rfl, rfl⟩⟩) rfl

set_option maxRecDepth 100000 in
set_option maxHeartbeats 4000000 in
theorem k_X7_hear {l : Launch} {D : va_G} {t : Nat → ClassId} {ad : Nat → Nat} {σ : zMem} {z row o : Int} (ok : okX σ) (hz : -2147483648 ≤ z ∧ z < 2147483648) (hrow : -2147483648 ≤ row ∧ row < 2147483648) (ho : -2147483648 ≤ o ∧ o < 2147483648) : z_Ci l D t yX7_hear cX7_hear 5 .int 5 121 0 0 [.ref (ad 0), .int (zI z), .int (zI row), .int (zI o)] (wX ad t σ) (fun r w => ∃ σ', w = wX ad t σ' ∧ ((¬ ((0 ≤ z ∧ z < 4) ∧ (-4 ≤ o ∧ o ≤ 4)) ∧ r = -2 ∧ σ' = σ) ∨ (((0 ≤ z ∧ z < 4) ∧ (-4 ≤ o ∧ o ≤ 4)) ∧ ((¬ zRp σ z row = 0 ∧ r = -10 - zRp σ z row ∧ σ' = zS σ 19 (zC (zRp σ z row))) ∨ (zRp σ z row = 0 ∧ zSum (zHx σ z row o) (zN σ).toNat ≤ 0 ∧ r = -3 ∧ zE σ' σ [37, 38]) ∨ (zRp σ z row = 0 ∧ 0 < zSum (zHx σ z row o) (zN σ).toNat ∧ zE σ' σ [9, 37, 38] ∧ (∀ c, 0 ≤ c → c < zN σ → σ' 9 c = zWh (zHx σ z row o) (zN σ).toNat c) ∧ r = zCs (zWh (zHx σ z row o) (zN σ).toNat) (zN σ).toNat))))) := by
  refine z_Ci_of (by decide +kernel) [some (.ref (ad 0)), some (.int (zI z)), some (.int (zI row)), some (.int (zI o)), none] rfl rfl (Nat.le_of_ble_eq_true rfl) fun K hl hD ht hR hnm C ret => ?_
  subst hl; subst hD; subst ht
  have ok2 := ok
  obtain ⟨⟨hw, hs, ht, h4, h5, h6, hwc, hlc⟩, ⟨h7, hdd⟩, hmp, oS1, oW1, oA1, oT1, oB1⟩ := ok2
  have hN := zHw_N hw
  have hW := hw; unfold zHw at hW
  have hit := oB1.2.2.2.1
  have h16 := oB1.1
  have hff := oB1.2.1
  have hsz := oB_s oB1
  have h40 := oB1.2.2.2.2
  have hn := oS_n oS1 hw
  have h9 := oS_9 oS1 hw
  have hrp := zRp_b oB1 z row
  refine z_iload_n C (z_d dtX7_hear_0 0 rfl) rfl ?_
  refine z_callS C (z_d dtX7_hear_0 1 rfl) (k_X7_isSheet  (by first | assumption | omega)) cal_X7_isSheet gw_15_9 rfl rfl hR ⟨rfl, rfl, rfl, rfl⟩ rfl (fun r_1 w_1 h_1 => ?_)
  obtain ⟨rfl, h_1⟩ := h_1
  refine z_if_eq (tgt := 18) C (z_d dtX7_hear_0 2 rfl) (by decide) (by omega) (fun h_4 => ?_) (fun h_4 => ?_)
  · refine z_bipush C (z_d dtX7_hear_0 9 rfl) zb_m2 ?_
    exact ret _ _ _ _ (z_d dtX7_hear_0 10 rfl) (⟨σ, rfl, Or.inl ⟨by omega, rfl, rfl⟩⟩) rfl
  · refine z_iload_n C (z_d dtX7_hear_0 3 rfl) rfl ?_
    refine z_bipush C (z_d dtX7_hear_0 4 rfl) zb_m4 ?_
    refine z_icmp_lt (tgt := 18) C (z_d dtX7_hear_0 5 rfl) (by decide) (by omega) (fun h_10 => ?_) (fun h_10 => ?_)
    · refine z_bipush C (z_d dtX7_hear_0 9 rfl) zb_m2 ?_
      exact ret _ _ _ _ (z_d dtX7_hear_0 10 rfl) (⟨σ, rfl, Or.inl ⟨by omega, rfl, rfl⟩⟩) rfl
    · refine z_iload_n C (z_d dtX7_hear_0 6 rfl) rfl ?_
      refine z_iconst C (z_d dtX7_hear_0 7 rfl) ?_
      refine z_icmp_le (tgt := 21) C (z_d dtX7_hear_0 8 rfl) (by decide) (by omega) (fun h_15 => ?_) (fun h_15 => ?_)
      · refine z_aload_n C (z_d dtX7_hear_0 11 rfl) rfl ?_
        refine gf_X7_46 C (z_d dtX7_hear_0 12 rfl) ?_
        refine z_iload_n C (z_d dtX7_hear_0 13 rfl) rfl ?_
        refine al_Xsh C (z_d dtX7_hear_0 14 rfl) (by omega) ?_
        refine z_iload_n C (z_d dtX7_hear_0 15 rfl) rfl ?_
        refine z_callS C (z_d dtX7_hear_0 16 rfl) (k_X7_rowProblem  (by first | assumption | omega) (by first | assumption | omega) (by first | assumption | omega)) cal_X7_rowProblem gw_15_12 rfl rfl hR ⟨rfl, rfl, rfl, rfl⟩ rfl (fun r_28 w_28 h_28 => ?_)
        obtain ⟨rfl, rfl⟩ := h_28
        refine z_istore4 C (z_d dtX7_hear_0 17 rfl) rfl ?_
        refine z_iload C (z_d dtX7_hear_0 18 rfl) rfl ?_
        refine z_if_eq (tgt := 45) C (z_d dtX7_hear_0 19 rfl) (by decide) (by omega) (fun h_35 => ?_) (fun h_35 => ?_)
        · refine z_aload_n C (z_d dtX7_hear_0 24 rfl) rfl ?_
          refine gf_X7_26 C (z_d dtX7_hear_0 25 rfl) ?_
          refine z_aload_n C (z_d dtX7_hear_0 26 rfl) rfl ?_
          refine gf_X7_19 C (z_d dtX7_hear_0 27 rfl) ?_
          refine z_aload_n C (z_d dtX7_hear_0 28 rfl) rfl ?_
          refine gf_X7_46 C (z_d dtX7_hear_0 29 rfl) ?_
          refine z_iload_n C (z_d dtX7_hear_0 30 rfl) rfl ?_
          refine al_Xsh C (z_d dtX7_hear_0 31 rfl) (by omega) ?_
          refine z_iload_n C (z_d dtX7_hear_0 32 rfl) rfl ?_
          refine z_iload_n C (z_d dtX7_hear_0 33 rfl) rfl ?_
          refine z_callV C (z_d dtX7_hear_0 34 rfl) (k_X1_hearRow (n := (zN σ).toNat) (by first | assumption | omega) (by omega) hit (hrp.2 (by omega)) (by first | assumption | omega) (by first | assumption | omega) (by first | assumption | omega) (by omega) (by first | assumption | omega)) cal_X1_hearRow gw_22_7 rfl 3 1 rfl rfl rfl rfl hR ⟨rfl, rfl, rfl, rfl⟩ rfl (fun r_61 w_61 h_61 => ?_)
          obtain ⟨σ_61, rfl, h61⟩ := h_61
          change ((zSum (zHx σ z row o) (zN σ).toNat ≤ 0 ∧ _ ∧ _) ∨ (0 < zSum (zHx σ z row o) (zN σ).toNat ∧ _ ∧ _ ∧ _)) at h61
          have hr61 : r_61 = 0 ∨ r_61 = 1 := h61.elim (fun q => Or.inl q.2.1) (fun q => Or.inr q.2.1)
          refine z_if_eq (tgt := 77) C (z_d dtX7_hear_0 35 rfl) (by decide) (by omega) (fun h_64 => ?_) (fun h_64 => ?_)
          · refine z_bipush C (z_d dtX7_hear_1 0 rfl) zb_m3 ?_
            exact ret _ _ _ _ (z_d dtX7_hear_1 1 rfl) (by
                first
                  | exact ⟨_, rfl, Or.inr ⟨by omega, Or.inr (Or.inr ⟨by omega, h62.1, h62.2.2.1, fun c a b => h62.2.2.2 c a (by omega), rfl⟩)⟩⟩
                  | exact ⟨_, rfl, Or.inr ⟨by omega, Or.inr (Or.inl ⟨by omega, (h61.resolve_right (fun q => by omega)).1, rfl, (h61.resolve_right (fun q => by omega)).2.2⟩)⟩⟩) rfl
          · refine z_aload_n C (z_d dtX7_hear_0 36 rfl) rfl ?_
            refine gf_X7_26 C (z_d dtX7_hear_0 37 rfl) ?_
            have h62 := h61.resolve_left (fun q => h_64 q.2.1)
            have hx0 : ∀ c : Int, 0 ≤ c → c < ((zN σ).toNat : Int) → 0 ≤ zHx σ z row o c := fun c a b => by
              have p := zHm_b (s := z) (row := row) (o := o) hmp 8 c.toNat (n := (zN σ).toNat) (by omega)
              rw [Int.toNat_of_nonneg a] at p
              exact Int.mul_nonneg p.1 (h9 c a b).1
            have hok := zWh_ok hn.2.1 hx0 h62.1
            have e36 := h62.2.2.1 36 (by decide)
            refine z_callV C (z_d dtX7_hear_0 38 rfl) (k_X1_cellsWithShare (n := (zN σ).toNat) (by rw [e36]; exact hn) (fun c a b => by rw [h62.2.2.2 c a b]; exact hok.1 c a b)) cal_X1_cellsWithShare gw_21_14 rfl 3 1 rfl rfl rfl rfl hR ⟨rfl, rfl, rfl, rfl⟩ rfl (fun r_71 w_71 h_71 => ?_)
            obtain ⟨rfl, rfl⟩ := h_71
            rw [zCs_cg (F := σ_61 9) (G := zWh (zHx σ z row o) (zN σ).toNat) _ h62.2.2.2]
            refine z_goto (tgt := 79) C (z_d dtX7_hear_0 39 rfl) (by decide) ?_
            exact ret _ _ _ _ (z_d dtX7_hear_1 1 rfl) (by
                first
                  | exact ⟨_, rfl, Or.inr ⟨by omega, Or.inr (Or.inr ⟨by omega, h62.1, h62.2.2.1, fun c a b => h62.2.2.2 c a (by omega), rfl⟩)⟩⟩
                  | exact ⟨_, rfl, Or.inr ⟨by omega, Or.inr (Or.inl ⟨by omega, (h61.resolve_right (fun q => by omega)).1, rfl, (h61.resolve_right (fun q => by omega)).2.2⟩)⟩⟩) rfl
        · refine z_aload_n C (z_d dtX7_hear_0 20 rfl) rfl ?_
          refine z_iload C (z_d dtX7_hear_0 21 rfl) rfl ?_
          refine z_callV C (z_d dtX7_hear_0 22 rfl) (k_X7_finding  ) cal_X7_finding gw_15_20 rfl 0 7 rfl rfl rfl rfl hR ⟨rfl, rfl, rfl, rfl⟩ rfl (fun r_41 w_41 h_41 => ?_)
          obtain ⟨rfl, rfl⟩ := h_41
          exact ret _ _ _ _ (z_d dtX7_hear_0 23 rfl) (⟨_, rfl, Or.inr ⟨by omega, Or.inl ⟨by omega, rfl, rfl⟩⟩⟩) rfl
      · refine z_bipush C (z_d dtX7_hear_0 9 rfl) zb_m2 ?_
        exact ret _ _ _ _ (z_d dtX7_hear_0 10 rfl) (⟨σ, rfl, Or.inl ⟨by omega, rfl, rfl⟩⟩) rfl

set_option maxRecDepth 100000 in
set_option maxHeartbeats 4000000 in
theorem k_X7_share {l : Launch} {D : va_G} {t : Nat → ClassId} {ad : Nat → Nat} {σ : zMem} {c : Int} (ok : okX σ) (hc : -2147483648 ≤ c ∧ c < 2147483648) : z_Ci l D t yX7_share cX7_share 2 .int 2 41 0 0 [.ref (ad 0), .int (zI c)] (wX ad t σ) (fun r w => w = wX ad t σ ∧ ((¬ (0 ≤ c ∧ c < zN σ) ∧ r = -2) ∨ ((0 ≤ c ∧ c < zN σ) ∧ r = σ 9 c))) := by
  refine z_Ci_of (by decide +kernel) [some (.ref (ad 0)), some (.int (zI c))] rfl rfl (Nat.le_of_ble_eq_true rfl) fun K hl hD ht hR hnm C ret => ?_
  subst hl; subst hD; subst ht
  have ok2 := ok
  obtain ⟨⟨hw, hs, ht, h4, h5, h6, hwc, hlc⟩, ⟨h7, hdd⟩, hmp, oS1, oW1, oA1, oT1, oB1⟩ := ok2
  have hN := zHw_N hw
  have hW := hw; unfold zHw at hW
  refine z_aload_n C (z_d dtX7_share_0 0 rfl) rfl ?_
  refine gf_X7_10 C (z_d dtX7_share_0 1 rfl) ?_
  refine z_iload_n C (z_d dtX7_share_0 2 rfl) rfl ?_
  refine z_callV C (z_d dtX7_share_0 3 rfl) (k_X3_hasCell  (by first | assumption | omega) (by first | assumption | omega)) cal_X3_hasCell gw_10_1 rfl 1 3 rfl rfl rfl rfl hR ⟨rfl, rfl, rfl, rfl⟩ rfl (fun r_5 w_5 h_5 => ?_)
  obtain ⟨rfl, h_5⟩ := h_5
  refine z_if_eq (tgt := 22) C (z_d dtX7_share_0 4 rfl) (by decide) (by omega) (fun h_8 => ?_) (fun h_8 => ?_)
  · refine z_bipush C (z_d dtX7_share_0 10 rfl) zb_m2 ?_
    exact ret _ _ _ _ (z_d dtX7_share_0 11 rfl) (⟨rfl, by
        first | exact Or.inl ⟨by omega, rfl⟩ | exact Or.inr ⟨by omega, rfl⟩⟩) rfl
  · refine z_aload_n C (z_d dtX7_share_0 5 rfl) rfl ?_
    refine gf_X7_26 C (z_d dtX7_share_0 6 rfl) ?_
    refine z_iload_n C (z_d dtX7_share_0 7 rfl) rfl ?_
    refine z_callV C (z_d dtX7_share_0 8 rfl) (k_X1_shareOf  (by omega)) cal_X1_shareOf gw_20_0 rfl 3 1 rfl rfl rfl rfl hR ⟨rfl, rfl, rfl, rfl⟩ rfl (fun r_16 w_16 h_16 => ?_)
    obtain ⟨rfl, rfl⟩ := h_16
    refine z_goto (tgt := 24) C (z_d dtX7_share_0 9 rfl) (by decide) ?_
    exact ret _ _ _ _ (z_d dtX7_share_0 11 rfl) (⟨rfl, by
        first | exact Or.inl ⟨by omega, rfl⟩ | exact Or.inr ⟨by omega, rfl⟩⟩) rfl

set_option maxRecDepth 100000 in
set_option maxHeartbeats 4000000 in
theorem k_X7_likeliest {l : Launch} {D : va_G} {t : Nat → ClassId} {ad : Nat → Nat} {σ : zMem}  (ok : okX σ) : z_Ci l D t yX7_likeliest cX7_likeliest 1 .int 1 22 0 0 [.ref (ad 0)] (wX ad t σ) (fun r w => w = wX ad t σ ∧ r = zMx (σ 9) (zN σ).toNat) := by
  refine z_Ci_of (by decide +kernel) [some (.ref (ad 0))] rfl rfl (Nat.le_of_ble_eq_true rfl) fun K hl hD ht hR hnm C ret => ?_
  subst hl; subst hD; subst ht
  have ok2 := ok
  obtain ⟨⟨hw, hs, ht, h4, h5, h6, hwc, hlc⟩, ⟨h7, hdd⟩, hmp, oS1, oW1, oA1, oT1, oB1⟩ := ok2
  have hN := zHw_N hw
  have hW := hw; unfold zHw at hW
  have hn := oS_n oS1 hw
  have h9 := oS_9 oS1 hw
  refine z_aload_n C (z_d dtX7_likeliest_0 0 rfl) rfl ?_
  refine gf_X7_26 C (z_d dtX7_likeliest_0 1 rfl) ?_
  refine z_callV C (z_d dtX7_likeliest_0 2 rfl) (k_X1_greatestCell (n := (zN σ).toNat) (by first | assumption | omega) (by first | assumption | omega)) cal_X1_greatestCell gw_23_15 rfl 3 1 rfl rfl rfl rfl hR ⟨rfl, rfl, rfl, rfl⟩ rfl (fun r_4 w_4 h_4 => ?_)
  obtain ⟨rfl, rfl⟩ := h_4
  exact ret _ _ _ _ (z_d dtX7_likeliest_0 3 rfl) (⟨rfl, rfl⟩) rfl
end
