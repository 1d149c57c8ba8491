section
-- ===== PART A: goes FIRST, ahead of the names: the tables' words, and 'selects' of the private methods out of them =====
/-- a private method of a class that the tables say can be made, by its rows of tables_1 -/
def lw_okq (q : MethodName × Nat) : Prop := (q.1.cls ≠ "java/lang/invoke/MethodHandle" ∧ q.1.cls ≠ "java/lang/invoke/VarHandle") ∧ Cond.instantiable q.1.cls q.2 ∈ tables_1 ∧ Cond.privateMethod q.1 ∈ tables_1 ∧ Cond.instanceMethod q.1 ∈ tables_1
theorem lw_p0 : lw_okq (⟨"SixtyTablet$Working", "write", "(III)V"⟩, 4) := ⟨⟨by decide +kernel, by decide +kernel⟩, List.mem_of_getElem? (i := 20) (by decide +kernel), List.mem_of_getElem? (i := 233) (by decide +kernel), List.mem_of_getElem? (i := 234) (by decide +kernel)⟩
theorem lw_p1 : lw_okq (⟨"SixtyTablet$Working", "leftOut", "(II)J"⟩, 4) := ⟨⟨by decide +kernel, by decide +kernel⟩, List.mem_of_getElem? (i := 20) (by decide +kernel), List.mem_of_getElem? (i := 294) (by decide +kernel), List.mem_of_getElem? (i := 295) (by decide +kernel)⟩
theorem lw_p2 : lw_okq (⟨"SixtyTablet$Working", "placeLost", "(II)J"⟩, 4) := ⟨⟨by decide +kernel, by decide +kernel⟩, List.mem_of_getElem? (i := 20) (by decide +kernel), List.mem_of_getElem? (i := 299) (by decide +kernel), List.mem_of_getElem? (i := 300) (by decide +kernel)⟩
theorem lw_p3 : lw_okq (⟨"SixtyTablet$Working", "rowBeside", "(II)J"⟩, 4) := ⟨⟨by decide +kernel, by decide +kernel⟩, List.mem_of_getElem? (i := 20) (by decide +kernel), List.mem_of_getElem? (i := 303) (by decide +kernel), List.mem_of_getElem? (i := 304) (by decide +kernel)⟩
theorem lw_p4 : lw_okq (⟨"SixtyTablet$Working", "writtenTwice", "(II)J"⟩, 4) := ⟨⟨by decide +kernel, by decide +kernel⟩, List.mem_of_getElem? (i := 20) (by decide +kernel), List.mem_of_getElem? (i := 307) (by decide +kernel), List.mem_of_getElem? (i := 308) (by decide +kernel)⟩
theorem lw_p5 : lw_okq (⟨"SixtyTablet", "clayOf", "(I)LSixtyTablet$Tablet;"⟩, 5) := ⟨⟨by decide +kernel, by decide +kernel⟩, List.mem_of_getElem? (i := 12) (by decide +kernel), List.mem_of_getElem? (i := 321) (by decide +kernel), List.mem_of_getElem? (i := 322) (by decide +kernel)⟩
theorem lw_p6 : lw_okq (⟨"SixtyTablet$Search", "sixtyHere", "(II)I"⟩, 9) := ⟨⟨by decide +kernel, by decide +kernel⟩, List.mem_of_getElem? (i := 40) (by decide +kernel), List.mem_of_getElem? (i := 400) (by decide +kernel), List.mem_of_getElem? (i := 401) (by decide +kernel)⟩
theorem lw_p7 : lw_okq (⟨"SixtyTablet$Search", "takeAll", "()V"⟩, 9) := ⟨⟨by decide +kernel, by decide +kernel⟩, List.mem_of_getElem? (i := 40) (by decide +kernel), List.mem_of_getElem? (i := 420) (by decide +kernel), List.mem_of_getElem? (i := 421) (by decide +kernel)⟩
theorem lw_p8 : lw_okq (⟨"SixtyTablet$Search", "keepAgreed", "()Z"⟩, 9) := ⟨⟨by decide +kernel, by decide +kernel⟩, List.mem_of_getElem? (i := 40) (by decide +kernel), List.mem_of_getElem? (i := 424) (by decide +kernel), List.mem_of_getElem? (i := 425) (by decide +kernel)⟩
theorem lw_p9 : lw_okq (⟨"SixtyTabletModel", "isLine", "(I)Z"⟩, 12) := ⟨⟨by decide +kernel, by decide +kernel⟩, List.mem_of_getElem? (i := 521) (by decide +kernel), List.mem_of_getElem? (i := 673) (by decide +kernel), List.mem_of_getElem? (i := 674) (by decide +kernel)⟩
theorem lw_p10 : lw_okq (⟨"SixtyTabletModel", "sumOf", "(I)J"⟩, 12) := ⟨⟨by decide +kernel, by decide +kernel⟩, List.mem_of_getElem? (i := 521) (by decide +kernel), List.mem_of_getElem? (i := 681) (by decide +kernel), List.mem_of_getElem? (i := 682) (by decide +kernel)⟩
theorem lw_p11 : lw_okq (⟨"SixtyTabletModel", "lineOf", "(I)J"⟩, 12) := ⟨⟨by decide +kernel, by decide +kernel⟩, List.mem_of_getElem? (i := 521) (by decide +kernel), List.mem_of_getElem? (i := 685) (by decide +kernel), List.mem_of_getElem? (i := 686) (by decide +kernel)⟩
theorem lw_p12 : lw_okq (⟨"SixtyTabletModel", "slipped", "(III)J"⟩, 12) := ⟨⟨by decide +kernel, by decide +kernel⟩, List.mem_of_getElem? (i := 521) (by decide +kernel), List.mem_of_getElem? (i := 694) (by decide +kernel), List.mem_of_getElem? (i := 695) (by decide +kernel)⟩
theorem lw_p13 : lw_okq (⟨"SixtyTabletModel", "isCell", "(III)Z"⟩, 12) := ⟨⟨by decide +kernel, by decide +kernel⟩, List.mem_of_getElem? (i := 521) (by decide +kernel), List.mem_of_getElem? (i := 715) (by decide +kernel), List.mem_of_getElem? (i := 716) (by decide +kernel)⟩
theorem lw_p14 : lw_okq (⟨"SixtyTabletModel", "isRow", "(II)Z"⟩, 12) := ⟨⟨by decide +kernel, by decide +kernel⟩, List.mem_of_getElem? (i := 521) (by decide +kernel), List.mem_of_getElem? (i := 719) (by decide +kernel), List.mem_of_getElem? (i := 720) (by decide +kernel)⟩
theorem lw_p15 : lw_okq (⟨"SixtyTabletModel", "reads", "(II)Z"⟩, 12) := ⟨⟨by decide +kernel, by decide +kernel⟩, List.mem_of_getElem? (i := 521) (by decide +kernel), List.mem_of_getElem? (i := 744) (by decide +kernel), List.mem_of_getElem? (i := 745) (by decide +kernel)⟩
def lw_privs_1 : List (MethodName × Nat) := [(⟨"SixtyTablet$Working", "write", "(III)V"⟩, 4), (⟨"SixtyTablet$Working", "leftOut", "(II)J"⟩, 4), (⟨"SixtyTablet$Working", "placeLost", "(II)J"⟩, 4), (⟨"SixtyTablet$Working", "rowBeside", "(II)J"⟩, 4), (⟨"SixtyTablet$Working", "writtenTwice", "(II)J"⟩, 4), (⟨"SixtyTablet", "clayOf", "(I)LSixtyTablet$Tablet;"⟩, 5), (⟨"SixtyTablet$Search", "sixtyHere", "(II)I"⟩, 9), (⟨"SixtyTablet$Search", "takeAll", "()V"⟩, 9), (⟨"SixtyTablet$Search", "keepAgreed", "()Z"⟩, 9), (⟨"SixtyTabletModel", "isLine", "(I)Z"⟩, 12), (⟨"SixtyTabletModel", "sumOf", "(I)J"⟩, 12), (⟨"SixtyTabletModel", "lineOf", "(I)J"⟩, 12), (⟨"SixtyTabletModel", "slipped", "(III)J"⟩, 12), (⟨"SixtyTabletModel", "isCell", "(III)Z"⟩, 12), (⟨"SixtyTabletModel", "isRow", "(II)Z"⟩, 12), (⟨"SixtyTabletModel", "reads", "(II)Z"⟩, 12)]
theorem lw_r1 : ∀ q ∈ lw_privs_1, lw_okq q := List.forall_mem_cons.mpr ⟨lw_p0, List.forall_mem_cons.mpr ⟨lw_p1, List.forall_mem_cons.mpr ⟨lw_p2, List.forall_mem_cons.mpr ⟨lw_p3, List.forall_mem_cons.mpr ⟨lw_p4, List.forall_mem_cons.mpr ⟨lw_p5, List.forall_mem_cons.mpr ⟨lw_p6, List.forall_mem_cons.mpr ⟨lw_p7, List.forall_mem_cons.mpr ⟨lw_p8, List.forall_mem_cons.mpr ⟨lw_p9, List.forall_mem_cons.mpr ⟨lw_p10, List.forall_mem_cons.mpr ⟨lw_p11, List.forall_mem_cons.mpr ⟨lw_p12, List.forall_mem_cons.mpr ⟨lw_p13, List.forall_mem_cons.mpr ⟨lw_p14, List.forall_mem_cons.mpr ⟨lw_p15, fun _ h => absurd h List.not_mem_nil⟩⟩⟩⟩⟩⟩⟩⟩⟩⟩⟩⟩⟩⟩⟩⟩
theorem lw_p16 : lw_okq (⟨"SixtyTabletModel", "fits", "(II)Z"⟩, 12) := ⟨⟨by decide +kernel, by decide +kernel⟩, List.mem_of_getElem? (i := 521) (by decide +kernel), List.mem_of_getElem? (i := 748) (by decide +kernel), List.mem_of_getElem? (i := 749) (by decide +kernel)⟩
theorem lw_p17 : lw_okq (⟨"SixtyTabletModel", "unlike", "(IIII)I"⟩, 12) := ⟨⟨by decide +kernel, by decide +kernel⟩, List.mem_of_getElem? (i := 521) (by decide +kernel), List.mem_of_getElem? (i := 761) (by decide +kernel), List.mem_of_getElem? (i := 762) (by decide +kernel)⟩
theorem lw_p18 : lw_okq (⟨"SixtyTabletModel", "tableAt", "(IIII)I"⟩, 12) := ⟨⟨by decide +kernel, by decide +kernel⟩, List.mem_of_getElem? (i := 521) (by decide +kernel), List.mem_of_getElem? (i := 765) (by decide +kernel), List.mem_of_getElem? (i := 766) (by decide +kernel)⟩
theorem lw_p19 : lw_okq (⟨"SixtyTabletModel", "laySure", "(I)V"⟩, 12) := ⟨⟨by decide +kernel, by decide +kernel⟩, List.mem_of_getElem? (i := 521) (by decide +kernel), List.mem_of_getElem? (i := 776) (by decide +kernel), List.mem_of_getElem? (i := 777) (by decide +kernel)⟩
def lw_privs_2 : List (MethodName × Nat) := [(⟨"SixtyTabletModel", "fits", "(II)Z"⟩, 12), (⟨"SixtyTabletModel", "unlike", "(IIII)I"⟩, 12), (⟨"SixtyTabletModel", "tableAt", "(IIII)I"⟩, 12), (⟨"SixtyTabletModel", "laySure", "(I)V"⟩, 12)]
theorem lw_r2 : ∀ q ∈ lw_privs_2, lw_okq q := List.forall_mem_cons.mpr ⟨lw_p16, List.forall_mem_cons.mpr ⟨lw_p17, List.forall_mem_cons.mpr ⟨lw_p18, List.forall_mem_cons.mpr ⟨lw_p19, fun _ h => absurd h List.not_mem_nil⟩⟩⟩⟩
def lw_privs : List (MethodName × Nat) := lw_privs_1 ++ (lw_privs_2)
def lw_tbl : List Cond := k2_sels lw_privs ++ tables_1
theorem lw_privs_ok : ∀ q ∈ lw_privs, lw_okq q := by
  show ∀ q ∈ lw_privs_1 ++ (lw_privs_2), lw_okq q
  exact List.forall_mem_append.mpr ⟨lw_r1, lw_r2⟩
end
section
/-! ===== BEGIN words of one list among another's, by their places ===== -/
theorem goodIn_r {big : List Cond} (ws : List Cond) (ps : List Nat) (hp : ws = ps.filterMap (fun i => big[i]?)) (h : ws.all goodWord = true) : GoodIn big ws := by
  intro w hw
  have h1 := List.all_eq_true.mp h w hw
  rw [hp] at hw
  obtain ⟨i, -, hi⟩ := List.mem_filterMap.mp hw
  have hm : w ∈ big := by first | exact List.mem_of_getElem? hi | exact List.getElem?_mem hi
  exact ⟨hm, good_of_word h1⟩
theorem goodIn_app {big a b : List Cond} (ha : GoodIn big a) (hb : GoodIn big b) : GoodIn big (a ++ b) := fun w h => (List.mem_append.mp h).elim (ha w) (hb w)
theorem goodIn_ca {big a b : List Cond} {c : Cond} (ha : GoodIn big (c :: a)) (hb : GoodIn big b) : GoodIn big (c :: (a ++ b)) := fun w h => (List.mem_cons.mp h).elim (fun e => ha w (List.mem_cons.mpr (Or.inl e))) (fun h => (List.mem_append.mp h).elim (fun h => ha w (List.mem_cons.mpr (Or.inr h))) (hb w))
theorem goodIn_sub {big ws : List Cond} (hm : ∀ w ∈ ws, w ∈ big) (h : ws.all goodWord = true) : GoodIn big ws := fun w hw => ⟨hm w hw, good_of_word (List.all_eq_true.mp h w hw)⟩
/-! ===== END ===== -/

/-! ===== BEGIN printed: names, fields, word lists, decode rows ===== -/
def RX0 : String := "SixtyTablet$Search"
def TX0 : u_T := fun k => match k with
  | 0 => ("SixtyTablet$Search", "heldRows", "[I", true)
  | 1 => ("SixtyTablet$Search", "heldColumns", "[I", true)
  | 2 => ("SixtyTablet$Search", "heldSixties", "[I", true)
  | 3 => ("SixtyTablet$Search", "certain", "[I", true)
  | 4 => ("SixtyTablet$Search", "heldCount", "I", false)
  | 5 => ("SixtyTablet$Search", "rows", "I", false)
  | 6 => ("SixtyTablet$Search", "kind", "I", false)
  | 7 => ("SixtyTablet$Search", "n", "I", false)
  | _ => ("SixtyTablet$Search", "first", "I", false)
def tyX0 : Nat → FieldType := fun k => match k with
  | 0 => .array .int
  | 1 => .array .int
  | 2 => .array .int
  | 3 => .array .int
  | 4 => .int
  | 5 => .int
  | 6 => .int
  | 7 => .int
  | _ => .int
abbrev wsX00 : List Cond := u_ws RX0 TX0 9
theorem nmX0 : ∀ a, a < 9 → ∀ b, b < 9 → a ≠ b → (TX0 a).2.1 ≠ (TX0 b).2.1 := by decide +kernel
theorem tyX0_ok : ∀ k, k < 9 → parseFieldDescriptor (TX0 k).2.2.1 = some (tyX0 k) := by decide +kernel
abbrev cX0_init : ByteArray := prog_2_method_1_code
def yX0_init : MethodName := ⟨RX0, "<init>", "()V"⟩
abbrev cX0_begin : ByteArray := prog_2_method_2_code
def yX0_begin : MethodName := ⟨RX0, "begin", "(LSixtyTablet$Tablet;)V"⟩
abbrev cX0_nextPlace : ByteArray := prog_2_method_3_code
def yX0_nextPlace : MethodName := ⟨RX0, "nextPlace", "()Z"⟩
abbrev cX0_nextReading : ByteArray := prog_2_method_4_code
def yX0_nextReading : MethodName := ⟨RX0, "nextReading", "()Z"⟩
abbrev cX0_code : ByteArray := prog_2_method_5_code
def yX0_code : MethodName := ⟨RX0, "code", "()I"⟩
abbrev cX0_strayRow : ByteArray := prog_2_method_6_code
def yX0_strayRow : MethodName := ⟨RX0, "strayRow", "()I"⟩
abbrev cX0_sixtyHere : ByteArray := prog_2_method_7_code
def yX0_sixtyHere : MethodName := ⟨RX0, "sixtyHere", "(II)I"⟩
abbrev cX0_gatherSure : ByteArray := prog_2_method_8_code
def yX0_gatherSure : MethodName := ⟨RX0, "gatherSure", "(LSixtyTablet$Tablet;)V"⟩
abbrev cX0_sureIn : ByteArray := prog_2_method_9_code
def yX0_sureIn : MethodName := ⟨RX0, "sureIn", "(II)I"⟩
abbrev cX0_takeAll : ByteArray := prog_2_method_10_code
def yX0_takeAll : MethodName := ⟨RX0, "takeAll", "()V"⟩
abbrev cX0_keepAgreed : ByteArray := prog_2_method_11_code
def yX0_keepAgreed : MethodName := ⟨RX0, "keepAgreed", "()Z"⟩
def RX1 : String := "SixtyTablet$Sixties"
def TX1 : u_T := fun k => match k with
  | _ => ("", "", "", false)
def tyX1 : Nat → FieldType := fun k => match k with
  | _ => .int
abbrev wsX10 : List Cond := u_ws RX1 TX1 0
theorem nmX1 : ∀ a, a < 0 → ∀ b, b < 0 → a ≠ b → (TX1 a).2.1 ≠ (TX1 b).2.1 := by decide +kernel
theorem tyX1_ok : ∀ k, k < 0 → parseFieldDescriptor (TX1 k).2.2.1 = some (tyX1 k) := by decide +kernel
abbrev cX1_isNumber : ByteArray := prog_3_method_2_code
def yX1_isNumber : MethodName := ⟨RX1, "isNumber", "(J)Z"⟩
abbrev cX1_strip : ByteArray := prog_3_method_3_code
def yX1_strip : MethodName := ⟨RX1, "strip", "(J)J"⟩
abbrev cX1_length : ByteArray := prog_3_method_4_code
def yX1_length : MethodName := ⟨RX1, "length", "(J)I"⟩
abbrev cX1_digitAhead : ByteArray := prog_3_method_5_code
def yX1_digitAhead : MethodName := ⟨RX1, "digitAhead", "(JI)I"⟩
abbrev cX1_sightLength : ByteArray := prog_3_method_6_code
def yX1_sightLength : MethodName := ⟨RX1, "sightLength", "(J)I"⟩
abbrev cX1_spread : ByteArray := prog_3_method_7_code
def yX1_spread : MethodName := ⟨RX1, "spread", "(JI)J"⟩
abbrev cX1_raise : ByteArray := prog_3_method_8_code
def yX1_raise : MethodName := ⟨RX1, "raise", "(JI)J"⟩
abbrev cX1_atPlace : ByteArray := prog_3_method_9_code
def yX1_atPlace : MethodName := ⟨RX1, "atPlace", "(JI)J"⟩
abbrev cX1_floorRoot : ByteArray := prog_3_method_10_code
def yX1_floorRoot : MethodName := ⟨RX1, "floorRoot", "(J)J"⟩
def RX2 : String := "SixtyTablet$Table"
def TX2 : u_T := fun k => match k with
  | _ => ("", "", "", false)
def tyX2 : Nat → FieldType := fun k => match k with
  | _ => .int
abbrev wsX20 : List Cond := u_ws RX2 TX2 0
theorem nmX2 : ∀ a, a < 0 → ∀ b, b < 0 → a ≠ b → (TX2 a).2.1 ≠ (TX2 b).2.1 := by decide +kernel
theorem tyX2_ok : ∀ k, k < 0 → parseFieldDescriptor (TX2 k).2.2.1 = some (tyX2 k) := by decide +kernel
abbrev cX2_isTable : ByteArray := prog_4_method_2_code
def yX2_isTable : MethodName := ⟨RX2, "isTable", "(II)Z"⟩
abbrev cX2_rowsOf : ByteArray := prog_4_method_3_code
def yX2_rowsOf : MethodName := ⟨RX2, "rowsOf", "(I)I"⟩
abbrev cX2_number : ByteArray := prog_4_method_4_code
def yX2_number : MethodName := ⟨RX2, "number", "(IIII)I"⟩
abbrev cX2_listColumn : ByteArray := prog_4_method_5_code
def yX2_listColumn : MethodName := ⟨RX2, "listColumn", "(II)I"⟩
def RX3 : String := "SixtyTablet$Tablet"
def TX3 : u_T := fun k => match k with
  | 0 => ("SixtyTablet$Tablet", "cells", "[I", true)
  | 1 => ("SixtyTablet$Tablet", "sixties", "[I", true)
  | _ => ("SixtyTablet$Tablet", "rows", "I", false)
def tyX3 : Nat → FieldType := fun k => match k with
  | 0 => .array .int
  | 1 => .array .int
  | _ => .int
abbrev wsX30 : List Cond := u_ws RX3 TX3 3
theorem nmX3 : ∀ a, a < 3 → ∀ b, b < 3 → a ≠ b → (TX3 a).2.1 ≠ (TX3 b).2.1 := by decide +kernel
theorem tyX3_ok : ∀ k, k < 3 → parseFieldDescriptor (TX3 k).2.2.1 = some (tyX3 k) := by decide +kernel
abbrev cX3_init : ByteArray := prog_5_method_1_code
def yX3_init : MethodName := ⟨RX3, "<init>", "()V"⟩
abbrev cX3_rowCount : ByteArray := prog_5_method_2_code
def yX3_rowCount : MethodName := ⟨RX3, "rowCount", "()I"⟩
abbrev cX3_hasCell : ByteArray := prog_5_method_3_code
def yX3_hasCell : MethodName := ⟨RX3, "hasCell", "(II)Z"⟩
abbrev cX3_smooth : ByteArray := prog_5_method_4_code
def yX3_smooth : MethodName := ⟨RX3, "smooth", "(I)V"⟩
abbrev cX3_hold : ByteArray := prog_5_method_5_code
def yX3_hold : MethodName := ⟨RX3, "hold", "(III)V"⟩
abbrev cX3_held : ByteArray := prog_5_method_6_code
def yX3_held : MethodName := ⟨RX3, "held", "(II)I"⟩
abbrev cX3_heldSixty : ByteArray := prog_5_method_7_code
def yX3_heldSixty : MethodName := ⟨RX3, "heldSixty", "(II)I"⟩
abbrev cX3_mayBe : ByteArray := prog_5_method_8_code
def yX3_mayBe : MethodName := ⟨RX3, "mayBe", "(III)Z"⟩
abbrev cX3_brokenCells : ByteArray := prog_5_method_9_code
def yX3_brokenCells : MethodName := ⟨RX3, "brokenCells", "()I"⟩
abbrev cX3_fits : ByteArray := prog_5_method_10_code
def yX3_fits : MethodName := ⟨RX3, "fits", "(LSixtyTablet$Tablet;I)Z"⟩
abbrev cX3_take : ByteArray := prog_5_method_11_code
def yX3_take : MethodName := ⟨RX3, "take", "(LSixtyTablet$Tablet;I)V"⟩
def RX4 : String := "SixtyTablet$Turning"
def TX4 : u_T := fun k => match k with
  | _ => ("", "", "", false)
def tyX4 : Nat → FieldType := fun k => match k with
  | _ => .int
abbrev wsX40 : List Cond := u_ws RX4 TX4 0
theorem nmX4 : ∀ a, a < 0 → ∀ b, b < 0 → a ≠ b → (TX4 a).2.1 ≠ (TX4 b).2.1 := by decide +kernel
theorem tyX4_ok : ∀ k, k < 0 → parseFieldDescriptor (TX4 k).2.2.1 = some (tyX4 k) := by decide +kernel
abbrev cX4_listRows : ByteArray := prog_6_method_2_code
def yX4_listRows : MethodName := ⟨RX4, "listRows", "()I"⟩
abbrev cX4_listed : ByteArray := prog_6_method_3_code
def yX4_listed : MethodName := ⟨RX4, "listed", "(I)I"⟩
abbrev cX4_isEven : ByteArray := prog_6_method_4_code
def yX4_isEven : MethodName := ⟨RX4, "isEven", "(J)Z"⟩
abbrev cX4_turnOver : ByteArray := prog_6_method_5_code
def yX4_turnOver : MethodName := ⟨RX4, "turnOver", "(J)J"⟩
abbrev cX4_greatestListed : ByteArray := prog_6_method_6_code
def yX4_greatestListed : MethodName := ⟨RX4, "greatestListed", "(J)I"⟩
abbrev cX4_powerIn : ByteArray := prog_6_method_7_code
def yX4_powerIn : MethodName := ⟨RX4, "powerIn", "(JI)I"⟩
abbrev cX4_without : ByteArray := prog_6_method_8_code
def yX4_without : MethodName := ⟨RX4, "without", "(JI)J"⟩
abbrev cX4_grown : ByteArray := prog_6_method_9_code
def yX4_grown : MethodName := ⟨RX4, "grown", "(JII)J"⟩
def RX5 : String := "SixtyTablet$Working"
def TX5 : u_T := fun k => match k with
  | 0 => ("SixtyTablet$Working", "ofX", "[I", true)
  | 1 => ("SixtyTablet$Working", "ofY", "[I", true)
  | 2 => ("SixtyTablet$Working", "places", "[I", true)
  | _ => ("SixtyTablet$Working", "lines", "I", false)
def tyX5 : Nat → FieldType := fun k => match k with
  | 0 => .array .int
  | 1 => .array .int
  | 2 => .array .int
  | _ => .int
abbrev wsX50 : List Cond := u_ws RX5 TX5 4
theorem nmX5 : ∀ a, a < 4 → ∀ b, b < 4 → a ≠ b → (TX5 a).2.1 ≠ (TX5 b).2.1 := by decide +kernel
theorem tyX5_ok : ∀ k, k < 4 → parseFieldDescriptor (TX5 k).2.2.1 = some (tyX5 k) := by decide +kernel
abbrev cX5_init : ByteArray := prog_7_method_1_code
def yX5_init : MethodName := ⟨RX5, "<init>", "()V"⟩
abbrev cX5_begin : ByteArray := prog_7_method_2_code
def yX5_begin : MethodName := ⟨RX5, "begin", "(JJ)V"⟩
abbrev cX5_write : ByteArray := prog_7_method_3_code
def yX5_write : MethodName := ⟨RX5, "write", "(III)V"⟩
abbrev cX5_lineCount : ByteArray := prog_7_method_4_code
def yX5_lineCount : MethodName := ⟨RX5, "lineCount", "()I"⟩
abbrev cX5_hasLine : ByteArray := prog_7_method_5_code
def yX5_hasLine : MethodName := ⟨RX5, "hasLine", "(I)Z"⟩
abbrev cX5_digitOfX : ByteArray := prog_7_method_6_code
def yX5_digitOfX : MethodName := ⟨RX5, "digitOfX", "(I)I"⟩
abbrev cX5_digitOfY : ByteArray := prog_7_method_7_code
def yX5_digitOfY : MethodName := ⟨RX5, "digitOfY", "(I)I"⟩
abbrev cX5_place : ByteArray := prog_7_method_8_code
def yX5_place : MethodName := ⟨RX5, "place", "(I)I"⟩
abbrev cX5_product : ByteArray := prog_7_method_9_code
def yX5_product : MethodName := ⟨RX5, "product", "(I)I"⟩
abbrev cX5_worth : ByteArray := prog_7_method_10_code
def yX5_worth : MethodName := ⟨RX5, "worth", "(I)J"⟩
abbrev cX5_sumUpTo : ByteArray := prog_7_method_11_code
def yX5_sumUpTo : MethodName := ⟨RX5, "sumUpTo", "(I)J"⟩
abbrev cX5_slipped : ByteArray := prog_7_method_12_code
def yX5_slipped : MethodName := ⟨RX5, "slipped", "(III)J"⟩
abbrev cX5_leftOut : ByteArray := prog_7_method_13_code
def yX5_leftOut : MethodName := ⟨RX5, "leftOut", "(II)J"⟩
abbrev cX5_placeLost : ByteArray := prog_7_method_14_code
def yX5_placeLost : MethodName := ⟨RX5, "placeLost", "(II)J"⟩
abbrev cX5_rowBeside : ByteArray := prog_7_method_15_code
def yX5_rowBeside : MethodName := ⟨RX5, "rowBeside", "(II)J"⟩
abbrev cX5_writtenTwice : ByteArray := prog_7_method_16_code
def yX5_writtenTwice : MethodName := ⟨RX5, "writtenTwice", "(II)J"⟩
def RX6 : String := "SixtyTablet"
def TX6 : u_T := fun k => match k with
  | 0 => ("SixtyTablet", "working", "LSixtyTablet$Working;", true)
  | 1 => ("SixtyTablet", "tablets", "[LSixtyTablet$Tablet;", true)
  | 2 => ("SixtyTablet", "search", "LSixtyTablet$Search;", true)
  | 3 => ("SixtyTablet", "steps", "[I", true)
  | _ => ("SixtyTablet", "stepCount", "I", false)
def tyX6 : Nat → FieldType := fun k => match k with
  | 0 => .object "SixtyTablet$Working"
  | 1 => .array (.object "SixtyTablet$Tablet")
  | 2 => .object "SixtyTablet$Search"
  | 3 => .array .int
  | _ => .int
abbrev wsX60 : List Cond := u_ws RX6 TX6 5
theorem nmX6 : ∀ a, a < 5 → ∀ b, b < 5 → a ≠ b → (TX6 a).2.1 ≠ (TX6 b).2.1 := by decide +kernel
theorem tyX6_ok : ∀ k, k < 5 → parseFieldDescriptor (TX6 k).2.2.1 = some (tyX6 k) := by decide +kernel
abbrev cX6_init : ByteArray := prog_1_method_1_code
def yX6_init : MethodName := ⟨RX6, "<init>", "()V"⟩
abbrev cX6_sixty : ByteArray := prog_1_method_2_code
def yX6_sixty : MethodName := ⟨RX6, "sixty", "(J)J"⟩
abbrev cX6_digit : ByteArray := prog_1_method_3_code
def yX6_digit : MethodName := ⟨RX6, "digit", "(JI)I"⟩
abbrev cX6_sight : ByteArray := prog_1_method_4_code
def yX6_sight : MethodName := ⟨RX6, "sight", "(JI)I"⟩
abbrev cX6_like : ByteArray := prog_1_method_5_code
def yX6_like : MethodName := ⟨RX6, "like", "(JII)J"⟩
abbrev cX6_put : ByteArray := prog_1_method_6_code
def yX6_put : MethodName := ⟨RX6, "put", "(JJI)J"⟩
abbrev cX6_even : ByteArray := prog_1_method_7_code
def yX6_even : MethodName := ⟨RX6, "even", "(J)I"⟩
abbrev cX6_turned : ByteArray := prog_1_method_8_code
def yX6_turned : MethodName := ⟨RX6, "turned", "(J)J"⟩
abbrev cX6_list : ByteArray := prog_1_method_9_code
def yX6_list : MethodName := ⟨RX6, "list", "(I)I"⟩
abbrev cX6_factor : ByteArray := prog_1_method_10_code
def yX6_factor : MethodName := ⟨RX6, "factor", "(JI)I"⟩
abbrev cX6_root : ByteArray := prog_1_method_11_code
def yX6_root : MethodName := ⟨RX6, "root", "(JI)J"⟩
abbrev cX6_times : ByteArray := prog_1_method_12_code
def yX6_times : MethodName := ⟨RX6, "times", "(JJ)I"⟩
abbrev cX6_line : ByteArray := prog_1_method_13_code
def yX6_line : MethodName := ⟨RX6, "line", "(II)I"⟩
abbrev cX6_sum : ByteArray := prog_1_method_14_code
def yX6_sum : MethodName := ⟨RX6, "sum", "(I)J"⟩
abbrev cX6_slip : ByteArray := prog_1_method_15_code
def yX6_slip : MethodName := ⟨RX6, "slip", "(IIII)J"⟩
abbrev cX6_blame : ByteArray := prog_1_method_16_code
def yX6_blame : MethodName := ⟨RX6, "blame", "(JI)I"⟩
abbrev cX6_tablet : ByteArray := prog_1_method_17_code
def yX6_tablet : MethodName := ⟨RX6, "tablet", "(II)I"⟩
abbrev cX6_press : ByteArray := prog_1_method_18_code
def yX6_press : MethodName := ⟨RX6, "press", "(IIII)I"⟩
abbrev cX6_cell : ByteArray := prog_1_method_19_code
def yX6_cell : MethodName := ⟨RX6, "cell", "(III)I"⟩
abbrev cX6_copy : ByteArray := prog_1_method_20_code
def yX6_copy : MethodName := ⟨RX6, "copy", "(IIIII)I"⟩
abbrev cX6_reading : ByteArray := prog_1_method_21_code
def yX6_reading : MethodName := ⟨RX6, "reading", "(II)I"⟩
abbrev cX6_sure : ByteArray := prog_1_method_22_code
def yX6_sure : MethodName := ⟨RX6, "sure", "(III)I"⟩
abbrev cX6_fill : ByteArray := prog_1_method_23_code
def yX6_fill : MethodName := ⟨RX6, "fill", "(I)I"⟩
abbrev cX6_odd : ByteArray := prog_1_method_24_code
def yX6_odd : MethodName := ⟨RX6, "odd", "(I)I"⟩
abbrev cX6_triple : ByteArray := prog_1_method_25_code
def yX6_triple : MethodName := ⟨RX6, "triple", "(III)I"⟩
abbrev cX6_join : ByteArray := prog_1_method_26_code
def yX6_join : MethodName := ⟨RX6, "join", "(III)I"⟩
abbrev cX6_problem : ByteArray := prog_1_method_27_code
def yX6_problem : MethodName := ⟨RX6, "problem", "(IIII)J"⟩
abbrev cX6_unit : ByteArray := prog_1_method_28_code
def yX6_unit : MethodName := ⟨RX6, "unit", "(I)I"⟩
abbrev cX6_wipe : ByteArray := prog_1_method_29_code
def yX6_wipe : MethodName := ⟨RX6, "wipe", "()I"⟩
abbrev cX6_units : ByteArray := prog_1_method_30_code
def yX6_units : MethodName := ⟨RX6, "units", "(JI)J"⟩
abbrev cX6_told : ByteArray := prog_1_method_31_code
def yX6_told : MethodName := ⟨RX6, "told", "(I)I"⟩
abbrev cX6_clayOf : ByteArray := prog_1_method_32_code
def yX6_clayOf : MethodName := ⟨RX6, "clayOf", "(I)LSixtyTablet$Tablet;"⟩
abbrev cX6_makesTriple : ByteArray := prog_1_method_33_code
def yX6_makesTriple : MethodName := ⟨RX6, "makesTriple", "(II)Z"⟩
abbrev cX6_mayBeTriple : ByteArray := prog_1_method_34_code
def yX6_mayBeTriple : MethodName := ⟨RX6, "mayBeTriple", "(LSixtyTablet$Tablet;III)Z"⟩
abbrev cX6_isInProblem : ByteArray := prog_1_method_35_code
def yX6_isInProblem : MethodName := ⟨RX6, "isInProblem", "(I)Z"⟩
abbrev cX6_onlyAnswer : ByteArray := prog_1_method_36_code
def yX6_onlyAnswer : MethodName := ⟨RX6, "onlyAnswer", "(JI)J"⟩
abbrev cX6_sideOf : ByteArray := prog_1_method_37_code
def yX6_sideOf : MethodName := ⟨RX6, "sideOf", "(JJI)J"⟩
abbrev cX6_wholeRoot : ByteArray := prog_1_method_38_code
def yX6_wholeRoot : MethodName := ⟨RX6, "wholeRoot", "(J)J"⟩
abbrev cX6_share : ByteArray := prog_1_method_39_code
def yX6_share : MethodName := ⟨RX6, "share", "(JJ)J"⟩
def RX7 : String := "SixtyTabletModel"
def TX7 : u_T := fun k => match k with
  | 0 => ("SixtyTabletModel", "isWorked", "Z", false)
  | 1 => ("SixtyTabletModel", "lines", "I", false)
  | 2 => ("SixtyTabletModel", "product", "[I", true)
  | 3 => ("SixtyTabletModel", "place", "[I", true)
  | 4 => ("SixtyTabletModel", "ofX", "[I", true)
  | 5 => ("SixtyTabletModel", "ofY", "[I", true)
  | 6 => ("SixtyTabletModel", "steps", "I", false)
  | 7 => ("SixtyTabletModel", "step", "[I", true)
  | 8 => ("SixtyTabletModel", "rows", "[I", true)
  | 9 => ("SixtyTabletModel", "cell", "[I", true)
  | 10 => ("SixtyTabletModel", "overs", "[I", true)
  | _ => ("SixtyTabletModel", "sure", "[I", true)
def tyX7 : Nat → FieldType := fun k => match k with
  | 0 => .boolean
  | 1 => .int
  | 2 => .array .int
  | 3 => .array .int
  | 4 => .array .int
  | 5 => .array .int
  | 6 => .int
  | 7 => .array .int
  | 8 => .array .int
  | 9 => .array .int
  | 10 => .array .int
  | _ => .array .int
abbrev wsX70 : List Cond := u_ws RX7 TX7 12
theorem nmX7 : ∀ a, a < 12 → ∀ b, b < 12 → a ≠ b → (TX7 a).2.1 ≠ (TX7 b).2.1 := by decide +kernel
theorem tyX7_ok : ∀ k, k < 12 → parseFieldDescriptor (TX7 k).2.2.1 = some (tyX7 k) := by decide +kernel
abbrev cX7_init : ByteArray := prog_9_method_1_code
def yX7_init : MethodName := ⟨RX7, "<init>", "()V"⟩
abbrev cX7_in : ByteArray := prog_9_method_2_code
def yX7_in : MethodName := ⟨RX7, "in", "(JJJ)Z"⟩
abbrev cX7_isGiven : ByteArray := prog_9_method_3_code
def yX7_isGiven : MethodName := ⟨RX7, "isGiven", "(J)Z"⟩
abbrev cX7_power : ByteArray := prog_9_method_4_code
def yX7_power : MethodName := ⟨RX7, "power", "(I)J"⟩
abbrev cX7_sixtyOf : ByteArray := prog_9_method_5_code
def yX7_sixtyOf : MethodName := ⟨RX7, "sixtyOf", "(J)J"⟩
abbrev cX7_digits : ByteArray := prog_9_method_6_code
def yX7_digits : MethodName := ⟨RX7, "digits", "(J)I"⟩
abbrev cX7_digitAt : ByteArray := prog_9_method_7_code
def yX7_digitAt : MethodName := ⟨RX7, "digitAt", "(JI)I"⟩
abbrev cX7_sixty : ByteArray := prog_9_method_8_code
def yX7_sixty : MethodName := ⟨RX7, "sixty", "(J)J"⟩
abbrev cX7_digit : ByteArray := prog_9_method_9_code
def yX7_digit : MethodName := ⟨RX7, "digit", "(JI)I"⟩
abbrev cX7_sightOf : ByteArray := prog_9_method_10_code
def yX7_sightOf : MethodName := ⟨RX7, "sightOf", "(JI)I"⟩
abbrev cX7_sight : ByteArray := prog_9_method_11_code
def yX7_sight : MethodName := ⟨RX7, "sight", "(JI)I"⟩
abbrev cX7_likeBy : ByteArray := prog_9_method_12_code
def yX7_likeBy : MethodName := ⟨RX7, "likeBy", "(JI)J"⟩
abbrev cX7_like : ByteArray := prog_9_method_13_code
def yX7_like : MethodName := ⟨RX7, "like", "(JII)J"⟩
abbrev cX7_put : ByteArray := prog_9_method_14_code
def yX7_put : MethodName := ⟨RX7, "put", "(JJI)J"⟩
abbrev cX7_times : ByteArray := prog_9_method_15_code
def yX7_times : MethodName := ⟨RX7, "times", "(JI)I"⟩
abbrev cX7_isEven : ByteArray := prog_9_method_16_code
def yX7_isEven : MethodName := ⟨RX7, "isEven", "(J)Z"⟩
abbrev cX7_even : ByteArray := prog_9_method_17_code
def yX7_even : MethodName := ⟨RX7, "even", "(J)I"⟩
abbrev cX7_turnedOf : ByteArray := prog_9_method_18_code
def yX7_turnedOf : MethodName := ⟨RX7, "turnedOf", "(J)J"⟩
abbrev cX7_turned : ByteArray := prog_9_method_19_code
def yX7_turned : MethodName := ⟨RX7, "turned", "(J)J"⟩
abbrev cX7_isListed : ByteArray := prog_9_method_20_code
def yX7_isListed : MethodName := ⟨RX7, "isListed", "(J)Z"⟩
abbrev cX7_listAt : ByteArray := prog_9_method_21_code
def yX7_listAt : MethodName := ⟨RX7, "listAt", "(I)I"⟩
abbrev cX7_list : ByteArray := prog_9_method_22_code
def yX7_list : MethodName := ⟨RX7, "list", "(I)I"⟩
abbrev cX7_factor : ByteArray := prog_9_method_23_code
def yX7_factor : MethodName := ⟨RX7, "factor", "(JI)I"⟩
abbrev cX7_root : ByteArray := prog_9_method_24_code
def yX7_root : MethodName := ⟨RX7, "root", "(JI)J"⟩
abbrev cX7_whole : ByteArray := prog_9_method_25_code
def yX7_whole : MethodName := ⟨RX7, "whole", "(J)J"⟩
abbrev cX7_isShort : ByteArray := prog_9_method_26_code
def yX7_isShort : MethodName := ⟨RX7, "isShort", "(J)Z"⟩
abbrev cX7_times_ : ByteArray := prog_9_method_27_code
def yX7_times_ : MethodName := ⟨RX7, "times", "(JJ)I"⟩
abbrev cX7_isLine : ByteArray := prog_9_method_28_code
def yX7_isLine : MethodName := ⟨RX7, "isLine", "(I)Z"⟩
abbrev cX7_line : ByteArray := prog_9_method_29_code
def yX7_line : MethodName := ⟨RX7, "line", "(II)I"⟩
abbrev cX7_lineOf : ByteArray := prog_9_method_30_code
def yX7_lineOf : MethodName := ⟨RX7, "lineOf", "(I)J"⟩
abbrev cX7_sumOf : ByteArray := prog_9_method_31_code
def yX7_sumOf : MethodName := ⟨RX7, "sumOf", "(I)J"⟩
abbrev cX7_sum : ByteArray := prog_9_method_32_code
def yX7_sum : MethodName := ⟨RX7, "sum", "(I)J"⟩
abbrev cX7_slipped : ByteArray := prog_9_method_33_code
def yX7_slipped : MethodName := ⟨RX7, "slipped", "(III)J"⟩
abbrev cX7_slip : ByteArray := prog_9_method_34_code
def yX7_slip : MethodName := ⟨RX7, "slip", "(IIII)J"⟩
abbrev cX7_blame : ByteArray := prog_9_method_35_code
def yX7_blame : MethodName := ⟨RX7, "blame", "(JI)I"⟩
abbrev cX7_isTablet : ByteArray := prog_9_method_36_code
def yX7_isTablet : MethodName := ⟨RX7, "isTablet", "(I)Z"⟩
abbrev cX7_isRow : ByteArray := prog_9_method_37_code
def yX7_isRow : MethodName := ⟨RX7, "isRow", "(II)Z"⟩
abbrev cX7_isCell : ByteArray := prog_9_method_38_code
def yX7_isCell : MethodName := ⟨RX7, "isCell", "(III)Z"⟩
abbrev cX7_at : ByteArray := prog_9_method_39_code
def yX7_at : MethodName := ⟨RX7, "at", "(III)I"⟩
abbrev cX7_tablet : ByteArray := prog_9_method_40_code
def yX7_tablet : MethodName := ⟨RX7, "tablet", "(II)I"⟩
abbrev cX7_press : ByteArray := prog_9_method_41_code
def yX7_press : MethodName := ⟨RX7, "press", "(IIII)I"⟩
abbrev cX7_cell : ByteArray := prog_9_method_42_code
def yX7_cell : MethodName := ⟨RX7, "cell", "(III)I"⟩
abbrev cX7_rowsOf : ByteArray := prog_9_method_43_code
def yX7_rowsOf : MethodName := ⟨RX7, "rowsOf", "(I)I"⟩
abbrev cX7_inTable : ByteArray := prog_9_method_44_code
def yX7_inTable : MethodName := ⟨RX7, "inTable", "(IIII)I"⟩
abbrev cX7_copy : ByteArray := prog_9_method_45_code
def yX7_copy : MethodName := ⟨RX7, "copy", "(IIIII)I"⟩
abbrev cX7_agree : ByteArray := prog_9_method_46_code
def yX7_agree : MethodName := ⟨RX7, "agree", "(II)Z"⟩
abbrev cX7_tableAt : ByteArray := prog_9_method_47_code
def yX7_tableAt : MethodName := ⟨RX7, "tableAt", "(IIII)I"⟩
abbrev cX7_unlike : ByteArray := prog_9_method_48_code
def yX7_unlike : MethodName := ⟨RX7, "unlike", "(IIII)I"⟩
abbrev cX7_kindOf : ByteArray := prog_9_method_49_code
def yX7_kindOf : MethodName := ⟨RX7, "kindOf", "(I)I"⟩
abbrev cX7_nOf : ByteArray := prog_9_method_50_code
def yX7_nOf : MethodName := ⟨RX7, "nOf", "(I)I"⟩
abbrev cX7_firstOf : ByteArray := prog_9_method_51_code
def yX7_firstOf : MethodName := ⟨RX7, "firstOf", "(I)I"⟩
abbrev cX7_fits : ByteArray := prog_9_method_52_code
def yX7_fits : MethodName := ⟨RX7, "fits", "(II)Z"⟩
abbrev cX7_reads : ByteArray := prog_9_method_53_code
def yX7_reads : MethodName := ⟨RX7, "reads", "(II)Z"⟩
abbrev cX7_reading : ByteArray := prog_9_method_54_code
def yX7_reading : MethodName := ⟨RX7, "reading", "(II)I"⟩
abbrev cX7_laySure : ByteArray := prog_9_method_55_code
def yX7_laySure : MethodName := ⟨RX7, "laySure", "(I)V"⟩
abbrev cX7_sure : ByteArray := prog_9_method_56_code
def yX7_sure : MethodName := ⟨RX7, "sure", "(III)I"⟩
abbrev cX7_fill : ByteArray := prog_9_method_57_code
def yX7_fill : MethodName := ⟨RX7, "fill", "(I)I"⟩
abbrev cX7_odd : ByteArray := prog_9_method_58_code
def yX7_odd : MethodName := ⟨RX7, "odd", "(I)I"⟩
abbrev cX7_common : ByteArray := prog_9_method_59_code
def yX7_common : MethodName := ⟨RX7, "common", "(II)I"⟩
abbrev cX7_triple : ByteArray := prog_9_method_60_code
def yX7_triple : MethodName := ⟨RX7, "triple", "(III)I"⟩
abbrev cX7_join : ByteArray := prog_9_method_61_code
def yX7_join : MethodName := ⟨RX7, "join", "(III)I"⟩
abbrev cX7_isCount : ByteArray := prog_9_method_62_code
def yX7_isCount : MethodName := ⟨RX7, "isCount", "(I)Z"⟩
abbrev cX7_problem : ByteArray := prog_9_method_63_code
def yX7_problem : MethodName := ⟨RX7, "problem", "(IIII)J"⟩
abbrev cX7_unit : ByteArray := prog_9_method_64_code
def yX7_unit : MethodName := ⟨RX7, "unit", "(I)I"⟩
abbrev cX7_wipe : ByteArray := prog_9_method_65_code
def yX7_wipe : MethodName := ⟨RX7, "wipe", "()I"⟩
abbrev cX7_units : ByteArray := prog_9_method_66_code
def yX7_units : MethodName := ⟨RX7, "units", "(JI)J"⟩
abbrev cX7_told : ByteArray := prog_9_method_67_code
def yX7_told : MethodName := ⟨RX7, "told", "(I)I"⟩
def RJ6 : String := "java/lang/Integer"
def TJ6 : u_T := fun k => match k with
  | _ => ("", "", "", false)
def tyJ6 : Nat → FieldType := fun k => match k with
  | _ => .int
abbrev wsJ60 : List Cond := u_ws RJ6 TJ6 0
theorem nmJ6 : ∀ a, a < 0 → ∀ b, b < 0 → a ≠ b → (TJ6 a).2.1 ≠ (TJ6 b).2.1 := by decide +kernel
theorem tyJ6_ok : ∀ k, k < 0 → parseFieldDescriptor (TJ6 k).2.2.1 = some (tyJ6 k) := by decide +kernel
abbrev cJ6_bitCount_0f7a4 : ByteArray := prog_10_method_49_code
def yJ6_bitCount_0f7a4 : MethodName := ⟨RJ6, "bitCount", "(I)I"⟩
def RJ9 : String := "java/lang/Math"
def TJ9 : u_T := fun k => match k with
  | _ => ("", "", "", false)
def tyJ9 : Nat → FieldType := fun k => match k with
  | _ => .int
abbrev wsJ90 : List Cond := u_ws RJ9 TJ9 0
theorem nmJ9 : ∀ a, a < 0 → ∀ b, b < 0 → a ≠ b → (TJ9 a).2.1 ≠ (TJ9 b).2.1 := by decide +kernel
theorem tyJ9_ok : ∀ k, k < 0 → parseFieldDescriptor (TJ9 k).2.2.1 = some (tyJ9 k) := by decide +kernel
abbrev cJ9_max_7cf53 : ByteArray := prog_11_method_65_code
def yJ9_max_7cf53 : MethodName := ⟨RJ9, "max", "(II)I"⟩
abbrev cJ9_min_7cf53 : ByteArray := prog_11_method_69_code
def yJ9_min_7cf53 : MethodName := ⟨RJ9, "min", "(II)I"⟩
abbrev cJ9_min_f86c9 : ByteArray := prog_11_method_70_code
def yJ9_min_f86c9 : MethodName := ⟨RJ9, "min", "(JJ)J"⟩
def RL : String := "SixtyTabletLaw"
def wsX0_init : List Cond := .code yX0_init cX0_init 1 none :: ([.methodLink RX0 1 objectInit, .instanceMethod objectInit, .code objectInit ⟨#[0xb1]⟩ 1 none, .arrayClass .int, .fieldLink RX0 9 "SixtyTablet$Search" "heldRows" "[I", .fieldLink RX0 15 "SixtyTablet$Search" "heldColumns" "[I", .fieldLink RX0 18 "SixtyTablet$Search" "heldSixties" "[I", .fieldLink RX0 21 "SixtyTablet$Search" "certain" "[I", .fieldLink RX0 24 "SixtyTablet$Search" "heldCount" "I", .fieldLink RX0 28 "SixtyTablet$Search" "rows" "I", .fieldLink RX0 33 "SixtyTablet$Search" "kind" "I", .fieldLink RX0 36 "SixtyTablet$Search" "n" "I", .fieldLink RX0 39 "SixtyTablet$Search" "first" "I"] ++ wsX00)
def wsX3_rowCount : List Cond := .code yX3_rowCount cX3_rowCount 1 (some .int) :: ([.fieldLink RX3 16 "SixtyTablet$Tablet" "rows" "I"] ++ wsX30)
def wsX3_held : List Cond := .code yX3_held cX3_held 4 (some .int) :: ([.fieldLink RX3 9 "SixtyTablet$Tablet" "cells" "[I"] ++ wsX30)
def wsX3_heldSixty : List Cond := .code yX3_heldSixty cX3_heldSixty 4 (some .int) :: ([.fieldLink RX3 13 "SixtyTablet$Tablet" "sixties" "[I"] ++ wsX30)
def wsX0_begin : List Cond := .code yX0_begin cX0_begin 5 none :: ([.fieldLink RX0 33 "SixtyTablet$Search" "kind" "I", .fieldLink RX0 36 "SixtyTablet$Search" "n" "I", .fieldLink RX0 39 "SixtyTablet$Search" "first" "I", .fieldLink RX0 28 "SixtyTablet$Search" "rows" "I", .fieldLink RX0 24 "SixtyTablet$Search" "heldCount" "I", .fieldLink RX0 9 "SixtyTablet$Search" "heldRows" "[I", .fieldLink RX0 15 "SixtyTablet$Search" "heldColumns" "[I", .fieldLink RX0 18 "SixtyTablet$Search" "heldSixties" "[I", .methodLink RX0 42 yX3_rowCount, .instanceMethod yX3_rowCount, .selects RX3 yX3_rowCount yX3_rowCount, .initialized RX3, .code yX3_rowCount cX3_rowCount 1 (some .int), .fieldLink RX3 16 "SixtyTablet$Tablet" "rows" "I", .methodLink RX0 46 yX3_held, .instanceMethod yX3_held, .selects RX3 yX3_held yX3_held, .code yX3_held cX3_held 4 (some .int), .fieldLink RX3 9 "SixtyTablet$Tablet" "cells" "[I", .methodLink RX0 50 yX3_heldSixty, .instanceMethod yX3_heldSixty, .selects RX3 yX3_heldSixty yX3_heldSixty, .code yX3_heldSixty cX3_heldSixty 4 (some .int), .fieldLink RX3 13 "SixtyTablet$Tablet" "sixties" "[I"] ++ wsX00 ++ wsX30)
def wsX4_listRows : List Cond := .code yX4_listRows cX4_listRows 0 (some .int) :: ([.fieldLink RX4 7 "SixtyTablet$Turning" "LIST" "[I"])
def wsX2_rowsOf : List Cond := .code yX2_rowsOf cX2_rowsOf 1 (some .int) :: ([.methodLink RX2 9 yX4_listRows, .static yX4_listRows, .initialized RX4, .code yX4_listRows cX4_listRows 0 (some .int), .fieldLink RX4 7 "SixtyTablet$Turning" "LIST" "[I"])
def wsX0_nextPlace : List Cond := .code yX0_nextPlace cX0_nextPlace 1 (some .boolean) :: ([.fieldLink RX0 39 "SixtyTablet$Search" "first" "I", .fieldLink RX0 28 "SixtyTablet$Search" "rows" "I", .fieldLink RX0 33 "SixtyTablet$Search" "kind" "I", .fieldLink RX0 36 "SixtyTablet$Search" "n" "I", .methodLink RX0 53 yX2_rowsOf, .static yX2_rowsOf, .initialized RX2, .code yX2_rowsOf cX2_rowsOf 1 (some .int), .methodLink RX2 9 yX4_listRows, .static yX4_listRows, .initialized RX4, .code yX4_listRows cX4_listRows 0 (some .int), .fieldLink RX4 7 "SixtyTablet$Turning" "LIST" "[I"] ++ wsX00)
def wsX4_listed : List Cond := .code yX4_listed cX4_listed 1 (some .int) :: ([.fieldLink RX4 7 "SixtyTablet$Turning" "LIST" "[I"])
def wsX4_powerIn : List Cond := .code yX4_powerIn cX4_powerIn 7 (some .int) :: ([])
def wsX4_grown : List Cond := .code yX4_grown cX4_grown 7 (some .long) :: ([.constantLong RX4 33 (167961600000000), .methodLink RX4 35 Lib.MathLoose.min_long.x, .static Lib.MathLoose.min_long.x, .initialized "java/lang/Math", .code Lib.MathLoose.min_long.x Lib.MathLoose.min_long.code 4 (some .long)])
def wsX4_turnOver : List Cond := .code yX4_turnOver cX4_turnOver 8 (some .long) :: ([.methodLink RX4 21 Lib.Math.max.name, .static Lib.Math.max.name, .initialized "java/lang/Math", .code Lib.Math.max.name Lib.Math.max.code 2 (some .int), .methodLink RX4 17 yX4_powerIn, .static yX4_powerIn, .initialized RX4, .code yX4_powerIn cX4_powerIn 7 (some .int), .methodLink RX4 27 yX4_grown, .static yX4_grown, .code yX4_grown cX4_grown 7 (some .long), .constantLong RX4 33 (167961600000000), .methodLink RX4 35 Lib.MathLoose.min_long.x, .static Lib.MathLoose.min_long.x, .code Lib.MathLoose.min_long.x Lib.MathLoose.min_long.code 4 (some .long)])
def wsX2_listColumn : List Cond := .code yX2_listColumn cX2_listColumn 3 (some .int) :: ([.methodLink RX2 19 yX4_listed, .static yX4_listed, .initialized RX4, .code yX4_listed cX4_listed 1 (some .int), .fieldLink RX4 7 "SixtyTablet$Turning" "LIST" "[I", .methodLink RX2 23 yX4_turnOver, .static yX4_turnOver, .code yX4_turnOver cX4_turnOver 8 (some .long), .methodLink RX4 21 Lib.Math.max.name, .static Lib.Math.max.name, .initialized "java/lang/Math", .code Lib.Math.max.name Lib.Math.max.code 2 (some .int), .methodLink RX4 17 yX4_powerIn, .static yX4_powerIn, .code yX4_powerIn cX4_powerIn 7 (some .int), .methodLink RX4 27 yX4_grown, .static yX4_grown, .code yX4_grown cX4_grown 7 (some .long), .constantLong RX4 33 (167961600000000), .methodLink RX4 35 Lib.MathLoose.min_long.x, .static Lib.MathLoose.min_long.x, .code Lib.MathLoose.min_long.x Lib.MathLoose.min_long.code 4 (some .long)])
def wsX2_number_r1 : List Cond := [Cond.methodLink RX2 15 yX2_listColumn, Cond.static yX2_listColumn, Cond.initialized RX2, Cond.code yX2_listColumn cX2_listColumn 3 (some .int), Cond.methodLink RX2 19 yX4_listed, Cond.static yX4_listed, Cond.initialized RX4, Cond.code yX4_listed cX4_listed 1 (some .int), Cond.fieldLink RX4 7 "SixtyTablet$Turning" "LIST" "[I", Cond.methodLink RX2 23 yX4_turnOver, Cond.static yX4_turnOver, Cond.code yX4_turnOver cX4_turnOver 8 (some .long), Cond.methodLink RX4 21 Lib.Math.max.name, Cond.static Lib.Math.max.name, Cond.initialized "java/lang/Math", Cond.code Lib.Math.max.name Lib.Math.max.code 2 (some .int), Cond.methodLink RX4 17 yX4_powerIn, Cond.static yX4_powerIn, Cond.code yX4_powerIn cX4_powerIn 7 (some .int), Cond.methodLink RX4 27 yX4_grown, Cond.static yX4_grown, Cond.code yX4_grown cX4_grown 7 (some .long), Cond.constantLong RX4 33 (167961600000000), Cond.methodLink RX4 35 Lib.MathLoose.min_long.x]
def wsX2_number_r2 : List Cond := [Cond.static Lib.MathLoose.min_long.x, Cond.code Lib.MathLoose.min_long.x Lib.MathLoose.min_long.code 4 (some .long)]
def wsX2_number : List Cond := .code yX2_number cX2_number 5 (some .int) :: ((wsX2_number_r1 ++ wsX2_number_r2))
def wsX1_strip : List Cond := .code yX1_strip cX1_strip 5 (some .long) :: ([.constantLong RX1 11 (60)])
def wsX0_sixtyHere_r1 : List Cond := [Cond.fieldLink RX0 33 "SixtyTablet$Search" "kind" "I", Cond.fieldLink RX0 36 "SixtyTablet$Search" "n" "I", Cond.fieldLink RX0 39 "SixtyTablet$Search" "first" "I", Cond.methodLink RX0 67 yX2_number, Cond.static yX2_number, Cond.initialized RX2, Cond.code yX2_number cX2_number 5 (some .int), Cond.methodLink RX2 15 yX2_listColumn, Cond.static yX2_listColumn, Cond.code yX2_listColumn cX2_listColumn 3 (some .int), Cond.methodLink RX2 19 yX4_listed, Cond.static yX4_listed, Cond.initialized RX4, Cond.code yX4_listed cX4_listed 1 (some .int), Cond.fieldLink RX4 7 "SixtyTablet$Turning" "LIST" "[I", Cond.methodLink RX2 23 yX4_turnOver, Cond.static yX4_turnOver, Cond.code yX4_turnOver cX4_turnOver 8 (some .long), Cond.methodLink RX4 21 Lib.Math.max.name, Cond.static Lib.Math.max.name, Cond.initialized "java/lang/Math", Cond.code Lib.Math.max.name Lib.Math.max.code 2 (some .int), Cond.methodLink RX4 17 yX4_powerIn, Cond.static yX4_powerIn]
def wsX0_sixtyHere_r2 : List Cond := [Cond.code yX4_powerIn cX4_powerIn 7 (some .int), Cond.methodLink RX4 27 yX4_grown, Cond.static yX4_grown, Cond.code yX4_grown cX4_grown 7 (some .long), Cond.constantLong RX4 33 (167961600000000), Cond.methodLink RX4 35 Lib.MathLoose.min_long.x, Cond.static Lib.MathLoose.min_long.x, Cond.code Lib.MathLoose.min_long.x Lib.MathLoose.min_long.code 4 (some .long), Cond.methodLink RX0 71 yX1_strip, Cond.static yX1_strip, Cond.initialized RX1, Cond.code yX1_strip cX1_strip 5 (some .long), Cond.constantLong RX1 11 (60)]
def wsX0_sixtyHere : List Cond := .code yX0_sixtyHere cX0_sixtyHere 3 (some .int) :: ((wsX0_sixtyHere_r1 ++ wsX0_sixtyHere_r2) ++ wsX00)
def wsX0_strayRow_r1 : List Cond := [Cond.fieldLink RX0 24 "SixtyTablet$Search" "heldCount" "I", Cond.fieldLink RX0 9 "SixtyTablet$Search" "heldRows" "[I", Cond.fieldLink RX0 18 "SixtyTablet$Search" "heldSixties" "[I", Cond.fieldLink RX0 15 "SixtyTablet$Search" "heldColumns" "[I", Cond.methodLink RX0 64 yX0_sixtyHere, Cond.instanceMethod yX0_sixtyHere, Cond.selects RX0 yX0_sixtyHere yX0_sixtyHere, Cond.initialized RX0, Cond.code yX0_sixtyHere cX0_sixtyHere 3 (some .int), Cond.fieldLink RX0 33 "SixtyTablet$Search" "kind" "I", Cond.fieldLink RX0 36 "SixtyTablet$Search" "n" "I", Cond.fieldLink RX0 39 "SixtyTablet$Search" "first" "I", Cond.methodLink RX0 67 yX2_number, Cond.static yX2_number, Cond.initialized RX2, Cond.code yX2_number cX2_number 5 (some .int), Cond.methodLink RX2 15 yX2_listColumn, Cond.static yX2_listColumn, Cond.code yX2_listColumn cX2_listColumn 3 (some .int), Cond.methodLink RX2 19 yX4_listed, Cond.static yX4_listed, Cond.initialized RX4, Cond.code yX4_listed cX4_listed 1 (some .int), Cond.fieldLink RX4 7 "SixtyTablet$Turning" "LIST" "[I"]
def wsX0_strayRow_r2 : List Cond := [Cond.methodLink RX2 23 yX4_turnOver, Cond.static yX4_turnOver, Cond.code yX4_turnOver cX4_turnOver 8 (some .long), Cond.methodLink RX4 21 Lib.Math.max.name, Cond.static Lib.Math.max.name, Cond.initialized "java/lang/Math", Cond.code Lib.Math.max.name Lib.Math.max.code 2 (some .int), Cond.methodLink RX4 17 yX4_powerIn, Cond.static yX4_powerIn, Cond.code yX4_powerIn cX4_powerIn 7 (some .int), Cond.methodLink RX4 27 yX4_grown, Cond.static yX4_grown, Cond.code yX4_grown cX4_grown 7 (some .long), Cond.constantLong RX4 33 (167961600000000), Cond.methodLink RX4 35 Lib.MathLoose.min_long.x, Cond.static Lib.MathLoose.min_long.x, Cond.code Lib.MathLoose.min_long.x Lib.MathLoose.min_long.code 4 (some .long), Cond.methodLink RX0 71 yX1_strip, Cond.static yX1_strip, Cond.initialized RX1, Cond.code yX1_strip cX1_strip 5 (some .long), Cond.constantLong RX1 11 (60)]
def wsX0_strayRow : List Cond := .code yX0_strayRow cX0_strayRow 4 (some .int) :: ((wsX0_strayRow_r1 ++ wsX0_strayRow_r2) ++ wsX00)
def wsX0_nextReading_r1 : List Cond := [Cond.methodLink RX0 57 yX0_nextPlace, Cond.instanceMethod yX0_nextPlace, Cond.selects RX0 yX0_nextPlace yX0_nextPlace, Cond.initialized RX0, Cond.code yX0_nextPlace cX0_nextPlace 1 (some .boolean), Cond.fieldLink RX0 39 "SixtyTablet$Search" "first" "I", Cond.fieldLink RX0 28 "SixtyTablet$Search" "rows" "I", Cond.fieldLink RX0 33 "SixtyTablet$Search" "kind" "I", Cond.fieldLink RX0 36 "SixtyTablet$Search" "n" "I", Cond.methodLink RX0 53 yX2_rowsOf, Cond.static yX2_rowsOf, Cond.initialized RX2, Cond.code yX2_rowsOf cX2_rowsOf 1 (some .int), Cond.methodLink RX2 9 yX4_listRows, Cond.static yX4_listRows, Cond.initialized RX4, Cond.code yX4_listRows cX4_listRows 0 (some .int), Cond.fieldLink RX4 7 "SixtyTablet$Turning" "LIST" "[I", Cond.methodLink RX0 61 yX0_strayRow, Cond.instanceMethod yX0_strayRow, Cond.selects RX0 yX0_strayRow yX0_strayRow, Cond.code yX0_strayRow cX0_strayRow 4 (some .int), Cond.fieldLink RX0 24 "SixtyTablet$Search" "heldCount" "I", Cond.fieldLink RX0 9 "SixtyTablet$Search" "heldRows" "[I"]
def wsX0_nextReading_r2 : List Cond := [Cond.fieldLink RX0 18 "SixtyTablet$Search" "heldSixties" "[I", Cond.fieldLink RX0 15 "SixtyTablet$Search" "heldColumns" "[I", Cond.methodLink RX0 64 yX0_sixtyHere, Cond.instanceMethod yX0_sixtyHere, Cond.selects RX0 yX0_sixtyHere yX0_sixtyHere, Cond.code yX0_sixtyHere cX0_sixtyHere 3 (some .int), Cond.methodLink RX0 67 yX2_number, Cond.static yX2_number, Cond.code yX2_number cX2_number 5 (some .int), Cond.methodLink RX2 15 yX2_listColumn, Cond.static yX2_listColumn, Cond.code yX2_listColumn cX2_listColumn 3 (some .int), Cond.methodLink RX2 19 yX4_listed, Cond.static yX4_listed, Cond.code yX4_listed cX4_listed 1 (some .int), Cond.methodLink RX2 23 yX4_turnOver, Cond.static yX4_turnOver, Cond.code yX4_turnOver cX4_turnOver 8 (some .long), Cond.methodLink RX4 21 Lib.Math.max.name, Cond.static Lib.Math.max.name, Cond.initialized "java/lang/Math", Cond.code Lib.Math.max.name Lib.Math.max.code 2 (some .int), Cond.methodLink RX4 17 yX4_powerIn, Cond.static yX4_powerIn]
def wsX0_nextReading_r3 : List Cond := [Cond.code yX4_powerIn cX4_powerIn 7 (some .int), Cond.methodLink RX4 27 yX4_grown, Cond.static yX4_grown, Cond.code yX4_grown cX4_grown 7 (some .long), Cond.constantLong RX4 33 (167961600000000), Cond.methodLink RX4 35 Lib.MathLoose.min_long.x, Cond.static Lib.MathLoose.min_long.x, Cond.code Lib.MathLoose.min_long.x Lib.MathLoose.min_long.code 4 (some .long), Cond.methodLink RX0 71 yX1_strip, Cond.static yX1_strip, Cond.initialized RX1, Cond.code yX1_strip cX1_strip 5 (some .long), Cond.constantLong RX1 11 (60)]
def wsX0_nextReading : List Cond := .code yX0_nextReading cX0_nextReading 2 (some .boolean) :: ((wsX0_nextReading_r1 ++ (wsX0_nextReading_r2 ++ wsX0_nextReading_r3)) ++ wsX00)
def wsX0_code : List Cond := .code yX0_code cX0_code 1 (some .int) :: ([.fieldLink RX0 33 "SixtyTablet$Search" "kind" "I", .fieldLink RX0 36 "SixtyTablet$Search" "n" "I", .fieldLink RX0 39 "SixtyTablet$Search" "first" "I"] ++ wsX00)
def wsX0_takeAll_r1 : List Cond := [Cond.fieldLink RX0 28 "SixtyTablet$Search" "rows" "I", Cond.fieldLink RX0 21 "SixtyTablet$Search" "certain" "[I", Cond.methodLink RX0 64 yX0_sixtyHere, Cond.instanceMethod yX0_sixtyHere, Cond.selects RX0 yX0_sixtyHere yX0_sixtyHere, Cond.initialized RX0, Cond.code yX0_sixtyHere cX0_sixtyHere 3 (some .int), Cond.fieldLink RX0 33 "SixtyTablet$Search" "kind" "I", Cond.fieldLink RX0 36 "SixtyTablet$Search" "n" "I", Cond.fieldLink RX0 39 "SixtyTablet$Search" "first" "I", Cond.methodLink RX0 67 yX2_number, Cond.static yX2_number, Cond.initialized RX2, Cond.code yX2_number cX2_number 5 (some .int), Cond.methodLink RX2 15 yX2_listColumn, Cond.static yX2_listColumn, Cond.code yX2_listColumn cX2_listColumn 3 (some .int), Cond.methodLink RX2 19 yX4_listed, Cond.static yX4_listed, Cond.initialized RX4, Cond.code yX4_listed cX4_listed 1 (some .int), Cond.fieldLink RX4 7 "SixtyTablet$Turning" "LIST" "[I", Cond.methodLink RX2 23 yX4_turnOver, Cond.static yX4_turnOver]
def wsX0_takeAll_r2 : List Cond := [Cond.code yX4_turnOver cX4_turnOver 8 (some .long), Cond.methodLink RX4 21 Lib.Math.max.name, Cond.static Lib.Math.max.name, Cond.initialized "java/lang/Math", Cond.code Lib.Math.max.name Lib.Math.max.code 2 (some .int), Cond.methodLink RX4 17 yX4_powerIn, Cond.static yX4_powerIn, Cond.code yX4_powerIn cX4_powerIn 7 (some .int), Cond.methodLink RX4 27 yX4_grown, Cond.static yX4_grown, Cond.code yX4_grown cX4_grown 7 (some .long), Cond.constantLong RX4 33 (167961600000000), Cond.methodLink RX4 35 Lib.MathLoose.min_long.x, Cond.static Lib.MathLoose.min_long.x, Cond.code Lib.MathLoose.min_long.x Lib.MathLoose.min_long.code 4 (some .long), Cond.methodLink RX0 71 yX1_strip, Cond.static yX1_strip, Cond.initialized RX1, Cond.code yX1_strip cX1_strip 5 (some .long), Cond.constantLong RX1 11 (60)]
def wsX0_takeAll : List Cond := .code yX0_takeAll cX0_takeAll 2 none :: ((wsX0_takeAll_r1 ++ wsX0_takeAll_r2) ++ wsX00)
def wsX0_keepAgreed_r1 : List Cond := [Cond.fieldLink RX0 28 "SixtyTablet$Search" "rows" "I", Cond.fieldLink RX0 21 "SixtyTablet$Search" "certain" "[I", Cond.fieldLink RX0 24 "SixtyTablet$Search" "heldCount" "I", Cond.methodLink RX0 64 yX0_sixtyHere, Cond.instanceMethod yX0_sixtyHere, Cond.selects RX0 yX0_sixtyHere yX0_sixtyHere, Cond.initialized RX0, Cond.code yX0_sixtyHere cX0_sixtyHere 3 (some .int), Cond.fieldLink RX0 33 "SixtyTablet$Search" "kind" "I", Cond.fieldLink RX0 36 "SixtyTablet$Search" "n" "I", Cond.fieldLink RX0 39 "SixtyTablet$Search" "first" "I", Cond.methodLink RX0 67 yX2_number, Cond.static yX2_number, Cond.initialized RX2, Cond.code yX2_number cX2_number 5 (some .int), Cond.methodLink RX2 15 yX2_listColumn, Cond.static yX2_listColumn, Cond.code yX2_listColumn cX2_listColumn 3 (some .int), Cond.methodLink RX2 19 yX4_listed, Cond.static yX4_listed, Cond.initialized RX4, Cond.code yX4_listed cX4_listed 1 (some .int), Cond.fieldLink RX4 7 "SixtyTablet$Turning" "LIST" "[I", Cond.methodLink RX2 23 yX4_turnOver]
def wsX0_keepAgreed_r2 : List Cond := [Cond.static yX4_turnOver, Cond.code yX4_turnOver cX4_turnOver 8 (some .long), Cond.methodLink RX4 21 Lib.Math.max.name, Cond.static Lib.Math.max.name, Cond.initialized "java/lang/Math", Cond.code Lib.Math.max.name Lib.Math.max.code 2 (some .int), Cond.methodLink RX4 17 yX4_powerIn, Cond.static yX4_powerIn, Cond.code yX4_powerIn cX4_powerIn 7 (some .int), Cond.methodLink RX4 27 yX4_grown, Cond.static yX4_grown, Cond.code yX4_grown cX4_grown 7 (some .long), Cond.constantLong RX4 33 (167961600000000), Cond.methodLink RX4 35 Lib.MathLoose.min_long.x, Cond.static Lib.MathLoose.min_long.x, Cond.code Lib.MathLoose.min_long.x Lib.MathLoose.min_long.code 4 (some .long), Cond.methodLink RX0 71 yX1_strip, Cond.static yX1_strip, Cond.initialized RX1, Cond.code yX1_strip cX1_strip 5 (some .long), Cond.constantLong RX1 11 (60)]
def wsX0_keepAgreed : List Cond := .code yX0_keepAgreed cX0_keepAgreed 3 (some .boolean) :: ((wsX0_keepAgreed_r1 ++ wsX0_keepAgreed_r2) ++ wsX00)
def wsX0_gatherSure_r1 : List Cond := [Cond.fieldLink RX0 21 "SixtyTablet$Search" "certain" "[I", Cond.methodLink RX0 77 yX0_begin, Cond.instanceMethod yX0_begin, Cond.selects RX0 yX0_begin yX0_begin, Cond.initialized RX0, Cond.code yX0_begin cX0_begin 5 none, Cond.fieldLink RX0 33 "SixtyTablet$Search" "kind" "I", Cond.fieldLink RX0 36 "SixtyTablet$Search" "n" "I", Cond.fieldLink RX0 39 "SixtyTablet$Search" "first" "I", Cond.fieldLink RX0 28 "SixtyTablet$Search" "rows" "I", Cond.fieldLink RX0 24 "SixtyTablet$Search" "heldCount" "I", Cond.fieldLink RX0 9 "SixtyTablet$Search" "heldRows" "[I", Cond.fieldLink RX0 15 "SixtyTablet$Search" "heldColumns" "[I", Cond.fieldLink RX0 18 "SixtyTablet$Search" "heldSixties" "[I", Cond.methodLink RX0 42 yX3_rowCount, Cond.instanceMethod yX3_rowCount, Cond.selects RX3 yX3_rowCount yX3_rowCount, Cond.initialized RX3, Cond.code yX3_rowCount cX3_rowCount 1 (some .int), Cond.fieldLink RX3 16 "SixtyTablet$Tablet" "rows" "I", Cond.methodLink RX0 46 yX3_held, Cond.instanceMethod yX3_held, Cond.selects RX3 yX3_held yX3_held, Cond.code yX3_held cX3_held 4 (some .int)]
def wsX0_gatherSure_r2 : List Cond := [Cond.fieldLink RX3 9 "SixtyTablet$Tablet" "cells" "[I", Cond.methodLink RX0 50 yX3_heldSixty, Cond.instanceMethod yX3_heldSixty, Cond.selects RX3 yX3_heldSixty yX3_heldSixty, Cond.code yX3_heldSixty cX3_heldSixty 4 (some .int), Cond.fieldLink RX3 13 "SixtyTablet$Tablet" "sixties" "[I", Cond.methodLink RX0 81 yX0_nextReading, Cond.instanceMethod yX0_nextReading, Cond.selects RX0 yX0_nextReading yX0_nextReading, Cond.code yX0_nextReading cX0_nextReading 2 (some .boolean), Cond.methodLink RX0 57 yX0_nextPlace, Cond.instanceMethod yX0_nextPlace, Cond.selects RX0 yX0_nextPlace yX0_nextPlace, Cond.code yX0_nextPlace cX0_nextPlace 1 (some .boolean), Cond.methodLink RX0 53 yX2_rowsOf, Cond.static yX2_rowsOf, Cond.initialized RX2, Cond.code yX2_rowsOf cX2_rowsOf 1 (some .int), Cond.methodLink RX2 9 yX4_listRows, Cond.static yX4_listRows, Cond.initialized RX4, Cond.code yX4_listRows cX4_listRows 0 (some .int), Cond.fieldLink RX4 7 "SixtyTablet$Turning" "LIST" "[I", Cond.methodLink RX0 61 yX0_strayRow]
def wsX0_gatherSure_r3 : List Cond := [Cond.instanceMethod yX0_strayRow, Cond.selects RX0 yX0_strayRow yX0_strayRow, Cond.code yX0_strayRow cX0_strayRow 4 (some .int), Cond.methodLink RX0 64 yX0_sixtyHere, Cond.instanceMethod yX0_sixtyHere, Cond.selects RX0 yX0_sixtyHere yX0_sixtyHere, Cond.code yX0_sixtyHere cX0_sixtyHere 3 (some .int), Cond.methodLink RX0 67 yX2_number, Cond.static yX2_number, Cond.code yX2_number cX2_number 5 (some .int), Cond.methodLink RX2 15 yX2_listColumn, Cond.static yX2_listColumn, Cond.code yX2_listColumn cX2_listColumn 3 (some .int), Cond.methodLink RX2 19 yX4_listed, Cond.static yX4_listed, Cond.code yX4_listed cX4_listed 1 (some .int), Cond.methodLink RX2 23 yX4_turnOver, Cond.static yX4_turnOver, Cond.code yX4_turnOver cX4_turnOver 8 (some .long), Cond.methodLink RX4 21 Lib.Math.max.name, Cond.static Lib.Math.max.name, Cond.initialized "java/lang/Math", Cond.code Lib.Math.max.name Lib.Math.max.code 2 (some .int), Cond.methodLink RX4 17 yX4_powerIn]
def wsX0_gatherSure_r4 : List Cond := [Cond.static yX4_powerIn, Cond.code yX4_powerIn cX4_powerIn 7 (some .int), Cond.methodLink RX4 27 yX4_grown, Cond.static yX4_grown, Cond.code yX4_grown cX4_grown 7 (some .long), Cond.constantLong RX4 33 (167961600000000), Cond.methodLink RX4 35 Lib.MathLoose.min_long.x, Cond.static Lib.MathLoose.min_long.x, Cond.code Lib.MathLoose.min_long.x Lib.MathLoose.min_long.code 4 (some .long), Cond.methodLink RX0 71 yX1_strip, Cond.static yX1_strip, Cond.initialized RX1, Cond.code yX1_strip cX1_strip 5 (some .long), Cond.constantLong RX1 11 (60), Cond.methodLink RX0 84 yX0_takeAll, Cond.instanceMethod yX0_takeAll, Cond.selects RX0 yX0_takeAll yX0_takeAll, Cond.code yX0_takeAll cX0_takeAll 2 none, Cond.methodLink RX0 87 yX0_keepAgreed, Cond.instanceMethod yX0_keepAgreed, Cond.selects RX0 yX0_keepAgreed yX0_keepAgreed, Cond.code yX0_keepAgreed cX0_keepAgreed 3 (some .boolean)]
def wsX0_gatherSure : List Cond := .code yX0_gatherSure cX0_gatherSure 4 none :: ((wsX0_gatherSure_r1 ++ (wsX0_gatherSure_r2 ++ (wsX0_gatherSure_r3 ++ wsX0_gatherSure_r4))) ++ wsX00 ++ wsX30)
def wsX0_sureIn : List Cond := .code yX0_sureIn cX0_sureIn 4 (some .int) :: ([.fieldLink RX0 21 "SixtyTablet$Search" "certain" "[I"] ++ wsX00)
def wsX1_isNumber : List Cond := .code yX1_isNumber cX1_isNumber 2 (some .boolean) :: ([.constantLong RX1 9 (167961600000000)])
def wsX1_length : List Cond := .code yX1_length cX1_length 6 (some .int) :: ([.constantLong RX1 11 (60)])
def wsX1_digitAhead : List Cond := .code yX1_digitAhead cX1_digitAhead 6 (some .int) :: ([.constantLong RX1 11 (60)])
def wsX1_sightLength : List Cond := .code yX1_sightLength cX1_sightLength 6 (some .int) :: ([.constantLong RX1 11 (60)])
def wsX1_spread : List Cond := .code yX1_spread cX1_spread 10 (some .long) :: ([.constantLong RX1 11 (60), .methodLink RX1 13 yX1_strip, .static yX1_strip, .initialized RX1, .code yX1_strip cX1_strip 5 (some .long)])
def wsX1_raise : List Cond := .code yX1_raise cX1_raise 6 (some .long) :: ([.constantLong RX1 17 (2799360000000), .constantLong RX1 9 (167961600000000), .constantLong RX1 11 (60)])
def wsX1_atPlace : List Cond := .code yX1_atPlace cX1_atPlace 6 (some .long) :: ([.constantLong RX1 11 (60)])
def wsX1_floorRoot : List Cond := .code yX1_floorRoot cX1_floorRoot 9 (some .long) :: ([.constantLong RX1 19 (777600000), .constantLong RX1 21 (2)])
def wsX2_isTable : List Cond := .code yX2_isTable cX2_isTable 2 (some .boolean) :: ([])
def wsX3_init : List Cond := .code yX3_init cX3_init 1 none :: ([.methodLink RX3 3 objectInit, .instanceMethod objectInit, .code objectInit ⟨#[0xb1]⟩ 1 none, .arrayClass .int, .fieldLink RX3 9 "SixtyTablet$Tablet" "cells" "[I", .fieldLink RX3 13 "SixtyTablet$Tablet" "sixties" "[I", .fieldLink RX3 16 "SixtyTablet$Tablet" "rows" "I"] ++ wsX30)
def wsX3_hasCell : List Cond := .code yX3_hasCell cX3_hasCell 3 (some .boolean) :: ([.fieldLink RX3 16 "SixtyTablet$Tablet" "rows" "I"] ++ wsX30)
def wsX3_smooth : List Cond := .code yX3_smooth cX3_smooth 3 none :: ([.fieldLink RX3 16 "SixtyTablet$Tablet" "rows" "I", .fieldLink RX3 9 "SixtyTablet$Tablet" "cells" "[I", .fieldLink RX3 13 "SixtyTablet$Tablet" "sixties" "[I"] ++ wsX30)
def wsX3_hold : List Cond := .code yX3_hold cX3_hold 5 none :: ([.fieldLink RX3 9 "SixtyTablet$Tablet" "cells" "[I", .fieldLink RX3 13 "SixtyTablet$Tablet" "sixties" "[I", .methodLink RX3 20 yX1_strip, .static yX1_strip, .initialized RX1, .code yX1_strip cX1_strip 5 (some .long), .constantLong RX1 11 (60)] ++ wsX30)
def wsX3_mayBe : List Cond := .code yX3_mayBe cX3_mayBe 5 (some .boolean) :: ([.methodLink RX3 26 yX3_heldSixty, .instanceMethod yX3_heldSixty, .selects RX3 yX3_heldSixty yX3_heldSixty, .initialized RX3, .code yX3_heldSixty cX3_heldSixty 4 (some .int), .fieldLink RX3 13 "SixtyTablet$Tablet" "sixties" "[I", .methodLink RX3 20 yX1_strip, .static yX1_strip, .initialized RX1, .code yX1_strip cX1_strip 5 (some .long), .constantLong RX1 11 (60)] ++ wsX30)
def wsX3_brokenCells : List Cond := .code yX3_brokenCells cX3_brokenCells 3 (some .int) :: ([.fieldLink RX3 16 "SixtyTablet$Tablet" "rows" "I", .fieldLink RX3 9 "SixtyTablet$Tablet" "cells" "[I"] ++ wsX30)
def wsX3_fits : List Cond := .code yX3_fits cX3_fits 7 (some .boolean) :: ([.fieldLink RX3 16 "SixtyTablet$Tablet" "rows" "I", .methodLink RX3 26 yX3_heldSixty, .instanceMethod yX3_heldSixty, .selects RX3 yX3_heldSixty yX3_heldSixty, .initialized RX3, .code yX3_heldSixty cX3_heldSixty 4 (some .int), .fieldLink RX3 13 "SixtyTablet$Tablet" "sixties" "[I"] ++ wsX30)
def wsX3_take : List Cond := .code yX3_take cX3_take 5 none :: ([.fieldLink RX3 16 "SixtyTablet$Tablet" "rows" "I", .methodLink RX3 30 Lib.Math.max.name, .static Lib.Math.max.name, .initialized "java/lang/Math", .code Lib.Math.max.name Lib.Math.max.code 2 (some .int), .methodLink RX3 35 Lib.Math.min.name, .static Lib.Math.min.name, .code Lib.Math.min.name Lib.Math.min.code 2 (some .int), .methodLink RX3 38 yX3_held, .instanceMethod yX3_held, .selects RX3 yX3_held yX3_held, .initialized RX3, .code yX3_held cX3_held 4 (some .int), .fieldLink RX3 9 "SixtyTablet$Tablet" "cells" "[I", .methodLink RX3 41 yX3_hold, .instanceMethod yX3_hold, .selects RX3 yX3_hold yX3_hold, .code yX3_hold cX3_hold 5 none, .fieldLink RX3 13 "SixtyTablet$Tablet" "sixties" "[I", .methodLink RX3 20 yX1_strip, .static yX1_strip, .initialized RX1, .code yX1_strip cX1_strip 5 (some .long), .constantLong RX1 11 (60)] ++ wsX30)
def wsX4_without : List Cond := .code yX4_without cX4_without 6 (some .long) :: ([])
def wsX4_isEven : List Cond := .code yX4_isEven cX4_isEven 2 (some .boolean) :: ([.methodLink RX4 13 yX4_without, .static yX4_without, .initialized RX4, .code yX4_without cX4_without 6 (some .long)])
def wsX4_greatestListed : List Cond := .code yX4_greatestListed cX4_greatestListed 4 (some .int) :: ([.fieldLink RX4 7 "SixtyTablet$Turning" "LIST" "[I"])
def wsX5_init : List Cond := .code yX5_init cX5_init 1 none :: ([.methodLink RX5 3 objectInit, .instanceMethod objectInit, .code objectInit ⟨#[0xb1]⟩ 1 none, .arrayClass .int, .fieldLink RX5 9 "SixtyTablet$Working" "ofX" "[I", .fieldLink RX5 13 "SixtyTablet$Working" "ofY" "[I", .fieldLink RX5 16 "SixtyTablet$Working" "places" "[I", .fieldLink RX5 19 "SixtyTablet$Working" "lines" "I"] ++ wsX50)
def wsX5_write : List Cond := .code yX5_write cX5_write 4 none :: ([.fieldLink RX5 19 "SixtyTablet$Working" "lines" "I", .fieldLink RX5 9 "SixtyTablet$Working" "ofX" "[I", .fieldLink RX5 13 "SixtyTablet$Working" "ofY" "[I", .fieldLink RX5 16 "SixtyTablet$Working" "places" "[I"] ++ wsX50)
def wsX5_begin : List Cond := .code yX5_begin cX5_begin 7 none :: ([.fieldLink RX5 19 "SixtyTablet$Working" "lines" "I", .methodLink RX5 23 yX1_length, .static yX1_length, .initialized RX1, .code yX1_length cX1_length 6 (some .int), .constantLong RX1 11 (60), .methodLink RX5 29 yX1_digitAhead, .static yX1_digitAhead, .code yX1_digitAhead cX1_digitAhead 6 (some .int), .methodLink RX5 33 yX5_write, .instanceMethod yX5_write, .selects RX5 yX5_write yX5_write, .initialized RX5, .code yX5_write cX5_write 4 none, .fieldLink RX5 9 "SixtyTablet$Working" "ofX" "[I", .fieldLink RX5 13 "SixtyTablet$Working" "ofY" "[I", .fieldLink RX5 16 "SixtyTablet$Working" "places" "[I"] ++ wsX50)
def wsX5_lineCount : List Cond := .code yX5_lineCount cX5_lineCount 1 (some .int) :: ([.fieldLink RX5 19 "SixtyTablet$Working" "lines" "I"] ++ wsX50)
def wsX5_hasLine : List Cond := .code yX5_hasLine cX5_hasLine 2 (some .boolean) :: ([.fieldLink RX5 19 "SixtyTablet$Working" "lines" "I"] ++ wsX50)
def wsX5_digitOfX : List Cond := .code yX5_digitOfX cX5_digitOfX 2 (some .int) :: ([.fieldLink RX5 9 "SixtyTablet$Working" "ofX" "[I", .methodLink RX5 37 yX5_hasLine, .instanceMethod yX5_hasLine, .selects RX5 yX5_hasLine yX5_hasLine, .initialized RX5, .code yX5_hasLine cX5_hasLine 2 (some .boolean), .fieldLink RX5 19 "SixtyTablet$Working" "lines" "I"] ++ wsX50)
def wsX5_digitOfY : List Cond := .code yX5_digitOfY cX5_digitOfY 2 (some .int) :: ([.fieldLink RX5 13 "SixtyTablet$Working" "ofY" "[I", .methodLink RX5 37 yX5_hasLine, .instanceMethod yX5_hasLine, .selects RX5 yX5_hasLine yX5_hasLine, .initialized RX5, .code yX5_hasLine cX5_hasLine 2 (some .boolean), .fieldLink RX5 19 "SixtyTablet$Working" "lines" "I"] ++ wsX50)
def wsX5_place : List Cond := .code yX5_place cX5_place 2 (some .int) :: ([.fieldLink RX5 16 "SixtyTablet$Working" "places" "[I", .methodLink RX5 37 yX5_hasLine, .instanceMethod yX5_hasLine, .selects RX5 yX5_hasLine yX5_hasLine, .initialized RX5, .code yX5_hasLine cX5_hasLine 2 (some .boolean), .fieldLink RX5 19 "SixtyTablet$Working" "lines" "I"] ++ wsX50)
def wsX5_product : List Cond := .code yX5_product cX5_product 2 (some .int) :: ([.methodLink RX5 41 yX5_digitOfX, .instanceMethod yX5_digitOfX, .selects RX5 yX5_digitOfX yX5_digitOfX, .initialized RX5, .code yX5_digitOfX cX5_digitOfX 2 (some .int), .fieldLink RX5 9 "SixtyTablet$Working" "ofX" "[I", .methodLink RX5 37 yX5_hasLine, .instanceMethod yX5_hasLine, .selects RX5 yX5_hasLine yX5_hasLine, .code yX5_hasLine cX5_hasLine 2 (some .boolean), .fieldLink RX5 19 "SixtyTablet$Working" "lines" "I", .methodLink RX5 45 yX5_digitOfY, .instanceMethod yX5_digitOfY, .selects RX5 yX5_digitOfY yX5_digitOfY, .code yX5_digitOfY cX5_digitOfY 2 (some .int), .fieldLink RX5 13 "SixtyTablet$Working" "ofY" "[I"] ++ wsX50)
def wsX5_worth_r1 : List Cond := [Cond.methodLink RX5 48 yX5_product, Cond.instanceMethod yX5_product, Cond.selects RX5 yX5_product yX5_product, Cond.initialized RX5, Cond.code yX5_product cX5_product 2 (some .int), Cond.methodLink RX5 41 yX5_digitOfX, Cond.instanceMethod yX5_digitOfX, Cond.selects RX5 yX5_digitOfX yX5_digitOfX, Cond.code yX5_digitOfX cX5_digitOfX 2 (some .int), Cond.fieldLink RX5 9 "SixtyTablet$Working" "ofX" "[I", Cond.methodLink RX5 37 yX5_hasLine, Cond.instanceMethod yX5_hasLine, Cond.selects RX5 yX5_hasLine yX5_hasLine, Cond.code yX5_hasLine cX5_hasLine 2 (some .boolean), Cond.fieldLink RX5 19 "SixtyTablet$Working" "lines" "I", Cond.methodLink RX5 45 yX5_digitOfY, Cond.instanceMethod yX5_digitOfY, Cond.selects RX5 yX5_digitOfY yX5_digitOfY, Cond.code yX5_digitOfY cX5_digitOfY 2 (some .int), Cond.fieldLink RX5 13 "SixtyTablet$Working" "ofY" "[I", Cond.methodLink RX5 51 yX5_place, Cond.instanceMethod yX5_place, Cond.selects RX5 yX5_place yX5_place, Cond.code yX5_place cX5_place 2 (some .int)]
def wsX5_worth_r2 : List Cond := [Cond.fieldLink RX5 16 "SixtyTablet$Working" "places" "[I", Cond.methodLink RX5 54 yX1_atPlace, Cond.static yX1_atPlace, Cond.initialized RX1, Cond.code yX1_atPlace cX1_atPlace 6 (some .long), Cond.constantLong RX1 11 (60)]
def wsX5_worth : List Cond := .code yX5_worth cX5_worth 2 (some .long) :: ((wsX5_worth_r1 ++ wsX5_worth_r2) ++ wsX50)
def wsX5_sumUpTo_r1 : List Cond := [Cond.methodLink RX5 58 yX5_worth, Cond.instanceMethod yX5_worth, Cond.selects RX5 yX5_worth yX5_worth, Cond.initialized RX5, Cond.code yX5_worth cX5_worth 2 (some .long), Cond.methodLink RX5 48 yX5_product, Cond.instanceMethod yX5_product, Cond.selects RX5 yX5_product yX5_product, Cond.code yX5_product cX5_product 2 (some .int), Cond.methodLink RX5 41 yX5_digitOfX, Cond.instanceMethod yX5_digitOfX, Cond.selects RX5 yX5_digitOfX yX5_digitOfX, Cond.code yX5_digitOfX cX5_digitOfX 2 (some .int), Cond.fieldLink RX5 9 "SixtyTablet$Working" "ofX" "[I", Cond.methodLink RX5 37 yX5_hasLine, Cond.instanceMethod yX5_hasLine, Cond.selects RX5 yX5_hasLine yX5_hasLine, Cond.code yX5_hasLine cX5_hasLine 2 (some .boolean), Cond.fieldLink RX5 19 "SixtyTablet$Working" "lines" "I", Cond.methodLink RX5 45 yX5_digitOfY, Cond.instanceMethod yX5_digitOfY, Cond.selects RX5 yX5_digitOfY yX5_digitOfY, Cond.code yX5_digitOfY cX5_digitOfY 2 (some .int), Cond.fieldLink RX5 13 "SixtyTablet$Working" "ofY" "[I"]
def wsX5_sumUpTo_r2 : List Cond := [Cond.methodLink RX5 51 yX5_place, Cond.instanceMethod yX5_place, Cond.selects RX5 yX5_place yX5_place, Cond.code yX5_place cX5_place 2 (some .int), Cond.fieldLink RX5 16 "SixtyTablet$Working" "places" "[I", Cond.methodLink RX5 54 yX1_atPlace, Cond.static yX1_atPlace, Cond.initialized RX1, Cond.code yX1_atPlace cX1_atPlace 6 (some .long), Cond.constantLong RX1 11 (60)]
def wsX5_sumUpTo : List Cond := .code yX5_sumUpTo cX5_sumUpTo 5 (some .long) :: ((wsX5_sumUpTo_r1 ++ wsX5_sumUpTo_r2) ++ wsX50)
def wsX5_leftOut_r1 : List Cond := [Cond.constantLong RX5 75 (-1), Cond.methodLink RX5 48 yX5_product, Cond.instanceMethod yX5_product, Cond.selects RX5 yX5_product yX5_product, Cond.initialized RX5, Cond.code yX5_product cX5_product 2 (some .int), Cond.methodLink RX5 41 yX5_digitOfX, Cond.instanceMethod yX5_digitOfX, Cond.selects RX5 yX5_digitOfX yX5_digitOfX, Cond.code yX5_digitOfX cX5_digitOfX 2 (some .int), Cond.fieldLink RX5 9 "SixtyTablet$Working" "ofX" "[I", Cond.methodLink RX5 37 yX5_hasLine, Cond.instanceMethod yX5_hasLine, Cond.selects RX5 yX5_hasLine yX5_hasLine, Cond.code yX5_hasLine cX5_hasLine 2 (some .boolean), Cond.fieldLink RX5 19 "SixtyTablet$Working" "lines" "I", Cond.methodLink RX5 45 yX5_digitOfY, Cond.instanceMethod yX5_digitOfY, Cond.selects RX5 yX5_digitOfY yX5_digitOfY, Cond.code yX5_digitOfY cX5_digitOfY 2 (some .int), Cond.fieldLink RX5 13 "SixtyTablet$Working" "ofY" "[I", Cond.methodLink RX5 51 yX5_place, Cond.instanceMethod yX5_place, Cond.selects RX5 yX5_place yX5_place]
def wsX5_leftOut_r2 : List Cond := [Cond.code yX5_place cX5_place 2 (some .int), Cond.fieldLink RX5 16 "SixtyTablet$Working" "places" "[I", Cond.methodLink RX5 54 yX1_atPlace, Cond.static yX1_atPlace, Cond.initialized RX1, Cond.code yX1_atPlace cX1_atPlace 6 (some .long), Cond.constantLong RX1 11 (60)]
def wsX5_leftOut : List Cond := .code yX5_leftOut cX5_leftOut 5 (some .long) :: ((wsX5_leftOut_r1 ++ wsX5_leftOut_r2) ++ wsX50)
def wsX5_placeLost_r1 : List Cond := [Cond.constantLong RX5 75 (-1), Cond.methodLink RX5 51 yX5_place, Cond.instanceMethod yX5_place, Cond.selects RX5 yX5_place yX5_place, Cond.initialized RX5, Cond.code yX5_place cX5_place 2 (some .int), Cond.fieldLink RX5 16 "SixtyTablet$Working" "places" "[I", Cond.methodLink RX5 37 yX5_hasLine, Cond.instanceMethod yX5_hasLine, Cond.selects RX5 yX5_hasLine yX5_hasLine, Cond.code yX5_hasLine cX5_hasLine 2 (some .boolean), Cond.fieldLink RX5 19 "SixtyTablet$Working" "lines" "I", Cond.methodLink RX5 48 yX5_product, Cond.instanceMethod yX5_product, Cond.selects RX5 yX5_product yX5_product, Cond.code yX5_product cX5_product 2 (some .int), Cond.methodLink RX5 41 yX5_digitOfX, Cond.instanceMethod yX5_digitOfX, Cond.selects RX5 yX5_digitOfX yX5_digitOfX, Cond.code yX5_digitOfX cX5_digitOfX 2 (some .int), Cond.fieldLink RX5 9 "SixtyTablet$Working" "ofX" "[I", Cond.methodLink RX5 45 yX5_digitOfY, Cond.instanceMethod yX5_digitOfY, Cond.selects RX5 yX5_digitOfY yX5_digitOfY]
def wsX5_placeLost_r2 : List Cond := [Cond.code yX5_digitOfY cX5_digitOfY 2 (some .int), Cond.fieldLink RX5 13 "SixtyTablet$Working" "ofY" "[I", Cond.methodLink RX5 54 yX1_atPlace, Cond.static yX1_atPlace, Cond.initialized RX1, Cond.code yX1_atPlace cX1_atPlace 6 (some .long), Cond.constantLong RX1 11 (60)]
def wsX5_placeLost : List Cond := .code yX5_placeLost cX5_placeLost 3 (some .long) :: ((wsX5_placeLost_r1 ++ wsX5_placeLost_r2) ++ wsX50)
def wsX5_rowBeside_r1 : List Cond := [Cond.constantLong RX5 75 (-1), Cond.methodLink RX5 45 yX5_digitOfY, Cond.instanceMethod yX5_digitOfY, Cond.selects RX5 yX5_digitOfY yX5_digitOfY, Cond.initialized RX5, Cond.code yX5_digitOfY cX5_digitOfY 2 (some .int), Cond.fieldLink RX5 13 "SixtyTablet$Working" "ofY" "[I", Cond.methodLink RX5 37 yX5_hasLine, Cond.instanceMethod yX5_hasLine, Cond.selects RX5 yX5_hasLine yX5_hasLine, Cond.code yX5_hasLine cX5_hasLine 2 (some .boolean), Cond.fieldLink RX5 19 "SixtyTablet$Working" "lines" "I", Cond.methodLink RX5 41 yX5_digitOfX, Cond.instanceMethod yX5_digitOfX, Cond.selects RX5 yX5_digitOfX yX5_digitOfX, Cond.code yX5_digitOfX cX5_digitOfX 2 (some .int), Cond.fieldLink RX5 9 "SixtyTablet$Working" "ofX" "[I", Cond.methodLink RX5 51 yX5_place, Cond.instanceMethod yX5_place, Cond.selects RX5 yX5_place yX5_place, Cond.code yX5_place cX5_place 2 (some .int), Cond.fieldLink RX5 16 "SixtyTablet$Working" "places" "[I", Cond.methodLink RX5 54 yX1_atPlace, Cond.static yX1_atPlace]
def wsX5_rowBeside_r2 : List Cond := [Cond.initialized RX1, Cond.code yX1_atPlace cX1_atPlace 6 (some .long), Cond.constantLong RX1 11 (60)]
def wsX5_rowBeside : List Cond := .code yX5_rowBeside cX5_rowBeside 4 (some .long) :: ((wsX5_rowBeside_r1 ++ wsX5_rowBeside_r2) ++ wsX50)
def wsX5_writtenTwice_r1 : List Cond := [Cond.constantLong RX5 75 (-1), Cond.methodLink RX5 48 yX5_product, Cond.instanceMethod yX5_product, Cond.selects RX5 yX5_product yX5_product, Cond.initialized RX5, Cond.code yX5_product cX5_product 2 (some .int), Cond.methodLink RX5 41 yX5_digitOfX, Cond.instanceMethod yX5_digitOfX, Cond.selects RX5 yX5_digitOfX yX5_digitOfX, Cond.code yX5_digitOfX cX5_digitOfX 2 (some .int), Cond.fieldLink RX5 9 "SixtyTablet$Working" "ofX" "[I", Cond.methodLink RX5 37 yX5_hasLine, Cond.instanceMethod yX5_hasLine, Cond.selects RX5 yX5_hasLine yX5_hasLine, Cond.code yX5_hasLine cX5_hasLine 2 (some .boolean), Cond.fieldLink RX5 19 "SixtyTablet$Working" "lines" "I", Cond.methodLink RX5 45 yX5_digitOfY, Cond.instanceMethod yX5_digitOfY, Cond.selects RX5 yX5_digitOfY yX5_digitOfY, Cond.code yX5_digitOfY cX5_digitOfY 2 (some .int), Cond.fieldLink RX5 13 "SixtyTablet$Working" "ofY" "[I", Cond.methodLink RX5 51 yX5_place, Cond.instanceMethod yX5_place, Cond.selects RX5 yX5_place yX5_place]
def wsX5_writtenTwice_r2 : List Cond := [Cond.code yX5_place cX5_place 2 (some .int), Cond.fieldLink RX5 16 "SixtyTablet$Working" "places" "[I", Cond.methodLink RX5 54 yX1_atPlace, Cond.static yX1_atPlace, Cond.initialized RX1, Cond.code yX1_atPlace cX1_atPlace 6 (some .long), Cond.constantLong RX1 11 (60)]
def wsX5_writtenTwice : List Cond := .code yX5_writtenTwice cX5_writtenTwice 6 (some .long) :: ((wsX5_writtenTwice_r1 ++ wsX5_writtenTwice_r2) ++ wsX50)
def wsX5_slipped_r1 : List Cond := [Cond.constantLong RX5 75 (-1), Cond.methodLink RX5 62 yX5_leftOut, Cond.instanceMethod yX5_leftOut, Cond.selects RX5 yX5_leftOut yX5_leftOut, Cond.initialized RX5, Cond.code yX5_leftOut cX5_leftOut 5 (some .long), Cond.methodLink RX5 48 yX5_product, Cond.instanceMethod yX5_product, Cond.selects RX5 yX5_product yX5_product, Cond.code yX5_product cX5_product 2 (some .int), Cond.methodLink RX5 41 yX5_digitOfX, Cond.instanceMethod yX5_digitOfX, Cond.selects RX5 yX5_digitOfX yX5_digitOfX, Cond.code yX5_digitOfX cX5_digitOfX 2 (some .int), Cond.fieldLink RX5 9 "SixtyTablet$Working" "ofX" "[I", Cond.methodLink RX5 37 yX5_hasLine, Cond.instanceMethod yX5_hasLine, Cond.selects RX5 yX5_hasLine yX5_hasLine, Cond.code yX5_hasLine cX5_hasLine 2 (some .boolean), Cond.fieldLink RX5 19 "SixtyTablet$Working" "lines" "I", Cond.methodLink RX5 45 yX5_digitOfY, Cond.instanceMethod yX5_digitOfY, Cond.selects RX5 yX5_digitOfY yX5_digitOfY, Cond.code yX5_digitOfY cX5_digitOfY 2 (some .int)]
def wsX5_slipped_r2 : List Cond := [Cond.fieldLink RX5 13 "SixtyTablet$Working" "ofY" "[I", Cond.methodLink RX5 51 yX5_place, Cond.instanceMethod yX5_place, Cond.selects RX5 yX5_place yX5_place, Cond.code yX5_place cX5_place 2 (some .int), Cond.fieldLink RX5 16 "SixtyTablet$Working" "places" "[I", Cond.methodLink RX5 54 yX1_atPlace, Cond.static yX1_atPlace, Cond.initialized RX1, Cond.code yX1_atPlace cX1_atPlace 6 (some .long), Cond.constantLong RX1 11 (60), Cond.methodLink RX5 66 yX5_placeLost, Cond.instanceMethod yX5_placeLost, Cond.selects RX5 yX5_placeLost yX5_placeLost, Cond.code yX5_placeLost cX5_placeLost 3 (some .long), Cond.methodLink RX5 69 yX5_rowBeside, Cond.instanceMethod yX5_rowBeside, Cond.selects RX5 yX5_rowBeside yX5_rowBeside, Cond.code yX5_rowBeside cX5_rowBeside 4 (some .long), Cond.methodLink RX5 72 yX5_writtenTwice, Cond.instanceMethod yX5_writtenTwice, Cond.selects RX5 yX5_writtenTwice yX5_writtenTwice, Cond.code yX5_writtenTwice cX5_writtenTwice 6 (some .long)]
def wsX5_slipped : List Cond := .code yX5_slipped cX5_slipped 4 (some .long) :: ((wsX5_slipped_r1 ++ wsX5_slipped_r2) ++ wsX50)
def wsX6_init_r1 : List Cond := [Cond.methodLink RX6 1 objectInit, Cond.instanceMethod objectInit, Cond.code objectInit ⟨#[0xb1]⟩ 1 none, Cond.classLink RX6 7 RX5, Cond.instantiable RX5 4, Cond.initialized RX5, Cond.fieldLink RX6 10 "SixtyTablet" "working" "LSixtyTablet$Working;", Cond.classLink RX6 16 RX0, Cond.instantiable RX0 9, Cond.initialized RX0, Cond.fieldLink RX6 19 "SixtyTablet" "search" "LSixtyTablet$Search;", Cond.arrayClass .int, Cond.fieldLink RX6 23 "SixtyTablet" "steps" "[I", Cond.fieldLink RX6 27 "SixtyTablet" "stepCount" "I", Cond.classLink RX6 31 RX3, Cond.fieldLink RX6 33 "SixtyTablet" "tablets" "[LSixtyTablet$Tablet;", Cond.instantiable RX3 3, Cond.initialized RX3, Cond.methodLink RX6 9 yX5_init, Cond.instanceMethod yX5_init, Cond.code yX5_init cX5_init 1 none, Cond.methodLink RX5 3 objectInit, Cond.fieldLink RX5 9 "SixtyTablet$Working" "ofX" "[I", Cond.fieldLink RX5 13 "SixtyTablet$Working" "ofY" "[I"]
def wsX6_init_r2 : List Cond := [Cond.fieldLink RX5 16 "SixtyTablet$Working" "places" "[I", Cond.fieldLink RX5 19 "SixtyTablet$Working" "lines" "I", Cond.methodLink RX6 18 yX0_init, Cond.instanceMethod yX0_init, Cond.code yX0_init cX0_init 1 none, Cond.methodLink RX0 1 objectInit, Cond.fieldLink RX0 9 "SixtyTablet$Search" "heldRows" "[I", Cond.fieldLink RX0 15 "SixtyTablet$Search" "heldColumns" "[I", Cond.fieldLink RX0 18 "SixtyTablet$Search" "heldSixties" "[I", Cond.fieldLink RX0 21 "SixtyTablet$Search" "certain" "[I", Cond.fieldLink RX0 24 "SixtyTablet$Search" "heldCount" "I", Cond.fieldLink RX0 28 "SixtyTablet$Search" "rows" "I", Cond.fieldLink RX0 33 "SixtyTablet$Search" "kind" "I", Cond.fieldLink RX0 36 "SixtyTablet$Search" "n" "I", Cond.fieldLink RX0 39 "SixtyTablet$Search" "first" "I", Cond.methodLink RX6 37 yX3_init, Cond.instanceMethod yX3_init, Cond.code yX3_init cX3_init 1 none, Cond.methodLink RX3 3 objectInit, Cond.fieldLink RX3 9 "SixtyTablet$Tablet" "cells" "[I", Cond.fieldLink RX3 13 "SixtyTablet$Tablet" "sixties" "[I", Cond.fieldLink RX3 16 "SixtyTablet$Tablet" "rows" "I"]
def wsX6_init : List Cond := .code yX6_init cX6_init 2 none :: ((wsX6_init_r1 ++ wsX6_init_r2) ++ wsX50 ++ wsX60 ++ wsX00 ++ wsX30)
def wsX6_sixty : List Cond := .code yX6_sixty cX6_sixty 3 (some .long) :: ([.constantLong RX6 48 (-1000000000000000002), .methodLink RX6 38 yX1_isNumber, .static yX1_isNumber, .initialized RX1, .code yX1_isNumber cX1_isNumber 2 (some .boolean), .constantLong RX1 9 (167961600000000), .methodLink RX6 44 yX1_strip, .static yX1_strip, .code yX1_strip cX1_strip 5 (some .long), .constantLong RX1 11 (60)])
def wsX6_digit : List Cond := .code yX6_digit cX6_digit 7 (some .int) :: ([.methodLink RX6 38 yX1_isNumber, .static yX1_isNumber, .initialized RX1, .code yX1_isNumber cX1_isNumber 2 (some .boolean), .constantLong RX1 9 (167961600000000), .methodLink RX6 44 yX1_strip, .static yX1_strip, .code yX1_strip cX1_strip 5 (some .long), .constantLong RX1 11 (60), .methodLink RX6 50 yX1_length, .static yX1_length, .code yX1_length cX1_length 6 (some .int), .methodLink RX6 54 yX1_digitAhead, .static yX1_digitAhead, .code yX1_digitAhead cX1_digitAhead 6 (some .int)])
def wsX6_sight : List Cond := .code yX6_sight cX6_sight 7 (some .int) :: ([.methodLink RX6 38 yX1_isNumber, .static yX1_isNumber, .initialized RX1, .code yX1_isNumber cX1_isNumber 2 (some .boolean), .constantLong RX1 9 (167961600000000), .methodLink RX6 50 yX1_length, .static yX1_length, .code yX1_length cX1_length 6 (some .int), .constantLong RX1 11 (60), .methodLink RX6 54 yX1_digitAhead, .static yX1_digitAhead, .code yX1_digitAhead cX1_digitAhead 6 (some .int)])
def wsJ6_bitCount_0f7a4 : List Cond := .code yJ6_bitCount_0f7a4 cJ6_bitCount_0f7a4 1 (some .int) :: ([.constant RJ6 265 (1431655765), .constant RJ6 266 (858993459), .constant RJ6 267 (252645135)])
def wsX6_like : List Cond := .code yX6_like cX6_like 8 (some .long) :: ([.constantLong RX6 48 (-1000000000000000002), .constantLong RX6 71 (-1000000000000000006), .methodLink RX6 38 yX1_isNumber, .static yX1_isNumber, .initialized RX1, .code yX1_isNumber cX1_isNumber 2 (some .boolean), .constantLong RX1 9 (167961600000000), .methodLink RX6 58 yX1_sightLength, .static yX1_sightLength, .code yX1_sightLength cX1_sightLength 6 (some .int), .constantLong RX1 11 (60), .methodLink RX6 61 yJ6_bitCount_0f7a4, .static yJ6_bitCount_0f7a4, .initialized RJ6, .code yJ6_bitCount_0f7a4 cJ6_bitCount_0f7a4 1 (some .int), .constant RJ6 265 (1431655765), .constant RJ6 266 (858993459), .constant RJ6 267 (252645135), .methodLink RX6 67 yX1_spread, .static yX1_spread, .code yX1_spread cX1_spread 10 (some .long), .methodLink RX1 13 yX1_strip, .static yX1_strip, .code yX1_strip cX1_strip 5 (some .long)])
def wsX6_put : List Cond := .code yX6_put cX6_put 8 (some .long) :: ([.constantLong RX6 48 (-1000000000000000002), .constantLong RX6 76 (167961600000000), .constantLong RX6 78 (-1000000000000000004), .methodLink RX6 38 yX1_isNumber, .static yX1_isNumber, .initialized RX1, .code yX1_isNumber cX1_isNumber 2 (some .boolean), .constantLong RX1 9 (167961600000000), .methodLink RX6 73 yX1_raise, .static yX1_raise, .code yX1_raise cX1_raise 6 (some .long), .constantLong RX1 17 (2799360000000), .constantLong RX1 11 (60), .methodLink RX6 44 yX1_strip, .static yX1_strip, .code yX1_strip cX1_strip 5 (some .long)])
def wsX6_even : List Cond := .code yX6_even cX6_even 3 (some .int) :: ([.methodLink RX6 38 yX1_isNumber, .static yX1_isNumber, .initialized RX1, .code yX1_isNumber cX1_isNumber 2 (some .boolean), .constantLong RX1 9 (167961600000000), .methodLink RX6 80 yX4_isEven, .static yX4_isEven, .initialized RX4, .code yX4_isEven cX4_isEven 2 (some .boolean), .methodLink RX4 13 yX4_without, .static yX4_without, .code yX4_without cX4_without 6 (some .long)])
def wsX6_turned_r1 : List Cond := [Cond.constantLong RX6 48 (-1000000000000000002), Cond.constantLong RX6 85 (-1000000000000000005), Cond.constantLong RX6 76 (167961600000000), Cond.constantLong RX6 78 (-1000000000000000004), Cond.methodLink RX6 38 yX1_isNumber, Cond.static yX1_isNumber, Cond.initialized RX1, Cond.code yX1_isNumber cX1_isNumber 2 (some .boolean), Cond.constantLong RX1 9 (167961600000000), Cond.methodLink RX6 80 yX4_isEven, Cond.static yX4_isEven, Cond.initialized RX4, Cond.code yX4_isEven cX4_isEven 2 (some .boolean), Cond.methodLink RX4 13 yX4_without, Cond.static yX4_without, Cond.code yX4_without cX4_without 6 (some .long), Cond.methodLink RX6 87 yX4_turnOver, Cond.static yX4_turnOver, Cond.code yX4_turnOver cX4_turnOver 8 (some .long), Cond.methodLink RX4 21 Lib.Math.max.name, Cond.static Lib.Math.max.name, Cond.initialized "java/lang/Math", Cond.code Lib.Math.max.name Lib.Math.max.code 2 (some .int), Cond.methodLink RX4 17 yX4_powerIn]
def wsX6_turned_r2 : List Cond := [Cond.static yX4_powerIn, Cond.code yX4_powerIn cX4_powerIn 7 (some .int), Cond.methodLink RX4 27 yX4_grown, Cond.static yX4_grown, Cond.code yX4_grown cX4_grown 7 (some .long), Cond.constantLong RX4 33 (167961600000000), Cond.methodLink RX4 35 Lib.MathLoose.min_long.x, Cond.static Lib.MathLoose.min_long.x, Cond.code Lib.MathLoose.min_long.x Lib.MathLoose.min_long.code 4 (some .long)]
def wsX6_turned : List Cond := .code yX6_turned cX6_turned 5 (some .long) :: ((wsX6_turned_r1 ++ wsX6_turned_r2))
def wsX6_list : List Cond := .code yX6_list cX6_list 2 (some .int) :: ([.methodLink RX6 90 yX4_listRows, .static yX4_listRows, .initialized RX4, .code yX4_listRows cX4_listRows 0 (some .int), .fieldLink RX4 7 "SixtyTablet$Turning" "LIST" "[I", .methodLink RX6 94 yX4_listed, .static yX4_listed, .code yX4_listed cX4_listed 1 (some .int)])
def wsX6_factor : List Cond := .code yX6_factor cX6_factor 9 (some .int) :: ([.methodLink RX6 38 yX1_isNumber, .static yX1_isNumber, .initialized RX1, .code yX1_isNumber cX1_isNumber 2 (some .boolean), .constantLong RX1 9 (167961600000000), .methodLink RX6 80 yX4_isEven, .static yX4_isEven, .initialized RX4, .code yX4_isEven cX4_isEven 2 (some .boolean), .methodLink RX4 13 yX4_without, .static yX4_without, .code yX4_without cX4_without 6 (some .long), .methodLink RX6 44 yX1_strip, .static yX1_strip, .code yX1_strip cX1_strip 5 (some .long), .constantLong RX1 11 (60), .methodLink RX6 97 yX4_greatestListed, .static yX4_greatestListed, .code yX4_greatestListed cX4_greatestListed 4 (some .int), .fieldLink RX4 7 "SixtyTablet$Turning" "LIST" "[I"])
def wsX6_root : List Cond := .code yX6_root cX6_root 7 (some .long) :: ([.constantLong RX6 48 (-1000000000000000002), .constantLong RX6 76 (167961600000000), .constantLong RX6 78 (-1000000000000000004), .constantLong RX6 100 (3600), .methodLink RX6 38 yX1_isNumber, .static yX1_isNumber, .initialized RX1, .code yX1_isNumber cX1_isNumber 2 (some .boolean), .constantLong RX1 9 (167961600000000), .methodLink RX6 102 yX1_floorRoot, .static yX1_floorRoot, .code yX1_floorRoot cX1_floorRoot 9 (some .long), .constantLong RX1 19 (777600000), .constantLong RX1 21 (2)])
def wsX6_times_r1 : List Cond := [Cond.constantLong RX6 105 (12960000), Cond.fieldLink RX6 10 "SixtyTablet" "working" "LSixtyTablet$Working;", Cond.methodLink RX6 107 yX5_begin, Cond.instanceMethod yX5_begin, Cond.selects RX5 yX5_begin yX5_begin, Cond.initialized RX5, Cond.code yX5_begin cX5_begin 7 none, Cond.fieldLink RX5 19 "SixtyTablet$Working" "lines" "I", Cond.methodLink RX5 23 yX1_length, Cond.static yX1_length, Cond.initialized RX1, Cond.code yX1_length cX1_length 6 (some .int), Cond.constantLong RX1 11 (60), Cond.methodLink RX5 29 yX1_digitAhead, Cond.static yX1_digitAhead, Cond.code yX1_digitAhead cX1_digitAhead 6 (some .int), Cond.methodLink RX5 33 yX5_write, Cond.instanceMethod yX5_write, Cond.selects RX5 yX5_write yX5_write, Cond.code yX5_write cX5_write 4 none, Cond.fieldLink RX5 9 "SixtyTablet$Working" "ofX" "[I", Cond.fieldLink RX5 13 "SixtyTablet$Working" "ofY" "[I", Cond.fieldLink RX5 16 "SixtyTablet$Working" "places" "[I", Cond.methodLink RX6 111 yX5_lineCount]
def wsX6_times_r2 : List Cond := [Cond.instanceMethod yX5_lineCount, Cond.selects RX5 yX5_lineCount yX5_lineCount, Cond.code yX5_lineCount cX5_lineCount 1 (some .int)]
def wsX6_times : List Cond := .code yX6_times cX6_times 5 (some .int) :: ((wsX6_times_r1 ++ wsX6_times_r2) ++ wsX60 ++ wsX50)
def wsX6_line_r1 : List Cond := [Cond.fieldLink RX6 10 "SixtyTablet" "working" "LSixtyTablet$Working;", Cond.methodLink RX6 114 yX5_hasLine, Cond.instanceMethod yX5_hasLine, Cond.selects RX5 yX5_hasLine yX5_hasLine, Cond.initialized RX5, Cond.code yX5_hasLine cX5_hasLine 2 (some .boolean), Cond.fieldLink RX5 19 "SixtyTablet$Working" "lines" "I", Cond.methodLink RX6 118 yX5_product, Cond.instanceMethod yX5_product, Cond.selects RX5 yX5_product yX5_product, Cond.code yX5_product cX5_product 2 (some .int), Cond.methodLink RX5 41 yX5_digitOfX, Cond.instanceMethod yX5_digitOfX, Cond.selects RX5 yX5_digitOfX yX5_digitOfX, Cond.code yX5_digitOfX cX5_digitOfX 2 (some .int), Cond.fieldLink RX5 9 "SixtyTablet$Working" "ofX" "[I", Cond.methodLink RX5 37 yX5_hasLine, Cond.methodLink RX5 45 yX5_digitOfY, Cond.instanceMethod yX5_digitOfY, Cond.selects RX5 yX5_digitOfY yX5_digitOfY, Cond.code yX5_digitOfY cX5_digitOfY 2 (some .int), Cond.fieldLink RX5 13 "SixtyTablet$Working" "ofY" "[I", Cond.methodLink RX6 121 yX5_place, Cond.instanceMethod yX5_place]
def wsX6_line_r2 : List Cond := [Cond.selects RX5 yX5_place yX5_place, Cond.code yX5_place cX5_place 2 (some .int), Cond.fieldLink RX5 16 "SixtyTablet$Working" "places" "[I", Cond.methodLink RX6 124 yX5_digitOfX, Cond.methodLink RX6 127 yX5_digitOfY]
def wsX6_line : List Cond := .code yX6_line cX6_line 3 (some .int) :: ((wsX6_line_r1 ++ wsX6_line_r2) ++ wsX60 ++ wsX50)
def wsX6_sum_r1 : List Cond := [Cond.fieldLink RX6 10 "SixtyTablet" "working" "LSixtyTablet$Working;", Cond.constantLong RX6 134 (-1000000000000000001), Cond.methodLink RX6 114 yX5_hasLine, Cond.instanceMethod yX5_hasLine, Cond.selects RX5 yX5_hasLine yX5_hasLine, Cond.initialized RX5, Cond.code yX5_hasLine cX5_hasLine 2 (some .boolean), Cond.fieldLink RX5 19 "SixtyTablet$Working" "lines" "I", Cond.methodLink RX6 130 yX5_sumUpTo, Cond.instanceMethod yX5_sumUpTo, Cond.selects RX5 yX5_sumUpTo yX5_sumUpTo, Cond.code yX5_sumUpTo cX5_sumUpTo 5 (some .long), Cond.methodLink RX5 58 yX5_worth, Cond.instanceMethod yX5_worth, Cond.selects RX5 yX5_worth yX5_worth, Cond.code yX5_worth cX5_worth 2 (some .long), Cond.methodLink RX5 48 yX5_product, Cond.instanceMethod yX5_product, Cond.selects RX5 yX5_product yX5_product, Cond.code yX5_product cX5_product 2 (some .int), Cond.methodLink RX5 41 yX5_digitOfX, Cond.instanceMethod yX5_digitOfX, Cond.selects RX5 yX5_digitOfX yX5_digitOfX, Cond.code yX5_digitOfX cX5_digitOfX 2 (some .int)]
def wsX6_sum_r2 : List Cond := [Cond.fieldLink RX5 9 "SixtyTablet$Working" "ofX" "[I", Cond.methodLink RX5 37 yX5_hasLine, Cond.methodLink RX5 45 yX5_digitOfY, Cond.instanceMethod yX5_digitOfY, Cond.selects RX5 yX5_digitOfY yX5_digitOfY, Cond.code yX5_digitOfY cX5_digitOfY 2 (some .int), Cond.fieldLink RX5 13 "SixtyTablet$Working" "ofY" "[I", Cond.methodLink RX5 51 yX5_place, Cond.instanceMethod yX5_place, Cond.selects RX5 yX5_place yX5_place, Cond.code yX5_place cX5_place 2 (some .int), Cond.fieldLink RX5 16 "SixtyTablet$Working" "places" "[I", Cond.methodLink RX5 54 yX1_atPlace, Cond.static yX1_atPlace, Cond.initialized RX1, Cond.code yX1_atPlace cX1_atPlace 6 (some .long), Cond.constantLong RX1 11 (60)]
def wsX6_sum : List Cond := .code yX6_sum cX6_sum 2 (some .long) :: ((wsX6_sum_r1 ++ wsX6_sum_r2) ++ wsX60 ++ wsX50)
def wsX6_slip_r1 : List Cond := [Cond.fieldLink RX6 10 "SixtyTablet" "working" "LSixtyTablet$Working;", Cond.constantLong RX6 134 (-1000000000000000001), Cond.constantLong RX6 48 (-1000000000000000002), Cond.constantLong RX6 140 (-1), Cond.constantLong RX6 85 (-1000000000000000005), Cond.methodLink RX6 114 yX5_hasLine, Cond.instanceMethod yX5_hasLine, Cond.selects RX5 yX5_hasLine yX5_hasLine, Cond.initialized RX5, Cond.code yX5_hasLine cX5_hasLine 2 (some .boolean), Cond.fieldLink RX5 19 "SixtyTablet$Working" "lines" "I", Cond.methodLink RX6 136 yX5_slipped, Cond.instanceMethod yX5_slipped, Cond.selects RX5 yX5_slipped yX5_slipped, Cond.code yX5_slipped cX5_slipped 4 (some .long), Cond.constantLong RX5 75 (-1), Cond.methodLink RX5 62 yX5_leftOut, Cond.instanceMethod yX5_leftOut, Cond.selects RX5 yX5_leftOut yX5_leftOut, Cond.code yX5_leftOut cX5_leftOut 5 (some .long), Cond.methodLink RX5 48 yX5_product, Cond.instanceMethod yX5_product, Cond.selects RX5 yX5_product yX5_product, Cond.code yX5_product cX5_product 2 (some .int)]
def wsX6_slip_r2 : List Cond := [Cond.methodLink RX5 41 yX5_digitOfX, Cond.instanceMethod yX5_digitOfX, Cond.selects RX5 yX5_digitOfX yX5_digitOfX, Cond.code yX5_digitOfX cX5_digitOfX 2 (some .int), Cond.fieldLink RX5 9 "SixtyTablet$Working" "ofX" "[I", Cond.methodLink RX5 37 yX5_hasLine, Cond.methodLink RX5 45 yX5_digitOfY, Cond.instanceMethod yX5_digitOfY, Cond.selects RX5 yX5_digitOfY yX5_digitOfY, Cond.code yX5_digitOfY cX5_digitOfY 2 (some .int), Cond.fieldLink RX5 13 "SixtyTablet$Working" "ofY" "[I", Cond.methodLink RX5 51 yX5_place, Cond.instanceMethod yX5_place, Cond.selects RX5 yX5_place yX5_place, Cond.code yX5_place cX5_place 2 (some .int), Cond.fieldLink RX5 16 "SixtyTablet$Working" "places" "[I", Cond.methodLink RX5 54 yX1_atPlace, Cond.static yX1_atPlace, Cond.initialized RX1, Cond.code yX1_atPlace cX1_atPlace 6 (some .long), Cond.constantLong RX1 11 (60), Cond.methodLink RX5 66 yX5_placeLost, Cond.instanceMethod yX5_placeLost, Cond.selects RX5 yX5_placeLost yX5_placeLost]
def wsX6_slip_r3 : List Cond := [Cond.code yX5_placeLost cX5_placeLost 3 (some .long), Cond.methodLink RX5 69 yX5_rowBeside, Cond.instanceMethod yX5_rowBeside, Cond.selects RX5 yX5_rowBeside yX5_rowBeside, Cond.code yX5_rowBeside cX5_rowBeside 4 (some .long), Cond.methodLink RX5 72 yX5_writtenTwice, Cond.instanceMethod yX5_writtenTwice, Cond.selects RX5 yX5_writtenTwice yX5_writtenTwice, Cond.code yX5_writtenTwice cX5_writtenTwice 6 (some .long), Cond.methodLink RX6 130 yX5_sumUpTo, Cond.instanceMethod yX5_sumUpTo, Cond.selects RX5 yX5_sumUpTo yX5_sumUpTo, Cond.code yX5_sumUpTo cX5_sumUpTo 5 (some .long), Cond.methodLink RX5 58 yX5_worth, Cond.instanceMethod yX5_worth, Cond.selects RX5 yX5_worth yX5_worth, Cond.code yX5_worth cX5_worth 2 (some .long), Cond.methodLink RX6 142 yX5_worth]
def wsX6_slip : List Cond := .code yX6_slip cX6_slip 9 (some .long) :: ((wsX6_slip_r1 ++ (wsX6_slip_r2 ++ wsX6_slip_r3)) ++ wsX60 ++ wsX50)
def wsX6_blame_r1 : List Cond := [Cond.fieldLink RX6 10 "SixtyTablet" "working" "LSixtyTablet$Working;", Cond.constantLong RX6 140 (-1), Cond.methodLink RX6 111 yX5_lineCount, Cond.instanceMethod yX5_lineCount, Cond.selects RX5 yX5_lineCount yX5_lineCount, Cond.initialized RX5, Cond.code yX5_lineCount cX5_lineCount 1 (some .int), Cond.fieldLink RX5 19 "SixtyTablet$Working" "lines" "I", Cond.methodLink RX6 130 yX5_sumUpTo, Cond.instanceMethod yX5_sumUpTo, Cond.selects RX5 yX5_sumUpTo yX5_sumUpTo, Cond.code yX5_sumUpTo cX5_sumUpTo 5 (some .long), Cond.methodLink RX5 58 yX5_worth, Cond.instanceMethod yX5_worth, Cond.selects RX5 yX5_worth yX5_worth, Cond.code yX5_worth cX5_worth 2 (some .long), Cond.methodLink RX5 48 yX5_product, Cond.instanceMethod yX5_product, Cond.selects RX5 yX5_product yX5_product, Cond.code yX5_product cX5_product 2 (some .int), Cond.methodLink RX5 41 yX5_digitOfX, Cond.instanceMethod yX5_digitOfX, Cond.selects RX5 yX5_digitOfX yX5_digitOfX, Cond.code yX5_digitOfX cX5_digitOfX 2 (some .int)]
def wsX6_blame_r2 : List Cond := [Cond.fieldLink RX5 9 "SixtyTablet$Working" "ofX" "[I", Cond.methodLink RX5 37 yX5_hasLine, Cond.instanceMethod yX5_hasLine, Cond.selects RX5 yX5_hasLine yX5_hasLine, Cond.code yX5_hasLine cX5_hasLine 2 (some .boolean), Cond.methodLink RX5 45 yX5_digitOfY, Cond.instanceMethod yX5_digitOfY, Cond.selects RX5 yX5_digitOfY yX5_digitOfY, Cond.code yX5_digitOfY cX5_digitOfY 2 (some .int), Cond.fieldLink RX5 13 "SixtyTablet$Working" "ofY" "[I", Cond.methodLink RX5 51 yX5_place, Cond.instanceMethod yX5_place, Cond.selects RX5 yX5_place yX5_place, Cond.code yX5_place cX5_place 2 (some .int), Cond.fieldLink RX5 16 "SixtyTablet$Working" "places" "[I", Cond.methodLink RX5 54 yX1_atPlace, Cond.static yX1_atPlace, Cond.initialized RX1, Cond.code yX1_atPlace cX1_atPlace 6 (some .long), Cond.constantLong RX1 11 (60), Cond.methodLink RX6 136 yX5_slipped, Cond.instanceMethod yX5_slipped, Cond.selects RX5 yX5_slipped yX5_slipped, Cond.code yX5_slipped cX5_slipped 4 (some .long)]
def wsX6_blame_r3 : List Cond := [Cond.constantLong RX5 75 (-1), Cond.methodLink RX5 62 yX5_leftOut, Cond.instanceMethod yX5_leftOut, Cond.selects RX5 yX5_leftOut yX5_leftOut, Cond.code yX5_leftOut cX5_leftOut 5 (some .long), Cond.methodLink RX5 66 yX5_placeLost, Cond.instanceMethod yX5_placeLost, Cond.selects RX5 yX5_placeLost yX5_placeLost, Cond.code yX5_placeLost cX5_placeLost 3 (some .long), Cond.methodLink RX5 69 yX5_rowBeside, Cond.instanceMethod yX5_rowBeside, Cond.selects RX5 yX5_rowBeside yX5_rowBeside, Cond.code yX5_rowBeside cX5_rowBeside 4 (some .long), Cond.methodLink RX5 72 yX5_writtenTwice, Cond.instanceMethod yX5_writtenTwice, Cond.selects RX5 yX5_writtenTwice yX5_writtenTwice, Cond.code yX5_writtenTwice cX5_writtenTwice 6 (some .long), Cond.methodLink RX6 142 yX5_worth]
def wsX6_blame : List Cond := .code yX6_blame cX6_blame 13 (some .int) :: ((wsX6_blame_r1 ++ (wsX6_blame_r2 ++ wsX6_blame_r3)) ++ wsX60 ++ wsX50)
def wsX6_clayOf : List Cond := .code yX6_clayOf cX6_clayOf 2 (some (.object "SixtyTablet$Tablet")) :: ([.fieldLink RX6 33 "SixtyTablet" "tablets" "[LSixtyTablet$Tablet;"] ++ wsX60)
def wsX6_tablet : List Cond := .code yX6_tablet cX6_tablet 4 (some .int) :: ([.methodLink RX6 145 yX6_clayOf, .instanceMethod yX6_clayOf, .selects RX6 yX6_clayOf yX6_clayOf, .initialized RX6, .code yX6_clayOf cX6_clayOf 2 (some (.object "SixtyTablet$Tablet")), .fieldLink RX6 33 "SixtyTablet" "tablets" "[LSixtyTablet$Tablet;", .methodLink RX6 149 yX3_smooth, .instanceMethod yX3_smooth, .selects RX3 yX3_smooth yX3_smooth, .initialized RX3, .code yX3_smooth cX3_smooth 3 none, .fieldLink RX3 16 "SixtyTablet$Tablet" "rows" "I", .fieldLink RX3 9 "SixtyTablet$Tablet" "cells" "[I", .fieldLink RX3 13 "SixtyTablet$Tablet" "sixties" "[I"] ++ wsX60 ++ wsX30)
def wsX6_press_r1 : List Cond := [Cond.constant RX6 157 (12959999), Cond.methodLink RX6 145 yX6_clayOf, Cond.instanceMethod yX6_clayOf, Cond.selects RX6 yX6_clayOf yX6_clayOf, Cond.initialized RX6, Cond.code yX6_clayOf cX6_clayOf 2 (some (.object "SixtyTablet$Tablet")), Cond.fieldLink RX6 33 "SixtyTablet" "tablets" "[LSixtyTablet$Tablet;", Cond.methodLink RX6 153 yX3_hasCell, Cond.instanceMethod yX3_hasCell, Cond.selects RX3 yX3_hasCell yX3_hasCell, Cond.initialized RX3, Cond.code yX3_hasCell cX3_hasCell 3 (some .boolean), Cond.fieldLink RX3 16 "SixtyTablet$Tablet" "rows" "I", Cond.methodLink RX6 158 yX3_held, Cond.instanceMethod yX3_held, Cond.selects RX3 yX3_held yX3_held, Cond.code yX3_held cX3_held 4 (some .int), Cond.fieldLink RX3 9 "SixtyTablet$Tablet" "cells" "[I", Cond.methodLink RX6 162 yX3_hold, Cond.instanceMethod yX3_hold, Cond.selects RX3 yX3_hold yX3_hold, Cond.code yX3_hold cX3_hold 5 none, Cond.fieldLink RX3 13 "SixtyTablet$Tablet" "sixties" "[I", Cond.methodLink RX3 20 yX1_strip]
def wsX6_press_r2 : List Cond := [Cond.static yX1_strip, Cond.initialized RX1, Cond.code yX1_strip cX1_strip 5 (some .long), Cond.constantLong RX1 11 (60)]
def wsX6_press : List Cond := .code yX6_press cX6_press 7 (some .int) :: ((wsX6_press_r1 ++ wsX6_press_r2) ++ wsX60 ++ wsX30)
def wsX6_cell : List Cond := .code yX6_cell cX6_cell 5 (some .int) :: ([.methodLink RX6 145 yX6_clayOf, .instanceMethod yX6_clayOf, .selects RX6 yX6_clayOf yX6_clayOf, .initialized RX6, .code yX6_clayOf cX6_clayOf 2 (some (.object "SixtyTablet$Tablet")), .fieldLink RX6 33 "SixtyTablet" "tablets" "[LSixtyTablet$Tablet;", .methodLink RX6 153 yX3_hasCell, .instanceMethod yX3_hasCell, .selects RX3 yX3_hasCell yX3_hasCell, .initialized RX3, .code yX3_hasCell cX3_hasCell 3 (some .boolean), .fieldLink RX3 16 "SixtyTablet$Tablet" "rows" "I", .methodLink RX6 158 yX3_held, .instanceMethod yX3_held, .selects RX3 yX3_held yX3_held, .code yX3_held cX3_held 4 (some .int), .fieldLink RX3 9 "SixtyTablet$Tablet" "cells" "[I"] ++ wsX60 ++ wsX30)
def wsX6_copy_r1 : List Cond := [Cond.methodLink RX6 145 yX6_clayOf, Cond.instanceMethod yX6_clayOf, Cond.selects RX6 yX6_clayOf yX6_clayOf, Cond.initialized RX6, Cond.code yX6_clayOf cX6_clayOf 2 (some (.object "SixtyTablet$Tablet")), Cond.fieldLink RX6 33 "SixtyTablet" "tablets" "[LSixtyTablet$Tablet;", Cond.methodLink RX6 166 yX2_isTable, Cond.static yX2_isTable, Cond.initialized RX2, Cond.code yX2_isTable cX2_isTable 2 (some .boolean), Cond.methodLink RX6 171 yX2_rowsOf, Cond.static yX2_rowsOf, Cond.code yX2_rowsOf cX2_rowsOf 1 (some .int), Cond.methodLink RX2 9 yX4_listRows, Cond.static yX4_listRows, Cond.initialized RX4, Cond.code yX4_listRows cX4_listRows 0 (some .int), Cond.fieldLink RX4 7 "SixtyTablet$Turning" "LIST" "[I", Cond.methodLink RX6 149 yX3_smooth, Cond.instanceMethod yX3_smooth, Cond.selects RX3 yX3_smooth yX3_smooth, Cond.initialized RX3, Cond.code yX3_smooth cX3_smooth 3 none, Cond.fieldLink RX3 16 "SixtyTablet$Tablet" "rows" "I"]
def wsX6_copy_r2 : List Cond := [Cond.fieldLink RX3 9 "SixtyTablet$Tablet" "cells" "[I", Cond.fieldLink RX3 13 "SixtyTablet$Tablet" "sixties" "[I", Cond.methodLink RX6 174 yX2_number, Cond.static yX2_number, Cond.code yX2_number cX2_number 5 (some .int), Cond.methodLink RX2 15 yX2_listColumn, Cond.static yX2_listColumn, Cond.code yX2_listColumn cX2_listColumn 3 (some .int), Cond.methodLink RX2 19 yX4_listed, Cond.static yX4_listed, Cond.code yX4_listed cX4_listed 1 (some .int), Cond.methodLink RX2 23 yX4_turnOver, Cond.static yX4_turnOver, Cond.code yX4_turnOver cX4_turnOver 8 (some .long), Cond.methodLink RX4 21 Lib.Math.max.name, Cond.static Lib.Math.max.name, Cond.initialized "java/lang/Math", Cond.code Lib.Math.max.name Lib.Math.max.code 2 (some .int), Cond.methodLink RX4 17 yX4_powerIn, Cond.static yX4_powerIn, Cond.code yX4_powerIn cX4_powerIn 7 (some .int), Cond.methodLink RX4 27 yX4_grown, Cond.static yX4_grown, Cond.code yX4_grown cX4_grown 7 (some .long)]
def wsX6_copy_r3 : List Cond := [Cond.constantLong RX4 33 (167961600000000), Cond.methodLink RX4 35 Lib.MathLoose.min_long.x, Cond.static Lib.MathLoose.min_long.x, Cond.code Lib.MathLoose.min_long.x Lib.MathLoose.min_long.code 4 (some .long), Cond.methodLink RX6 162 yX3_hold, Cond.instanceMethod yX3_hold, Cond.selects RX3 yX3_hold yX3_hold, Cond.code yX3_hold cX3_hold 5 none, Cond.methodLink RX3 20 yX1_strip, Cond.static yX1_strip, Cond.initialized RX1, Cond.code yX1_strip cX1_strip 5 (some .long), Cond.constantLong RX1 11 (60)]
def wsX6_copy : List Cond := .code yX6_copy cX6_copy 9 (some .int) :: ((wsX6_copy_r1 ++ (wsX6_copy_r2 ++ wsX6_copy_r3)) ++ wsX60 ++ wsX30)
def wsX6_reading_r1 : List Cond := [Cond.fieldLink RX6 19 "SixtyTablet" "search" "LSixtyTablet$Search;", Cond.methodLink RX6 145 yX6_clayOf, Cond.instanceMethod yX6_clayOf, Cond.selects RX6 yX6_clayOf yX6_clayOf, Cond.initialized RX6, Cond.code yX6_clayOf cX6_clayOf 2 (some (.object "SixtyTablet$Tablet")), Cond.fieldLink RX6 33 "SixtyTablet" "tablets" "[LSixtyTablet$Tablet;", Cond.methodLink RX6 178 yX0_begin, Cond.instanceMethod yX0_begin, Cond.selects RX0 yX0_begin yX0_begin, Cond.initialized RX0, Cond.code yX0_begin cX0_begin 5 none, Cond.fieldLink RX0 33 "SixtyTablet$Search" "kind" "I", Cond.fieldLink RX0 36 "SixtyTablet$Search" "n" "I", Cond.fieldLink RX0 39 "SixtyTablet$Search" "first" "I", Cond.fieldLink RX0 28 "SixtyTablet$Search" "rows" "I", Cond.fieldLink RX0 24 "SixtyTablet$Search" "heldCount" "I", Cond.fieldLink RX0 9 "SixtyTablet$Search" "heldRows" "[I", Cond.fieldLink RX0 15 "SixtyTablet$Search" "heldColumns" "[I", Cond.fieldLink RX0 18 "SixtyTablet$Search" "heldSixties" "[I", Cond.methodLink RX0 42 yX3_rowCount, Cond.instanceMethod yX3_rowCount, Cond.selects RX3 yX3_rowCount yX3_rowCount, Cond.initialized RX3]
def wsX6_reading_r2 : List Cond := [Cond.code yX3_rowCount cX3_rowCount 1 (some .int), Cond.fieldLink RX3 16 "SixtyTablet$Tablet" "rows" "I", Cond.methodLink RX0 46 yX3_held, Cond.instanceMethod yX3_held, Cond.selects RX3 yX3_held yX3_held, Cond.code yX3_held cX3_held 4 (some .int), Cond.fieldLink RX3 9 "SixtyTablet$Tablet" "cells" "[I", Cond.methodLink RX0 50 yX3_heldSixty, Cond.instanceMethod yX3_heldSixty, Cond.selects RX3 yX3_heldSixty yX3_heldSixty, Cond.code yX3_heldSixty cX3_heldSixty 4 (some .int), Cond.fieldLink RX3 13 "SixtyTablet$Tablet" "sixties" "[I", Cond.methodLink RX6 181 yX0_nextReading, Cond.instanceMethod yX0_nextReading, Cond.selects RX0 yX0_nextReading yX0_nextReading, Cond.code yX0_nextReading cX0_nextReading 2 (some .boolean), Cond.methodLink RX0 57 yX0_nextPlace, Cond.instanceMethod yX0_nextPlace, Cond.selects RX0 yX0_nextPlace yX0_nextPlace, Cond.code yX0_nextPlace cX0_nextPlace 1 (some .boolean), Cond.methodLink RX0 53 yX2_rowsOf, Cond.static yX2_rowsOf, Cond.initialized RX2, Cond.code yX2_rowsOf cX2_rowsOf 1 (some .int)]
def wsX6_reading_r3 : List Cond := [Cond.methodLink RX2 9 yX4_listRows, Cond.static yX4_listRows, Cond.initialized RX4, Cond.code yX4_listRows cX4_listRows 0 (some .int), Cond.fieldLink RX4 7 "SixtyTablet$Turning" "LIST" "[I", Cond.methodLink RX0 61 yX0_strayRow, Cond.instanceMethod yX0_strayRow, Cond.selects RX0 yX0_strayRow yX0_strayRow, Cond.code yX0_strayRow cX0_strayRow 4 (some .int), Cond.methodLink RX0 64 yX0_sixtyHere, Cond.instanceMethod yX0_sixtyHere, Cond.selects RX0 yX0_sixtyHere yX0_sixtyHere, Cond.code yX0_sixtyHere cX0_sixtyHere 3 (some .int), Cond.methodLink RX0 67 yX2_number, Cond.static yX2_number, Cond.code yX2_number cX2_number 5 (some .int), Cond.methodLink RX2 15 yX2_listColumn, Cond.static yX2_listColumn, Cond.code yX2_listColumn cX2_listColumn 3 (some .int), Cond.methodLink RX2 19 yX4_listed, Cond.static yX4_listed, Cond.code yX4_listed cX4_listed 1 (some .int), Cond.methodLink RX2 23 yX4_turnOver, Cond.static yX4_turnOver]
def wsX6_reading_r4 : List Cond := [Cond.code yX4_turnOver cX4_turnOver 8 (some .long), Cond.methodLink RX4 21 Lib.Math.max.name, Cond.static Lib.Math.max.name, Cond.initialized "java/lang/Math", Cond.code Lib.Math.max.name Lib.Math.max.code 2 (some .int), Cond.methodLink RX4 17 yX4_powerIn, Cond.static yX4_powerIn, Cond.code yX4_powerIn cX4_powerIn 7 (some .int), Cond.methodLink RX4 27 yX4_grown, Cond.static yX4_grown, Cond.code yX4_grown cX4_grown 7 (some .long), Cond.constantLong RX4 33 (167961600000000), Cond.methodLink RX4 35 Lib.MathLoose.min_long.x, Cond.static Lib.MathLoose.min_long.x, Cond.code Lib.MathLoose.min_long.x Lib.MathLoose.min_long.code 4 (some .long), Cond.methodLink RX0 71 yX1_strip, Cond.static yX1_strip, Cond.initialized RX1, Cond.code yX1_strip cX1_strip 5 (some .long), Cond.constantLong RX1 11 (60), Cond.methodLink RX6 185 yX0_code, Cond.instanceMethod yX0_code, Cond.selects RX0 yX0_code yX0_code, Cond.code yX0_code cX0_code 1 (some .int)]
def wsX6_reading : List Cond := .code yX6_reading cX6_reading 6 (some .int) :: ((wsX6_reading_r1 ++ (wsX6_reading_r2 ++ (wsX6_reading_r3 ++ wsX6_reading_r4))) ++ wsX60 ++ wsX00 ++ wsX30)
def wsX6_sure_r1 : List Cond := [Cond.fieldLink RX6 19 "SixtyTablet" "search" "LSixtyTablet$Search;", Cond.methodLink RX6 145 yX6_clayOf, Cond.instanceMethod yX6_clayOf, Cond.selects RX6 yX6_clayOf yX6_clayOf, Cond.initialized RX6, Cond.code yX6_clayOf cX6_clayOf 2 (some (.object "SixtyTablet$Tablet")), Cond.fieldLink RX6 33 "SixtyTablet" "tablets" "[LSixtyTablet$Tablet;", Cond.methodLink RX6 153 yX3_hasCell, Cond.instanceMethod yX3_hasCell, Cond.selects RX3 yX3_hasCell yX3_hasCell, Cond.initialized RX3, Cond.code yX3_hasCell cX3_hasCell 3 (some .boolean), Cond.fieldLink RX3 16 "SixtyTablet$Tablet" "rows" "I", Cond.methodLink RX6 188 yX0_gatherSure, Cond.instanceMethod yX0_gatherSure, Cond.selects RX0 yX0_gatherSure yX0_gatherSure, Cond.initialized RX0, Cond.code yX0_gatherSure cX0_gatherSure 4 none, Cond.fieldLink RX0 21 "SixtyTablet$Search" "certain" "[I", Cond.methodLink RX0 77 yX0_begin, Cond.instanceMethod yX0_begin, Cond.selects RX0 yX0_begin yX0_begin, Cond.code yX0_begin cX0_begin 5 none, Cond.fieldLink RX0 33 "SixtyTablet$Search" "kind" "I"]
def wsX6_sure_r2 : List Cond := [Cond.fieldLink RX0 36 "SixtyTablet$Search" "n" "I", Cond.fieldLink RX0 39 "SixtyTablet$Search" "first" "I", Cond.fieldLink RX0 28 "SixtyTablet$Search" "rows" "I", Cond.fieldLink RX0 24 "SixtyTablet$Search" "heldCount" "I", Cond.fieldLink RX0 9 "SixtyTablet$Search" "heldRows" "[I", Cond.fieldLink RX0 15 "SixtyTablet$Search" "heldColumns" "[I", Cond.fieldLink RX0 18 "SixtyTablet$Search" "heldSixties" "[I", Cond.methodLink RX0 42 yX3_rowCount, Cond.instanceMethod yX3_rowCount, Cond.selects RX3 yX3_rowCount yX3_rowCount, Cond.code yX3_rowCount cX3_rowCount 1 (some .int), Cond.methodLink RX0 46 yX3_held, Cond.instanceMethod yX3_held, Cond.selects RX3 yX3_held yX3_held, Cond.code yX3_held cX3_held 4 (some .int), Cond.fieldLink RX3 9 "SixtyTablet$Tablet" "cells" "[I", Cond.methodLink RX0 50 yX3_heldSixty, Cond.instanceMethod yX3_heldSixty, Cond.selects RX3 yX3_heldSixty yX3_heldSixty, Cond.code yX3_heldSixty cX3_heldSixty 4 (some .int), Cond.fieldLink RX3 13 "SixtyTablet$Tablet" "sixties" "[I", Cond.methodLink RX0 81 yX0_nextReading, Cond.instanceMethod yX0_nextReading, Cond.selects RX0 yX0_nextReading yX0_nextReading]
def wsX6_sure_r3 : List Cond := [Cond.code yX0_nextReading cX0_nextReading 2 (some .boolean), Cond.methodLink RX0 57 yX0_nextPlace, Cond.instanceMethod yX0_nextPlace, Cond.selects RX0 yX0_nextPlace yX0_nextPlace, Cond.code yX0_nextPlace cX0_nextPlace 1 (some .boolean), Cond.methodLink RX0 53 yX2_rowsOf, Cond.static yX2_rowsOf, Cond.initialized RX2, Cond.code yX2_rowsOf cX2_rowsOf 1 (some .int), Cond.methodLink RX2 9 yX4_listRows, Cond.static yX4_listRows, Cond.initialized RX4, Cond.code yX4_listRows cX4_listRows 0 (some .int), Cond.fieldLink RX4 7 "SixtyTablet$Turning" "LIST" "[I", Cond.methodLink RX0 61 yX0_strayRow, Cond.instanceMethod yX0_strayRow, Cond.selects RX0 yX0_strayRow yX0_strayRow, Cond.code yX0_strayRow cX0_strayRow 4 (some .int), Cond.methodLink RX0 64 yX0_sixtyHere, Cond.instanceMethod yX0_sixtyHere, Cond.selects RX0 yX0_sixtyHere yX0_sixtyHere, Cond.code yX0_sixtyHere cX0_sixtyHere 3 (some .int), Cond.methodLink RX0 67 yX2_number, Cond.static yX2_number]
def wsX6_sure_r4 : List Cond := [Cond.code yX2_number cX2_number 5 (some .int), Cond.methodLink RX2 15 yX2_listColumn, Cond.static yX2_listColumn, Cond.code yX2_listColumn cX2_listColumn 3 (some .int), Cond.methodLink RX2 19 yX4_listed, Cond.static yX4_listed, Cond.code yX4_listed cX4_listed 1 (some .int), Cond.methodLink RX2 23 yX4_turnOver, Cond.static yX4_turnOver, Cond.code yX4_turnOver cX4_turnOver 8 (some .long), Cond.methodLink RX4 21 Lib.Math.max.name, Cond.static Lib.Math.max.name, Cond.initialized "java/lang/Math", Cond.code Lib.Math.max.name Lib.Math.max.code 2 (some .int), Cond.methodLink RX4 17 yX4_powerIn, Cond.static yX4_powerIn, Cond.code yX4_powerIn cX4_powerIn 7 (some .int), Cond.methodLink RX4 27 yX4_grown, Cond.static yX4_grown, Cond.code yX4_grown cX4_grown 7 (some .long), Cond.constantLong RX4 33 (167961600000000), Cond.methodLink RX4 35 Lib.MathLoose.min_long.x, Cond.static Lib.MathLoose.min_long.x, Cond.code Lib.MathLoose.min_long.x Lib.MathLoose.min_long.code 4 (some .long)]
def wsX6_sure_r5 : List Cond := [Cond.methodLink RX0 71 yX1_strip, Cond.static yX1_strip, Cond.initialized RX1, Cond.code yX1_strip cX1_strip 5 (some .long), Cond.constantLong RX1 11 (60), Cond.methodLink RX0 84 yX0_takeAll, Cond.instanceMethod yX0_takeAll, Cond.selects RX0 yX0_takeAll yX0_takeAll, Cond.code yX0_takeAll cX0_takeAll 2 none, Cond.methodLink RX0 87 yX0_keepAgreed, Cond.instanceMethod yX0_keepAgreed, Cond.selects RX0 yX0_keepAgreed yX0_keepAgreed, Cond.code yX0_keepAgreed cX0_keepAgreed 3 (some .boolean), Cond.methodLink RX6 191 yX0_sureIn, Cond.instanceMethod yX0_sureIn, Cond.selects RX0 yX0_sureIn yX0_sureIn, Cond.code yX0_sureIn cX0_sureIn 4 (some .int)]
def wsX6_sure : List Cond := .code yX6_sure cX6_sure 5 (some .int) :: ((wsX6_sure_r1 ++ (wsX6_sure_r2 ++ (wsX6_sure_r3 ++ (wsX6_sure_r4 ++ wsX6_sure_r5)))) ++ wsX60 ++ wsX30 ++ wsX00)
def wsX6_fill_r1 : List Cond := [Cond.fieldLink RX6 19 "SixtyTablet" "search" "LSixtyTablet$Search;", Cond.methodLink RX6 145 yX6_clayOf, Cond.instanceMethod yX6_clayOf, Cond.selects RX6 yX6_clayOf yX6_clayOf, Cond.initialized RX6, Cond.code yX6_clayOf cX6_clayOf 2 (some (.object "SixtyTablet$Tablet")), Cond.fieldLink RX6 33 "SixtyTablet" "tablets" "[LSixtyTablet$Tablet;", Cond.methodLink RX6 188 yX0_gatherSure, Cond.instanceMethod yX0_gatherSure, Cond.selects RX0 yX0_gatherSure yX0_gatherSure, Cond.initialized RX0, Cond.code yX0_gatherSure cX0_gatherSure 4 none, Cond.fieldLink RX0 21 "SixtyTablet$Search" "certain" "[I", Cond.methodLink RX0 77 yX0_begin, Cond.instanceMethod yX0_begin, Cond.selects RX0 yX0_begin yX0_begin, Cond.code yX0_begin cX0_begin 5 none, Cond.fieldLink RX0 33 "SixtyTablet$Search" "kind" "I", Cond.fieldLink RX0 36 "SixtyTablet$Search" "n" "I", Cond.fieldLink RX0 39 "SixtyTablet$Search" "first" "I", Cond.fieldLink RX0 28 "SixtyTablet$Search" "rows" "I", Cond.fieldLink RX0 24 "SixtyTablet$Search" "heldCount" "I", Cond.fieldLink RX0 9 "SixtyTablet$Search" "heldRows" "[I", Cond.fieldLink RX0 15 "SixtyTablet$Search" "heldColumns" "[I"]
def wsX6_fill_r2 : List Cond := [Cond.fieldLink RX0 18 "SixtyTablet$Search" "heldSixties" "[I", Cond.methodLink RX0 42 yX3_rowCount, Cond.instanceMethod yX3_rowCount, Cond.selects RX3 yX3_rowCount yX3_rowCount, Cond.initialized RX3, Cond.code yX3_rowCount cX3_rowCount 1 (some .int), Cond.fieldLink RX3 16 "SixtyTablet$Tablet" "rows" "I", Cond.methodLink RX0 46 yX3_held, Cond.instanceMethod yX3_held, Cond.selects RX3 yX3_held yX3_held, Cond.code yX3_held cX3_held 4 (some .int), Cond.fieldLink RX3 9 "SixtyTablet$Tablet" "cells" "[I", Cond.methodLink RX0 50 yX3_heldSixty, Cond.instanceMethod yX3_heldSixty, Cond.selects RX3 yX3_heldSixty yX3_heldSixty, Cond.code yX3_heldSixty cX3_heldSixty 4 (some .int), Cond.fieldLink RX3 13 "SixtyTablet$Tablet" "sixties" "[I", Cond.methodLink RX0 81 yX0_nextReading, Cond.instanceMethod yX0_nextReading, Cond.selects RX0 yX0_nextReading yX0_nextReading, Cond.code yX0_nextReading cX0_nextReading 2 (some .boolean), Cond.methodLink RX0 57 yX0_nextPlace, Cond.instanceMethod yX0_nextPlace, Cond.selects RX0 yX0_nextPlace yX0_nextPlace]
def wsX6_fill_r3 : List Cond := [Cond.code yX0_nextPlace cX0_nextPlace 1 (some .boolean), Cond.methodLink RX0 53 yX2_rowsOf, Cond.static yX2_rowsOf, Cond.initialized RX2, Cond.code yX2_rowsOf cX2_rowsOf 1 (some .int), Cond.methodLink RX2 9 yX4_listRows, Cond.static yX4_listRows, Cond.initialized RX4, Cond.code yX4_listRows cX4_listRows 0 (some .int), Cond.fieldLink RX4 7 "SixtyTablet$Turning" "LIST" "[I", Cond.methodLink RX0 61 yX0_strayRow, Cond.instanceMethod yX0_strayRow, Cond.selects RX0 yX0_strayRow yX0_strayRow, Cond.code yX0_strayRow cX0_strayRow 4 (some .int), Cond.methodLink RX0 64 yX0_sixtyHere, Cond.instanceMethod yX0_sixtyHere, Cond.selects RX0 yX0_sixtyHere yX0_sixtyHere, Cond.code yX0_sixtyHere cX0_sixtyHere 3 (some .int), Cond.methodLink RX0 67 yX2_number, Cond.static yX2_number, Cond.code yX2_number cX2_number 5 (some .int), Cond.methodLink RX2 15 yX2_listColumn, Cond.static yX2_listColumn, Cond.code yX2_listColumn cX2_listColumn 3 (some .int)]
def wsX6_fill_r4 : List Cond := [Cond.methodLink RX2 19 yX4_listed, Cond.static yX4_listed, Cond.code yX4_listed cX4_listed 1 (some .int), Cond.methodLink RX2 23 yX4_turnOver, Cond.static yX4_turnOver, Cond.code yX4_turnOver cX4_turnOver 8 (some .long), Cond.methodLink RX4 21 Lib.Math.max.name, Cond.static Lib.Math.max.name, Cond.initialized "java/lang/Math", Cond.code Lib.Math.max.name Lib.Math.max.code 2 (some .int), Cond.methodLink RX4 17 yX4_powerIn, Cond.static yX4_powerIn, Cond.code yX4_powerIn cX4_powerIn 7 (some .int), Cond.methodLink RX4 27 yX4_grown, Cond.static yX4_grown, Cond.code yX4_grown cX4_grown 7 (some .long), Cond.constantLong RX4 33 (167961600000000), Cond.methodLink RX4 35 Lib.MathLoose.min_long.x, Cond.static Lib.MathLoose.min_long.x, Cond.code Lib.MathLoose.min_long.x Lib.MathLoose.min_long.code 4 (some .long), Cond.methodLink RX0 71 yX1_strip, Cond.static yX1_strip, Cond.initialized RX1, Cond.code yX1_strip cX1_strip 5 (some .long)]
def wsX6_fill_r5 : List Cond := [Cond.constantLong RX1 11 (60), Cond.methodLink RX0 84 yX0_takeAll, Cond.instanceMethod yX0_takeAll, Cond.selects RX0 yX0_takeAll yX0_takeAll, Cond.code yX0_takeAll cX0_takeAll 2 none, Cond.methodLink RX0 87 yX0_keepAgreed, Cond.instanceMethod yX0_keepAgreed, Cond.selects RX0 yX0_keepAgreed yX0_keepAgreed, Cond.code yX0_keepAgreed cX0_keepAgreed 3 (some .boolean), Cond.methodLink RX6 194 yX3_rowCount, Cond.methodLink RX6 191 yX0_sureIn, Cond.instanceMethod yX0_sureIn, Cond.selects RX0 yX0_sureIn yX0_sureIn, Cond.code yX0_sureIn cX0_sureIn 4 (some .int), Cond.methodLink RX6 158 yX3_held, Cond.methodLink RX6 162 yX3_hold, Cond.instanceMethod yX3_hold, Cond.selects RX3 yX3_hold yX3_hold, Cond.code yX3_hold cX3_hold 5 none, Cond.methodLink RX3 20 yX1_strip]
def wsX6_fill : List Cond := .code yX6_fill cX6_fill 7 (some .int) :: ((wsX6_fill_r1 ++ (wsX6_fill_r2 ++ (wsX6_fill_r3 ++ (wsX6_fill_r4 ++ wsX6_fill_r5)))) ++ wsX60 ++ wsX00 ++ wsX30)
def wsX6_odd_r1 : List Cond := [Cond.fieldLink RX6 19 "SixtyTablet" "search" "LSixtyTablet$Search;", Cond.methodLink RX6 145 yX6_clayOf, Cond.instanceMethod yX6_clayOf, Cond.selects RX6 yX6_clayOf yX6_clayOf, Cond.initialized RX6, Cond.code yX6_clayOf cX6_clayOf 2 (some (.object "SixtyTablet$Tablet")), Cond.fieldLink RX6 33 "SixtyTablet" "tablets" "[LSixtyTablet$Tablet;", Cond.methodLink RX6 178 yX0_begin, Cond.instanceMethod yX0_begin, Cond.selects RX0 yX0_begin yX0_begin, Cond.initialized RX0, Cond.code yX0_begin cX0_begin 5 none, Cond.fieldLink RX0 33 "SixtyTablet$Search" "kind" "I", Cond.fieldLink RX0 36 "SixtyTablet$Search" "n" "I", Cond.fieldLink RX0 39 "SixtyTablet$Search" "first" "I", Cond.fieldLink RX0 28 "SixtyTablet$Search" "rows" "I", Cond.fieldLink RX0 24 "SixtyTablet$Search" "heldCount" "I", Cond.fieldLink RX0 9 "SixtyTablet$Search" "heldRows" "[I", Cond.fieldLink RX0 15 "SixtyTablet$Search" "heldColumns" "[I", Cond.fieldLink RX0 18 "SixtyTablet$Search" "heldSixties" "[I", Cond.methodLink RX0 42 yX3_rowCount, Cond.instanceMethod yX3_rowCount, Cond.selects RX3 yX3_rowCount yX3_rowCount, Cond.initialized RX3]
def wsX6_odd_r2 : List Cond := [Cond.code yX3_rowCount cX3_rowCount 1 (some .int), Cond.fieldLink RX3 16 "SixtyTablet$Tablet" "rows" "I", Cond.methodLink RX0 46 yX3_held, Cond.instanceMethod yX3_held, Cond.selects RX3 yX3_held yX3_held, Cond.code yX3_held cX3_held 4 (some .int), Cond.fieldLink RX3 9 "SixtyTablet$Tablet" "cells" "[I", Cond.methodLink RX0 50 yX3_heldSixty, Cond.instanceMethod yX3_heldSixty, Cond.selects RX3 yX3_heldSixty yX3_heldSixty, Cond.code yX3_heldSixty cX3_heldSixty 4 (some .int), Cond.fieldLink RX3 13 "SixtyTablet$Tablet" "sixties" "[I", Cond.methodLink RX6 197 yX0_nextPlace, Cond.instanceMethod yX0_nextPlace, Cond.selects RX0 yX0_nextPlace yX0_nextPlace, Cond.code yX0_nextPlace cX0_nextPlace 1 (some .boolean), Cond.methodLink RX0 53 yX2_rowsOf, Cond.static yX2_rowsOf, Cond.initialized RX2, Cond.code yX2_rowsOf cX2_rowsOf 1 (some .int), Cond.methodLink RX2 9 yX4_listRows, Cond.static yX4_listRows, Cond.initialized RX4, Cond.code yX4_listRows cX4_listRows 0 (some .int)]
def wsX6_odd_r3 : List Cond := [Cond.fieldLink RX4 7 "SixtyTablet$Turning" "LIST" "[I", Cond.methodLink RX6 200 yX0_strayRow, Cond.instanceMethod yX0_strayRow, Cond.selects RX0 yX0_strayRow yX0_strayRow, Cond.code yX0_strayRow cX0_strayRow 4 (some .int), Cond.methodLink RX0 64 yX0_sixtyHere, Cond.instanceMethod yX0_sixtyHere, Cond.selects RX0 yX0_sixtyHere yX0_sixtyHere, Cond.code yX0_sixtyHere cX0_sixtyHere 3 (some .int), Cond.methodLink RX0 67 yX2_number, Cond.static yX2_number, Cond.code yX2_number cX2_number 5 (some .int), Cond.methodLink RX2 15 yX2_listColumn, Cond.static yX2_listColumn, Cond.code yX2_listColumn cX2_listColumn 3 (some .int), Cond.methodLink RX2 19 yX4_listed, Cond.static yX4_listed, Cond.code yX4_listed cX4_listed 1 (some .int), Cond.methodLink RX2 23 yX4_turnOver, Cond.static yX4_turnOver, Cond.code yX4_turnOver cX4_turnOver 8 (some .long), Cond.methodLink RX4 21 Lib.Math.max.name, Cond.static Lib.Math.max.name, Cond.initialized "java/lang/Math"]
def wsX6_odd_r4 : List Cond := [Cond.code Lib.Math.max.name Lib.Math.max.code 2 (some .int), Cond.methodLink RX4 17 yX4_powerIn, Cond.static yX4_powerIn, Cond.code yX4_powerIn cX4_powerIn 7 (some .int), Cond.methodLink RX4 27 yX4_grown, Cond.static yX4_grown, Cond.code yX4_grown cX4_grown 7 (some .long), Cond.constantLong RX4 33 (167961600000000), Cond.methodLink RX4 35 Lib.MathLoose.min_long.x, Cond.static Lib.MathLoose.min_long.x, Cond.code Lib.MathLoose.min_long.x Lib.MathLoose.min_long.code 4 (some .long), Cond.methodLink RX0 71 yX1_strip, Cond.static yX1_strip, Cond.initialized RX1, Cond.code yX1_strip cX1_strip 5 (some .long), Cond.constantLong RX1 11 (60)]
def wsX6_odd : List Cond := .code yX6_odd cX6_odd 6 (some .int) :: ((wsX6_odd_r1 ++ (wsX6_odd_r2 ++ (wsX6_odd_r3 ++ wsX6_odd_r4))) ++ wsX60 ++ wsX00 ++ wsX30)
def wsX6_makesTriple : List Cond := .code yX6_makesTriple cX6_makesTriple 3 (some .boolean) :: ([])
def wsX6_mayBeTriple : List Cond := .code yX6_mayBeTriple cX6_mayBeTriple 6 (some .boolean) :: ([.methodLink RX6 240 Lib.Math.min.name, .static Lib.Math.min.name, .initialized "java/lang/Math", .code Lib.Math.min.name Lib.Math.min.code 2 (some .int), .methodLink RX6 249 Lib.Math.max.name, .static Lib.Math.max.name, .code Lib.Math.max.name Lib.Math.max.code 2 (some .int), .methodLink RX6 245 yX3_mayBe, .instanceMethod yX3_mayBe, .selects RX3 yX3_mayBe yX3_mayBe, .initialized RX3, .code yX3_mayBe cX3_mayBe 5 (some .boolean), .methodLink RX3 26 yX3_heldSixty, .instanceMethod yX3_heldSixty, .selects RX3 yX3_heldSixty yX3_heldSixty, .code yX3_heldSixty cX3_heldSixty 4 (some .int), .fieldLink RX3 13 "SixtyTablet$Tablet" "sixties" "[I", .methodLink RX3 20 yX1_strip, .static yX1_strip, .initialized RX1, .code yX1_strip cX1_strip 5 (some .long), .constantLong RX1 11 (60)] ++ wsX30)
def wsX6_triple_r1 : List Cond := [Cond.methodLink RX6 145 yX6_clayOf, Cond.instanceMethod yX6_clayOf, Cond.selects RX6 yX6_clayOf yX6_clayOf, Cond.initialized RX6, Cond.code yX6_clayOf cX6_clayOf 2 (some (.object "SixtyTablet$Tablet")), Cond.fieldLink RX6 33 "SixtyTablet" "tablets" "[LSixtyTablet$Tablet;", Cond.methodLink RX6 153 yX3_hasCell, Cond.instanceMethod yX3_hasCell, Cond.selects RX3 yX3_hasCell yX3_hasCell, Cond.initialized RX3, Cond.code yX3_hasCell cX3_hasCell 3 (some .boolean), Cond.fieldLink RX3 16 "SixtyTablet$Tablet" "rows" "I", Cond.methodLink RX6 203 yX6_makesTriple, Cond.static yX6_makesTriple, Cond.code yX6_makesTriple cX6_makesTriple 3 (some .boolean), Cond.methodLink RX6 206 yX6_mayBeTriple, Cond.static yX6_mayBeTriple, Cond.code yX6_mayBeTriple cX6_mayBeTriple 6 (some .boolean), Cond.methodLink RX6 240 Lib.Math.min.name, Cond.static Lib.Math.min.name, Cond.initialized "java/lang/Math", Cond.code Lib.Math.min.name Lib.Math.min.code 2 (some .int), Cond.methodLink RX6 249 Lib.Math.max.name, Cond.static Lib.Math.max.name]
def wsX6_triple_r2 : List Cond := [Cond.code Lib.Math.max.name Lib.Math.max.code 2 (some .int), Cond.methodLink RX6 245 yX3_mayBe, Cond.instanceMethod yX3_mayBe, Cond.selects RX3 yX3_mayBe yX3_mayBe, Cond.code yX3_mayBe cX3_mayBe 5 (some .boolean), Cond.methodLink RX3 26 yX3_heldSixty, Cond.instanceMethod yX3_heldSixty, Cond.selects RX3 yX3_heldSixty yX3_heldSixty, Cond.code yX3_heldSixty cX3_heldSixty 4 (some .int), Cond.fieldLink RX3 13 "SixtyTablet$Tablet" "sixties" "[I", Cond.methodLink RX3 20 yX1_strip, Cond.static yX1_strip, Cond.initialized RX1, Cond.code yX1_strip cX1_strip 5 (some .long), Cond.constantLong RX1 11 (60)]
def wsX6_triple : List Cond := .code yX6_triple cX6_triple 8 (some .int) :: ((wsX6_triple_r1 ++ wsX6_triple_r2) ++ wsX60 ++ wsX30)
def wsX6_join_r1 : List Cond := [Cond.methodLink RX6 145 yX6_clayOf, Cond.instanceMethod yX6_clayOf, Cond.selects RX6 yX6_clayOf yX6_clayOf, Cond.initialized RX6, Cond.code yX6_clayOf cX6_clayOf 2 (some (.object "SixtyTablet$Tablet")), Cond.fieldLink RX6 33 "SixtyTablet" "tablets" "[LSixtyTablet$Tablet;", Cond.methodLink RX6 194 yX3_rowCount, Cond.instanceMethod yX3_rowCount, Cond.selects RX3 yX3_rowCount yX3_rowCount, Cond.initialized RX3, Cond.code yX3_rowCount cX3_rowCount 1 (some .int), Cond.fieldLink RX3 16 "SixtyTablet$Tablet" "rows" "I", Cond.methodLink RX6 210 yX3_fits, Cond.instanceMethod yX3_fits, Cond.selects RX3 yX3_fits yX3_fits, Cond.code yX3_fits cX3_fits 7 (some .boolean), Cond.methodLink RX3 26 yX3_heldSixty, Cond.instanceMethod yX3_heldSixty, Cond.selects RX3 yX3_heldSixty yX3_heldSixty, Cond.code yX3_heldSixty cX3_heldSixty 4 (some .int), Cond.fieldLink RX3 13 "SixtyTablet$Tablet" "sixties" "[I", Cond.methodLink RX6 214 yX3_take, Cond.instanceMethod yX3_take, Cond.selects RX3 yX3_take yX3_take]
def wsX6_join_r2 : List Cond := [Cond.code yX3_take cX3_take 5 none, Cond.methodLink RX3 30 Lib.Math.max.name, Cond.static Lib.Math.max.name, Cond.initialized "java/lang/Math", Cond.code Lib.Math.max.name Lib.Math.max.code 2 (some .int), Cond.methodLink RX3 35 Lib.Math.min.name, Cond.static Lib.Math.min.name, Cond.code Lib.Math.min.name Lib.Math.min.code 2 (some .int), Cond.methodLink RX3 38 yX3_held, Cond.instanceMethod yX3_held, Cond.selects RX3 yX3_held yX3_held, Cond.code yX3_held cX3_held 4 (some .int), Cond.fieldLink RX3 9 "SixtyTablet$Tablet" "cells" "[I", Cond.methodLink RX3 41 yX3_hold, Cond.instanceMethod yX3_hold, Cond.selects RX3 yX3_hold yX3_hold, Cond.code yX3_hold cX3_hold 5 none, Cond.methodLink RX3 20 yX1_strip, Cond.static yX1_strip, Cond.initialized RX1, Cond.code yX1_strip cX1_strip 5 (some .long), Cond.constantLong RX1 11 (60)]
def wsX6_join : List Cond := .code yX6_join cX6_join 6 (some .int) :: ((wsX6_join_r1 ++ wsX6_join_r2) ++ wsX60 ++ wsX30)
def wsX6_isInProblem : List Cond := .code yX6_isInProblem cX6_isInProblem 1 (some .boolean) :: ([.constant RX6 252 (1000000)])
def wsX6_share_r1 : List Cond := [Cond.constantLong RX6 76 (167961600000000), Cond.constantLong RX6 255 (167961599999999), Cond.methodLink RX6 80 yX4_isEven, Cond.static yX4_isEven, Cond.initialized RX4, Cond.code yX4_isEven cX4_isEven 2 (some .boolean), Cond.methodLink RX4 13 yX4_without, Cond.static yX4_without, Cond.code yX4_without cX4_without 6 (some .long), Cond.methodLink RX6 87 yX4_turnOver, Cond.static yX4_turnOver, Cond.code yX4_turnOver cX4_turnOver 8 (some .long), Cond.methodLink RX4 21 Lib.Math.max.name, Cond.static Lib.Math.max.name, Cond.initialized "java/lang/Math", Cond.code Lib.Math.max.name Lib.Math.max.code 2 (some .int), Cond.methodLink RX4 17 yX4_powerIn, Cond.static yX4_powerIn, Cond.code yX4_powerIn cX4_powerIn 7 (some .int), Cond.methodLink RX4 27 yX4_grown, Cond.static yX4_grown, Cond.code yX4_grown cX4_grown 7 (some .long), Cond.constantLong RX4 33 (167961600000000), Cond.methodLink RX4 35 Lib.MathLoose.min_long.x]
def wsX6_share_r2 : List Cond := [Cond.static Lib.MathLoose.min_long.x, Cond.code Lib.MathLoose.min_long.x Lib.MathLoose.min_long.code 4 (some .long), Cond.methodLink RX6 44 yX1_strip, Cond.static yX1_strip, Cond.initialized RX1, Cond.code yX1_strip cX1_strip 5 (some .long), Cond.constantLong RX1 11 (60)]
def wsX6_share : List Cond := .code yX6_share cX6_share 8 (some .long) :: ((wsX6_share_r1 ++ wsX6_share_r2))
def wsX6_onlyAnswer : List Cond := .code yX6_onlyAnswer cX6_onlyAnswer 3 (some .long) :: ([.constantLong RX6 85 (-1000000000000000005)])
def wsX6_wholeRoot : List Cond := .code yX6_wholeRoot cX6_wholeRoot 4 (some .long) :: ([.constantLong RX6 140 (-1), .methodLink RX6 102 yX1_floorRoot, .static yX1_floorRoot, .initialized RX1, .code yX1_floorRoot cX1_floorRoot 9 (some .long), .constantLong RX1 19 (777600000), .constantLong RX1 21 (2)])
def wsX6_sideOf : List Cond := .code yX6_sideOf cX6_sideOf 5 (some .long) :: ([.constantLong RX6 253 (2), .constantLong RX6 85 (-1000000000000000005)])
def wsX6_problem_r1 : List Cond := [Cond.constantLong RX6 48 (-1000000000000000002), Cond.constantLong RX6 231 (4), Cond.methodLink RX6 218 yX6_isInProblem, Cond.static yX6_isInProblem, Cond.initialized RX6, Cond.code yX6_isInProblem cX6_isInProblem 1 (some .boolean), Cond.constant RX6 252 (1000000), Cond.methodLink RX6 221 yX6_share, Cond.static yX6_share, Cond.code yX6_share cX6_share 8 (some .long), Cond.constantLong RX6 76 (167961600000000), Cond.constantLong RX6 255 (167961599999999), Cond.methodLink RX6 80 yX4_isEven, Cond.static yX4_isEven, Cond.initialized RX4, Cond.code yX4_isEven cX4_isEven 2 (some .boolean), Cond.methodLink RX4 13 yX4_without, Cond.static yX4_without, Cond.code yX4_without cX4_without 6 (some .long), Cond.methodLink RX6 87 yX4_turnOver, Cond.static yX4_turnOver, Cond.code yX4_turnOver cX4_turnOver 8 (some .long), Cond.methodLink RX4 21 Lib.Math.max.name, Cond.static Lib.Math.max.name]
def wsX6_problem_r2 : List Cond := [Cond.initialized "java/lang/Math", Cond.code Lib.Math.max.name Lib.Math.max.code 2 (some .int), Cond.methodLink RX4 17 yX4_powerIn, Cond.static yX4_powerIn, Cond.code yX4_powerIn cX4_powerIn 7 (some .int), Cond.methodLink RX4 27 yX4_grown, Cond.static yX4_grown, Cond.code yX4_grown cX4_grown 7 (some .long), Cond.constantLong RX4 33 (167961600000000), Cond.methodLink RX4 35 Lib.MathLoose.min_long.x, Cond.static Lib.MathLoose.min_long.x, Cond.code Lib.MathLoose.min_long.x Lib.MathLoose.min_long.code 4 (some .long), Cond.methodLink RX6 44 yX1_strip, Cond.static yX1_strip, Cond.initialized RX1, Cond.code yX1_strip cX1_strip 5 (some .long), Cond.constantLong RX1 11 (60), Cond.methodLink RX6 225 yX6_onlyAnswer, Cond.static yX6_onlyAnswer, Cond.code yX6_onlyAnswer cX6_onlyAnswer 3 (some .long), Cond.constantLong RX6 85 (-1000000000000000005), Cond.methodLink RX6 228 yX6_wholeRoot, Cond.static yX6_wholeRoot, Cond.code yX6_wholeRoot cX6_wholeRoot 4 (some .long)]
def wsX6_problem_r3 : List Cond := [Cond.constantLong RX6 140 (-1), Cond.methodLink RX6 102 yX1_floorRoot, Cond.static yX1_floorRoot, Cond.code yX1_floorRoot cX1_floorRoot 9 (some .long), Cond.constantLong RX1 19 (777600000), Cond.constantLong RX1 21 (2), Cond.methodLink RX6 233 yX6_sideOf, Cond.static yX6_sideOf, Cond.code yX6_sideOf cX6_sideOf 5 (some .long), Cond.constantLong RX6 253 (2)]
def wsX6_problem : List Cond := .code yX6_problem cX6_problem 5 (some .long) :: ((wsX6_problem_r1 ++ (wsX6_problem_r2 ++ wsX6_problem_r3)))
def wsX6_unit : List Cond := .code yX6_unit cX6_unit 2 (some .int) :: ([.fieldLink RX6 27 "SixtyTablet" "stepCount" "I", .fieldLink RX6 23 "SixtyTablet" "steps" "[I"] ++ wsX60)
def wsX6_wipe : List Cond := .code yX6_wipe cX6_wipe 2 (some .int) :: ([.fieldLink RX6 27 "SixtyTablet" "stepCount" "I"] ++ wsX60)
def wsX6_units : List Cond := .code yX6_units cX6_units 7 (some .long) :: ([.fieldLink RX6 27 "SixtyTablet" "stepCount" "I", .constantLong RX6 134 (-1000000000000000001), .constantLong RX6 76 (167961600000000), .constantLong RX6 48 (-1000000000000000002), .fieldLink RX6 23 "SixtyTablet" "steps" "[I"] ++ wsX60)
def wsX6_told_r1 : List Cond := [Cond.fieldLink RX6 10 "SixtyTablet" "working" "LSixtyTablet$Working;", Cond.fieldLink RX6 27 "SixtyTablet" "stepCount" "I", Cond.methodLink RX6 111 yX5_lineCount, Cond.instanceMethod yX5_lineCount, Cond.selects RX5 yX5_lineCount yX5_lineCount, Cond.initialized RX5, Cond.code yX5_lineCount cX5_lineCount 1 (some .int), Cond.fieldLink RX5 19 "SixtyTablet$Working" "lines" "I", Cond.methodLink RX6 145 yX6_clayOf, Cond.instanceMethod yX6_clayOf, Cond.selects RX6 yX6_clayOf yX6_clayOf, Cond.initialized RX6, Cond.code yX6_clayOf cX6_clayOf 2 (some (.object "SixtyTablet$Tablet")), Cond.fieldLink RX6 33 "SixtyTablet" "tablets" "[LSixtyTablet$Tablet;", Cond.methodLink RX6 194 yX3_rowCount, Cond.instanceMethod yX3_rowCount, Cond.selects RX3 yX3_rowCount yX3_rowCount, Cond.initialized RX3, Cond.code yX3_rowCount cX3_rowCount 1 (some .int), Cond.fieldLink RX3 16 "SixtyTablet$Tablet" "rows" "I", Cond.methodLink RX6 237 yX3_brokenCells, Cond.instanceMethod yX3_brokenCells, Cond.selects RX3 yX3_brokenCells yX3_brokenCells, Cond.code yX3_brokenCells cX3_brokenCells 3 (some .int)]
def wsX6_told_r2 : List Cond := [Cond.fieldLink RX3 9 "SixtyTablet$Tablet" "cells" "[I"]
def wsX6_told : List Cond := .code yX6_told cX6_told 3 (some .int) :: ((wsX6_told_r1 ++ wsX6_told_r2) ++ wsX60 ++ wsX50 ++ wsX30)
def wsX7_init : List Cond := .code yX7_init cX7_init 2 none :: ([.methodLink RX7 1 objectInit, .instanceMethod objectInit, .code objectInit ⟨#[0xb1]⟩ 1 none, .arrayClass .int, .fieldLink RX7 7 "SixtyTabletModel" "product" "[I", .fieldLink RX7 13 "SixtyTabletModel" "place" "[I", .fieldLink RX7 16 "SixtyTabletModel" "ofX" "[I", .fieldLink RX7 19 "SixtyTabletModel" "ofY" "[I", .fieldLink RX7 22 "SixtyTabletModel" "step" "[I", .fieldLink RX7 25 "SixtyTabletModel" "rows" "[I", .fieldLink RX7 28 "SixtyTabletModel" "cell" "[I", .fieldLink RX7 31 "SixtyTabletModel" "overs" "[I", .fieldLink RX7 34 "SixtyTabletModel" "sure" "[I"] ++ wsX70)
def wsX7_in : List Cond := .code yX7_in cX7_in 6 (some .boolean) :: ([])
def wsX7_isGiven : List Cond := .code yX7_isGiven cX7_isGiven 2 (some .boolean) :: ([.constantLong RX7 37 (167961599999999), .methodLink RX7 39 yX7_in, .static yX7_in, .initialized RX7, .code yX7_in cX7_in 6 (some .boolean)])
def wsX7_power : List Cond := .code yX7_power cX7_power 4 (some .long) :: ([.constantLong RX7 43 (60)])
def wsX7_sixtyOf : List Cond := .code yX7_sixtyOf cX7_sixtyOf 4 (some .long) :: ([.constantLong RX7 43 (60)])
def wsX7_digits : List Cond := .code yX7_digits cX7_digits 5 (some .int) :: ([.constantLong RX7 43 (60)])
def wsX7_digitAt : List Cond := .code yX7_digitAt cX7_digitAt 3 (some .int) :: ([.constantLong RX7 43 (60), .methodLink RX7 45 yX7_power, .static yX7_power, .initialized RX7, .code yX7_power cX7_power 4 (some .long)])
def wsX7_sixty : List Cond := .code yX7_sixty cX7_sixty 3 (some .long) :: ([.constantLong RX7 57 (-1000000000000000002), .methodLink RX7 49 yX7_isGiven, .static yX7_isGiven, .initialized RX7, .code yX7_isGiven cX7_isGiven 2 (some .boolean), .constantLong RX7 37 (167961599999999), .methodLink RX7 39 yX7_in, .static yX7_in, .code yX7_in cX7_in 6 (some .boolean), .methodLink RX7 53 yX7_sixtyOf, .static yX7_sixtyOf, .code yX7_sixtyOf cX7_sixtyOf 4 (some .long), .constantLong RX7 43 (60)])
def wsX7_digit : List Cond := .code yX7_digit cX7_digit 7 (some .int) :: ([.methodLink RX7 49 yX7_isGiven, .static yX7_isGiven, .initialized RX7, .code yX7_isGiven cX7_isGiven 2 (some .boolean), .constantLong RX7 37 (167961599999999), .methodLink RX7 39 yX7_in, .static yX7_in, .code yX7_in cX7_in 6 (some .boolean), .methodLink RX7 53 yX7_sixtyOf, .static yX7_sixtyOf, .code yX7_sixtyOf cX7_sixtyOf 4 (some .long), .constantLong RX7 43 (60), .methodLink RX7 59 yX7_digits, .static yX7_digits, .code yX7_digits cX7_digits 5 (some .int), .methodLink RX7 63 yX7_digitAt, .static yX7_digitAt, .code yX7_digitAt cX7_digitAt 3 (some .int), .methodLink RX7 45 yX7_power, .static yX7_power, .code yX7_power cX7_power 4 (some .long)])
def wsX7_sightOf : List Cond := .code yX7_sightOf cX7_sightOf 5 (some .int) :: ([.methodLink RX7 59 yX7_digits, .static yX7_digits, .initialized RX7, .code yX7_digits cX7_digits 5 (some .int), .constantLong RX7 43 (60), .methodLink RX7 63 yX7_digitAt, .static yX7_digitAt, .code yX7_digitAt cX7_digitAt 3 (some .int), .methodLink RX7 45 yX7_power, .static yX7_power, .code yX7_power cX7_power 4 (some .long)])
def wsX7_sight : List Cond := .code yX7_sight cX7_sight 4 (some .int) :: ([.methodLink RX7 49 yX7_isGiven, .static yX7_isGiven, .initialized RX7, .code yX7_isGiven cX7_isGiven 2 (some .boolean), .constantLong RX7 37 (167961599999999), .methodLink RX7 39 yX7_in, .static yX7_in, .code yX7_in cX7_in 6 (some .boolean), .methodLink RX7 67 yX7_sightOf, .static yX7_sightOf, .code yX7_sightOf cX7_sightOf 5 (some .int), .methodLink RX7 59 yX7_digits, .static yX7_digits, .code yX7_digits cX7_digits 5 (some .int), .constantLong RX7 43 (60), .methodLink RX7 63 yX7_digitAt, .static yX7_digitAt, .code yX7_digitAt cX7_digitAt 3 (some .int), .methodLink RX7 45 yX7_power, .static yX7_power, .code yX7_power cX7_power 4 (some .long)])
def wsX7_likeBy : List Cond := .code yX7_likeBy cX7_likeBy 8 (some .long) :: ([.constantLong RX7 70 (-1), .methodLink RX7 67 yX7_sightOf, .static yX7_sightOf, .initialized RX7, .code yX7_sightOf cX7_sightOf 5 (some .int), .methodLink RX7 59 yX7_digits, .static yX7_digits, .code yX7_digits cX7_digits 5 (some .int), .constantLong RX7 43 (60), .methodLink RX7 63 yX7_digitAt, .static yX7_digitAt, .code yX7_digitAt cX7_digitAt 3 (some .int), .methodLink RX7 45 yX7_power, .static yX7_power, .code yX7_power cX7_power 4 (some .long)])
def wsX7_like_r1 : List Cond := [Cond.constantLong RX7 72 (8), Cond.constantLong RX7 57 (-1000000000000000002), Cond.constantLong RX7 78 (-1000000000000000006), Cond.methodLink RX7 49 yX7_isGiven, Cond.static yX7_isGiven, Cond.initialized RX7, Cond.code yX7_isGiven cX7_isGiven 2 (some .boolean), Cond.constantLong RX7 37 (167961599999999), Cond.methodLink RX7 39 yX7_in, Cond.static yX7_in, Cond.code yX7_in cX7_in 6 (some .boolean), Cond.methodLink RX7 74 yX7_likeBy, Cond.static yX7_likeBy, Cond.code yX7_likeBy cX7_likeBy 8 (some .long), Cond.constantLong RX7 70 (-1), Cond.methodLink RX7 67 yX7_sightOf, Cond.static yX7_sightOf, Cond.code yX7_sightOf cX7_sightOf 5 (some .int), Cond.methodLink RX7 59 yX7_digits, Cond.static yX7_digits, Cond.code yX7_digits cX7_digits 5 (some .int), Cond.constantLong RX7 43 (60), Cond.methodLink RX7 63 yX7_digitAt, Cond.static yX7_digitAt]
def wsX7_like_r2 : List Cond := [Cond.code yX7_digitAt cX7_digitAt 3 (some .int), Cond.methodLink RX7 45 yX7_power, Cond.static yX7_power, Cond.code yX7_power cX7_power 4 (some .long)]
def wsX7_like : List Cond := .code yX7_like cX7_like 9 (some .long) :: ((wsX7_like_r1 ++ wsX7_like_r2))
def wsX7_put : List Cond := .code yX7_put cX7_put 12 (some .long) :: ([.constantLong RX7 80 (-7), .constantLong RX7 82 (7), .constantLong RX7 57 (-1000000000000000002), .constantLong RX7 84 (167961600000000), .constantLong RX7 86 (-1000000000000000004), .methodLink RX7 49 yX7_isGiven, .static yX7_isGiven, .initialized RX7, .code yX7_isGiven cX7_isGiven 2 (some .boolean), .constantLong RX7 37 (167961599999999), .methodLink RX7 39 yX7_in, .static yX7_in, .code yX7_in cX7_in 6 (some .boolean), .methodLink RX7 45 yX7_power, .static yX7_power, .code yX7_power cX7_power 4 (some .long), .constantLong RX7 43 (60), .methodLink RX7 53 yX7_sixtyOf, .static yX7_sixtyOf, .code yX7_sixtyOf cX7_sixtyOf 4 (some .long)])
def wsX7_times : List Cond := .code yX7_times cX7_times 6 (some .int) :: ([])
def wsX7_isEven : List Cond := .code yX7_isEven cX7_isEven 5 (some .boolean) :: ([])
def wsX7_even : List Cond := .code yX7_even cX7_even 3 (some .int) :: ([.methodLink RX7 49 yX7_isGiven, .static yX7_isGiven, .initialized RX7, .code yX7_isGiven cX7_isGiven 2 (some .boolean), .constantLong RX7 37 (167961599999999), .methodLink RX7 39 yX7_in, .static yX7_in, .code yX7_in cX7_in 6 (some .boolean), .methodLink RX7 88 yX7_isEven, .static yX7_isEven, .code yX7_isEven cX7_isEven 5 (some .boolean)])
def wsX7_turnedOf : List Cond := .code yX7_turnedOf cX7_turnedOf 13 (some .long) :: ([.constantLong RX7 84 (167961600000000), .constantLong RX7 70 (-1), .methodLink RX7 53 yX7_sixtyOf, .static yX7_sixtyOf, .initialized RX7, .code yX7_sixtyOf cX7_sixtyOf 4 (some .long), .constantLong RX7 43 (60), .methodLink RX7 91 yX7_times, .static yX7_times, .code yX7_times cX7_times 6 (some .int)])
def wsX7_turned_r1 : List Cond := [Cond.constantLong RX7 57 (-1000000000000000002), Cond.constantLong RX7 94 (-1000000000000000005), Cond.constantLong RX7 86 (-1000000000000000004), Cond.methodLink RX7 49 yX7_isGiven, Cond.static yX7_isGiven, Cond.initialized RX7, Cond.code yX7_isGiven cX7_isGiven 2 (some .boolean), Cond.constantLong RX7 37 (167961599999999), Cond.methodLink RX7 39 yX7_in, Cond.static yX7_in, Cond.code yX7_in cX7_in 6 (some .boolean), Cond.methodLink RX7 88 yX7_isEven, Cond.static yX7_isEven, Cond.code yX7_isEven cX7_isEven 5 (some .boolean), Cond.methodLink RX7 96 yX7_turnedOf, Cond.static yX7_turnedOf, Cond.code yX7_turnedOf cX7_turnedOf 13 (some .long), Cond.constantLong RX7 84 (167961600000000), Cond.constantLong RX7 70 (-1), Cond.methodLink RX7 53 yX7_sixtyOf, Cond.static yX7_sixtyOf, Cond.code yX7_sixtyOf cX7_sixtyOf 4 (some .long), Cond.constantLong RX7 43 (60), Cond.methodLink RX7 91 yX7_times]
def wsX7_turned_r2 : List Cond := [Cond.static yX7_times, Cond.code yX7_times cX7_times 6 (some .int)]
def wsX7_turned : List Cond := .code yX7_turned cX7_turned 5 (some .long) :: ((wsX7_turned_r1 ++ wsX7_turned_r2))
def wsX7_isListed : List Cond := .code yX7_isListed cX7_isListed 2 (some .boolean) :: ([.constantLong RX7 99 (2), .constantLong RX7 101 (81), .constantLong RX7 43 (60), .methodLink RX7 39 yX7_in, .static yX7_in, .initialized RX7, .code yX7_in cX7_in 6 (some .boolean), .methodLink RX7 88 yX7_isEven, .static yX7_isEven, .code yX7_isEven cX7_isEven 5 (some .boolean)])
def wsX7_listAt : List Cond := .code yX7_listAt cX7_listAt 3 (some .int) :: ([.methodLink RX7 103 yX7_isListed, .static yX7_isListed, .initialized RX7, .code yX7_isListed cX7_isListed 2 (some .boolean), .constantLong RX7 99 (2), .constantLong RX7 101 (81), .constantLong RX7 43 (60), .methodLink RX7 39 yX7_in, .static yX7_in, .code yX7_in cX7_in 6 (some .boolean), .methodLink RX7 88 yX7_isEven, .static yX7_isEven, .code yX7_isEven cX7_isEven 5 (some .boolean)])
def wsX7_list : List Cond := .code yX7_list cX7_list 2 (some .int) :: ([.methodLink RX7 106 yX7_listAt, .static yX7_listAt, .initialized RX7, .code yX7_listAt cX7_listAt 3 (some .int), .methodLink RX7 103 yX7_isListed, .static yX7_isListed, .code yX7_isListed cX7_isListed 2 (some .boolean), .constantLong RX7 99 (2), .constantLong RX7 101 (81), .constantLong RX7 43 (60), .methodLink RX7 39 yX7_in, .static yX7_in, .code yX7_in cX7_in 6 (some .boolean), .methodLink RX7 88 yX7_isEven, .static yX7_isEven, .code yX7_isEven cX7_isEven 5 (some .boolean)])
def wsX7_factor : List Cond := .code yX7_factor cX7_factor 8 (some .int) :: ([.methodLink RX7 49 yX7_isGiven, .static yX7_isGiven, .initialized RX7, .code yX7_isGiven cX7_isGiven 2 (some .boolean), .constantLong RX7 37 (167961599999999), .methodLink RX7 39 yX7_in, .static yX7_in, .code yX7_in cX7_in 6 (some .boolean), .methodLink RX7 88 yX7_isEven, .static yX7_isEven, .code yX7_isEven cX7_isEven 5 (some .boolean), .methodLink RX7 53 yX7_sixtyOf, .static yX7_sixtyOf, .code yX7_sixtyOf cX7_sixtyOf 4 (some .long), .constantLong RX7 43 (60), .methodLink RX7 103 yX7_isListed, .static yX7_isListed, .code yX7_isListed cX7_isListed 2 (some .boolean), .constantLong RX7 99 (2), .constantLong RX7 101 (81)])
def wsX7_whole : List Cond := .code yX7_whole cX7_whole 8 (some .long) :: ([.constantLong RX7 115 (2000000000), .constantLong RX7 99 (2)])
def wsX7_root : List Cond := .code yX7_root cX7_root 8 (some .long) :: ([.constantLong RX7 110 (3), .constantLong RX7 57 (-1000000000000000002), .constantLong RX7 86 (-1000000000000000004), .methodLink RX7 49 yX7_isGiven, .static yX7_isGiven, .initialized RX7, .code yX7_isGiven cX7_isGiven 2 (some .boolean), .constantLong RX7 37 (167961599999999), .methodLink RX7 39 yX7_in, .static yX7_in, .code yX7_in cX7_in 6 (some .boolean), .methodLink RX7 45 yX7_power, .static yX7_power, .code yX7_power cX7_power 4 (some .long), .constantLong RX7 43 (60), .methodLink RX7 112 yX7_whole, .static yX7_whole, .code yX7_whole cX7_whole 8 (some .long), .constantLong RX7 115 (2000000000), .constantLong RX7 99 (2)])
def wsX7_isShort : List Cond := .code yX7_isShort cX7_isShort 2 (some .boolean) :: ([.constantLong RX7 117 (12959999), .methodLink RX7 39 yX7_in, .static yX7_in, .initialized RX7, .code yX7_in cX7_in 6 (some .boolean)])
def wsX7_times_ : List Cond := .code yX7_times_ cX7_times_ 9 (some .int) :: ([.fieldLink RX7 122 "SixtyTabletModel" "isWorked" "Z", .fieldLink RX7 126 "SixtyTabletModel" "lines" "I", .fieldLink RX7 16 "SixtyTabletModel" "ofX" "[I", .fieldLink RX7 19 "SixtyTabletModel" "ofY" "[I", .fieldLink RX7 7 "SixtyTabletModel" "product" "[I", .fieldLink RX7 13 "SixtyTabletModel" "place" "[I", .methodLink RX7 119 yX7_isShort, .static yX7_isShort, .initialized RX7, .code yX7_isShort cX7_isShort 2 (some .boolean), .constantLong RX7 117 (12959999), .methodLink RX7 39 yX7_in, .static yX7_in, .code yX7_in cX7_in 6 (some .boolean), .methodLink RX7 63 yX7_digitAt, .static yX7_digitAt, .code yX7_digitAt cX7_digitAt 3 (some .int), .constantLong RX7 43 (60), .methodLink RX7 45 yX7_power, .static yX7_power, .code yX7_power cX7_power 4 (some .long)] ++ wsX70)
def wsX7_isLine : List Cond := .code yX7_isLine cX7_isLine 2 (some .boolean) :: ([.fieldLink RX7 126 "SixtyTabletModel" "lines" "I", .methodLink RX7 39 yX7_in, .static yX7_in, .initialized RX7, .code yX7_in cX7_in 6 (some .boolean)] ++ wsX70)
def wsX7_line : List Cond := .code yX7_line cX7_line 3 (some .int) :: ([.fieldLink RX7 7 "SixtyTabletModel" "product" "[I", .fieldLink RX7 13 "SixtyTabletModel" "place" "[I", .fieldLink RX7 16 "SixtyTabletModel" "ofX" "[I", .fieldLink RX7 19 "SixtyTabletModel" "ofY" "[I", .methodLink RX7 130 yX7_isLine, .instanceMethod yX7_isLine, .selects RX7 yX7_isLine yX7_isLine, .initialized RX7, .code yX7_isLine cX7_isLine 2 (some .boolean), .fieldLink RX7 126 "SixtyTabletModel" "lines" "I", .methodLink RX7 39 yX7_in, .static yX7_in, .code yX7_in cX7_in 6 (some .boolean)] ++ wsX70)
def wsX7_lineOf : List Cond := .code yX7_lineOf cX7_lineOf 2 (some .long) :: ([.fieldLink RX7 7 "SixtyTabletModel" "product" "[I", .fieldLink RX7 13 "SixtyTabletModel" "place" "[I", .methodLink RX7 45 yX7_power, .static yX7_power, .initialized RX7, .code yX7_power cX7_power 4 (some .long), .constantLong RX7 43 (60)] ++ wsX70)
def wsX7_sumOf : List Cond := .code yX7_sumOf cX7_sumOf 5 (some .long) :: ([.methodLink RX7 134 yX7_lineOf, .instanceMethod yX7_lineOf, .selects RX7 yX7_lineOf yX7_lineOf, .initialized RX7, .code yX7_lineOf cX7_lineOf 2 (some .long), .fieldLink RX7 7 "SixtyTabletModel" "product" "[I", .fieldLink RX7 13 "SixtyTabletModel" "place" "[I", .methodLink RX7 45 yX7_power, .static yX7_power, .code yX7_power cX7_power 4 (some .long), .constantLong RX7 43 (60)] ++ wsX70)
def wsX7_sum : List Cond := .code yX7_sum cX7_sum 2 (some .long) :: ([.constantLong RX7 140 (-1000000000000000001), .methodLink RX7 130 yX7_isLine, .instanceMethod yX7_isLine, .selects RX7 yX7_isLine yX7_isLine, .initialized RX7, .code yX7_isLine cX7_isLine 2 (some .boolean), .fieldLink RX7 126 "SixtyTabletModel" "lines" "I", .methodLink RX7 39 yX7_in, .static yX7_in, .code yX7_in cX7_in 6 (some .boolean), .methodLink RX7 137 yX7_sumOf, .instanceMethod yX7_sumOf, .selects RX7 yX7_sumOf yX7_sumOf, .code yX7_sumOf cX7_sumOf 5 (some .long), .methodLink RX7 134 yX7_lineOf, .instanceMethod yX7_lineOf, .selects RX7 yX7_lineOf yX7_lineOf, .code yX7_lineOf cX7_lineOf 2 (some .long), .fieldLink RX7 7 "SixtyTabletModel" "product" "[I", .fieldLink RX7 13 "SixtyTabletModel" "place" "[I", .methodLink RX7 45 yX7_power, .static yX7_power, .code yX7_power cX7_power 4 (some .long), .constantLong RX7 43 (60)] ++ wsX70)
def wsX7_slipped : List Cond := .code yX7_slipped cX7_slipped 8 (some .long) :: ([.fieldLink RX7 7 "SixtyTabletModel" "product" "[I", .fieldLink RX7 13 "SixtyTabletModel" "place" "[I", .constantLong RX7 142 (-6), .fieldLink RX7 19 "SixtyTabletModel" "ofY" "[I", .constantLong RX7 144 (59), .fieldLink RX7 16 "SixtyTabletModel" "ofX" "[I", .methodLink RX7 45 yX7_power, .static yX7_power, .initialized RX7, .code yX7_power cX7_power 4 (some .long), .constantLong RX7 43 (60), .methodLink RX7 39 yX7_in, .static yX7_in, .code yX7_in cX7_in 6 (some .boolean)] ++ wsX70)
def wsX7_slip_r1 : List Cond := [Cond.constantLong RX7 140 (-1000000000000000001), Cond.constantLong RX7 110 (3), Cond.constantLong RX7 57 (-1000000000000000002), Cond.constantLong RX7 94 (-1000000000000000005), Cond.methodLink RX7 130 yX7_isLine, Cond.instanceMethod yX7_isLine, Cond.selects RX7 yX7_isLine yX7_isLine, Cond.initialized RX7, Cond.code yX7_isLine cX7_isLine 2 (some .boolean), Cond.fieldLink RX7 126 "SixtyTabletModel" "lines" "I", Cond.methodLink RX7 39 yX7_in, Cond.static yX7_in, Cond.code yX7_in cX7_in 6 (some .boolean), Cond.methodLink RX7 146 yX7_slipped, Cond.instanceMethod yX7_slipped, Cond.selects RX7 yX7_slipped yX7_slipped, Cond.code yX7_slipped cX7_slipped 8 (some .long), Cond.fieldLink RX7 7 "SixtyTabletModel" "product" "[I", Cond.fieldLink RX7 13 "SixtyTabletModel" "place" "[I", Cond.constantLong RX7 142 (-6), Cond.fieldLink RX7 19 "SixtyTabletModel" "ofY" "[I", Cond.constantLong RX7 144 (59), Cond.fieldLink RX7 16 "SixtyTabletModel" "ofX" "[I", Cond.methodLink RX7 45 yX7_power]
def wsX7_slip_r2 : List Cond := [Cond.static yX7_power, Cond.code yX7_power cX7_power 4 (some .long), Cond.constantLong RX7 43 (60), Cond.methodLink RX7 137 yX7_sumOf, Cond.instanceMethod yX7_sumOf, Cond.selects RX7 yX7_sumOf yX7_sumOf, Cond.code yX7_sumOf cX7_sumOf 5 (some .long), Cond.methodLink RX7 134 yX7_lineOf, Cond.instanceMethod yX7_lineOf, Cond.selects RX7 yX7_lineOf yX7_lineOf, Cond.code yX7_lineOf cX7_lineOf 2 (some .long)]
def wsX7_slip : List Cond := .code yX7_slip cX7_slip 7 (some .long) :: ((wsX7_slip_r1 ++ wsX7_slip_r2) ++ wsX70)
def wsX7_blame_r1 : List Cond := [Cond.fieldLink RX7 122 "SixtyTabletModel" "isWorked" "Z", Cond.fieldLink RX7 126 "SixtyTabletModel" "lines" "I", Cond.methodLink RX7 137 yX7_sumOf, Cond.instanceMethod yX7_sumOf, Cond.selects RX7 yX7_sumOf yX7_sumOf, Cond.initialized RX7, Cond.code yX7_sumOf cX7_sumOf 5 (some .long), Cond.methodLink RX7 134 yX7_lineOf, Cond.instanceMethod yX7_lineOf, Cond.selects RX7 yX7_lineOf yX7_lineOf, Cond.code yX7_lineOf cX7_lineOf 2 (some .long), Cond.fieldLink RX7 7 "SixtyTabletModel" "product" "[I", Cond.fieldLink RX7 13 "SixtyTabletModel" "place" "[I", Cond.methodLink RX7 45 yX7_power, Cond.static yX7_power, Cond.code yX7_power cX7_power 4 (some .long), Cond.constantLong RX7 43 (60), Cond.methodLink RX7 146 yX7_slipped, Cond.instanceMethod yX7_slipped, Cond.selects RX7 yX7_slipped yX7_slipped, Cond.code yX7_slipped cX7_slipped 8 (some .long), Cond.constantLong RX7 142 (-6), Cond.fieldLink RX7 19 "SixtyTabletModel" "ofY" "[I", Cond.constantLong RX7 144 (59)]
def wsX7_blame_r2 : List Cond := [Cond.fieldLink RX7 16 "SixtyTabletModel" "ofX" "[I", Cond.methodLink RX7 39 yX7_in, Cond.static yX7_in, Cond.code yX7_in cX7_in 6 (some .boolean)]
def wsX7_blame : List Cond := .code yX7_blame cX7_blame 12 (some .int) :: ((wsX7_blame_r1 ++ wsX7_blame_r2) ++ wsX70)
def wsX7_isTablet : List Cond := .code yX7_isTablet cX7_isTablet 1 (some .boolean) :: ([.constantLong RX7 110 (3), .methodLink RX7 39 yX7_in, .static yX7_in, .initialized RX7, .code yX7_in cX7_in 6 (some .boolean)])
def wsX7_isRow : List Cond := .code yX7_isRow cX7_isRow 3 (some .boolean) :: ([.fieldLink RX7 25 "SixtyTabletModel" "rows" "[I", .methodLink RX7 150 yX7_isTablet, .static yX7_isTablet, .initialized RX7, .code yX7_isTablet cX7_isTablet 1 (some .boolean), .constantLong RX7 110 (3), .methodLink RX7 39 yX7_in, .static yX7_in, .code yX7_in cX7_in 6 (some .boolean)] ++ wsX70)
def wsX7_isCell : List Cond := .code yX7_isCell cX7_isCell 4 (some .boolean) :: ([.constantLong RX7 99 (2), .methodLink RX7 153 yX7_isRow, .instanceMethod yX7_isRow, .selects RX7 yX7_isRow yX7_isRow, .initialized RX7, .code yX7_isRow cX7_isRow 3 (some .boolean), .fieldLink RX7 25 "SixtyTabletModel" "rows" "[I", .methodLink RX7 150 yX7_isTablet, .static yX7_isTablet, .code yX7_isTablet cX7_isTablet 1 (some .boolean), .constantLong RX7 110 (3), .methodLink RX7 39 yX7_in, .static yX7_in, .code yX7_in cX7_in 6 (some .boolean)] ++ wsX70)
def wsX7_at : List Cond := .code yX7_at cX7_at 3 (some .int) :: ([])
def wsX7_tablet : List Cond := .code yX7_tablet cX7_tablet 4 (some .int) :: ([.constantLong RX7 72 (8), .fieldLink RX7 25 "SixtyTabletModel" "rows" "[I", .fieldLink RX7 28 "SixtyTabletModel" "cell" "[I", .methodLink RX7 150 yX7_isTablet, .static yX7_isTablet, .initialized RX7, .code yX7_isTablet cX7_isTablet 1 (some .boolean), .constantLong RX7 110 (3), .methodLink RX7 39 yX7_in, .static yX7_in, .code yX7_in cX7_in 6 (some .boolean)] ++ wsX70)
def wsX7_press : List Cond := .code yX7_press cX7_press 6 (some .int) :: ([.constantLong RX7 117 (12959999), .fieldLink RX7 28 "SixtyTabletModel" "cell" "[I", .methodLink RX7 157 yX7_isCell, .instanceMethod yX7_isCell, .selects RX7 yX7_isCell yX7_isCell, .initialized RX7, .code yX7_isCell cX7_isCell 4 (some .boolean), .constantLong RX7 99 (2), .methodLink RX7 153 yX7_isRow, .instanceMethod yX7_isRow, .selects RX7 yX7_isRow yX7_isRow, .code yX7_isRow cX7_isRow 3 (some .boolean), .fieldLink RX7 25 "SixtyTabletModel" "rows" "[I", .methodLink RX7 150 yX7_isTablet, .static yX7_isTablet, .code yX7_isTablet cX7_isTablet 1 (some .boolean), .constantLong RX7 110 (3), .methodLink RX7 39 yX7_in, .static yX7_in, .code yX7_in cX7_in 6 (some .boolean), .methodLink RX7 161 yX7_at, .static yX7_at, .code yX7_at cX7_at 3 (some .int)] ++ wsX70)
def wsX7_cell : List Cond := .code yX7_cell cX7_cell 4 (some .int) :: ([.fieldLink RX7 28 "SixtyTabletModel" "cell" "[I", .methodLink RX7 157 yX7_isCell, .instanceMethod yX7_isCell, .selects RX7 yX7_isCell yX7_isCell, .initialized RX7, .code yX7_isCell cX7_isCell 4 (some .boolean), .constantLong RX7 99 (2), .methodLink RX7 153 yX7_isRow, .instanceMethod yX7_isRow, .selects RX7 yX7_isRow yX7_isRow, .code yX7_isRow cX7_isRow 3 (some .boolean), .fieldLink RX7 25 "SixtyTabletModel" "rows" "[I", .methodLink RX7 150 yX7_isTablet, .static yX7_isTablet, .code yX7_isTablet cX7_isTablet 1 (some .boolean), .constantLong RX7 110 (3), .methodLink RX7 39 yX7_in, .static yX7_in, .code yX7_in cX7_in 6 (some .boolean), .methodLink RX7 161 yX7_at, .static yX7_at, .code yX7_at cX7_at 3 (some .int)] ++ wsX70)
def wsX7_rowsOf : List Cond := .code yX7_rowsOf cX7_rowsOf 1 (some .int) :: ([])
def wsX7_inTable_r1 : List Cond := [Cond.methodLink RX7 106 yX7_listAt, Cond.static yX7_listAt, Cond.initialized RX7, Cond.code yX7_listAt cX7_listAt 3 (some .int), Cond.methodLink RX7 103 yX7_isListed, Cond.static yX7_isListed, Cond.code yX7_isListed cX7_isListed 2 (some .boolean), Cond.constantLong RX7 99 (2), Cond.constantLong RX7 101 (81), Cond.constantLong RX7 43 (60), Cond.methodLink RX7 39 yX7_in, Cond.static yX7_in, Cond.code yX7_in cX7_in 6 (some .boolean), Cond.methodLink RX7 88 yX7_isEven, Cond.static yX7_isEven, Cond.code yX7_isEven cX7_isEven 5 (some .boolean), Cond.methodLink RX7 96 yX7_turnedOf, Cond.static yX7_turnedOf, Cond.code yX7_turnedOf cX7_turnedOf 13 (some .long), Cond.constantLong RX7 84 (167961600000000), Cond.constantLong RX7 70 (-1), Cond.methodLink RX7 53 yX7_sixtyOf, Cond.static yX7_sixtyOf, Cond.code yX7_sixtyOf cX7_sixtyOf 4 (some .long)]
def wsX7_inTable_r2 : List Cond := [Cond.methodLink RX7 91 yX7_times, Cond.static yX7_times, Cond.code yX7_times cX7_times 6 (some .int)]
def wsX7_inTable : List Cond := .code yX7_inTable cX7_inTable 5 (some .int) :: ((wsX7_inTable_r1 ++ wsX7_inTable_r2))
def wsX7_copy_r1 : List Cond := [Cond.constantLong RX7 110 (3), Cond.constantLong RX7 144 (59), Cond.constantLong RX7 72 (8), Cond.fieldLink RX7 25 "SixtyTabletModel" "rows" "[I", Cond.fieldLink RX7 28 "SixtyTabletModel" "cell" "[I", Cond.methodLink RX7 150 yX7_isTablet, Cond.static yX7_isTablet, Cond.initialized RX7, Cond.code yX7_isTablet cX7_isTablet 1 (some .boolean), Cond.methodLink RX7 39 yX7_in, Cond.static yX7_in, Cond.code yX7_in cX7_in 6 (some .boolean), Cond.methodLink RX7 165 yX7_rowsOf, Cond.static yX7_rowsOf, Cond.code yX7_rowsOf cX7_rowsOf 1 (some .int), Cond.methodLink RX7 168 yX7_inTable, Cond.static yX7_inTable, Cond.code yX7_inTable cX7_inTable 5 (some .int), Cond.methodLink RX7 106 yX7_listAt, Cond.static yX7_listAt, Cond.code yX7_listAt cX7_listAt 3 (some .int), Cond.methodLink RX7 103 yX7_isListed, Cond.static yX7_isListed, Cond.code yX7_isListed cX7_isListed 2 (some .boolean)]
def wsX7_copy_r2 : List Cond := [Cond.constantLong RX7 99 (2), Cond.constantLong RX7 101 (81), Cond.constantLong RX7 43 (60), Cond.methodLink RX7 88 yX7_isEven, Cond.static yX7_isEven, Cond.code yX7_isEven cX7_isEven 5 (some .boolean), Cond.methodLink RX7 96 yX7_turnedOf, Cond.static yX7_turnedOf, Cond.code yX7_turnedOf cX7_turnedOf 13 (some .long), Cond.constantLong RX7 84 (167961600000000), Cond.constantLong RX7 70 (-1), Cond.methodLink RX7 53 yX7_sixtyOf, Cond.static yX7_sixtyOf, Cond.code yX7_sixtyOf cX7_sixtyOf 4 (some .long), Cond.methodLink RX7 91 yX7_times, Cond.static yX7_times, Cond.code yX7_times cX7_times 6 (some .int)]
def wsX7_copy : List Cond := .code yX7_copy cX7_copy 7 (some .int) :: ((wsX7_copy_r1 ++ wsX7_copy_r2) ++ wsX70)
def wsX7_agree : List Cond := .code yX7_agree cX7_agree 2 (some .boolean) :: ([.methodLink RX7 53 yX7_sixtyOf, .static yX7_sixtyOf, .initialized RX7, .code yX7_sixtyOf cX7_sixtyOf 4 (some .long), .constantLong RX7 43 (60)])
def wsX7_tableAt_r1 : List Cond := [Cond.fieldLink RX7 31 "SixtyTabletModel" "overs" "[I", Cond.methodLink RX7 106 yX7_listAt, Cond.static yX7_listAt, Cond.initialized RX7, Cond.code yX7_listAt cX7_listAt 3 (some .int), Cond.methodLink RX7 103 yX7_isListed, Cond.static yX7_isListed, Cond.code yX7_isListed cX7_isListed 2 (some .boolean), Cond.constantLong RX7 99 (2), Cond.constantLong RX7 101 (81), Cond.constantLong RX7 43 (60), Cond.methodLink RX7 39 yX7_in, Cond.static yX7_in, Cond.code yX7_in cX7_in 6 (some .boolean), Cond.methodLink RX7 88 yX7_isEven, Cond.static yX7_isEven, Cond.code yX7_isEven cX7_isEven 5 (some .boolean), Cond.methodLink RX7 96 yX7_turnedOf, Cond.static yX7_turnedOf, Cond.code yX7_turnedOf cX7_turnedOf 13 (some .long), Cond.constantLong RX7 84 (167961600000000), Cond.constantLong RX7 70 (-1), Cond.methodLink RX7 53 yX7_sixtyOf, Cond.static yX7_sixtyOf]
def wsX7_tableAt_r2 : List Cond := [Cond.code yX7_sixtyOf cX7_sixtyOf 4 (some .long), Cond.methodLink RX7 91 yX7_times, Cond.static yX7_times, Cond.code yX7_times cX7_times 6 (some .int), Cond.methodLink RX7 168 yX7_inTable, Cond.static yX7_inTable, Cond.code yX7_inTable cX7_inTable 5 (some .int)]
def wsX7_tableAt : List Cond := .code yX7_tableAt cX7_tableAt 5 (some .int) :: ((wsX7_tableAt_r1 ++ wsX7_tableAt_r2) ++ wsX70)
def wsX7_unlike_r1 : List Cond := [Cond.fieldLink RX7 25 "SixtyTabletModel" "rows" "[I", Cond.fieldLink RX7 28 "SixtyTabletModel" "cell" "[I", Cond.methodLink RX7 161 yX7_at, Cond.static yX7_at, Cond.initialized RX7, Cond.code yX7_at cX7_at 3 (some .int), Cond.methodLink RX7 172 yX7_tableAt, Cond.instanceMethod yX7_tableAt, Cond.selects RX7 yX7_tableAt yX7_tableAt, Cond.code yX7_tableAt cX7_tableAt 5 (some .int), Cond.fieldLink RX7 31 "SixtyTabletModel" "overs" "[I", Cond.methodLink RX7 106 yX7_listAt, Cond.static yX7_listAt, Cond.code yX7_listAt cX7_listAt 3 (some .int), Cond.methodLink RX7 103 yX7_isListed, Cond.static yX7_isListed, Cond.code yX7_isListed cX7_isListed 2 (some .boolean), Cond.constantLong RX7 99 (2), Cond.constantLong RX7 101 (81), Cond.constantLong RX7 43 (60), Cond.methodLink RX7 39 yX7_in, Cond.static yX7_in, Cond.code yX7_in cX7_in 6 (some .boolean), Cond.methodLink RX7 88 yX7_isEven]
def wsX7_unlike_r2 : List Cond := [Cond.static yX7_isEven, Cond.code yX7_isEven cX7_isEven 5 (some .boolean), Cond.methodLink RX7 96 yX7_turnedOf, Cond.static yX7_turnedOf, Cond.code yX7_turnedOf cX7_turnedOf 13 (some .long), Cond.constantLong RX7 84 (167961600000000), Cond.constantLong RX7 70 (-1), Cond.methodLink RX7 53 yX7_sixtyOf, Cond.static yX7_sixtyOf, Cond.code yX7_sixtyOf cX7_sixtyOf 4 (some .long), Cond.methodLink RX7 91 yX7_times, Cond.static yX7_times, Cond.code yX7_times cX7_times 6 (some .int), Cond.methodLink RX7 168 yX7_inTable, Cond.static yX7_inTable, Cond.code yX7_inTable cX7_inTable 5 (some .int), Cond.methodLink RX7 175 yX7_agree, Cond.static yX7_agree, Cond.code yX7_agree cX7_agree 2 (some .boolean)]
def wsX7_unlike : List Cond := .code yX7_unlike cX7_unlike 11 (some .int) :: ((wsX7_unlike_r1 ++ wsX7_unlike_r2) ++ wsX70)
def wsX7_kindOf : List Cond := .code yX7_kindOf cX7_kindOf 1 (some .int) :: ([])
def wsX7_nOf : List Cond := .code yX7_nOf cX7_nOf 1 (some .int) :: ([])
def wsX7_firstOf : List Cond := .code yX7_firstOf cX7_firstOf 1 (some .int) :: ([])
def wsX7_fits : List Cond := .code yX7_fits cX7_fits 3 (some .boolean) :: ([.fieldLink RX7 25 "SixtyTabletModel" "rows" "[I", .methodLink RX7 178 yX7_firstOf, .static yX7_firstOf, .initialized RX7, .code yX7_firstOf cX7_firstOf 1 (some .int), .methodLink RX7 181 yX7_kindOf, .static yX7_kindOf, .code yX7_kindOf cX7_kindOf 1 (some .int), .methodLink RX7 165 yX7_rowsOf, .static yX7_rowsOf, .code yX7_rowsOf cX7_rowsOf 1 (some .int)] ++ wsX70)
def wsX7_reads_r1 : List Cond := [Cond.methodLink RX7 184 yX7_fits, Cond.instanceMethod yX7_fits, Cond.selects RX7 yX7_fits yX7_fits, Cond.initialized RX7, Cond.code yX7_fits cX7_fits 3 (some .boolean), Cond.fieldLink RX7 25 "SixtyTabletModel" "rows" "[I", Cond.methodLink RX7 178 yX7_firstOf, Cond.static yX7_firstOf, Cond.code yX7_firstOf cX7_firstOf 1 (some .int), Cond.methodLink RX7 181 yX7_kindOf, Cond.static yX7_kindOf, Cond.code yX7_kindOf cX7_kindOf 1 (some .int), Cond.methodLink RX7 165 yX7_rowsOf, Cond.static yX7_rowsOf, Cond.code yX7_rowsOf cX7_rowsOf 1 (some .int), Cond.methodLink RX7 187 yX7_nOf, Cond.static yX7_nOf, Cond.code yX7_nOf cX7_nOf 1 (some .int), Cond.methodLink RX7 190 yX7_unlike, Cond.instanceMethod yX7_unlike, Cond.selects RX7 yX7_unlike yX7_unlike, Cond.code yX7_unlike cX7_unlike 11 (some .int), Cond.fieldLink RX7 28 "SixtyTabletModel" "cell" "[I", Cond.methodLink RX7 161 yX7_at]
def wsX7_reads_r2 : List Cond := [Cond.static yX7_at, Cond.code yX7_at cX7_at 3 (some .int), Cond.methodLink RX7 172 yX7_tableAt, Cond.instanceMethod yX7_tableAt, Cond.selects RX7 yX7_tableAt yX7_tableAt, Cond.code yX7_tableAt cX7_tableAt 5 (some .int), Cond.fieldLink RX7 31 "SixtyTabletModel" "overs" "[I", Cond.methodLink RX7 106 yX7_listAt, Cond.static yX7_listAt, Cond.code yX7_listAt cX7_listAt 3 (some .int), Cond.methodLink RX7 103 yX7_isListed, Cond.static yX7_isListed, Cond.code yX7_isListed cX7_isListed 2 (some .boolean), Cond.constantLong RX7 99 (2), Cond.constantLong RX7 101 (81), Cond.constantLong RX7 43 (60), Cond.methodLink RX7 39 yX7_in, Cond.static yX7_in, Cond.code yX7_in cX7_in 6 (some .boolean), Cond.methodLink RX7 88 yX7_isEven, Cond.static yX7_isEven, Cond.code yX7_isEven cX7_isEven 5 (some .boolean), Cond.methodLink RX7 96 yX7_turnedOf, Cond.static yX7_turnedOf]
def wsX7_reads_r3 : List Cond := [Cond.code yX7_turnedOf cX7_turnedOf 13 (some .long), Cond.constantLong RX7 84 (167961600000000), Cond.constantLong RX7 70 (-1), Cond.methodLink RX7 53 yX7_sixtyOf, Cond.static yX7_sixtyOf, Cond.code yX7_sixtyOf cX7_sixtyOf 4 (some .long), Cond.methodLink RX7 91 yX7_times, Cond.static yX7_times, Cond.code yX7_times cX7_times 6 (some .int), Cond.methodLink RX7 168 yX7_inTable, Cond.static yX7_inTable, Cond.code yX7_inTable cX7_inTable 5 (some .int), Cond.methodLink RX7 175 yX7_agree, Cond.static yX7_agree, Cond.code yX7_agree cX7_agree 2 (some .boolean)]
def wsX7_reads : List Cond := .code yX7_reads cX7_reads 3 (some .boolean) :: ((wsX7_reads_r1 ++ (wsX7_reads_r2 ++ wsX7_reads_r3)) ++ wsX70)
def wsX7_reading_r1 : List Cond := [Cond.methodLink RX7 150 yX7_isTablet, Cond.static yX7_isTablet, Cond.initialized RX7, Cond.code yX7_isTablet cX7_isTablet 1 (some .boolean), Cond.constantLong RX7 110 (3), Cond.methodLink RX7 39 yX7_in, Cond.static yX7_in, Cond.code yX7_in cX7_in 6 (some .boolean), Cond.methodLink RX7 193 yX7_reads, Cond.instanceMethod yX7_reads, Cond.selects RX7 yX7_reads yX7_reads, Cond.code yX7_reads cX7_reads 3 (some .boolean), Cond.methodLink RX7 184 yX7_fits, Cond.instanceMethod yX7_fits, Cond.selects RX7 yX7_fits yX7_fits, Cond.code yX7_fits cX7_fits 3 (some .boolean), Cond.fieldLink RX7 25 "SixtyTabletModel" "rows" "[I", Cond.methodLink RX7 178 yX7_firstOf, Cond.static yX7_firstOf, Cond.code yX7_firstOf cX7_firstOf 1 (some .int), Cond.methodLink RX7 181 yX7_kindOf, Cond.static yX7_kindOf, Cond.code yX7_kindOf cX7_kindOf 1 (some .int), Cond.methodLink RX7 165 yX7_rowsOf]
def wsX7_reading_r2 : List Cond := [Cond.static yX7_rowsOf, Cond.code yX7_rowsOf cX7_rowsOf 1 (some .int), Cond.methodLink RX7 187 yX7_nOf, Cond.static yX7_nOf, Cond.code yX7_nOf cX7_nOf 1 (some .int), Cond.methodLink RX7 190 yX7_unlike, Cond.instanceMethod yX7_unlike, Cond.selects RX7 yX7_unlike yX7_unlike, Cond.code yX7_unlike cX7_unlike 11 (some .int), Cond.fieldLink RX7 28 "SixtyTabletModel" "cell" "[I", Cond.methodLink RX7 161 yX7_at, Cond.static yX7_at, Cond.code yX7_at cX7_at 3 (some .int), Cond.methodLink RX7 172 yX7_tableAt, Cond.instanceMethod yX7_tableAt, Cond.selects RX7 yX7_tableAt yX7_tableAt, Cond.code yX7_tableAt cX7_tableAt 5 (some .int), Cond.fieldLink RX7 31 "SixtyTabletModel" "overs" "[I", Cond.methodLink RX7 106 yX7_listAt, Cond.static yX7_listAt, Cond.code yX7_listAt cX7_listAt 3 (some .int), Cond.methodLink RX7 103 yX7_isListed, Cond.static yX7_isListed, Cond.code yX7_isListed cX7_isListed 2 (some .boolean)]
def wsX7_reading_r3 : List Cond := [Cond.constantLong RX7 99 (2), Cond.constantLong RX7 101 (81), Cond.constantLong RX7 43 (60), Cond.methodLink RX7 88 yX7_isEven, Cond.static yX7_isEven, Cond.code yX7_isEven cX7_isEven 5 (some .boolean), Cond.methodLink RX7 96 yX7_turnedOf, Cond.static yX7_turnedOf, Cond.code yX7_turnedOf cX7_turnedOf 13 (some .long), Cond.constantLong RX7 84 (167961600000000), Cond.constantLong RX7 70 (-1), Cond.methodLink RX7 53 yX7_sixtyOf, Cond.static yX7_sixtyOf, Cond.code yX7_sixtyOf cX7_sixtyOf 4 (some .long), Cond.methodLink RX7 91 yX7_times, Cond.static yX7_times, Cond.code yX7_times cX7_times 6 (some .int), Cond.methodLink RX7 168 yX7_inTable, Cond.static yX7_inTable, Cond.code yX7_inTable cX7_inTable 5 (some .int), Cond.methodLink RX7 175 yX7_agree, Cond.static yX7_agree, Cond.code yX7_agree cX7_agree 2 (some .boolean)]
def wsX7_reading : List Cond := .code yX7_reading cX7_reading 5 (some .int) :: ((wsX7_reading_r1 ++ (wsX7_reading_r2 ++ wsX7_reading_r3)) ++ wsX70)
def wsX7_laySure_r1 : List Cond := [Cond.fieldLink RX7 34 "SixtyTabletModel" "sure" "[I", Cond.fieldLink RX7 25 "SixtyTabletModel" "rows" "[I", Cond.methodLink RX7 193 yX7_reads, Cond.instanceMethod yX7_reads, Cond.selects RX7 yX7_reads yX7_reads, Cond.initialized RX7, Cond.code yX7_reads cX7_reads 3 (some .boolean), Cond.methodLink RX7 184 yX7_fits, Cond.instanceMethod yX7_fits, Cond.selects RX7 yX7_fits yX7_fits, Cond.code yX7_fits cX7_fits 3 (some .boolean), Cond.methodLink RX7 178 yX7_firstOf, Cond.static yX7_firstOf, Cond.code yX7_firstOf cX7_firstOf 1 (some .int), Cond.methodLink RX7 181 yX7_kindOf, Cond.static yX7_kindOf, Cond.code yX7_kindOf cX7_kindOf 1 (some .int), Cond.methodLink RX7 165 yX7_rowsOf, Cond.static yX7_rowsOf, Cond.code yX7_rowsOf cX7_rowsOf 1 (some .int), Cond.methodLink RX7 187 yX7_nOf, Cond.static yX7_nOf, Cond.code yX7_nOf cX7_nOf 1 (some .int), Cond.methodLink RX7 190 yX7_unlike]
def wsX7_laySure_r2 : List Cond := [Cond.instanceMethod yX7_unlike, Cond.selects RX7 yX7_unlike yX7_unlike, Cond.code yX7_unlike cX7_unlike 11 (some .int), Cond.fieldLink RX7 28 "SixtyTabletModel" "cell" "[I", Cond.methodLink RX7 161 yX7_at, Cond.static yX7_at, Cond.code yX7_at cX7_at 3 (some .int), Cond.methodLink RX7 172 yX7_tableAt, Cond.instanceMethod yX7_tableAt, Cond.selects RX7 yX7_tableAt yX7_tableAt, Cond.code yX7_tableAt cX7_tableAt 5 (some .int), Cond.fieldLink RX7 31 "SixtyTabletModel" "overs" "[I", Cond.methodLink RX7 106 yX7_listAt, Cond.static yX7_listAt, Cond.code yX7_listAt cX7_listAt 3 (some .int), Cond.methodLink RX7 103 yX7_isListed, Cond.static yX7_isListed, Cond.code yX7_isListed cX7_isListed 2 (some .boolean), Cond.constantLong RX7 99 (2), Cond.constantLong RX7 101 (81), Cond.constantLong RX7 43 (60), Cond.methodLink RX7 39 yX7_in, Cond.static yX7_in, Cond.code yX7_in cX7_in 6 (some .boolean)]
def wsX7_laySure_r3 : List Cond := [Cond.methodLink RX7 88 yX7_isEven, Cond.static yX7_isEven, Cond.code yX7_isEven cX7_isEven 5 (some .boolean), Cond.methodLink RX7 96 yX7_turnedOf, Cond.static yX7_turnedOf, Cond.code yX7_turnedOf cX7_turnedOf 13 (some .long), Cond.constantLong RX7 84 (167961600000000), Cond.constantLong RX7 70 (-1), Cond.methodLink RX7 53 yX7_sixtyOf, Cond.static yX7_sixtyOf, Cond.code yX7_sixtyOf cX7_sixtyOf 4 (some .long), Cond.methodLink RX7 91 yX7_times, Cond.static yX7_times, Cond.code yX7_times cX7_times 6 (some .int), Cond.methodLink RX7 168 yX7_inTable, Cond.static yX7_inTable, Cond.code yX7_inTable cX7_inTable 5 (some .int), Cond.methodLink RX7 175 yX7_agree, Cond.static yX7_agree, Cond.code yX7_agree cX7_agree 2 (some .boolean)]
def wsX7_laySure : List Cond := .code yX7_laySure cX7_laySure 5 none :: ((wsX7_laySure_r1 ++ (wsX7_laySure_r2 ++ wsX7_laySure_r3)) ++ wsX70)
def wsX7_sure_r1 : List Cond := [Cond.fieldLink RX7 34 "SixtyTabletModel" "sure" "[I", Cond.methodLink RX7 157 yX7_isCell, Cond.instanceMethod yX7_isCell, Cond.selects RX7 yX7_isCell yX7_isCell, Cond.initialized RX7, Cond.code yX7_isCell cX7_isCell 4 (some .boolean), Cond.constantLong RX7 99 (2), Cond.methodLink RX7 153 yX7_isRow, Cond.instanceMethod yX7_isRow, Cond.selects RX7 yX7_isRow yX7_isRow, Cond.code yX7_isRow cX7_isRow 3 (some .boolean), Cond.fieldLink RX7 25 "SixtyTabletModel" "rows" "[I", Cond.methodLink RX7 150 yX7_isTablet, Cond.static yX7_isTablet, Cond.code yX7_isTablet cX7_isTablet 1 (some .boolean), Cond.constantLong RX7 110 (3), Cond.methodLink RX7 39 yX7_in, Cond.static yX7_in, Cond.code yX7_in cX7_in 6 (some .boolean), Cond.methodLink RX7 196 yX7_laySure, Cond.instanceMethod yX7_laySure, Cond.selects RX7 yX7_laySure yX7_laySure, Cond.code yX7_laySure cX7_laySure 5 none, Cond.methodLink RX7 193 yX7_reads]
def wsX7_sure_r2 : List Cond := [Cond.instanceMethod yX7_reads, Cond.selects RX7 yX7_reads yX7_reads, Cond.code yX7_reads cX7_reads 3 (some .boolean), Cond.methodLink RX7 184 yX7_fits, Cond.instanceMethod yX7_fits, Cond.selects RX7 yX7_fits yX7_fits, Cond.code yX7_fits cX7_fits 3 (some .boolean), Cond.methodLink RX7 178 yX7_firstOf, Cond.static yX7_firstOf, Cond.code yX7_firstOf cX7_firstOf 1 (some .int), Cond.methodLink RX7 181 yX7_kindOf, Cond.static yX7_kindOf, Cond.code yX7_kindOf cX7_kindOf 1 (some .int), Cond.methodLink RX7 165 yX7_rowsOf, Cond.static yX7_rowsOf, Cond.code yX7_rowsOf cX7_rowsOf 1 (some .int), Cond.methodLink RX7 187 yX7_nOf, Cond.static yX7_nOf, Cond.code yX7_nOf cX7_nOf 1 (some .int), Cond.methodLink RX7 190 yX7_unlike, Cond.instanceMethod yX7_unlike, Cond.selects RX7 yX7_unlike yX7_unlike, Cond.code yX7_unlike cX7_unlike 11 (some .int), Cond.fieldLink RX7 28 "SixtyTabletModel" "cell" "[I"]
def wsX7_sure_r3 : List Cond := [Cond.methodLink RX7 161 yX7_at, Cond.static yX7_at, Cond.code yX7_at cX7_at 3 (some .int), Cond.methodLink RX7 172 yX7_tableAt, Cond.instanceMethod yX7_tableAt, Cond.selects RX7 yX7_tableAt yX7_tableAt, Cond.code yX7_tableAt cX7_tableAt 5 (some .int), Cond.fieldLink RX7 31 "SixtyTabletModel" "overs" "[I", Cond.methodLink RX7 106 yX7_listAt, Cond.static yX7_listAt, Cond.code yX7_listAt cX7_listAt 3 (some .int), Cond.methodLink RX7 103 yX7_isListed, Cond.static yX7_isListed, Cond.code yX7_isListed cX7_isListed 2 (some .boolean), Cond.constantLong RX7 101 (81), Cond.constantLong RX7 43 (60), Cond.methodLink RX7 88 yX7_isEven, Cond.static yX7_isEven, Cond.code yX7_isEven cX7_isEven 5 (some .boolean), Cond.methodLink RX7 96 yX7_turnedOf, Cond.static yX7_turnedOf, Cond.code yX7_turnedOf cX7_turnedOf 13 (some .long), Cond.constantLong RX7 84 (167961600000000), Cond.constantLong RX7 70 (-1)]
def wsX7_sure_r4 : List Cond := [Cond.methodLink RX7 53 yX7_sixtyOf, Cond.static yX7_sixtyOf, Cond.code yX7_sixtyOf cX7_sixtyOf 4 (some .long), Cond.methodLink RX7 91 yX7_times, Cond.static yX7_times, Cond.code yX7_times cX7_times 6 (some .int), Cond.methodLink RX7 168 yX7_inTable, Cond.static yX7_inTable, Cond.code yX7_inTable cX7_inTable 5 (some .int), Cond.methodLink RX7 175 yX7_agree, Cond.static yX7_agree, Cond.code yX7_agree cX7_agree 2 (some .boolean)]
def wsX7_sure : List Cond := .code yX7_sure cX7_sure 5 (some .int) :: ((wsX7_sure_r1 ++ (wsX7_sure_r2 ++ (wsX7_sure_r3 ++ wsX7_sure_r4))) ++ wsX70)
def wsX7_fill_r1 : List Cond := [Cond.fieldLink RX7 25 "SixtyTabletModel" "rows" "[I", Cond.fieldLink RX7 28 "SixtyTabletModel" "cell" "[I", Cond.fieldLink RX7 34 "SixtyTabletModel" "sure" "[I", Cond.methodLink RX7 150 yX7_isTablet, Cond.static yX7_isTablet, Cond.initialized RX7, Cond.code yX7_isTablet cX7_isTablet 1 (some .boolean), Cond.constantLong RX7 110 (3), Cond.methodLink RX7 39 yX7_in, Cond.static yX7_in, Cond.code yX7_in cX7_in 6 (some .boolean), Cond.methodLink RX7 196 yX7_laySure, Cond.instanceMethod yX7_laySure, Cond.selects RX7 yX7_laySure yX7_laySure, Cond.code yX7_laySure cX7_laySure 5 none, Cond.methodLink RX7 193 yX7_reads, Cond.instanceMethod yX7_reads, Cond.selects RX7 yX7_reads yX7_reads, Cond.code yX7_reads cX7_reads 3 (some .boolean), Cond.methodLink RX7 184 yX7_fits, Cond.instanceMethod yX7_fits, Cond.selects RX7 yX7_fits yX7_fits, Cond.code yX7_fits cX7_fits 3 (some .boolean), Cond.methodLink RX7 178 yX7_firstOf]
def wsX7_fill_r2 : List Cond := [Cond.static yX7_firstOf, Cond.code yX7_firstOf cX7_firstOf 1 (some .int), Cond.methodLink RX7 181 yX7_kindOf, Cond.static yX7_kindOf, Cond.code yX7_kindOf cX7_kindOf 1 (some .int), Cond.methodLink RX7 165 yX7_rowsOf, Cond.static yX7_rowsOf, Cond.code yX7_rowsOf cX7_rowsOf 1 (some .int), Cond.methodLink RX7 187 yX7_nOf, Cond.static yX7_nOf, Cond.code yX7_nOf cX7_nOf 1 (some .int), Cond.methodLink RX7 190 yX7_unlike, Cond.instanceMethod yX7_unlike, Cond.selects RX7 yX7_unlike yX7_unlike, Cond.code yX7_unlike cX7_unlike 11 (some .int), Cond.methodLink RX7 161 yX7_at, Cond.static yX7_at, Cond.code yX7_at cX7_at 3 (some .int), Cond.methodLink RX7 172 yX7_tableAt, Cond.instanceMethod yX7_tableAt, Cond.selects RX7 yX7_tableAt yX7_tableAt, Cond.code yX7_tableAt cX7_tableAt 5 (some .int), Cond.fieldLink RX7 31 "SixtyTabletModel" "overs" "[I", Cond.methodLink RX7 106 yX7_listAt]
def wsX7_fill_r3 : List Cond := [Cond.static yX7_listAt, Cond.code yX7_listAt cX7_listAt 3 (some .int), Cond.methodLink RX7 103 yX7_isListed, Cond.static yX7_isListed, Cond.code yX7_isListed cX7_isListed 2 (some .boolean), Cond.constantLong RX7 99 (2), Cond.constantLong RX7 101 (81), Cond.constantLong RX7 43 (60), Cond.methodLink RX7 88 yX7_isEven, Cond.static yX7_isEven, Cond.code yX7_isEven cX7_isEven 5 (some .boolean), Cond.methodLink RX7 96 yX7_turnedOf, Cond.static yX7_turnedOf, Cond.code yX7_turnedOf cX7_turnedOf 13 (some .long), Cond.constantLong RX7 84 (167961600000000), Cond.constantLong RX7 70 (-1), Cond.methodLink RX7 53 yX7_sixtyOf, Cond.static yX7_sixtyOf, Cond.code yX7_sixtyOf cX7_sixtyOf 4 (some .long), Cond.methodLink RX7 91 yX7_times, Cond.static yX7_times, Cond.code yX7_times cX7_times 6 (some .int), Cond.methodLink RX7 168 yX7_inTable, Cond.static yX7_inTable]
def wsX7_fill_r4 : List Cond := [Cond.code yX7_inTable cX7_inTable 5 (some .int), Cond.methodLink RX7 175 yX7_agree, Cond.static yX7_agree, Cond.code yX7_agree cX7_agree 2 (some .boolean)]
def wsX7_fill : List Cond := .code yX7_fill cX7_fill 4 (some .int) :: ((wsX7_fill_r1 ++ (wsX7_fill_r2 ++ (wsX7_fill_r3 ++ wsX7_fill_r4))) ++ wsX70)
def wsX7_odd_r1 : List Cond := [Cond.methodLink RX7 150 yX7_isTablet, Cond.static yX7_isTablet, Cond.initialized RX7, Cond.code yX7_isTablet cX7_isTablet 1 (some .boolean), Cond.constantLong RX7 110 (3), Cond.methodLink RX7 39 yX7_in, Cond.static yX7_in, Cond.code yX7_in cX7_in 6 (some .boolean), Cond.methodLink RX7 184 yX7_fits, Cond.instanceMethod yX7_fits, Cond.selects RX7 yX7_fits yX7_fits, Cond.code yX7_fits cX7_fits 3 (some .boolean), Cond.fieldLink RX7 25 "SixtyTabletModel" "rows" "[I", Cond.methodLink RX7 178 yX7_firstOf, Cond.static yX7_firstOf, Cond.code yX7_firstOf cX7_firstOf 1 (some .int), Cond.methodLink RX7 181 yX7_kindOf, Cond.static yX7_kindOf, Cond.code yX7_kindOf cX7_kindOf 1 (some .int), Cond.methodLink RX7 165 yX7_rowsOf, Cond.static yX7_rowsOf, Cond.code yX7_rowsOf cX7_rowsOf 1 (some .int), Cond.methodLink RX7 187 yX7_nOf, Cond.static yX7_nOf]
def wsX7_odd_r2 : List Cond := [Cond.code yX7_nOf cX7_nOf 1 (some .int), Cond.methodLink RX7 190 yX7_unlike, Cond.instanceMethod yX7_unlike, Cond.selects RX7 yX7_unlike yX7_unlike, Cond.code yX7_unlike cX7_unlike 11 (some .int), Cond.fieldLink RX7 28 "SixtyTabletModel" "cell" "[I", Cond.methodLink RX7 161 yX7_at, Cond.static yX7_at, Cond.code yX7_at cX7_at 3 (some .int), Cond.methodLink RX7 172 yX7_tableAt, Cond.instanceMethod yX7_tableAt, Cond.selects RX7 yX7_tableAt yX7_tableAt, Cond.code yX7_tableAt cX7_tableAt 5 (some .int), Cond.fieldLink RX7 31 "SixtyTabletModel" "overs" "[I", Cond.methodLink RX7 106 yX7_listAt, Cond.static yX7_listAt, Cond.code yX7_listAt cX7_listAt 3 (some .int), Cond.methodLink RX7 103 yX7_isListed, Cond.static yX7_isListed, Cond.code yX7_isListed cX7_isListed 2 (some .boolean), Cond.constantLong RX7 99 (2), Cond.constantLong RX7 101 (81), Cond.constantLong RX7 43 (60), Cond.methodLink RX7 88 yX7_isEven]
def wsX7_odd_r3 : List Cond := [Cond.static yX7_isEven, Cond.code yX7_isEven cX7_isEven 5 (some .boolean), Cond.methodLink RX7 96 yX7_turnedOf, Cond.static yX7_turnedOf, Cond.code yX7_turnedOf cX7_turnedOf 13 (some .long), Cond.constantLong RX7 84 (167961600000000), Cond.constantLong RX7 70 (-1), Cond.methodLink RX7 53 yX7_sixtyOf, Cond.static yX7_sixtyOf, Cond.code yX7_sixtyOf cX7_sixtyOf 4 (some .long), Cond.methodLink RX7 91 yX7_times, Cond.static yX7_times, Cond.code yX7_times cX7_times 6 (some .int), Cond.methodLink RX7 168 yX7_inTable, Cond.static yX7_inTable, Cond.code yX7_inTable cX7_inTable 5 (some .int), Cond.methodLink RX7 175 yX7_agree, Cond.static yX7_agree, Cond.code yX7_agree cX7_agree 2 (some .boolean)]
def wsX7_odd : List Cond := .code yX7_odd cX7_odd 5 (some .int) :: ((wsX7_odd_r1 ++ (wsX7_odd_r2 ++ wsX7_odd_r3)) ++ wsX70)
def wsX7_common : List Cond := .code yX7_common cX7_common 5 (some .int) :: ([])
def wsX7_triple_r1 : List Cond := [Cond.fieldLink RX7 28 "SixtyTabletModel" "cell" "[I", Cond.methodLink RX7 153 yX7_isRow, Cond.instanceMethod yX7_isRow, Cond.selects RX7 yX7_isRow yX7_isRow, Cond.initialized RX7, Cond.code yX7_isRow cX7_isRow 3 (some .boolean), Cond.fieldLink RX7 25 "SixtyTabletModel" "rows" "[I", Cond.methodLink RX7 150 yX7_isTablet, Cond.static yX7_isTablet, Cond.code yX7_isTablet cX7_isTablet 1 (some .boolean), Cond.constantLong RX7 110 (3), Cond.methodLink RX7 39 yX7_in, Cond.static yX7_in, Cond.code yX7_in cX7_in 6 (some .boolean), Cond.methodLink RX7 200 yX7_common, Cond.static yX7_common, Cond.code yX7_common cX7_common 5 (some .int), Cond.methodLink RX7 161 yX7_at, Cond.static yX7_at, Cond.code yX7_at cX7_at 3 (some .int), Cond.methodLink RX7 175 yX7_agree, Cond.static yX7_agree, Cond.code yX7_agree cX7_agree 2 (some .boolean), Cond.methodLink RX7 53 yX7_sixtyOf]
def wsX7_triple_r2 : List Cond := [Cond.static yX7_sixtyOf, Cond.code yX7_sixtyOf cX7_sixtyOf 4 (some .long), Cond.constantLong RX7 43 (60)]
def wsX7_triple : List Cond := .code yX7_triple cX7_triple 11 (some .int) :: ((wsX7_triple_r1 ++ wsX7_triple_r2) ++ wsX70)
def wsX7_join : List Cond := .code yX7_join cX7_join 7 (some .int) :: ([.constantLong RX7 82 (7), .fieldLink RX7 25 "SixtyTabletModel" "rows" "[I", .fieldLink RX7 28 "SixtyTabletModel" "cell" "[I", .methodLink RX7 150 yX7_isTablet, .static yX7_isTablet, .initialized RX7, .code yX7_isTablet cX7_isTablet 1 (some .boolean), .constantLong RX7 110 (3), .methodLink RX7 39 yX7_in, .static yX7_in, .code yX7_in cX7_in 6 (some .boolean), .methodLink RX7 175 yX7_agree, .static yX7_agree, .code yX7_agree cX7_agree 2 (some .boolean), .methodLink RX7 53 yX7_sixtyOf, .static yX7_sixtyOf, .code yX7_sixtyOf cX7_sixtyOf 4 (some .long), .constantLong RX7 43 (60)] ++ wsX70)
def wsX7_isCount : List Cond := .code yX7_isCount cX7_isCount 1 (some .boolean) :: ([.constantLong RX7 204 (1000000), .methodLink RX7 39 yX7_in, .static yX7_in, .initialized RX7, .code yX7_in cX7_in 6 (some .boolean)])
def wsX7_problem_r1 : List Cond := [Cond.constantLong RX7 206 (5), Cond.constantLong RX7 57 (-1000000000000000002), Cond.constantLong RX7 70 (-1), Cond.constantLong RX7 37 (167961599999999), Cond.constantLong RX7 211 (4), Cond.constantLong RX7 99 (2), Cond.constantLong RX7 94 (-1000000000000000005), Cond.methodLink RX7 39 yX7_in, Cond.static yX7_in, Cond.initialized RX7, Cond.code yX7_in cX7_in 6 (some .boolean), Cond.methodLink RX7 208 yX7_isCount, Cond.static yX7_isCount, Cond.code yX7_isCount cX7_isCount 1 (some .boolean), Cond.constantLong RX7 204 (1000000), Cond.methodLink RX7 88 yX7_isEven, Cond.static yX7_isEven, Cond.code yX7_isEven cX7_isEven 5 (some .boolean), Cond.methodLink RX7 96 yX7_turnedOf, Cond.static yX7_turnedOf, Cond.code yX7_turnedOf cX7_turnedOf 13 (some .long), Cond.constantLong RX7 84 (167961600000000), Cond.methodLink RX7 53 yX7_sixtyOf, Cond.static yX7_sixtyOf]
def wsX7_problem_r2 : List Cond := [Cond.code yX7_sixtyOf cX7_sixtyOf 4 (some .long), Cond.constantLong RX7 43 (60), Cond.methodLink RX7 91 yX7_times, Cond.static yX7_times, Cond.code yX7_times cX7_times 6 (some .int), Cond.methodLink RX7 112 yX7_whole, Cond.static yX7_whole, Cond.code yX7_whole cX7_whole 8 (some .long), Cond.constantLong RX7 115 (2000000000)]
def wsX7_problem : List Cond := .code yX7_problem cX7_problem 15 (some .long) :: ((wsX7_problem_r1 ++ wsX7_problem_r2))
def wsX7_unit : List Cond := .code yX7_unit cX7_unit 2 (some .int) :: ([.constantLong RX7 99 (2), .constantLong RX7 213 (100), .fieldLink RX7 215 "SixtyTabletModel" "steps" "I", .fieldLink RX7 22 "SixtyTabletModel" "step" "[I", .methodLink RX7 39 yX7_in, .static yX7_in, .initialized RX7, .code yX7_in cX7_in 6 (some .boolean)] ++ wsX70)
def wsX7_wipe : List Cond := .code yX7_wipe cX7_wipe 2 (some .int) :: ([.fieldLink RX7 215 "SixtyTabletModel" "steps" "I"] ++ wsX70)
def wsX7_units : List Cond := .code yX7_units cX7_units 7 (some .long) :: ([.fieldLink RX7 215 "SixtyTabletModel" "steps" "I", .constantLong RX7 140 (-1000000000000000001), .constantLong RX7 37 (167961599999999), .constantLong RX7 57 (-1000000000000000002), .fieldLink RX7 22 "SixtyTabletModel" "step" "[I", .methodLink RX7 39 yX7_in, .static yX7_in, .initialized RX7, .code yX7_in cX7_in 6 (some .boolean)] ++ wsX70)
def wsX7_told : List Cond := .code yX7_told cX7_told 4 (some .int) :: ([.constantLong RX7 99 (2), .constantLong RX7 206 (5), .fieldLink RX7 25 "SixtyTabletModel" "rows" "[I", .constantLong RX7 218 (6), .constantLong RX7 220 (9), .fieldLink RX7 28 "SixtyTabletModel" "cell" "[I", .fieldLink RX7 126 "SixtyTabletModel" "lines" "I", .fieldLink RX7 215 "SixtyTabletModel" "steps" "I", .methodLink RX7 39 yX7_in, .static yX7_in, .initialized RX7, .code yX7_in cX7_in 6 (some .boolean)] ++ wsX70)
def wsJ9_max_7cf53 : List Cond := .code yJ9_max_7cf53 cJ9_max_7cf53 2 (some .int) :: ([])
def wsJ9_min_7cf53 : List Cond := .code yJ9_min_7cf53 cJ9_min_7cf53 2 (some .int) :: ([])
def wsJ9_min_f86c9 : List Cond := .code yJ9_min_f86c9 cJ9_min_f86c9 4 (some .long) :: ([])
abbrev vwCl : List vw_C := [(RX0, TX0, 9), (RX3, TX3, 3), (RX5, TX5, 4), (RX6, TX6, 5), (RX7, TX7, 12)]
end
section
/-! The machine's side, general rows of mine: models are functions with an Option answer (none: an index outside, a divisor 0, no fuel); a method's contract says that it answers as its model does, where the model answers. -/
def kN : Nat := 5000
theorem md_t {α : Type} {c : Prop} [Decidable c] {a b : Option α} {r : Option α} (hc : c) (h : (if c then a else b) = r) : a = r := by rw [if_pos hc] at h; exact h
theorem md_f {α : Type} {c : Prop} [Decidable c] {a b : Option α} {r : Option α} (hc : ¬ c) (h : (if c then a else b) = r) : b = r := by rw [if_neg hc] at h; exact h
theorem md_g {α : Type} {c : Prop} [Decidable c] {k : Option α} {r : α} (h : (if c then none else k) = some r) : ¬ c ∧ k = some r := by
  by_cases hc : c
  · rw [if_pos hc] at h; cases h
  · rw [if_neg hc] at h; exact ⟨hc, h⟩
theorem md_b {α β : Type} {o : Option α} {k : α → Option β} {r : β} (h : Option.bind o k = some r) : ∃ x, o = some x ∧ k x = some r := Option.bind_eq_some_iff.mp h
def md_let {α β : Type} (e : α) (k : α → Option β) : Option β := k e
theorem md_le {α β : Type} {e y : α} {k : α → Option β} {r : Option β} (hy : y = e) (h : md_let e k = r) : k y = r := by subst hy; exact h
def md_jn {α β : Type} (F : α) (k : α → Option β) : Option β := k F
theorem md_jo {α β : Type} {F : α} {k : α → Option β} {r : Option β} (h : md_jn F k = r) : ∃ kJ, kJ = F ∧ k kJ = r := ⟨F, rfl, h⟩
theorem md_z {α : Type} {c : Prop} [Decidable c] {k : Option α} {r : α} (h : (if c then k else none) = some r) : c ∧ k = some r := by
  by_cases hc : c
  · rw [if_pos hc] at h; exact ⟨hc, h⟩
  · rw [if_neg hc] at h; cases h
theorem md_x {α : Type} {r : α} {P : Prop} (h : (none : Option α) = some r) : P := by cases h
/-- what holds in the body of a method -/
def kc (p : Program) (s : State) (m : MethodId) (args : Array Value) (meth : Method) (c : Code) (cc : ByteArray) (nL : Nat) (own nm : String) (ws : List Cond) (rt : Option FieldType) : Prop :=
  p.tables.exec = Jvm.exec ∧ c.code = cc ∧ c.maxLocals = nL ∧ s.vm.findClass own = some m.cls ∧ (∀ w ∈ ws, w.before args s = true) ∧ meth.sig.returnType = rt ∧ meth.locks = false ∧ meth.name = nm
theorem km {l : Launch} {y : MethodName} {ws ws' : List Cond} {rm : Room} {av : List Value} {B : State → Prop} {Qc : Array Value → State → Outcome → State → Prop} {mc ms : Nat} {free : Addr → Prop} {cc : ByteArray} {maxL : Nat} {ret : Option FieldType}
    (hy : plainName y.cls = true) (hw : ws = Cond.code y cc maxL ret :: ws') (hn : (lg_sl av).length ≤ maxL)
    (body : ∀ (p : Program) (e : Env) (s : State) (m : MethodId) (below : List Frame) (meth : Method) (c : Code) (ls : Array Slot), kc p s m av.toArray meth c cc maxL y.cls y.name ws ret → B s → lv_has ls maxL (lv_args 0 av) → W p l e rm s m av.toArray below meth c s.heap [] 0 0 (MQ below Qc av.toArray s mc ms free) (F0 m 0 ls [])) : Met l y ws rm (va_Pc av B) Qc mc ms free := by
  refine Met.ofW (cc := cc) (maxL := maxL) (ret := ret) hy hw ?_
  intro p e s m args below meth c s₁ B0 hml hv
  obtain ⟨rfl, hB⟩ := hv
  have hts := atoms_spec (ws := ws) B0.pre
  have hl := lv_entry av (n := maxL) hn
  rw [lg_entry_eq]
  exact body p e s m below meth c _ ⟨B0.exec, B0.bytes, hml, findClass_of_methodNamed B0.named, hts, B0.returns, B0.notSynchronized, (name_of_methodNamed B0.named B0.method).1⟩ hB hl
/-- the answer of a method that only reads -/
def kR (v : Value) : Array Value → State → Outcome → State → Prop := fun _ st oc t => oc = .returned (some v) ∧ t.heap = st.heap
/-- the answer of a method that writes its world's cells and makes none -/
def kX (v : Option Value) (D : va_G) (cells : va_W) (A : Nat → Prop) : Array Value → State → Outcome → State → Prop := fun _ st oc t => oc = .returned v ∧ va_P D vwCl cells t.heap ∧ va_F A st t
abbrev kTy (cI cT : ClassId) : List (ClassId × FieldType) := [(cI, .int), (cT, .object "SixtyTablet$Tablet")]
def kLst : List Int32 := [2, 3, 4, 5, 6, 8, 9, 10, 12, 15, 16, 18, 20, 24, 25, 27, 30, 32, 36, 40, 45, 48, 50, 54, 64, 72, 75, 80, 81]
def kLf (j : Nat) : Int32 := kLst.getD j 0
abbrev kLz (a : Nat) (A : Nat → Prop) (U : State) (H : Heap) : Prop := va_Z "SixtyTablet$Turning" "LIST" "[I" (.ref a) A U H ∧ va_T .int a 29 (fun j => .int (kLf j)) A U H
/-- a world: the tables' classes, the cells, and THE LIST where it is asked for -/
def kW (D : va_G) (cI cT : ClassId) (cells : va_W) (aL : Option Nat) (A : Nat → Prop) (U : State) : Prop := va_K D vwCl (kTy cI cT) U ∧ va_P D vwCl cells U.heap ∧ ∀ a, aL = some a → kLz a A U U.heap
theorem kW_blind {D : va_G} {cI cT : ClassId} {cells : va_W} {aL : Option Nat} {A : Nat → Prop} {As : List Value} : FrameBlind (va_Pc As (kW D cI cT cells aL A)) := fun a U g mk q =>
  ⟨q.1, va_K.moved (u := U) (U := U.calling g mk a) (Vm.Alike.refl U.vm) q.2.1, q.2.2.1, fun x hx => ⟨va_Z.moved (u := U) (U := U.calling g mk a) (Vm.Alike.refl U.vm) (q.2.2.2 x hx).1, va_T.moved (u := U) (U := U.calling g mk a) (Vm.Alike.refl U.vm) (q.2.2.2 x hx).2⟩⟩
theorem kT_blind {As : List Value} : FrameBlind (va_Pc As (fun _ => True)) := fun _ _ _ _ q => ⟨q.1, trivial⟩
theorem kW_use {D : va_G} {cI cT : ClassId} {wc : va_W} {aL : Option Nat} {A : Nat → Prop} {s : State} {H : Heap} (hK : va_K D vwCl (kTy cI cT) s) (hP : va_P D vwCl wc H) (hL : ∀ a, aL = some a → kLz a A s H) : ∀ U : State, U.heap = H → s.WarmedH U.vm → kW D cI cT wc aL A U := fun U hU hW =>
  ⟨va_K.moved hW.alike hK, by rw [hU]; exact hP, fun a ha => by rw [hU]; exact ⟨va_Z.moved hW.alike (hL a ha).1, va_T.moved hW.alike (hL a ha).2⟩⟩
theorem kL_no {A : Nat → Prop} {s : State} {H : Heap} : ∀ a, (none : Option Nat) = some a → kLz a A s H := fun _ h => nomatch h
theorem kL_ro {a : Nat} {A B : Nat → Prop} {s : State} {H : Heap} (h : kLz a A s H) (hAB : ∀ q, B q → A q) : ∀ x, some a = some x → kLz x B s H := fun x hx => by
  cases hx
  exact ⟨va_Z.narrow h.1 hAB, va_T.narrow h.2 hAB⟩
theorem kL_at {a : Nat} {A B : Nat → Prop} {s : State} {H : Heap} {locs : List Loc} (h : kLz a A s s.heap) (hS : va_S A s.heap H locs) (hAB : ∀ q, B q → A q) : ∀ x, some a = some x → kLz x B s H := kL_ro ⟨va_Z.kept h.1 hS.2.1, va_T.kept h.2 hS.2.1⟩ hAB
theorem kNd {l : List Nat} (h : l.Nodup) {i j a : Nat} (hi : l[i]? = some a) (hj : l[j]? = some a) : i = j := by
  obtain ⟨hi1, e1⟩ := List.getElem?_eq_some_iff.mp hi
  obtain ⟨hj1, e2⟩ := List.getElem?_eq_some_iff.mp hj
  have hp := List.pairwise_iff_getElem.mp h
  rcases Nat.lt_trichotomy i j with q | q | q
  · exact absurd (e1.trans e2.symm) (hp i j hi1 hj1 q)
  · exact q
  · exact absurd (e2.trans e1.symm) (hp j i hj1 hi1 q)
theorem kD {ad : List Nat} {ws : va_W} (hn : ad.Nodup) (h : ws.map Prod.fst = ad) : va_D (fun q => q ∈ ad) ws := by
  subst h
  refine ⟨fun i j p q hi hj e => ?_, fun k q hk => ?_⟩
  · have h1 : (ws.map Prod.fst)[i]? = some p.1 := by rw [List.getElem?_map, hi]; rfl
    have h2 : (ws.map Prod.fst)[j]? = some p.1 := by rw [List.getElem?_map, hj, e]; rfl
    exact kNd hn h1 h2
  · exact List.mem_map.mpr ⟨q, List.mem_of_getElem? hk, rfl⟩
theorem va_P0 {D : va_G} {H : Heap} : va_P D vwCl [] H := fun k q h => by simp at h
theorem mem_sub {ad adc : List Nat} (is : List Nat) (h : is.map (fun i => ad[i]?) = adc.map some) : ∀ q, q ∈ adc → q ∈ ad := fun q hq => by
  have hmm : some q ∈ adc.map some := List.mem_map.mpr ⟨_, hq, rfl⟩
  rw [← h] at hmm
  obtain ⟨i, -, hi⟩ := List.mem_map.mp hmm
  exact List.mem_of_getElem? hi
theorem nd_sub {ad adc : List Nat} (hnd : ad.Nodup) (is : List Nat) (hn : is.Nodup) (h : is.map (fun i => ad[i]?) = adc.map some) : adc.Nodup := by
  refine List.pairwise_iff_getElem.mpr (fun i j hi hj hij e => ?_)
  have e1 : (adc.map some)[i]? = some (some adc[i]) := by rw [List.getElem?_map, List.getElem?_eq_getElem hi]; rfl
  have e2 : (adc.map some)[j]? = some (some adc[j]) := by rw [List.getElem?_map, List.getElem?_eq_getElem hj]; rfl
  rw [← h, List.getElem?_map] at e1 e2
  obtain ⟨a, ha, hae⟩ := Option.map_eq_some_iff.mp e1
  obtain ⟨b, hb, hbe⟩ := Option.map_eq_some_iff.mp e2
  rw [← e] at hbe
  have hab : a = b := kNd hnd hae hbe
  subst hab
  exact absurd (kNd hn ha hb) (Nat.ne_of_lt hij)
/-- behind a call: the callee's cells as they are now, the others as they were -/
theorem kjoin {D : va_G} {ws wc1 ws1 : va_W} {H H1 : Heap} {ad adc : List Nat} (hnd : ad.Nodup) (ha : ws.map Prod.fst = ad) (hP : va_P D vwCl ws H) (hP1 : va_P D vwCl wc1 H1) (hk : ∀ q : Nat, q < H.size → ¬ q ∈ adc → H1[q]? = H[q]?)
    (isC : List Nat) (hC : isC.map (fun i => ad[i]?) = adc.map some) (pm : List (Bool × Nat)) (hpm : pm.map (fun x => match x with | (true, i) => wc1[i]? | (false, i) => ws[i]?) = ws1.map some) (hdis : pm.all (fun x => x.1 || !isC.contains x.2) = true) : va_P D vwCl ws1 H1 := by
  intro k q hq
  have h1 : (ws1.map some)[k]? = some (some q) := by rw [List.getElem?_map, hq]; rfl
  rw [← hpm, List.getElem?_map] at h1
  obtain ⟨⟨b, i⟩, hb, hbi⟩ := Option.map_eq_some_iff.mp h1
  cases b with
  | true => exact hP1 i q hbi
  | false =>
    have hbi : ws[i]? = some q := hbi
    refine (hP i q hbi).kept (hk q.1 ((hP i q hbi).lt) ?_)
    intro hm
    have hx := List.all_eq_true.mp hdis _ (List.mem_of_getElem? hb)
    simp only [Bool.false_or, Bool.not_eq_true', List.contains_eq_mem, decide_eq_false_iff_not] at hx
    have hmm : some q.1 ∈ adc.map some := List.mem_map.mpr ⟨_, hm, rfl⟩
    rw [← hC] at hmm
    obtain ⟨j, hj, hje⟩ := List.mem_map.mp hmm
    have hie : ad[i]? = some q.1 := by rw [← ha, List.getElem?_map, hbi]; rfl
    exact hx (kNd hnd hie hje ▸ hj)
section KK
variable {p : Program} {l : Launch} {e : Env} {R : Room} {s : State} {m : MethodId} {args : Array Value} {below : List Frame} {meth : Method} {c : Code} {H : Heap} {locs : List Loc} {cells slots : Nat} {Q : State → Prop}
variable {cc : ByteArray} {nL : Nat} {own nm : String} {Ts : List Cond} {rt : Option FieldType} {pc : Nat} {ls : Array Slot} {st rest : List Value}
theorem kr_i (C : kc p s m args meth c cc nL own nm Ts (some .int)) {v res : Int32} (h : some v = some res) (hdg : decode cc pc = .ok (.ireturn, 1)) : W p l e R s m args below meth c s.heap [] 0 0 (MQ below (kR (.int res)) args s 0 0 (fun _ => False)) (F0 m pc ls [.int v]) := by
  obtain ⟨hx, hb, -, -, -, hr, hlk, -⟩ := C
  obtain rfl := Option.some.inj h
  exact W.iret hx hb hr (fun t ht _ => ⟨rfl, ht⟩) (fun q hq => by cases hq) hdg (hlocks := hlk)
theorem kr_z (C : kc p s m args meth c cc nL own nm Ts (some .boolean)) {v res : Int32} (hz : v = 0 ∨ v = 1) (h : some v = some res) (hdg : decode cc pc = .ok (.ireturn, 1)) : W p l e R s m args below meth c s.heap [] 0 0 (MQ below (kR (.int res)) args s 0 0 (fun _ => False)) (F0 m pc ls [.int v]) := by
  obtain ⟨hx, hb, -, -, -, hr, hlk, -⟩ := C
  obtain rfl := Option.some.inj h
  exact W.zret hx hb hr (by rcases hz with rfl | rfl <;> decide) (fun t ht _ => ⟨rfl, ht⟩) (fun q hq => by cases hq) hdg (hlocks := hlk)
theorem kr_l (C : kc p s m args meth c cc nL own nm Ts (some .long)) {v res : Int64} (h : some v = some res) (hdg : decode cc pc = .ok (.lreturn, 1)) : W p l e R s m args below meth c s.heap [] 0 0 (MQ below (kR (.long res)) args s 0 0 (fun _ => False)) (F0 m pc ls [.long v]) := by
  obtain ⟨hx, hb, -, -, -, hr, hlk, -⟩ := C
  obtain rfl := Option.some.inj h
  exact W.lret hx hb hr (fun t ht _ => ⟨rfl, ht⟩) (fun q hq => by cases hq) hdg (hlocks := hlk)
theorem kr_a {n : String} (C : kc p s m args meth c cc nL own nm Ts (some (.object n))) {v : Value} (hv : v = .null ∨ ∃ a, v = .ref a) (hdg : decode cc pc = .ok (.areturn, 1)) : W p l e R s m args below meth c s.heap [] 0 0 (MQ below (kR v) args s 0 0 (fun _ => False)) (F0 m pc ls [v]) := by
  obtain ⟨hx, hb, -, -, -, hr, hlk, -⟩ := C
  exact W.aret hx hb hr (Or.inl ⟨n, rfl⟩) hv (fun t ht _ => ⟨rfl, ht⟩) (fun q hq => by cases hq) hdg (hlocks := hlk)
theorem kx_i {D : va_G} {w : va_W} {A : Nat → Prop} (C : kc p s m args meth c cc nL own nm Ts (some .int)) {v : Int32} (hP : va_P D vwCl w H) (hS : va_S A s.heap H locs) (hdg : decode cc pc = .ok (.ireturn, 1)) : W p l e R s m args below meth c H locs 0 0 (MQ below (kX (some (.int v)) D w A) args s 0 0 A) (F0 m pc ls [.int v]) := by
  obtain ⟨hx, hb, -, -, -, hr, hlk, -⟩ := C
  exact W.iret hx hb hr (fun t ht _ => ⟨rfl, by rw [ht]; exact hP, hS.F ht⟩) hS.2.2 hdg (hlocks := hlk)
theorem kx_z {D : va_G} {w : va_W} {A : Nat → Prop} (C : kc p s m args meth c cc nL own nm Ts (some .boolean)) {v : Int32} (hz : v = 0 ∨ v = 1) (hP : va_P D vwCl w H) (hS : va_S A s.heap H locs) (hdg : decode cc pc = .ok (.ireturn, 1)) : W p l e R s m args below meth c H locs 0 0 (MQ below (kX (some (.int v)) D w A) args s 0 0 A) (F0 m pc ls [.int v]) := by
  obtain ⟨hx, hb, -, -, -, hr, hlk, -⟩ := C
  exact W.zret hx hb hr (by rcases hz with rfl | rfl <;> decide) (fun t ht _ => ⟨rfl, by rw [ht]; exact hP, hS.F ht⟩) hS.2.2 hdg (hlocks := hlk)
theorem kx_l {D : va_G} {w : va_W} {A : Nat → Prop} (C : kc p s m args meth c cc nL own nm Ts (some .long)) {v : Int64} (hP : va_P D vwCl w H) (hS : va_S A s.heap H locs) (hdg : decode cc pc = .ok (.lreturn, 1)) : W p l e R s m args below meth c H locs 0 0 (MQ below (kX (some (.long v)) D w A) args s 0 0 A) (F0 m pc ls [.long v]) := by
  obtain ⟨hx, hb, -, -, -, hr, hlk, -⟩ := C
  exact W.lret hx hb hr (fun t ht _ => ⟨rfl, by rw [ht]; exact hP, hS.F ht⟩) hS.2.2 hdg (hlocks := hlk)
theorem kx_v {D : va_G} {w : va_W} {A : Nat → Prop} (C : kc p s m args meth c cc nL own nm Ts none) (hP : va_P D vwCl w H) (hS : va_S A s.heap H locs) (hdg : decode cc pc = .ok (.return_, 1)) : W p l e R s m args below meth c H locs 0 0 (MQ below (kX none D w A) args s 0 0 A) (F0 m pc ls []) := by
  obtain ⟨hx, hb, -, -, -, hr, hlk, -⟩ := C
  exact W.vret hx hb hr (fun t ht _ => ⟨rfl, by rw [ht]; exact hP, hS.F ht⟩) hS.2.2 hdg (hlocks := hlk)
theorem kcr {v : Value} {a : Array Value} (hr : CallRun p l e R s m args below meth c H locs cells slots 0 0 (F0 m pc ls st) rest (kR v a) (fun _ => False))
    (kk : W p l e R s m args below meth c H locs cells slots Q (F0 m (pc + 3) ls (v :: rest))) : W p l e R s m args below meth c H locs cells slots Q (F0 m pc ls st) := by
  intro T hT X
  obtain ⟨v', st₀, t, T', L, h0, X', hL, e1, ⟨hv, hh⟩, stp⟩ := hr T hT X
  cases hv
  obtain ⟨t2, a1, b1⟩ := kk T' (by rw [e1, hh, h0]) (Stand.forget X' (fun q h => (hL q h).elim))
  exact ⟨t2, stp t2 a1, b1⟩
theorem kcx {D : va_G} {wc1 : va_W} {A0 A1 : Nat → Prop} {v : Option Value} {a : Array Value} (hr : CallRun p l e R s m args below meth c H locs cells slots 0 0 (F0 m pc ls st) rest (kX v D wc1 A1 a) A1) (hS : va_S A0 s.heap H locs) (hA : ∀ q, A1 q → A0 q)
    (kk : ∀ (H1 : Heap) (locs1 : List Loc), va_P D vwCl wc1 H1 → (∀ q : Nat, q < H.size → ¬ A1 q → H1[q]? = H[q]?) → va_S A0 s.heap H1 locs1 → W p l e R s m args below meth c H1 locs1 cells slots Q (F0 m (pc + 3) ls (v.toList ++ rest))) : W p l e R s m args below meth c H locs cells slots Q (F0 m pc ls st) := by
  intro T hT X
  obtain ⟨v', st₀, t, T', L, h0, X', hL, e1, ⟨hv, hp, hz, hk⟩, stp⟩ := hr T hT X
  cases hv
  rw [h0] at hz hk
  have hk' : ∀ q : Nat, q < H.size → ¬ A1 q → t.heap[q]? = H[q]? := hk
  refine (kk t.heap (locs ++ L) hp hk' ⟨Nat.le_trans hS.1 hz, fun q h1 h2 => ?_, fun x hx => ?_⟩ T' e1 X').elim (fun t2 h2 => ⟨t2, stp t2 h2.1, h2.2⟩)
  · rw [hk' q (Nat.lt_of_lt_of_le h1 hS.1) (fun z => h2 (hA q z))]
    exact hS.2.1 q h1 h2
  · rcases List.mem_append.mp hx with h | h
    · exact hS.2.2 x h
    · exact hA _ (hL x h)
variable {y : MethodName} {ws ws' : List Cond} {rm : Room} {As : List Value} {B : State → Prop} {index maxL n : Nat} {bytes : ByteArray} {ret : Option FieldType} {lv : List (Nat × Value)} {b : Addr} {Cn : String}
theorem kS {v : Value} (C : kc p s m args meth c cc nL own nm Ts rt) (hM : Met l y ws rm (va_Pc As B) (kR v) 0 0 (fun _ => False)) (hG : GoodIn Ts (va_wsS own index y ws)) (hw : ws = Cond.code y bytes maxL ret :: ws')
    (hd : y.cls ≠ "java/lang/invoke/MethodHandle" ∧ y.cls ≠ "java/lang/invoke/VarHandle" ∧ (parseMethodDescriptor y.desc).map (fun d => d.parameters.length) = some n) (hrm : rm.cells = 0 ∧ rm.slots = 0) (hR : rm.frames + 1 ≤ R.frames ∧ 8 + (maxL + 11) + rm.locals ≤ R.locals)
    (hbl : FrameBlind (va_Pc As B)) (hB : ∀ U : State, U.heap = H → s.WarmedH U.vm → B U) (hn : As.length = n) (hl : lv_has ls nL lv) (rest : List Value) (hst : st = As.reverse ++ rest) (hrest : (rest.map fun v => v.category).sum ≤ 8) (hdg : decode cc pc = .ok (.invokestatic index, 3)) (hcs : cells ≤ R.cells ∧ slots ≤ R.slots)
    (kk : W p l e R s m args below meth c H locs cells slots Q (F0 m (pc + 3) ls (v :: rest))) : W p l e R s m args below meth c H locs cells slots Q (F0 m pc ls st) := by
  obtain ⟨hx, hb, hml, hown, hts, -⟩ := C
  exact kcr (W.runS ⟨hx, hb, hml, hown, hts⟩ hM (va_cwS n hts hG hw hrm.1 hrm.2 hd hR) ⟨hbl, fun U hU hW => ⟨rfl, hB U hU hW⟩⟩ rfl hn hl.1 hst (lv_room hrest) hdg hcs) kk
theorem kV {v : Value} (C : kc p s m args meth c cc nL own nm Ts rt) (hM : Met l y ws rm (va_Pc (.ref b :: As) B) (kR v) 0 0 (fun _ => False)) (hG : GoodIn Ts (wsV own index Cn y ws)) (hw : ws = Cond.code y bytes maxL ret :: ws')
    (hd : y.cls = Cn ∧ y.cls ≠ "java/lang/invoke/MethodHandle" ∧ y.cls ≠ "java/lang/invoke/VarHandle" ∧ (parseMethodDescriptor y.desc).map (fun d => d.parameters.length) = some n) (hrm : rm.cells = 0 ∧ rm.slots = 0) (hR : rm.frames + 1 ≤ R.frames ∧ 8 + (maxL + 11) + rm.locals ≤ R.locals)
    (hbl : FrameBlind (va_Pc (.ref b :: As) B)) (hrc : ∃ cellB : Cell, H[b]? = some cellB ∧ cellB.vm.isStatics = false ∧ s.vm.findClass Cn = some cellB.cls) (hB : ∀ U : State, U.heap = H → s.WarmedH U.vm → B U) (hn : As.length = n) (hl : lv_has ls nL lv) (rest : List Value) (hst : st = As.reverse ++ .ref b :: rest) (hrest : (rest.map fun v => v.category).sum ≤ 8) (hdg : decode cc pc = .ok (.invokevirtual index, 3)) (hcs : cells ≤ R.cells ∧ slots ≤ R.slots)
    (kk : W p l e R s m args below meth c H locs cells slots Q (F0 m (pc + 3) ls (v :: rest))) : W p l e R s m args below meth c H locs cells slots Q (F0 m pc ls st) := by
  obtain ⟨hx, hb, hml, hown, hts, -⟩ := C
  exact kcr (W.runV ⟨hx, hb, hml, hown, hts⟩ hM (cwV n hts hG hw hrm.1 hrm.2 hd hR) ⟨hbl, hrc, fun U hU hW => ⟨rfl, hB U hU hW⟩⟩ rfl hn hl.1 hst (lv_room hrest) hdg hcs) kk
theorem kVx {D : va_G} {wc1 : va_W} {A0 A1 : Nat → Prop} {v : Option Value} (C : kc p s m args meth c cc nL own nm Ts rt) (hM : Met l y ws rm (va_Pc (.ref b :: As) B) (kX v D wc1 A1) 0 0 A1) (hG : GoodIn Ts (wsV own index Cn y ws)) (hw : ws = Cond.code y bytes maxL ret :: ws')
    (hd : y.cls = Cn ∧ y.cls ≠ "java/lang/invoke/MethodHandle" ∧ y.cls ≠ "java/lang/invoke/VarHandle" ∧ (parseMethodDescriptor y.desc).map (fun d => d.parameters.length) = some n) (hrm : rm.cells = 0 ∧ rm.slots = 0) (hR : rm.frames + 1 ≤ R.frames ∧ 8 + (maxL + 11) + rm.locals ≤ R.locals)
    (hbl : FrameBlind (va_Pc (.ref b :: As) B)) (hrc : ∃ cellB : Cell, H[b]? = some cellB ∧ cellB.vm.isStatics = false ∧ s.vm.findClass Cn = some cellB.cls) (hB : ∀ U : State, U.heap = H → s.WarmedH U.vm → B U) (hn : As.length = n) (hl : lv_has ls nL lv) (rest : List Value) (hst : st = As.reverse ++ .ref b :: rest) (hrest : (rest.map fun v => v.category).sum ≤ 8) (hdg : decode cc pc = .ok (.invokevirtual index, 3)) (hcs : cells ≤ R.cells ∧ slots ≤ R.slots)
    (hS : va_S A0 s.heap H locs) (hA : ∀ q, A1 q → A0 q)
    (kk : ∀ (H1 : Heap) (locs1 : List Loc), va_P D vwCl wc1 H1 → (∀ q : Nat, q < H.size → ¬ A1 q → H1[q]? = H[q]?) → va_S A0 s.heap H1 locs1 → W p l e R s m args below meth c H1 locs1 cells slots Q (F0 m (pc + 3) ls (v.toList ++ rest))) : W p l e R s m args below meth c H locs cells slots Q (F0 m pc ls st) := by
  obtain ⟨hx, hb, hml, hown, hts, -⟩ := C
  exact kcx (W.runV ⟨hx, hb, hml, hown, hts⟩ hM (cwV n hts hG hw hrm.1 hrm.2 hd hR) ⟨hbl, hrc, fun U hU hW => ⟨rfl, hB U hU hW⟩⟩ rfl hn hl.1 hst (lv_room hrest) hdg hcs) hS hA kk
end KK
end
section
theorem dX0_init_0 : decode cX0_init 0 = .ok (.aload_n 0, 1) := by decide +kernel
theorem dX0_init_1 : decode cX0_init 1 = .ok (.invokespecial 1, 3) := by decide +kernel
theorem dX0_init_4 : decode cX0_init 4 = .ok (.aload_n 0, 1) := by decide +kernel
theorem dX0_init_5 : decode cX0_init 5 = .ok (.bipush 24, 2) := by decide +kernel
theorem dX0_init_7 : decode cX0_init 7 = .ok (.newarray .int, 2) := by decide +kernel
theorem dX0_init_9 : decode cX0_init 9 = .ok (.putfield 9, 3) := by decide +kernel
theorem dX0_init_12 : decode cX0_init 12 = .ok (.aload_n 0, 1) := by decide +kernel
theorem dX0_init_13 : decode cX0_init 13 = .ok (.bipush 24, 2) := by decide +kernel
theorem dX0_init_15 : decode cX0_init 15 = .ok (.newarray .int, 2) := by decide +kernel
theorem dX0_init_17 : decode cX0_init 17 = .ok (.putfield 15, 3) := by decide +kernel
theorem dX0_init_20 : decode cX0_init 20 = .ok (.aload_n 0, 1) := by decide +kernel
theorem dX0_init_21 : decode cX0_init 21 = .ok (.bipush 24, 2) := by decide +kernel
theorem dX0_init_23 : decode cX0_init 23 = .ok (.newarray .int, 2) := by decide +kernel
theorem dX0_init_25 : decode cX0_init 25 = .ok (.putfield 18, 3) := by decide +kernel
theorem dX0_init_28 : decode cX0_init 28 = .ok (.aload_n 0, 1) := by decide +kernel
theorem dX0_init_29 : decode cX0_init 29 = .ok (.bipush 24, 2) := by decide +kernel
theorem dX0_init_31 : decode cX0_init 31 = .ok (.newarray .int, 2) := by decide +kernel
theorem dX0_init_33 : decode cX0_init 33 = .ok (.putfield 21, 3) := by decide +kernel
theorem dX0_init_36 : decode cX0_init 36 = .ok (.aload_n 0, 1) := by decide +kernel
theorem dX0_init_37 : decode cX0_init 37 = .ok (.iconst 0, 1) := by decide +kernel
theorem dX0_init_38 : decode cX0_init 38 = .ok (.putfield 24, 3) := by decide +kernel
theorem dX0_init_41 : decode cX0_init 41 = .ok (.aload_n 0, 1) := by decide +kernel
theorem dX0_init_42 : decode cX0_init 42 = .ok (.iconst 1, 1) := by decide +kernel
theorem dX0_init_43 : decode cX0_init 43 = .ok (.putfield 28, 3) := by decide +kernel
theorem dX0_init_46 : decode cX0_init 46 = .ok (.aload_n 0, 1) := by decide +kernel
theorem dX0_init_47 : decode cX0_init 47 = .ok (.iconst 0, 1) := by decide +kernel
theorem dX0_init_48 : decode cX0_init 48 = .ok (.putfield 33, 3) := by decide +kernel
theorem dX0_init_51 : decode cX0_init 51 = .ok (.aload_n 0, 1) := by decide +kernel
theorem dX0_init_52 : decode cX0_init 52 = .ok (.iconst 1, 1) := by decide +kernel
theorem dX0_init_53 : decode cX0_init 53 = .ok (.putfield 36, 3) := by decide +kernel
theorem dX0_init_56 : decode cX0_init 56 = .ok (.aload_n 0, 1) := by decide +kernel
theorem dX0_init_57 : decode cX0_init 57 = .ok (.iconst (-1), 1) := by decide +kernel
theorem dX0_init_58 : decode cX0_init 58 = .ok (.putfield 39, 3) := by decide +kernel
theorem dX0_init_61 : decode cX0_init 61 = .ok (.return_, 1) := by decide +kernel
set_option maxRecDepth 20000 in
theorem ggX0_begin_X3_rowCount : GoodIn wsX0_begin wsX3_rowCount := goodIn_r _ [13, 14, 34, 35, 36] (by decide +kernel) (by decide +kernel)
set_option maxRecDepth 20000 in
theorem gX0_begin_X3_rowCount : GoodIn wsX0_begin (wsV RX0 42 RX3 yX3_rowCount wsX3_rowCount) := goodIn_app (goodIn_of _ (by decide +kernel)) ggX0_begin_X3_rowCount
set_option maxRecDepth 20000 in
theorem ggX0_begin_X3_held : GoodIn wsX0_begin wsX3_held := goodIn_r _ [18, 19, 34, 35, 36] (by decide +kernel) (by decide +kernel)
set_option maxRecDepth 20000 in
theorem gX0_begin_X3_held : GoodIn wsX0_begin (wsV RX0 46 RX3 yX3_held wsX3_held) := goodIn_app (goodIn_of _ (by decide +kernel)) ggX0_begin_X3_held
set_option maxRecDepth 20000 in
theorem ggX0_begin_X3_heldSixty : GoodIn wsX0_begin wsX3_heldSixty := goodIn_r _ [23, 24, 34, 35, 36] (by decide +kernel) (by decide +kernel)
set_option maxRecDepth 20000 in
theorem gX0_begin_X3_heldSixty : GoodIn wsX0_begin (wsV RX0 50 RX3 yX3_heldSixty wsX3_heldSixty) := goodIn_app (goodIn_of _ (by decide +kernel)) ggX0_begin_X3_heldSixty
theorem dX0_begin_0 : decode cX0_begin 0 = .ok (.aload_n 0, 1) := by decide +kernel
theorem dX0_begin_1 : decode cX0_begin 1 = .ok (.iconst 0, 1) := by decide +kernel
theorem dX0_begin_2 : decode cX0_begin 2 = .ok (.putfield 33, 3) := by decide +kernel
theorem dX0_begin_5 : decode cX0_begin 5 = .ok (.aload_n 0, 1) := by decide +kernel
theorem dX0_begin_6 : decode cX0_begin 6 = .ok (.iconst 1, 1) := by decide +kernel
theorem dX0_begin_7 : decode cX0_begin 7 = .ok (.putfield 36, 3) := by decide +kernel
theorem dX0_begin_10 : decode cX0_begin 10 = .ok (.aload_n 0, 1) := by decide +kernel
theorem dX0_begin_11 : decode cX0_begin 11 = .ok (.iconst (-1), 1) := by decide +kernel
theorem dX0_begin_12 : decode cX0_begin 12 = .ok (.putfield 39, 3) := by decide +kernel
theorem dX0_begin_15 : decode cX0_begin 15 = .ok (.aload_n 0, 1) := by decide +kernel
theorem dX0_begin_16 : decode cX0_begin 16 = .ok (.aload_n 1, 1) := by decide +kernel
theorem dX0_begin_17 : decode cX0_begin 17 = .ok (.invokevirtual 42, 3) := by decide +kernel
theorem dX0_begin_20 : decode cX0_begin 20 = .ok (.putfield 28, 3) := by decide +kernel
theorem dX0_begin_23 : decode cX0_begin 23 = .ok (.aload_n 0, 1) := by decide +kernel
theorem dX0_begin_24 : decode cX0_begin 24 = .ok (.iconst 0, 1) := by decide +kernel
theorem dX0_begin_25 : decode cX0_begin 25 = .ok (.putfield 24, 3) := by decide +kernel
theorem dX0_begin_28 : decode cX0_begin 28 = .ok (.iconst 0, 1) := by decide +kernel
theorem dX0_begin_29 : decode cX0_begin 29 = .ok (.istore_n 2, 1) := by decide +kernel
theorem dX0_begin_30 : decode cX0_begin 30 = .ok (.iload_n 2, 1) := by decide +kernel
theorem dX0_begin_31 : decode cX0_begin 31 = .ok (.aload_n 0, 1) := by decide +kernel
theorem dX0_begin_32 : decode cX0_begin 32 = .ok (.getfield 28, 3) := by decide +kernel
theorem dX0_begin_35 : decode cX0_begin 35 = .ok (.iconst 3, 1) := by decide +kernel
theorem dX0_begin_36 : decode cX0_begin 36 = .ok (.imul, 1) := by decide +kernel
theorem dX0_begin_37 : decode cX0_begin 37 = .ok (.if_icmp .ge 97, 3) := by decide +kernel
theorem dX0_begin_40 : decode cX0_begin 40 = .ok (.iload_n 2, 1) := by decide +kernel
theorem dX0_begin_41 : decode cX0_begin 41 = .ok (.bipush 24, 2) := by decide +kernel
theorem dX0_begin_43 : decode cX0_begin 43 = .ok (.if_icmp .ge 91, 3) := by decide +kernel
theorem dX0_begin_46 : decode cX0_begin 46 = .ok (.iload_n 2, 1) := by decide +kernel
theorem dX0_begin_47 : decode cX0_begin 47 = .ok (.iconst 3, 1) := by decide +kernel
theorem dX0_begin_48 : decode cX0_begin 48 = .ok (.idiv, 1) := by decide +kernel
theorem dX0_begin_49 : decode cX0_begin 49 = .ok (.istore_n 3, 1) := by decide +kernel
theorem dX0_begin_50 : decode cX0_begin 50 = .ok (.iload_n 2, 1) := by decide +kernel
theorem dX0_begin_51 : decode cX0_begin 51 = .ok (.iconst 3, 1) := by decide +kernel
theorem dX0_begin_52 : decode cX0_begin 52 = .ok (.irem, 1) := by decide +kernel
theorem dX0_begin_53 : decode cX0_begin 53 = .ok (.istore 4, 2) := by decide +kernel
theorem dX0_begin_55 : decode cX0_begin 55 = .ok (.aload_n 1, 1) := by decide +kernel
theorem dX0_begin_56 : decode cX0_begin 56 = .ok (.iload_n 3, 1) := by decide +kernel
theorem dX0_begin_57 : decode cX0_begin 57 = .ok (.iload 4, 2) := by decide +kernel
theorem dX0_begin_59 : decode cX0_begin 59 = .ok (.invokevirtual 46, 3) := by decide +kernel
theorem dX0_begin_62 : decode cX0_begin 62 = .ok (.ifCond .eq 66, 3) := by decide +kernel
theorem dX0_begin_65 : decode cX0_begin 65 = .ok (.aload_n 0, 1) := by decide +kernel
theorem dX0_begin_66 : decode cX0_begin 66 = .ok (.getfield 24, 3) := by decide +kernel
theorem dX0_begin_69 : decode cX0_begin 69 = .ok (.ifCond .lt 59, 3) := by decide +kernel
theorem dX0_begin_72 : decode cX0_begin 72 = .ok (.aload_n 0, 1) := by decide +kernel
theorem dX0_begin_73 : decode cX0_begin 73 = .ok (.getfield 24, 3) := by decide +kernel
theorem dX0_begin_76 : decode cX0_begin 76 = .ok (.bipush 24, 2) := by decide +kernel
theorem dX0_begin_78 : decode cX0_begin 78 = .ok (.if_icmp .ge 50, 3) := by decide +kernel
theorem dX0_begin_81 : decode cX0_begin 81 = .ok (.aload_n 0, 1) := by decide +kernel
theorem dX0_begin_82 : decode cX0_begin 82 = .ok (.getfield 9, 3) := by decide +kernel
theorem dX0_begin_85 : decode cX0_begin 85 = .ok (.aload_n 0, 1) := by decide +kernel
theorem dX0_begin_86 : decode cX0_begin 86 = .ok (.getfield 24, 3) := by decide +kernel
theorem dX0_begin_89 : decode cX0_begin 89 = .ok (.iload_n 3, 1) := by decide +kernel
theorem dX0_begin_90 : decode cX0_begin 90 = .ok (.iastore, 1) := by decide +kernel
theorem dX0_begin_91 : decode cX0_begin 91 = .ok (.aload_n 0, 1) := by decide +kernel
theorem dX0_begin_92 : decode cX0_begin 92 = .ok (.getfield 15, 3) := by decide +kernel
theorem dX0_begin_95 : decode cX0_begin 95 = .ok (.aload_n 0, 1) := by decide +kernel
theorem dX0_begin_96 : decode cX0_begin 96 = .ok (.getfield 24, 3) := by decide +kernel
theorem dX0_begin_99 : decode cX0_begin 99 = .ok (.iload 4, 2) := by decide +kernel
theorem dX0_begin_101 : decode cX0_begin 101 = .ok (.iastore, 1) := by decide +kernel
theorem dX0_begin_102 : decode cX0_begin 102 = .ok (.aload_n 0, 1) := by decide +kernel
theorem dX0_begin_103 : decode cX0_begin 103 = .ok (.getfield 18, 3) := by decide +kernel
theorem dX0_begin_106 : decode cX0_begin 106 = .ok (.aload_n 0, 1) := by decide +kernel
theorem dX0_begin_107 : decode cX0_begin 107 = .ok (.getfield 24, 3) := by decide +kernel
theorem dX0_begin_110 : decode cX0_begin 110 = .ok (.aload_n 1, 1) := by decide +kernel
theorem dX0_begin_111 : decode cX0_begin 111 = .ok (.iload_n 3, 1) := by decide +kernel
theorem dX0_begin_112 : decode cX0_begin 112 = .ok (.iload 4, 2) := by decide +kernel
theorem dX0_begin_114 : decode cX0_begin 114 = .ok (.invokevirtual 50, 3) := by decide +kernel
theorem dX0_begin_117 : decode cX0_begin 117 = .ok (.iastore, 1) := by decide +kernel
theorem dX0_begin_118 : decode cX0_begin 118 = .ok (.aload_n 0, 1) := by decide +kernel
theorem dX0_begin_119 : decode cX0_begin 119 = .ok (.dup, 1) := by decide +kernel
theorem dX0_begin_120 : decode cX0_begin 120 = .ok (.getfield 24, 3) := by decide +kernel
theorem dX0_begin_123 : decode cX0_begin 123 = .ok (.iconst 1, 1) := by decide +kernel
theorem dX0_begin_124 : decode cX0_begin 124 = .ok (.iadd, 1) := by decide +kernel
theorem dX0_begin_125 : decode cX0_begin 125 = .ok (.putfield 24, 3) := by decide +kernel
theorem dX0_begin_128 : decode cX0_begin 128 = .ok (.iinc 2 1, 3) := by decide +kernel
theorem dX0_begin_131 : decode cX0_begin 131 = .ok (.goto (-101), 3) := by decide +kernel
theorem dX0_begin_134 : decode cX0_begin 134 = .ok (.return_, 1) := by decide +kernel
set_option maxRecDepth 20000 in
theorem ggX0_nextPlace_X2_rowsOf : GoodIn wsX0_nextPlace wsX2_rowsOf := goodIn_r _ [8, 9, 10, 11, 12, 13] (by decide +kernel) (by decide +kernel)
set_option maxRecDepth 20000 in
theorem gX0_nextPlace_X2_rowsOf : GoodIn wsX0_nextPlace (va_wsS RX0 53 yX2_rowsOf wsX2_rowsOf) := goodIn_app (goodIn_of _ (by decide +kernel)) ggX0_nextPlace_X2_rowsOf
theorem dX0_nextPlace_0 : decode cX0_nextPlace 0 = .ok (.aload_n 0, 1) := by decide +kernel
theorem dX0_nextPlace_1 : decode cX0_nextPlace 1 = .ok (.dup, 1) := by decide +kernel
theorem dX0_nextPlace_2 : decode cX0_nextPlace 2 = .ok (.getfield 39, 3) := by decide +kernel
theorem dX0_nextPlace_5 : decode cX0_nextPlace 5 = .ok (.iconst 1, 1) := by decide +kernel
theorem dX0_nextPlace_6 : decode cX0_nextPlace 6 = .ok (.iadd, 1) := by decide +kernel
theorem dX0_nextPlace_7 : decode cX0_nextPlace 7 = .ok (.putfield 39, 3) := by decide +kernel
theorem dX0_nextPlace_10 : decode cX0_nextPlace 10 = .ok (.aload_n 0, 1) := by decide +kernel
theorem dX0_nextPlace_11 : decode cX0_nextPlace 11 = .ok (.getfield 39, 3) := by decide +kernel
theorem dX0_nextPlace_14 : decode cX0_nextPlace 14 = .ok (.aload_n 0, 1) := by decide +kernel
theorem dX0_nextPlace_15 : decode cX0_nextPlace 15 = .ok (.getfield 28, 3) := by decide +kernel
theorem dX0_nextPlace_18 : decode cX0_nextPlace 18 = .ok (.iadd, 1) := by decide +kernel
theorem dX0_nextPlace_19 : decode cX0_nextPlace 19 = .ok (.aload_n 0, 1) := by decide +kernel
theorem dX0_nextPlace_20 : decode cX0_nextPlace 20 = .ok (.getfield 33, 3) := by decide +kernel
theorem dX0_nextPlace_23 : decode cX0_nextPlace 23 = .ok (.invokestatic 53, 3) := by decide +kernel
theorem dX0_nextPlace_26 : decode cX0_nextPlace 26 = .ok (.if_icmp .gt 5, 3) := by decide +kernel
theorem dX0_nextPlace_29 : decode cX0_nextPlace 29 = .ok (.iconst 1, 1) := by decide +kernel
theorem dX0_nextPlace_30 : decode cX0_nextPlace 30 = .ok (.ireturn, 1) := by decide +kernel
theorem dX0_nextPlace_31 : decode cX0_nextPlace 31 = .ok (.aload_n 0, 1) := by decide +kernel
theorem dX0_nextPlace_32 : decode cX0_nextPlace 32 = .ok (.iconst 0, 1) := by decide +kernel
theorem dX0_nextPlace_33 : decode cX0_nextPlace 33 = .ok (.putfield 39, 3) := by decide +kernel
theorem dX0_nextPlace_36 : decode cX0_nextPlace 36 = .ok (.aload_n 0, 1) := by decide +kernel
theorem dX0_nextPlace_37 : decode cX0_nextPlace 37 = .ok (.getfield 33, 3) := by decide +kernel
theorem dX0_nextPlace_40 : decode cX0_nextPlace 40 = .ok (.ifCond .ne 24, 3) := by decide +kernel
theorem dX0_nextPlace_43 : decode cX0_nextPlace 43 = .ok (.aload_n 0, 1) := by decide +kernel
theorem dX0_nextPlace_44 : decode cX0_nextPlace 44 = .ok (.getfield 36, 3) := by decide +kernel
theorem dX0_nextPlace_47 : decode cX0_nextPlace 47 = .ok (.bipush 59, 2) := by decide +kernel
theorem dX0_nextPlace_49 : decode cX0_nextPlace 49 = .ok (.if_icmp .ge 15, 3) := by decide +kernel
theorem dX0_nextPlace_52 : decode cX0_nextPlace 52 = .ok (.aload_n 0, 1) := by decide +kernel
theorem dX0_nextPlace_53 : decode cX0_nextPlace 53 = .ok (.dup, 1) := by decide +kernel
theorem dX0_nextPlace_54 : decode cX0_nextPlace 54 = .ok (.getfield 36, 3) := by decide +kernel
theorem dX0_nextPlace_57 : decode cX0_nextPlace 57 = .ok (.iconst 1, 1) := by decide +kernel
theorem dX0_nextPlace_58 : decode cX0_nextPlace 58 = .ok (.iadd, 1) := by decide +kernel
theorem dX0_nextPlace_59 : decode cX0_nextPlace 59 = .ok (.putfield 36, 3) := by decide +kernel
theorem dX0_nextPlace_62 : decode cX0_nextPlace 62 = .ok (.iconst 1, 1) := by decide +kernel
theorem dX0_nextPlace_63 : decode cX0_nextPlace 63 = .ok (.ireturn, 1) := by decide +kernel
theorem dX0_nextPlace_64 : decode cX0_nextPlace 64 = .ok (.aload_n 0, 1) := by decide +kernel
theorem dX0_nextPlace_65 : decode cX0_nextPlace 65 = .ok (.dup, 1) := by decide +kernel
theorem dX0_nextPlace_66 : decode cX0_nextPlace 66 = .ok (.getfield 33, 3) := by decide +kernel
theorem dX0_nextPlace_69 : decode cX0_nextPlace 69 = .ok (.iconst 1, 1) := by decide +kernel
theorem dX0_nextPlace_70 : decode cX0_nextPlace 70 = .ok (.iadd, 1) := by decide +kernel
theorem dX0_nextPlace_71 : decode cX0_nextPlace 71 = .ok (.putfield 33, 3) := by decide +kernel
theorem dX0_nextPlace_74 : decode cX0_nextPlace 74 = .ok (.aload_n 0, 1) := by decide +kernel
theorem dX0_nextPlace_75 : decode cX0_nextPlace 75 = .ok (.iconst 0, 1) := by decide +kernel
theorem dX0_nextPlace_76 : decode cX0_nextPlace 76 = .ok (.putfield 36, 3) := by decide +kernel
theorem dX0_nextPlace_79 : decode cX0_nextPlace 79 = .ok (.aload_n 0, 1) := by decide +kernel
theorem dX0_nextPlace_80 : decode cX0_nextPlace 80 = .ok (.getfield 33, 3) := by decide +kernel
theorem dX0_nextPlace_83 : decode cX0_nextPlace 83 = .ok (.iconst 4, 1) := by decide +kernel
theorem dX0_nextPlace_84 : decode cX0_nextPlace 84 = .ok (.if_icmp .ge 7, 3) := by decide +kernel
theorem dX0_nextPlace_87 : decode cX0_nextPlace 87 = .ok (.iconst 1, 1) := by decide +kernel
theorem dX0_nextPlace_88 : decode cX0_nextPlace 88 = .ok (.goto 4, 3) := by decide +kernel
theorem dX0_nextPlace_91 : decode cX0_nextPlace 91 = .ok (.iconst 0, 1) := by decide +kernel
theorem dX0_nextPlace_92 : decode cX0_nextPlace 92 = .ok (.ireturn, 1) := by decide +kernel
set_option maxRecDepth 20000 in
theorem ggX0_nextReading_X0_nextPlace : GoodIn wsX0_nextReading wsX0_nextPlace := goodIn_r _ [5, 6, 7, 8, 9, 10, 11, 12, 13, 14, 15, 16, 17, 18, 62, 63, 64, 65, 66, 67, 68, 69, 70] (by decide +kernel) (by decide +kernel)
set_option maxRecDepth 20000 in
theorem gX0_nextReading_X0_nextPlace : GoodIn wsX0_nextReading (wsV RX0 57 RX0 yX0_nextPlace wsX0_nextPlace) := goodIn_app (goodIn_of _ (by decide +kernel)) ggX0_nextReading_X0_nextPlace
set_option maxRecDepth 20000 in
theorem ggX0_nextReading_X0_strayRow : GoodIn wsX0_nextReading wsX0_strayRow := goodIn_r _ [22, 23, 24, 25, 26, 27, 28, 29, 4, 30, 8, 9, 6, 31, 32, 12, 33, 34, 35, 36, 37, 38, 16, 39, 18, 40, 41, 42, 43, 44, 45, 46, 47, 48, 49, 50, 51, 52, 53, 54, 55, 56, 57, 58, 59, 60, 61, 62, 63, 64, 65, 66, 67, 68, 69, 70] (by decide +kernel) (by decide +kernel)
set_option maxRecDepth 20000 in
theorem gX0_nextReading_X0_strayRow : GoodIn wsX0_nextReading (wsV RX0 61 RX0 yX0_strayRow wsX0_strayRow) := goodIn_app (goodIn_of _ (by decide +kernel)) ggX0_nextReading_X0_strayRow
theorem dX0_nextReading_0 : decode cX0_nextReading 0 = .ok (.iconst 0, 1) := by decide +kernel
theorem dX0_nextReading_1 : decode cX0_nextReading 1 = .ok (.istore_n 1, 1) := by decide +kernel
theorem dX0_nextReading_2 : decode cX0_nextReading 2 = .ok (.iload_n 1, 1) := by decide +kernel
theorem dX0_nextReading_3 : decode cX0_nextReading 3 = .ok (.sipush 4000, 3) := by decide +kernel
theorem dX0_nextReading_6 : decode cX0_nextReading 6 = .ok (.if_icmp .ge 26, 3) := by decide +kernel
theorem dX0_nextReading_9 : decode cX0_nextReading 9 = .ok (.aload_n 0, 1) := by decide +kernel
theorem dX0_nextReading_10 : decode cX0_nextReading 10 = .ok (.invokevirtual 57, 3) := by decide +kernel
theorem dX0_nextReading_13 : decode cX0_nextReading 13 = .ok (.ifCond .eq 19, 3) := by decide +kernel
theorem dX0_nextReading_16 : decode cX0_nextReading 16 = .ok (.aload_n 0, 1) := by decide +kernel
theorem dX0_nextReading_17 : decode cX0_nextReading 17 = .ok (.invokevirtual 61, 3) := by decide +kernel
theorem dX0_nextReading_20 : decode cX0_nextReading 20 = .ok (.iconst (-1), 1) := by decide +kernel
theorem dX0_nextReading_21 : decode cX0_nextReading 21 = .ok (.if_icmp .ne 5, 3) := by decide +kernel
theorem dX0_nextReading_24 : decode cX0_nextReading 24 = .ok (.iconst 1, 1) := by decide +kernel
theorem dX0_nextReading_25 : decode cX0_nextReading 25 = .ok (.ireturn, 1) := by decide +kernel
theorem dX0_nextReading_26 : decode cX0_nextReading 26 = .ok (.iinc 1 1, 3) := by decide +kernel
theorem dX0_nextReading_29 : decode cX0_nextReading 29 = .ok (.goto (-27), 3) := by decide +kernel
theorem dX0_nextReading_32 : decode cX0_nextReading 32 = .ok (.iconst 0, 1) := by decide +kernel
theorem dX0_nextReading_33 : decode cX0_nextReading 33 = .ok (.ireturn, 1) := by decide +kernel
theorem dX0_code_0 : decode cX0_code 0 = .ok (.sipush 10000, 3) := by decide +kernel
theorem dX0_code_3 : decode cX0_code 3 = .ok (.aload_n 0, 1) := by decide +kernel
theorem dX0_code_4 : decode cX0_code 4 = .ok (.getfield 33, 3) := by decide +kernel
theorem dX0_code_7 : decode cX0_code 7 = .ok (.imul, 1) := by decide +kernel
theorem dX0_code_8 : decode cX0_code 8 = .ok (.bipush 100, 2) := by decide +kernel
theorem dX0_code_10 : decode cX0_code 10 = .ok (.aload_n 0, 1) := by decide +kernel
theorem dX0_code_11 : decode cX0_code 11 = .ok (.getfield 36, 3) := by decide +kernel
theorem dX0_code_14 : decode cX0_code 14 = .ok (.imul, 1) := by decide +kernel
theorem dX0_code_15 : decode cX0_code 15 = .ok (.iadd, 1) := by decide +kernel
theorem dX0_code_16 : decode cX0_code 16 = .ok (.aload_n 0, 1) := by decide +kernel
theorem dX0_code_17 : decode cX0_code 17 = .ok (.getfield 39, 3) := by decide +kernel
theorem dX0_code_20 : decode cX0_code 20 = .ok (.iadd, 1) := by decide +kernel
theorem dX0_code_21 : decode cX0_code 21 = .ok (.ireturn, 1) := by decide +kernel
set_option maxRecDepth 20000 in
theorem ggX0_strayRow_X0_sixtyHere : GoodIn wsX0_strayRow wsX0_sixtyHere := goodIn_r _ [9, 10, 11, 12, 13, 14, 15, 16, 17, 18, 19, 20, 21, 22, 23, 24, 25, 26, 27, 28, 29, 30, 31, 32, 33, 34, 35, 36, 37, 38, 39, 40, 41, 42, 43, 44, 45, 46, 47, 48, 49, 50, 51, 52, 53, 54, 55] (by decide +kernel) (by decide +kernel)
set_option maxRecDepth 20000 in
theorem gX0_strayRow_X0_sixtyHere : GoodIn wsX0_strayRow (wsV RX0 64 RX0 yX0_sixtyHere wsX0_sixtyHere) := goodIn_app (goodIn_of _ (by decide +kernel)) ggX0_strayRow_X0_sixtyHere
theorem dX0_strayRow_0 : decode cX0_strayRow 0 = .ok (.iconst (-1), 1) := by decide +kernel
theorem dX0_strayRow_1 : decode cX0_strayRow 1 = .ok (.istore_n 1, 1) := by decide +kernel
theorem dX0_strayRow_2 : decode cX0_strayRow 2 = .ok (.iconst 0, 1) := by decide +kernel
theorem dX0_strayRow_3 : decode cX0_strayRow 3 = .ok (.istore_n 2, 1) := by decide +kernel
theorem dX0_strayRow_4 : decode cX0_strayRow 4 = .ok (.iload_n 2, 1) := by decide +kernel
theorem dX0_strayRow_5 : decode cX0_strayRow 5 = .ok (.aload_n 0, 1) := by decide +kernel
theorem dX0_strayRow_6 : decode cX0_strayRow 6 = .ok (.getfield 24, 3) := by decide +kernel
theorem dX0_strayRow_9 : decode cX0_strayRow 9 = .ok (.if_icmp .ge 57, 3) := by decide +kernel
theorem dX0_strayRow_12 : decode cX0_strayRow 12 = .ok (.iload_n 2, 1) := by decide +kernel
theorem dX0_strayRow_13 : decode cX0_strayRow 13 = .ok (.bipush 24, 2) := by decide +kernel
theorem dX0_strayRow_15 : decode cX0_strayRow 15 = .ok (.if_icmp .ge 51, 3) := by decide +kernel
theorem dX0_strayRow_18 : decode cX0_strayRow 18 = .ok (.aload_n 0, 1) := by decide +kernel
theorem dX0_strayRow_19 : decode cX0_strayRow 19 = .ok (.getfield 9, 3) := by decide +kernel
theorem dX0_strayRow_22 : decode cX0_strayRow 22 = .ok (.iload_n 2, 1) := by decide +kernel
theorem dX0_strayRow_23 : decode cX0_strayRow 23 = .ok (.iaload, 1) := by decide +kernel
theorem dX0_strayRow_24 : decode cX0_strayRow 24 = .ok (.istore_n 3, 1) := by decide +kernel
theorem dX0_strayRow_25 : decode cX0_strayRow 25 = .ok (.iload_n 3, 1) := by decide +kernel
theorem dX0_strayRow_26 : decode cX0_strayRow 26 = .ok (.iload_n 1, 1) := by decide +kernel
theorem dX0_strayRow_27 : decode cX0_strayRow 27 = .ok (.if_icmp .eq 33, 3) := by decide +kernel
theorem dX0_strayRow_30 : decode cX0_strayRow 30 = .ok (.aload_n 0, 1) := by decide +kernel
theorem dX0_strayRow_31 : decode cX0_strayRow 31 = .ok (.getfield 18, 3) := by decide +kernel
theorem dX0_strayRow_34 : decode cX0_strayRow 34 = .ok (.iload_n 2, 1) := by decide +kernel
theorem dX0_strayRow_35 : decode cX0_strayRow 35 = .ok (.iaload, 1) := by decide +kernel
theorem dX0_strayRow_36 : decode cX0_strayRow 36 = .ok (.aload_n 0, 1) := by decide +kernel
theorem dX0_strayRow_37 : decode cX0_strayRow 37 = .ok (.iload_n 3, 1) := by decide +kernel
theorem dX0_strayRow_38 : decode cX0_strayRow 38 = .ok (.aload_n 0, 1) := by decide +kernel
theorem dX0_strayRow_39 : decode cX0_strayRow 39 = .ok (.getfield 15, 3) := by decide +kernel
theorem dX0_strayRow_42 : decode cX0_strayRow 42 = .ok (.iload_n 2, 1) := by decide +kernel
theorem dX0_strayRow_43 : decode cX0_strayRow 43 = .ok (.iaload, 1) := by decide +kernel
theorem dX0_strayRow_44 : decode cX0_strayRow 44 = .ok (.invokevirtual 64, 3) := by decide +kernel
theorem dX0_strayRow_47 : decode cX0_strayRow 47 = .ok (.if_icmp .eq 13, 3) := by decide +kernel
theorem dX0_strayRow_50 : decode cX0_strayRow 50 = .ok (.iload_n 1, 1) := by decide +kernel
theorem dX0_strayRow_51 : decode cX0_strayRow 51 = .ok (.iconst (-1), 1) := by decide +kernel
theorem dX0_strayRow_52 : decode cX0_strayRow 52 = .ok (.if_icmp .eq 6, 3) := by decide +kernel
theorem dX0_strayRow_55 : decode cX0_strayRow 55 = .ok (.bipush (-2), 2) := by decide +kernel
theorem dX0_strayRow_57 : decode cX0_strayRow 57 = .ok (.ireturn, 1) := by decide +kernel
theorem dX0_strayRow_58 : decode cX0_strayRow 58 = .ok (.iload_n 3, 1) := by decide +kernel
theorem dX0_strayRow_59 : decode cX0_strayRow 59 = .ok (.istore_n 1, 1) := by decide +kernel
theorem dX0_strayRow_60 : decode cX0_strayRow 60 = .ok (.iinc 2 1, 3) := by decide +kernel
theorem dX0_strayRow_63 : decode cX0_strayRow 63 = .ok (.goto (-59), 3) := by decide +kernel
theorem dX0_strayRow_66 : decode cX0_strayRow 66 = .ok (.iload_n 1, 1) := by decide +kernel
theorem dX0_strayRow_67 : decode cX0_strayRow 67 = .ok (.ireturn, 1) := by decide +kernel
set_option maxRecDepth 20000 in
theorem ggX0_sixtyHere_X2_number : GoodIn wsX0_sixtyHere wsX2_number := goodIn_r _ [7, 8, 9, 6, 10, 11, 12, 13, 14, 15, 16, 17, 18, 19, 20, 21, 22, 23, 24, 25, 26, 27, 28, 29, 30, 31, 32] (by decide +kernel) (by decide +kernel)
set_option maxRecDepth 20000 in
theorem gX0_sixtyHere_X2_number : GoodIn wsX0_sixtyHere (va_wsS RX0 67 yX2_number wsX2_number) := goodIn_app (goodIn_of _ (by decide +kernel)) ggX0_sixtyHere_X2_number
set_option maxRecDepth 20000 in
theorem ggX0_sixtyHere_X1_strip : GoodIn wsX0_sixtyHere wsX1_strip := goodIn_r _ [36, 37] (by decide +kernel) (by decide +kernel)
set_option maxRecDepth 20000 in
theorem gX0_sixtyHere_X1_strip : GoodIn wsX0_sixtyHere (va_wsS RX0 71 yX1_strip wsX1_strip) := goodIn_app (goodIn_of _ (by decide +kernel)) ggX0_sixtyHere_X1_strip
theorem dX0_sixtyHere_0 : decode cX0_sixtyHere 0 = .ok (.aload_n 0, 1) := by decide +kernel
theorem dX0_sixtyHere_1 : decode cX0_sixtyHere 1 = .ok (.getfield 33, 3) := by decide +kernel
theorem dX0_sixtyHere_4 : decode cX0_sixtyHere 4 = .ok (.aload_n 0, 1) := by decide +kernel
theorem dX0_sixtyHere_5 : decode cX0_sixtyHere 5 = .ok (.getfield 36, 3) := by decide +kernel
theorem dX0_sixtyHere_8 : decode cX0_sixtyHere 8 = .ok (.aload_n 0, 1) := by decide +kernel
theorem dX0_sixtyHere_9 : decode cX0_sixtyHere 9 = .ok (.getfield 39, 3) := by decide +kernel
theorem dX0_sixtyHere_12 : decode cX0_sixtyHere 12 = .ok (.iload_n 1, 1) := by decide +kernel
theorem dX0_sixtyHere_13 : decode cX0_sixtyHere 13 = .ok (.iadd, 1) := by decide +kernel
theorem dX0_sixtyHere_14 : decode cX0_sixtyHere 14 = .ok (.iload_n 2, 1) := by decide +kernel
theorem dX0_sixtyHere_15 : decode cX0_sixtyHere 15 = .ok (.invokestatic 67, 3) := by decide +kernel
theorem dX0_sixtyHere_18 : decode cX0_sixtyHere 18 = .ok (.i2l, 1) := by decide +kernel
theorem dX0_sixtyHere_19 : decode cX0_sixtyHere 19 = .ok (.invokestatic 71, 3) := by decide +kernel
theorem dX0_sixtyHere_22 : decode cX0_sixtyHere 22 = .ok (.l2i, 1) := by decide +kernel
theorem dX0_sixtyHere_23 : decode cX0_sixtyHere 23 = .ok (.ireturn, 1) := by decide +kernel
set_option maxRecDepth 20000 in
theorem ggX0_gatherSure_X0_begin : GoodIn wsX0_gatherSure wsX0_begin := goodIn_r _ [6, 7, 8, 9, 10, 11, 12, 13, 14, 15, 16, 17, 18, 19, 20, 21, 22, 23, 24, 25, 26, 27, 28, 29, 30, 95, 96, 97, 98, 99, 100, 101, 102, 103, 104, 105, 106] (by decide +kernel) (by decide +kernel)
set_option maxRecDepth 20000 in
theorem gX0_gatherSure_X0_begin : GoodIn wsX0_gatherSure (wsV RX0 77 RX0 yX0_begin wsX0_begin) := goodIn_app (goodIn_of _ (by decide +kernel)) ggX0_gatherSure_X0_begin
set_option maxRecDepth 20000 in
theorem ggX0_gatherSure_X0_nextReading : GoodIn wsX0_gatherSure wsX0_nextReading := goodIn_r _ [34, 35, 36, 37, 5, 38, 9, 10, 7, 8, 39, 40, 41, 42, 43, 44, 45, 46, 47, 48, 49, 50, 51, 11, 12, 14, 13, 52, 53, 54, 55, 56, 57, 58, 59, 60, 61, 62, 63, 64, 65, 66, 67, 68, 69, 70, 71, 72, 73, 74, 75, 76, 77, 78, 79, 80, 81, 82, 83, 84, 85, 86, 95, 96, 97, 98, 99, 100, 101, 102, 103] (by decide +kernel) (by decide +kernel)
set_option maxRecDepth 20000 in
theorem gX0_gatherSure_X0_nextReading : GoodIn wsX0_gatherSure (wsV RX0 81 RX0 yX0_nextReading wsX0_nextReading) := goodIn_app (goodIn_of _ (by decide +kernel)) ggX0_gatherSure_X0_nextReading
set_option maxRecDepth 20000 in
theorem ggX0_gatherSure_X0_takeAll : GoodIn wsX0_gatherSure wsX0_takeAll := goodIn_r _ [90, 10, 1, 52, 53, 54, 5, 55, 7, 8, 9, 56, 57, 41, 58, 59, 60, 61, 62, 63, 45, 64, 47, 65, 66, 67, 68, 69, 70, 71, 72, 73, 74, 75, 76, 77, 78, 79, 80, 81, 82, 83, 84, 85, 86, 95, 96, 97, 98, 99, 100, 101, 102, 103] (by decide +kernel) (by decide +kernel)
set_option maxRecDepth 20000 in
theorem gX0_gatherSure_X0_takeAll : GoodIn wsX0_gatherSure (wsV RX0 84 RX0 yX0_takeAll wsX0_takeAll) := goodIn_app (goodIn_of _ (by decide +kernel)) ggX0_gatherSure_X0_takeAll
set_option maxRecDepth 20000 in
theorem ggX0_gatherSure_X0_keepAgreed : GoodIn wsX0_gatherSure wsX0_keepAgreed := goodIn_r _ [94, 10, 1, 11, 52, 53, 54, 5, 55, 7, 8, 9, 56, 57, 41, 58, 59, 60, 61, 62, 63, 45, 64, 47, 65, 66, 67, 68, 69, 70, 71, 72, 73, 74, 75, 76, 77, 78, 79, 80, 81, 82, 83, 84, 85, 86, 95, 96, 97, 98, 99, 100, 101, 102, 103] (by decide +kernel) (by decide +kernel)
set_option maxRecDepth 20000 in
theorem gX0_gatherSure_X0_keepAgreed : GoodIn wsX0_gatherSure (wsV RX0 87 RX0 yX0_keepAgreed wsX0_keepAgreed) := goodIn_app (goodIn_of _ (by decide +kernel)) ggX0_gatherSure_X0_keepAgreed
theorem dX0_gatherSure_0 : decode cX0_gatherSure 0 = .ok (.iconst 0, 1) := by decide +kernel
theorem dX0_gatherSure_1 : decode cX0_gatherSure 1 = .ok (.istore_n 2, 1) := by decide +kernel
theorem dX0_gatherSure_2 : decode cX0_gatherSure 2 = .ok (.iload_n 2, 1) := by decide +kernel
theorem dX0_gatherSure_3 : decode cX0_gatherSure 3 = .ok (.bipush 24, 2) := by decide +kernel
theorem dX0_gatherSure_5 : decode cX0_gatherSure 5 = .ok (.if_icmp .ge 16, 3) := by decide +kernel
theorem dX0_gatherSure_8 : decode cX0_gatherSure 8 = .ok (.aload_n 0, 1) := by decide +kernel
theorem dX0_gatherSure_9 : decode cX0_gatherSure 9 = .ok (.getfield 21, 3) := by decide +kernel
theorem dX0_gatherSure_12 : decode cX0_gatherSure 12 = .ok (.iload_n 2, 1) := by decide +kernel
theorem dX0_gatherSure_13 : decode cX0_gatherSure 13 = .ok (.iconst 0, 1) := by decide +kernel
theorem dX0_gatherSure_14 : decode cX0_gatherSure 14 = .ok (.iastore, 1) := by decide +kernel
theorem dX0_gatherSure_15 : decode cX0_gatherSure 15 = .ok (.iinc 2 1, 3) := by decide +kernel
theorem dX0_gatherSure_18 : decode cX0_gatherSure 18 = .ok (.goto (-16), 3) := by decide +kernel
theorem dX0_gatherSure_21 : decode cX0_gatherSure 21 = .ok (.aload_n 0, 1) := by decide +kernel
theorem dX0_gatherSure_22 : decode cX0_gatherSure 22 = .ok (.aload_n 1, 1) := by decide +kernel
theorem dX0_gatherSure_23 : decode cX0_gatherSure 23 = .ok (.invokevirtual 77, 3) := by decide +kernel
theorem dX0_gatherSure_26 : decode cX0_gatherSure 26 = .ok (.aload_n 0, 1) := by decide +kernel
theorem dX0_gatherSure_27 : decode cX0_gatherSure 27 = .ok (.invokevirtual 81, 3) := by decide +kernel
theorem dX0_gatherSure_30 : decode cX0_gatherSure 30 = .ok (.istore_n 2, 1) := by decide +kernel
theorem dX0_gatherSure_31 : decode cX0_gatherSure 31 = .ok (.iload_n 2, 1) := by decide +kernel
theorem dX0_gatherSure_32 : decode cX0_gatherSure 32 = .ok (.ifCond .eq 7, 3) := by decide +kernel
theorem dX0_gatherSure_35 : decode cX0_gatherSure 35 = .ok (.aload_n 0, 1) := by decide +kernel
theorem dX0_gatherSure_36 : decode cX0_gatherSure 36 = .ok (.invokevirtual 84, 3) := by decide +kernel
theorem dX0_gatherSure_39 : decode cX0_gatherSure 39 = .ok (.iconst 0, 1) := by decide +kernel
theorem dX0_gatherSure_40 : decode cX0_gatherSure 40 = .ok (.istore_n 3, 1) := by decide +kernel
theorem dX0_gatherSure_41 : decode cX0_gatherSure 41 = .ok (.iload_n 3, 1) := by decide +kernel
theorem dX0_gatherSure_42 : decode cX0_gatherSure 42 = .ok (.sipush 4000, 3) := by decide +kernel
theorem dX0_gatherSure_45 : decode cX0_gatherSure 45 = .ok (.if_icmp .ge 33, 3) := by decide +kernel
theorem dX0_gatherSure_48 : decode cX0_gatherSure 48 = .ok (.iload_n 2, 1) := by decide +kernel
theorem dX0_gatherSure_49 : decode cX0_gatherSure 49 = .ok (.ifCond .eq 29, 3) := by decide +kernel
theorem dX0_gatherSure_52 : decode cX0_gatherSure 52 = .ok (.aload_n 0, 1) := by decide +kernel
theorem dX0_gatherSure_53 : decode cX0_gatherSure 53 = .ok (.invokevirtual 81, 3) := by decide +kernel
theorem dX0_gatherSure_56 : decode cX0_gatherSure 56 = .ok (.ifCond .eq 14, 3) := by decide +kernel
theorem dX0_gatherSure_59 : decode cX0_gatherSure 59 = .ok (.aload_n 0, 1) := by decide +kernel
theorem dX0_gatherSure_60 : decode cX0_gatherSure 60 = .ok (.invokevirtual 87, 3) := by decide +kernel
theorem dX0_gatherSure_63 : decode cX0_gatherSure 63 = .ok (.ifCond .eq 7, 3) := by decide +kernel
theorem dX0_gatherSure_66 : decode cX0_gatherSure 66 = .ok (.iconst 1, 1) := by decide +kernel
theorem dX0_gatherSure_67 : decode cX0_gatherSure 67 = .ok (.goto 4, 3) := by decide +kernel
theorem dX0_gatherSure_70 : decode cX0_gatherSure 70 = .ok (.iconst 0, 1) := by decide +kernel
theorem dX0_gatherSure_71 : decode cX0_gatherSure 71 = .ok (.istore_n 2, 1) := by decide +kernel
theorem dX0_gatherSure_72 : decode cX0_gatherSure 72 = .ok (.iinc 3 1, 3) := by decide +kernel
theorem dX0_gatherSure_75 : decode cX0_gatherSure 75 = .ok (.goto (-34), 3) := by decide +kernel
theorem dX0_gatherSure_78 : decode cX0_gatherSure 78 = .ok (.return_, 1) := by decide +kernel
theorem dX0_sureIn_0 : decode cX0_sureIn 0 = .ok (.iload_n 1, 1) := by decide +kernel
theorem dX0_sureIn_1 : decode cX0_sureIn 1 = .ok (.iconst 3, 1) := by decide +kernel
theorem dX0_sureIn_2 : decode cX0_sureIn 2 = .ok (.imul, 1) := by decide +kernel
theorem dX0_sureIn_3 : decode cX0_sureIn 3 = .ok (.iload_n 2, 1) := by decide +kernel
theorem dX0_sureIn_4 : decode cX0_sureIn 4 = .ok (.iadd, 1) := by decide +kernel
theorem dX0_sureIn_5 : decode cX0_sureIn 5 = .ok (.istore_n 3, 1) := by decide +kernel
theorem dX0_sureIn_6 : decode cX0_sureIn 6 = .ok (.iload_n 3, 1) := by decide +kernel
theorem dX0_sureIn_7 : decode cX0_sureIn 7 = .ok (.ifCond .lt 18, 3) := by decide +kernel
theorem dX0_sureIn_10 : decode cX0_sureIn 10 = .ok (.iload_n 3, 1) := by decide +kernel
theorem dX0_sureIn_11 : decode cX0_sureIn 11 = .ok (.bipush 24, 2) := by decide +kernel
theorem dX0_sureIn_13 : decode cX0_sureIn 13 = .ok (.if_icmp .ge 12, 3) := by decide +kernel
theorem dX0_sureIn_16 : decode cX0_sureIn 16 = .ok (.aload_n 0, 1) := by decide +kernel
theorem dX0_sureIn_17 : decode cX0_sureIn 17 = .ok (.getfield 21, 3) := by decide +kernel
theorem dX0_sureIn_20 : decode cX0_sureIn 20 = .ok (.iload_n 3, 1) := by decide +kernel
theorem dX0_sureIn_21 : decode cX0_sureIn 21 = .ok (.iaload, 1) := by decide +kernel
theorem dX0_sureIn_22 : decode cX0_sureIn 22 = .ok (.goto 4, 3) := by decide +kernel
theorem dX0_sureIn_25 : decode cX0_sureIn 25 = .ok (.iconst 0, 1) := by decide +kernel
theorem dX0_sureIn_26 : decode cX0_sureIn 26 = .ok (.ireturn, 1) := by decide +kernel
set_option maxRecDepth 20000 in
theorem ggX0_takeAll_X0_sixtyHere : GoodIn wsX0_takeAll wsX0_sixtyHere := goodIn_r _ [7, 8, 9, 10, 11, 12, 13, 14, 15, 16, 17, 18, 19, 20, 21, 22, 23, 24, 25, 26, 27, 28, 29, 30, 31, 32, 33, 34, 35, 36, 37, 38, 39, 40, 41, 42, 43, 44, 45, 46, 47, 48, 49, 50, 51, 52, 53] (by decide +kernel) (by decide +kernel)
set_option maxRecDepth 20000 in
theorem gX0_takeAll_X0_sixtyHere : GoodIn wsX0_takeAll (wsV RX0 64 RX0 yX0_sixtyHere wsX0_sixtyHere) := goodIn_app (goodIn_of _ (by decide +kernel)) ggX0_takeAll_X0_sixtyHere
theorem dX0_takeAll_0 : decode cX0_takeAll 0 = .ok (.iconst 0, 1) := by decide +kernel
theorem dX0_takeAll_1 : decode cX0_takeAll 1 = .ok (.istore_n 1, 1) := by decide +kernel
theorem dX0_takeAll_2 : decode cX0_takeAll 2 = .ok (.iload_n 1, 1) := by decide +kernel
theorem dX0_takeAll_3 : decode cX0_takeAll 3 = .ok (.aload_n 0, 1) := by decide +kernel
theorem dX0_takeAll_4 : decode cX0_takeAll 4 = .ok (.getfield 28, 3) := by decide +kernel
theorem dX0_takeAll_7 : decode cX0_takeAll 7 = .ok (.iconst 3, 1) := by decide +kernel
theorem dX0_takeAll_8 : decode cX0_takeAll 8 = .ok (.imul, 1) := by decide +kernel
theorem dX0_takeAll_9 : decode cX0_takeAll 9 = .ok (.if_icmp .ge 31, 3) := by decide +kernel
theorem dX0_takeAll_12 : decode cX0_takeAll 12 = .ok (.iload_n 1, 1) := by decide +kernel
theorem dX0_takeAll_13 : decode cX0_takeAll 13 = .ok (.bipush 24, 2) := by decide +kernel
theorem dX0_takeAll_15 : decode cX0_takeAll 15 = .ok (.if_icmp .ge 25, 3) := by decide +kernel
theorem dX0_takeAll_18 : decode cX0_takeAll 18 = .ok (.aload_n 0, 1) := by decide +kernel
theorem dX0_takeAll_19 : decode cX0_takeAll 19 = .ok (.getfield 21, 3) := by decide +kernel
theorem dX0_takeAll_22 : decode cX0_takeAll 22 = .ok (.iload_n 1, 1) := by decide +kernel
theorem dX0_takeAll_23 : decode cX0_takeAll 23 = .ok (.aload_n 0, 1) := by decide +kernel
theorem dX0_takeAll_24 : decode cX0_takeAll 24 = .ok (.iload_n 1, 1) := by decide +kernel
theorem dX0_takeAll_25 : decode cX0_takeAll 25 = .ok (.iconst 3, 1) := by decide +kernel
theorem dX0_takeAll_26 : decode cX0_takeAll 26 = .ok (.idiv, 1) := by decide +kernel
theorem dX0_takeAll_27 : decode cX0_takeAll 27 = .ok (.iload_n 1, 1) := by decide +kernel
theorem dX0_takeAll_28 : decode cX0_takeAll 28 = .ok (.iconst 3, 1) := by decide +kernel
theorem dX0_takeAll_29 : decode cX0_takeAll 29 = .ok (.irem, 1) := by decide +kernel
theorem dX0_takeAll_30 : decode cX0_takeAll 30 = .ok (.invokevirtual 64, 3) := by decide +kernel
theorem dX0_takeAll_33 : decode cX0_takeAll 33 = .ok (.iastore, 1) := by decide +kernel
theorem dX0_takeAll_34 : decode cX0_takeAll 34 = .ok (.iinc 1 1, 3) := by decide +kernel
theorem dX0_takeAll_37 : decode cX0_takeAll 37 = .ok (.goto (-35), 3) := by decide +kernel
theorem dX0_takeAll_40 : decode cX0_takeAll 40 = .ok (.return_, 1) := by decide +kernel
set_option maxRecDepth 20000 in
theorem ggX0_keepAgreed_X0_sixtyHere : GoodIn wsX0_keepAgreed wsX0_sixtyHere := goodIn_r _ [8, 9, 10, 11, 12, 13, 14, 15, 16, 17, 18, 19, 20, 21, 22, 23, 24, 25, 26, 27, 28, 29, 30, 31, 32, 33, 34, 35, 36, 37, 38, 39, 40, 41, 42, 43, 44, 45, 46, 47, 48, 49, 50, 51, 52, 53, 54] (by decide +kernel) (by decide +kernel)
set_option maxRecDepth 20000 in
theorem gX0_keepAgreed_X0_sixtyHere : GoodIn wsX0_keepAgreed (wsV RX0 64 RX0 yX0_sixtyHere wsX0_sixtyHere) := goodIn_app (goodIn_of _ (by decide +kernel)) ggX0_keepAgreed_X0_sixtyHere
theorem dX0_keepAgreed_0 : decode cX0_keepAgreed 0 = .ok (.iconst 0, 1) := by decide +kernel
theorem dX0_keepAgreed_1 : decode cX0_keepAgreed 1 = .ok (.istore_n 1, 1) := by decide +kernel
theorem dX0_keepAgreed_2 : decode cX0_keepAgreed 2 = .ok (.iconst 0, 1) := by decide +kernel
theorem dX0_keepAgreed_3 : decode cX0_keepAgreed 3 = .ok (.istore_n 2, 1) := by decide +kernel
theorem dX0_keepAgreed_4 : decode cX0_keepAgreed 4 = .ok (.iload_n 2, 1) := by decide +kernel
theorem dX0_keepAgreed_5 : decode cX0_keepAgreed 5 = .ok (.aload_n 0, 1) := by decide +kernel
theorem dX0_keepAgreed_6 : decode cX0_keepAgreed 6 = .ok (.getfield 28, 3) := by decide +kernel
theorem dX0_keepAgreed_9 : decode cX0_keepAgreed 9 = .ok (.iconst 3, 1) := by decide +kernel
theorem dX0_keepAgreed_10 : decode cX0_keepAgreed 10 = .ok (.imul, 1) := by decide +kernel
theorem dX0_keepAgreed_11 : decode cX0_keepAgreed 11 = .ok (.if_icmp .ge 56, 3) := by decide +kernel
theorem dX0_keepAgreed_14 : decode cX0_keepAgreed 14 = .ok (.iload_n 2, 1) := by decide +kernel
theorem dX0_keepAgreed_15 : decode cX0_keepAgreed 15 = .ok (.bipush 24, 2) := by decide +kernel
theorem dX0_keepAgreed_17 : decode cX0_keepAgreed 17 = .ok (.if_icmp .ge 50, 3) := by decide +kernel
theorem dX0_keepAgreed_20 : decode cX0_keepAgreed 20 = .ok (.aload_n 0, 1) := by decide +kernel
theorem dX0_keepAgreed_21 : decode cX0_keepAgreed 21 = .ok (.getfield 21, 3) := by decide +kernel
theorem dX0_keepAgreed_24 : decode cX0_keepAgreed 24 = .ok (.iload_n 2, 1) := by decide +kernel
theorem dX0_keepAgreed_25 : decode cX0_keepAgreed 25 = .ok (.iaload, 1) := by decide +kernel
theorem dX0_keepAgreed_26 : decode cX0_keepAgreed 26 = .ok (.ifCond .eq 35, 3) := by decide +kernel
theorem dX0_keepAgreed_29 : decode cX0_keepAgreed 29 = .ok (.aload_n 0, 1) := by decide +kernel
theorem dX0_keepAgreed_30 : decode cX0_keepAgreed 30 = .ok (.getfield 21, 3) := by decide +kernel
theorem dX0_keepAgreed_33 : decode cX0_keepAgreed 33 = .ok (.iload_n 2, 1) := by decide +kernel
theorem dX0_keepAgreed_34 : decode cX0_keepAgreed 34 = .ok (.iaload, 1) := by decide +kernel
theorem dX0_keepAgreed_35 : decode cX0_keepAgreed 35 = .ok (.aload_n 0, 1) := by decide +kernel
theorem dX0_keepAgreed_36 : decode cX0_keepAgreed 36 = .ok (.iload_n 2, 1) := by decide +kernel
theorem dX0_keepAgreed_37 : decode cX0_keepAgreed 37 = .ok (.iconst 3, 1) := by decide +kernel
theorem dX0_keepAgreed_38 : decode cX0_keepAgreed 38 = .ok (.idiv, 1) := by decide +kernel
theorem dX0_keepAgreed_39 : decode cX0_keepAgreed 39 = .ok (.iload_n 2, 1) := by decide +kernel
theorem dX0_keepAgreed_40 : decode cX0_keepAgreed 40 = .ok (.iconst 3, 1) := by decide +kernel
theorem dX0_keepAgreed_41 : decode cX0_keepAgreed 41 = .ok (.irem, 1) := by decide +kernel
theorem dX0_keepAgreed_42 : decode cX0_keepAgreed 42 = .ok (.invokevirtual 64, 3) := by decide +kernel
theorem dX0_keepAgreed_45 : decode cX0_keepAgreed 45 = .ok (.if_icmp .ne 9, 3) := by decide +kernel
theorem dX0_keepAgreed_48 : decode cX0_keepAgreed 48 = .ok (.iinc 1 1, 3) := by decide +kernel
theorem dX0_keepAgreed_51 : decode cX0_keepAgreed 51 = .ok (.goto 10, 3) := by decide +kernel
theorem dX0_keepAgreed_54 : decode cX0_keepAgreed 54 = .ok (.aload_n 0, 1) := by decide +kernel
theorem dX0_keepAgreed_55 : decode cX0_keepAgreed 55 = .ok (.getfield 21, 3) := by decide +kernel
theorem dX0_keepAgreed_58 : decode cX0_keepAgreed 58 = .ok (.iload_n 2, 1) := by decide +kernel
theorem dX0_keepAgreed_59 : decode cX0_keepAgreed 59 = .ok (.iconst 0, 1) := by decide +kernel
theorem dX0_keepAgreed_60 : decode cX0_keepAgreed 60 = .ok (.iastore, 1) := by decide +kernel
theorem dX0_keepAgreed_61 : decode cX0_keepAgreed 61 = .ok (.iinc 2 1, 3) := by decide +kernel
theorem dX0_keepAgreed_64 : decode cX0_keepAgreed 64 = .ok (.goto (-60), 3) := by decide +kernel
theorem dX0_keepAgreed_67 : decode cX0_keepAgreed 67 = .ok (.iload_n 1, 1) := by decide +kernel
theorem dX0_keepAgreed_68 : decode cX0_keepAgreed 68 = .ok (.aload_n 0, 1) := by decide +kernel
theorem dX0_keepAgreed_69 : decode cX0_keepAgreed 69 = .ok (.getfield 24, 3) := by decide +kernel
theorem dX0_keepAgreed_72 : decode cX0_keepAgreed 72 = .ok (.if_icmp .le 7, 3) := by decide +kernel
theorem dX0_keepAgreed_75 : decode cX0_keepAgreed 75 = .ok (.iconst 1, 1) := by decide +kernel
theorem dX0_keepAgreed_76 : decode cX0_keepAgreed 76 = .ok (.goto 4, 3) := by decide +kernel
theorem dX0_keepAgreed_79 : decode cX0_keepAgreed 79 = .ok (.iconst 0, 1) := by decide +kernel
theorem dX0_keepAgreed_80 : decode cX0_keepAgreed 80 = .ok (.ireturn, 1) := by decide +kernel
theorem dX1_isNumber_0 : decode cX1_isNumber 0 = .ok (.lload_n 0, 1) := by decide +kernel
theorem dX1_isNumber_1 : decode cX1_isNumber 1 = .ok (.lconst 1, 1) := by decide +kernel
theorem dX1_isNumber_2 : decode cX1_isNumber 2 = .ok (.lcmp, 1) := by decide +kernel
theorem dX1_isNumber_3 : decode cX1_isNumber 3 = .ok (.ifCond .lt 15, 3) := by decide +kernel
theorem dX1_isNumber_6 : decode cX1_isNumber 6 = .ok (.lload_n 0, 1) := by decide +kernel
theorem dX1_isNumber_7 : decode cX1_isNumber 7 = .ok (.ldc2_w 9, 3) := by decide +kernel
theorem dX1_isNumber_10 : decode cX1_isNumber 10 = .ok (.lcmp, 1) := by decide +kernel
theorem dX1_isNumber_11 : decode cX1_isNumber 11 = .ok (.ifCond .ge 7, 3) := by decide +kernel
theorem dX1_isNumber_14 : decode cX1_isNumber 14 = .ok (.iconst 1, 1) := by decide +kernel
theorem dX1_isNumber_15 : decode cX1_isNumber 15 = .ok (.goto 4, 3) := by decide +kernel
theorem dX1_isNumber_18 : decode cX1_isNumber 18 = .ok (.iconst 0, 1) := by decide +kernel
theorem dX1_isNumber_19 : decode cX1_isNumber 19 = .ok (.ireturn, 1) := by decide +kernel
theorem dX1_strip_0 : decode cX1_strip 0 = .ok (.lload_n 0, 1) := by decide +kernel
theorem dX1_strip_1 : decode cX1_strip 1 = .ok (.lstore_n 2, 1) := by decide +kernel
theorem dX1_strip_2 : decode cX1_strip 2 = .ok (.iconst 0, 1) := by decide +kernel
theorem dX1_strip_3 : decode cX1_strip 3 = .ok (.istore 4, 2) := by decide +kernel
theorem dX1_strip_5 : decode cX1_strip 5 = .ok (.iload 4, 2) := by decide +kernel
theorem dX1_strip_7 : decode cX1_strip 7 = .ok (.bipush 8, 2) := by decide +kernel
theorem dX1_strip_9 : decode cX1_strip 9 = .ok (.if_icmp .ge 25, 3) := by decide +kernel
theorem dX1_strip_12 : decode cX1_strip 12 = .ok (.lload_n 2, 1) := by decide +kernel
theorem dX1_strip_13 : decode cX1_strip 13 = .ok (.ldc2_w 11, 3) := by decide +kernel
theorem dX1_strip_16 : decode cX1_strip 16 = .ok (.lrem, 1) := by decide +kernel
theorem dX1_strip_17 : decode cX1_strip 17 = .ok (.lconst 0, 1) := by decide +kernel
theorem dX1_strip_18 : decode cX1_strip 18 = .ok (.lcmp, 1) := by decide +kernel
theorem dX1_strip_19 : decode cX1_strip 19 = .ok (.ifCond .ne 15, 3) := by decide +kernel
theorem dX1_strip_22 : decode cX1_strip 22 = .ok (.lload_n 2, 1) := by decide +kernel
theorem dX1_strip_23 : decode cX1_strip 23 = .ok (.ldc2_w 11, 3) := by decide +kernel
theorem dX1_strip_26 : decode cX1_strip 26 = .ok (.ldiv, 1) := by decide +kernel
theorem dX1_strip_27 : decode cX1_strip 27 = .ok (.lstore_n 2, 1) := by decide +kernel
theorem dX1_strip_28 : decode cX1_strip 28 = .ok (.iinc 4 1, 3) := by decide +kernel
theorem dX1_strip_31 : decode cX1_strip 31 = .ok (.goto (-26), 3) := by decide +kernel
theorem dX1_strip_34 : decode cX1_strip 34 = .ok (.lload_n 2, 1) := by decide +kernel
theorem dX1_strip_35 : decode cX1_strip 35 = .ok (.lreturn, 1) := by decide +kernel
theorem dX1_length_0 : decode cX1_length 0 = .ok (.iconst 0, 1) := by decide +kernel
theorem dX1_length_1 : decode cX1_length 1 = .ok (.istore_n 2, 1) := by decide +kernel
theorem dX1_length_2 : decode cX1_length 2 = .ok (.lload_n 0, 1) := by decide +kernel
theorem dX1_length_3 : decode cX1_length 3 = .ok (.lstore_n 3, 1) := by decide +kernel
theorem dX1_length_4 : decode cX1_length 4 = .ok (.iconst 0, 1) := by decide +kernel
theorem dX1_length_5 : decode cX1_length 5 = .ok (.istore 5, 2) := by decide +kernel
theorem dX1_length_7 : decode cX1_length 7 = .ok (.iload 5, 2) := by decide +kernel
theorem dX1_length_9 : decode cX1_length 9 = .ok (.bipush 8, 2) := by decide +kernel
theorem dX1_length_11 : decode cX1_length 11 = .ok (.if_icmp .ge 24, 3) := by decide +kernel
theorem dX1_length_14 : decode cX1_length 14 = .ok (.lload_n 3, 1) := by decide +kernel
theorem dX1_length_15 : decode cX1_length 15 = .ok (.lconst 0, 1) := by decide +kernel
theorem dX1_length_16 : decode cX1_length 16 = .ok (.lcmp, 1) := by decide +kernel
theorem dX1_length_17 : decode cX1_length 17 = .ok (.ifCond .le 18, 3) := by decide +kernel
theorem dX1_length_20 : decode cX1_length 20 = .ok (.lload_n 3, 1) := by decide +kernel
theorem dX1_length_21 : decode cX1_length 21 = .ok (.ldc2_w 11, 3) := by decide +kernel
theorem dX1_length_24 : decode cX1_length 24 = .ok (.ldiv, 1) := by decide +kernel
theorem dX1_length_25 : decode cX1_length 25 = .ok (.lstore_n 3, 1) := by decide +kernel
theorem dX1_length_26 : decode cX1_length 26 = .ok (.iinc 2 1, 3) := by decide +kernel
theorem dX1_length_29 : decode cX1_length 29 = .ok (.iinc 5 1, 3) := by decide +kernel
theorem dX1_length_32 : decode cX1_length 32 = .ok (.goto (-25), 3) := by decide +kernel
theorem dX1_length_35 : decode cX1_length 35 = .ok (.iload_n 2, 1) := by decide +kernel
theorem dX1_length_36 : decode cX1_length 36 = .ok (.ireturn, 1) := by decide +kernel
theorem dX1_digitAhead_0 : decode cX1_digitAhead 0 = .ok (.lload_n 0, 1) := by decide +kernel
theorem dX1_digitAhead_1 : decode cX1_digitAhead 1 = .ok (.lstore_n 3, 1) := by decide +kernel
theorem dX1_digitAhead_2 : decode cX1_digitAhead 2 = .ok (.iconst 0, 1) := by decide +kernel
theorem dX1_digitAhead_3 : decode cX1_digitAhead 3 = .ok (.istore 5, 2) := by decide +kernel
theorem dX1_digitAhead_5 : decode cX1_digitAhead 5 = .ok (.iload 5, 2) := by decide +kernel
theorem dX1_digitAhead_7 : decode cX1_digitAhead 7 = .ok (.iload_n 2, 1) := by decide +kernel
theorem dX1_digitAhead_8 : decode cX1_digitAhead 8 = .ok (.if_icmp .ge 22, 3) := by decide +kernel
theorem dX1_digitAhead_11 : decode cX1_digitAhead 11 = .ok (.iload 5, 2) := by decide +kernel
theorem dX1_digitAhead_13 : decode cX1_digitAhead 13 = .ok (.bipush 8, 2) := by decide +kernel
theorem dX1_digitAhead_15 : decode cX1_digitAhead 15 = .ok (.if_icmp .ge 15, 3) := by decide +kernel
theorem dX1_digitAhead_18 : decode cX1_digitAhead 18 = .ok (.lload_n 3, 1) := by decide +kernel
theorem dX1_digitAhead_19 : decode cX1_digitAhead 19 = .ok (.ldc2_w 11, 3) := by decide +kernel
theorem dX1_digitAhead_22 : decode cX1_digitAhead 22 = .ok (.ldiv, 1) := by decide +kernel
theorem dX1_digitAhead_23 : decode cX1_digitAhead 23 = .ok (.lstore_n 3, 1) := by decide +kernel
theorem dX1_digitAhead_24 : decode cX1_digitAhead 24 = .ok (.iinc 5 1, 3) := by decide +kernel
theorem dX1_digitAhead_27 : decode cX1_digitAhead 27 = .ok (.goto (-22), 3) := by decide +kernel
theorem dX1_digitAhead_30 : decode cX1_digitAhead 30 = .ok (.lload_n 3, 1) := by decide +kernel
theorem dX1_digitAhead_31 : decode cX1_digitAhead 31 = .ok (.ldc2_w 11, 3) := by decide +kernel
theorem dX1_digitAhead_34 : decode cX1_digitAhead 34 = .ok (.lrem, 1) := by decide +kernel
theorem dX1_digitAhead_35 : decode cX1_digitAhead 35 = .ok (.l2i, 1) := by decide +kernel
theorem dX1_digitAhead_36 : decode cX1_digitAhead 36 = .ok (.ireturn, 1) := by decide +kernel
theorem dX1_sightLength_0 : decode cX1_sightLength 0 = .ok (.iconst 0, 1) := by decide +kernel
theorem dX1_sightLength_1 : decode cX1_sightLength 1 = .ok (.istore_n 2, 1) := by decide +kernel
theorem dX1_sightLength_2 : decode cX1_sightLength 2 = .ok (.lload_n 0, 1) := by decide +kernel
theorem dX1_sightLength_3 : decode cX1_sightLength 3 = .ok (.lstore_n 3, 1) := by decide +kernel
theorem dX1_sightLength_4 : decode cX1_sightLength 4 = .ok (.iconst 0, 1) := by decide +kernel
theorem dX1_sightLength_5 : decode cX1_sightLength 5 = .ok (.istore 5, 2) := by decide +kernel
theorem dX1_sightLength_7 : decode cX1_sightLength 7 = .ok (.iload 5, 2) := by decide +kernel
theorem dX1_sightLength_9 : decode cX1_sightLength 9 = .ok (.bipush 8, 2) := by decide +kernel
theorem dX1_sightLength_11 : decode cX1_sightLength 11 = .ok (.if_icmp .ge 34, 3) := by decide +kernel
theorem dX1_sightLength_14 : decode cX1_sightLength 14 = .ok (.lload_n 3, 1) := by decide +kernel
theorem dX1_sightLength_15 : decode cX1_sightLength 15 = .ok (.lconst 0, 1) := by decide +kernel
theorem dX1_sightLength_16 : decode cX1_sightLength 16 = .ok (.lcmp, 1) := by decide +kernel
theorem dX1_sightLength_17 : decode cX1_sightLength 17 = .ok (.ifCond .le 28, 3) := by decide +kernel
theorem dX1_sightLength_20 : decode cX1_sightLength 20 = .ok (.lload_n 3, 1) := by decide +kernel
theorem dX1_sightLength_21 : decode cX1_sightLength 21 = .ok (.ldc2_w 11, 3) := by decide +kernel
theorem dX1_sightLength_24 : decode cX1_sightLength 24 = .ok (.lrem, 1) := by decide +kernel
theorem dX1_sightLength_25 : decode cX1_sightLength 25 = .ok (.lconst 0, 1) := by decide +kernel
theorem dX1_sightLength_26 : decode cX1_sightLength 26 = .ok (.lcmp, 1) := by decide +kernel
theorem dX1_sightLength_27 : decode cX1_sightLength 27 = .ok (.ifCond .eq 6, 3) := by decide +kernel
theorem dX1_sightLength_30 : decode cX1_sightLength 30 = .ok (.iinc 2 1, 3) := by decide +kernel
theorem dX1_sightLength_33 : decode cX1_sightLength 33 = .ok (.lload_n 3, 1) := by decide +kernel
theorem dX1_sightLength_34 : decode cX1_sightLength 34 = .ok (.ldc2_w 11, 3) := by decide +kernel
theorem dX1_sightLength_37 : decode cX1_sightLength 37 = .ok (.ldiv, 1) := by decide +kernel
theorem dX1_sightLength_38 : decode cX1_sightLength 38 = .ok (.lstore_n 3, 1) := by decide +kernel
theorem dX1_sightLength_39 : decode cX1_sightLength 39 = .ok (.iinc 5 1, 3) := by decide +kernel
theorem dX1_sightLength_42 : decode cX1_sightLength 42 = .ok (.goto (-35), 3) := by decide +kernel
theorem dX1_sightLength_45 : decode cX1_sightLength 45 = .ok (.iload_n 2, 1) := by decide +kernel
theorem dX1_sightLength_46 : decode cX1_sightLength 46 = .ok (.ireturn, 1) := by decide +kernel
set_option maxRecDepth 20000 in
theorem ggX1_spread_X1_strip : GoodIn wsX1_spread wsX1_strip := goodIn_r _ [5, 1] (by decide +kernel) (by decide +kernel)
set_option maxRecDepth 20000 in
theorem gX1_spread_X1_strip : GoodIn wsX1_spread (va_wsS RX1 13 yX1_strip wsX1_strip) := goodIn_app (goodIn_of _ (by decide +kernel)) ggX1_spread_X1_strip
theorem dX1_spread_0 : decode cX1_spread 0 = .ok (.lload_n 0, 1) := by decide +kernel
theorem dX1_spread_1 : decode cX1_spread 1 = .ok (.invokestatic 13, 3) := by decide +kernel
theorem dX1_spread_4 : decode cX1_spread 4 = .ok (.lstore_n 3, 1) := by decide +kernel
theorem dX1_spread_5 : decode cX1_spread 5 = .ok (.lconst 1, 1) := by decide +kernel
theorem dX1_spread_6 : decode cX1_spread 6 = .ok (.lstore 5, 2) := by decide +kernel
theorem dX1_spread_8 : decode cX1_spread 8 = .ok (.lconst 0, 1) := by decide +kernel
theorem dX1_spread_9 : decode cX1_spread 9 = .ok (.lstore 7, 2) := by decide +kernel
theorem dX1_spread_11 : decode cX1_spread 11 = .ok (.iconst 0, 1) := by decide +kernel
theorem dX1_spread_12 : decode cX1_spread 12 = .ok (.istore 9, 2) := by decide +kernel
theorem dX1_spread_14 : decode cX1_spread 14 = .ok (.iload 9, 2) := by decide +kernel
theorem dX1_spread_16 : decode cX1_spread 16 = .ok (.bipush 8, 2) := by decide +kernel
theorem dX1_spread_18 : decode cX1_spread 18 = .ok (.if_icmp .ge 49, 3) := by decide +kernel
theorem dX1_spread_21 : decode cX1_spread 21 = .ok (.iload_n 2, 1) := by decide +kernel
theorem dX1_spread_22 : decode cX1_spread 22 = .ok (.iload 9, 2) := by decide +kernel
theorem dX1_spread_24 : decode cX1_spread 24 = .ok (.ishr, 1) := by decide +kernel
theorem dX1_spread_25 : decode cX1_spread 25 = .ok (.iconst 1, 1) := by decide +kernel
theorem dX1_spread_26 : decode cX1_spread 26 = .ok (.iand, 1) := by decide +kernel
theorem dX1_spread_27 : decode cX1_spread 27 = .ok (.iconst 1, 1) := by decide +kernel
theorem dX1_spread_28 : decode cX1_spread 28 = .ok (.if_icmp .ne 25, 3) := by decide +kernel
theorem dX1_spread_31 : decode cX1_spread 31 = .ok (.lload 7, 2) := by decide +kernel
theorem dX1_spread_33 : decode cX1_spread 33 = .ok (.lload_n 3, 1) := by decide +kernel
theorem dX1_spread_34 : decode cX1_spread 34 = .ok (.ldc2_w 11, 3) := by decide +kernel
theorem dX1_spread_37 : decode cX1_spread 37 = .ok (.lrem, 1) := by decide +kernel
theorem dX1_spread_38 : decode cX1_spread 38 = .ok (.lload 5, 2) := by decide +kernel
theorem dX1_spread_40 : decode cX1_spread 40 = .ok (.lmul, 1) := by decide +kernel
theorem dX1_spread_41 : decode cX1_spread 41 = .ok (.ladd, 1) := by decide +kernel
theorem dX1_spread_42 : decode cX1_spread 42 = .ok (.lstore 7, 2) := by decide +kernel
theorem dX1_spread_44 : decode cX1_spread 44 = .ok (.lload_n 3, 1) := by decide +kernel
theorem dX1_spread_45 : decode cX1_spread 45 = .ok (.ldc2_w 11, 3) := by decide +kernel
theorem dX1_spread_48 : decode cX1_spread 48 = .ok (.ldiv, 1) := by decide +kernel
theorem dX1_spread_49 : decode cX1_spread 49 = .ok (.invokestatic 13, 3) := by decide +kernel
theorem dX1_spread_52 : decode cX1_spread 52 = .ok (.lstore_n 3, 1) := by decide +kernel
theorem dX1_spread_53 : decode cX1_spread 53 = .ok (.lload 5, 2) := by decide +kernel
theorem dX1_spread_55 : decode cX1_spread 55 = .ok (.ldc2_w 11, 3) := by decide +kernel
theorem dX1_spread_58 : decode cX1_spread 58 = .ok (.lmul, 1) := by decide +kernel
theorem dX1_spread_59 : decode cX1_spread 59 = .ok (.lstore 5, 2) := by decide +kernel
theorem dX1_spread_61 : decode cX1_spread 61 = .ok (.iinc 9 1, 3) := by decide +kernel
theorem dX1_spread_64 : decode cX1_spread 64 = .ok (.goto (-50), 3) := by decide +kernel
theorem dX1_spread_67 : decode cX1_spread 67 = .ok (.lload 7, 2) := by decide +kernel
theorem dX1_spread_69 : decode cX1_spread 69 = .ok (.lreturn, 1) := by decide +kernel
theorem dX1_raise_0 : decode cX1_raise 0 = .ok (.lload_n 0, 1) := by decide +kernel
theorem dX1_raise_1 : decode cX1_raise 1 = .ok (.lstore_n 3, 1) := by decide +kernel
theorem dX1_raise_2 : decode cX1_raise 2 = .ok (.iconst 0, 1) := by decide +kernel
theorem dX1_raise_3 : decode cX1_raise 3 = .ok (.istore 5, 2) := by decide +kernel
theorem dX1_raise_5 : decode cX1_raise 5 = .ok (.iload 5, 2) := by decide +kernel
theorem dX1_raise_7 : decode cX1_raise 7 = .ok (.iload_n 2, 1) := by decide +kernel
theorem dX1_raise_8 : decode cX1_raise 8 = .ok (.if_icmp .ge 29, 3) := by decide +kernel
theorem dX1_raise_11 : decode cX1_raise 11 = .ok (.lload_n 3, 1) := by decide +kernel
theorem dX1_raise_12 : decode cX1_raise 12 = .ok (.ldc2_w 17, 3) := by decide +kernel
theorem dX1_raise_15 : decode cX1_raise 15 = .ok (.lcmp, 1) := by decide +kernel
theorem dX1_raise_16 : decode cX1_raise 16 = .ok (.ifCond .lt 9, 3) := by decide +kernel
theorem dX1_raise_19 : decode cX1_raise 19 = .ok (.ldc2_w 9, 3) := by decide +kernel
theorem dX1_raise_22 : decode cX1_raise 22 = .ok (.goto 8, 3) := by decide +kernel
theorem dX1_raise_25 : decode cX1_raise 25 = .ok (.lload_n 3, 1) := by decide +kernel
theorem dX1_raise_26 : decode cX1_raise 26 = .ok (.ldc2_w 11, 3) := by decide +kernel
theorem dX1_raise_29 : decode cX1_raise 29 = .ok (.lmul, 1) := by decide +kernel
theorem dX1_raise_30 : decode cX1_raise 30 = .ok (.lstore_n 3, 1) := by decide +kernel
theorem dX1_raise_31 : decode cX1_raise 31 = .ok (.iinc 5 1, 3) := by decide +kernel
theorem dX1_raise_34 : decode cX1_raise 34 = .ok (.goto (-29), 3) := by decide +kernel
theorem dX1_raise_37 : decode cX1_raise 37 = .ok (.lload_n 3, 1) := by decide +kernel
theorem dX1_raise_38 : decode cX1_raise 38 = .ok (.lreturn, 1) := by decide +kernel
theorem dX1_atPlace_0 : decode cX1_atPlace 0 = .ok (.lload_n 0, 1) := by decide +kernel
theorem dX1_atPlace_1 : decode cX1_atPlace 1 = .ok (.lstore_n 3, 1) := by decide +kernel
theorem dX1_atPlace_2 : decode cX1_atPlace 2 = .ok (.iconst 0, 1) := by decide +kernel
theorem dX1_atPlace_3 : decode cX1_atPlace 3 = .ok (.istore 5, 2) := by decide +kernel
theorem dX1_atPlace_5 : decode cX1_atPlace 5 = .ok (.iload 5, 2) := by decide +kernel
theorem dX1_atPlace_7 : decode cX1_atPlace 7 = .ok (.iload_n 2, 1) := by decide +kernel
theorem dX1_atPlace_8 : decode cX1_atPlace 8 = .ok (.if_icmp .ge 22, 3) := by decide +kernel
theorem dX1_atPlace_11 : decode cX1_atPlace 11 = .ok (.iload 5, 2) := by decide +kernel
theorem dX1_atPlace_13 : decode cX1_atPlace 13 = .ok (.bipush 8, 2) := by decide +kernel
theorem dX1_atPlace_15 : decode cX1_atPlace 15 = .ok (.if_icmp .ge 15, 3) := by decide +kernel
theorem dX1_atPlace_18 : decode cX1_atPlace 18 = .ok (.lload_n 3, 1) := by decide +kernel
theorem dX1_atPlace_19 : decode cX1_atPlace 19 = .ok (.ldc2_w 11, 3) := by decide +kernel
theorem dX1_atPlace_22 : decode cX1_atPlace 22 = .ok (.lmul, 1) := by decide +kernel
theorem dX1_atPlace_23 : decode cX1_atPlace 23 = .ok (.lstore_n 3, 1) := by decide +kernel
theorem dX1_atPlace_24 : decode cX1_atPlace 24 = .ok (.iinc 5 1, 3) := by decide +kernel
theorem dX1_atPlace_27 : decode cX1_atPlace 27 = .ok (.goto (-22), 3) := by decide +kernel
theorem dX1_atPlace_30 : decode cX1_atPlace 30 = .ok (.lload_n 3, 1) := by decide +kernel
theorem dX1_atPlace_31 : decode cX1_atPlace 31 = .ok (.lreturn, 1) := by decide +kernel
theorem dX1_floorRoot_0 : decode cX1_floorRoot 0 = .ok (.lconst 0, 1) := by decide +kernel
theorem dX1_floorRoot_1 : decode cX1_floorRoot 1 = .ok (.lstore_n 2, 1) := by decide +kernel
theorem dX1_floorRoot_2 : decode cX1_floorRoot 2 = .ok (.ldc2_w 19, 3) := by decide +kernel
theorem dX1_floorRoot_5 : decode cX1_floorRoot 5 = .ok (.lstore 4, 2) := by decide +kernel
theorem dX1_floorRoot_7 : decode cX1_floorRoot 7 = .ok (.iconst 0, 1) := by decide +kernel
theorem dX1_floorRoot_8 : decode cX1_floorRoot 8 = .ok (.istore 6, 2) := by decide +kernel
theorem dX1_floorRoot_10 : decode cX1_floorRoot 10 = .ok (.iload 6, 2) := by decide +kernel
theorem dX1_floorRoot_12 : decode cX1_floorRoot 12 = .ok (.bipush 31, 2) := by decide +kernel
theorem dX1_floorRoot_14 : decode cX1_floorRoot 14 = .ok (.if_icmp .ge 48, 3) := by decide +kernel
theorem dX1_floorRoot_17 : decode cX1_floorRoot 17 = .ok (.lload 4, 2) := by decide +kernel
theorem dX1_floorRoot_19 : decode cX1_floorRoot 19 = .ok (.lload_n 2, 1) := by decide +kernel
theorem dX1_floorRoot_20 : decode cX1_floorRoot 20 = .ok (.lsub, 1) := by decide +kernel
theorem dX1_floorRoot_21 : decode cX1_floorRoot 21 = .ok (.lconst 1, 1) := by decide +kernel
theorem dX1_floorRoot_22 : decode cX1_floorRoot 22 = .ok (.lcmp, 1) := by decide +kernel
theorem dX1_floorRoot_23 : decode cX1_floorRoot 23 = .ok (.ifCond .le 39, 3) := by decide +kernel
theorem dX1_floorRoot_26 : decode cX1_floorRoot 26 = .ok (.lload_n 2, 1) := by decide +kernel
theorem dX1_floorRoot_27 : decode cX1_floorRoot 27 = .ok (.lload 4, 2) := by decide +kernel
theorem dX1_floorRoot_29 : decode cX1_floorRoot 29 = .ok (.ladd, 1) := by decide +kernel
theorem dX1_floorRoot_30 : decode cX1_floorRoot 30 = .ok (.ldc2_w 21, 3) := by decide +kernel
theorem dX1_floorRoot_33 : decode cX1_floorRoot 33 = .ok (.ldiv, 1) := by decide +kernel
theorem dX1_floorRoot_34 : decode cX1_floorRoot 34 = .ok (.lstore 7, 2) := by decide +kernel
theorem dX1_floorRoot_36 : decode cX1_floorRoot 36 = .ok (.lload 7, 2) := by decide +kernel
theorem dX1_floorRoot_38 : decode cX1_floorRoot 38 = .ok (.lload 7, 2) := by decide +kernel
theorem dX1_floorRoot_40 : decode cX1_floorRoot 40 = .ok (.lmul, 1) := by decide +kernel
theorem dX1_floorRoot_41 : decode cX1_floorRoot 41 = .ok (.lload_n 0, 1) := by decide +kernel
theorem dX1_floorRoot_42 : decode cX1_floorRoot 42 = .ok (.lcmp, 1) := by decide +kernel
theorem dX1_floorRoot_43 : decode cX1_floorRoot 43 = .ok (.ifCond .gt 9, 3) := by decide +kernel
theorem dX1_floorRoot_46 : decode cX1_floorRoot 46 = .ok (.lload 7, 2) := by decide +kernel
theorem dX1_floorRoot_48 : decode cX1_floorRoot 48 = .ok (.lstore_n 2, 1) := by decide +kernel
theorem dX1_floorRoot_49 : decode cX1_floorRoot 49 = .ok (.goto 7, 3) := by decide +kernel
theorem dX1_floorRoot_52 : decode cX1_floorRoot 52 = .ok (.lload 7, 2) := by decide +kernel
theorem dX1_floorRoot_54 : decode cX1_floorRoot 54 = .ok (.lstore 4, 2) := by decide +kernel
theorem dX1_floorRoot_56 : decode cX1_floorRoot 56 = .ok (.iinc 6 1, 3) := by decide +kernel
theorem dX1_floorRoot_59 : decode cX1_floorRoot 59 = .ok (.goto (-49), 3) := by decide +kernel
theorem dX1_floorRoot_62 : decode cX1_floorRoot 62 = .ok (.lload_n 2, 1) := by decide +kernel
theorem dX1_floorRoot_63 : decode cX1_floorRoot 63 = .ok (.lreturn, 1) := by decide +kernel
theorem dX2_isTable_0 : decode cX2_isTable 0 = .ok (.iload_n 0, 1) := by decide +kernel
theorem dX2_isTable_1 : decode cX2_isTable 1 = .ok (.ifCond .ne 20, 3) := by decide +kernel
theorem dX2_isTable_4 : decode cX2_isTable 4 = .ok (.iload_n 1, 1) := by decide +kernel
theorem dX2_isTable_5 : decode cX2_isTable 5 = .ok (.iconst 1, 1) := by decide +kernel
theorem dX2_isTable_6 : decode cX2_isTable 6 = .ok (.if_icmp .lt 13, 3) := by decide +kernel
theorem dX2_isTable_9 : decode cX2_isTable 9 = .ok (.iload_n 1, 1) := by decide +kernel
theorem dX2_isTable_10 : decode cX2_isTable 10 = .ok (.bipush 59, 2) := by decide +kernel
theorem dX2_isTable_12 : decode cX2_isTable 12 = .ok (.if_icmp .gt 7, 3) := by decide +kernel
theorem dX2_isTable_15 : decode cX2_isTable 15 = .ok (.iconst 1, 1) := by decide +kernel
theorem dX2_isTable_16 : decode cX2_isTable 16 = .ok (.goto 4, 3) := by decide +kernel
theorem dX2_isTable_19 : decode cX2_isTable 19 = .ok (.iconst 0, 1) := by decide +kernel
theorem dX2_isTable_20 : decode cX2_isTable 20 = .ok (.ireturn, 1) := by decide +kernel
theorem dX2_isTable_21 : decode cX2_isTable 21 = .ok (.iload_n 0, 1) := by decide +kernel
theorem dX2_isTable_22 : decode cX2_isTable 22 = .ok (.ifCond .le 16, 3) := by decide +kernel
theorem dX2_isTable_25 : decode cX2_isTable 25 = .ok (.iload_n 0, 1) := by decide +kernel
theorem dX2_isTable_26 : decode cX2_isTable 26 = .ok (.iconst 4, 1) := by decide +kernel
theorem dX2_isTable_27 : decode cX2_isTable 27 = .ok (.if_icmp .ge 11, 3) := by decide +kernel
theorem dX2_isTable_30 : decode cX2_isTable 30 = .ok (.iload_n 1, 1) := by decide +kernel
theorem dX2_isTable_31 : decode cX2_isTable 31 = .ok (.ifCond .ne 7, 3) := by decide +kernel
theorem dX2_isTable_34 : decode cX2_isTable 34 = .ok (.iconst 1, 1) := by decide +kernel
theorem dX2_isTable_35 : decode cX2_isTable 35 = .ok (.goto 4, 3) := by decide +kernel
theorem dX2_isTable_38 : decode cX2_isTable 38 = .ok (.iconst 0, 1) := by decide +kernel
theorem dX2_isTable_39 : decode cX2_isTable 39 = .ok (.ireturn, 1) := by decide +kernel
set_option maxRecDepth 20000 in
theorem ggX2_rowsOf_X4_listRows : GoodIn wsX2_rowsOf wsX4_listRows := goodIn_r _ [4, 5] (by decide +kernel) (by decide +kernel)
set_option maxRecDepth 20000 in
theorem gX2_rowsOf_X4_listRows : GoodIn wsX2_rowsOf (va_wsS RX2 9 yX4_listRows wsX4_listRows) := goodIn_app (goodIn_of _ (by decide +kernel)) ggX2_rowsOf_X4_listRows
theorem dX2_rowsOf_0 : decode cX2_rowsOf 0 = .ok (.iload_n 0, 1) := by decide +kernel
theorem dX2_rowsOf_1 : decode cX2_rowsOf 1 = .ok (.lookupswitch 34 #[(1, 27), (3, 31)], 27) := by decide +kernel
theorem dX2_rowsOf_28 : decode cX2_rowsOf 28 = .ok (.invokestatic 9, 3) := by decide +kernel
theorem dX2_rowsOf_31 : decode cX2_rowsOf 31 = .ok (.ireturn, 1) := by decide +kernel
theorem dX2_rowsOf_32 : decode cX2_rowsOf 32 = .ok (.bipush 40, 2) := by decide +kernel
theorem dX2_rowsOf_34 : decode cX2_rowsOf 34 = .ok (.ireturn, 1) := by decide +kernel
theorem dX2_rowsOf_35 : decode cX2_rowsOf 35 = .ok (.bipush 59, 2) := by decide +kernel
theorem dX2_rowsOf_37 : decode cX2_rowsOf 37 = .ok (.ireturn, 1) := by decide +kernel
set_option maxRecDepth 20000 in
theorem ggX2_number_X2_listColumn : GoodIn wsX2_number wsX2_listColumn := goodIn_r _ [4, 5, 6, 7, 8, 9, 10, 11, 12, 13, 14, 15, 16, 17, 18, 19, 20, 21, 22, 23, 24, 25, 26] (by decide +kernel) (by decide +kernel)
set_option maxRecDepth 20000 in
theorem gX2_number_X2_listColumn : GoodIn wsX2_number (va_wsS RX2 15 yX2_listColumn wsX2_listColumn) := goodIn_app (goodIn_of _ (by decide +kernel)) ggX2_number_X2_listColumn
theorem dX2_number_0 : decode cX2_number 0 = .ok (.iload_n 2, 1) := by decide +kernel
theorem dX2_number_1 : decode cX2_number 1 = .ok (.iconst 1, 1) := by decide +kernel
theorem dX2_number_2 : decode cX2_number 2 = .ok (.iadd, 1) := by decide +kernel
theorem dX2_number_3 : decode cX2_number 3 = .ok (.istore 4, 2) := by decide +kernel
theorem dX2_number_5 : decode cX2_number 5 = .ok (.iload_n 0, 1) := by decide +kernel
theorem dX2_number_6 : decode cX2_number 6 = .ok (.tableswitch 80 0 2 #[26, 49, 64], 26) := by decide +kernel
theorem dX2_number_32 : decode cX2_number 32 = .ok (.iload_n 3, 1) := by decide +kernel
theorem dX2_number_33 : decode cX2_number 33 = .ok (.ifCond .ne 7, 3) := by decide +kernel
theorem dX2_number_36 : decode cX2_number 36 = .ok (.iload_n 1, 1) := by decide +kernel
theorem dX2_number_37 : decode cX2_number 37 = .ok (.goto 17, 3) := by decide +kernel
theorem dX2_number_40 : decode cX2_number 40 = .ok (.iload_n 3, 1) := by decide +kernel
theorem dX2_number_41 : decode cX2_number 41 = .ok (.iconst 1, 1) := by decide +kernel
theorem dX2_number_42 : decode cX2_number 42 = .ok (.if_icmp .ne 8, 3) := by decide +kernel
theorem dX2_number_45 : decode cX2_number 45 = .ok (.iload 4, 2) := by decide +kernel
theorem dX2_number_47 : decode cX2_number 47 = .ok (.goto 7, 3) := by decide +kernel
theorem dX2_number_50 : decode cX2_number 50 = .ok (.iload_n 1, 1) := by decide +kernel
theorem dX2_number_51 : decode cX2_number 51 = .ok (.iload 4, 2) := by decide +kernel
theorem dX2_number_53 : decode cX2_number 53 = .ok (.imul, 1) := by decide +kernel
theorem dX2_number_54 : decode cX2_number 54 = .ok (.ireturn, 1) := by decide +kernel
theorem dX2_number_55 : decode cX2_number 55 = .ok (.iload_n 3, 1) := by decide +kernel
theorem dX2_number_56 : decode cX2_number 56 = .ok (.iconst 2, 1) := by decide +kernel
theorem dX2_number_57 : decode cX2_number 57 = .ok (.if_icmp .ne 7, 3) := by decide +kernel
theorem dX2_number_60 : decode cX2_number 60 = .ok (.iconst 1, 1) := by decide +kernel
theorem dX2_number_61 : decode cX2_number 61 = .ok (.goto 8, 3) := by decide +kernel
theorem dX2_number_64 : decode cX2_number 64 = .ok (.iload_n 2, 1) := by decide +kernel
theorem dX2_number_65 : decode cX2_number 65 = .ok (.iload_n 3, 1) := by decide +kernel
theorem dX2_number_66 : decode cX2_number 66 = .ok (.invokestatic 15, 3) := by decide +kernel
theorem dX2_number_69 : decode cX2_number 69 = .ok (.ireturn, 1) := by decide +kernel
theorem dX2_number_70 : decode cX2_number 70 = .ok (.iload_n 3, 1) := by decide +kernel
theorem dX2_number_71 : decode cX2_number 71 = .ok (.iconst 2, 1) := by decide +kernel
theorem dX2_number_72 : decode cX2_number 72 = .ok (.if_icmp .ge 8, 3) := by decide +kernel
theorem dX2_number_75 : decode cX2_number 75 = .ok (.iload 4, 2) := by decide +kernel
theorem dX2_number_77 : decode cX2_number 77 = .ok (.goto 8, 3) := by decide +kernel
theorem dX2_number_80 : decode cX2_number 80 = .ok (.iload 4, 2) := by decide +kernel
theorem dX2_number_82 : decode cX2_number 82 = .ok (.iload 4, 2) := by decide +kernel
theorem dX2_number_84 : decode cX2_number 84 = .ok (.imul, 1) := by decide +kernel
theorem dX2_number_85 : decode cX2_number 85 = .ok (.ireturn, 1) := by decide +kernel
theorem dX2_number_86 : decode cX2_number 86 = .ok (.iload_n 3, 1) := by decide +kernel
theorem dX2_number_87 : decode cX2_number 87 = .ok (.ifCond .ne 8, 3) := by decide +kernel
theorem dX2_number_90 : decode cX2_number 90 = .ok (.iload 4, 2) := by decide +kernel
theorem dX2_number_92 : decode cX2_number 92 = .ok (.goto 24, 3) := by decide +kernel
theorem dX2_number_95 : decode cX2_number 95 = .ok (.iload_n 3, 1) := by decide +kernel
theorem dX2_number_96 : decode cX2_number 96 = .ok (.iconst 1, 1) := by decide +kernel
theorem dX2_number_97 : decode cX2_number 97 = .ok (.if_icmp .ne 11, 3) := by decide +kernel
theorem dX2_number_100 : decode cX2_number 100 = .ok (.iload 4, 2) := by decide +kernel
theorem dX2_number_102 : decode cX2_number 102 = .ok (.iload 4, 2) := by decide +kernel
theorem dX2_number_104 : decode cX2_number 104 = .ok (.imul, 1) := by decide +kernel
theorem dX2_number_105 : decode cX2_number 105 = .ok (.goto 11, 3) := by decide +kernel
theorem dX2_number_108 : decode cX2_number 108 = .ok (.iload 4, 2) := by decide +kernel
theorem dX2_number_110 : decode cX2_number 110 = .ok (.iload 4, 2) := by decide +kernel
theorem dX2_number_112 : decode cX2_number 112 = .ok (.imul, 1) := by decide +kernel
theorem dX2_number_113 : decode cX2_number 113 = .ok (.iload 4, 2) := by decide +kernel
theorem dX2_number_115 : decode cX2_number 115 = .ok (.imul, 1) := by decide +kernel
theorem dX2_number_116 : decode cX2_number 116 = .ok (.ireturn, 1) := by decide +kernel
set_option maxRecDepth 20000 in
theorem ggX2_listColumn_X4_listed : GoodIn wsX2_listColumn wsX4_listed := goodIn_r _ [4, 5] (by decide +kernel) (by decide +kernel)
set_option maxRecDepth 20000 in
theorem gX2_listColumn_X4_listed : GoodIn wsX2_listColumn (va_wsS RX2 19 yX4_listed wsX4_listed) := goodIn_app (goodIn_of _ (by decide +kernel)) ggX2_listColumn_X4_listed
set_option maxRecDepth 20000 in
theorem ggX2_listColumn_X4_turnOver : GoodIn wsX2_listColumn wsX4_turnOver := goodIn_r _ [8, 9, 10, 11, 12, 13, 14, 3, 15, 16, 17, 18, 19, 20, 21, 22] (by decide +kernel) (by decide +kernel)
set_option maxRecDepth 20000 in
theorem gX2_listColumn_X4_turnOver : GoodIn wsX2_listColumn (va_wsS RX2 23 yX4_turnOver wsX4_turnOver) := goodIn_app (goodIn_of _ (by decide +kernel)) ggX2_listColumn_X4_turnOver
theorem dX2_listColumn_0 : decode cX2_listColumn 0 = .ok (.iload_n 0, 1) := by decide +kernel
theorem dX2_listColumn_1 : decode cX2_listColumn 1 = .ok (.invokestatic 19, 3) := by decide +kernel
theorem dX2_listColumn_4 : decode cX2_listColumn 4 = .ok (.istore_n 2, 1) := by decide +kernel
theorem dX2_listColumn_5 : decode cX2_listColumn 5 = .ok (.iload_n 1, 1) := by decide +kernel
theorem dX2_listColumn_6 : decode cX2_listColumn 6 = .ok (.ifCond .ne 7, 3) := by decide +kernel
theorem dX2_listColumn_9 : decode cX2_listColumn 9 = .ok (.iload_n 2, 1) := by decide +kernel
theorem dX2_listColumn_10 : decode cX2_listColumn 10 = .ok (.goto 9, 3) := by decide +kernel
theorem dX2_listColumn_13 : decode cX2_listColumn 13 = .ok (.iload_n 2, 1) := by decide +kernel
theorem dX2_listColumn_14 : decode cX2_listColumn 14 = .ok (.i2l, 1) := by decide +kernel
theorem dX2_listColumn_15 : decode cX2_listColumn 15 = .ok (.invokestatic 23, 3) := by decide +kernel
theorem dX2_listColumn_18 : decode cX2_listColumn 18 = .ok (.l2i, 1) := by decide +kernel
theorem dX2_listColumn_19 : decode cX2_listColumn 19 = .ok (.ireturn, 1) := by decide +kernel
theorem dX3_init_0 : decode cX3_init 0 = .ok (.aload_n 0, 1) := by decide +kernel
theorem dX3_init_1 : decode cX3_init 1 = .ok (.invokespecial 3, 3) := by decide +kernel
theorem dX3_init_4 : decode cX3_init 4 = .ok (.aload_n 0, 1) := by decide +kernel
theorem dX3_init_5 : decode cX3_init 5 = .ok (.bipush 24, 2) := by decide +kernel
theorem dX3_init_7 : decode cX3_init 7 = .ok (.newarray .int, 2) := by decide +kernel
theorem dX3_init_9 : decode cX3_init 9 = .ok (.putfield 9, 3) := by decide +kernel
theorem dX3_init_12 : decode cX3_init 12 = .ok (.aload_n 0, 1) := by decide +kernel
theorem dX3_init_13 : decode cX3_init 13 = .ok (.bipush 24, 2) := by decide +kernel
theorem dX3_init_15 : decode cX3_init 15 = .ok (.newarray .int, 2) := by decide +kernel
theorem dX3_init_17 : decode cX3_init 17 = .ok (.putfield 13, 3) := by decide +kernel
theorem dX3_init_20 : decode cX3_init 20 = .ok (.aload_n 0, 1) := by decide +kernel
theorem dX3_init_21 : decode cX3_init 21 = .ok (.iconst 1, 1) := by decide +kernel
theorem dX3_init_22 : decode cX3_init 22 = .ok (.putfield 16, 3) := by decide +kernel
theorem dX3_init_25 : decode cX3_init 25 = .ok (.return_, 1) := by decide +kernel
theorem dX3_rowCount_0 : decode cX3_rowCount 0 = .ok (.aload_n 0, 1) := by decide +kernel
theorem dX3_rowCount_1 : decode cX3_rowCount 1 = .ok (.getfield 16, 3) := by decide +kernel
theorem dX3_rowCount_4 : decode cX3_rowCount 4 = .ok (.ireturn, 1) := by decide +kernel
theorem dX3_hasCell_0 : decode cX3_hasCell 0 = .ok (.iload_n 1, 1) := by decide +kernel
theorem dX3_hasCell_1 : decode cX3_hasCell 1 = .ok (.ifCond .lt 24, 3) := by decide +kernel
theorem dX3_hasCell_4 : decode cX3_hasCell 4 = .ok (.iload_n 1, 1) := by decide +kernel
theorem dX3_hasCell_5 : decode cX3_hasCell 5 = .ok (.aload_n 0, 1) := by decide +kernel
theorem dX3_hasCell_6 : decode cX3_hasCell 6 = .ok (.getfield 16, 3) := by decide +kernel
theorem dX3_hasCell_9 : decode cX3_hasCell 9 = .ok (.if_icmp .ge 16, 3) := by decide +kernel
theorem dX3_hasCell_12 : decode cX3_hasCell 12 = .ok (.iload_n 2, 1) := by decide +kernel
theorem dX3_hasCell_13 : decode cX3_hasCell 13 = .ok (.ifCond .lt 12, 3) := by decide +kernel
theorem dX3_hasCell_16 : decode cX3_hasCell 16 = .ok (.iload_n 2, 1) := by decide +kernel
theorem dX3_hasCell_17 : decode cX3_hasCell 17 = .ok (.iconst 3, 1) := by decide +kernel
theorem dX3_hasCell_18 : decode cX3_hasCell 18 = .ok (.if_icmp .ge 7, 3) := by decide +kernel
theorem dX3_hasCell_21 : decode cX3_hasCell 21 = .ok (.iconst 1, 1) := by decide +kernel
theorem dX3_hasCell_22 : decode cX3_hasCell 22 = .ok (.goto 4, 3) := by decide +kernel
theorem dX3_hasCell_25 : decode cX3_hasCell 25 = .ok (.iconst 0, 1) := by decide +kernel
theorem dX3_hasCell_26 : decode cX3_hasCell 26 = .ok (.ireturn, 1) := by decide +kernel
theorem dX3_smooth_0 : decode cX3_smooth 0 = .ok (.aload_n 0, 1) := by decide +kernel
theorem dX3_smooth_1 : decode cX3_smooth 1 = .ok (.iload_n 1, 1) := by decide +kernel
theorem dX3_smooth_2 : decode cX3_smooth 2 = .ok (.putfield 16, 3) := by decide +kernel
theorem dX3_smooth_5 : decode cX3_smooth 5 = .ok (.iconst 0, 1) := by decide +kernel
theorem dX3_smooth_6 : decode cX3_smooth 6 = .ok (.istore_n 2, 1) := by decide +kernel
theorem dX3_smooth_7 : decode cX3_smooth 7 = .ok (.iload_n 2, 1) := by decide +kernel
theorem dX3_smooth_8 : decode cX3_smooth 8 = .ok (.bipush 24, 2) := by decide +kernel
theorem dX3_smooth_10 : decode cX3_smooth 10 = .ok (.if_icmp .ge 23, 3) := by decide +kernel
theorem dX3_smooth_13 : decode cX3_smooth 13 = .ok (.aload_n 0, 1) := by decide +kernel
theorem dX3_smooth_14 : decode cX3_smooth 14 = .ok (.getfield 9, 3) := by decide +kernel
theorem dX3_smooth_17 : decode cX3_smooth 17 = .ok (.iload_n 2, 1) := by decide +kernel
theorem dX3_smooth_18 : decode cX3_smooth 18 = .ok (.iconst 0, 1) := by decide +kernel
theorem dX3_smooth_19 : decode cX3_smooth 19 = .ok (.iastore, 1) := by decide +kernel
theorem dX3_smooth_20 : decode cX3_smooth 20 = .ok (.aload_n 0, 1) := by decide +kernel
theorem dX3_smooth_21 : decode cX3_smooth 21 = .ok (.getfield 13, 3) := by decide +kernel
theorem dX3_smooth_24 : decode cX3_smooth 24 = .ok (.iload_n 2, 1) := by decide +kernel
theorem dX3_smooth_25 : decode cX3_smooth 25 = .ok (.iconst 0, 1) := by decide +kernel
theorem dX3_smooth_26 : decode cX3_smooth 26 = .ok (.iastore, 1) := by decide +kernel
theorem dX3_smooth_27 : decode cX3_smooth 27 = .ok (.iinc 2 1, 3) := by decide +kernel
theorem dX3_smooth_30 : decode cX3_smooth 30 = .ok (.goto (-23), 3) := by decide +kernel
theorem dX3_smooth_33 : decode cX3_smooth 33 = .ok (.return_, 1) := by decide +kernel
set_option maxRecDepth 20000 in
theorem ggX3_hold_X1_strip : GoodIn wsX3_hold wsX1_strip := goodIn_r _ [6, 7] (by decide +kernel) (by decide +kernel)
set_option maxRecDepth 20000 in
theorem gX3_hold_X1_strip : GoodIn wsX3_hold (va_wsS RX3 20 yX1_strip wsX1_strip) := goodIn_app (goodIn_of _ (by decide +kernel)) ggX3_hold_X1_strip
theorem dX3_hold_0 : decode cX3_hold 0 = .ok (.iload_n 1, 1) := by decide +kernel
theorem dX3_hold_1 : decode cX3_hold 1 = .ok (.iconst 3, 1) := by decide +kernel
theorem dX3_hold_2 : decode cX3_hold 2 = .ok (.imul, 1) := by decide +kernel
theorem dX3_hold_3 : decode cX3_hold 3 = .ok (.iload_n 2, 1) := by decide +kernel
theorem dX3_hold_4 : decode cX3_hold 4 = .ok (.iadd, 1) := by decide +kernel
theorem dX3_hold_5 : decode cX3_hold 5 = .ok (.istore 4, 2) := by decide +kernel
theorem dX3_hold_7 : decode cX3_hold 7 = .ok (.iload 4, 2) := by decide +kernel
theorem dX3_hold_9 : decode cX3_hold 9 = .ok (.ifCond .lt 39, 3) := by decide +kernel
theorem dX3_hold_12 : decode cX3_hold 12 = .ok (.iload 4, 2) := by decide +kernel
theorem dX3_hold_14 : decode cX3_hold 14 = .ok (.bipush 24, 2) := by decide +kernel
theorem dX3_hold_16 : decode cX3_hold 16 = .ok (.if_icmp .ge 32, 3) := by decide +kernel
theorem dX3_hold_19 : decode cX3_hold 19 = .ok (.aload_n 0, 1) := by decide +kernel
theorem dX3_hold_20 : decode cX3_hold 20 = .ok (.getfield 9, 3) := by decide +kernel
theorem dX3_hold_23 : decode cX3_hold 23 = .ok (.iload 4, 2) := by decide +kernel
theorem dX3_hold_25 : decode cX3_hold 25 = .ok (.iload_n 3, 1) := by decide +kernel
theorem dX3_hold_26 : decode cX3_hold 26 = .ok (.iastore, 1) := by decide +kernel
theorem dX3_hold_27 : decode cX3_hold 27 = .ok (.aload_n 0, 1) := by decide +kernel
theorem dX3_hold_28 : decode cX3_hold 28 = .ok (.getfield 13, 3) := by decide +kernel
theorem dX3_hold_31 : decode cX3_hold 31 = .ok (.iload 4, 2) := by decide +kernel
theorem dX3_hold_33 : decode cX3_hold 33 = .ok (.iload_n 3, 1) := by decide +kernel
theorem dX3_hold_34 : decode cX3_hold 34 = .ok (.ifCond .ne 7, 3) := by decide +kernel
theorem dX3_hold_37 : decode cX3_hold 37 = .ok (.iconst 0, 1) := by decide +kernel
theorem dX3_hold_38 : decode cX3_hold 38 = .ok (.goto 9, 3) := by decide +kernel
theorem dX3_hold_41 : decode cX3_hold 41 = .ok (.iload_n 3, 1) := by decide +kernel
theorem dX3_hold_42 : decode cX3_hold 42 = .ok (.i2l, 1) := by decide +kernel
theorem dX3_hold_43 : decode cX3_hold 43 = .ok (.invokestatic 20, 3) := by decide +kernel
theorem dX3_hold_46 : decode cX3_hold 46 = .ok (.l2i, 1) := by decide +kernel
theorem dX3_hold_47 : decode cX3_hold 47 = .ok (.iastore, 1) := by decide +kernel
theorem dX3_hold_48 : decode cX3_hold 48 = .ok (.return_, 1) := by decide +kernel
theorem dX3_held_0 : decode cX3_held 0 = .ok (.iload_n 1, 1) := by decide +kernel
theorem dX3_held_1 : decode cX3_held 1 = .ok (.iconst 3, 1) := by decide +kernel
theorem dX3_held_2 : decode cX3_held 2 = .ok (.imul, 1) := by decide +kernel
theorem dX3_held_3 : decode cX3_held 3 = .ok (.iload_n 2, 1) := by decide +kernel
theorem dX3_held_4 : decode cX3_held 4 = .ok (.iadd, 1) := by decide +kernel
theorem dX3_held_5 : decode cX3_held 5 = .ok (.istore_n 3, 1) := by decide +kernel
theorem dX3_held_6 : decode cX3_held 6 = .ok (.iload_n 3, 1) := by decide +kernel
theorem dX3_held_7 : decode cX3_held 7 = .ok (.ifCond .lt 18, 3) := by decide +kernel
theorem dX3_held_10 : decode cX3_held 10 = .ok (.iload_n 3, 1) := by decide +kernel
theorem dX3_held_11 : decode cX3_held 11 = .ok (.bipush 24, 2) := by decide +kernel
theorem dX3_held_13 : decode cX3_held 13 = .ok (.if_icmp .ge 12, 3) := by decide +kernel
theorem dX3_held_16 : decode cX3_held 16 = .ok (.aload_n 0, 1) := by decide +kernel
theorem dX3_held_17 : decode cX3_held 17 = .ok (.getfield 9, 3) := by decide +kernel
theorem dX3_held_20 : decode cX3_held 20 = .ok (.iload_n 3, 1) := by decide +kernel
theorem dX3_held_21 : decode cX3_held 21 = .ok (.iaload, 1) := by decide +kernel
theorem dX3_held_22 : decode cX3_held 22 = .ok (.goto 4, 3) := by decide +kernel
theorem dX3_held_25 : decode cX3_held 25 = .ok (.iconst 0, 1) := by decide +kernel
theorem dX3_held_26 : decode cX3_held 26 = .ok (.ireturn, 1) := by decide +kernel
theorem dX3_heldSixty_0 : decode cX3_heldSixty 0 = .ok (.iload_n 1, 1) := by decide +kernel
theorem dX3_heldSixty_1 : decode cX3_heldSixty 1 = .ok (.iconst 3, 1) := by decide +kernel
theorem dX3_heldSixty_2 : decode cX3_heldSixty 2 = .ok (.imul, 1) := by decide +kernel
theorem dX3_heldSixty_3 : decode cX3_heldSixty 3 = .ok (.iload_n 2, 1) := by decide +kernel
theorem dX3_heldSixty_4 : decode cX3_heldSixty 4 = .ok (.iadd, 1) := by decide +kernel
theorem dX3_heldSixty_5 : decode cX3_heldSixty 5 = .ok (.istore_n 3, 1) := by decide +kernel
theorem dX3_heldSixty_6 : decode cX3_heldSixty 6 = .ok (.iload_n 3, 1) := by decide +kernel
theorem dX3_heldSixty_7 : decode cX3_heldSixty 7 = .ok (.ifCond .lt 18, 3) := by decide +kernel
theorem dX3_heldSixty_10 : decode cX3_heldSixty 10 = .ok (.iload_n 3, 1) := by decide +kernel
theorem dX3_heldSixty_11 : decode cX3_heldSixty 11 = .ok (.bipush 24, 2) := by decide +kernel
theorem dX3_heldSixty_13 : decode cX3_heldSixty 13 = .ok (.if_icmp .ge 12, 3) := by decide +kernel
theorem dX3_heldSixty_16 : decode cX3_heldSixty 16 = .ok (.aload_n 0, 1) := by decide +kernel
theorem dX3_heldSixty_17 : decode cX3_heldSixty 17 = .ok (.getfield 13, 3) := by decide +kernel
theorem dX3_heldSixty_20 : decode cX3_heldSixty 20 = .ok (.iload_n 3, 1) := by decide +kernel
theorem dX3_heldSixty_21 : decode cX3_heldSixty 21 = .ok (.iaload, 1) := by decide +kernel
theorem dX3_heldSixty_22 : decode cX3_heldSixty 22 = .ok (.goto 4, 3) := by decide +kernel
theorem dX3_heldSixty_25 : decode cX3_heldSixty 25 = .ok (.iconst 0, 1) := by decide +kernel
theorem dX3_heldSixty_26 : decode cX3_heldSixty 26 = .ok (.ireturn, 1) := by decide +kernel
set_option maxRecDepth 20000 in
theorem ggX3_mayBe_X3_heldSixty : GoodIn wsX3_mayBe wsX3_heldSixty := goodIn_r _ [5, 6, 12, 13, 14] (by decide +kernel) (by decide +kernel)
set_option maxRecDepth 20000 in
theorem gX3_mayBe_X3_heldSixty : GoodIn wsX3_mayBe (wsV RX3 26 RX3 yX3_heldSixty wsX3_heldSixty) := goodIn_app (goodIn_of _ (by decide +kernel)) ggX3_mayBe_X3_heldSixty
set_option maxRecDepth 20000 in
theorem ggX3_mayBe_X1_strip : GoodIn wsX3_mayBe wsX1_strip := goodIn_r _ [10, 11] (by decide +kernel) (by decide +kernel)
set_option maxRecDepth 20000 in
theorem gX3_mayBe_X1_strip : GoodIn wsX3_mayBe (va_wsS RX3 20 yX1_strip wsX1_strip) := goodIn_app (goodIn_of _ (by decide +kernel)) ggX3_mayBe_X1_strip
theorem dX3_mayBe_0 : decode cX3_mayBe 0 = .ok (.aload_n 0, 1) := by decide +kernel
theorem dX3_mayBe_1 : decode cX3_mayBe 1 = .ok (.iload_n 1, 1) := by decide +kernel
theorem dX3_mayBe_2 : decode cX3_mayBe 2 = .ok (.iload_n 2, 1) := by decide +kernel
theorem dX3_mayBe_3 : decode cX3_mayBe 3 = .ok (.invokevirtual 26, 3) := by decide +kernel
theorem dX3_mayBe_6 : decode cX3_mayBe 6 = .ok (.istore 4, 2) := by decide +kernel
theorem dX3_mayBe_8 : decode cX3_mayBe 8 = .ok (.iload 4, 2) := by decide +kernel
theorem dX3_mayBe_10 : decode cX3_mayBe 10 = .ok (.ifCond .eq 15, 3) := by decide +kernel
theorem dX3_mayBe_13 : decode cX3_mayBe 13 = .ok (.iload 4, 2) := by decide +kernel
theorem dX3_mayBe_15 : decode cX3_mayBe 15 = .ok (.i2l, 1) := by decide +kernel
theorem dX3_mayBe_16 : decode cX3_mayBe 16 = .ok (.iload_n 3, 1) := by decide +kernel
theorem dX3_mayBe_17 : decode cX3_mayBe 17 = .ok (.i2l, 1) := by decide +kernel
theorem dX3_mayBe_18 : decode cX3_mayBe 18 = .ok (.invokestatic 20, 3) := by decide +kernel
theorem dX3_mayBe_21 : decode cX3_mayBe 21 = .ok (.lcmp, 1) := by decide +kernel
theorem dX3_mayBe_22 : decode cX3_mayBe 22 = .ok (.ifCond .ne 7, 3) := by decide +kernel
theorem dX3_mayBe_25 : decode cX3_mayBe 25 = .ok (.iconst 1, 1) := by decide +kernel
theorem dX3_mayBe_26 : decode cX3_mayBe 26 = .ok (.goto 4, 3) := by decide +kernel
theorem dX3_mayBe_29 : decode cX3_mayBe 29 = .ok (.iconst 0, 1) := by decide +kernel
theorem dX3_mayBe_30 : decode cX3_mayBe 30 = .ok (.ireturn, 1) := by decide +kernel
theorem dX3_brokenCells_0 : decode cX3_brokenCells 0 = .ok (.iconst 0, 1) := by decide +kernel
theorem dX3_brokenCells_1 : decode cX3_brokenCells 1 = .ok (.istore_n 1, 1) := by decide +kernel
theorem dX3_brokenCells_2 : decode cX3_brokenCells 2 = .ok (.iconst 0, 1) := by decide +kernel
theorem dX3_brokenCells_3 : decode cX3_brokenCells 3 = .ok (.istore_n 2, 1) := by decide +kernel
theorem dX3_brokenCells_4 : decode cX3_brokenCells 4 = .ok (.iload_n 2, 1) := by decide +kernel
theorem dX3_brokenCells_5 : decode cX3_brokenCells 5 = .ok (.aload_n 0, 1) := by decide +kernel
theorem dX3_brokenCells_6 : decode cX3_brokenCells 6 = .ok (.getfield 16, 3) := by decide +kernel
theorem dX3_brokenCells_9 : decode cX3_brokenCells 9 = .ok (.iconst 3, 1) := by decide +kernel
theorem dX3_brokenCells_10 : decode cX3_brokenCells 10 = .ok (.imul, 1) := by decide +kernel
theorem dX3_brokenCells_11 : decode cX3_brokenCells 11 = .ok (.if_icmp .ge 27, 3) := by decide +kernel
theorem dX3_brokenCells_14 : decode cX3_brokenCells 14 = .ok (.iload_n 2, 1) := by decide +kernel
theorem dX3_brokenCells_15 : decode cX3_brokenCells 15 = .ok (.bipush 24, 2) := by decide +kernel
theorem dX3_brokenCells_17 : decode cX3_brokenCells 17 = .ok (.if_icmp .ge 21, 3) := by decide +kernel
theorem dX3_brokenCells_20 : decode cX3_brokenCells 20 = .ok (.aload_n 0, 1) := by decide +kernel
theorem dX3_brokenCells_21 : decode cX3_brokenCells 21 = .ok (.getfield 9, 3) := by decide +kernel
theorem dX3_brokenCells_24 : decode cX3_brokenCells 24 = .ok (.iload_n 2, 1) := by decide +kernel
theorem dX3_brokenCells_25 : decode cX3_brokenCells 25 = .ok (.iaload, 1) := by decide +kernel
theorem dX3_brokenCells_26 : decode cX3_brokenCells 26 = .ok (.ifCond .ne 6, 3) := by decide +kernel
theorem dX3_brokenCells_29 : decode cX3_brokenCells 29 = .ok (.iinc 1 1, 3) := by decide +kernel
theorem dX3_brokenCells_32 : decode cX3_brokenCells 32 = .ok (.iinc 2 1, 3) := by decide +kernel
theorem dX3_brokenCells_35 : decode cX3_brokenCells 35 = .ok (.goto (-31), 3) := by decide +kernel
theorem dX3_brokenCells_38 : decode cX3_brokenCells 38 = .ok (.iload_n 1, 1) := by decide +kernel
theorem dX3_brokenCells_39 : decode cX3_brokenCells 39 = .ok (.ireturn, 1) := by decide +kernel
set_option maxRecDepth 20000 in
theorem ggX3_fits_X3_heldSixty : GoodIn wsX3_fits wsX3_heldSixty := goodIn_r _ [6, 7, 8, 9, 10] (by decide +kernel) (by decide +kernel)
set_option maxRecDepth 20000 in
theorem gX3_fits_X3_heldSixty : GoodIn wsX3_fits (wsV RX3 26 RX3 yX3_heldSixty wsX3_heldSixty) := goodIn_app (goodIn_of _ (by decide +kernel)) ggX3_fits_X3_heldSixty
theorem dX3_fits_0 : decode cX3_fits 0 = .ok (.iconst 0, 1) := by decide +kernel
theorem dX3_fits_1 : decode cX3_fits 1 = .ok (.istore_n 3, 1) := by decide +kernel
theorem dX3_fits_2 : decode cX3_fits 2 = .ok (.iload_n 3, 1) := by decide +kernel
theorem dX3_fits_3 : decode cX3_fits 3 = .ok (.aload_n 1, 1) := by decide +kernel
theorem dX3_fits_4 : decode cX3_fits 4 = .ok (.getfield 16, 3) := by decide +kernel
theorem dX3_fits_7 : decode cX3_fits 7 = .ok (.if_icmp .ge 63, 3) := by decide +kernel
theorem dX3_fits_10 : decode cX3_fits 10 = .ok (.iconst 0, 1) := by decide +kernel
theorem dX3_fits_11 : decode cX3_fits 11 = .ok (.istore 4, 2) := by decide +kernel
theorem dX3_fits_13 : decode cX3_fits 13 = .ok (.iload 4, 2) := by decide +kernel
theorem dX3_fits_15 : decode cX3_fits 15 = .ok (.iconst 3, 1) := by decide +kernel
theorem dX3_fits_16 : decode cX3_fits 16 = .ok (.if_icmp .ge 48, 3) := by decide +kernel
theorem dX3_fits_19 : decode cX3_fits 19 = .ok (.aload_n 1, 1) := by decide +kernel
theorem dX3_fits_20 : decode cX3_fits 20 = .ok (.iload_n 3, 1) := by decide +kernel
theorem dX3_fits_21 : decode cX3_fits 21 = .ok (.iload 4, 2) := by decide +kernel
theorem dX3_fits_23 : decode cX3_fits 23 = .ok (.invokevirtual 26, 3) := by decide +kernel
theorem dX3_fits_26 : decode cX3_fits 26 = .ok (.istore 5, 2) := by decide +kernel
theorem dX3_fits_28 : decode cX3_fits 28 = .ok (.aload_n 0, 1) := by decide +kernel
theorem dX3_fits_29 : decode cX3_fits 29 = .ok (.iload_n 2, 1) := by decide +kernel
theorem dX3_fits_30 : decode cX3_fits 30 = .ok (.iload_n 3, 1) := by decide +kernel
theorem dX3_fits_31 : decode cX3_fits 31 = .ok (.iadd, 1) := by decide +kernel
theorem dX3_fits_32 : decode cX3_fits 32 = .ok (.iload 4, 2) := by decide +kernel
theorem dX3_fits_34 : decode cX3_fits 34 = .ok (.invokevirtual 26, 3) := by decide +kernel
theorem dX3_fits_37 : decode cX3_fits 37 = .ok (.istore 6, 2) := by decide +kernel
theorem dX3_fits_39 : decode cX3_fits 39 = .ok (.iload 5, 2) := by decide +kernel
theorem dX3_fits_41 : decode cX3_fits 41 = .ok (.ifCond .eq 17, 3) := by decide +kernel
theorem dX3_fits_44 : decode cX3_fits 44 = .ok (.iload 6, 2) := by decide +kernel
theorem dX3_fits_46 : decode cX3_fits 46 = .ok (.ifCond .eq 12, 3) := by decide +kernel
theorem dX3_fits_49 : decode cX3_fits 49 = .ok (.iload 5, 2) := by decide +kernel
theorem dX3_fits_51 : decode cX3_fits 51 = .ok (.iload 6, 2) := by decide +kernel
theorem dX3_fits_53 : decode cX3_fits 53 = .ok (.if_icmp .eq 5, 3) := by decide +kernel
theorem dX3_fits_56 : decode cX3_fits 56 = .ok (.iconst 0, 1) := by decide +kernel
theorem dX3_fits_57 : decode cX3_fits 57 = .ok (.ireturn, 1) := by decide +kernel
theorem dX3_fits_58 : decode cX3_fits 58 = .ok (.iinc 4 1, 3) := by decide +kernel
theorem dX3_fits_61 : decode cX3_fits 61 = .ok (.goto (-48), 3) := by decide +kernel
theorem dX3_fits_64 : decode cX3_fits 64 = .ok (.iinc 3 1, 3) := by decide +kernel
theorem dX3_fits_67 : decode cX3_fits 67 = .ok (.goto (-65), 3) := by decide +kernel
theorem dX3_fits_70 : decode cX3_fits 70 = .ok (.iconst 1, 1) := by decide +kernel
theorem dX3_fits_71 : decode cX3_fits 71 = .ok (.ireturn, 1) := by decide +kernel
set_option maxRecDepth 20000 in
theorem ggX3_take_X3_held : GoodIn wsX3_take wsX3_held := goodIn_r _ [13, 14, 25, 26, 27] (by decide +kernel) (by decide +kernel)
set_option maxRecDepth 20000 in
theorem gX3_take_X3_held : GoodIn wsX3_take (wsV RX3 38 RX3 yX3_held wsX3_held) := goodIn_app (goodIn_of _ (by decide +kernel)) ggX3_take_X3_held
set_option maxRecDepth 20000 in
theorem ggX3_take_X3_hold : GoodIn wsX3_take wsX3_hold := goodIn_r _ [18, 14, 19, 20, 21, 22, 23, 24, 25, 26, 27] (by decide +kernel) (by decide +kernel)
set_option maxRecDepth 20000 in
theorem gX3_take_X3_hold : GoodIn wsX3_take (wsV RX3 41 RX3 yX3_hold wsX3_hold) := goodIn_app (goodIn_of _ (by decide +kernel)) ggX3_take_X3_hold
theorem dX3_take_0 : decode cX3_take 0 = .ok (.aload_n 0, 1) := by decide +kernel
theorem dX3_take_1 : decode cX3_take 1 = .ok (.bipush 8, 2) := by decide +kernel
theorem dX3_take_3 : decode cX3_take 3 = .ok (.aload_n 0, 1) := by decide +kernel
theorem dX3_take_4 : decode cX3_take 4 = .ok (.getfield 16, 3) := by decide +kernel
theorem dX3_take_7 : decode cX3_take 7 = .ok (.iload_n 2, 1) := by decide +kernel
theorem dX3_take_8 : decode cX3_take 8 = .ok (.aload_n 1, 1) := by decide +kernel
theorem dX3_take_9 : decode cX3_take 9 = .ok (.getfield 16, 3) := by decide +kernel
theorem dX3_take_12 : decode cX3_take 12 = .ok (.iadd, 1) := by decide +kernel
theorem dX3_take_13 : decode cX3_take 13 = .ok (.invokestatic 30, 3) := by decide +kernel
theorem dX3_take_16 : decode cX3_take 16 = .ok (.invokestatic 35, 3) := by decide +kernel
theorem dX3_take_19 : decode cX3_take 19 = .ok (.putfield 16, 3) := by decide +kernel
theorem dX3_take_22 : decode cX3_take 22 = .ok (.iconst 0, 1) := by decide +kernel
theorem dX3_take_23 : decode cX3_take 23 = .ok (.istore_n 3, 1) := by decide +kernel
theorem dX3_take_24 : decode cX3_take 24 = .ok (.iload_n 3, 1) := by decide +kernel
theorem dX3_take_25 : decode cX3_take 25 = .ok (.aload_n 1, 1) := by decide +kernel
theorem dX3_take_26 : decode cX3_take 26 = .ok (.getfield 16, 3) := by decide +kernel
theorem dX3_take_29 : decode cX3_take 29 = .ok (.if_icmp .ge 52, 3) := by decide +kernel
theorem dX3_take_32 : decode cX3_take 32 = .ok (.iconst 0, 1) := by decide +kernel
theorem dX3_take_33 : decode cX3_take 33 = .ok (.istore 4, 2) := by decide +kernel
theorem dX3_take_35 : decode cX3_take 35 = .ok (.iload 4, 2) := by decide +kernel
theorem dX3_take_37 : decode cX3_take 37 = .ok (.iconst 3, 1) := by decide +kernel
theorem dX3_take_38 : decode cX3_take 38 = .ok (.if_icmp .ge 37, 3) := by decide +kernel
theorem dX3_take_41 : decode cX3_take 41 = .ok (.aload_n 0, 1) := by decide +kernel
theorem dX3_take_42 : decode cX3_take 42 = .ok (.iload_n 2, 1) := by decide +kernel
theorem dX3_take_43 : decode cX3_take 43 = .ok (.iload_n 3, 1) := by decide +kernel
theorem dX3_take_44 : decode cX3_take 44 = .ok (.iadd, 1) := by decide +kernel
theorem dX3_take_45 : decode cX3_take 45 = .ok (.iload 4, 2) := by decide +kernel
theorem dX3_take_47 : decode cX3_take 47 = .ok (.invokevirtual 38, 3) := by decide +kernel
theorem dX3_take_50 : decode cX3_take 50 = .ok (.ifCond .ne 19, 3) := by decide +kernel
theorem dX3_take_53 : decode cX3_take 53 = .ok (.aload_n 0, 1) := by decide +kernel
theorem dX3_take_54 : decode cX3_take 54 = .ok (.iload_n 2, 1) := by decide +kernel
theorem dX3_take_55 : decode cX3_take 55 = .ok (.iload_n 3, 1) := by decide +kernel
theorem dX3_take_56 : decode cX3_take 56 = .ok (.iadd, 1) := by decide +kernel
theorem dX3_take_57 : decode cX3_take 57 = .ok (.iload 4, 2) := by decide +kernel
theorem dX3_take_59 : decode cX3_take 59 = .ok (.aload_n 1, 1) := by decide +kernel
theorem dX3_take_60 : decode cX3_take 60 = .ok (.iload_n 3, 1) := by decide +kernel
theorem dX3_take_61 : decode cX3_take 61 = .ok (.iload 4, 2) := by decide +kernel
theorem dX3_take_63 : decode cX3_take 63 = .ok (.invokevirtual 38, 3) := by decide +kernel
theorem dX3_take_66 : decode cX3_take 66 = .ok (.invokevirtual 41, 3) := by decide +kernel
theorem dX3_take_69 : decode cX3_take 69 = .ok (.iinc 4 1, 3) := by decide +kernel
theorem dX3_take_72 : decode cX3_take 72 = .ok (.goto (-37), 3) := by decide +kernel
theorem dX3_take_75 : decode cX3_take 75 = .ok (.iinc 3 1, 3) := by decide +kernel
theorem dX3_take_78 : decode cX3_take 78 = .ok (.goto (-54), 3) := by decide +kernel
theorem dX3_take_81 : decode cX3_take 81 = .ok (.return_, 1) := by decide +kernel
theorem dX4_listRows_0 : decode cX4_listRows 0 = .ok (.getstatic 7, 3) := by decide +kernel
theorem dX4_listRows_3 : decode cX4_listRows 3 = .ok (.arraylength, 1) := by decide +kernel
theorem dX4_listRows_4 : decode cX4_listRows 4 = .ok (.ireturn, 1) := by decide +kernel
theorem dX4_listed_0 : decode cX4_listed 0 = .ok (.iload_n 0, 1) := by decide +kernel
theorem dX4_listed_1 : decode cX4_listed 1 = .ok (.ifCond .lt 19, 3) := by decide +kernel
theorem dX4_listed_4 : decode cX4_listed 4 = .ok (.iload_n 0, 1) := by decide +kernel
theorem dX4_listed_5 : decode cX4_listed 5 = .ok (.getstatic 7, 3) := by decide +kernel
theorem dX4_listed_8 : decode cX4_listed 8 = .ok (.arraylength, 1) := by decide +kernel
theorem dX4_listed_9 : decode cX4_listed 9 = .ok (.if_icmp .ge 11, 3) := by decide +kernel
theorem dX4_listed_12 : decode cX4_listed 12 = .ok (.getstatic 7, 3) := by decide +kernel
theorem dX4_listed_15 : decode cX4_listed 15 = .ok (.iload_n 0, 1) := by decide +kernel
theorem dX4_listed_16 : decode cX4_listed 16 = .ok (.iaload, 1) := by decide +kernel
theorem dX4_listed_17 : decode cX4_listed 17 = .ok (.goto 4, 3) := by decide +kernel
theorem dX4_listed_20 : decode cX4_listed 20 = .ok (.iconst 1, 1) := by decide +kernel
theorem dX4_listed_21 : decode cX4_listed 21 = .ok (.ireturn, 1) := by decide +kernel
set_option maxRecDepth 20000 in
theorem ggX4_isEven_X4_without : GoodIn wsX4_isEven wsX4_without := goodIn_r _ [4] (by decide +kernel) (by decide +kernel)
set_option maxRecDepth 20000 in
theorem gX4_isEven_X4_without : GoodIn wsX4_isEven (va_wsS RX4 13 yX4_without wsX4_without) := goodIn_app (goodIn_of _ (by decide +kernel)) ggX4_isEven_X4_without
theorem dX4_isEven_0 : decode cX4_isEven 0 = .ok (.lload_n 0, 1) := by decide +kernel
theorem dX4_isEven_1 : decode cX4_isEven 1 = .ok (.iconst 2, 1) := by decide +kernel
theorem dX4_isEven_2 : decode cX4_isEven 2 = .ok (.invokestatic 13, 3) := by decide +kernel
theorem dX4_isEven_5 : decode cX4_isEven 5 = .ok (.iconst 3, 1) := by decide +kernel
theorem dX4_isEven_6 : decode cX4_isEven 6 = .ok (.invokestatic 13, 3) := by decide +kernel
theorem dX4_isEven_9 : decode cX4_isEven 9 = .ok (.iconst 5, 1) := by decide +kernel
theorem dX4_isEven_10 : decode cX4_isEven 10 = .ok (.invokestatic 13, 3) := by decide +kernel
theorem dX4_isEven_13 : decode cX4_isEven 13 = .ok (.lconst 1, 1) := by decide +kernel
theorem dX4_isEven_14 : decode cX4_isEven 14 = .ok (.lcmp, 1) := by decide +kernel
theorem dX4_isEven_15 : decode cX4_isEven 15 = .ok (.ifCond .ne 7, 3) := by decide +kernel
theorem dX4_isEven_18 : decode cX4_isEven 18 = .ok (.iconst 1, 1) := by decide +kernel
theorem dX4_isEven_19 : decode cX4_isEven 19 = .ok (.goto 4, 3) := by decide +kernel
theorem dX4_isEven_22 : decode cX4_isEven 22 = .ok (.iconst 0, 1) := by decide +kernel
theorem dX4_isEven_23 : decode cX4_isEven 23 = .ok (.ireturn, 1) := by decide +kernel
set_option maxRecDepth 20000 in
theorem ggX4_turnOver_X4_powerIn : GoodIn wsX4_turnOver wsX4_powerIn := goodIn_r _ [8] (by decide +kernel) (by decide +kernel)
set_option maxRecDepth 20000 in
theorem gX4_turnOver_X4_powerIn : GoodIn wsX4_turnOver (va_wsS RX4 17 yX4_powerIn wsX4_powerIn) := goodIn_app (goodIn_of _ (by decide +kernel)) ggX4_turnOver_X4_powerIn
set_option maxRecDepth 20000 in
theorem ggX4_turnOver_X4_grown : GoodIn wsX4_turnOver wsX4_grown := goodIn_r _ [11, 12, 13, 14, 3, 15] (by decide +kernel) (by decide +kernel)
set_option maxRecDepth 20000 in
theorem gX4_turnOver_X4_grown : GoodIn wsX4_turnOver (va_wsS RX4 27 yX4_grown wsX4_grown) := goodIn_app (goodIn_of _ (by decide +kernel)) ggX4_turnOver_X4_grown
theorem dX4_turnOver_0 : decode cX4_turnOver 0 = .ok (.lload_n 0, 1) := by decide +kernel
theorem dX4_turnOver_1 : decode cX4_turnOver 1 = .ok (.iconst 2, 1) := by decide +kernel
theorem dX4_turnOver_2 : decode cX4_turnOver 2 = .ok (.invokestatic 17, 3) := by decide +kernel
theorem dX4_turnOver_5 : decode cX4_turnOver 5 = .ok (.istore_n 2, 1) := by decide +kernel
theorem dX4_turnOver_6 : decode cX4_turnOver 6 = .ok (.lload_n 0, 1) := by decide +kernel
theorem dX4_turnOver_7 : decode cX4_turnOver 7 = .ok (.iconst 3, 1) := by decide +kernel
theorem dX4_turnOver_8 : decode cX4_turnOver 8 = .ok (.invokestatic 17, 3) := by decide +kernel
theorem dX4_turnOver_11 : decode cX4_turnOver 11 = .ok (.istore_n 3, 1) := by decide +kernel
theorem dX4_turnOver_12 : decode cX4_turnOver 12 = .ok (.lload_n 0, 1) := by decide +kernel
theorem dX4_turnOver_13 : decode cX4_turnOver 13 = .ok (.iconst 5, 1) := by decide +kernel
theorem dX4_turnOver_14 : decode cX4_turnOver 14 = .ok (.invokestatic 17, 3) := by decide +kernel
theorem dX4_turnOver_17 : decode cX4_turnOver 17 = .ok (.istore 4, 2) := by decide +kernel
theorem dX4_turnOver_19 : decode cX4_turnOver 19 = .ok (.iload_n 2, 1) := by decide +kernel
theorem dX4_turnOver_20 : decode cX4_turnOver 20 = .ok (.iconst 1, 1) := by decide +kernel
theorem dX4_turnOver_21 : decode cX4_turnOver 21 = .ok (.iadd, 1) := by decide +kernel
theorem dX4_turnOver_22 : decode cX4_turnOver 22 = .ok (.iconst 2, 1) := by decide +kernel
theorem dX4_turnOver_23 : decode cX4_turnOver 23 = .ok (.idiv, 1) := by decide +kernel
theorem dX4_turnOver_24 : decode cX4_turnOver 24 = .ok (.iload_n 3, 1) := by decide +kernel
theorem dX4_turnOver_25 : decode cX4_turnOver 25 = .ok (.iload 4, 2) := by decide +kernel
theorem dX4_turnOver_27 : decode cX4_turnOver 27 = .ok (.invokestatic 21, 3) := by decide +kernel
theorem dX4_turnOver_30 : decode cX4_turnOver 30 = .ok (.invokestatic 21, 3) := by decide +kernel
theorem dX4_turnOver_33 : decode cX4_turnOver 33 = .ok (.istore 5, 2) := by decide +kernel
theorem dX4_turnOver_35 : decode cX4_turnOver 35 = .ok (.lconst 1, 1) := by decide +kernel
theorem dX4_turnOver_36 : decode cX4_turnOver 36 = .ok (.iconst 2, 1) := by decide +kernel
theorem dX4_turnOver_37 : decode cX4_turnOver 37 = .ok (.iconst 2, 1) := by decide +kernel
theorem dX4_turnOver_38 : decode cX4_turnOver 38 = .ok (.iload 5, 2) := by decide +kernel
theorem dX4_turnOver_40 : decode cX4_turnOver 40 = .ok (.imul, 1) := by decide +kernel
theorem dX4_turnOver_41 : decode cX4_turnOver 41 = .ok (.iload_n 2, 1) := by decide +kernel
theorem dX4_turnOver_42 : decode cX4_turnOver 42 = .ok (.isub, 1) := by decide +kernel
theorem dX4_turnOver_43 : decode cX4_turnOver 43 = .ok (.invokestatic 27, 3) := by decide +kernel
theorem dX4_turnOver_46 : decode cX4_turnOver 46 = .ok (.lstore 6, 2) := by decide +kernel
theorem dX4_turnOver_48 : decode cX4_turnOver 48 = .ok (.lload 6, 2) := by decide +kernel
theorem dX4_turnOver_50 : decode cX4_turnOver 50 = .ok (.iconst 3, 1) := by decide +kernel
theorem dX4_turnOver_51 : decode cX4_turnOver 51 = .ok (.iload 5, 2) := by decide +kernel
theorem dX4_turnOver_53 : decode cX4_turnOver 53 = .ok (.iload_n 3, 1) := by decide +kernel
theorem dX4_turnOver_54 : decode cX4_turnOver 54 = .ok (.isub, 1) := by decide +kernel
theorem dX4_turnOver_55 : decode cX4_turnOver 55 = .ok (.invokestatic 27, 3) := by decide +kernel
theorem dX4_turnOver_58 : decode cX4_turnOver 58 = .ok (.lstore 6, 2) := by decide +kernel
theorem dX4_turnOver_60 : decode cX4_turnOver 60 = .ok (.lload 6, 2) := by decide +kernel
theorem dX4_turnOver_62 : decode cX4_turnOver 62 = .ok (.iconst 5, 1) := by decide +kernel
theorem dX4_turnOver_63 : decode cX4_turnOver 63 = .ok (.iload 5, 2) := by decide +kernel
theorem dX4_turnOver_65 : decode cX4_turnOver 65 = .ok (.iload 4, 2) := by decide +kernel
theorem dX4_turnOver_67 : decode cX4_turnOver 67 = .ok (.isub, 1) := by decide +kernel
theorem dX4_turnOver_68 : decode cX4_turnOver 68 = .ok (.invokestatic 27, 3) := by decide +kernel
theorem dX4_turnOver_71 : decode cX4_turnOver 71 = .ok (.lreturn, 1) := by decide +kernel
theorem dX4_greatestListed_0 : decode cX4_greatestListed 0 = .ok (.getstatic 7, 3) := by decide +kernel
theorem dX4_greatestListed_3 : decode cX4_greatestListed 3 = .ok (.arraylength, 1) := by decide +kernel
theorem dX4_greatestListed_4 : decode cX4_greatestListed 4 = .ok (.iconst 1, 1) := by decide +kernel
theorem dX4_greatestListed_5 : decode cX4_greatestListed 5 = .ok (.isub, 1) := by decide +kernel
theorem dX4_greatestListed_6 : decode cX4_greatestListed 6 = .ok (.istore_n 2, 1) := by decide +kernel
theorem dX4_greatestListed_7 : decode cX4_greatestListed 7 = .ok (.iload_n 2, 1) := by decide +kernel
theorem dX4_greatestListed_8 : decode cX4_greatestListed 8 = .ok (.ifCond .lt 31, 3) := by decide +kernel
theorem dX4_greatestListed_11 : decode cX4_greatestListed 11 = .ok (.getstatic 7, 3) := by decide +kernel
theorem dX4_greatestListed_14 : decode cX4_greatestListed 14 = .ok (.iload_n 2, 1) := by decide +kernel
theorem dX4_greatestListed_15 : decode cX4_greatestListed 15 = .ok (.iaload, 1) := by decide +kernel
theorem dX4_greatestListed_16 : decode cX4_greatestListed 16 = .ok (.istore_n 3, 1) := by decide +kernel
theorem dX4_greatestListed_17 : decode cX4_greatestListed 17 = .ok (.iload_n 3, 1) := by decide +kernel
theorem dX4_greatestListed_18 : decode cX4_greatestListed 18 = .ok (.iconst 1, 1) := by decide +kernel
theorem dX4_greatestListed_19 : decode cX4_greatestListed 19 = .ok (.if_icmp .le 14, 3) := by decide +kernel
theorem dX4_greatestListed_22 : decode cX4_greatestListed 22 = .ok (.lload_n 0, 1) := by decide +kernel
theorem dX4_greatestListed_23 : decode cX4_greatestListed 23 = .ok (.iload_n 3, 1) := by decide +kernel
theorem dX4_greatestListed_24 : decode cX4_greatestListed 24 = .ok (.i2l, 1) := by decide +kernel
theorem dX4_greatestListed_25 : decode cX4_greatestListed 25 = .ok (.lrem, 1) := by decide +kernel
theorem dX4_greatestListed_26 : decode cX4_greatestListed 26 = .ok (.lconst 0, 1) := by decide +kernel
theorem dX4_greatestListed_27 : decode cX4_greatestListed 27 = .ok (.lcmp, 1) := by decide +kernel
theorem dX4_greatestListed_28 : decode cX4_greatestListed 28 = .ok (.ifCond .ne 5, 3) := by decide +kernel
theorem dX4_greatestListed_31 : decode cX4_greatestListed 31 = .ok (.iload_n 3, 1) := by decide +kernel
theorem dX4_greatestListed_32 : decode cX4_greatestListed 32 = .ok (.ireturn, 1) := by decide +kernel
theorem dX4_greatestListed_33 : decode cX4_greatestListed 33 = .ok (.iinc 2 (-1), 3) := by decide +kernel
theorem dX4_greatestListed_36 : decode cX4_greatestListed 36 = .ok (.goto (-29), 3) := by decide +kernel
theorem dX4_greatestListed_39 : decode cX4_greatestListed 39 = .ok (.iconst 1, 1) := by decide +kernel
theorem dX4_greatestListed_40 : decode cX4_greatestListed 40 = .ok (.ireturn, 1) := by decide +kernel
theorem dX4_powerIn_0 : decode cX4_powerIn 0 = .ok (.iconst 0, 1) := by decide +kernel
theorem dX4_powerIn_1 : decode cX4_powerIn 1 = .ok (.istore_n 3, 1) := by decide +kernel
theorem dX4_powerIn_2 : decode cX4_powerIn 2 = .ok (.lload_n 0, 1) := by decide +kernel
theorem dX4_powerIn_3 : decode cX4_powerIn 3 = .ok (.lstore 4, 2) := by decide +kernel
theorem dX4_powerIn_5 : decode cX4_powerIn 5 = .ok (.iconst 0, 1) := by decide +kernel
theorem dX4_powerIn_6 : decode cX4_powerIn 6 = .ok (.istore 6, 2) := by decide +kernel
theorem dX4_powerIn_8 : decode cX4_powerIn 8 = .ok (.iload 6, 2) := by decide +kernel
theorem dX4_powerIn_10 : decode cX4_powerIn 10 = .ok (.bipush 63, 2) := by decide +kernel
theorem dX4_powerIn_12 : decode cX4_powerIn 12 = .ok (.if_icmp .ge 34, 3) := by decide +kernel
theorem dX4_powerIn_15 : decode cX4_powerIn 15 = .ok (.iload_n 2, 1) := by decide +kernel
theorem dX4_powerIn_16 : decode cX4_powerIn 16 = .ok (.iconst 1, 1) := by decide +kernel
theorem dX4_powerIn_17 : decode cX4_powerIn 17 = .ok (.if_icmp .le 29, 3) := by decide +kernel
theorem dX4_powerIn_20 : decode cX4_powerIn 20 = .ok (.lload 4, 2) := by decide +kernel
theorem dX4_powerIn_22 : decode cX4_powerIn 22 = .ok (.iload_n 2, 1) := by decide +kernel
theorem dX4_powerIn_23 : decode cX4_powerIn 23 = .ok (.i2l, 1) := by decide +kernel
theorem dX4_powerIn_24 : decode cX4_powerIn 24 = .ok (.lrem, 1) := by decide +kernel
theorem dX4_powerIn_25 : decode cX4_powerIn 25 = .ok (.lconst 0, 1) := by decide +kernel
theorem dX4_powerIn_26 : decode cX4_powerIn 26 = .ok (.lcmp, 1) := by decide +kernel
theorem dX4_powerIn_27 : decode cX4_powerIn 27 = .ok (.ifCond .ne 19, 3) := by decide +kernel
theorem dX4_powerIn_30 : decode cX4_powerIn 30 = .ok (.lload 4, 2) := by decide +kernel
theorem dX4_powerIn_32 : decode cX4_powerIn 32 = .ok (.iload_n 2, 1) := by decide +kernel
theorem dX4_powerIn_33 : decode cX4_powerIn 33 = .ok (.i2l, 1) := by decide +kernel
theorem dX4_powerIn_34 : decode cX4_powerIn 34 = .ok (.ldiv, 1) := by decide +kernel
theorem dX4_powerIn_35 : decode cX4_powerIn 35 = .ok (.lstore 4, 2) := by decide +kernel
theorem dX4_powerIn_37 : decode cX4_powerIn 37 = .ok (.iinc 3 1, 3) := by decide +kernel
theorem dX4_powerIn_40 : decode cX4_powerIn 40 = .ok (.iinc 6 1, 3) := by decide +kernel
theorem dX4_powerIn_43 : decode cX4_powerIn 43 = .ok (.goto (-35), 3) := by decide +kernel
theorem dX4_powerIn_46 : decode cX4_powerIn 46 = .ok (.iload_n 3, 1) := by decide +kernel
theorem dX4_powerIn_47 : decode cX4_powerIn 47 = .ok (.ireturn, 1) := by decide +kernel
theorem dX4_without_0 : decode cX4_without 0 = .ok (.lload_n 0, 1) := by decide +kernel
theorem dX4_without_1 : decode cX4_without 1 = .ok (.lstore_n 3, 1) := by decide +kernel
theorem dX4_without_2 : decode cX4_without 2 = .ok (.iconst 0, 1) := by decide +kernel
theorem dX4_without_3 : decode cX4_without 3 = .ok (.istore 5, 2) := by decide +kernel
theorem dX4_without_5 : decode cX4_without 5 = .ok (.iload 5, 2) := by decide +kernel
theorem dX4_without_7 : decode cX4_without 7 = .ok (.bipush 63, 2) := by decide +kernel
theorem dX4_without_9 : decode cX4_without 9 = .ok (.if_icmp .ge 28, 3) := by decide +kernel
theorem dX4_without_12 : decode cX4_without 12 = .ok (.iload_n 2, 1) := by decide +kernel
theorem dX4_without_13 : decode cX4_without 13 = .ok (.iconst 1, 1) := by decide +kernel
theorem dX4_without_14 : decode cX4_without 14 = .ok (.if_icmp .le 23, 3) := by decide +kernel
theorem dX4_without_17 : decode cX4_without 17 = .ok (.lload_n 3, 1) := by decide +kernel
theorem dX4_without_18 : decode cX4_without 18 = .ok (.iload_n 2, 1) := by decide +kernel
theorem dX4_without_19 : decode cX4_without 19 = .ok (.i2l, 1) := by decide +kernel
theorem dX4_without_20 : decode cX4_without 20 = .ok (.lrem, 1) := by decide +kernel
theorem dX4_without_21 : decode cX4_without 21 = .ok (.lconst 0, 1) := by decide +kernel
theorem dX4_without_22 : decode cX4_without 22 = .ok (.lcmp, 1) := by decide +kernel
theorem dX4_without_23 : decode cX4_without 23 = .ok (.ifCond .ne 14, 3) := by decide +kernel
theorem dX4_without_26 : decode cX4_without 26 = .ok (.lload_n 3, 1) := by decide +kernel
theorem dX4_without_27 : decode cX4_without 27 = .ok (.iload_n 2, 1) := by decide +kernel
theorem dX4_without_28 : decode cX4_without 28 = .ok (.i2l, 1) := by decide +kernel
theorem dX4_without_29 : decode cX4_without 29 = .ok (.ldiv, 1) := by decide +kernel
theorem dX4_without_30 : decode cX4_without 30 = .ok (.lstore_n 3, 1) := by decide +kernel
theorem dX4_without_31 : decode cX4_without 31 = .ok (.iinc 5 1, 3) := by decide +kernel
theorem dX4_without_34 : decode cX4_without 34 = .ok (.goto (-29), 3) := by decide +kernel
theorem dX4_without_37 : decode cX4_without 37 = .ok (.lload_n 3, 1) := by decide +kernel
theorem dX4_without_38 : decode cX4_without 38 = .ok (.lreturn, 1) := by decide +kernel
theorem dX4_grown_0 : decode cX4_grown 0 = .ok (.lload_n 0, 1) := by decide +kernel
theorem dX4_grown_1 : decode cX4_grown 1 = .ok (.lstore 4, 2) := by decide +kernel
theorem dX4_grown_3 : decode cX4_grown 3 = .ok (.iconst 0, 1) := by decide +kernel
theorem dX4_grown_4 : decode cX4_grown 4 = .ok (.istore 6, 2) := by decide +kernel
theorem dX4_grown_6 : decode cX4_grown 6 = .ok (.iload 6, 2) := by decide +kernel
theorem dX4_grown_8 : decode cX4_grown 8 = .ok (.iload_n 3, 1) := by decide +kernel
theorem dX4_grown_9 : decode cX4_grown 9 = .ok (.if_icmp .ge 22, 3) := by decide +kernel
theorem dX4_grown_12 : decode cX4_grown 12 = .ok (.ldc2_w 33, 3) := by decide +kernel
theorem dX4_grown_15 : decode cX4_grown 15 = .ok (.lload 4, 2) := by decide +kernel
theorem dX4_grown_17 : decode cX4_grown 17 = .ok (.iload_n 2, 1) := by decide +kernel
theorem dX4_grown_18 : decode cX4_grown 18 = .ok (.i2l, 1) := by decide +kernel
theorem dX4_grown_19 : decode cX4_grown 19 = .ok (.lmul, 1) := by decide +kernel
theorem dX4_grown_20 : decode cX4_grown 20 = .ok (.invokestatic 35, 3) := by decide +kernel
theorem dX4_grown_23 : decode cX4_grown 23 = .ok (.lstore 4, 2) := by decide +kernel
theorem dX4_grown_25 : decode cX4_grown 25 = .ok (.iinc 6 1, 3) := by decide +kernel
theorem dX4_grown_28 : decode cX4_grown 28 = .ok (.goto (-22), 3) := by decide +kernel
theorem dX4_grown_31 : decode cX4_grown 31 = .ok (.lload 4, 2) := by decide +kernel
theorem dX4_grown_33 : decode cX4_grown 33 = .ok (.lreturn, 1) := by decide +kernel
theorem dX5_init_0 : decode cX5_init 0 = .ok (.aload_n 0, 1) := by decide +kernel
theorem dX5_init_1 : decode cX5_init 1 = .ok (.invokespecial 3, 3) := by decide +kernel
theorem dX5_init_4 : decode cX5_init 4 = .ok (.aload_n 0, 1) := by decide +kernel
theorem dX5_init_5 : decode cX5_init 5 = .ok (.bipush 16, 2) := by decide +kernel
theorem dX5_init_7 : decode cX5_init 7 = .ok (.newarray .int, 2) := by decide +kernel
theorem dX5_init_9 : decode cX5_init 9 = .ok (.putfield 9, 3) := by decide +kernel
theorem dX5_init_12 : decode cX5_init 12 = .ok (.aload_n 0, 1) := by decide +kernel
theorem dX5_init_13 : decode cX5_init 13 = .ok (.bipush 16, 2) := by decide +kernel
theorem dX5_init_15 : decode cX5_init 15 = .ok (.newarray .int, 2) := by decide +kernel
theorem dX5_init_17 : decode cX5_init 17 = .ok (.putfield 13, 3) := by decide +kernel
theorem dX5_init_20 : decode cX5_init 20 = .ok (.aload_n 0, 1) := by decide +kernel
theorem dX5_init_21 : decode cX5_init 21 = .ok (.bipush 16, 2) := by decide +kernel
theorem dX5_init_23 : decode cX5_init 23 = .ok (.newarray .int, 2) := by decide +kernel
theorem dX5_init_25 : decode cX5_init 25 = .ok (.putfield 16, 3) := by decide +kernel
theorem dX5_init_28 : decode cX5_init 28 = .ok (.aload_n 0, 1) := by decide +kernel
theorem dX5_init_29 : decode cX5_init 29 = .ok (.iconst 0, 1) := by decide +kernel
theorem dX5_init_30 : decode cX5_init 30 = .ok (.putfield 19, 3) := by decide +kernel
theorem dX5_init_33 : decode cX5_init 33 = .ok (.return_, 1) := by decide +kernel
set_option maxRecDepth 20000 in
theorem ggX5_begin_X1_length : GoodIn wsX5_begin wsX1_length := goodIn_r _ [5, 6] (by decide +kernel) (by decide +kernel)
set_option maxRecDepth 20000 in
theorem gX5_begin_X1_length : GoodIn wsX5_begin (va_wsS RX5 23 yX1_length wsX1_length) := goodIn_app (goodIn_of _ (by decide +kernel)) ggX5_begin_X1_length
set_option maxRecDepth 20000 in
theorem ggX5_begin_X1_digitAhead : GoodIn wsX5_begin wsX1_digitAhead := goodIn_r _ [9, 6] (by decide +kernel) (by decide +kernel)
set_option maxRecDepth 20000 in
theorem gX5_begin_X1_digitAhead : GoodIn wsX5_begin (va_wsS RX5 29 yX1_digitAhead wsX1_digitAhead) := goodIn_app (goodIn_of _ (by decide +kernel)) ggX5_begin_X1_digitAhead
set_option maxRecDepth 20000 in
theorem ggX5_begin_X5_write : GoodIn wsX5_begin wsX5_write := goodIn_r _ [14, 1, 15, 16, 17, 18, 19, 20, 21] (by decide +kernel) (by decide +kernel)
set_option maxRecDepth 20000 in
theorem gX5_begin_X5_write : GoodIn wsX5_begin (wsV RX5 33 RX5 yX5_write wsX5_write) := goodIn_app (goodIn_of _ (by decide +kernel)) ggX5_begin_X5_write
theorem dX5_begin_0 : decode cX5_begin 0 = .ok (.aload_n 0, 1) := by decide +kernel
theorem dX5_begin_1 : decode cX5_begin 1 = .ok (.iconst 0, 1) := by decide +kernel
theorem dX5_begin_2 : decode cX5_begin 2 = .ok (.putfield 19, 3) := by decide +kernel
theorem dX5_begin_5 : decode cX5_begin 5 = .ok (.lload_n 1, 1) := by decide +kernel
theorem dX5_begin_6 : decode cX5_begin 6 = .ok (.invokestatic 23, 3) := by decide +kernel
theorem dX5_begin_9 : decode cX5_begin 9 = .ok (.iconst 1, 1) := by decide +kernel
theorem dX5_begin_10 : decode cX5_begin 10 = .ok (.isub, 1) := by decide +kernel
theorem dX5_begin_11 : decode cX5_begin 11 = .ok (.istore 5, 2) := by decide +kernel
theorem dX5_begin_13 : decode cX5_begin 13 = .ok (.iload 5, 2) := by decide +kernel
theorem dX5_begin_15 : decode cX5_begin 15 = .ok (.ifCond .lt 49, 3) := by decide +kernel
theorem dX5_begin_18 : decode cX5_begin 18 = .ok (.lload_n 3, 1) := by decide +kernel
theorem dX5_begin_19 : decode cX5_begin 19 = .ok (.invokestatic 23, 3) := by decide +kernel
theorem dX5_begin_22 : decode cX5_begin 22 = .ok (.iconst 1, 1) := by decide +kernel
theorem dX5_begin_23 : decode cX5_begin 23 = .ok (.isub, 1) := by decide +kernel
theorem dX5_begin_24 : decode cX5_begin 24 = .ok (.istore 6, 2) := by decide +kernel
theorem dX5_begin_26 : decode cX5_begin 26 = .ok (.iload 6, 2) := by decide +kernel
theorem dX5_begin_28 : decode cX5_begin 28 = .ok (.ifCond .lt 30, 3) := by decide +kernel
theorem dX5_begin_31 : decode cX5_begin 31 = .ok (.aload_n 0, 1) := by decide +kernel
theorem dX5_begin_32 : decode cX5_begin 32 = .ok (.lload_n 1, 1) := by decide +kernel
theorem dX5_begin_33 : decode cX5_begin 33 = .ok (.iload 5, 2) := by decide +kernel
theorem dX5_begin_35 : decode cX5_begin 35 = .ok (.invokestatic 29, 3) := by decide +kernel
theorem dX5_begin_38 : decode cX5_begin 38 = .ok (.lload_n 3, 1) := by decide +kernel
theorem dX5_begin_39 : decode cX5_begin 39 = .ok (.iload 6, 2) := by decide +kernel
theorem dX5_begin_41 : decode cX5_begin 41 = .ok (.invokestatic 29, 3) := by decide +kernel
theorem dX5_begin_44 : decode cX5_begin 44 = .ok (.iload 5, 2) := by decide +kernel
theorem dX5_begin_46 : decode cX5_begin 46 = .ok (.iload 6, 2) := by decide +kernel
theorem dX5_begin_48 : decode cX5_begin 48 = .ok (.iadd, 1) := by decide +kernel
theorem dX5_begin_49 : decode cX5_begin 49 = .ok (.invokevirtual 33, 3) := by decide +kernel
theorem dX5_begin_52 : decode cX5_begin 52 = .ok (.iinc 6 (-1), 3) := by decide +kernel
theorem dX5_begin_55 : decode cX5_begin 55 = .ok (.goto (-29), 3) := by decide +kernel
theorem dX5_begin_58 : decode cX5_begin 58 = .ok (.iinc 5 (-1), 3) := by decide +kernel
theorem dX5_begin_61 : decode cX5_begin 61 = .ok (.goto (-48), 3) := by decide +kernel
theorem dX5_begin_64 : decode cX5_begin 64 = .ok (.return_, 1) := by decide +kernel
theorem dX5_write_0 : decode cX5_write 0 = .ok (.iload_n 1, 1) := by decide +kernel
theorem dX5_write_1 : decode cX5_write 1 = .ok (.ifCond .eq 23, 3) := by decide +kernel
theorem dX5_write_4 : decode cX5_write 4 = .ok (.iload_n 2, 1) := by decide +kernel
theorem dX5_write_5 : decode cX5_write 5 = .ok (.ifCond .eq 19, 3) := by decide +kernel
theorem dX5_write_8 : decode cX5_write 8 = .ok (.aload_n 0, 1) := by decide +kernel
theorem dX5_write_9 : decode cX5_write 9 = .ok (.getfield 19, 3) := by decide +kernel
theorem dX5_write_12 : decode cX5_write 12 = .ok (.ifCond .lt 12, 3) := by decide +kernel
theorem dX5_write_15 : decode cX5_write 15 = .ok (.aload_n 0, 1) := by decide +kernel
theorem dX5_write_16 : decode cX5_write 16 = .ok (.getfield 19, 3) := by decide +kernel
theorem dX5_write_19 : decode cX5_write 19 = .ok (.bipush 16, 2) := by decide +kernel
theorem dX5_write_21 : decode cX5_write 21 = .ok (.if_icmp .lt 4, 3) := by decide +kernel
theorem dX5_write_24 : decode cX5_write 24 = .ok (.return_, 1) := by decide +kernel
theorem dX5_write_25 : decode cX5_write 25 = .ok (.aload_n 0, 1) := by decide +kernel
theorem dX5_write_26 : decode cX5_write 26 = .ok (.getfield 9, 3) := by decide +kernel
theorem dX5_write_29 : decode cX5_write 29 = .ok (.aload_n 0, 1) := by decide +kernel
theorem dX5_write_30 : decode cX5_write 30 = .ok (.getfield 19, 3) := by decide +kernel
theorem dX5_write_33 : decode cX5_write 33 = .ok (.iload_n 1, 1) := by decide +kernel
theorem dX5_write_34 : decode cX5_write 34 = .ok (.iastore, 1) := by decide +kernel
theorem dX5_write_35 : decode cX5_write 35 = .ok (.aload_n 0, 1) := by decide +kernel
theorem dX5_write_36 : decode cX5_write 36 = .ok (.getfield 13, 3) := by decide +kernel
theorem dX5_write_39 : decode cX5_write 39 = .ok (.aload_n 0, 1) := by decide +kernel
theorem dX5_write_40 : decode cX5_write 40 = .ok (.getfield 19, 3) := by decide +kernel
theorem dX5_write_43 : decode cX5_write 43 = .ok (.iload_n 2, 1) := by decide +kernel
theorem dX5_write_44 : decode cX5_write 44 = .ok (.iastore, 1) := by decide +kernel
theorem dX5_write_45 : decode cX5_write 45 = .ok (.aload_n 0, 1) := by decide +kernel
theorem dX5_write_46 : decode cX5_write 46 = .ok (.getfield 16, 3) := by decide +kernel
theorem dX5_write_49 : decode cX5_write 49 = .ok (.aload_n 0, 1) := by decide +kernel
theorem dX5_write_50 : decode cX5_write 50 = .ok (.getfield 19, 3) := by decide +kernel
theorem dX5_write_53 : decode cX5_write 53 = .ok (.iload_n 3, 1) := by decide +kernel
theorem dX5_write_54 : decode cX5_write 54 = .ok (.iastore, 1) := by decide +kernel
theorem dX5_write_55 : decode cX5_write 55 = .ok (.aload_n 0, 1) := by decide +kernel
theorem dX5_write_56 : decode cX5_write 56 = .ok (.dup, 1) := by decide +kernel
theorem dX5_write_57 : decode cX5_write 57 = .ok (.getfield 19, 3) := by decide +kernel
theorem dX5_write_60 : decode cX5_write 60 = .ok (.iconst 1, 1) := by decide +kernel
theorem dX5_write_61 : decode cX5_write 61 = .ok (.iadd, 1) := by decide +kernel
theorem dX5_write_62 : decode cX5_write 62 = .ok (.putfield 19, 3) := by decide +kernel
theorem dX5_write_65 : decode cX5_write 65 = .ok (.return_, 1) := by decide +kernel
theorem dX5_lineCount_0 : decode cX5_lineCount 0 = .ok (.aload_n 0, 1) := by decide +kernel
theorem dX5_lineCount_1 : decode cX5_lineCount 1 = .ok (.getfield 19, 3) := by decide +kernel
theorem dX5_lineCount_4 : decode cX5_lineCount 4 = .ok (.ireturn, 1) := by decide +kernel
theorem dX5_hasLine_0 : decode cX5_hasLine 0 = .ok (.iload_n 1, 1) := by decide +kernel
theorem dX5_hasLine_1 : decode cX5_hasLine 1 = .ok (.ifCond .lt 21, 3) := by decide +kernel
theorem dX5_hasLine_4 : decode cX5_hasLine 4 = .ok (.iload_n 1, 1) := by decide +kernel
theorem dX5_hasLine_5 : decode cX5_hasLine 5 = .ok (.aload_n 0, 1) := by decide +kernel
theorem dX5_hasLine_6 : decode cX5_hasLine 6 = .ok (.getfield 19, 3) := by decide +kernel
theorem dX5_hasLine_9 : decode cX5_hasLine 9 = .ok (.if_icmp .ge 13, 3) := by decide +kernel
theorem dX5_hasLine_12 : decode cX5_hasLine 12 = .ok (.iload_n 1, 1) := by decide +kernel
theorem dX5_hasLine_13 : decode cX5_hasLine 13 = .ok (.bipush 16, 2) := by decide +kernel
theorem dX5_hasLine_15 : decode cX5_hasLine 15 = .ok (.if_icmp .ge 7, 3) := by decide +kernel
theorem dX5_hasLine_18 : decode cX5_hasLine 18 = .ok (.iconst 1, 1) := by decide +kernel
theorem dX5_hasLine_19 : decode cX5_hasLine 19 = .ok (.goto 4, 3) := by decide +kernel
theorem dX5_hasLine_22 : decode cX5_hasLine 22 = .ok (.iconst 0, 1) := by decide +kernel
theorem dX5_hasLine_23 : decode cX5_hasLine 23 = .ok (.ireturn, 1) := by decide +kernel
set_option maxRecDepth 20000 in
theorem ggX5_digitOfX_X5_hasLine : GoodIn wsX5_digitOfX wsX5_hasLine := goodIn_r _ [6, 7, 8, 9, 10, 11] (by decide +kernel) (by decide +kernel)
set_option maxRecDepth 20000 in
theorem gX5_digitOfX_X5_hasLine : GoodIn wsX5_digitOfX (wsV RX5 37 RX5 yX5_hasLine wsX5_hasLine) := goodIn_app (goodIn_of _ (by decide +kernel)) ggX5_digitOfX_X5_hasLine
theorem dX5_digitOfX_0 : decode cX5_digitOfX 0 = .ok (.aload_n 0, 1) := by decide +kernel
theorem dX5_digitOfX_1 : decode cX5_digitOfX 1 = .ok (.iload_n 1, 1) := by decide +kernel
theorem dX5_digitOfX_2 : decode cX5_digitOfX 2 = .ok (.invokevirtual 37, 3) := by decide +kernel
theorem dX5_digitOfX_5 : decode cX5_digitOfX 5 = .ok (.ifCond .eq 12, 3) := by decide +kernel
theorem dX5_digitOfX_8 : decode cX5_digitOfX 8 = .ok (.aload_n 0, 1) := by decide +kernel
theorem dX5_digitOfX_9 : decode cX5_digitOfX 9 = .ok (.getfield 9, 3) := by decide +kernel
theorem dX5_digitOfX_12 : decode cX5_digitOfX 12 = .ok (.iload_n 1, 1) := by decide +kernel
theorem dX5_digitOfX_13 : decode cX5_digitOfX 13 = .ok (.iaload, 1) := by decide +kernel
theorem dX5_digitOfX_14 : decode cX5_digitOfX 14 = .ok (.goto 4, 3) := by decide +kernel
theorem dX5_digitOfX_17 : decode cX5_digitOfX 17 = .ok (.iconst 0, 1) := by decide +kernel
theorem dX5_digitOfX_18 : decode cX5_digitOfX 18 = .ok (.ireturn, 1) := by decide +kernel
set_option maxRecDepth 20000 in
theorem ggX5_digitOfY_X5_hasLine : GoodIn wsX5_digitOfY wsX5_hasLine := goodIn_r _ [6, 7, 8, 9, 10, 11] (by decide +kernel) (by decide +kernel)
set_option maxRecDepth 20000 in
theorem gX5_digitOfY_X5_hasLine : GoodIn wsX5_digitOfY (wsV RX5 37 RX5 yX5_hasLine wsX5_hasLine) := goodIn_app (goodIn_of _ (by decide +kernel)) ggX5_digitOfY_X5_hasLine
theorem dX5_digitOfY_0 : decode cX5_digitOfY 0 = .ok (.aload_n 0, 1) := by decide +kernel
theorem dX5_digitOfY_1 : decode cX5_digitOfY 1 = .ok (.iload_n 1, 1) := by decide +kernel
theorem dX5_digitOfY_2 : decode cX5_digitOfY 2 = .ok (.invokevirtual 37, 3) := by decide +kernel
theorem dX5_digitOfY_5 : decode cX5_digitOfY 5 = .ok (.ifCond .eq 12, 3) := by decide +kernel
theorem dX5_digitOfY_8 : decode cX5_digitOfY 8 = .ok (.aload_n 0, 1) := by decide +kernel
theorem dX5_digitOfY_9 : decode cX5_digitOfY 9 = .ok (.getfield 13, 3) := by decide +kernel
theorem dX5_digitOfY_12 : decode cX5_digitOfY 12 = .ok (.iload_n 1, 1) := by decide +kernel
theorem dX5_digitOfY_13 : decode cX5_digitOfY 13 = .ok (.iaload, 1) := by decide +kernel
theorem dX5_digitOfY_14 : decode cX5_digitOfY 14 = .ok (.goto 4, 3) := by decide +kernel
theorem dX5_digitOfY_17 : decode cX5_digitOfY 17 = .ok (.iconst 0, 1) := by decide +kernel
theorem dX5_digitOfY_18 : decode cX5_digitOfY 18 = .ok (.ireturn, 1) := by decide +kernel
set_option maxRecDepth 20000 in
theorem ggX5_place_X5_hasLine : GoodIn wsX5_place wsX5_hasLine := goodIn_r _ [6, 7, 8, 9, 10, 11] (by decide +kernel) (by decide +kernel)
set_option maxRecDepth 20000 in
theorem gX5_place_X5_hasLine : GoodIn wsX5_place (wsV RX5 37 RX5 yX5_hasLine wsX5_hasLine) := goodIn_app (goodIn_of _ (by decide +kernel)) ggX5_place_X5_hasLine
theorem dX5_place_0 : decode cX5_place 0 = .ok (.aload_n 0, 1) := by decide +kernel
theorem dX5_place_1 : decode cX5_place 1 = .ok (.iload_n 1, 1) := by decide +kernel
theorem dX5_place_2 : decode cX5_place 2 = .ok (.invokevirtual 37, 3) := by decide +kernel
theorem dX5_place_5 : decode cX5_place 5 = .ok (.ifCond .eq 12, 3) := by decide +kernel
theorem dX5_place_8 : decode cX5_place 8 = .ok (.aload_n 0, 1) := by decide +kernel
theorem dX5_place_9 : decode cX5_place 9 = .ok (.getfield 16, 3) := by decide +kernel
theorem dX5_place_12 : decode cX5_place 12 = .ok (.iload_n 1, 1) := by decide +kernel
theorem dX5_place_13 : decode cX5_place 13 = .ok (.iaload, 1) := by decide +kernel
theorem dX5_place_14 : decode cX5_place 14 = .ok (.goto 4, 3) := by decide +kernel
theorem dX5_place_17 : decode cX5_place 17 = .ok (.iconst 0, 1) := by decide +kernel
theorem dX5_place_18 : decode cX5_place 18 = .ok (.ireturn, 1) := by decide +kernel
set_option maxRecDepth 20000 in
theorem ggX5_product_X5_digitOfX : GoodIn wsX5_product wsX5_digitOfX := goodIn_r _ [5, 6, 7, 8, 9, 4, 10, 11, 17, 18, 19, 20] (by decide +kernel) (by decide +kernel)
set_option maxRecDepth 20000 in
theorem gX5_product_X5_digitOfX : GoodIn wsX5_product (wsV RX5 41 RX5 yX5_digitOfX wsX5_digitOfX) := goodIn_app (goodIn_of _ (by decide +kernel)) ggX5_product_X5_digitOfX
set_option maxRecDepth 20000 in
theorem ggX5_product_X5_digitOfY : GoodIn wsX5_product wsX5_digitOfY := goodIn_r _ [15, 16, 7, 8, 9, 4, 10, 11, 17, 18, 19, 20] (by decide +kernel) (by decide +kernel)
set_option maxRecDepth 20000 in
theorem gX5_product_X5_digitOfY : GoodIn wsX5_product (wsV RX5 45 RX5 yX5_digitOfY wsX5_digitOfY) := goodIn_app (goodIn_of _ (by decide +kernel)) ggX5_product_X5_digitOfY
theorem dX5_product_0 : decode cX5_product 0 = .ok (.aload_n 0, 1) := by decide +kernel
theorem dX5_product_1 : decode cX5_product 1 = .ok (.iload_n 1, 1) := by decide +kernel
theorem dX5_product_2 : decode cX5_product 2 = .ok (.invokevirtual 41, 3) := by decide +kernel
theorem dX5_product_5 : decode cX5_product 5 = .ok (.aload_n 0, 1) := by decide +kernel
theorem dX5_product_6 : decode cX5_product 6 = .ok (.iload_n 1, 1) := by decide +kernel
theorem dX5_product_7 : decode cX5_product 7 = .ok (.invokevirtual 45, 3) := by decide +kernel
theorem dX5_product_10 : decode cX5_product 10 = .ok (.imul, 1) := by decide +kernel
theorem dX5_product_11 : decode cX5_product 11 = .ok (.ireturn, 1) := by decide +kernel
set_option maxRecDepth 20000 in
theorem ggX5_worth_X5_product : GoodIn wsX5_worth wsX5_product := goodIn_r _ [5, 6, 7, 8, 4, 9, 10, 11, 12, 13, 14, 15, 16, 17, 18, 19, 20, 31, 32, 33, 34] (by decide +kernel) (by decide +kernel)
set_option maxRecDepth 20000 in
theorem gX5_worth_X5_product : GoodIn wsX5_worth (wsV RX5 48 RX5 yX5_product wsX5_product) := goodIn_app (goodIn_of _ (by decide +kernel)) ggX5_worth_X5_product
set_option maxRecDepth 20000 in
theorem ggX5_worth_X5_place : GoodIn wsX5_worth wsX5_place := goodIn_r _ [24, 25, 11, 12, 13, 4, 14, 15, 31, 32, 33, 34] (by decide +kernel) (by decide +kernel)
set_option maxRecDepth 20000 in
theorem gX5_worth_X5_place : GoodIn wsX5_worth (wsV RX5 51 RX5 yX5_place wsX5_place) := goodIn_app (goodIn_of _ (by decide +kernel)) ggX5_worth_X5_place
set_option maxRecDepth 20000 in
theorem ggX5_worth_X1_atPlace : GoodIn wsX5_worth wsX1_atPlace := goodIn_r _ [29, 30] (by decide +kernel) (by decide +kernel)
set_option maxRecDepth 20000 in
theorem gX5_worth_X1_atPlace : GoodIn wsX5_worth (va_wsS RX5 54 yX1_atPlace wsX1_atPlace) := goodIn_app (goodIn_of _ (by decide +kernel)) ggX5_worth_X1_atPlace
theorem dX5_worth_0 : decode cX5_worth 0 = .ok (.aload_n 0, 1) := by decide +kernel
theorem dX5_worth_1 : decode cX5_worth 1 = .ok (.iload_n 1, 1) := by decide +kernel
theorem dX5_worth_2 : decode cX5_worth 2 = .ok (.invokevirtual 48, 3) := by decide +kernel
theorem dX5_worth_5 : decode cX5_worth 5 = .ok (.i2l, 1) := by decide +kernel
theorem dX5_worth_6 : decode cX5_worth 6 = .ok (.aload_n 0, 1) := by decide +kernel
theorem dX5_worth_7 : decode cX5_worth 7 = .ok (.iload_n 1, 1) := by decide +kernel
theorem dX5_worth_8 : decode cX5_worth 8 = .ok (.invokevirtual 51, 3) := by decide +kernel
theorem dX5_worth_11 : decode cX5_worth 11 = .ok (.invokestatic 54, 3) := by decide +kernel
theorem dX5_worth_14 : decode cX5_worth 14 = .ok (.lreturn, 1) := by decide +kernel
set_option maxRecDepth 20000 in
theorem ggX5_sumUpTo_X5_worth : GoodIn wsX5_sumUpTo wsX5_worth := goodIn_r _ [5, 6, 7, 8, 4, 9, 10, 11, 12, 13, 14, 15, 16, 17, 18, 19, 20, 21, 22, 23, 24, 25, 26, 27, 28, 29, 30, 31, 32, 33, 34, 35, 36, 37, 38] (by decide +kernel) (by decide +kernel)
set_option maxRecDepth 20000 in
theorem gX5_sumUpTo_X5_worth : GoodIn wsX5_sumUpTo (wsV RX5 58 RX5 yX5_worth wsX5_worth) := goodIn_app (goodIn_of _ (by decide +kernel)) ggX5_sumUpTo_X5_worth
theorem dX5_sumUpTo_0 : decode cX5_sumUpTo 0 = .ok (.lconst 0, 1) := by decide +kernel
theorem dX5_sumUpTo_1 : decode cX5_sumUpTo 1 = .ok (.lstore_n 2, 1) := by decide +kernel
theorem dX5_sumUpTo_2 : decode cX5_sumUpTo 2 = .ok (.iconst 0, 1) := by decide +kernel
theorem dX5_sumUpTo_3 : decode cX5_sumUpTo 3 = .ok (.istore 4, 2) := by decide +kernel
theorem dX5_sumUpTo_5 : decode cX5_sumUpTo 5 = .ok (.iload 4, 2) := by decide +kernel
theorem dX5_sumUpTo_7 : decode cX5_sumUpTo 7 = .ok (.iload_n 1, 1) := by decide +kernel
theorem dX5_sumUpTo_8 : decode cX5_sumUpTo 8 = .ok (.if_icmp .gt 25, 3) := by decide +kernel
theorem dX5_sumUpTo_11 : decode cX5_sumUpTo 11 = .ok (.iload 4, 2) := by decide +kernel
theorem dX5_sumUpTo_13 : decode cX5_sumUpTo 13 = .ok (.bipush 16, 2) := by decide +kernel
theorem dX5_sumUpTo_15 : decode cX5_sumUpTo 15 = .ok (.if_icmp .ge 18, 3) := by decide +kernel
theorem dX5_sumUpTo_18 : decode cX5_sumUpTo 18 = .ok (.lload_n 2, 1) := by decide +kernel
theorem dX5_sumUpTo_19 : decode cX5_sumUpTo 19 = .ok (.aload_n 0, 1) := by decide +kernel
theorem dX5_sumUpTo_20 : decode cX5_sumUpTo 20 = .ok (.iload 4, 2) := by decide +kernel
theorem dX5_sumUpTo_22 : decode cX5_sumUpTo 22 = .ok (.invokevirtual 58, 3) := by decide +kernel
theorem dX5_sumUpTo_25 : decode cX5_sumUpTo 25 = .ok (.ladd, 1) := by decide +kernel
theorem dX5_sumUpTo_26 : decode cX5_sumUpTo 26 = .ok (.lstore_n 2, 1) := by decide +kernel
theorem dX5_sumUpTo_27 : decode cX5_sumUpTo 27 = .ok (.iinc 4 1, 3) := by decide +kernel
theorem dX5_sumUpTo_30 : decode cX5_sumUpTo 30 = .ok (.goto (-25), 3) := by decide +kernel
theorem dX5_sumUpTo_33 : decode cX5_sumUpTo 33 = .ok (.lload_n 2, 1) := by decide +kernel
theorem dX5_sumUpTo_34 : decode cX5_sumUpTo 34 = .ok (.lreturn, 1) := by decide +kernel
set_option maxRecDepth 20000 in
theorem ggX5_slipped_X5_leftOut : GoodIn wsX5_slipped wsX5_leftOut := goodIn_r _ [6, 1, 7, 8, 9, 5, 10, 11, 12, 13, 14, 15, 16, 17, 18, 19, 20, 21, 22, 23, 24, 25, 26, 27, 28, 29, 30, 31, 32, 33, 34, 35, 48, 49, 50, 51] (by decide +kernel) (by decide +kernel)
set_option maxRecDepth 20000 in
theorem gX5_slipped_X5_leftOut : GoodIn wsX5_slipped (wsV RX5 62 RX5 yX5_leftOut wsX5_leftOut) := goodIn_app (goodIn_of _ (by decide +kernel)) ggX5_slipped_X5_leftOut
set_option maxRecDepth 20000 in
theorem ggX5_slipped_X5_placeLost : GoodIn wsX5_slipped wsX5_placeLost := goodIn_r _ [39, 1, 26, 27, 28, 5, 29, 30, 16, 17, 18, 19, 20, 7, 8, 9, 10, 11, 12, 13, 14, 15, 21, 22, 23, 24, 25, 31, 32, 33, 34, 35, 48, 49, 50, 51] (by decide +kernel) (by decide +kernel)
set_option maxRecDepth 20000 in
theorem gX5_slipped_X5_placeLost : GoodIn wsX5_slipped (wsV RX5 66 RX5 yX5_placeLost wsX5_placeLost) := goodIn_app (goodIn_of _ (by decide +kernel)) ggX5_slipped_X5_placeLost
set_option maxRecDepth 20000 in
theorem ggX5_slipped_X5_rowBeside : GoodIn wsX5_slipped wsX5_rowBeside := goodIn_r _ [43, 1, 21, 22, 23, 5, 24, 25, 16, 17, 18, 19, 20, 11, 12, 13, 14, 15, 26, 27, 28, 29, 30, 31, 32, 33, 34, 35, 48, 49, 50, 51] (by decide +kernel) (by decide +kernel)
set_option maxRecDepth 20000 in
theorem gX5_slipped_X5_rowBeside : GoodIn wsX5_slipped (wsV RX5 69 RX5 yX5_rowBeside wsX5_rowBeside) := goodIn_app (goodIn_of _ (by decide +kernel)) ggX5_slipped_X5_rowBeside
set_option maxRecDepth 20000 in
theorem ggX5_slipped_X5_writtenTwice : GoodIn wsX5_slipped wsX5_writtenTwice := goodIn_r _ [47, 1, 7, 8, 9, 5, 10, 11, 12, 13, 14, 15, 16, 17, 18, 19, 20, 21, 22, 23, 24, 25, 26, 27, 28, 29, 30, 31, 32, 33, 34, 35, 48, 49, 50, 51] (by decide +kernel) (by decide +kernel)
set_option maxRecDepth 20000 in
theorem gX5_slipped_X5_writtenTwice : GoodIn wsX5_slipped (wsV RX5 72 RX5 yX5_writtenTwice wsX5_writtenTwice) := goodIn_app (goodIn_of _ (by decide +kernel)) ggX5_slipped_X5_writtenTwice
theorem dX5_slipped_0 : decode cX5_slipped 0 = .ok (.iload_n 2, 1) := by decide +kernel
theorem dX5_slipped_1 : decode cX5_slipped 1 = .ok (.tableswitch 59 0 3 #[31, 38, 45, 52], 31) := by decide +kernel
theorem dX5_slipped_32 : decode cX5_slipped 32 = .ok (.aload_n 0, 1) := by decide +kernel
theorem dX5_slipped_33 : decode cX5_slipped 33 = .ok (.iload_n 1, 1) := by decide +kernel
theorem dX5_slipped_34 : decode cX5_slipped 34 = .ok (.iload_n 3, 1) := by decide +kernel
theorem dX5_slipped_35 : decode cX5_slipped 35 = .ok (.invokevirtual 62, 3) := by decide +kernel
theorem dX5_slipped_38 : decode cX5_slipped 38 = .ok (.lreturn, 1) := by decide +kernel
theorem dX5_slipped_39 : decode cX5_slipped 39 = .ok (.aload_n 0, 1) := by decide +kernel
theorem dX5_slipped_40 : decode cX5_slipped 40 = .ok (.iload_n 1, 1) := by decide +kernel
theorem dX5_slipped_41 : decode cX5_slipped 41 = .ok (.iload_n 3, 1) := by decide +kernel
theorem dX5_slipped_42 : decode cX5_slipped 42 = .ok (.invokevirtual 66, 3) := by decide +kernel
theorem dX5_slipped_45 : decode cX5_slipped 45 = .ok (.lreturn, 1) := by decide +kernel
theorem dX5_slipped_46 : decode cX5_slipped 46 = .ok (.aload_n 0, 1) := by decide +kernel
theorem dX5_slipped_47 : decode cX5_slipped 47 = .ok (.iload_n 1, 1) := by decide +kernel
theorem dX5_slipped_48 : decode cX5_slipped 48 = .ok (.iload_n 3, 1) := by decide +kernel
theorem dX5_slipped_49 : decode cX5_slipped 49 = .ok (.invokevirtual 69, 3) := by decide +kernel
theorem dX5_slipped_52 : decode cX5_slipped 52 = .ok (.lreturn, 1) := by decide +kernel
theorem dX5_slipped_53 : decode cX5_slipped 53 = .ok (.aload_n 0, 1) := by decide +kernel
theorem dX5_slipped_54 : decode cX5_slipped 54 = .ok (.iload_n 1, 1) := by decide +kernel
theorem dX5_slipped_55 : decode cX5_slipped 55 = .ok (.iload_n 3, 1) := by decide +kernel
theorem dX5_slipped_56 : decode cX5_slipped 56 = .ok (.invokevirtual 72, 3) := by decide +kernel
theorem dX5_slipped_59 : decode cX5_slipped 59 = .ok (.lreturn, 1) := by decide +kernel
theorem dX5_slipped_60 : decode cX5_slipped 60 = .ok (.ldc2_w 75, 3) := by decide +kernel
theorem dX5_slipped_63 : decode cX5_slipped 63 = .ok (.lreturn, 1) := by decide +kernel
set_option maxRecDepth 20000 in
theorem ggX5_leftOut_X5_product : GoodIn wsX5_leftOut wsX5_product := goodIn_r _ [6, 7, 8, 9, 5, 10, 11, 12, 13, 14, 15, 16, 17, 18, 19, 20, 21, 32, 33, 34, 35] (by decide +kernel) (by decide +kernel)
set_option maxRecDepth 20000 in
theorem gX5_leftOut_X5_product : GoodIn wsX5_leftOut (wsV RX5 48 RX5 yX5_product wsX5_product) := goodIn_app (goodIn_of _ (by decide +kernel)) ggX5_leftOut_X5_product
set_option maxRecDepth 20000 in
theorem ggX5_leftOut_X5_place : GoodIn wsX5_leftOut wsX5_place := goodIn_r _ [25, 26, 12, 13, 14, 5, 15, 16, 32, 33, 34, 35] (by decide +kernel) (by decide +kernel)
set_option maxRecDepth 20000 in
theorem gX5_leftOut_X5_place : GoodIn wsX5_leftOut (wsV RX5 51 RX5 yX5_place wsX5_place) := goodIn_app (goodIn_of _ (by decide +kernel)) ggX5_leftOut_X5_place
set_option maxRecDepth 20000 in
theorem ggX5_leftOut_X1_atPlace : GoodIn wsX5_leftOut wsX1_atPlace := goodIn_r _ [30, 31] (by decide +kernel) (by decide +kernel)
set_option maxRecDepth 20000 in
theorem gX5_leftOut_X1_atPlace : GoodIn wsX5_leftOut (va_wsS RX5 54 yX1_atPlace wsX1_atPlace) := goodIn_app (goodIn_of _ (by decide +kernel)) ggX5_leftOut_X1_atPlace
theorem dX5_leftOut_0 : decode cX5_leftOut 0 = .ok (.aload_n 0, 1) := by decide +kernel
theorem dX5_leftOut_1 : decode cX5_leftOut 1 = .ok (.iload_n 1, 1) := by decide +kernel
theorem dX5_leftOut_2 : decode cX5_leftOut 2 = .ok (.invokevirtual 48, 3) := by decide +kernel
theorem dX5_leftOut_5 : decode cX5_leftOut 5 = .ok (.bipush 60, 2) := by decide +kernel
theorem dX5_leftOut_7 : decode cX5_leftOut 7 = .ok (.idiv, 1) := by decide +kernel
theorem dX5_leftOut_8 : decode cX5_leftOut 8 = .ok (.istore_n 3, 1) := by decide +kernel
theorem dX5_leftOut_9 : decode cX5_leftOut 9 = .ok (.aload_n 0, 1) := by decide +kernel
theorem dX5_leftOut_10 : decode cX5_leftOut 10 = .ok (.iload_n 1, 1) := by decide +kernel
theorem dX5_leftOut_11 : decode cX5_leftOut 11 = .ok (.invokevirtual 48, 3) := by decide +kernel
theorem dX5_leftOut_14 : decode cX5_leftOut 14 = .ok (.bipush 60, 2) := by decide +kernel
theorem dX5_leftOut_16 : decode cX5_leftOut 16 = .ok (.irem, 1) := by decide +kernel
theorem dX5_leftOut_17 : decode cX5_leftOut 17 = .ok (.istore 4, 2) := by decide +kernel
theorem dX5_leftOut_19 : decode cX5_leftOut 19 = .ok (.iload_n 3, 1) := by decide +kernel
theorem dX5_leftOut_20 : decode cX5_leftOut 20 = .ok (.ifCond .eq 13, 3) := by decide +kernel
theorem dX5_leftOut_23 : decode cX5_leftOut 23 = .ok (.iload_n 2, 1) := by decide +kernel
theorem dX5_leftOut_24 : decode cX5_leftOut 24 = .ok (.iconst 1, 1) := by decide +kernel
theorem dX5_leftOut_25 : decode cX5_leftOut 25 = .ok (.if_icmp .ne 12, 3) := by decide +kernel
theorem dX5_leftOut_28 : decode cX5_leftOut 28 = .ok (.iload 4, 2) := by decide +kernel
theorem dX5_leftOut_30 : decode cX5_leftOut 30 = .ok (.ifCond .ne 7, 3) := by decide +kernel
theorem dX5_leftOut_33 : decode cX5_leftOut 33 = .ok (.ldc2_w 75, 3) := by decide +kernel
theorem dX5_leftOut_36 : decode cX5_leftOut 36 = .ok (.lreturn, 1) := by decide +kernel
theorem dX5_leftOut_37 : decode cX5_leftOut 37 = .ok (.iload_n 2, 1) := by decide +kernel
theorem dX5_leftOut_38 : decode cX5_leftOut 38 = .ok (.ifCond .ne 9, 3) := by decide +kernel
theorem dX5_leftOut_41 : decode cX5_leftOut 41 = .ok (.iload 4, 2) := by decide +kernel
theorem dX5_leftOut_43 : decode cX5_leftOut 43 = .ok (.i2l, 1) := by decide +kernel
theorem dX5_leftOut_44 : decode cX5_leftOut 44 = .ok (.goto 5, 3) := by decide +kernel
theorem dX5_leftOut_47 : decode cX5_leftOut 47 = .ok (.iload_n 3, 1) := by decide +kernel
theorem dX5_leftOut_48 : decode cX5_leftOut 48 = .ok (.i2l, 1) := by decide +kernel
theorem dX5_leftOut_49 : decode cX5_leftOut 49 = .ok (.aload_n 0, 1) := by decide +kernel
theorem dX5_leftOut_50 : decode cX5_leftOut 50 = .ok (.iload_n 1, 1) := by decide +kernel
theorem dX5_leftOut_51 : decode cX5_leftOut 51 = .ok (.invokevirtual 51, 3) := by decide +kernel
theorem dX5_leftOut_54 : decode cX5_leftOut 54 = .ok (.invokestatic 54, 3) := by decide +kernel
theorem dX5_leftOut_57 : decode cX5_leftOut 57 = .ok (.lreturn, 1) := by decide +kernel
set_option maxRecDepth 20000 in
theorem ggX5_placeLost_X5_place : GoodIn wsX5_placeLost wsX5_place := goodIn_r _ [6, 7, 8, 9, 10, 5, 11, 12, 32, 33, 34, 35] (by decide +kernel) (by decide +kernel)
set_option maxRecDepth 20000 in
theorem gX5_placeLost_X5_place : GoodIn wsX5_placeLost (wsV RX5 51 RX5 yX5_place wsX5_place) := goodIn_app (goodIn_of _ (by decide +kernel)) ggX5_placeLost_X5_place
set_option maxRecDepth 20000 in
theorem ggX5_placeLost_X5_product : GoodIn wsX5_placeLost wsX5_product := goodIn_r _ [16, 17, 18, 19, 5, 20, 21, 8, 9, 10, 11, 12, 22, 23, 24, 25, 26, 32, 33, 34, 35] (by decide +kernel) (by decide +kernel)
set_option maxRecDepth 20000 in
theorem gX5_placeLost_X5_product : GoodIn wsX5_placeLost (wsV RX5 48 RX5 yX5_product wsX5_product) := goodIn_app (goodIn_of _ (by decide +kernel)) ggX5_placeLost_X5_product
set_option maxRecDepth 20000 in
theorem ggX5_placeLost_X1_atPlace : GoodIn wsX5_placeLost wsX1_atPlace := goodIn_r _ [30, 31] (by decide +kernel) (by decide +kernel)
set_option maxRecDepth 20000 in
theorem gX5_placeLost_X1_atPlace : GoodIn wsX5_placeLost (va_wsS RX5 54 yX1_atPlace wsX1_atPlace) := goodIn_app (goodIn_of _ (by decide +kernel)) ggX5_placeLost_X1_atPlace
theorem dX5_placeLost_0 : decode cX5_placeLost 0 = .ok (.iload_n 2, 1) := by decide +kernel
theorem dX5_placeLost_1 : decode cX5_placeLost 1 = .ok (.ifCond .ne 30, 3) := by decide +kernel
theorem dX5_placeLost_4 : decode cX5_placeLost 4 = .ok (.aload_n 0, 1) := by decide +kernel
theorem dX5_placeLost_5 : decode cX5_placeLost 5 = .ok (.iload_n 1, 1) := by decide +kernel
theorem dX5_placeLost_6 : decode cX5_placeLost 6 = .ok (.invokevirtual 51, 3) := by decide +kernel
theorem dX5_placeLost_9 : decode cX5_placeLost 9 = .ok (.ifCond .le 22, 3) := by decide +kernel
theorem dX5_placeLost_12 : decode cX5_placeLost 12 = .ok (.aload_n 0, 1) := by decide +kernel
theorem dX5_placeLost_13 : decode cX5_placeLost 13 = .ok (.iload_n 1, 1) := by decide +kernel
theorem dX5_placeLost_14 : decode cX5_placeLost 14 = .ok (.invokevirtual 48, 3) := by decide +kernel
theorem dX5_placeLost_17 : decode cX5_placeLost 17 = .ok (.i2l, 1) := by decide +kernel
theorem dX5_placeLost_18 : decode cX5_placeLost 18 = .ok (.aload_n 0, 1) := by decide +kernel
theorem dX5_placeLost_19 : decode cX5_placeLost 19 = .ok (.iload_n 1, 1) := by decide +kernel
theorem dX5_placeLost_20 : decode cX5_placeLost 20 = .ok (.invokevirtual 51, 3) := by decide +kernel
theorem dX5_placeLost_23 : decode cX5_placeLost 23 = .ok (.iconst 1, 1) := by decide +kernel
theorem dX5_placeLost_24 : decode cX5_placeLost 24 = .ok (.isub, 1) := by decide +kernel
theorem dX5_placeLost_25 : decode cX5_placeLost 25 = .ok (.invokestatic 54, 3) := by decide +kernel
theorem dX5_placeLost_28 : decode cX5_placeLost 28 = .ok (.goto 6, 3) := by decide +kernel
theorem dX5_placeLost_31 : decode cX5_placeLost 31 = .ok (.ldc2_w 75, 3) := by decide +kernel
theorem dX5_placeLost_34 : decode cX5_placeLost 34 = .ok (.lreturn, 1) := by decide +kernel
set_option maxRecDepth 20000 in
theorem ggX5_rowBeside_X5_digitOfY : GoodIn wsX5_rowBeside wsX5_digitOfY := goodIn_r _ [6, 7, 8, 9, 10, 5, 11, 12, 28, 29, 30, 31] (by decide +kernel) (by decide +kernel)
set_option maxRecDepth 20000 in
theorem gX5_rowBeside_X5_digitOfY : GoodIn wsX5_rowBeside (wsV RX5 45 RX5 yX5_digitOfY wsX5_digitOfY) := goodIn_app (goodIn_of _ (by decide +kernel)) ggX5_rowBeside_X5_digitOfY
set_option maxRecDepth 20000 in
theorem ggX5_rowBeside_X5_digitOfX : GoodIn wsX5_rowBeside wsX5_digitOfX := goodIn_r _ [16, 17, 8, 9, 10, 5, 11, 12, 28, 29, 30, 31] (by decide +kernel) (by decide +kernel)
set_option maxRecDepth 20000 in
theorem gX5_rowBeside_X5_digitOfX : GoodIn wsX5_rowBeside (wsV RX5 41 RX5 yX5_digitOfX wsX5_digitOfX) := goodIn_app (goodIn_of _ (by decide +kernel)) ggX5_rowBeside_X5_digitOfX
set_option maxRecDepth 20000 in
theorem ggX5_rowBeside_X5_place : GoodIn wsX5_rowBeside wsX5_place := goodIn_r _ [21, 22, 8, 9, 10, 5, 11, 12, 28, 29, 30, 31] (by decide +kernel) (by decide +kernel)
set_option maxRecDepth 20000 in
theorem gX5_rowBeside_X5_place : GoodIn wsX5_rowBeside (wsV RX5 51 RX5 yX5_place wsX5_place) := goodIn_app (goodIn_of _ (by decide +kernel)) ggX5_rowBeside_X5_place
set_option maxRecDepth 20000 in
theorem ggX5_rowBeside_X1_atPlace : GoodIn wsX5_rowBeside wsX1_atPlace := goodIn_r _ [26, 27] (by decide +kernel) (by decide +kernel)
set_option maxRecDepth 20000 in
theorem gX5_rowBeside_X1_atPlace : GoodIn wsX5_rowBeside (va_wsS RX5 54 yX1_atPlace wsX1_atPlace) := goodIn_app (goodIn_of _ (by decide +kernel)) ggX5_rowBeside_X1_atPlace
theorem dX5_rowBeside_0 : decode cX5_rowBeside 0 = .ok (.iload_n 2, 1) := by decide +kernel
theorem dX5_rowBeside_1 : decode cX5_rowBeside 1 = .ok (.ifCond .ne 13, 3) := by decide +kernel
theorem dX5_rowBeside_4 : decode cX5_rowBeside 4 = .ok (.aload_n 0, 1) := by decide +kernel
theorem dX5_rowBeside_5 : decode cX5_rowBeside 5 = .ok (.iload_n 1, 1) := by decide +kernel
theorem dX5_rowBeside_6 : decode cX5_rowBeside 6 = .ok (.invokevirtual 45, 3) := by decide +kernel
theorem dX5_rowBeside_9 : decode cX5_rowBeside 9 = .ok (.iconst 1, 1) := by decide +kernel
theorem dX5_rowBeside_10 : decode cX5_rowBeside 10 = .ok (.isub, 1) := by decide +kernel
theorem dX5_rowBeside_11 : decode cX5_rowBeside 11 = .ok (.goto 10, 3) := by decide +kernel
theorem dX5_rowBeside_14 : decode cX5_rowBeside 14 = .ok (.aload_n 0, 1) := by decide +kernel
theorem dX5_rowBeside_15 : decode cX5_rowBeside 15 = .ok (.iload_n 1, 1) := by decide +kernel
theorem dX5_rowBeside_16 : decode cX5_rowBeside 16 = .ok (.invokevirtual 45, 3) := by decide +kernel
theorem dX5_rowBeside_19 : decode cX5_rowBeside 19 = .ok (.iconst 1, 1) := by decide +kernel
theorem dX5_rowBeside_20 : decode cX5_rowBeside 20 = .ok (.iadd, 1) := by decide +kernel
theorem dX5_rowBeside_21 : decode cX5_rowBeside 21 = .ok (.istore_n 3, 1) := by decide +kernel
theorem dX5_rowBeside_22 : decode cX5_rowBeside 22 = .ok (.iload_n 3, 1) := by decide +kernel
theorem dX5_rowBeside_23 : decode cX5_rowBeside 23 = .ok (.iconst 1, 1) := by decide +kernel
theorem dX5_rowBeside_24 : decode cX5_rowBeside 24 = .ok (.if_icmp .lt 9, 3) := by decide +kernel
theorem dX5_rowBeside_27 : decode cX5_rowBeside 27 = .ok (.iload_n 3, 1) := by decide +kernel
theorem dX5_rowBeside_28 : decode cX5_rowBeside 28 = .ok (.bipush 60, 2) := by decide +kernel
theorem dX5_rowBeside_30 : decode cX5_rowBeside 30 = .ok (.if_icmp .lt 7, 3) := by decide +kernel
theorem dX5_rowBeside_33 : decode cX5_rowBeside 33 = .ok (.ldc2_w 75, 3) := by decide +kernel
theorem dX5_rowBeside_36 : decode cX5_rowBeside 36 = .ok (.lreturn, 1) := by decide +kernel
theorem dX5_rowBeside_37 : decode cX5_rowBeside 37 = .ok (.aload_n 0, 1) := by decide +kernel
theorem dX5_rowBeside_38 : decode cX5_rowBeside 38 = .ok (.iload_n 1, 1) := by decide +kernel
theorem dX5_rowBeside_39 : decode cX5_rowBeside 39 = .ok (.invokevirtual 41, 3) := by decide +kernel
theorem dX5_rowBeside_42 : decode cX5_rowBeside 42 = .ok (.i2l, 1) := by decide +kernel
theorem dX5_rowBeside_43 : decode cX5_rowBeside 43 = .ok (.iload_n 3, 1) := by decide +kernel
theorem dX5_rowBeside_44 : decode cX5_rowBeside 44 = .ok (.i2l, 1) := by decide +kernel
theorem dX5_rowBeside_45 : decode cX5_rowBeside 45 = .ok (.lmul, 1) := by decide +kernel
theorem dX5_rowBeside_46 : decode cX5_rowBeside 46 = .ok (.aload_n 0, 1) := by decide +kernel
theorem dX5_rowBeside_47 : decode cX5_rowBeside 47 = .ok (.iload_n 1, 1) := by decide +kernel
theorem dX5_rowBeside_48 : decode cX5_rowBeside 48 = .ok (.invokevirtual 51, 3) := by decide +kernel
theorem dX5_rowBeside_51 : decode cX5_rowBeside 51 = .ok (.invokestatic 54, 3) := by decide +kernel
theorem dX5_rowBeside_54 : decode cX5_rowBeside 54 = .ok (.lreturn, 1) := by decide +kernel
set_option maxRecDepth 20000 in
theorem ggX5_writtenTwice_X5_product : GoodIn wsX5_writtenTwice wsX5_product := goodIn_r _ [6, 7, 8, 9, 5, 10, 11, 12, 13, 14, 15, 16, 17, 18, 19, 20, 21, 32, 33, 34, 35] (by decide +kernel) (by decide +kernel)
set_option maxRecDepth 20000 in
theorem gX5_writtenTwice_X5_product : GoodIn wsX5_writtenTwice (wsV RX5 48 RX5 yX5_product wsX5_product) := goodIn_app (goodIn_of _ (by decide +kernel)) ggX5_writtenTwice_X5_product
set_option maxRecDepth 20000 in
theorem ggX5_writtenTwice_X5_place : GoodIn wsX5_writtenTwice wsX5_place := goodIn_r _ [25, 26, 12, 13, 14, 5, 15, 16, 32, 33, 34, 35] (by decide +kernel) (by decide +kernel)
set_option maxRecDepth 20000 in
theorem gX5_writtenTwice_X5_place : GoodIn wsX5_writtenTwice (wsV RX5 51 RX5 yX5_place wsX5_place) := goodIn_app (goodIn_of _ (by decide +kernel)) ggX5_writtenTwice_X5_place
set_option maxRecDepth 20000 in
theorem ggX5_writtenTwice_X1_atPlace : GoodIn wsX5_writtenTwice wsX1_atPlace := goodIn_r _ [30, 31] (by decide +kernel) (by decide +kernel)
set_option maxRecDepth 20000 in
theorem gX5_writtenTwice_X1_atPlace : GoodIn wsX5_writtenTwice (va_wsS RX5 54 yX1_atPlace wsX1_atPlace) := goodIn_app (goodIn_of _ (by decide +kernel)) ggX5_writtenTwice_X1_atPlace
theorem dX5_writtenTwice_0 : decode cX5_writtenTwice 0 = .ok (.aload_n 0, 1) := by decide +kernel
theorem dX5_writtenTwice_1 : decode cX5_writtenTwice 1 = .ok (.iload_n 1, 1) := by decide +kernel
theorem dX5_writtenTwice_2 : decode cX5_writtenTwice 2 = .ok (.invokevirtual 48, 3) := by decide +kernel
theorem dX5_writtenTwice_5 : decode cX5_writtenTwice 5 = .ok (.bipush 60, 2) := by decide +kernel
theorem dX5_writtenTwice_7 : decode cX5_writtenTwice 7 = .ok (.idiv, 1) := by decide +kernel
theorem dX5_writtenTwice_8 : decode cX5_writtenTwice 8 = .ok (.istore_n 3, 1) := by decide +kernel
theorem dX5_writtenTwice_9 : decode cX5_writtenTwice 9 = .ok (.aload_n 0, 1) := by decide +kernel
theorem dX5_writtenTwice_10 : decode cX5_writtenTwice 10 = .ok (.iload_n 1, 1) := by decide +kernel
theorem dX5_writtenTwice_11 : decode cX5_writtenTwice 11 = .ok (.invokevirtual 48, 3) := by decide +kernel
theorem dX5_writtenTwice_14 : decode cX5_writtenTwice 14 = .ok (.bipush 60, 2) := by decide +kernel
theorem dX5_writtenTwice_16 : decode cX5_writtenTwice 16 = .ok (.irem, 1) := by decide +kernel
theorem dX5_writtenTwice_17 : decode cX5_writtenTwice 17 = .ok (.istore 4, 2) := by decide +kernel
theorem dX5_writtenTwice_19 : decode cX5_writtenTwice 19 = .ok (.iload_n 2, 1) := by decide +kernel
theorem dX5_writtenTwice_20 : decode cX5_writtenTwice 20 = .ok (.ifCond .ne 7, 3) := by decide +kernel
theorem dX5_writtenTwice_23 : decode cX5_writtenTwice 23 = .ok (.iload_n 3, 1) := by decide +kernel
theorem dX5_writtenTwice_24 : decode cX5_writtenTwice 24 = .ok (.goto 5, 3) := by decide +kernel
theorem dX5_writtenTwice_27 : decode cX5_writtenTwice 27 = .ok (.iload 4, 2) := by decide +kernel
theorem dX5_writtenTwice_29 : decode cX5_writtenTwice 29 = .ok (.istore 5, 2) := by decide +kernel
theorem dX5_writtenTwice_31 : decode cX5_writtenTwice 31 = .ok (.iload 5, 2) := by decide +kernel
theorem dX5_writtenTwice_33 : decode cX5_writtenTwice 33 = .ok (.ifCond .ne 7, 3) := by decide +kernel
theorem dX5_writtenTwice_36 : decode cX5_writtenTwice 36 = .ok (.ldc2_w 75, 3) := by decide +kernel
theorem dX5_writtenTwice_39 : decode cX5_writtenTwice 39 = .ok (.lreturn, 1) := by decide +kernel
theorem dX5_writtenTwice_40 : decode cX5_writtenTwice 40 = .ok (.iload_n 3, 1) := by decide +kernel
theorem dX5_writtenTwice_41 : decode cX5_writtenTwice 41 = .ok (.bipush 60, 2) := by decide +kernel
theorem dX5_writtenTwice_43 : decode cX5_writtenTwice 43 = .ok (.imul, 1) := by decide +kernel
theorem dX5_writtenTwice_44 : decode cX5_writtenTwice 44 = .ok (.iload 5, 2) := by decide +kernel
theorem dX5_writtenTwice_46 : decode cX5_writtenTwice 46 = .ok (.iadd, 1) := by decide +kernel
theorem dX5_writtenTwice_47 : decode cX5_writtenTwice 47 = .ok (.bipush 60, 2) := by decide +kernel
theorem dX5_writtenTwice_49 : decode cX5_writtenTwice 49 = .ok (.imul, 1) := by decide +kernel
theorem dX5_writtenTwice_50 : decode cX5_writtenTwice 50 = .ok (.iload 4, 2) := by decide +kernel
theorem dX5_writtenTwice_52 : decode cX5_writtenTwice 52 = .ok (.iadd, 1) := by decide +kernel
theorem dX5_writtenTwice_53 : decode cX5_writtenTwice 53 = .ok (.i2l, 1) := by decide +kernel
theorem dX5_writtenTwice_54 : decode cX5_writtenTwice 54 = .ok (.aload_n 0, 1) := by decide +kernel
theorem dX5_writtenTwice_55 : decode cX5_writtenTwice 55 = .ok (.iload_n 1, 1) := by decide +kernel
theorem dX5_writtenTwice_56 : decode cX5_writtenTwice 56 = .ok (.invokevirtual 51, 3) := by decide +kernel
theorem dX5_writtenTwice_59 : decode cX5_writtenTwice 59 = .ok (.invokestatic 54, 3) := by decide +kernel
theorem dX5_writtenTwice_62 : decode cX5_writtenTwice 62 = .ok (.lreturn, 1) := by decide +kernel
theorem dJ6_bitCount_0f7a4_0 : decode cJ6_bitCount_0f7a4 0 = .ok (.iload_n 0, 1) := by decide +kernel
theorem dJ6_bitCount_0f7a4_1 : decode cJ6_bitCount_0f7a4 1 = .ok (.iload_n 0, 1) := by decide +kernel
theorem dJ6_bitCount_0f7a4_2 : decode cJ6_bitCount_0f7a4 2 = .ok (.iconst 1, 1) := by decide +kernel
theorem dJ6_bitCount_0f7a4_3 : decode cJ6_bitCount_0f7a4 3 = .ok (.iushr, 1) := by decide +kernel
theorem dJ6_bitCount_0f7a4_4 : decode cJ6_bitCount_0f7a4 4 = .ok (.ldc_w 265, 3) := by decide +kernel
theorem dJ6_bitCount_0f7a4_7 : decode cJ6_bitCount_0f7a4 7 = .ok (.iand, 1) := by decide +kernel
theorem dJ6_bitCount_0f7a4_8 : decode cJ6_bitCount_0f7a4 8 = .ok (.isub, 1) := by decide +kernel
theorem dJ6_bitCount_0f7a4_9 : decode cJ6_bitCount_0f7a4 9 = .ok (.istore_n 0, 1) := by decide +kernel
theorem dJ6_bitCount_0f7a4_10 : decode cJ6_bitCount_0f7a4 10 = .ok (.iload_n 0, 1) := by decide +kernel
theorem dJ6_bitCount_0f7a4_11 : decode cJ6_bitCount_0f7a4 11 = .ok (.ldc_w 266, 3) := by decide +kernel
theorem dJ6_bitCount_0f7a4_14 : decode cJ6_bitCount_0f7a4 14 = .ok (.iand, 1) := by decide +kernel
theorem dJ6_bitCount_0f7a4_15 : decode cJ6_bitCount_0f7a4 15 = .ok (.iload_n 0, 1) := by decide +kernel
theorem dJ6_bitCount_0f7a4_16 : decode cJ6_bitCount_0f7a4 16 = .ok (.iconst 2, 1) := by decide +kernel
theorem dJ6_bitCount_0f7a4_17 : decode cJ6_bitCount_0f7a4 17 = .ok (.iushr, 1) := by decide +kernel
theorem dJ6_bitCount_0f7a4_18 : decode cJ6_bitCount_0f7a4 18 = .ok (.ldc_w 266, 3) := by decide +kernel
theorem dJ6_bitCount_0f7a4_21 : decode cJ6_bitCount_0f7a4 21 = .ok (.iand, 1) := by decide +kernel
theorem dJ6_bitCount_0f7a4_22 : decode cJ6_bitCount_0f7a4 22 = .ok (.iadd, 1) := by decide +kernel
theorem dJ6_bitCount_0f7a4_23 : decode cJ6_bitCount_0f7a4 23 = .ok (.istore_n 0, 1) := by decide +kernel
theorem dJ6_bitCount_0f7a4_24 : decode cJ6_bitCount_0f7a4 24 = .ok (.iload_n 0, 1) := by decide +kernel
theorem dJ6_bitCount_0f7a4_25 : decode cJ6_bitCount_0f7a4 25 = .ok (.iload_n 0, 1) := by decide +kernel
theorem dJ6_bitCount_0f7a4_26 : decode cJ6_bitCount_0f7a4 26 = .ok (.iconst 4, 1) := by decide +kernel
theorem dJ6_bitCount_0f7a4_27 : decode cJ6_bitCount_0f7a4 27 = .ok (.iushr, 1) := by decide +kernel
theorem dJ6_bitCount_0f7a4_28 : decode cJ6_bitCount_0f7a4 28 = .ok (.iadd, 1) := by decide +kernel
theorem dJ6_bitCount_0f7a4_29 : decode cJ6_bitCount_0f7a4 29 = .ok (.ldc_w 267, 3) := by decide +kernel
theorem dJ6_bitCount_0f7a4_32 : decode cJ6_bitCount_0f7a4 32 = .ok (.iand, 1) := by decide +kernel
theorem dJ6_bitCount_0f7a4_33 : decode cJ6_bitCount_0f7a4 33 = .ok (.istore_n 0, 1) := by decide +kernel
theorem dJ6_bitCount_0f7a4_34 : decode cJ6_bitCount_0f7a4 34 = .ok (.iload_n 0, 1) := by decide +kernel
theorem dJ6_bitCount_0f7a4_35 : decode cJ6_bitCount_0f7a4 35 = .ok (.iload_n 0, 1) := by decide +kernel
theorem dJ6_bitCount_0f7a4_36 : decode cJ6_bitCount_0f7a4 36 = .ok (.bipush 8, 2) := by decide +kernel
theorem dJ6_bitCount_0f7a4_38 : decode cJ6_bitCount_0f7a4 38 = .ok (.iushr, 1) := by decide +kernel
theorem dJ6_bitCount_0f7a4_39 : decode cJ6_bitCount_0f7a4 39 = .ok (.iadd, 1) := by decide +kernel
theorem dJ6_bitCount_0f7a4_40 : decode cJ6_bitCount_0f7a4 40 = .ok (.istore_n 0, 1) := by decide +kernel
theorem dJ6_bitCount_0f7a4_41 : decode cJ6_bitCount_0f7a4 41 = .ok (.iload_n 0, 1) := by decide +kernel
theorem dJ6_bitCount_0f7a4_42 : decode cJ6_bitCount_0f7a4 42 = .ok (.iload_n 0, 1) := by decide +kernel
theorem dJ6_bitCount_0f7a4_43 : decode cJ6_bitCount_0f7a4 43 = .ok (.bipush 16, 2) := by decide +kernel
theorem dJ6_bitCount_0f7a4_45 : decode cJ6_bitCount_0f7a4 45 = .ok (.iushr, 1) := by decide +kernel
theorem dJ6_bitCount_0f7a4_46 : decode cJ6_bitCount_0f7a4 46 = .ok (.iadd, 1) := by decide +kernel
theorem dJ6_bitCount_0f7a4_47 : decode cJ6_bitCount_0f7a4 47 = .ok (.istore_n 0, 1) := by decide +kernel
theorem dJ6_bitCount_0f7a4_48 : decode cJ6_bitCount_0f7a4 48 = .ok (.iload_n 0, 1) := by decide +kernel
theorem dJ6_bitCount_0f7a4_49 : decode cJ6_bitCount_0f7a4 49 = .ok (.bipush 63, 2) := by decide +kernel
theorem dJ6_bitCount_0f7a4_51 : decode cJ6_bitCount_0f7a4 51 = .ok (.iand, 1) := by decide +kernel
theorem dJ6_bitCount_0f7a4_52 : decode cJ6_bitCount_0f7a4 52 = .ok (.ireturn, 1) := by decide +kernel
theorem dJ9_max_7cf53_0 : decode cJ9_max_7cf53 0 = .ok (.iload_n 0, 1) := by decide +kernel
theorem dJ9_max_7cf53_1 : decode cJ9_max_7cf53 1 = .ok (.iload_n 1, 1) := by decide +kernel
theorem dJ9_max_7cf53_2 : decode cJ9_max_7cf53 2 = .ok (.if_icmp .lt 7, 3) := by decide +kernel
theorem dJ9_max_7cf53_5 : decode cJ9_max_7cf53 5 = .ok (.iload_n 0, 1) := by decide +kernel
theorem dJ9_max_7cf53_6 : decode cJ9_max_7cf53 6 = .ok (.goto 4, 3) := by decide +kernel
theorem dJ9_max_7cf53_9 : decode cJ9_max_7cf53 9 = .ok (.iload_n 1, 1) := by decide +kernel
theorem dJ9_max_7cf53_10 : decode cJ9_max_7cf53 10 = .ok (.ireturn, 1) := by decide +kernel
theorem dJ9_min_7cf53_0 : decode cJ9_min_7cf53 0 = .ok (.iload_n 0, 1) := by decide +kernel
theorem dJ9_min_7cf53_1 : decode cJ9_min_7cf53 1 = .ok (.iload_n 1, 1) := by decide +kernel
theorem dJ9_min_7cf53_2 : decode cJ9_min_7cf53 2 = .ok (.if_icmp .gt 7, 3) := by decide +kernel
theorem dJ9_min_7cf53_5 : decode cJ9_min_7cf53 5 = .ok (.iload_n 0, 1) := by decide +kernel
theorem dJ9_min_7cf53_6 : decode cJ9_min_7cf53 6 = .ok (.goto 4, 3) := by decide +kernel
theorem dJ9_min_7cf53_9 : decode cJ9_min_7cf53 9 = .ok (.iload_n 1, 1) := by decide +kernel
theorem dJ9_min_7cf53_10 : decode cJ9_min_7cf53 10 = .ok (.ireturn, 1) := by decide +kernel
theorem dJ9_min_f86c9_0 : decode cJ9_min_f86c9 0 = .ok (.lload_n 0, 1) := by decide +kernel
theorem dJ9_min_f86c9_1 : decode cJ9_min_f86c9 1 = .ok (.lload_n 2, 1) := by decide +kernel
theorem dJ9_min_f86c9_2 : decode cJ9_min_f86c9 2 = .ok (.lcmp, 1) := by decide +kernel
theorem dJ9_min_f86c9_3 : decode cJ9_min_f86c9 3 = .ok (.ifCond .gt 7, 3) := by decide +kernel
theorem dJ9_min_f86c9_6 : decode cJ9_min_f86c9 6 = .ok (.lload_n 0, 1) := by decide +kernel
theorem dJ9_min_f86c9_7 : decode cJ9_min_f86c9 7 = .ok (.goto 4, 3) := by decide +kernel
theorem dJ9_min_f86c9_10 : decode cJ9_min_f86c9 10 = .ok (.lload_n 2, 1) := by decide +kernel
theorem dJ9_min_f86c9_11 : decode cJ9_min_f86c9 11 = .ok (.lreturn, 1) := by decide +kernel
end
section
theorem wm_X1_isNumber_0 : Cond.constantLong RX1 9 (167961600000000) ∈ wsX1_isNumber := by decide +kernel
theorem kdX1_isNumber : yX1_isNumber.cls ≠ "java/lang/invoke/MethodHandle" ∧ yX1_isNumber.cls ≠ "java/lang/invoke/VarHandle" ∧ (parseMethodDescriptor yX1_isNumber.desc).map (fun d => d.parameters.length) = some 1 := by decide +kernel
abbrev rmX1_isNumber : Room := { frames := 0, cells := 0, slots := 0, locals := 0 }
def mX1_isNumber (p1 : Int64) : Option Int32 := (if p1 < (1 : Int64) then (some (0 : Int32)) else (if (167961600000000 : Int64) ≤ p1 then (some (0 : Int32)) else (some (1 : Int32))))
set_option maxHeartbeats 4000000 in
set_option maxRecDepth 100000 in
theorem bX1_isNumber {p : Program} {l : Launch} {e : Env} {s : State} {m : MethodId} {args : Array Value} {below : List Frame} {meth : Method} {c : Code} {Q : State → Prop} (C : kc p s m args meth c cX1_isNumber 2 RX1 yX1_isNumber.name wsX1_isNumber (some .boolean)) (p1 : Int64) (res : Int32) (hQ : ∀ (v : Int32) (pc : Nat) (ls : Array Slot), v = 0 ∨ v = 1 → some v = some res → decode cX1_isNumber pc = .ok (.ireturn, 1) → W p l e rmX1_isNumber s m args below meth c s.heap [] 0 0 Q (F0 m pc ls [.int v])) : mX1_isNumber p1 = some res → ∀ (ls : Array Slot), lv_has ls 2 [(0, .long p1)] → W p l e rmX1_isNumber s m args below meth c s.heap [] 0 0 Q (F0 m 0 ls []) := by
  intro h ls hl
  have C0 := C
  obtain ⟨hx, hb, hml, hown, hts, hr, hlk, hnm⟩ := C0
  rw [mX1_isNumber] at h
  refine lv_lload_n hx hb dX1_isNumber_0 rfl (lv_at hl 0 rfl) ?_
  refine lv_lconst (v := 1) hx hb dX1_isNumber_1 (by decide) ?_
  refine W.lcmp hx hb dX1_isNumber_2 ?_
  refine lv_if_lt (tgt := 18) hx hb dX1_isNumber_3 (by decide) (fun c1 => ?_) (fun c1 => ?_)
  · replace c1 := (lg_cmp_lt _ _).mp c1
    replace h := md_t c1 h
    refine lv_iconst (v := 0) hx hb dX1_isNumber_18 (by decide) ?_
    exact hQ (0 : Int32) 19 ls (by decide) h dX1_isNumber_19
  replace c1 := fun q9 => c1 ((lg_cmp_lt _ _).mpr q9)
  replace h := md_f c1 h
  refine lv_lload_n hx hb dX1_isNumber_6 rfl (lv_at hl 0 rfl) ?_
  refine lv_ldc2 hx hb hown (hts _ wm_X1_isNumber_0) dX1_isNumber_7 ?_
  refine W.lcmp hx hb dX1_isNumber_10 ?_
  refine lv_if_ge (tgt := 18) hx hb dX1_isNumber_11 (by decide) (fun c2 => ?_) (fun c2 => ?_)
  · replace c2 := (lg_cmp_ge _ _).mp c2
    replace h := md_t c2 h
    refine lv_iconst (v := 0) hx hb dX1_isNumber_18 (by decide) ?_
    exact hQ (0 : Int32) 19 ls (by decide) h dX1_isNumber_19
  replace c2 := fun q9 => c2 ((lg_cmp_ge _ _).mpr q9)
  replace h := md_f c2 h
  refine lv_iconst (v := 1) hx hb dX1_isNumber_14 (by decide) ?_
  refine lv_goto (tgt := 19) hx hb dX1_isNumber_15 (by decide) ?_
  exact hQ (1 : Int32) 19 ls (by decide) h dX1_isNumber_19
set_option maxHeartbeats 4000000 in
theorem ctX1_isNumber (l : Launch) {p1 : Int64} {res : Int32} (hm : mX1_isNumber p1 = some res) : Met l yX1_isNumber wsX1_isNumber rmX1_isNumber (va_Pc [.long p1] (fun _ => True)) (kR (.int res)) 0 0 (fun _ => False) :=
  km (by decide) rfl (Nat.le_of_ble_eq_true rfl) (fun p e s m below meth c ls C hB hl => bX1_isNumber C p1 res (fun v pc ls hz h hd => kr_z C hz h hd) hm ls hl)
theorem wm_X1_strip_0 : Cond.constantLong RX1 11 (60) ∈ wsX1_strip := by decide +kernel
theorem kdX1_strip : yX1_strip.cls ≠ "java/lang/invoke/MethodHandle" ∧ yX1_strip.cls ≠ "java/lang/invoke/VarHandle" ∧ (parseMethodDescriptor yX1_strip.desc).map (fun d => d.parameters.length) = some 1 := by decide +kernel
abbrev rmX1_strip : Room := { frames := 0, cells := 0, slots := 0, locals := 0 }
def mlX1_strip_5 (kE : Int64 → Option Int64) : Nat → Int64 → Int32 → Option Int64
  | 0, _, _ => none
  | n + 1, x2, x4 => (if (8 : Int32) ≤ x4 then (kE x2) else (if (x2 - x2 / (60 : Int64) * (60 : Int64)) = (0 : Int64) then (md_let (x2 / (60 : Int64)) (fun (x2_3 : Int64) => (md_let (x4 + (1 : Int32)) (fun (x4_4 : Int32) => (mlX1_strip_5 kE n x2_3 x4_4))))) else (kE x2)))
set_option maxHeartbeats 4000000 in
set_option maxRecDepth 100000 in
theorem lX1_strip_5 {p : Program} {l : Launch} {e : Env} {s : State} {m : MethodId} {args : Array Value} {below : List Frame} {meth : Method} {c : Code} {Q : State → Prop} (C : kc p s m args meth c cX1_strip 5 RX1 yX1_strip.name wsX1_strip (some .long)) (res : Int64) (hQ : ∀ (v : Int64) (pc : Nat) (ls : Array Slot), some v = some res → decode cX1_strip pc = .ok (.lreturn, 1) → W p l e rmX1_strip s m args below meth c s.heap [] 0 0 Q (F0 m pc ls [.long v])) (kE : Int64 → Option Int64) (hE : ∀ (y2 : Int64), kE y2 = some res → ∀ (ls : Array Slot), lv_has ls 5 [(2, .long y2)] → W p l e rmX1_strip s m args below meth c s.heap [] 0 0 Q (F0 m 34 ls [])) : ∀ (n : Nat), ∀ (x2 : Int64) (x4 : Int32), mlX1_strip_5 kE n x2 x4 = some res → ∀ (ls : Array Slot), lv_has ls 5 [(2, .long x2), (4, .int x4)] → W p l e rmX1_strip s m args below meth c s.heap [] 0 0 Q (F0 m 5 ls []) := by
  have C0 := C
  obtain ⟨hx, hb, hml, hown, hts, hr, hlk, hnm⟩ := C0
  intro n
  induction n with
  | zero => intro _ _ h; exact md_x h
  | succ n ih =>
    intro x2 x4 h ls hl
    rw [mlX1_strip_5] at h
    refine lv_iload hx hb dX1_strip_5 (lv_at hl 1 rfl) ?_
    refine lv_bipush (v := 8) hx hb dX1_strip_7 (by decide) ?_
    refine lv_icmp_ge (tgt := 34) hx hb dX1_strip_9 (by decide) (fun c1 => ?_) (fun c1 => ?_)
    · replace h := md_t c1 h
      exact hE x2 h ls (lv_sub hl [0] rfl)
    replace h := md_f c1 h
    refine lv_lload_n hx hb dX1_strip_12 rfl (lv_at hl 0 rfl) ?_
    refine lv_ldc2 hx hb hown (hts _ wm_X1_strip_0) dX1_strip_13 ?_
    refine lv_lrem hx hb dX1_strip_16 (by decide) ?_
    refine lv_lconst (v := 0) hx hb dX1_strip_17 (by decide) ?_
    refine W.lcmp hx hb dX1_strip_18 ?_
    refine lv_if_ne (tgt := 34) hx hb dX1_strip_19 (by decide) (fun c2 => ?_) (fun c2 => ?_)
    · replace c2 := fun q9 => c2 ((lg_cmp_eq _ _).mpr q9)
      replace h := md_f c2 h
      exact hE x2 h ls (lv_sub hl [0] rfl)
    replace c2 := (lg_cmp_eq _ _).mp c2
    replace h := md_t c2 h
    refine lv_lload_n hx hb dX1_strip_22 rfl (lv_at hl 0 rfl) ?_
    refine lv_ldc2 hx hb hown (hts _ wm_X1_strip_0) dX1_strip_23 ?_
    refine lv_ldiv hx hb dX1_strip_26 (by decide) ?_
    refine lv_topl (fun x2_3 ex2_3 => ?_)
    replace h := md_le ex2_3 h
    refine lv_lstore_n (lv' := [(2, .long x2_3), (4, .int x4)]) hx hb dX1_strip_27 rfl hl (by decide) rfl (fun ls hl => ?_)
    obtain ⟨x4_4, ex4_4⟩ : ∃ y : Int32, y = (x4 + (1 : Int32)) := ⟨_, rfl⟩
    replace h := md_le ex4_4 h
    refine lv_iinc (v := x4_4) (lv' := [(4, .int x4_4), (2, .long x2_3)]) hx hb dX1_strip_28 hl (k := 1) rfl (by rw [ex4_4]; rfl) (by decide) rfl (fun ls hl => ?_)
    refine lv_goto (tgt := 5) hx hb dX1_strip_31 (by decide) ?_
    exact ih x2_3 x4_4 h ls (lv_sub hl [1, 0] rfl)
def mX1_strip (p1 : Int64) : Option Int64 := (mlX1_strip_5 (fun (y2_34 : Int64) => (some y2_34)) kN p1 (0 : Int32))
set_option maxHeartbeats 4000000 in
set_option maxRecDepth 100000 in
theorem bX1_strip {p : Program} {l : Launch} {e : Env} {s : State} {m : MethodId} {args : Array Value} {below : List Frame} {meth : Method} {c : Code} {Q : State → Prop} (C : kc p s m args meth c cX1_strip 5 RX1 yX1_strip.name wsX1_strip (some .long)) (p1 : Int64) (res : Int64) (hQ : ∀ (v : Int64) (pc : Nat) (ls : Array Slot), some v = some res → decode cX1_strip pc = .ok (.lreturn, 1) → W p l e rmX1_strip s m args below meth c s.heap [] 0 0 Q (F0 m pc ls [.long v])) : mX1_strip p1 = some res → ∀ (ls : Array Slot), lv_has ls 5 [(0, .long p1)] → W p l e rmX1_strip s m args below meth c s.heap [] 0 0 Q (F0 m 0 ls []) := by
  intro h ls hl
  have C0 := C
  obtain ⟨hx, hb, hml, hown, hts, hr, hlk, hnm⟩ := C0
  rw [mX1_strip] at h
  refine lv_lload_n hx hb dX1_strip_0 rfl (lv_at hl 0 rfl) ?_
  refine lv_lstore_n (lv' := [(2, .long p1), (0, .long p1)]) hx hb dX1_strip_1 rfl hl (by decide) rfl (fun ls hl => ?_)
  refine lv_iconst (v := 0) hx hb dX1_strip_2 (by decide) ?_
  refine lv_istore (lv' := [(4, .int (0 : Int32)), (2, .long p1), (0, .long p1)]) hx hb dX1_strip_3 hl (by decide) rfl (fun ls hl => ?_)
  refine lX1_strip_5 C res hQ _ (fun y2_34 h ls hl => ?_) kN p1 (0 : Int32) h ls (lv_sub hl [1, 0] rfl)
  refine lv_lload_n hx hb dX1_strip_34 rfl (lv_at hl 0 rfl) ?_
  exact hQ y2_34 35 ls h dX1_strip_35
set_option maxHeartbeats 4000000 in
theorem ctX1_strip (l : Launch) {p1 : Int64} {res : Int64} (hm : mX1_strip p1 = some res) : Met l yX1_strip wsX1_strip rmX1_strip (va_Pc [.long p1] (fun _ => True)) (kR (.long res)) 0 0 (fun _ => False) :=
  km (by decide) rfl (Nat.le_of_ble_eq_true rfl) (fun p e s m below meth c ls C hB hl => bX1_strip C p1 res (fun v pc ls h hd => kr_l C h hd) hm ls hl)
theorem wm_X1_length_0 : Cond.constantLong RX1 11 (60) ∈ wsX1_length := by decide +kernel
theorem kdX1_length : yX1_length.cls ≠ "java/lang/invoke/MethodHandle" ∧ yX1_length.cls ≠ "java/lang/invoke/VarHandle" ∧ (parseMethodDescriptor yX1_length.desc).map (fun d => d.parameters.length) = some 1 := by decide +kernel
abbrev rmX1_length : Room := { frames := 0, cells := 0, slots := 0, locals := 0 }
def mlX1_length_7 (kE : Int32 → Option Int32) : Nat → Int32 → Int64 → Int32 → Option Int32
  | 0, _, _, _ => none
  | n + 1, x2, x3, x5 => (if (8 : Int32) ≤ x5 then (kE x2) else (if x3 ≤ (0 : Int64) then (kE x2) else (md_let (x3 / (60 : Int64)) (fun (x3_3 : Int64) => (md_let (x2 + (1 : Int32)) (fun (x2_4 : Int32) => (md_let (x5 + (1 : Int32)) (fun (x5_5 : Int32) => (mlX1_length_7 kE n x2_4 x3_3 x5_5)))))))))
set_option maxHeartbeats 4000000 in
set_option maxRecDepth 100000 in
theorem lX1_length_7 {p : Program} {l : Launch} {e : Env} {s : State} {m : MethodId} {args : Array Value} {below : List Frame} {meth : Method} {c : Code} {Q : State → Prop} (C : kc p s m args meth c cX1_length 6 RX1 yX1_length.name wsX1_length (some .int)) (res : Int32) (hQ : ∀ (v : Int32) (pc : Nat) (ls : Array Slot), some v = some res → decode cX1_length pc = .ok (.ireturn, 1) → W p l e rmX1_length s m args below meth c s.heap [] 0 0 Q (F0 m pc ls [.int v])) (kE : Int32 → Option Int32) (hE : ∀ (y2 : Int32), kE y2 = some res → ∀ (ls : Array Slot), lv_has ls 6 [(2, .int y2)] → W p l e rmX1_length s m args below meth c s.heap [] 0 0 Q (F0 m 35 ls [])) : ∀ (n : Nat), ∀ (x2 : Int32) (x3 : Int64) (x5 : Int32), mlX1_length_7 kE n x2 x3 x5 = some res → ∀ (ls : Array Slot), lv_has ls 6 [(2, .int x2), (3, .long x3), (5, .int x5)] → W p l e rmX1_length s m args below meth c s.heap [] 0 0 Q (F0 m 7 ls []) := by
  have C0 := C
  obtain ⟨hx, hb, hml, hown, hts, hr, hlk, hnm⟩ := C0
  intro n
  induction n with
  | zero => intro _ _ _ h; exact md_x h
  | succ n ih =>
    intro x2 x3 x5 h ls hl
    rw [mlX1_length_7] at h
    refine lv_iload hx hb dX1_length_7 (lv_at hl 2 rfl) ?_
    refine lv_bipush (v := 8) hx hb dX1_length_9 (by decide) ?_
    refine lv_icmp_ge (tgt := 35) hx hb dX1_length_11 (by decide) (fun c1 => ?_) (fun c1 => ?_)
    · replace h := md_t c1 h
      exact hE x2 h ls (lv_sub hl [0] rfl)
    replace h := md_f c1 h
    refine lv_lload_n hx hb dX1_length_14 rfl (lv_at hl 1 rfl) ?_
    refine lv_lconst (v := 0) hx hb dX1_length_15 (by decide) ?_
    refine W.lcmp hx hb dX1_length_16 ?_
    refine lv_if_le (tgt := 35) hx hb dX1_length_17 (by decide) (fun c2 => ?_) (fun c2 => ?_)
    · replace c2 := (lg_cmp_le _ _).mp c2
      replace h := md_t c2 h
      exact hE x2 h ls (lv_sub hl [0] rfl)
    replace c2 := fun q9 => c2 ((lg_cmp_le _ _).mpr q9)
    replace h := md_f c2 h
    refine lv_lload_n hx hb dX1_length_20 rfl (lv_at hl 1 rfl) ?_
    refine lv_ldc2 hx hb hown (hts _ wm_X1_length_0) dX1_length_21 ?_
    refine lv_ldiv hx hb dX1_length_24 (by decide) ?_
    refine lv_topl (fun x3_3 ex3_3 => ?_)
    replace h := md_le ex3_3 h
    refine lv_lstore_n (lv' := [(3, .long x3_3), (2, .int x2), (5, .int x5)]) hx hb dX1_length_25 rfl hl (by decide) rfl (fun ls hl => ?_)
    obtain ⟨x2_4, ex2_4⟩ : ∃ y : Int32, y = (x2 + (1 : Int32)) := ⟨_, rfl⟩
    replace h := md_le ex2_4 h
    refine lv_iinc (v := x2_4) (lv' := [(2, .int x2_4), (3, .long x3_3), (5, .int x5)]) hx hb dX1_length_26 hl (k := 1) rfl (by rw [ex2_4]; rfl) (by decide) rfl (fun ls hl => ?_)
    obtain ⟨x5_5, ex5_5⟩ : ∃ y : Int32, y = (x5 + (1 : Int32)) := ⟨_, rfl⟩
    replace h := md_le ex5_5 h
    refine lv_iinc (v := x5_5) (lv' := [(5, .int x5_5), (2, .int x2_4), (3, .long x3_3)]) hx hb dX1_length_29 hl (k := 2) rfl (by rw [ex5_5]; rfl) (by decide) rfl (fun ls hl => ?_)
    refine lv_goto (tgt := 7) hx hb dX1_length_32 (by decide) ?_
    exact ih x2_4 x3_3 x5_5 h ls (lv_sub hl [1, 2, 0] rfl)
def mX1_length (p1 : Int64) : Option Int32 := (mlX1_length_7 (fun (y2_35 : Int32) => (some y2_35)) kN (0 : Int32) p1 (0 : Int32))
set_option maxHeartbeats 4000000 in
set_option maxRecDepth 100000 in
theorem bX1_length {p : Program} {l : Launch} {e : Env} {s : State} {m : MethodId} {args : Array Value} {below : List Frame} {meth : Method} {c : Code} {Q : State → Prop} (C : kc p s m args meth c cX1_length 6 RX1 yX1_length.name wsX1_length (some .int)) (p1 : Int64) (res : Int32) (hQ : ∀ (v : Int32) (pc : Nat) (ls : Array Slot), some v = some res → decode cX1_length pc = .ok (.ireturn, 1) → W p l e rmX1_length s m args below meth c s.heap [] 0 0 Q (F0 m pc ls [.int v])) : mX1_length p1 = some res → ∀ (ls : Array Slot), lv_has ls 6 [(0, .long p1)] → W p l e rmX1_length s m args below meth c s.heap [] 0 0 Q (F0 m 0 ls []) := by
  intro h ls hl
  have C0 := C
  obtain ⟨hx, hb, hml, hown, hts, hr, hlk, hnm⟩ := C0
  rw [mX1_length] at h
  refine lv_iconst (v := 0) hx hb dX1_length_0 (by decide) ?_
  refine lv_istore_n (lv' := [(2, .int (0 : Int32)), (0, .long p1)]) hx hb dX1_length_1 rfl hl (by decide) rfl (fun ls hl => ?_)
  refine lv_lload_n hx hb dX1_length_2 rfl (lv_at hl 1 rfl) ?_
  refine lv_lstore_n (lv' := [(3, .long p1), (2, .int (0 : Int32)), (0, .long p1)]) hx hb dX1_length_3 rfl hl (by decide) rfl (fun ls hl => ?_)
  refine lv_iconst (v := 0) hx hb dX1_length_4 (by decide) ?_
  refine lv_istore (lv' := [(5, .int (0 : Int32)), (3, .long p1), (2, .int (0 : Int32)), (0, .long p1)]) hx hb dX1_length_5 hl (by decide) rfl (fun ls hl => ?_)
  refine lX1_length_7 C res hQ _ (fun y2_35 h ls hl => ?_) kN (0 : Int32) p1 (0 : Int32) h ls (lv_sub hl [2, 1, 0] rfl)
  refine lv_iload_n hx hb dX1_length_35 rfl (lv_at hl 0 rfl) ?_
  exact hQ y2_35 36 ls h dX1_length_36
set_option maxHeartbeats 4000000 in
theorem ctX1_length (l : Launch) {p1 : Int64} {res : Int32} (hm : mX1_length p1 = some res) : Met l yX1_length wsX1_length rmX1_length (va_Pc [.long p1] (fun _ => True)) (kR (.int res)) 0 0 (fun _ => False) :=
  km (by decide) rfl (Nat.le_of_ble_eq_true rfl) (fun p e s m below meth c ls C hB hl => bX1_length C p1 res (fun v pc ls h hd => kr_i C h hd) hm ls hl)
theorem wm_X1_digitAhead_0 : Cond.constantLong RX1 11 (60) ∈ wsX1_digitAhead := by decide +kernel
theorem kdX1_digitAhead : yX1_digitAhead.cls ≠ "java/lang/invoke/MethodHandle" ∧ yX1_digitAhead.cls ≠ "java/lang/invoke/VarHandle" ∧ (parseMethodDescriptor yX1_digitAhead.desc).map (fun d => d.parameters.length) = some 2 := by decide +kernel
abbrev rmX1_digitAhead : Room := { frames := 0, cells := 0, slots := 0, locals := 0 }
def mlX1_digitAhead_5 (x2 : Int32) (kE : Int64 → Option Int32) : Nat → Int64 → Int32 → Option Int32
  | 0, _, _ => none
  | n + 1, x3, x5 => (if x2 ≤ x5 then (kE x3) else (if (8 : Int32) ≤ x5 then (kE x3) else (md_let (x3 / (60 : Int64)) (fun (x3_3 : Int64) => (md_let (x5 + (1 : Int32)) (fun (x5_4 : Int32) => (mlX1_digitAhead_5 x2 kE n x3_3 x5_4)))))))
set_option maxHeartbeats 4000000 in
set_option maxRecDepth 100000 in
theorem lX1_digitAhead_5 {p : Program} {l : Launch} {e : Env} {s : State} {m : MethodId} {args : Array Value} {below : List Frame} {meth : Method} {c : Code} {Q : State → Prop} (C : kc p s m args meth c cX1_digitAhead 6 RX1 yX1_digitAhead.name wsX1_digitAhead (some .int)) (x2 : Int32) (res : Int32) (hQ : ∀ (v : Int32) (pc : Nat) (ls : Array Slot), some v = some res → decode cX1_digitAhead pc = .ok (.ireturn, 1) → W p l e rmX1_digitAhead s m args below meth c s.heap [] 0 0 Q (F0 m pc ls [.int v])) (kE : Int64 → Option Int32) (hE : ∀ (y3 : Int64), kE y3 = some res → ∀ (ls : Array Slot), lv_has ls 6 [(3, .long y3)] → W p l e rmX1_digitAhead s m args below meth c s.heap [] 0 0 Q (F0 m 30 ls [])) : ∀ (n : Nat), ∀ (x3 : Int64) (x5 : Int32), mlX1_digitAhead_5 x2 kE n x3 x5 = some res → ∀ (ls : Array Slot), lv_has ls 6 [(2, .int x2), (3, .long x3), (5, .int x5)] → W p l e rmX1_digitAhead s m args below meth c s.heap [] 0 0 Q (F0 m 5 ls []) := by
  have C0 := C
  obtain ⟨hx, hb, hml, hown, hts, hr, hlk, hnm⟩ := C0
  intro n
  induction n with
  | zero => intro _ _ h; exact md_x h
  | succ n ih =>
    intro x3 x5 h ls hl
    rw [mlX1_digitAhead_5] at h
    refine lv_iload hx hb dX1_digitAhead_5 (lv_at hl 2 rfl) ?_
    refine lv_iload_n hx hb dX1_digitAhead_7 rfl (lv_at hl 0 rfl) ?_
    refine lv_icmp_ge (tgt := 30) hx hb dX1_digitAhead_8 (by decide) (fun c1 => ?_) (fun c1 => ?_)
    · replace h := md_t c1 h
      exact hE x3 h ls (lv_sub hl [1] rfl)
    replace h := md_f c1 h
    refine lv_iload hx hb dX1_digitAhead_11 (lv_at hl 2 rfl) ?_
    refine lv_bipush (v := 8) hx hb dX1_digitAhead_13 (by decide) ?_
    refine lv_icmp_ge (tgt := 30) hx hb dX1_digitAhead_15 (by decide) (fun c2 => ?_) (fun c2 => ?_)
    · replace h := md_t c2 h
      exact hE x3 h ls (lv_sub hl [1] rfl)
    replace h := md_f c2 h
    refine lv_lload_n hx hb dX1_digitAhead_18 rfl (lv_at hl 1 rfl) ?_
    refine lv_ldc2 hx hb hown (hts _ wm_X1_digitAhead_0) dX1_digitAhead_19 ?_
    refine lv_ldiv hx hb dX1_digitAhead_22 (by decide) ?_
    refine lv_topl (fun x3_3 ex3_3 => ?_)
    replace h := md_le ex3_3 h
    refine lv_lstore_n (lv' := [(3, .long x3_3), (2, .int x2), (5, .int x5)]) hx hb dX1_digitAhead_23 rfl hl (by decide) rfl (fun ls hl => ?_)
    obtain ⟨x5_4, ex5_4⟩ : ∃ y : Int32, y = (x5 + (1 : Int32)) := ⟨_, rfl⟩
    replace h := md_le ex5_4 h
    refine lv_iinc (v := x5_4) (lv' := [(5, .int x5_4), (3, .long x3_3), (2, .int x2)]) hx hb dX1_digitAhead_24 hl (k := 2) rfl (by rw [ex5_4]; rfl) (by decide) rfl (fun ls hl => ?_)
    refine lv_goto (tgt := 5) hx hb dX1_digitAhead_27 (by decide) ?_
    exact ih x3_3 x5_4 h ls (lv_sub hl [2, 1, 0] rfl)
def mX1_digitAhead (p1 : Int64) (p2 : Int32) : Option Int32 := (mlX1_digitAhead_5 p2 (fun (y3_30 : Int64) => (some (Int64.toInt32 (y3_30 - y3_30 / (60 : Int64) * (60 : Int64))))) kN p1 (0 : Int32))
set_option maxHeartbeats 4000000 in
set_option maxRecDepth 100000 in
theorem bX1_digitAhead {p : Program} {l : Launch} {e : Env} {s : State} {m : MethodId} {args : Array Value} {below : List Frame} {meth : Method} {c : Code} {Q : State → Prop} (C : kc p s m args meth c cX1_digitAhead 6 RX1 yX1_digitAhead.name wsX1_digitAhead (some .int)) (p1 : Int64) (p2 : Int32) (res : Int32) (hQ : ∀ (v : Int32) (pc : Nat) (ls : Array Slot), some v = some res → decode cX1_digitAhead pc = .ok (.ireturn, 1) → W p l e rmX1_digitAhead s m args below meth c s.heap [] 0 0 Q (F0 m pc ls [.int v])) : mX1_digitAhead p1 p2 = some res → ∀ (ls : Array Slot), lv_has ls 6 [(0, .long p1), (2, .int p2)] → W p l e rmX1_digitAhead s m args below meth c s.heap [] 0 0 Q (F0 m 0 ls []) := by
  intro h ls hl
  have C0 := C
  obtain ⟨hx, hb, hml, hown, hts, hr, hlk, hnm⟩ := C0
  rw [mX1_digitAhead] at h
  refine lv_lload_n hx hb dX1_digitAhead_0 rfl (lv_at hl 0 rfl) ?_
  refine lv_lstore_n (lv' := [(3, .long p1), (0, .long p1), (2, .int p2)]) hx hb dX1_digitAhead_1 rfl hl (by decide) rfl (fun ls hl => ?_)
  refine lv_iconst (v := 0) hx hb dX1_digitAhead_2 (by decide) ?_
  refine lv_istore (lv' := [(5, .int (0 : Int32)), (3, .long p1), (0, .long p1), (2, .int p2)]) hx hb dX1_digitAhead_3 hl (by decide) rfl (fun ls hl => ?_)
  refine lX1_digitAhead_5 C p2 res hQ _ (fun y3_30 h ls hl => ?_) kN p1 (0 : Int32) h ls (lv_sub hl [3, 1, 0] rfl)
  refine lv_lload_n hx hb dX1_digitAhead_30 rfl (lv_at hl 0 rfl) ?_
  refine lv_ldc2 hx hb hown (hts _ wm_X1_digitAhead_0) dX1_digitAhead_31 ?_
  refine lv_lrem hx hb dX1_digitAhead_34 (by decide) ?_
  refine lv_l2i hx hb dX1_digitAhead_35 rfl ?_
  exact hQ (Int64.toInt32 (y3_30 - y3_30 / (60 : Int64) * (60 : Int64))) 36 ls h dX1_digitAhead_36
set_option maxHeartbeats 4000000 in
theorem ctX1_digitAhead (l : Launch) {p1 : Int64} {p2 : Int32} {res : Int32} (hm : mX1_digitAhead p1 p2 = some res) : Met l yX1_digitAhead wsX1_digitAhead rmX1_digitAhead (va_Pc [.long p1, .int p2] (fun _ => True)) (kR (.int res)) 0 0 (fun _ => False) :=
  km (by decide) rfl (Nat.le_of_ble_eq_true rfl) (fun p e s m below meth c ls C hB hl => bX1_digitAhead C p1 p2 res (fun v pc ls h hd => kr_i C h hd) hm ls hl)
theorem wm_X1_sightLength_0 : Cond.constantLong RX1 11 (60) ∈ wsX1_sightLength := by decide +kernel
theorem kdX1_sightLength : yX1_sightLength.cls ≠ "java/lang/invoke/MethodHandle" ∧ yX1_sightLength.cls ≠ "java/lang/invoke/VarHandle" ∧ (parseMethodDescriptor yX1_sightLength.desc).map (fun d => d.parameters.length) = some 1 := by decide +kernel
abbrev rmX1_sightLength : Room := { frames := 0, cells := 0, slots := 0, locals := 0 }
def mlX1_sightLength_7 (kE : Int32 → Option Int32) : Nat → Int32 → Int64 → Int32 → Option Int32
  | 0, _, _, _ => none
  | n + 1, x2, x3, x5 => (if (8 : Int32) ≤ x5 then (kE x2) else (if x3 ≤ (0 : Int64) then (kE x2) else (md_jn (fun (x2_33 : Int32) => (md_let (x3 / (60 : Int64)) (fun (x3_3 : Int64) => (md_let (x5 + (1 : Int32)) (fun (x5_4 : Int32) => (mlX1_sightLength_7 kE n x2_33 x3_3 x5_4)))))) (fun kJ33 => (if (x3 - x3 / (60 : Int64) * (60 : Int64)) = (0 : Int64) then (kJ33 x2) else (md_let (x2 + (1 : Int32)) (fun (x2_6 : Int32) => (kJ33 x2_6))))))))
set_option maxHeartbeats 4000000 in
set_option maxRecDepth 100000 in
theorem lX1_sightLength_7 {p : Program} {l : Launch} {e : Env} {s : State} {m : MethodId} {args : Array Value} {below : List Frame} {meth : Method} {c : Code} {Q : State → Prop} (C : kc p s m args meth c cX1_sightLength 6 RX1 yX1_sightLength.name wsX1_sightLength (some .int)) (res : Int32) (hQ : ∀ (v : Int32) (pc : Nat) (ls : Array Slot), some v = some res → decode cX1_sightLength pc = .ok (.ireturn, 1) → W p l e rmX1_sightLength s m args below meth c s.heap [] 0 0 Q (F0 m pc ls [.int v])) (kE : Int32 → Option Int32) (hE : ∀ (y2 : Int32), kE y2 = some res → ∀ (ls : Array Slot), lv_has ls 6 [(2, .int y2)] → W p l e rmX1_sightLength s m args below meth c s.heap [] 0 0 Q (F0 m 45 ls [])) : ∀ (n : Nat), ∀ (x2 : Int32) (x3 : Int64) (x5 : Int32), mlX1_sightLength_7 kE n x2 x3 x5 = some res → ∀ (ls : Array Slot), lv_has ls 6 [(2, .int x2), (3, .long x3), (5, .int x5)] → W p l e rmX1_sightLength s m args below meth c s.heap [] 0 0 Q (F0 m 7 ls []) := by
  have C0 := C
  obtain ⟨hx, hb, hml, hown, hts, hr, hlk, hnm⟩ := C0
  intro n
  induction n with
  | zero => intro _ _ _ h; exact md_x h
  | succ n ih =>
    intro x2 x3 x5 h ls hl
    rw [mlX1_sightLength_7] at h
    refine lv_iload hx hb dX1_sightLength_7 (lv_at hl 2 rfl) ?_
    refine lv_bipush (v := 8) hx hb dX1_sightLength_9 (by decide) ?_
    refine lv_icmp_ge (tgt := 45) hx hb dX1_sightLength_11 (by decide) (fun c1 => ?_) (fun c1 => ?_)
    · replace h := md_t c1 h
      exact hE x2 h ls (lv_sub hl [0] rfl)
    replace h := md_f c1 h
    refine lv_lload_n hx hb dX1_sightLength_14 rfl (lv_at hl 1 rfl) ?_
    refine lv_lconst (v := 0) hx hb dX1_sightLength_15 (by decide) ?_
    refine W.lcmp hx hb dX1_sightLength_16 ?_
    refine lv_if_le (tgt := 45) hx hb dX1_sightLength_17 (by decide) (fun c2 => ?_) (fun c2 => ?_)
    · replace c2 := (lg_cmp_le _ _).mp c2
      replace h := md_t c2 h
      exact hE x2 h ls (lv_sub hl [0] rfl)
    replace c2 := fun q9 => c2 ((lg_cmp_le _ _).mpr q9)
    replace h := md_f c2 h
    refine lv_lload_n hx hb dX1_sightLength_20 rfl (lv_at hl 1 rfl) ?_
    refine lv_ldc2 hx hb hown (hts _ wm_X1_sightLength_0) dX1_sightLength_21 ?_
    refine lv_lrem hx hb dX1_sightLength_24 (by decide) ?_
    refine lv_lconst (v := 0) hx hb dX1_sightLength_25 (by decide) ?_
    refine W.lcmp hx hb dX1_sightLength_26 ?_
    obtain ⟨kJ33, ekJ33, h⟩ := md_jo h
    have KJ33 : ∀ (x2_33 : Int32), kJ33 x2_33 = some res → ∀ (ls : Array Slot), lv_has ls 6 [(2, .int x2_33), (3, .long x3), (5, .int x5)] → W p l e rmX1_sightLength s m args below meth c s.heap [] 0 0 Q (F0 m 33 ls []) := by
      intro x2_33 h ls hl
      rw [ekJ33] at h
      refine lv_lload_n hx hb dX1_sightLength_33 rfl (lv_at hl 1 rfl) ?_
      refine lv_ldc2 hx hb hown (hts _ wm_X1_sightLength_0) dX1_sightLength_34 ?_
      refine lv_ldiv hx hb dX1_sightLength_37 (by decide) ?_
      refine lv_topl (fun x3_3 ex3_3 => ?_)
      replace h := md_le ex3_3 h
      refine lv_lstore_n (lv' := [(3, .long x3_3), (2, .int x2_33), (5, .int x5)]) hx hb dX1_sightLength_38 rfl hl (by decide) rfl (fun ls hl => ?_)
      obtain ⟨x5_4, ex5_4⟩ : ∃ y : Int32, y = (x5 + (1 : Int32)) := ⟨_, rfl⟩
      replace h := md_le ex5_4 h
      refine lv_iinc (v := x5_4) (lv' := [(5, .int x5_4), (3, .long x3_3), (2, .int x2_33)]) hx hb dX1_sightLength_39 hl (k := 2) rfl (by rw [ex5_4]; rfl) (by decide) rfl (fun ls hl => ?_)
      refine lv_goto (tgt := 7) hx hb dX1_sightLength_42 (by decide) ?_
      exact ih x2_33 x3_3 x5_4 h ls (lv_sub hl [2, 1, 0] rfl)
    clear ekJ33
    refine lv_if_eq (tgt := 33) hx hb dX1_sightLength_27 (by decide) (fun c5 => ?_) (fun c5 => ?_)
    · replace c5 := (lg_cmp_eq _ _).mp c5
      replace h := md_t c5 h
      exact KJ33 x2 h ls (lv_sub hl [0, 1, 2] rfl)
    replace c5 := fun q9 => c5 ((lg_cmp_eq _ _).mpr q9)
    replace h := md_f c5 h
    obtain ⟨x2_6, ex2_6⟩ : ∃ y : Int32, y = (x2 + (1 : Int32)) := ⟨_, rfl⟩
    replace h := md_le ex2_6 h
    refine lv_iinc (v := x2_6) (lv' := [(2, .int x2_6), (3, .long x3), (5, .int x5)]) hx hb dX1_sightLength_30 hl (k := 0) rfl (by rw [ex2_6]; rfl) (by decide) rfl (fun ls hl => ?_)
    exact KJ33 x2_6 h ls (lv_sub hl [0, 1, 2] rfl)
def mX1_sightLength (p1 : Int64) : Option Int32 := (mlX1_sightLength_7 (fun (y2_45 : Int32) => (some y2_45)) kN (0 : Int32) p1 (0 : Int32))
set_option maxHeartbeats 4000000 in
set_option maxRecDepth 100000 in
theorem bX1_sightLength {p : Program} {l : Launch} {e : Env} {s : State} {m : MethodId} {args : Array Value} {below : List Frame} {meth : Method} {c : Code} {Q : State → Prop} (C : kc p s m args meth c cX1_sightLength 6 RX1 yX1_sightLength.name wsX1_sightLength (some .int)) (p1 : Int64) (res : Int32) (hQ : ∀ (v : Int32) (pc : Nat) (ls : Array Slot), some v = some res → decode cX1_sightLength pc = .ok (.ireturn, 1) → W p l e rmX1_sightLength s m args below meth c s.heap [] 0 0 Q (F0 m pc ls [.int v])) : mX1_sightLength p1 = some res → ∀ (ls : Array Slot), lv_has ls 6 [(0, .long p1)] → W p l e rmX1_sightLength s m args below meth c s.heap [] 0 0 Q (F0 m 0 ls []) := by
  intro h ls hl
  have C0 := C
  obtain ⟨hx, hb, hml, hown, hts, hr, hlk, hnm⟩ := C0
  rw [mX1_sightLength] at h
  refine lv_iconst (v := 0) hx hb dX1_sightLength_0 (by decide) ?_
  refine lv_istore_n (lv' := [(2, .int (0 : Int32)), (0, .long p1)]) hx hb dX1_sightLength_1 rfl hl (by decide) rfl (fun ls hl => ?_)
  refine lv_lload_n hx hb dX1_sightLength_2 rfl (lv_at hl 1 rfl) ?_
  refine lv_lstore_n (lv' := [(3, .long p1), (2, .int (0 : Int32)), (0, .long p1)]) hx hb dX1_sightLength_3 rfl hl (by decide) rfl (fun ls hl => ?_)
  refine lv_iconst (v := 0) hx hb dX1_sightLength_4 (by decide) ?_
  refine lv_istore (lv' := [(5, .int (0 : Int32)), (3, .long p1), (2, .int (0 : Int32)), (0, .long p1)]) hx hb dX1_sightLength_5 hl (by decide) rfl (fun ls hl => ?_)
  refine lX1_sightLength_7 C res hQ _ (fun y2_45 h ls hl => ?_) kN (0 : Int32) p1 (0 : Int32) h ls (lv_sub hl [2, 1, 0] rfl)
  refine lv_iload_n hx hb dX1_sightLength_45 rfl (lv_at hl 0 rfl) ?_
  exact hQ y2_45 46 ls h dX1_sightLength_46
set_option maxHeartbeats 4000000 in
theorem ctX1_sightLength (l : Launch) {p1 : Int64} {res : Int32} (hm : mX1_sightLength p1 = some res) : Met l yX1_sightLength wsX1_sightLength rmX1_sightLength (va_Pc [.long p1] (fun _ => True)) (kR (.int res)) 0 0 (fun _ => False) :=
  km (by decide) rfl (Nat.le_of_ble_eq_true rfl) (fun p e s m below meth c ls C hB hl => bX1_sightLength C p1 res (fun v pc ls h hd => kr_i C h hd) hm ls hl)
theorem wm_X1_spread_0 : Cond.constantLong RX1 11 (60) ∈ wsX1_spread := by decide +kernel
theorem kdX1_spread : yX1_spread.cls ≠ "java/lang/invoke/MethodHandle" ∧ yX1_spread.cls ≠ "java/lang/invoke/VarHandle" ∧ (parseMethodDescriptor yX1_spread.desc).map (fun d => d.parameters.length) = some 2 := by decide +kernel
abbrev rmX1_spread : Room := { frames := 1, cells := 0, slots := 0, locals := 24 }
def mlX1_spread_14 (x2 : Int32) (kE : Int64 → Option Int64) : Nat → Int64 → Int64 → Int64 → Int32 → Option Int64
  | 0, _, _, _, _ => none
  | n + 1, x3, x5, x7, x9 => (if (8 : Int32) ≤ x9 then (kE x7) else (md_jn (fun (x3_53 : Int64) (x7_53 : Int64) => (md_let (x5 * (60 : Int64)) (fun (x5_3 : Int64) => (md_let (x9 + (1 : Int32)) (fun (x9_4 : Int32) => (mlX1_spread_14 x2 kE n x3_53 x5_3 x7_53 x9_4)))))) (fun kJ53 => (if ((x2 >>> (x9 &&& 31)) &&& (1 : Int32)) = (1 : Int32) then (md_let (x7 + ((x3 - x3 / (60 : Int64) * (60 : Int64)) * x5)) (fun (x7_6 : Int64) => (Option.bind (mX1_strip (x3 / (60 : Int64))) (fun u7 => (kJ53 u7 x7_6))))) else (kJ53 x3 x7)))))
set_option maxHeartbeats 4000000 in
set_option maxRecDepth 100000 in
theorem lX1_spread_14 {p : Program} {l : Launch} {e : Env} {s : State} {m : MethodId} {args : Array Value} {below : List Frame} {meth : Method} {c : Code} {Q : State → Prop} (C : kc p s m args meth c cX1_spread 10 RX1 yX1_spread.name wsX1_spread (some .long)) (x2 : Int32) (res : Int64) (hQ : ∀ (v : Int64) (pc : Nat) (ls : Array Slot), some v = some res → decode cX1_spread pc = .ok (.lreturn, 1) → W p l e rmX1_spread s m args below meth c s.heap [] 0 0 Q (F0 m pc ls [.long v])) (kE : Int64 → Option Int64) (hE : ∀ (y7 : Int64), kE y7 = some res → ∀ (ls : Array Slot), lv_has ls 10 [(7, .long y7)] → W p l e rmX1_spread s m args below meth c s.heap [] 0 0 Q (F0 m 67 ls [])) : ∀ (n : Nat), ∀ (x3 : Int64) (x5 : Int64) (x7 : Int64) (x9 : Int32), mlX1_spread_14 x2 kE n x3 x5 x7 x9 = some res → ∀ (ls : Array Slot), lv_has ls 10 [(2, .int x2), (3, .long x3), (5, .long x5), (7, .long x7), (9, .int x9)] → W p l e rmX1_spread s m args below meth c s.heap [] 0 0 Q (F0 m 14 ls []) := by
  have C0 := C
  obtain ⟨hx, hb, hml, hown, hts, hr, hlk, hnm⟩ := C0
  intro n
  induction n with
  | zero => intro _ _ _ _ h; exact md_x h
  | succ n ih =>
    intro x3 x5 x7 x9 h ls hl
    rw [mlX1_spread_14] at h
    refine lv_iload hx hb dX1_spread_14 (lv_at hl 4 rfl) ?_
    refine lv_bipush (v := 8) hx hb dX1_spread_16 (by decide) ?_
    refine lv_icmp_ge (tgt := 67) hx hb dX1_spread_18 (by decide) (fun c2 => ?_) (fun c2 => ?_)
    · replace h := md_t c2 h
      exact hE x7 h ls (lv_sub hl [3] rfl)
    replace h := md_f c2 h
    refine lv_iload_n hx hb dX1_spread_21 rfl (lv_at hl 0 rfl) ?_
    refine lv_iload hx hb dX1_spread_22 (lv_at hl 4 rfl) ?_
    refine lv_ishr hx hb dX1_spread_24 ?_
    refine lv_iconst (v := 1) hx hb dX1_spread_25 (by decide) ?_
    refine lv_iand hx hb dX1_spread_26 ?_
    refine lv_iconst (v := 1) hx hb dX1_spread_27 (by decide) ?_
    obtain ⟨kJ53, ekJ53, h⟩ := md_jo h
    have KJ53 : ∀ (x3_53 : Int64) (x7_53 : Int64), kJ53 x3_53 x7_53 = some res → ∀ (ls : Array Slot), lv_has ls 10 [(2, .int x2), (3, .long x3_53), (5, .long x5), (7, .long x7_53), (9, .int x9)] → W p l e rmX1_spread s m args below meth c s.heap [] 0 0 Q (F0 m 53 ls []) := by
      intro x3_53 x7_53 h ls hl
      rw [ekJ53] at h
      refine lv_lload hx hb dX1_spread_53 (lv_at hl 2 rfl) ?_
      refine lv_ldc2 hx hb hown (hts _ wm_X1_spread_0) dX1_spread_55 ?_
      refine lv_lmul hx hb dX1_spread_58 ?_
      refine lv_topl (fun x5_3 ex5_3 => ?_)
      replace h := md_le ex5_3 h
      refine lv_lstore (lv' := [(5, .long x5_3), (2, .int x2), (3, .long x3_53), (7, .long x7_53), (9, .int x9)]) hx hb dX1_spread_59 hl (by decide) rfl (fun ls hl => ?_)
      obtain ⟨x9_4, ex9_4⟩ : ∃ y : Int32, y = (x9 + (1 : Int32)) := ⟨_, rfl⟩
      replace h := md_le ex9_4 h
      refine lv_iinc (v := x9_4) (lv' := [(9, .int x9_4), (5, .long x5_3), (2, .int x2), (3, .long x3_53), (7, .long x7_53)]) hx hb dX1_spread_61 hl (k := 4) rfl (by rw [ex9_4]; rfl) (by decide) rfl (fun ls hl => ?_)
      refine lv_goto (tgt := 14) hx hb dX1_spread_64 (by decide) ?_
      exact ih x3_53 x5_3 x7_53 x9_4 h ls (lv_sub hl [2, 3, 1, 4, 0] rfl)
    clear ekJ53
    refine lv_icmp_ne (tgt := 53) hx hb dX1_spread_28 (by decide) (fun c5 => ?_) (fun c5 => ?_)
    · replace h := md_f c5 h
      exact KJ53 x3 x7 h ls (lv_sub hl [0, 1, 2, 3, 4] rfl)
    replace h := md_t c5 h
    refine lv_lload hx hb dX1_spread_31 (lv_at hl 3 rfl) ?_
    refine lv_lload_n hx hb dX1_spread_33 rfl (lv_at hl 1 rfl) ?_
    refine lv_ldc2 hx hb hown (hts _ wm_X1_spread_0) dX1_spread_34 ?_
    refine lv_lrem hx hb dX1_spread_37 (by decide) ?_
    refine lv_lload hx hb dX1_spread_38 (lv_at hl 2 rfl) ?_
    refine lv_lmul hx hb dX1_spread_40 ?_
    refine lv_ladd hx hb dX1_spread_41 ?_
    refine lv_topl (fun x7_6 ex7_6 => ?_)
    replace h := md_le ex7_6 h
    refine lv_lstore (lv' := [(7, .long x7_6), (2, .int x2), (3, .long x3), (5, .long x5), (9, .int x9)]) hx hb dX1_spread_42 hl (by decide) rfl (fun ls hl => ?_)
    refine lv_lload_n hx hb dX1_spread_44 rfl (lv_at hl 2 rfl) ?_
    refine lv_ldc2 hx hb hown (hts _ wm_X1_spread_0) dX1_spread_45 ?_
    refine lv_ldiv hx hb dX1_spread_48 (by decide) ?_
    obtain ⟨u7, hu7, h⟩ := md_b h
    refine kS C (ctX1_strip l  hu7) gX1_spread_X1_strip rfl kdX1_strip ⟨rfl, rfl⟩ ⟨by decide, by decide⟩ kT_blind (fun _ _ _ => trivial) rfl hl [] rfl (Nat.le_of_ble_eq_true rfl) dX1_spread_49 ⟨by decide, by decide⟩ ?_
    refine lv_lstore_n (lv' := [(3, .long u7), (7, .long x7_6), (2, .int x2), (5, .long x5), (9, .int x9)]) hx hb dX1_spread_52 rfl hl (by decide) rfl (fun ls hl => ?_)
    exact KJ53 u7 x7_6 h ls (lv_sub hl [2, 0, 3, 1, 4] rfl)
def mX1_spread (p1 : Int64) (p2 : Int32) : Option Int64 := (Option.bind (mX1_strip p1) (fun u1 => (mlX1_spread_14 p2 (fun (y7_67 : Int64) => (some y7_67)) kN u1 (1 : Int64) (0 : Int64) (0 : Int32))))
set_option maxHeartbeats 4000000 in
set_option maxRecDepth 100000 in
theorem bX1_spread {p : Program} {l : Launch} {e : Env} {s : State} {m : MethodId} {args : Array Value} {below : List Frame} {meth : Method} {c : Code} {Q : State → Prop} (C : kc p s m args meth c cX1_spread 10 RX1 yX1_spread.name wsX1_spread (some .long)) (p1 : Int64) (p2 : Int32) (res : Int64) (hQ : ∀ (v : Int64) (pc : Nat) (ls : Array Slot), some v = some res → decode cX1_spread pc = .ok (.lreturn, 1) → W p l e rmX1_spread s m args below meth c s.heap [] 0 0 Q (F0 m pc ls [.long v])) : mX1_spread p1 p2 = some res → ∀ (ls : Array Slot), lv_has ls 10 [(0, .long p1), (2, .int p2)] → W p l e rmX1_spread s m args below meth c s.heap [] 0 0 Q (F0 m 0 ls []) := by
  intro h ls hl
  have C0 := C
  obtain ⟨hx, hb, hml, hown, hts, hr, hlk, hnm⟩ := C0
  rw [mX1_spread] at h
  refine lv_lload_n hx hb dX1_spread_0 rfl (lv_at hl 0 rfl) ?_
  obtain ⟨u1, hu1, h⟩ := md_b h
  refine kS C (ctX1_strip l  hu1) gX1_spread_X1_strip rfl kdX1_strip ⟨rfl, rfl⟩ ⟨by decide, by decide⟩ kT_blind (fun _ _ _ => trivial) rfl hl [] rfl (Nat.le_of_ble_eq_true rfl) dX1_spread_1 ⟨by decide, by decide⟩ ?_
  refine lv_lstore_n (lv' := [(3, .long u1), (0, .long p1), (2, .int p2)]) hx hb dX1_spread_4 rfl hl (by decide) rfl (fun ls hl => ?_)
  refine lv_lconst (v := 1) hx hb dX1_spread_5 (by decide) ?_
  refine lv_lstore (lv' := [(5, .long (1 : Int64)), (3, .long u1), (0, .long p1), (2, .int p2)]) hx hb dX1_spread_6 hl (by decide) rfl (fun ls hl => ?_)
  refine lv_lconst (v := 0) hx hb dX1_spread_8 (by decide) ?_
  refine lv_lstore (lv' := [(7, .long (0 : Int64)), (5, .long (1 : Int64)), (3, .long u1), (0, .long p1), (2, .int p2)]) hx hb dX1_spread_9 hl (by decide) rfl (fun ls hl => ?_)
  refine lv_iconst (v := 0) hx hb dX1_spread_11 (by decide) ?_
  refine lv_istore (lv' := [(9, .int (0 : Int32)), (7, .long (0 : Int64)), (5, .long (1 : Int64)), (3, .long u1), (0, .long p1), (2, .int p2)]) hx hb dX1_spread_12 hl (by decide) rfl (fun ls hl => ?_)
  refine lX1_spread_14 C p2 res hQ _ (fun y7_67 h ls hl => ?_) kN u1 (1 : Int64) (0 : Int64) (0 : Int32) h ls (lv_sub hl [5, 3, 2, 1, 0] rfl)
  refine lv_lload hx hb dX1_spread_67 (lv_at hl 0 rfl) ?_
  exact hQ y7_67 69 ls h dX1_spread_69
set_option maxHeartbeats 4000000 in
theorem ctX1_spread (l : Launch) {p1 : Int64} {p2 : Int32} {res : Int64} (hm : mX1_spread p1 p2 = some res) : Met l yX1_spread wsX1_spread rmX1_spread (va_Pc [.long p1, .int p2] (fun _ => True)) (kR (.long res)) 0 0 (fun _ => False) :=
  km (by decide) rfl (Nat.le_of_ble_eq_true rfl) (fun p e s m below meth c ls C hB hl => bX1_spread C p1 p2 res (fun v pc ls h hd => kr_l C h hd) hm ls hl)
theorem wm_X1_raise_0 : Cond.constantLong RX1 17 (2799360000000) ∈ wsX1_raise := by decide +kernel
theorem wm_X1_raise_1 : Cond.constantLong RX1 11 (60) ∈ wsX1_raise := by decide +kernel
theorem wm_X1_raise_2 : Cond.constantLong RX1 9 (167961600000000) ∈ wsX1_raise := by decide +kernel
theorem kdX1_raise : yX1_raise.cls ≠ "java/lang/invoke/MethodHandle" ∧ yX1_raise.cls ≠ "java/lang/invoke/VarHandle" ∧ (parseMethodDescriptor yX1_raise.desc).map (fun d => d.parameters.length) = some 2 := by decide +kernel
abbrev rmX1_raise : Room := { frames := 0, cells := 0, slots := 0, locals := 0 }
def mlX1_raise_5 (x2 : Int32) (kE : Int64 → Option Int64) : Nat → Int64 → Int32 → Option Int64
  | 0, _, _ => none
  | n + 1, x3, x5 => (if x2 ≤ x5 then (kE x3) else (md_jn (fun (z0_30 : Int64) => (md_let (x5 + (1 : Int32)) (fun (x5_2 : Int32) => (mlX1_raise_5 x2 kE n z0_30 x5_2)))) (fun kJ30 => (if x3 < (2799360000000 : Int64) then (kJ30 (x3 * (60 : Int64))) else (kJ30 (167961600000000 : Int64))))))
set_option maxHeartbeats 4000000 in
set_option maxRecDepth 100000 in
theorem lX1_raise_5 {p : Program} {l : Launch} {e : Env} {s : State} {m : MethodId} {args : Array Value} {below : List Frame} {meth : Method} {c : Code} {Q : State → Prop} (C : kc p s m args meth c cX1_raise 6 RX1 yX1_raise.name wsX1_raise (some .long)) (x2 : Int32) (res : Int64) (hQ : ∀ (v : Int64) (pc : Nat) (ls : Array Slot), some v = some res → decode cX1_raise pc = .ok (.lreturn, 1) → W p l e rmX1_raise s m args below meth c s.heap [] 0 0 Q (F0 m pc ls [.long v])) (kE : Int64 → Option Int64) (hE : ∀ (y3 : Int64), kE y3 = some res → ∀ (ls : Array Slot), lv_has ls 6 [(3, .long y3)] → W p l e rmX1_raise s m args below meth c s.heap [] 0 0 Q (F0 m 37 ls [])) : ∀ (n : Nat), ∀ (x3 : Int64) (x5 : Int32), mlX1_raise_5 x2 kE n x3 x5 = some res → ∀ (ls : Array Slot), lv_has ls 6 [(2, .int x2), (3, .long x3), (5, .int x5)] → W p l e rmX1_raise s m args below meth c s.heap [] 0 0 Q (F0 m 5 ls []) := by
  have C0 := C
  obtain ⟨hx, hb, hml, hown, hts, hr, hlk, hnm⟩ := C0
  intro n
  induction n with
  | zero => intro _ _ h; exact md_x h
  | succ n ih =>
    intro x3 x5 h ls hl
    rw [mlX1_raise_5] at h
    refine lv_iload hx hb dX1_raise_5 (lv_at hl 2 rfl) ?_
    refine lv_iload_n hx hb dX1_raise_7 rfl (lv_at hl 0 rfl) ?_
    refine lv_icmp_ge (tgt := 37) hx hb dX1_raise_8 (by decide) (fun c1 => ?_) (fun c1 => ?_)
    · replace h := md_t c1 h
      exact hE x3 h ls (lv_sub hl [1] rfl)
    replace h := md_f c1 h
    refine lv_lload_n hx hb dX1_raise_11 rfl (lv_at hl 1 rfl) ?_
    refine lv_ldc2 hx hb hown (hts _ wm_X1_raise_0) dX1_raise_12 ?_
    refine W.lcmp hx hb dX1_raise_15 ?_
    obtain ⟨kJ30, ekJ30, h⟩ := md_jo h
    have KJ30 : ∀ (z0_30 : Int64), kJ30 z0_30 = some res → ∀ (ls : Array Slot), lv_has ls 6 [(2, .int x2), (5, .int x5)] → W p l e rmX1_raise s m args below meth c s.heap [] 0 0 Q (F0 m 30 ls [.long z0_30]) := by
      intro z0_30 h ls hl
      rw [ekJ30] at h
      refine lv_lstore_n (lv' := [(3, .long z0_30), (2, .int x2), (5, .int x5)]) hx hb dX1_raise_30 rfl hl (by decide) rfl (fun ls hl => ?_)
      obtain ⟨x5_2, ex5_2⟩ : ∃ y : Int32, y = (x5 + (1 : Int32)) := ⟨_, rfl⟩
      replace h := md_le ex5_2 h
      refine lv_iinc (v := x5_2) (lv' := [(5, .int x5_2), (3, .long z0_30), (2, .int x2)]) hx hb dX1_raise_31 hl (k := 2) rfl (by rw [ex5_2]; rfl) (by decide) rfl (fun ls hl => ?_)
      refine lv_goto (tgt := 5) hx hb dX1_raise_34 (by decide) ?_
      exact ih z0_30 x5_2 h ls (lv_sub hl [2, 1, 0] rfl)
    clear ekJ30
    refine lv_if_lt (tgt := 25) hx hb dX1_raise_16 (by decide) (fun c3 => ?_) (fun c3 => ?_)
    · replace c3 := (lg_cmp_lt _ _).mp c3
      replace h := md_t c3 h
      refine lv_lload_n hx hb dX1_raise_25 rfl (lv_at hl 1 rfl) ?_
      refine lv_ldc2 hx hb hown (hts _ wm_X1_raise_1) dX1_raise_26 ?_
      refine lv_lmul hx hb dX1_raise_29 ?_
      exact KJ30 (x3 * (60 : Int64)) h ls (lv_sub hl [0, 2] rfl)
    replace c3 := fun q9 => c3 ((lg_cmp_lt _ _).mpr q9)
    replace h := md_f c3 h
    refine lv_ldc2 hx hb hown (hts _ wm_X1_raise_2) dX1_raise_19 ?_
    refine lv_goto (tgt := 30) hx hb dX1_raise_22 (by decide) ?_
    exact KJ30 (167961600000000 : Int64) h ls (lv_sub hl [0, 2] rfl)
def mX1_raise (p1 : Int64) (p2 : Int32) : Option Int64 := (mlX1_raise_5 p2 (fun (y3_37 : Int64) => (some y3_37)) kN p1 (0 : Int32))
set_option maxHeartbeats 4000000 in
set_option maxRecDepth 100000 in
theorem bX1_raise {p : Program} {l : Launch} {e : Env} {s : State} {m : MethodId} {args : Array Value} {below : List Frame} {meth : Method} {c : Code} {Q : State → Prop} (C : kc p s m args meth c cX1_raise 6 RX1 yX1_raise.name wsX1_raise (some .long)) (p1 : Int64) (p2 : Int32) (res : Int64) (hQ : ∀ (v : Int64) (pc : Nat) (ls : Array Slot), some v = some res → decode cX1_raise pc = .ok (.lreturn, 1) → W p l e rmX1_raise s m args below meth c s.heap [] 0 0 Q (F0 m pc ls [.long v])) : mX1_raise p1 p2 = some res → ∀ (ls : Array Slot), lv_has ls 6 [(0, .long p1), (2, .int p2)] → W p l e rmX1_raise s m args below meth c s.heap [] 0 0 Q (F0 m 0 ls []) := by
  intro h ls hl
  have C0 := C
  obtain ⟨hx, hb, hml, hown, hts, hr, hlk, hnm⟩ := C0
  rw [mX1_raise] at h
  refine lv_lload_n hx hb dX1_raise_0 rfl (lv_at hl 0 rfl) ?_
  refine lv_lstore_n (lv' := [(3, .long p1), (0, .long p1), (2, .int p2)]) hx hb dX1_raise_1 rfl hl (by decide) rfl (fun ls hl => ?_)
  refine lv_iconst (v := 0) hx hb dX1_raise_2 (by decide) ?_
  refine lv_istore (lv' := [(5, .int (0 : Int32)), (3, .long p1), (0, .long p1), (2, .int p2)]) hx hb dX1_raise_3 hl (by decide) rfl (fun ls hl => ?_)
  refine lX1_raise_5 C p2 res hQ _ (fun y3_37 h ls hl => ?_) kN p1 (0 : Int32) h ls (lv_sub hl [3, 1, 0] rfl)
  refine lv_lload_n hx hb dX1_raise_37 rfl (lv_at hl 0 rfl) ?_
  exact hQ y3_37 38 ls h dX1_raise_38
set_option maxHeartbeats 4000000 in
theorem ctX1_raise (l : Launch) {p1 : Int64} {p2 : Int32} {res : Int64} (hm : mX1_raise p1 p2 = some res) : Met l yX1_raise wsX1_raise rmX1_raise (va_Pc [.long p1, .int p2] (fun _ => True)) (kR (.long res)) 0 0 (fun _ => False) :=
  km (by decide) rfl (Nat.le_of_ble_eq_true rfl) (fun p e s m below meth c ls C hB hl => bX1_raise C p1 p2 res (fun v pc ls h hd => kr_l C h hd) hm ls hl)
theorem wm_X1_atPlace_0 : Cond.constantLong RX1 11 (60) ∈ wsX1_atPlace := by decide +kernel
theorem kdX1_atPlace : yX1_atPlace.cls ≠ "java/lang/invoke/MethodHandle" ∧ yX1_atPlace.cls ≠ "java/lang/invoke/VarHandle" ∧ (parseMethodDescriptor yX1_atPlace.desc).map (fun d => d.parameters.length) = some 2 := by decide +kernel
abbrev rmX1_atPlace : Room := { frames := 0, cells := 0, slots := 0, locals := 0 }
def mlX1_atPlace_5 (x2 : Int32) (kE : Int64 → Option Int64) : Nat → Int64 → Int32 → Option Int64
  | 0, _, _ => none
  | n + 1, x3, x5 => (if x2 ≤ x5 then (kE x3) else (if (8 : Int32) ≤ x5 then (kE x3) else (md_let (x3 * (60 : Int64)) (fun (x3_3 : Int64) => (md_let (x5 + (1 : Int32)) (fun (x5_4 : Int32) => (mlX1_atPlace_5 x2 kE n x3_3 x5_4)))))))
set_option maxHeartbeats 4000000 in
set_option maxRecDepth 100000 in
theorem lX1_atPlace_5 {p : Program} {l : Launch} {e : Env} {s : State} {m : MethodId} {args : Array Value} {below : List Frame} {meth : Method} {c : Code} {Q : State → Prop} (C : kc p s m args meth c cX1_atPlace 6 RX1 yX1_atPlace.name wsX1_atPlace (some .long)) (x2 : Int32) (res : Int64) (hQ : ∀ (v : Int64) (pc : Nat) (ls : Array Slot), some v = some res → decode cX1_atPlace pc = .ok (.lreturn, 1) → W p l e rmX1_atPlace s m args below meth c s.heap [] 0 0 Q (F0 m pc ls [.long v])) (kE : Int64 → Option Int64) (hE : ∀ (y3 : Int64), kE y3 = some res → ∀ (ls : Array Slot), lv_has ls 6 [(3, .long y3)] → W p l e rmX1_atPlace s m args below meth c s.heap [] 0 0 Q (F0 m 30 ls [])) : ∀ (n : Nat), ∀ (x3 : Int64) (x5 : Int32), mlX1_atPlace_5 x2 kE n x3 x5 = some res → ∀ (ls : Array Slot), lv_has ls 6 [(2, .int x2), (3, .long x3), (5, .int x5)] → W p l e rmX1_atPlace s m args below meth c s.heap [] 0 0 Q (F0 m 5 ls []) := by
  have C0 := C
  obtain ⟨hx, hb, hml, hown, hts, hr, hlk, hnm⟩ := C0
  intro n
  induction n with
  | zero => intro _ _ h; exact md_x h
  | succ n ih =>
    intro x3 x5 h ls hl
    rw [mlX1_atPlace_5] at h
    refine lv_iload hx hb dX1_atPlace_5 (lv_at hl 2 rfl) ?_
    refine lv_iload_n hx hb dX1_atPlace_7 rfl (lv_at hl 0 rfl) ?_
    refine lv_icmp_ge (tgt := 30) hx hb dX1_atPlace_8 (by decide) (fun c1 => ?_) (fun c1 => ?_)
    · replace h := md_t c1 h
      exact hE x3 h ls (lv_sub hl [1] rfl)
    replace h := md_f c1 h
    refine lv_iload hx hb dX1_atPlace_11 (lv_at hl 2 rfl) ?_
    refine lv_bipush (v := 8) hx hb dX1_atPlace_13 (by decide) ?_
    refine lv_icmp_ge (tgt := 30) hx hb dX1_atPlace_15 (by decide) (fun c2 => ?_) (fun c2 => ?_)
    · replace h := md_t c2 h
      exact hE x3 h ls (lv_sub hl [1] rfl)
    replace h := md_f c2 h
    refine lv_lload_n hx hb dX1_atPlace_18 rfl (lv_at hl 1 rfl) ?_
    refine lv_ldc2 hx hb hown (hts _ wm_X1_atPlace_0) dX1_atPlace_19 ?_
    refine lv_lmul hx hb dX1_atPlace_22 ?_
    refine lv_topl (fun x3_3 ex3_3 => ?_)
    replace h := md_le ex3_3 h
    refine lv_lstore_n (lv' := [(3, .long x3_3), (2, .int x2), (5, .int x5)]) hx hb dX1_atPlace_23 rfl hl (by decide) rfl (fun ls hl => ?_)
    obtain ⟨x5_4, ex5_4⟩ : ∃ y : Int32, y = (x5 + (1 : Int32)) := ⟨_, rfl⟩
    replace h := md_le ex5_4 h
    refine lv_iinc (v := x5_4) (lv' := [(5, .int x5_4), (3, .long x3_3), (2, .int x2)]) hx hb dX1_atPlace_24 hl (k := 2) rfl (by rw [ex5_4]; rfl) (by decide) rfl (fun ls hl => ?_)
    refine lv_goto (tgt := 5) hx hb dX1_atPlace_27 (by decide) ?_
    exact ih x3_3 x5_4 h ls (lv_sub hl [2, 1, 0] rfl)
def mX1_atPlace (p1 : Int64) (p2 : Int32) : Option Int64 := (mlX1_atPlace_5 p2 (fun (y3_30 : Int64) => (some y3_30)) kN p1 (0 : Int32))
set_option maxHeartbeats 4000000 in
set_option maxRecDepth 100000 in
theorem bX1_atPlace {p : Program} {l : Launch} {e : Env} {s : State} {m : MethodId} {args : Array Value} {below : List Frame} {meth : Method} {c : Code} {Q : State → Prop} (C : kc p s m args meth c cX1_atPlace 6 RX1 yX1_atPlace.name wsX1_atPlace (some .long)) (p1 : Int64) (p2 : Int32) (res : Int64) (hQ : ∀ (v : Int64) (pc : Nat) (ls : Array Slot), some v = some res → decode cX1_atPlace pc = .ok (.lreturn, 1) → W p l e rmX1_atPlace s m args below meth c s.heap [] 0 0 Q (F0 m pc ls [.long v])) : mX1_atPlace p1 p2 = some res → ∀ (ls : Array Slot), lv_has ls 6 [(0, .long p1), (2, .int p2)] → W p l e rmX1_atPlace s m args below meth c s.heap [] 0 0 Q (F0 m 0 ls []) := by
  intro h ls hl
  have C0 := C
  obtain ⟨hx, hb, hml, hown, hts, hr, hlk, hnm⟩ := C0
  rw [mX1_atPlace] at h
  refine lv_lload_n hx hb dX1_atPlace_0 rfl (lv_at hl 0 rfl) ?_
  refine lv_lstore_n (lv' := [(3, .long p1), (0, .long p1), (2, .int p2)]) hx hb dX1_atPlace_1 rfl hl (by decide) rfl (fun ls hl => ?_)
  refine lv_iconst (v := 0) hx hb dX1_atPlace_2 (by decide) ?_
  refine lv_istore (lv' := [(5, .int (0 : Int32)), (3, .long p1), (0, .long p1), (2, .int p2)]) hx hb dX1_atPlace_3 hl (by decide) rfl (fun ls hl => ?_)
  refine lX1_atPlace_5 C p2 res hQ _ (fun y3_30 h ls hl => ?_) kN p1 (0 : Int32) h ls (lv_sub hl [3, 1, 0] rfl)
  refine lv_lload_n hx hb dX1_atPlace_30 rfl (lv_at hl 0 rfl) ?_
  exact hQ y3_30 31 ls h dX1_atPlace_31
set_option maxHeartbeats 4000000 in
theorem ctX1_atPlace (l : Launch) {p1 : Int64} {p2 : Int32} {res : Int64} (hm : mX1_atPlace p1 p2 = some res) : Met l yX1_atPlace wsX1_atPlace rmX1_atPlace (va_Pc [.long p1, .int p2] (fun _ => True)) (kR (.long res)) 0 0 (fun _ => False) :=
  km (by decide) rfl (Nat.le_of_ble_eq_true rfl) (fun p e s m below meth c ls C hB hl => bX1_atPlace C p1 p2 res (fun v pc ls h hd => kr_l C h hd) hm ls hl)
theorem wm_X1_floorRoot_0 : Cond.constantLong RX1 19 (777600000) ∈ wsX1_floorRoot := by decide +kernel
theorem wm_X1_floorRoot_1 : Cond.constantLong RX1 21 (2) ∈ wsX1_floorRoot := by decide +kernel
theorem kdX1_floorRoot : yX1_floorRoot.cls ≠ "java/lang/invoke/MethodHandle" ∧ yX1_floorRoot.cls ≠ "java/lang/invoke/VarHandle" ∧ (parseMethodDescriptor yX1_floorRoot.desc).map (fun d => d.parameters.length) = some 1 := by decide +kernel
abbrev rmX1_floorRoot : Room := { frames := 0, cells := 0, slots := 0, locals := 0 }
def mlX1_floorRoot_10 (x0 : Int64) (kE : Int64 → Option Int64) : Nat → Int64 → Int64 → Int32 → Option Int64
  | 0, _, _, _ => none
  | n + 1, x2, x4, x6 => (if (31 : Int32) ≤ x6 then (kE x2) else (if (x4 - x2) ≤ (1 : Int64) then (kE x2) else (md_let ((x2 + x4) / (2 : Int64)) (fun (x7_3 : Int64) => (md_jn (fun (x2_56 : Int64) (x4_56 : Int64) => (md_let (x6 + (1 : Int32)) (fun (x6_4 : Int32) => (mlX1_floorRoot_10 x0 kE n x2_56 x4_56 x6_4)))) (fun kJ56 => (if x0 < (x7_3 * x7_3) then (kJ56 x2 x7_3) else (kJ56 x7_3 x4))))))))
set_option maxHeartbeats 4000000 in
set_option maxRecDepth 100000 in
theorem lX1_floorRoot_10 {p : Program} {l : Launch} {e : Env} {s : State} {m : MethodId} {args : Array Value} {below : List Frame} {meth : Method} {c : Code} {Q : State → Prop} (C : kc p s m args meth c cX1_floorRoot 9 RX1 yX1_floorRoot.name wsX1_floorRoot (some .long)) (x0 : Int64) (res : Int64) (hQ : ∀ (v : Int64) (pc : Nat) (ls : Array Slot), some v = some res → decode cX1_floorRoot pc = .ok (.lreturn, 1) → W p l e rmX1_floorRoot s m args below meth c s.heap [] 0 0 Q (F0 m pc ls [.long v])) (kE : Int64 → Option Int64) (hE : ∀ (y2 : Int64), kE y2 = some res → ∀ (ls : Array Slot), lv_has ls 9 [(2, .long y2)] → W p l e rmX1_floorRoot s m args below meth c s.heap [] 0 0 Q (F0 m 62 ls [])) : ∀ (n : Nat), ∀ (x2 : Int64) (x4 : Int64) (x6 : Int32), mlX1_floorRoot_10 x0 kE n x2 x4 x6 = some res → ∀ (ls : Array Slot), lv_has ls 9 [(0, .long x0), (2, .long x2), (4, .long x4), (6, .int x6)] → W p l e rmX1_floorRoot s m args below meth c s.heap [] 0 0 Q (F0 m 10 ls []) := by
  have C0 := C
  obtain ⟨hx, hb, hml, hown, hts, hr, hlk, hnm⟩ := C0
  intro n
  induction n with
  | zero => intro _ _ _ h; exact md_x h
  | succ n ih =>
    intro x2 x4 x6 h ls hl
    rw [mlX1_floorRoot_10] at h
    refine lv_iload hx hb dX1_floorRoot_10 (lv_at hl 3 rfl) ?_
    refine lv_bipush (v := 31) hx hb dX1_floorRoot_12 (by decide) ?_
    refine lv_icmp_ge (tgt := 62) hx hb dX1_floorRoot_14 (by decide) (fun c1 => ?_) (fun c1 => ?_)
    · replace h := md_t c1 h
      exact hE x2 h ls (lv_sub hl [1] rfl)
    replace h := md_f c1 h
    refine lv_lload hx hb dX1_floorRoot_17 (lv_at hl 2 rfl) ?_
    refine lv_lload_n hx hb dX1_floorRoot_19 rfl (lv_at hl 1 rfl) ?_
    refine lv_lsub hx hb dX1_floorRoot_20 ?_
    refine lv_lconst (v := 1) hx hb dX1_floorRoot_21 (by decide) ?_
    refine W.lcmp hx hb dX1_floorRoot_22 ?_
    refine lv_if_le (tgt := 62) hx hb dX1_floorRoot_23 (by decide) (fun c2 => ?_) (fun c2 => ?_)
    · replace c2 := (lg_cmp_le _ _).mp c2
      replace h := md_t c2 h
      exact hE x2 h ls (lv_sub hl [1] rfl)
    replace c2 := fun q9 => c2 ((lg_cmp_le _ _).mpr q9)
    replace h := md_f c2 h
    refine lv_lload_n hx hb dX1_floorRoot_26 rfl (lv_at hl 1 rfl) ?_
    refine lv_lload hx hb dX1_floorRoot_27 (lv_at hl 2 rfl) ?_
    refine lv_ladd hx hb dX1_floorRoot_29 ?_
    refine lv_ldc2 hx hb hown (hts _ wm_X1_floorRoot_1) dX1_floorRoot_30 ?_
    refine lv_ldiv hx hb dX1_floorRoot_33 (by decide) ?_
    refine lv_topl (fun x7_3 ex7_3 => ?_)
    replace h := md_le ex7_3 h
    refine lv_lstore (lv' := [(7, .long x7_3), (0, .long x0), (2, .long x2), (4, .long x4), (6, .int x6)]) hx hb dX1_floorRoot_34 hl (by decide) rfl (fun ls hl => ?_)
    refine lv_lload hx hb dX1_floorRoot_36 (lv_at hl 0 rfl) ?_
    refine lv_lload hx hb dX1_floorRoot_38 (lv_at hl 0 rfl) ?_
    refine lv_lmul hx hb dX1_floorRoot_40 ?_
    refine lv_lload_n hx hb dX1_floorRoot_41 rfl (lv_at hl 1 rfl) ?_
    refine W.lcmp hx hb dX1_floorRoot_42 ?_
    obtain ⟨kJ56, ekJ56, h⟩ := md_jo h
    have KJ56 : ∀ (x2_56 : Int64) (x4_56 : Int64), kJ56 x2_56 x4_56 = some res → ∀ (ls : Array Slot), lv_has ls 9 [(0, .long x0), (2, .long x2_56), (4, .long x4_56), (6, .int x6)] → W p l e rmX1_floorRoot s m args below meth c s.heap [] 0 0 Q (F0 m 56 ls []) := by
      intro x2_56 x4_56 h ls hl
      rw [ekJ56] at h
      obtain ⟨x6_4, ex6_4⟩ : ∃ y : Int32, y = (x6 + (1 : Int32)) := ⟨_, rfl⟩
      replace h := md_le ex6_4 h
      refine lv_iinc (v := x6_4) (lv' := [(6, .int x6_4), (0, .long x0), (2, .long x2_56), (4, .long x4_56)]) hx hb dX1_floorRoot_56 hl (k := 3) rfl (by rw [ex6_4]; rfl) (by decide) rfl (fun ls hl => ?_)
      refine lv_goto (tgt := 10) hx hb dX1_floorRoot_59 (by decide) ?_
      exact ih x2_56 x4_56 x6_4 h ls (lv_sub hl [1, 2, 3, 0] rfl)
    clear ekJ56
    refine lv_if_gt (tgt := 52) hx hb dX1_floorRoot_43 (by decide) (fun c5 => ?_) (fun c5 => ?_)
    · replace c5 := (lg_cmp_gt _ _).mp c5
      replace h := md_t c5 h
      refine lv_lload hx hb dX1_floorRoot_52 (lv_at hl 0 rfl) ?_
      refine lv_lstore (lv' := [(4, .long x7_3), (7, .long x7_3), (0, .long x0), (2, .long x2), (6, .int x6)]) hx hb dX1_floorRoot_54 hl (by decide) rfl (fun ls hl => ?_)
      exact KJ56 x2 x7_3 h ls (lv_sub hl [2, 3, 0, 4] rfl)
    replace c5 := fun q9 => c5 ((lg_cmp_gt _ _).mpr q9)
    replace h := md_f c5 h
    refine lv_lload hx hb dX1_floorRoot_46 (lv_at hl 0 rfl) ?_
    refine lv_lstore_n (lv' := [(2, .long x7_3), (7, .long x7_3), (0, .long x0), (4, .long x4), (6, .int x6)]) hx hb dX1_floorRoot_48 rfl hl (by decide) rfl (fun ls hl => ?_)
    refine lv_goto (tgt := 56) hx hb dX1_floorRoot_49 (by decide) ?_
    exact KJ56 x7_3 x4 h ls (lv_sub hl [2, 0, 3, 4] rfl)
def mX1_floorRoot (p1 : Int64) : Option Int64 := (mlX1_floorRoot_10 p1 (fun (y2_62 : Int64) => (some y2_62)) kN (0 : Int64) (777600000 : Int64) (0 : Int32))
set_option maxHeartbeats 4000000 in
set_option maxRecDepth 100000 in
theorem bX1_floorRoot {p : Program} {l : Launch} {e : Env} {s : State} {m : MethodId} {args : Array Value} {below : List Frame} {meth : Method} {c : Code} {Q : State → Prop} (C : kc p s m args meth c cX1_floorRoot 9 RX1 yX1_floorRoot.name wsX1_floorRoot (some .long)) (p1 : Int64) (res : Int64) (hQ : ∀ (v : Int64) (pc : Nat) (ls : Array Slot), some v = some res → decode cX1_floorRoot pc = .ok (.lreturn, 1) → W p l e rmX1_floorRoot s m args below meth c s.heap [] 0 0 Q (F0 m pc ls [.long v])) : mX1_floorRoot p1 = some res → ∀ (ls : Array Slot), lv_has ls 9 [(0, .long p1)] → W p l e rmX1_floorRoot s m args below meth c s.heap [] 0 0 Q (F0 m 0 ls []) := by
  intro h ls hl
  have C0 := C
  obtain ⟨hx, hb, hml, hown, hts, hr, hlk, hnm⟩ := C0
  rw [mX1_floorRoot] at h
  refine lv_lconst (v := 0) hx hb dX1_floorRoot_0 (by decide) ?_
  refine lv_lstore_n (lv' := [(2, .long (0 : Int64)), (0, .long p1)]) hx hb dX1_floorRoot_1 rfl hl (by decide) rfl (fun ls hl => ?_)
  refine lv_ldc2 hx hb hown (hts _ wm_X1_floorRoot_0) dX1_floorRoot_2 ?_
  refine lv_lstore (lv' := [(4, .long (777600000 : Int64)), (2, .long (0 : Int64)), (0, .long p1)]) hx hb dX1_floorRoot_5 hl (by decide) rfl (fun ls hl => ?_)
  refine lv_iconst (v := 0) hx hb dX1_floorRoot_7 (by decide) ?_
  refine lv_istore (lv' := [(6, .int (0 : Int32)), (4, .long (777600000 : Int64)), (2, .long (0 : Int64)), (0, .long p1)]) hx hb dX1_floorRoot_8 hl (by decide) rfl (fun ls hl => ?_)
  refine lX1_floorRoot_10 C p1 res hQ _ (fun y2_62 h ls hl => ?_) kN (0 : Int64) (777600000 : Int64) (0 : Int32) h ls (lv_sub hl [3, 2, 1, 0] rfl)
  refine lv_lload_n hx hb dX1_floorRoot_62 rfl (lv_at hl 0 rfl) ?_
  exact hQ y2_62 63 ls h dX1_floorRoot_63
set_option maxHeartbeats 4000000 in
theorem ctX1_floorRoot (l : Launch) {p1 : Int64} {res : Int64} (hm : mX1_floorRoot p1 = some res) : Met l yX1_floorRoot wsX1_floorRoot rmX1_floorRoot (va_Pc [.long p1] (fun _ => True)) (kR (.long res)) 0 0 (fun _ => False) :=
  km (by decide) rfl (Nat.le_of_ble_eq_true rfl) (fun p e s m below meth c ls C hB hl => bX1_floorRoot C p1 res (fun v pc ls h hd => kr_l C h hd) hm ls hl)
end
section
theorem wm_X4_listRows_0 : Cond.fieldLink RX4 7 "SixtyTablet$Turning" "LIST" "[I" ∈ wsX4_listRows := by decide +kernel
theorem kdX4_listRows : yX4_listRows.cls ≠ "java/lang/invoke/MethodHandle" ∧ yX4_listRows.cls ≠ "java/lang/invoke/VarHandle" ∧ (parseMethodDescriptor yX4_listRows.desc).map (fun d => d.parameters.length) = some 0 := by decide +kernel
abbrev rmX4_listRows : Room := { frames := 0, cells := 0, slots := 0, locals := 0 }
def mX4_listRows : Option Int32 := (some (29 : Int32))
set_option maxHeartbeats 4000000 in
set_option maxRecDepth 100000 in
theorem bX4_listRows {p : Program} {l : Launch} {e : Env} {s : State} {m : MethodId} {args : Array Value} {below : List Frame} {meth : Method} {c : Code} {Q : State → Prop} (C : kc p s m args meth c cX4_listRows 0 RX4 yX4_listRows.name wsX4_listRows (some .int)) {D : va_G} {cI cT : ClassId} {aL : Nat} (hK : va_K D vwCl (kTy cI cT) s) (hLz : kLz aL (fun _ => False) s s.heap) (hP : va_P D vwCl [] s.heap) (res : Int32) (hQ : ∀ (v : Int32) (pc : Nat) (ls : Array Slot), some v = some res → decode cX4_listRows pc = .ok (.ireturn, 1) → W p l e rmX4_listRows s m args below meth c s.heap [] 0 0 Q (F0 m pc ls [.int v])) : mX4_listRows = some res → ∀ (ls : Array Slot), lv_has ls 0 [] → W p l e rmX4_listRows s m args below meth c s.heap [] 0 0 Q (F0 m 0 ls []) := by
  intro h ls hl
  have C0 := C
  obtain ⟨hx, hb, hml, hown, hts, hr, hlk, hnm⟩ := C0
  rw [mX4_listRows] at h
  refine va_gets hx hb hLz.1 va_S.rf hown (hts _ wm_X4_listRows_0) (fun _ h9 => h9) dX4_listRows_0 ?_
  refine va_tlen (v := 29) hx hb hLz.2 va_S.rf (by decide) dX4_listRows_3 ?_
  exact hQ (29 : Int32) 4 ls h dX4_listRows_4
set_option maxHeartbeats 4000000 in
theorem ctX4_listRows (l : Launch) {D : va_G} {cI cT : ClassId} {aL : Nat} {res : Int32} (hm : mX4_listRows = some res) : Met l yX4_listRows wsX4_listRows rmX4_listRows (va_Pc [] (kW D cI cT [] (some aL) (fun _ => False))) (kR (.int res)) 0 0 (fun _ => False) :=
  km (by decide) rfl (Nat.le_of_ble_eq_true rfl) (fun p e s m below meth c ls C hB hl => bX4_listRows C hB.1 (hB.2.2 aL rfl) hB.2.1 res (fun v pc ls h hd => kr_i C h hd) hm ls hl)
theorem wm_X4_listed_0 : Cond.fieldLink RX4 7 "SixtyTablet$Turning" "LIST" "[I" ∈ wsX4_listed := by decide +kernel
theorem kdX4_listed : yX4_listed.cls ≠ "java/lang/invoke/MethodHandle" ∧ yX4_listed.cls ≠ "java/lang/invoke/VarHandle" ∧ (parseMethodDescriptor yX4_listed.desc).map (fun d => d.parameters.length) = some 1 := by decide +kernel
abbrev rmX4_listed : Room := { frames := 0, cells := 0, slots := 0, locals := 0 }
def mX4_listed (p1 : Int32) : Option Int32 := (if p1 < 0 then (some (1 : Int32)) else (if (29 : Int32) ≤ p1 then (some (1 : Int32)) else (if p1 < 0 ∨ 29 ≤ (Int32.toNatClampNeg p1) then none else (some (kLf (Int32.toNatClampNeg p1))))))
set_option maxHeartbeats 4000000 in
set_option maxRecDepth 100000 in
theorem bX4_listed {p : Program} {l : Launch} {e : Env} {s : State} {m : MethodId} {args : Array Value} {below : List Frame} {meth : Method} {c : Code} {Q : State → Prop} (C : kc p s m args meth c cX4_listed 1 RX4 yX4_listed.name wsX4_listed (some .int)) {D : va_G} {cI cT : ClassId} {aL : Nat} (p1 : Int32) (hK : va_K D vwCl (kTy cI cT) s) (hLz : kLz aL (fun _ => False) s s.heap) (hP : va_P D vwCl [] s.heap) (res : Int32) (hQ : ∀ (v : Int32) (pc : Nat) (ls : Array Slot), some v = some res → decode cX4_listed pc = .ok (.ireturn, 1) → W p l e rmX4_listed s m args below meth c s.heap [] 0 0 Q (F0 m pc ls [.int v])) : mX4_listed p1 = some res → ∀ (ls : Array Slot), lv_has ls 1 [(0, .int p1)] → W p l e rmX4_listed s m args below meth c s.heap [] 0 0 Q (F0 m 0 ls []) := by
  intro h ls hl
  have C0 := C
  obtain ⟨hx, hb, hml, hown, hts, hr, hlk, hnm⟩ := C0
  rw [mX4_listed] at h
  refine lv_iload_n hx hb dX4_listed_0 rfl (lv_at hl 0 rfl) ?_
  refine lv_if_lt (tgt := 20) hx hb dX4_listed_1 (by decide) (fun c1 => ?_) (fun c1 => ?_)
  · replace h := md_t c1 h
    refine lv_iconst (v := 1) hx hb dX4_listed_20 (by decide) ?_
    exact hQ (1 : Int32) 21 ls h dX4_listed_21
  replace h := md_f c1 h
  refine lv_iload_n hx hb dX4_listed_4 rfl (lv_at hl 0 rfl) ?_
  refine va_gets hx hb hLz.1 va_S.rf hown (hts _ wm_X4_listed_0) (fun _ h9 => h9) dX4_listed_5 ?_
  refine va_tlen (v := 29) hx hb hLz.2 va_S.rf (by decide) dX4_listed_8 ?_
  refine lv_icmp_ge (tgt := 20) hx hb dX4_listed_9 (by decide) (fun c2 => ?_) (fun c2 => ?_)
  · replace h := md_t c2 h
    refine lv_iconst (v := 1) hx hb dX4_listed_20 (by decide) ?_
    exact hQ (1 : Int32) 21 ls h dX4_listed_21
  replace h := md_f c2 h
  refine va_gets hx hb hLz.1 va_S.rf hown (hts _ wm_X4_listed_0) (fun _ h9 => h9) dX4_listed_12 ?_
  refine lv_iload_n hx hb dX4_listed_15 rfl (lv_at hl 0 rfl) ?_
  obtain ⟨hin3, h⟩ := md_g h
  refine va_ti hx hb hLz.2 va_S.rf hin3 rfl dX4_listed_16 ?_
  refine lv_goto (tgt := 21) hx hb dX4_listed_17 (by decide) ?_
  exact hQ (kLf (Int32.toNatClampNeg p1)) 21 ls h dX4_listed_21
set_option maxHeartbeats 4000000 in
theorem ctX4_listed (l : Launch) {D : va_G} {cI cT : ClassId} {aL : Nat} {p1 : Int32} {res : Int32} (hm : mX4_listed p1 = some res) : Met l yX4_listed wsX4_listed rmX4_listed (va_Pc [.int p1] (kW D cI cT [] (some aL) (fun _ => False))) (kR (.int res)) 0 0 (fun _ => False) :=
  km (by decide) rfl (Nat.le_of_ble_eq_true rfl) (fun p e s m below meth c ls C hB hl => bX4_listed C p1 hB.1 (hB.2.2 aL rfl) hB.2.1 res (fun v pc ls h hd => kr_i C h hd) hm ls hl)
theorem kdX4_without : yX4_without.cls ≠ "java/lang/invoke/MethodHandle" ∧ yX4_without.cls ≠ "java/lang/invoke/VarHandle" ∧ (parseMethodDescriptor yX4_without.desc).map (fun d => d.parameters.length) = some 2 := by decide +kernel
abbrev rmX4_without : Room := { frames := 0, cells := 0, slots := 0, locals := 0 }
def mlX4_without_5 (x2 : Int32) (kE : Int64 → Option Int64) : Nat → Int64 → Int32 → Option Int64
  | 0, _, _ => none
  | n + 1, x3, x5 => (if (63 : Int32) ≤ x5 then (kE x3) else (if x2 ≤ (1 : Int32) then (kE x3) else (if (Int32.toInt64 x2) = 0 then none else (if (x3 - x3 / (Int32.toInt64 x2) * (Int32.toInt64 x2)) = (0 : Int64) then (if (Int32.toInt64 x2) = 0 then none else (md_let (x3 / (Int32.toInt64 x2)) (fun (x3_6 : Int64) => (md_let (x5 + (1 : Int32)) (fun (x5_7 : Int32) => (mlX4_without_5 x2 kE n x3_6 x5_7)))))) else (kE x3)))))
set_option maxHeartbeats 4000000 in
set_option maxRecDepth 100000 in
theorem lX4_without_5 {p : Program} {l : Launch} {e : Env} {s : State} {m : MethodId} {args : Array Value} {below : List Frame} {meth : Method} {c : Code} {Q : State → Prop} (C : kc p s m args meth c cX4_without 6 RX4 yX4_without.name wsX4_without (some .long)) (x2 : Int32) (res : Int64) (hQ : ∀ (v : Int64) (pc : Nat) (ls : Array Slot), some v = some res → decode cX4_without pc = .ok (.lreturn, 1) → W p l e rmX4_without s m args below meth c s.heap [] 0 0 Q (F0 m pc ls [.long v])) (kE : Int64 → Option Int64) (hE : ∀ (y3 : Int64), kE y3 = some res → ∀ (ls : Array Slot), lv_has ls 6 [(3, .long y3)] → W p l e rmX4_without s m args below meth c s.heap [] 0 0 Q (F0 m 37 ls [])) : ∀ (n : Nat), ∀ (x3 : Int64) (x5 : Int32), mlX4_without_5 x2 kE n x3 x5 = some res → ∀ (ls : Array Slot), lv_has ls 6 [(2, .int x2), (3, .long x3), (5, .int x5)] → W p l e rmX4_without s m args below meth c s.heap [] 0 0 Q (F0 m 5 ls []) := by
  have C0 := C
  obtain ⟨hx, hb, hml, hown, hts, hr, hlk, hnm⟩ := C0
  intro n
  induction n with
  | zero => intro _ _ h; exact md_x h
  | succ n ih =>
    intro x3 x5 h ls hl
    rw [mlX4_without_5] at h
    refine lv_iload hx hb dX4_without_5 (lv_at hl 2 rfl) ?_
    refine lv_bipush (v := 63) hx hb dX4_without_7 (by decide) ?_
    refine lv_icmp_ge (tgt := 37) hx hb dX4_without_9 (by decide) (fun c1 => ?_) (fun c1 => ?_)
    · replace h := md_t c1 h
      exact hE x3 h ls (lv_sub hl [1] rfl)
    replace h := md_f c1 h
    refine lv_iload_n hx hb dX4_without_12 rfl (lv_at hl 0 rfl) ?_
    refine lv_iconst (v := 1) hx hb dX4_without_13 (by decide) ?_
    refine lv_icmp_le (tgt := 37) hx hb dX4_without_14 (by decide) (fun c2 => ?_) (fun c2 => ?_)
    · replace h := md_t c2 h
      exact hE x3 h ls (lv_sub hl [1] rfl)
    replace h := md_f c2 h
    refine lv_lload_n hx hb dX4_without_17 rfl (lv_at hl 1 rfl) ?_
    refine lv_iload_n hx hb dX4_without_18 rfl (lv_at hl 0 rfl) ?_
    refine lv_i2l hx hb dX4_without_19 rfl ?_
    obtain ⟨hz3, h⟩ := md_g h
    refine lv_lrem hx hb dX4_without_20 hz3 ?_
    refine lv_lconst (v := 0) hx hb dX4_without_21 (by decide) ?_
    refine W.lcmp hx hb dX4_without_22 ?_
    refine lv_if_ne (tgt := 37) hx hb dX4_without_23 (by decide) (fun c4 => ?_) (fun c4 => ?_)
    · replace c4 := fun q9 => c4 ((lg_cmp_eq _ _).mpr q9)
      replace h := md_f c4 h
      exact hE x3 h ls (lv_sub hl [1] rfl)
    replace c4 := (lg_cmp_eq _ _).mp c4
    replace h := md_t c4 h
    refine lv_lload_n hx hb dX4_without_26 rfl (lv_at hl 1 rfl) ?_
    refine lv_iload_n hx hb dX4_without_27 rfl (lv_at hl 0 rfl) ?_
    refine lv_i2l hx hb dX4_without_28 rfl ?_
    obtain ⟨hz5, h⟩ := md_g h
    refine lv_ldiv hx hb dX4_without_29 hz5 ?_
    refine lv_topl (fun x3_6 ex3_6 => ?_)
    replace h := md_le ex3_6 h
    refine lv_lstore_n (lv' := [(3, .long x3_6), (2, .int x2), (5, .int x5)]) hx hb dX4_without_30 rfl hl (by decide) rfl (fun ls hl => ?_)
    obtain ⟨x5_7, ex5_7⟩ : ∃ y : Int32, y = (x5 + (1 : Int32)) := ⟨_, rfl⟩
    replace h := md_le ex5_7 h
    refine lv_iinc (v := x5_7) (lv' := [(5, .int x5_7), (3, .long x3_6), (2, .int x2)]) hx hb dX4_without_31 hl (k := 2) rfl (by rw [ex5_7]; rfl) (by decide) rfl (fun ls hl => ?_)
    refine lv_goto (tgt := 5) hx hb dX4_without_34 (by decide) ?_
    exact ih x3_6 x5_7 h ls (lv_sub hl [2, 1, 0] rfl)
def mX4_without (p1 : Int64) (p2 : Int32) : Option Int64 := (mlX4_without_5 p2 (fun (y3_37 : Int64) => (some y3_37)) kN p1 (0 : Int32))
set_option maxHeartbeats 4000000 in
set_option maxRecDepth 100000 in
theorem bX4_without {p : Program} {l : Launch} {e : Env} {s : State} {m : MethodId} {args : Array Value} {below : List Frame} {meth : Method} {c : Code} {Q : State → Prop} (C : kc p s m args meth c cX4_without 6 RX4 yX4_without.name wsX4_without (some .long)) (p1 : Int64) (p2 : Int32) (res : Int64) (hQ : ∀ (v : Int64) (pc : Nat) (ls : Array Slot), some v = some res → decode cX4_without pc = .ok (.lreturn, 1) → W p l e rmX4_without s m args below meth c s.heap [] 0 0 Q (F0 m pc ls [.long v])) : mX4_without p1 p2 = some res → ∀ (ls : Array Slot), lv_has ls 6 [(0, .long p1), (2, .int p2)] → W p l e rmX4_without s m args below meth c s.heap [] 0 0 Q (F0 m 0 ls []) := by
  intro h ls hl
  have C0 := C
  obtain ⟨hx, hb, hml, hown, hts, hr, hlk, hnm⟩ := C0
  rw [mX4_without] at h
  refine lv_lload_n hx hb dX4_without_0 rfl (lv_at hl 0 rfl) ?_
  refine lv_lstore_n (lv' := [(3, .long p1), (0, .long p1), (2, .int p2)]) hx hb dX4_without_1 rfl hl (by decide) rfl (fun ls hl => ?_)
  refine lv_iconst (v := 0) hx hb dX4_without_2 (by decide) ?_
  refine lv_istore (lv' := [(5, .int (0 : Int32)), (3, .long p1), (0, .long p1), (2, .int p2)]) hx hb dX4_without_3 hl (by decide) rfl (fun ls hl => ?_)
  refine lX4_without_5 C p2 res hQ _ (fun y3_37 h ls hl => ?_) kN p1 (0 : Int32) h ls (lv_sub hl [3, 1, 0] rfl)
  refine lv_lload_n hx hb dX4_without_37 rfl (lv_at hl 0 rfl) ?_
  exact hQ y3_37 38 ls h dX4_without_38
set_option maxHeartbeats 4000000 in
theorem ctX4_without (l : Launch) {p1 : Int64} {p2 : Int32} {res : Int64} (hm : mX4_without p1 p2 = some res) : Met l yX4_without wsX4_without rmX4_without (va_Pc [.long p1, .int p2] (fun _ => True)) (kR (.long res)) 0 0 (fun _ => False) :=
  km (by decide) rfl (Nat.le_of_ble_eq_true rfl) (fun p e s m below meth c ls C hB hl => bX4_without C p1 p2 res (fun v pc ls h hd => kr_l C h hd) hm ls hl)
theorem kdX4_isEven : yX4_isEven.cls ≠ "java/lang/invoke/MethodHandle" ∧ yX4_isEven.cls ≠ "java/lang/invoke/VarHandle" ∧ (parseMethodDescriptor yX4_isEven.desc).map (fun d => d.parameters.length) = some 1 := by decide +kernel
abbrev rmX4_isEven : Room := { frames := 1, cells := 0, slots := 0, locals := 25 }
def mX4_isEven (p1 : Int64) : Option Int32 := (Option.bind (mX4_without p1 (2 : Int32)) (fun u1 => (Option.bind (mX4_without u1 (3 : Int32)) (fun u2 => (Option.bind (mX4_without u2 (5 : Int32)) (fun u3 => (if u3 = (1 : Int64) then (some (1 : Int32)) else (some (0 : Int32)))))))))
set_option maxHeartbeats 4000000 in
set_option maxRecDepth 100000 in
theorem bX4_isEven {p : Program} {l : Launch} {e : Env} {s : State} {m : MethodId} {args : Array Value} {below : List Frame} {meth : Method} {c : Code} {Q : State → Prop} (C : kc p s m args meth c cX4_isEven 2 RX4 yX4_isEven.name wsX4_isEven (some .boolean)) (p1 : Int64) (res : Int32) (hQ : ∀ (v : Int32) (pc : Nat) (ls : Array Slot), v = 0 ∨ v = 1 → some v = some res → decode cX4_isEven pc = .ok (.ireturn, 1) → W p l e rmX4_isEven s m args below meth c s.heap [] 0 0 Q (F0 m pc ls [.int v])) : mX4_isEven p1 = some res → ∀ (ls : Array Slot), lv_has ls 2 [(0, .long p1)] → W p l e rmX4_isEven s m args below meth c s.heap [] 0 0 Q (F0 m 0 ls []) := by
  intro h ls hl
  have C0 := C
  obtain ⟨hx, hb, hml, hown, hts, hr, hlk, hnm⟩ := C0
  rw [mX4_isEven] at h
  refine lv_lload_n hx hb dX4_isEven_0 rfl (lv_at hl 0 rfl) ?_
  refine lv_iconst (v := 2) hx hb dX4_isEven_1 (by decide) ?_
  obtain ⟨u1, hu1, h⟩ := md_b h
  refine kS C (ctX4_without l  hu1) gX4_isEven_X4_without rfl kdX4_without ⟨rfl, rfl⟩ ⟨by decide, by decide⟩ kT_blind (fun _ _ _ => trivial) rfl hl [] rfl (Nat.le_of_ble_eq_true rfl) dX4_isEven_2 ⟨by decide, by decide⟩ ?_
  refine lv_iconst (v := 3) hx hb dX4_isEven_5 (by decide) ?_
  obtain ⟨u2, hu2, h⟩ := md_b h
  refine kS C (ctX4_without l  hu2) gX4_isEven_X4_without rfl kdX4_without ⟨rfl, rfl⟩ ⟨by decide, by decide⟩ kT_blind (fun _ _ _ => trivial) rfl hl [] rfl (Nat.le_of_ble_eq_true rfl) dX4_isEven_6 ⟨by decide, by decide⟩ ?_
  refine lv_iconst (v := 5) hx hb dX4_isEven_9 (by decide) ?_
  obtain ⟨u3, hu3, h⟩ := md_b h
  refine kS C (ctX4_without l  hu3) gX4_isEven_X4_without rfl kdX4_without ⟨rfl, rfl⟩ ⟨by decide, by decide⟩ kT_blind (fun _ _ _ => trivial) rfl hl [] rfl (Nat.le_of_ble_eq_true rfl) dX4_isEven_10 ⟨by decide, by decide⟩ ?_
  refine lv_lconst (v := 1) hx hb dX4_isEven_13 (by decide) ?_
  refine W.lcmp hx hb dX4_isEven_14 ?_
  refine lv_if_ne (tgt := 22) hx hb dX4_isEven_15 (by decide) (fun c4 => ?_) (fun c4 => ?_)
  · replace c4 := fun q9 => c4 ((lg_cmp_eq _ _).mpr q9)
    replace h := md_f c4 h
    refine lv_iconst (v := 0) hx hb dX4_isEven_22 (by decide) ?_
    exact hQ (0 : Int32) 23 ls (by decide) h dX4_isEven_23
  replace c4 := (lg_cmp_eq _ _).mp c4
  replace h := md_t c4 h
  refine lv_iconst (v := 1) hx hb dX4_isEven_18 (by decide) ?_
  refine lv_goto (tgt := 23) hx hb dX4_isEven_19 (by decide) ?_
  exact hQ (1 : Int32) 23 ls (by decide) h dX4_isEven_23
set_option maxHeartbeats 4000000 in
theorem ctX4_isEven (l : Launch) {p1 : Int64} {res : Int32} (hm : mX4_isEven p1 = some res) : Met l yX4_isEven wsX4_isEven rmX4_isEven (va_Pc [.long p1] (fun _ => True)) (kR (.int res)) 0 0 (fun _ => False) :=
  km (by decide) rfl (Nat.le_of_ble_eq_true rfl) (fun p e s m below meth c ls C hB hl => bX4_isEven C p1 res (fun v pc ls hz h hd => kr_z C hz h hd) hm ls hl)
theorem kdX4_powerIn : yX4_powerIn.cls ≠ "java/lang/invoke/MethodHandle" ∧ yX4_powerIn.cls ≠ "java/lang/invoke/VarHandle" ∧ (parseMethodDescriptor yX4_powerIn.desc).map (fun d => d.parameters.length) = some 2 := by decide +kernel
abbrev rmX4_powerIn : Room := { frames := 0, cells := 0, slots := 0, locals := 0 }
def mlX4_powerIn_8 (x2 : Int32) (kE : Int32 → Option Int32) : Nat → Int32 → Int64 → Int32 → Option Int32
  | 0, _, _, _ => none
  | n + 1, x3, x4, x6 => (if (63 : Int32) ≤ x6 then (kE x3) else (if x2 ≤ (1 : Int32) then (kE x3) else (if (Int32.toInt64 x2) = 0 then none else (if (x4 - x4 / (Int32.toInt64 x2) * (Int32.toInt64 x2)) = (0 : Int64) then (if (Int32.toInt64 x2) = 0 then none else (md_let (x4 / (Int32.toInt64 x2)) (fun (x4_6 : Int64) => (md_let (x3 + (1 : Int32)) (fun (x3_7 : Int32) => (md_let (x6 + (1 : Int32)) (fun (x6_8 : Int32) => (mlX4_powerIn_8 x2 kE n x3_7 x4_6 x6_8)))))))) else (kE x3)))))
set_option maxHeartbeats 4000000 in
set_option maxRecDepth 100000 in
theorem lX4_powerIn_8 {p : Program} {l : Launch} {e : Env} {s : State} {m : MethodId} {args : Array Value} {below : List Frame} {meth : Method} {c : Code} {Q : State → Prop} (C : kc p s m args meth c cX4_powerIn 7 RX4 yX4_powerIn.name wsX4_powerIn (some .int)) (x2 : Int32) (res : Int32) (hQ : ∀ (v : Int32) (pc : Nat) (ls : Array Slot), some v = some res → decode cX4_powerIn pc = .ok (.ireturn, 1) → W p l e rmX4_powerIn s m args below meth c s.heap [] 0 0 Q (F0 m pc ls [.int v])) (kE : Int32 → Option Int32) (hE : ∀ (y3 : Int32), kE y3 = some res → ∀ (ls : Array Slot), lv_has ls 7 [(3, .int y3)] → W p l e rmX4_powerIn s m args below meth c s.heap [] 0 0 Q (F0 m 46 ls [])) : ∀ (n : Nat), ∀ (x3 : Int32) (x4 : Int64) (x6 : Int32), mlX4_powerIn_8 x2 kE n x3 x4 x6 = some res → ∀ (ls : Array Slot), lv_has ls 7 [(2, .int x2), (3, .int x3), (4, .long x4), (6, .int x6)] → W p l e rmX4_powerIn s m args below meth c s.heap [] 0 0 Q (F0 m 8 ls []) := by
  have C0 := C
  obtain ⟨hx, hb, hml, hown, hts, hr, hlk, hnm⟩ := C0
  intro n
  induction n with
  | zero => intro _ _ _ h; exact md_x h
  | succ n ih =>
    intro x3 x4 x6 h ls hl
    rw [mlX4_powerIn_8] at h
    refine lv_iload hx hb dX4_powerIn_8 (lv_at hl 3 rfl) ?_
    refine lv_bipush (v := 63) hx hb dX4_powerIn_10 (by decide) ?_
    refine lv_icmp_ge (tgt := 46) hx hb dX4_powerIn_12 (by decide) (fun c1 => ?_) (fun c1 => ?_)
    · replace h := md_t c1 h
      exact hE x3 h ls (lv_sub hl [1] rfl)
    replace h := md_f c1 h
    refine lv_iload_n hx hb dX4_powerIn_15 rfl (lv_at hl 0 rfl) ?_
    refine lv_iconst (v := 1) hx hb dX4_powerIn_16 (by decide) ?_
    refine lv_icmp_le (tgt := 46) hx hb dX4_powerIn_17 (by decide) (fun c2 => ?_) (fun c2 => ?_)
    · replace h := md_t c2 h
      exact hE x3 h ls (lv_sub hl [1] rfl)
    replace h := md_f c2 h
    refine lv_lload hx hb dX4_powerIn_20 (lv_at hl 2 rfl) ?_
    refine lv_iload_n hx hb dX4_powerIn_22 rfl (lv_at hl 0 rfl) ?_
    refine lv_i2l hx hb dX4_powerIn_23 rfl ?_
    obtain ⟨hz3, h⟩ := md_g h
    refine lv_lrem hx hb dX4_powerIn_24 hz3 ?_
    refine lv_lconst (v := 0) hx hb dX4_powerIn_25 (by decide) ?_
    refine W.lcmp hx hb dX4_powerIn_26 ?_
    refine lv_if_ne (tgt := 46) hx hb dX4_powerIn_27 (by decide) (fun c4 => ?_) (fun c4 => ?_)
    · replace c4 := fun q9 => c4 ((lg_cmp_eq _ _).mpr q9)
      replace h := md_f c4 h
      exact hE x3 h ls (lv_sub hl [1] rfl)
    replace c4 := (lg_cmp_eq _ _).mp c4
    replace h := md_t c4 h
    refine lv_lload hx hb dX4_powerIn_30 (lv_at hl 2 rfl) ?_
    refine lv_iload_n hx hb dX4_powerIn_32 rfl (lv_at hl 0 rfl) ?_
    refine lv_i2l hx hb dX4_powerIn_33 rfl ?_
    obtain ⟨hz5, h⟩ := md_g h
    refine lv_ldiv hx hb dX4_powerIn_34 hz5 ?_
    refine lv_topl (fun x4_6 ex4_6 => ?_)
    replace h := md_le ex4_6 h
    refine lv_lstore (lv' := [(4, .long x4_6), (2, .int x2), (3, .int x3), (6, .int x6)]) hx hb dX4_powerIn_35 hl (by decide) rfl (fun ls hl => ?_)
    obtain ⟨x3_7, ex3_7⟩ : ∃ y : Int32, y = (x3 + (1 : Int32)) := ⟨_, rfl⟩
    replace h := md_le ex3_7 h
    refine lv_iinc (v := x3_7) (lv' := [(3, .int x3_7), (4, .long x4_6), (2, .int x2), (6, .int x6)]) hx hb dX4_powerIn_37 hl (k := 2) rfl (by rw [ex3_7]; rfl) (by decide) rfl (fun ls hl => ?_)
    obtain ⟨x6_8, ex6_8⟩ : ∃ y : Int32, y = (x6 + (1 : Int32)) := ⟨_, rfl⟩
    replace h := md_le ex6_8 h
    refine lv_iinc (v := x6_8) (lv' := [(6, .int x6_8), (3, .int x3_7), (4, .long x4_6), (2, .int x2)]) hx hb dX4_powerIn_40 hl (k := 3) rfl (by rw [ex6_8]; rfl) (by decide) rfl (fun ls hl => ?_)
    refine lv_goto (tgt := 8) hx hb dX4_powerIn_43 (by decide) ?_
    exact ih x3_7 x4_6 x6_8 h ls (lv_sub hl [3, 1, 2, 0] rfl)
def mX4_powerIn (p1 : Int64) (p2 : Int32) : Option Int32 := (mlX4_powerIn_8 p2 (fun (y3_46 : Int32) => (some y3_46)) kN (0 : Int32) p1 (0 : Int32))
set_option maxHeartbeats 4000000 in
set_option maxRecDepth 100000 in
theorem bX4_powerIn {p : Program} {l : Launch} {e : Env} {s : State} {m : MethodId} {args : Array Value} {below : List Frame} {meth : Method} {c : Code} {Q : State → Prop} (C : kc p s m args meth c cX4_powerIn 7 RX4 yX4_powerIn.name wsX4_powerIn (some .int)) (p1 : Int64) (p2 : Int32) (res : Int32) (hQ : ∀ (v : Int32) (pc : Nat) (ls : Array Slot), some v = some res → decode cX4_powerIn pc = .ok (.ireturn, 1) → W p l e rmX4_powerIn s m args below meth c s.heap [] 0 0 Q (F0 m pc ls [.int v])) : mX4_powerIn p1 p2 = some res → ∀ (ls : Array Slot), lv_has ls 7 [(0, .long p1), (2, .int p2)] → W p l e rmX4_powerIn s m args below meth c s.heap [] 0 0 Q (F0 m 0 ls []) := by
  intro h ls hl
  have C0 := C
  obtain ⟨hx, hb, hml, hown, hts, hr, hlk, hnm⟩ := C0
  rw [mX4_powerIn] at h
  refine lv_iconst (v := 0) hx hb dX4_powerIn_0 (by decide) ?_
  refine lv_istore_n (lv' := [(3, .int (0 : Int32)), (0, .long p1), (2, .int p2)]) hx hb dX4_powerIn_1 rfl hl (by decide) rfl (fun ls hl => ?_)
  refine lv_lload_n hx hb dX4_powerIn_2 rfl (lv_at hl 1 rfl) ?_
  refine lv_lstore (lv' := [(4, .long p1), (3, .int (0 : Int32)), (0, .long p1), (2, .int p2)]) hx hb dX4_powerIn_3 hl (by decide) rfl (fun ls hl => ?_)
  refine lv_iconst (v := 0) hx hb dX4_powerIn_5 (by decide) ?_
  refine lv_istore (lv' := [(6, .int (0 : Int32)), (4, .long p1), (3, .int (0 : Int32)), (0, .long p1), (2, .int p2)]) hx hb dX4_powerIn_6 hl (by decide) rfl (fun ls hl => ?_)
  refine lX4_powerIn_8 C p2 res hQ _ (fun y3_46 h ls hl => ?_) kN (0 : Int32) p1 (0 : Int32) h ls (lv_sub hl [4, 2, 1, 0] rfl)
  refine lv_iload_n hx hb dX4_powerIn_46 rfl (lv_at hl 0 rfl) ?_
  exact hQ y3_46 47 ls h dX4_powerIn_47
set_option maxHeartbeats 4000000 in
theorem ctX4_powerIn (l : Launch) {p1 : Int64} {p2 : Int32} {res : Int32} (hm : mX4_powerIn p1 p2 = some res) : Met l yX4_powerIn wsX4_powerIn rmX4_powerIn (va_Pc [.long p1, .int p2] (fun _ => True)) (kR (.int res)) 0 0 (fun _ => False) :=
  km (by decide) rfl (Nat.le_of_ble_eq_true rfl) (fun p e s m below meth c ls C hB hl => bX4_powerIn C p1 p2 res (fun v pc ls h hd => kr_i C h hd) hm ls hl)
theorem wm_X4_grown_0 : Cond.constantLong RX4 33 (167961600000000) ∈ wsX4_grown := by decide +kernel
theorem wm_X4_grown_1 : Cond.methodLink RX4 35 Lib.MathLoose.min_long.x ∈ wsX4_grown := by decide +kernel
theorem wm_X4_grown_2 : Cond.static Lib.MathLoose.min_long.x ∈ wsX4_grown := by decide +kernel
theorem wm_X4_grown_3 : Cond.initialized "java/lang/Math" ∈ wsX4_grown := by decide +kernel
theorem wm_X4_grown_4 : Cond.code Lib.MathLoose.min_long.x Lib.MathLoose.min_long.code 4 (some .long) ∈ wsX4_grown := by decide +kernel
theorem kdX4_grown : yX4_grown.cls ≠ "java/lang/invoke/MethodHandle" ∧ yX4_grown.cls ≠ "java/lang/invoke/VarHandle" ∧ (parseMethodDescriptor yX4_grown.desc).map (fun d => d.parameters.length) = some 3 := by decide +kernel
abbrev rmX4_grown : Room := { frames := 1, cells := 0, slots := 0, locals := 15 }
def mlX4_grown_6 (x2 : Int32) (x3 : Int32) (kE : Int64 → Option Int64) : Nat → Int64 → Int32 → Option Int64
  | 0, _, _ => none
  | n + 1, x4, x6 => (if x3 ≤ x6 then (kE x4) else (md_let (if (x4 * (Int32.toInt64 x2)) < (167961600000000 : Int64) then (x4 * (Int32.toInt64 x2)) else (167961600000000 : Int64)) (fun (x4_2 : Int64) => (md_let (x6 + (1 : Int32)) (fun (x6_3 : Int32) => (mlX4_grown_6 x2 x3 kE n x4_2 x6_3))))))
set_option maxHeartbeats 4000000 in
set_option maxRecDepth 100000 in
theorem lX4_grown_6 {p : Program} {l : Launch} {e : Env} {s : State} {m : MethodId} {args : Array Value} {below : List Frame} {meth : Method} {c : Code} {Q : State → Prop} (C : kc p s m args meth c cX4_grown 7 RX4 yX4_grown.name wsX4_grown (some .long)) (x2 : Int32) (x3 : Int32) (res : Int64) (hQ : ∀ (v : Int64) (pc : Nat) (ls : Array Slot), some v = some res → decode cX4_grown pc = .ok (.lreturn, 1) → W p l e rmX4_grown s m args below meth c s.heap [] 0 0 Q (F0 m pc ls [.long v])) (kE : Int64 → Option Int64) (hE : ∀ (y4 : Int64), kE y4 = some res → ∀ (ls : Array Slot), lv_has ls 7 [(4, .long y4)] → W p l e rmX4_grown s m args below meth c s.heap [] 0 0 Q (F0 m 31 ls [])) : ∀ (n : Nat), ∀ (x4 : Int64) (x6 : Int32), mlX4_grown_6 x2 x3 kE n x4 x6 = some res → ∀ (ls : Array Slot), lv_has ls 7 [(2, .int x2), (3, .int x3), (4, .long x4), (6, .int x6)] → W p l e rmX4_grown s m args below meth c s.heap [] 0 0 Q (F0 m 6 ls []) := by
  have C0 := C
  obtain ⟨hx, hb, hml, hown, hts, hr, hlk, hnm⟩ := C0
  intro n
  induction n with
  | zero => intro _ _ h; exact md_x h
  | succ n ih =>
    intro x4 x6 h ls hl
    rw [mlX4_grown_6] at h
    refine lv_iload hx hb dX4_grown_6 (lv_at hl 3 rfl) ?_
    refine lv_iload_n hx hb dX4_grown_8 rfl (lv_at hl 1 rfl) ?_
    refine lv_icmp_ge (tgt := 31) hx hb dX4_grown_9 (by decide) (fun c1 => ?_) (fun c1 => ?_)
    · replace h := md_t c1 h
      exact hE x4 h ls (lv_sub hl [2] rfl)
    replace h := md_f c1 h
    refine lv_ldc2 hx hb hown (hts _ wm_X4_grown_0) dX4_grown_12 ?_
    refine lv_lload hx hb dX4_grown_15 (lv_at hl 2 rfl) ?_
    refine lv_iload_n hx hb dX4_grown_17 rfl (lv_at hl 0 rfl) ?_
    refine lv_i2l hx hb dX4_grown_18 rfl ?_
    refine lv_lmul hx hb dX4_grown_19 ?_
    refine va_mmin_long hx hb (hml.trans hl.1.symm) hown (hts _ wm_X4_grown_1) (hts _ wm_X4_grown_2) (hts _ wm_X4_grown_3) (hts _ wm_X4_grown_4) (by decide) (Nat.le_of_ble_eq_true rfl) (by decide) (by decide) dX4_grown_20 ?_
    refine lv_topl (fun x4_2 ex4_2 => ?_)
    replace h := md_le ex4_2 h
    refine lv_lstore (lv' := [(4, .long x4_2), (2, .int x2), (3, .int x3), (6, .int x6)]) hx hb dX4_grown_23 hl (by decide) rfl (fun ls hl => ?_)
    obtain ⟨x6_3, ex6_3⟩ : ∃ y : Int32, y = (x6 + (1 : Int32)) := ⟨_, rfl⟩
    replace h := md_le ex6_3 h
    refine lv_iinc (v := x6_3) (lv' := [(6, .int x6_3), (4, .long x4_2), (2, .int x2), (3, .int x3)]) hx hb dX4_grown_25 hl (k := 3) rfl (by rw [ex6_3]; rfl) (by decide) rfl (fun ls hl => ?_)
    refine lv_goto (tgt := 6) hx hb dX4_grown_28 (by decide) ?_
    exact ih x4_2 x6_3 h ls (lv_sub hl [2, 3, 1, 0] rfl)
def mX4_grown (p1 : Int64) (p2 : Int32) (p3 : Int32) : Option Int64 := (mlX4_grown_6 p2 p3 (fun (y4_31 : Int64) => (some y4_31)) kN p1 (0 : Int32))
set_option maxHeartbeats 4000000 in
set_option maxRecDepth 100000 in
theorem bX4_grown {p : Program} {l : Launch} {e : Env} {s : State} {m : MethodId} {args : Array Value} {below : List Frame} {meth : Method} {c : Code} {Q : State → Prop} (C : kc p s m args meth c cX4_grown 7 RX4 yX4_grown.name wsX4_grown (some .long)) (p1 : Int64) (p2 : Int32) (p3 : Int32) (res : Int64) (hQ : ∀ (v : Int64) (pc : Nat) (ls : Array Slot), some v = some res → decode cX4_grown pc = .ok (.lreturn, 1) → W p l e rmX4_grown s m args below meth c s.heap [] 0 0 Q (F0 m pc ls [.long v])) : mX4_grown p1 p2 p3 = some res → ∀ (ls : Array Slot), lv_has ls 7 [(0, .long p1), (2, .int p2), (3, .int p3)] → W p l e rmX4_grown s m args below meth c s.heap [] 0 0 Q (F0 m 0 ls []) := by
  intro h ls hl
  have C0 := C
  obtain ⟨hx, hb, hml, hown, hts, hr, hlk, hnm⟩ := C0
  rw [mX4_grown] at h
  refine lv_lload_n hx hb dX4_grown_0 rfl (lv_at hl 0 rfl) ?_
  refine lv_lstore (lv' := [(4, .long p1), (0, .long p1), (2, .int p2), (3, .int p3)]) hx hb dX4_grown_1 hl (by decide) rfl (fun ls hl => ?_)
  refine lv_iconst (v := 0) hx hb dX4_grown_3 (by decide) ?_
  refine lv_istore (lv' := [(6, .int (0 : Int32)), (4, .long p1), (0, .long p1), (2, .int p2), (3, .int p3)]) hx hb dX4_grown_4 hl (by decide) rfl (fun ls hl => ?_)
  refine lX4_grown_6 C p2 p3 res hQ _ (fun y4_31 h ls hl => ?_) kN p1 (0 : Int32) h ls (lv_sub hl [3, 4, 1, 0] rfl)
  refine lv_lload hx hb dX4_grown_31 (lv_at hl 0 rfl) ?_
  exact hQ y4_31 33 ls h dX4_grown_33
set_option maxHeartbeats 4000000 in
theorem ctX4_grown (l : Launch) {p1 : Int64} {p2 : Int32} {p3 : Int32} {res : Int64} (hm : mX4_grown p1 p2 p3 = some res) : Met l yX4_grown wsX4_grown rmX4_grown (va_Pc [.long p1, .int p2, .int p3] (fun _ => True)) (kR (.long res)) 0 0 (fun _ => False) :=
  km (by decide) rfl (Nat.le_of_ble_eq_true rfl) (fun p e s m below meth c ls C hB hl => bX4_grown C p1 p2 p3 res (fun v pc ls h hd => kr_l C h hd) hm ls hl)
theorem wm_X4_turnOver_0 : Cond.methodLink RX4 21 Lib.Math.max.name ∈ wsX4_turnOver := by decide +kernel
theorem wm_X4_turnOver_1 : Cond.static Lib.Math.max.name ∈ wsX4_turnOver := by decide +kernel
theorem wm_X4_turnOver_2 : Cond.initialized "java/lang/Math" ∈ wsX4_turnOver := by decide +kernel
theorem wm_X4_turnOver_3 : Cond.code Lib.Math.max.name Lib.Math.max.code 2 (some .int) ∈ wsX4_turnOver := by decide +kernel
theorem kdX4_turnOver : yX4_turnOver.cls ≠ "java/lang/invoke/MethodHandle" ∧ yX4_turnOver.cls ≠ "java/lang/invoke/VarHandle" ∧ (parseMethodDescriptor yX4_turnOver.desc).map (fun d => d.parameters.length) = some 1 := by decide +kernel
abbrev rmX4_turnOver : Room := { frames := 2, cells := 0, slots := 0, locals := 41 }
def mX4_turnOver (p1 : Int64) : Option Int64 := (Option.bind (mX4_powerIn p1 (2 : Int32)) (fun u1 => (Option.bind (mX4_powerIn p1 (3 : Int32)) (fun u2 => (Option.bind (mX4_powerIn p1 (5 : Int32)) (fun u3 => (md_let (if ((u1 + (1 : Int32)) / (2 : Int32)) < (if u2 < u3 then u3 else u2) then (if u2 < u3 then u3 else u2) else ((u1 + (1 : Int32)) / (2 : Int32))) (fun (x5_4 : Int32) => (Option.bind (mX4_grown (1 : Int64) (2 : Int32) (((2 : Int32) * x5_4) - u1)) (fun u5 => (Option.bind (mX4_grown u5 (3 : Int32) (x5_4 - u2)) (fun u6 => (Option.bind (mX4_grown u6 (5 : Int32) (x5_4 - u3)) (fun u7 => (some u7)))))))))))))))
set_option maxHeartbeats 4000000 in
set_option maxRecDepth 100000 in
theorem bX4_turnOver {p : Program} {l : Launch} {e : Env} {s : State} {m : MethodId} {args : Array Value} {below : List Frame} {meth : Method} {c : Code} {Q : State → Prop} (C : kc p s m args meth c cX4_turnOver 8 RX4 yX4_turnOver.name wsX4_turnOver (some .long)) (p1 : Int64) (res : Int64) (hQ : ∀ (v : Int64) (pc : Nat) (ls : Array Slot), some v = some res → decode cX4_turnOver pc = .ok (.lreturn, 1) → W p l e rmX4_turnOver s m args below meth c s.heap [] 0 0 Q (F0 m pc ls [.long v])) : mX4_turnOver p1 = some res → ∀ (ls : Array Slot), lv_has ls 8 [(0, .long p1)] → W p l e rmX4_turnOver s m args below meth c s.heap [] 0 0 Q (F0 m 0 ls []) := by
  intro h ls hl
  have C0 := C
  obtain ⟨hx, hb, hml, hown, hts, hr, hlk, hnm⟩ := C0
  rw [mX4_turnOver] at h
  refine lv_lload_n hx hb dX4_turnOver_0 rfl (lv_at hl 0 rfl) ?_
  refine lv_iconst (v := 2) hx hb dX4_turnOver_1 (by decide) ?_
  obtain ⟨u1, hu1, h⟩ := md_b h
  refine kS C (ctX4_powerIn l  hu1) gX4_turnOver_X4_powerIn rfl kdX4_powerIn ⟨rfl, rfl⟩ ⟨by decide, by decide⟩ kT_blind (fun _ _ _ => trivial) rfl hl [] rfl (Nat.le_of_ble_eq_true rfl) dX4_turnOver_2 ⟨by decide, by decide⟩ ?_
  refine lv_istore_n (lv' := [(2, .int u1), (0, .long p1)]) hx hb dX4_turnOver_5 rfl hl (by decide) rfl (fun ls hl => ?_)
  refine lv_lload_n hx hb dX4_turnOver_6 rfl (lv_at hl 1 rfl) ?_
  refine lv_iconst (v := 3) hx hb dX4_turnOver_7 (by decide) ?_
  obtain ⟨u2, hu2, h⟩ := md_b h
  refine kS C (ctX4_powerIn l  hu2) gX4_turnOver_X4_powerIn rfl kdX4_powerIn ⟨rfl, rfl⟩ ⟨by decide, by decide⟩ kT_blind (fun _ _ _ => trivial) rfl hl [] rfl (Nat.le_of_ble_eq_true rfl) dX4_turnOver_8 ⟨by decide, by decide⟩ ?_
  refine lv_istore_n (lv' := [(3, .int u2), (2, .int u1), (0, .long p1)]) hx hb dX4_turnOver_11 rfl hl (by decide) rfl (fun ls hl => ?_)
  refine lv_lload_n hx hb dX4_turnOver_12 rfl (lv_at hl 2 rfl) ?_
  refine lv_iconst (v := 5) hx hb dX4_turnOver_13 (by decide) ?_
  obtain ⟨u3, hu3, h⟩ := md_b h
  refine kS C (ctX4_powerIn l  hu3) gX4_turnOver_X4_powerIn rfl kdX4_powerIn ⟨rfl, rfl⟩ ⟨by decide, by decide⟩ kT_blind (fun _ _ _ => trivial) rfl hl [] rfl (Nat.le_of_ble_eq_true rfl) dX4_turnOver_14 ⟨by decide, by decide⟩ ?_
  refine lv_istore (lv' := [(4, .int u3), (3, .int u2), (2, .int u1), (0, .long p1)]) hx hb dX4_turnOver_17 hl (by decide) rfl (fun ls hl => ?_)
  refine lv_iload_n hx hb dX4_turnOver_19 rfl (lv_at hl 2 rfl) ?_
  refine lv_iconst (v := 1) hx hb dX4_turnOver_20 (by decide) ?_
  refine lv_iadd hx hb dX4_turnOver_21 ?_
  refine lv_iconst (v := 2) hx hb dX4_turnOver_22 (by decide) ?_
  refine lv_idiv hx hb dX4_turnOver_23 (by decide) ?_
  refine lv_iload_n hx hb dX4_turnOver_24 rfl (lv_at hl 1 rfl) ?_
  refine lv_iload hx hb dX4_turnOver_25 (lv_at hl 0 rfl) ?_
  refine va_mmax hx hb (hml.trans hl.1.symm) hown (hts _ wm_X4_turnOver_0) (hts _ wm_X4_turnOver_1) (hts _ wm_X4_turnOver_2) (hts _ wm_X4_turnOver_3) (by decide) (Nat.le_of_ble_eq_true rfl) (by decide) (by decide) dX4_turnOver_27 ?_
  refine va_mmax hx hb (hml.trans hl.1.symm) hown (hts _ wm_X4_turnOver_0) (hts _ wm_X4_turnOver_1) (hts _ wm_X4_turnOver_2) (hts _ wm_X4_turnOver_3) (by decide) (Nat.le_of_ble_eq_true rfl) (by decide) (by decide) dX4_turnOver_30 ?_
  refine lv_topi (fun x5_4 ex5_4 => ?_)
  replace h := md_le ex5_4 h
  refine lv_istore (lv' := [(5, .int x5_4), (4, .int u3), (3, .int u2), (2, .int u1), (0, .long p1)]) hx hb dX4_turnOver_33 hl (by decide) rfl (fun ls hl => ?_)
  refine lv_lconst (v := 1) hx hb dX4_turnOver_35 (by decide) ?_
  refine lv_iconst (v := 2) hx hb dX4_turnOver_36 (by decide) ?_
  refine lv_iconst (v := 2) hx hb dX4_turnOver_37 (by decide) ?_
  refine lv_iload hx hb dX4_turnOver_38 (lv_at hl 0 rfl) ?_
  refine lv_imul hx hb dX4_turnOver_40 ?_
  refine lv_iload_n hx hb dX4_turnOver_41 rfl (lv_at hl 3 rfl) ?_
  refine lv_isub hx hb dX4_turnOver_42 ?_
  obtain ⟨u5, hu5, h⟩ := md_b h
  refine kS C (ctX4_grown l  hu5) gX4_turnOver_X4_grown rfl kdX4_grown ⟨rfl, rfl⟩ ⟨by decide, by decide⟩ kT_blind (fun _ _ _ => trivial) rfl hl [] rfl (Nat.le_of_ble_eq_true rfl) dX4_turnOver_43 ⟨by decide, by decide⟩ ?_
  refine lv_lstore (lv' := [(6, .long u5), (5, .int x5_4), (4, .int u3), (3, .int u2), (2, .int u1), (0, .long p1)]) hx hb dX4_turnOver_46 hl (by decide) rfl (fun ls hl => ?_)
  refine lv_lload hx hb dX4_turnOver_48 (lv_at hl 0 rfl) ?_
  refine lv_iconst (v := 3) hx hb dX4_turnOver_50 (by decide) ?_
  refine lv_iload hx hb dX4_turnOver_51 (lv_at hl 1 rfl) ?_
  refine lv_iload_n hx hb dX4_turnOver_53 rfl (lv_at hl 3 rfl) ?_
  refine lv_isub hx hb dX4_turnOver_54 ?_
  obtain ⟨u6, hu6, h⟩ := md_b h
  refine kS C (ctX4_grown l  hu6) gX4_turnOver_X4_grown rfl kdX4_grown ⟨rfl, rfl⟩ ⟨by decide, by decide⟩ kT_blind (fun _ _ _ => trivial) rfl hl [] rfl (Nat.le_of_ble_eq_true rfl) dX4_turnOver_55 ⟨by decide, by decide⟩ ?_
  refine lv_lstore (lv' := [(6, .long u6), (5, .int x5_4), (4, .int u3), (3, .int u2), (2, .int u1), (0, .long p1)]) hx hb dX4_turnOver_58 hl (by decide) rfl (fun ls hl => ?_)
  refine lv_lload hx hb dX4_turnOver_60 (lv_at hl 0 rfl) ?_
  refine lv_iconst (v := 5) hx hb dX4_turnOver_62 (by decide) ?_
  refine lv_iload hx hb dX4_turnOver_63 (lv_at hl 1 rfl) ?_
  refine lv_iload hx hb dX4_turnOver_65 (lv_at hl 2 rfl) ?_
  refine lv_isub hx hb dX4_turnOver_67 ?_
  obtain ⟨u7, hu7, h⟩ := md_b h
  refine kS C (ctX4_grown l  hu7) gX4_turnOver_X4_grown rfl kdX4_grown ⟨rfl, rfl⟩ ⟨by decide, by decide⟩ kT_blind (fun _ _ _ => trivial) rfl hl [] rfl (Nat.le_of_ble_eq_true rfl) dX4_turnOver_68 ⟨by decide, by decide⟩ ?_
  exact hQ u7 71 ls h dX4_turnOver_71
set_option maxHeartbeats 4000000 in
theorem ctX4_turnOver (l : Launch) {p1 : Int64} {res : Int64} (hm : mX4_turnOver p1 = some res) : Met l yX4_turnOver wsX4_turnOver rmX4_turnOver (va_Pc [.long p1] (fun _ => True)) (kR (.long res)) 0 0 (fun _ => False) :=
  km (by decide) rfl (Nat.le_of_ble_eq_true rfl) (fun p e s m below meth c ls C hB hl => bX4_turnOver C p1 res (fun v pc ls h hd => kr_l C h hd) hm ls hl)
theorem wm_X4_greatestListed_0 : Cond.fieldLink RX4 7 "SixtyTablet$Turning" "LIST" "[I" ∈ wsX4_greatestListed := by decide +kernel
theorem kdX4_greatestListed : yX4_greatestListed.cls ≠ "java/lang/invoke/MethodHandle" ∧ yX4_greatestListed.cls ≠ "java/lang/invoke/VarHandle" ∧ (parseMethodDescriptor yX4_greatestListed.desc).map (fun d => d.parameters.length) = some 1 := by decide +kernel
abbrev rmX4_greatestListed : Room := { frames := 0, cells := 0, slots := 0, locals := 0 }
def mlX4_greatestListed_7 (x0 : Int64) (kE : Unit → Option Int32) : Nat → Int32 → Option Int32
  | 0, _ => none
  | n + 1, x2 => (if x2 < 0 then (kE ()) else (if x2 < 0 ∨ 29 ≤ (Int32.toNatClampNeg x2) then none else (md_let (kLf (Int32.toNatClampNeg x2)) (fun (x3_4 : Int32) => (md_jn (fun (u_33 : Unit) => (md_let (x2 + (-1 : Int32)) (fun (x2_5 : Int32) => (mlX4_greatestListed_7 x0 kE n x2_5)))) (fun kJ33 => (if x3_4 ≤ (1 : Int32) then (kJ33 ()) else (if (Int32.toInt64 x3_4) = 0 then none else (if (x0 - x0 / (Int32.toInt64 x3_4) * (Int32.toInt64 x3_4)) = (0 : Int64) then (some x3_4) else (kJ33 ()))))))))))
set_option maxHeartbeats 4000000 in
set_option maxRecDepth 100000 in
theorem lX4_greatestListed_7 {p : Program} {l : Launch} {e : Env} {s : State} {m : MethodId} {args : Array Value} {below : List Frame} {meth : Method} {c : Code} {Q : State → Prop} (C : kc p s m args meth c cX4_greatestListed 4 RX4 yX4_greatestListed.name wsX4_greatestListed (some .int)) {D : va_G} {cI cT : ClassId} {aL : Nat} (hK : va_K D vwCl (kTy cI cT) s) (hLz : kLz aL (fun _ => False) s s.heap) (x0 : Int64) (hP : va_P D vwCl [] s.heap) (res : Int32) (hQ : ∀ (v : Int32) (pc : Nat) (ls : Array Slot), some v = some res → decode cX4_greatestListed pc = .ok (.ireturn, 1) → W p l e rmX4_greatestListed s m args below meth c s.heap [] 0 0 Q (F0 m pc ls [.int v])) (kE : Unit → Option Int32) (hE : ∀ (u_ : Unit), kE u_ = some res → ∀ (ls : Array Slot), lv_has ls 4 [] → W p l e rmX4_greatestListed s m args below meth c s.heap [] 0 0 Q (F0 m 39 ls [])) : ∀ (n : Nat), ∀ (x2 : Int32), mlX4_greatestListed_7 x0 kE n x2 = some res → ∀ (ls : Array Slot), lv_has ls 4 [(0, .long x0), (2, .int x2)] → W p l e rmX4_greatestListed s m args below meth c s.heap [] 0 0 Q (F0 m 7 ls []) := by
  have C0 := C
  obtain ⟨hx, hb, hml, hown, hts, hr, hlk, hnm⟩ := C0
  intro n
  induction n with
  | zero => intro _ h; exact md_x h
  | succ n ih =>
    intro x2 h ls hl
    rw [mlX4_greatestListed_7] at h
    refine lv_iload_n hx hb dX4_greatestListed_7 rfl (lv_at hl 1 rfl) ?_
    refine lv_if_lt (tgt := 39) hx hb dX4_greatestListed_8 (by decide) (fun c2 => ?_) (fun c2 => ?_)
    · replace h := md_t c2 h
      exact hE () h ls (lv_sub hl [] rfl)
    replace h := md_f c2 h
    refine va_gets hx hb hLz.1 va_S.rf hown (hts _ wm_X4_greatestListed_0) (fun _ h9 => h9) dX4_greatestListed_11 ?_
    refine lv_iload_n hx hb dX4_greatestListed_14 rfl (lv_at hl 1 rfl) ?_
    obtain ⟨hin3, h⟩ := md_g h
    refine va_ti hx hb hLz.2 va_S.rf hin3 rfl dX4_greatestListed_15 ?_
    refine lv_topi (fun x3_4 ex3_4 => ?_)
    replace h := md_le ex3_4 h
    refine lv_istore_n (lv' := [(3, .int x3_4), (0, .long x0), (2, .int x2)]) hx hb dX4_greatestListed_16 rfl hl (by decide) rfl (fun ls hl => ?_)
    refine lv_iload_n hx hb dX4_greatestListed_17 rfl (lv_at hl 0 rfl) ?_
    refine lv_iconst (v := 1) hx hb dX4_greatestListed_18 (by decide) ?_
    obtain ⟨kJ33, ekJ33, h⟩ := md_jo h
    have KJ33 : ∀ (u_33 : Unit), kJ33 u_33 = some res → ∀ (ls : Array Slot), lv_has ls 4 [(0, .long x0), (2, .int x2)] → W p l e rmX4_greatestListed s m args below meth c s.heap [] 0 0 Q (F0 m 33 ls []) := by
      intro u_33 h ls hl
      rw [ekJ33] at h
      obtain ⟨x2_5, ex2_5⟩ : ∃ y : Int32, y = (x2 + (-1 : Int32)) := ⟨_, rfl⟩
      replace h := md_le ex2_5 h
      refine lv_iinc (v := x2_5) (lv' := [(2, .int x2_5), (0, .long x0)]) hx hb dX4_greatestListed_33 hl (k := 1) rfl (by rw [ex2_5]; rfl) (by decide) rfl (fun ls hl => ?_)
      refine lv_goto (tgt := 7) hx hb dX4_greatestListed_36 (by decide) ?_
      exact ih x2_5 h ls (lv_sub hl [1, 0] rfl)
    clear ekJ33
    refine lv_icmp_le (tgt := 33) hx hb dX4_greatestListed_19 (by decide) (fun c6 => ?_) (fun c6 => ?_)
    · replace h := md_t c6 h
      exact KJ33 () h ls (lv_sub hl [1, 2] rfl)
    replace h := md_f c6 h
    refine lv_lload_n hx hb dX4_greatestListed_22 rfl (lv_at hl 1 rfl) ?_
    refine lv_iload_n hx hb dX4_greatestListed_23 rfl (lv_at hl 0 rfl) ?_
    refine lv_i2l hx hb dX4_greatestListed_24 rfl ?_
    obtain ⟨hz7, h⟩ := md_g h
    refine lv_lrem hx hb dX4_greatestListed_25 hz7 ?_
    refine lv_lconst (v := 0) hx hb dX4_greatestListed_26 (by decide) ?_
    refine W.lcmp hx hb dX4_greatestListed_27 ?_
    refine lv_if_ne (tgt := 33) hx hb dX4_greatestListed_28 (by decide) (fun c8 => ?_) (fun c8 => ?_)
    · replace c8 := fun q9 => c8 ((lg_cmp_eq _ _).mpr q9)
      replace h := md_f c8 h
      exact KJ33 () h ls (lv_sub hl [1, 2] rfl)
    replace c8 := (lg_cmp_eq _ _).mp c8
    replace h := md_t c8 h
    refine lv_iload_n hx hb dX4_greatestListed_31 rfl (lv_at hl 0 rfl) ?_
    exact hQ x3_4 32 ls h dX4_greatestListed_32
def mX4_greatestListed (p1 : Int64) : Option Int32 := (md_let ((29 : Int32) - (1 : Int32)) (fun (x2_1 : Int32) => (mlX4_greatestListed_7 p1 (fun (u_39 : Unit) => (some (1 : Int32))) kN x2_1)))
set_option maxHeartbeats 4000000 in
set_option maxRecDepth 100000 in
theorem bX4_greatestListed {p : Program} {l : Launch} {e : Env} {s : State} {m : MethodId} {args : Array Value} {below : List Frame} {meth : Method} {c : Code} {Q : State → Prop} (C : kc p s m args meth c cX4_greatestListed 4 RX4 yX4_greatestListed.name wsX4_greatestListed (some .int)) {D : va_G} {cI cT : ClassId} {aL : Nat} (p1 : Int64) (hK : va_K D vwCl (kTy cI cT) s) (hLz : kLz aL (fun _ => False) s s.heap) (hP : va_P D vwCl [] s.heap) (res : Int32) (hQ : ∀ (v : Int32) (pc : Nat) (ls : Array Slot), some v = some res → decode cX4_greatestListed pc = .ok (.ireturn, 1) → W p l e rmX4_greatestListed s m args below meth c s.heap [] 0 0 Q (F0 m pc ls [.int v])) : mX4_greatestListed p1 = some res → ∀ (ls : Array Slot), lv_has ls 4 [(0, .long p1)] → W p l e rmX4_greatestListed s m args below meth c s.heap [] 0 0 Q (F0 m 0 ls []) := by
  intro h ls hl
  have C0 := C
  obtain ⟨hx, hb, hml, hown, hts, hr, hlk, hnm⟩ := C0
  rw [mX4_greatestListed] at h
  refine va_gets hx hb hLz.1 va_S.rf hown (hts _ wm_X4_greatestListed_0) (fun _ h9 => h9) dX4_greatestListed_0 ?_
  refine va_tlen (v := 29) hx hb hLz.2 va_S.rf (by decide) dX4_greatestListed_3 ?_
  refine lv_iconst (v := 1) hx hb dX4_greatestListed_4 (by decide) ?_
  refine lv_isub hx hb dX4_greatestListed_5 ?_
  refine lv_topi (fun x2_1 ex2_1 => ?_)
  replace h := md_le ex2_1 h
  refine lv_istore_n (lv' := [(2, .int x2_1), (0, .long p1)]) hx hb dX4_greatestListed_6 rfl hl (by decide) rfl (fun ls hl => ?_)
  refine lX4_greatestListed_7 C hK hLz p1 hP res hQ _ (fun u_39 h ls hl => ?_) kN x2_1 h ls (lv_sub hl [1, 0] rfl)
  refine lv_iconst (v := 1) hx hb dX4_greatestListed_39 (by decide) ?_
  exact hQ (1 : Int32) 40 ls h dX4_greatestListed_40
set_option maxHeartbeats 4000000 in
theorem ctX4_greatestListed (l : Launch) {D : va_G} {cI cT : ClassId} {aL : Nat} {p1 : Int64} {res : Int32} (hm : mX4_greatestListed p1 = some res) : Met l yX4_greatestListed wsX4_greatestListed rmX4_greatestListed (va_Pc [.long p1] (kW D cI cT [] (some aL) (fun _ => False))) (kR (.int res)) 0 0 (fun _ => False) :=
  km (by decide) rfl (Nat.le_of_ble_eq_true rfl) (fun p e s m below meth c ls C hB hl => bX4_greatestListed C p1 hB.1 (hB.2.2 aL rfl) hB.2.1 res (fun v pc ls h hd => kr_i C h hd) hm ls hl)
theorem wm_J6_bitCount_0f7a4_0 : Cond.constant RJ6 265 (1431655765) ∈ wsJ6_bitCount_0f7a4 := by decide +kernel
theorem wm_J6_bitCount_0f7a4_1 : Cond.constant RJ6 266 (858993459) ∈ wsJ6_bitCount_0f7a4 := by decide +kernel
theorem wm_J6_bitCount_0f7a4_2 : Cond.constant RJ6 267 (252645135) ∈ wsJ6_bitCount_0f7a4 := by decide +kernel
theorem kdJ6_bitCount_0f7a4 : yJ6_bitCount_0f7a4.cls ≠ "java/lang/invoke/MethodHandle" ∧ yJ6_bitCount_0f7a4.cls ≠ "java/lang/invoke/VarHandle" ∧ (parseMethodDescriptor yJ6_bitCount_0f7a4.desc).map (fun d => d.parameters.length) = some 1 := by decide +kernel
abbrev rmJ6_bitCount_0f7a4 : Room := { frames := 0, cells := 0, slots := 0, locals := 0 }
def mJ6_bitCount_0f7a4 (p1 : Int32) : Option Int32 := (md_let (p1 - ((((Int32.toUInt32 p1) >>> ((Int32.toUInt32 (1 : Int32)) &&& Int32.toUInt32 31)).toInt32) &&& (1431655765 : Int32))) (fun (x0_1 : Int32) => (md_let ((x0_1 &&& (858993459 : Int32)) + ((((Int32.toUInt32 x0_1) >>> ((Int32.toUInt32 (2 : Int32)) &&& Int32.toUInt32 31)).toInt32) &&& (858993459 : Int32))) (fun (x0_2 : Int32) => (md_let ((x0_2 + (((Int32.toUInt32 x0_2) >>> ((Int32.toUInt32 (4 : Int32)) &&& Int32.toUInt32 31)).toInt32)) &&& (252645135 : Int32)) (fun (x0_3 : Int32) => (md_let (x0_3 + (((Int32.toUInt32 x0_3) >>> ((Int32.toUInt32 (8 : Int32)) &&& Int32.toUInt32 31)).toInt32)) (fun (x0_4 : Int32) => (md_let (x0_4 + (((Int32.toUInt32 x0_4) >>> ((Int32.toUInt32 (16 : Int32)) &&& Int32.toUInt32 31)).toInt32)) (fun (x0_5 : Int32) => (some (x0_5 &&& (63 : Int32)))))))))))))
set_option maxHeartbeats 4000000 in
set_option maxRecDepth 100000 in
theorem bJ6_bitCount_0f7a4 {p : Program} {l : Launch} {e : Env} {s : State} {m : MethodId} {args : Array Value} {below : List Frame} {meth : Method} {c : Code} {Q : State → Prop} (C : kc p s m args meth c cJ6_bitCount_0f7a4 1 RJ6 yJ6_bitCount_0f7a4.name wsJ6_bitCount_0f7a4 (some .int)) (p1 : Int32) (res : Int32) (hQ : ∀ (v : Int32) (pc : Nat) (ls : Array Slot), some v = some res → decode cJ6_bitCount_0f7a4 pc = .ok (.ireturn, 1) → W p l e rmJ6_bitCount_0f7a4 s m args below meth c s.heap [] 0 0 Q (F0 m pc ls [.int v])) : mJ6_bitCount_0f7a4 p1 = some res → ∀ (ls : Array Slot), lv_has ls 1 [(0, .int p1)] → W p l e rmJ6_bitCount_0f7a4 s m args below meth c s.heap [] 0 0 Q (F0 m 0 ls []) := by
  intro h ls hl
  have C0 := C
  obtain ⟨hx, hb, hml, hown, hts, hr, hlk, hnm⟩ := C0
  rw [mJ6_bitCount_0f7a4] at h
  refine lv_iload_n hx hb dJ6_bitCount_0f7a4_0 rfl (lv_at hl 0 rfl) ?_
  refine lv_iload_n hx hb dJ6_bitCount_0f7a4_1 rfl (lv_at hl 0 rfl) ?_
  refine lv_iconst (v := 1) hx hb dJ6_bitCount_0f7a4_2 (by decide) ?_
  refine lv_iushr hx hb dJ6_bitCount_0f7a4_3 rfl ?_
  refine lv_ldcw hx hb hown (hts _ wm_J6_bitCount_0f7a4_0) dJ6_bitCount_0f7a4_4 ?_
  refine lv_iand hx hb dJ6_bitCount_0f7a4_7 ?_
  refine lv_isub hx hb dJ6_bitCount_0f7a4_8 ?_
  refine lv_topi (fun x0_1 ex0_1 => ?_)
  replace h := md_le ex0_1 h
  refine lv_istore_n (lv' := [(0, .int x0_1)]) hx hb dJ6_bitCount_0f7a4_9 rfl hl (by decide) rfl (fun ls hl => ?_)
  refine lv_iload_n hx hb dJ6_bitCount_0f7a4_10 rfl (lv_at hl 0 rfl) ?_
  refine lv_ldcw hx hb hown (hts _ wm_J6_bitCount_0f7a4_1) dJ6_bitCount_0f7a4_11 ?_
  refine lv_iand hx hb dJ6_bitCount_0f7a4_14 ?_
  refine lv_iload_n hx hb dJ6_bitCount_0f7a4_15 rfl (lv_at hl 0 rfl) ?_
  refine lv_iconst (v := 2) hx hb dJ6_bitCount_0f7a4_16 (by decide) ?_
  refine lv_iushr hx hb dJ6_bitCount_0f7a4_17 rfl ?_
  refine lv_ldcw hx hb hown (hts _ wm_J6_bitCount_0f7a4_1) dJ6_bitCount_0f7a4_18 ?_
  refine lv_iand hx hb dJ6_bitCount_0f7a4_21 ?_
  refine lv_iadd hx hb dJ6_bitCount_0f7a4_22 ?_
  refine lv_topi (fun x0_2 ex0_2 => ?_)
  replace h := md_le ex0_2 h
  refine lv_istore_n (lv' := [(0, .int x0_2)]) hx hb dJ6_bitCount_0f7a4_23 rfl hl (by decide) rfl (fun ls hl => ?_)
  refine lv_iload_n hx hb dJ6_bitCount_0f7a4_24 rfl (lv_at hl 0 rfl) ?_
  refine lv_iload_n hx hb dJ6_bitCount_0f7a4_25 rfl (lv_at hl 0 rfl) ?_
  refine lv_iconst (v := 4) hx hb dJ6_bitCount_0f7a4_26 (by decide) ?_
  refine lv_iushr hx hb dJ6_bitCount_0f7a4_27 rfl ?_
  refine lv_iadd hx hb dJ6_bitCount_0f7a4_28 ?_
  refine lv_ldcw hx hb hown (hts _ wm_J6_bitCount_0f7a4_2) dJ6_bitCount_0f7a4_29 ?_
  refine lv_iand hx hb dJ6_bitCount_0f7a4_32 ?_
  refine lv_topi (fun x0_3 ex0_3 => ?_)
  replace h := md_le ex0_3 h
  refine lv_istore_n (lv' := [(0, .int x0_3)]) hx hb dJ6_bitCount_0f7a4_33 rfl hl (by decide) rfl (fun ls hl => ?_)
  refine lv_iload_n hx hb dJ6_bitCount_0f7a4_34 rfl (lv_at hl 0 rfl) ?_
  refine lv_iload_n hx hb dJ6_bitCount_0f7a4_35 rfl (lv_at hl 0 rfl) ?_
  refine lv_bipush (v := 8) hx hb dJ6_bitCount_0f7a4_36 (by decide) ?_
  refine lv_iushr hx hb dJ6_bitCount_0f7a4_38 rfl ?_
  refine lv_iadd hx hb dJ6_bitCount_0f7a4_39 ?_
  refine lv_topi (fun x0_4 ex0_4 => ?_)
  replace h := md_le ex0_4 h
  refine lv_istore_n (lv' := [(0, .int x0_4)]) hx hb dJ6_bitCount_0f7a4_40 rfl hl (by decide) rfl (fun ls hl => ?_)
  refine lv_iload_n hx hb dJ6_bitCount_0f7a4_41 rfl (lv_at hl 0 rfl) ?_
  refine lv_iload_n hx hb dJ6_bitCount_0f7a4_42 rfl (lv_at hl 0 rfl) ?_
  refine lv_bipush (v := 16) hx hb dJ6_bitCount_0f7a4_43 (by decide) ?_
  refine lv_iushr hx hb dJ6_bitCount_0f7a4_45 rfl ?_
  refine lv_iadd hx hb dJ6_bitCount_0f7a4_46 ?_
  refine lv_topi (fun x0_5 ex0_5 => ?_)
  replace h := md_le ex0_5 h
  refine lv_istore_n (lv' := [(0, .int x0_5)]) hx hb dJ6_bitCount_0f7a4_47 rfl hl (by decide) rfl (fun ls hl => ?_)
  refine lv_iload_n hx hb dJ6_bitCount_0f7a4_48 rfl (lv_at hl 0 rfl) ?_
  refine lv_bipush (v := 63) hx hb dJ6_bitCount_0f7a4_49 (by decide) ?_
  refine lv_iand hx hb dJ6_bitCount_0f7a4_51 ?_
  exact hQ (x0_5 &&& (63 : Int32)) 52 ls h dJ6_bitCount_0f7a4_52
set_option maxHeartbeats 4000000 in
theorem ctJ6_bitCount_0f7a4 (l : Launch) {p1 : Int32} {res : Int32} (hm : mJ6_bitCount_0f7a4 p1 = some res) : Met l yJ6_bitCount_0f7a4 wsJ6_bitCount_0f7a4 rmJ6_bitCount_0f7a4 (va_Pc [.int p1] (fun _ => True)) (kR (.int res)) 0 0 (fun _ => False) :=
  km (by decide) rfl (Nat.le_of_ble_eq_true rfl) (fun p e s m below meth c ls C hB hl => bJ6_bitCount_0f7a4 C p1 res (fun v pc ls h hd => kr_i C h hd) hm ls hl)
end
section
theorem kdX2_isTable : yX2_isTable.cls ≠ "java/lang/invoke/MethodHandle" ∧ yX2_isTable.cls ≠ "java/lang/invoke/VarHandle" ∧ (parseMethodDescriptor yX2_isTable.desc).map (fun d => d.parameters.length) = some 2 := by decide +kernel
abbrev rmX2_isTable : Room := { frames := 0, cells := 0, slots := 0, locals := 0 }
def mX2_isTable (p1 : Int32) (p2 : Int32) : Option Int32 := (if p1 = 0 then (if p2 < (1 : Int32) then (some (0 : Int32)) else (if (59 : Int32) < p2 then (some (0 : Int32)) else (some (1 : Int32)))) else (if p1 ≤ 0 then (some (0 : Int32)) else (if (4 : Int32) ≤ p1 then (some (0 : Int32)) else (if p2 = 0 then (some (1 : Int32)) else (some (0 : Int32))))))
set_option maxHeartbeats 4000000 in
set_option maxRecDepth 100000 in
theorem bX2_isTable {p : Program} {l : Launch} {e : Env} {s : State} {m : MethodId} {args : Array Value} {below : List Frame} {meth : Method} {c : Code} {Q : State → Prop} (C : kc p s m args meth c cX2_isTable 2 RX2 yX2_isTable.name wsX2_isTable (some .boolean)) (p1 : Int32) (p2 : Int32) (res : Int32) (hQ : ∀ (v : Int32) (pc : Nat) (ls : Array Slot), v = 0 ∨ v = 1 → some v = some res → decode cX2_isTable pc = .ok (.ireturn, 1) → W p l e rmX2_isTable s m args below meth c s.heap [] 0 0 Q (F0 m pc ls [.int v])) : mX2_isTable p1 p2 = some res → ∀ (ls : Array Slot), lv_has ls 2 [(0, .int p1), (1, .int p2)] → W p l e rmX2_isTable s m args below meth c s.heap [] 0 0 Q (F0 m 0 ls []) := by
  intro h ls hl
  have C0 := C
  obtain ⟨hx, hb, hml, hown, hts, hr, hlk, hnm⟩ := C0
  rw [mX2_isTable] at h
  refine lv_iload_n hx hb dX2_isTable_0 rfl (lv_at hl 0 rfl) ?_
  refine lv_if_ne (tgt := 21) hx hb dX2_isTable_1 (by decide) (fun c1 => ?_) (fun c1 => ?_)
  · replace h := md_f c1 h
    refine lv_iload_n hx hb dX2_isTable_21 rfl (lv_at hl 0 rfl) ?_
    refine lv_if_le (tgt := 38) hx hb dX2_isTable_22 (by decide) (fun c2 => ?_) (fun c2 => ?_)
    · replace h := md_t c2 h
      refine lv_iconst (v := 0) hx hb dX2_isTable_38 (by decide) ?_
      exact hQ (0 : Int32) 39 ls (by decide) h dX2_isTable_39
    replace h := md_f c2 h
    refine lv_iload_n hx hb dX2_isTable_25 rfl (lv_at hl 0 rfl) ?_
    refine lv_iconst (v := 4) hx hb dX2_isTable_26 (by decide) ?_
    refine lv_icmp_ge (tgt := 38) hx hb dX2_isTable_27 (by decide) (fun c3 => ?_) (fun c3 => ?_)
    · replace h := md_t c3 h
      refine lv_iconst (v := 0) hx hb dX2_isTable_38 (by decide) ?_
      exact hQ (0 : Int32) 39 ls (by decide) h dX2_isTable_39
    replace h := md_f c3 h
    refine lv_iload_n hx hb dX2_isTable_30 rfl (lv_at hl 1 rfl) ?_
    refine lv_if_ne (tgt := 38) hx hb dX2_isTable_31 (by decide) (fun c4 => ?_) (fun c4 => ?_)
    · replace h := md_f c4 h
      refine lv_iconst (v := 0) hx hb dX2_isTable_38 (by decide) ?_
      exact hQ (0 : Int32) 39 ls (by decide) h dX2_isTable_39
    replace h := md_t c4 h
    refine lv_iconst (v := 1) hx hb dX2_isTable_34 (by decide) ?_
    refine lv_goto (tgt := 39) hx hb dX2_isTable_35 (by decide) ?_
    exact hQ (1 : Int32) 39 ls (by decide) h dX2_isTable_39
  replace h := md_t c1 h
  refine lv_iload_n hx hb dX2_isTable_4 rfl (lv_at hl 1 rfl) ?_
  refine lv_iconst (v := 1) hx hb dX2_isTable_5 (by decide) ?_
  refine lv_icmp_lt (tgt := 19) hx hb dX2_isTable_6 (by decide) (fun c5 => ?_) (fun c5 => ?_)
  · replace h := md_t c5 h
    refine lv_iconst (v := 0) hx hb dX2_isTable_19 (by decide) ?_
    exact hQ (0 : Int32) 20 ls (by decide) h dX2_isTable_20
  replace h := md_f c5 h
  refine lv_iload_n hx hb dX2_isTable_9 rfl (lv_at hl 1 rfl) ?_
  refine lv_bipush (v := 59) hx hb dX2_isTable_10 (by decide) ?_
  refine lv_icmp_gt (tgt := 19) hx hb dX2_isTable_12 (by decide) (fun c6 => ?_) (fun c6 => ?_)
  · replace h := md_t c6 h
    refine lv_iconst (v := 0) hx hb dX2_isTable_19 (by decide) ?_
    exact hQ (0 : Int32) 20 ls (by decide) h dX2_isTable_20
  replace h := md_f c6 h
  refine lv_iconst (v := 1) hx hb dX2_isTable_15 (by decide) ?_
  refine lv_goto (tgt := 20) hx hb dX2_isTable_16 (by decide) ?_
  exact hQ (1 : Int32) 20 ls (by decide) h dX2_isTable_20
set_option maxHeartbeats 4000000 in
theorem ctX2_isTable (l : Launch) {p1 : Int32} {p2 : Int32} {res : Int32} (hm : mX2_isTable p1 p2 = some res) : Met l yX2_isTable wsX2_isTable rmX2_isTable (va_Pc [.int p1, .int p2] (fun _ => True)) (kR (.int res)) 0 0 (fun _ => False) :=
  km (by decide) rfl (Nat.le_of_ble_eq_true rfl) (fun p e s m below meth c ls C hB hl => bX2_isTable C p1 p2 res (fun v pc ls hz h hd => kr_z C hz h hd) hm ls hl)
theorem kdX2_rowsOf : yX2_rowsOf.cls ≠ "java/lang/invoke/MethodHandle" ∧ yX2_rowsOf.cls ≠ "java/lang/invoke/VarHandle" ∧ (parseMethodDescriptor yX2_rowsOf.desc).map (fun d => d.parameters.length) = some 1 := by decide +kernel
abbrev rmX2_rowsOf : Room := { frames := 1, cells := 0, slots := 0, locals := 19 }
def mX2_rowsOf (p1 : Int32) : Option Int32 := (if p1 = (1 : Int32) then (Option.bind (mX4_listRows) (fun u2 => (some u2))) else (if p1 = (3 : Int32) then (some (40 : Int32)) else (some (59 : Int32))))
set_option maxHeartbeats 4000000 in
set_option maxRecDepth 100000 in
theorem bX2_rowsOf {p : Program} {l : Launch} {e : Env} {s : State} {m : MethodId} {args : Array Value} {below : List Frame} {meth : Method} {c : Code} {Q : State → Prop} (C : kc p s m args meth c cX2_rowsOf 1 RX2 yX2_rowsOf.name wsX2_rowsOf (some .int)) {D : va_G} {cI cT : ClassId} {aL : Nat} (p1 : Int32) (hK : va_K D vwCl (kTy cI cT) s) (hLz : kLz aL (fun _ => False) s s.heap) (hP : va_P D vwCl [] s.heap) (res : Int32) (hQ : ∀ (v : Int32) (pc : Nat) (ls : Array Slot), some v = some res → decode cX2_rowsOf pc = .ok (.ireturn, 1) → W p l e rmX2_rowsOf s m args below meth c s.heap [] 0 0 Q (F0 m pc ls [.int v])) : mX2_rowsOf p1 = some res → ∀ (ls : Array Slot), lv_has ls 1 [(0, .int p1)] → W p l e rmX2_rowsOf s m args below meth c s.heap [] 0 0 Q (F0 m 0 ls []) := by
  intro h ls hl
  have C0 := C
  obtain ⟨hx, hb, hml, hown, hts, hr, hlk, hnm⟩ := C0
  rw [mX2_rowsOf] at h
  refine lv_iload_n hx hb dX2_rowsOf_0 rfl (lv_at hl 0 rfl) ?_
  by_cases c1 : p1 = (1 : Int32)
  · replace h := md_t c1 h
    refine lv_lookup (tgt := 28) hx hb dX2_rowsOf_1 (by decide) (by rw [c1] <;> rfl) (by decide) ?_
    obtain ⟨u2, hu2, h⟩ := md_b h
    refine kS C (ctX4_listRows l  hu2) gX2_rowsOf_X4_listRows rfl kdX4_listRows ⟨rfl, rfl⟩ ⟨by decide, by decide⟩ kW_blind (kW_use hK va_P0 (kL_ro hLz (fun _ q => q))) rfl hl [] rfl (Nat.le_of_ble_eq_true rfl) dX2_rowsOf_28 ⟨by decide, by decide⟩ ?_
    exact hQ u2 31 ls h dX2_rowsOf_31
  replace h := md_f c1 h
  by_cases c3 : p1 = (3 : Int32)
  · replace h := md_t c3 h
    refine lv_lookup (tgt := 32) hx hb dX2_rowsOf_1 (by decide) (by rw [c3] <;> rfl) (by decide) ?_
    refine lv_bipush (v := 40) hx hb dX2_rowsOf_32 (by decide) ?_
    exact hQ (40 : Int32) 34 ls h dX2_rowsOf_34
  replace h := md_f c3 h
  have tc1 := lv_neT (a := 1) c1 (by decide)
  have tc3 := lv_neT (a := 3) c3 (by decide)
  refine lv_lookup (tgt := 35) (off := 34) hx hb dX2_rowsOf_1 (by decide) (by rw [lv_osw c1 (by decide)]; rw [lv_osw c3 (by decide)]; rfl) (by decide) ?_
  refine lv_bipush (v := 59) hx hb dX2_rowsOf_35 (by decide) ?_
  exact hQ (59 : Int32) 37 ls h dX2_rowsOf_37
set_option maxHeartbeats 4000000 in
theorem ctX2_rowsOf (l : Launch) {D : va_G} {cI cT : ClassId} {aL : Nat} {p1 : Int32} {res : Int32} (hm : mX2_rowsOf p1 = some res) : Met l yX2_rowsOf wsX2_rowsOf rmX2_rowsOf (va_Pc [.int p1] (kW D cI cT [] (some aL) (fun _ => False))) (kR (.int res)) 0 0 (fun _ => False) :=
  km (by decide) rfl (Nat.le_of_ble_eq_true rfl) (fun p e s m below meth c ls C hB hl => bX2_rowsOf C p1 hB.1 (hB.2.2 aL rfl) hB.2.1 res (fun v pc ls h hd => kr_i C h hd) hm ls hl)
theorem kdX2_listColumn : yX2_listColumn.cls ≠ "java/lang/invoke/MethodHandle" ∧ yX2_listColumn.cls ≠ "java/lang/invoke/VarHandle" ∧ (parseMethodDescriptor yX2_listColumn.desc).map (fun d => d.parameters.length) = some 2 := by decide +kernel
abbrev rmX2_listColumn : Room := { frames := 3, cells := 0, slots := 0, locals := 68 }
def mX2_listColumn (p1 : Int32) (p2 : Int32) : Option Int32 := (Option.bind (mX4_listed p1) (fun u1 => (if p2 = 0 then (some u1) else (Option.bind (mX4_turnOver (Int32.toInt64 u1)) (fun u3 => (some (Int64.toInt32 u3)))))))
set_option maxHeartbeats 4000000 in
set_option maxRecDepth 100000 in
theorem bX2_listColumn {p : Program} {l : Launch} {e : Env} {s : State} {m : MethodId} {args : Array Value} {below : List Frame} {meth : Method} {c : Code} {Q : State → Prop} (C : kc p s m args meth c cX2_listColumn 3 RX2 yX2_listColumn.name wsX2_listColumn (some .int)) {D : va_G} {cI cT : ClassId} {aL : Nat} (p1 : Int32) (p2 : Int32) (hK : va_K D vwCl (kTy cI cT) s) (hLz : kLz aL (fun _ => False) s s.heap) (hP : va_P D vwCl [] s.heap) (res : Int32) (hQ : ∀ (v : Int32) (pc : Nat) (ls : Array Slot), some v = some res → decode cX2_listColumn pc = .ok (.ireturn, 1) → W p l e rmX2_listColumn s m args below meth c s.heap [] 0 0 Q (F0 m pc ls [.int v])) : mX2_listColumn p1 p2 = some res → ∀ (ls : Array Slot), lv_has ls 3 [(0, .int p1), (1, .int p2)] → W p l e rmX2_listColumn s m args below meth c s.heap [] 0 0 Q (F0 m 0 ls []) := by
  intro h ls hl
  have C0 := C
  obtain ⟨hx, hb, hml, hown, hts, hr, hlk, hnm⟩ := C0
  rw [mX2_listColumn] at h
  refine lv_iload_n hx hb dX2_listColumn_0 rfl (lv_at hl 0 rfl) ?_
  obtain ⟨u1, hu1, h⟩ := md_b h
  refine kS C (ctX4_listed l  hu1) gX2_listColumn_X4_listed rfl kdX4_listed ⟨rfl, rfl⟩ ⟨by decide, by decide⟩ kW_blind (kW_use hK va_P0 (kL_ro hLz (fun _ q => q))) rfl hl [] rfl (Nat.le_of_ble_eq_true rfl) dX2_listColumn_1 ⟨by decide, by decide⟩ ?_
  refine lv_istore_n (lv' := [(2, .int u1), (0, .int p1), (1, .int p2)]) hx hb dX2_listColumn_4 rfl hl (by decide) rfl (fun ls hl => ?_)
  refine lv_iload_n hx hb dX2_listColumn_5 rfl (lv_at hl 2 rfl) ?_
  refine lv_if_ne (tgt := 13) hx hb dX2_listColumn_6 (by decide) (fun c2 => ?_) (fun c2 => ?_)
  · replace h := md_f c2 h
    refine lv_iload_n hx hb dX2_listColumn_13 rfl (lv_at hl 0 rfl) ?_
    refine lv_i2l hx hb dX2_listColumn_14 rfl ?_
    obtain ⟨u3, hu3, h⟩ := md_b h
    refine kS C (ctX4_turnOver l  hu3) gX2_listColumn_X4_turnOver rfl kdX4_turnOver ⟨rfl, rfl⟩ ⟨by decide, by decide⟩ kT_blind (fun _ _ _ => trivial) rfl hl [] rfl (Nat.le_of_ble_eq_true rfl) dX2_listColumn_15 ⟨by decide, by decide⟩ ?_
    refine lv_l2i hx hb dX2_listColumn_18 rfl ?_
    exact hQ (Int64.toInt32 u3) 19 ls h dX2_listColumn_19
  replace h := md_t c2 h
  refine lv_iload_n hx hb dX2_listColumn_9 rfl (lv_at hl 0 rfl) ?_
  refine lv_goto (tgt := 19) hx hb dX2_listColumn_10 (by decide) ?_
  exact hQ u1 19 ls h dX2_listColumn_19
set_option maxHeartbeats 4000000 in
theorem ctX2_listColumn (l : Launch) {D : va_G} {cI cT : ClassId} {aL : Nat} {p1 : Int32} {p2 : Int32} {res : Int32} (hm : mX2_listColumn p1 p2 = some res) : Met l yX2_listColumn wsX2_listColumn rmX2_listColumn (va_Pc [.int p1, .int p2] (kW D cI cT [] (some aL) (fun _ => False))) (kR (.int res)) 0 0 (fun _ => False) :=
  km (by decide) rfl (Nat.le_of_ble_eq_true rfl) (fun p e s m below meth c ls C hB hl => bX2_listColumn C p1 p2 hB.1 (hB.2.2 aL rfl) hB.2.1 res (fun v pc ls h hd => kr_i C h hd) hm ls hl)
theorem kdX2_number : yX2_number.cls ≠ "java/lang/invoke/MethodHandle" ∧ yX2_number.cls ≠ "java/lang/invoke/VarHandle" ∧ (parseMethodDescriptor yX2_number.desc).map (fun d => d.parameters.length) = some 4 := by decide +kernel
abbrev rmX2_number : Room := { frames := 4, cells := 0, slots := 0, locals := 90 }
def mX2_number (p1 : Int32) (p2 : Int32) (p3 : Int32) (p4 : Int32) : Option Int32 := (md_let (p3 + (1 : Int32)) (fun (x4_1 : Int32) => (if p1 = (0 : Int32) then (if p4 = 0 then (some p2) else (if p4 = (1 : Int32) then (some x4_1) else (some (p2 * x4_1)))) else (if p1 = (1 : Int32) then (if p4 = (2 : Int32) then (some (1 : Int32)) else (Option.bind (mX2_listColumn p3 p4) (fun u7 => (some u7)))) else (if p1 = (2 : Int32) then (if (2 : Int32) ≤ p4 then (some (x4_1 * x4_1)) else (some x4_1)) else (if p4 = 0 then (some x4_1) else (if p4 = (1 : Int32) then (some (x4_1 * x4_1)) else (some ((x4_1 * x4_1) * x4_1)))))))))
set_option maxHeartbeats 4000000 in
set_option maxRecDepth 100000 in
theorem bX2_number {p : Program} {l : Launch} {e : Env} {s : State} {m : MethodId} {args : Array Value} {below : List Frame} {meth : Method} {c : Code} {Q : State → Prop} (C : kc p s m args meth c cX2_number 5 RX2 yX2_number.name wsX2_number (some .int)) {D : va_G} {cI cT : ClassId} {aL : Nat} (p1 : Int32) (p2 : Int32) (p3 : Int32) (p4 : Int32) (hK : va_K D vwCl (kTy cI cT) s) (hLz : kLz aL (fun _ => False) s s.heap) (hP : va_P D vwCl [] s.heap) (res : Int32) (hQ : ∀ (v : Int32) (pc : Nat) (ls : Array Slot), some v = some res → decode cX2_number pc = .ok (.ireturn, 1) → W p l e rmX2_number s m args below meth c s.heap [] 0 0 Q (F0 m pc ls [.int v])) : mX2_number p1 p2 p3 p4 = some res → ∀ (ls : Array Slot), lv_has ls 5 [(0, .int p1), (1, .int p2), (2, .int p3), (3, .int p4)] → W p l e rmX2_number s m args below meth c s.heap [] 0 0 Q (F0 m 0 ls []) := by
  intro h ls hl
  have C0 := C
  obtain ⟨hx, hb, hml, hown, hts, hr, hlk, hnm⟩ := C0
  rw [mX2_number] at h
  refine lv_iload_n hx hb dX2_number_0 rfl (lv_at hl 2 rfl) ?_
  refine lv_iconst (v := 1) hx hb dX2_number_1 (by decide) ?_
  refine lv_iadd hx hb dX2_number_2 ?_
  refine lv_topi (fun x4_1 ex4_1 => ?_)
  replace h := md_le ex4_1 h
  refine lv_istore (lv' := [(4, .int x4_1), (0, .int p1), (1, .int p2), (2, .int p3), (3, .int p4)]) hx hb dX2_number_3 hl (by decide) rfl (fun ls hl => ?_)
  refine lv_iload_n hx hb dX2_number_5 rfl (lv_at hl 1 rfl) ?_
  by_cases c2 : p1 = (0 : Int32)
  · replace h := md_t c2 h
    refine lv_tableIn (tgt := 32) hx hb dX2_number_6 (by rw [c2]; decide) (by rw [c2]; decide) (by rw [c2]; rfl) (by decide) ?_
    refine lv_iload_n hx hb dX2_number_32 rfl (lv_at hl 4 rfl) ?_
    refine lv_if_ne (tgt := 40) hx hb dX2_number_33 (by decide) (fun c3 => ?_) (fun c3 => ?_)
    · replace h := md_f c3 h
      refine lv_iload_n hx hb dX2_number_40 rfl (lv_at hl 4 rfl) ?_
      refine lv_iconst (v := 1) hx hb dX2_number_41 (by decide) ?_
      refine lv_icmp_ne (tgt := 50) hx hb dX2_number_42 (by decide) (fun c4 => ?_) (fun c4 => ?_)
      · replace h := md_f c4 h
        refine lv_iload_n hx hb dX2_number_50 rfl (lv_at hl 2 rfl) ?_
        refine lv_iload hx hb dX2_number_51 (lv_at hl 0 rfl) ?_
        refine lv_imul hx hb dX2_number_53 ?_
        exact hQ (p2 * x4_1) 54 ls h dX2_number_54
      replace h := md_t c4 h
      refine lv_iload hx hb dX2_number_45 (lv_at hl 0 rfl) ?_
      refine lv_goto (tgt := 54) hx hb dX2_number_47 (by decide) ?_
      exact hQ x4_1 54 ls h dX2_number_54
    replace h := md_t c3 h
    refine lv_iload_n hx hb dX2_number_36 rfl (lv_at hl 2 rfl) ?_
    refine lv_goto (tgt := 54) hx hb dX2_number_37 (by decide) ?_
    exact hQ p2 54 ls h dX2_number_54
  replace h := md_f c2 h
  by_cases c5 : p1 = (1 : Int32)
  · replace h := md_t c5 h
    refine lv_tableIn (tgt := 55) hx hb dX2_number_6 (by rw [c5]; decide) (by rw [c5]; decide) (by rw [c5]; rfl) (by decide) ?_
    refine lv_iload_n hx hb dX2_number_55 rfl (lv_at hl 4 rfl) ?_
    refine lv_iconst (v := 2) hx hb dX2_number_56 (by decide) ?_
    refine lv_icmp_ne (tgt := 64) hx hb dX2_number_57 (by decide) (fun c6 => ?_) (fun c6 => ?_)
    · replace h := md_f c6 h
      refine lv_iload_n hx hb dX2_number_64 rfl (lv_at hl 3 rfl) ?_
      refine lv_iload_n hx hb dX2_number_65 rfl (lv_at hl 4 rfl) ?_
      obtain ⟨u7, hu7, h⟩ := md_b h
      refine kS C (ctX2_listColumn l  hu7) gX2_number_X2_listColumn rfl kdX2_listColumn ⟨rfl, rfl⟩ ⟨by decide, by decide⟩ kW_blind (kW_use hK va_P0 (kL_ro hLz (fun _ q => q))) rfl hl [] rfl (Nat.le_of_ble_eq_true rfl) dX2_number_66 ⟨by decide, by decide⟩ ?_
      exact hQ u7 69 ls h dX2_number_69
    replace h := md_t c6 h
    refine lv_iconst (v := 1) hx hb dX2_number_60 (by decide) ?_
    refine lv_goto (tgt := 69) hx hb dX2_number_61 (by decide) ?_
    exact hQ (1 : Int32) 69 ls h dX2_number_69
  replace h := md_f c5 h
  by_cases c8 : p1 = (2 : Int32)
  · replace h := md_t c8 h
    refine lv_tableIn (tgt := 70) hx hb dX2_number_6 (by rw [c8]; decide) (by rw [c8]; decide) (by rw [c8]; rfl) (by decide) ?_
    refine lv_iload_n hx hb dX2_number_70 rfl (lv_at hl 4 rfl) ?_
    refine lv_iconst (v := 2) hx hb dX2_number_71 (by decide) ?_
    refine lv_icmp_ge (tgt := 80) hx hb dX2_number_72 (by decide) (fun c9 => ?_) (fun c9 => ?_)
    · replace h := md_t c9 h
      refine lv_iload hx hb dX2_number_80 (lv_at hl 0 rfl) ?_
      refine lv_iload hx hb dX2_number_82 (lv_at hl 0 rfl) ?_
      refine lv_imul hx hb dX2_number_84 ?_
      exact hQ (x4_1 * x4_1) 85 ls h dX2_number_85
    replace h := md_f c9 h
    refine lv_iload hx hb dX2_number_75 (lv_at hl 0 rfl) ?_
    refine lv_goto (tgt := 85) hx hb dX2_number_77 (by decide) ?_
    exact hQ x4_1 85 ls h dX2_number_85
  replace h := md_f c8 h
  have tc2 := lv_neT (a := 0) c2 (by decide)
  have tc5 := lv_neT (a := 1) c5 (by decide)
  have tc8 := lv_neT (a := 2) c8 (by decide)
  refine lv_tableOut (tgt := 86) hx hb dX2_number_6 (by omega) (by decide) ?_
  refine lv_iload_n hx hb dX2_number_86 rfl (lv_at hl 4 rfl) ?_
  refine lv_if_ne (tgt := 95) hx hb dX2_number_87 (by decide) (fun c10 => ?_) (fun c10 => ?_)
  · replace h := md_f c10 h
    refine lv_iload_n hx hb dX2_number_95 rfl (lv_at hl 4 rfl) ?_
    refine lv_iconst (v := 1) hx hb dX2_number_96 (by decide) ?_
    refine lv_icmp_ne (tgt := 108) hx hb dX2_number_97 (by decide) (fun c11 => ?_) (fun c11 => ?_)
    · replace h := md_f c11 h
      refine lv_iload hx hb dX2_number_108 (lv_at hl 0 rfl) ?_
      refine lv_iload hx hb dX2_number_110 (lv_at hl 0 rfl) ?_
      refine lv_imul hx hb dX2_number_112 ?_
      refine lv_iload hx hb dX2_number_113 (lv_at hl 0 rfl) ?_
      refine lv_imul hx hb dX2_number_115 ?_
      exact hQ ((x4_1 * x4_1) * x4_1) 116 ls h dX2_number_116
    replace h := md_t c11 h
    refine lv_iload hx hb dX2_number_100 (lv_at hl 0 rfl) ?_
    refine lv_iload hx hb dX2_number_102 (lv_at hl 0 rfl) ?_
    refine lv_imul hx hb dX2_number_104 ?_
    refine lv_goto (tgt := 116) hx hb dX2_number_105 (by decide) ?_
    exact hQ (x4_1 * x4_1) 116 ls h dX2_number_116
  replace h := md_t c10 h
  refine lv_iload hx hb dX2_number_90 (lv_at hl 0 rfl) ?_
  refine lv_goto (tgt := 116) hx hb dX2_number_92 (by decide) ?_
  exact hQ x4_1 116 ls h dX2_number_116
set_option maxHeartbeats 4000000 in
theorem ctX2_number (l : Launch) {D : va_G} {cI cT : ClassId} {aL : Nat} {p1 : Int32} {p2 : Int32} {p3 : Int32} {p4 : Int32} {res : Int32} (hm : mX2_number p1 p2 p3 p4 = some res) : Met l yX2_number wsX2_number rmX2_number (va_Pc [.int p1, .int p2, .int p3, .int p4] (kW D cI cT [] (some aL) (fun _ => False))) (kR (.int res)) 0 0 (fun _ => False) :=
  km (by decide) rfl (Nat.le_of_ble_eq_true rfl) (fun p e s m below meth c ls C hB hl => bX2_number C p1 p2 p3 p4 hB.1 (hB.2.2 aL rfl) hB.2.1 res (fun v pc ls h hd => kr_i C h hd) hm ls hl)
end
section
theorem wm_X5_write_0 : Cond.fieldLink RX5 19 "SixtyTablet$Working" "lines" "I" ∈ wsX5_write := by decide +kernel
theorem wm_X5_write_1 : Cond.fieldLink RX5 9 "SixtyTablet$Working" "ofX" "[I" ∈ wsX5_write := by decide +kernel
theorem wm_X5_write_2 : Cond.fieldLink RX5 13 "SixtyTablet$Working" "ofY" "[I" ∈ wsX5_write := by decide +kernel
theorem wm_X5_write_3 : Cond.fieldLink RX5 16 "SixtyTablet$Working" "places" "[I" ∈ wsX5_write := by decide +kernel
theorem wi_X5_write_X5 : ∀ w ∈ wsX50, w ∈ wsX5_write := by decide +kernel
theorem kdvX5_write : yX5_write.cls = RX5 ∧ yX5_write.cls ≠ "java/lang/invoke/MethodHandle" ∧ yX5_write.cls ≠ "java/lang/invoke/VarHandle" ∧ (parseMethodDescriptor yX5_write.desc).map (fun d => d.parameters.length) = some 3 := by decide +kernel
abbrev rmX5_write : Room := { frames := 0, cells := 0, slots := 0, locals := 0 }
def mX5_write (w_ofX : Nat → Int32) (w_ofY : Nat → Int32) (w_places : Nat → Int32) (w_lines : Int32) (p1 : Int32) (p2 : Int32) (p3 : Int32) : Option ((Nat → Int32) × (Nat → Int32) × (Nat → Int32) × Int32) := (if p1 = 0 then (some (w_ofX, w_ofY, w_places, w_lines)) else (if p2 = 0 then (some (w_ofX, w_ofY, w_places, w_lines)) else (if w_lines < 0 then (some (w_ofX, w_ofY, w_places, w_lines)) else (if w_lines < (16 : Int32) then (if w_lines < 0 ∨ 16 ≤ (Int32.toNatClampNeg w_lines) then none else (md_let (upd w_ofX (Int32.toNatClampNeg w_lines) p1) (fun (w_ofX_5 : Nat → Int32) => (if w_lines < 0 ∨ 16 ≤ (Int32.toNatClampNeg w_lines) then none else (md_let (upd w_ofY (Int32.toNatClampNeg w_lines) p2) (fun (w_ofY_6 : Nat → Int32) => (if w_lines < 0 ∨ 16 ≤ (Int32.toNatClampNeg w_lines) then none else (md_let (upd w_places (Int32.toNatClampNeg w_lines) p3) (fun (w_places_7 : Nat → Int32) => (md_let (w_lines + (1 : Int32)) (fun (f_8 : Int32) => (some (w_ofX_5, w_ofY_6, w_places_7, f_8))))))))))))) else (some (w_ofX, w_ofY, w_places, w_lines))))))
set_option maxHeartbeats 4000000 in
set_option maxRecDepth 100000 in
theorem bX5_write {p : Program} {l : Launch} {e : Env} {s : State} {m : MethodId} {args : Array Value} {below : List Frame} {meth : Method} {c : Code} {Q : State → Prop} (C : kc p s m args meth c cX5_write 4 RX5 yX5_write.name wsX5_write none) {D : va_G} {cI cT : ClassId} {wo w_ofX_a w_ofY_a w_places_a : Nat} (p1 : Int32) (p2 : Int32) (p3 : Int32) (hK : va_K D vwCl (kTy cI cT) s) (hnd : ([wo, w_ofX_a, w_ofY_a, w_places_a] : List Nat).Nodup) (w_ofX : Nat → Int32) (w_ofY : Nat → Int32) (w_places : Nat → Int32) (w_lines : Int32) (res : ((Nat → Int32) × (Nat → Int32) × (Nat → Int32) × Int32)) (hQ : ∀ (w_ofX : Nat → Int32) (w_ofY : Nat → Int32) (w_places : Nat → Int32) (w_lines : Int32) (H : Heap) (locs : List Loc) (pc : Nat) (ls : Array Slot), some (w_ofX, w_ofY, w_places, w_lines) = some res → va_P D vwCl [(wo, .inr (2, [.ref w_ofX_a, .ref w_ofY_a, .ref w_places_a, .int w_lines])), (w_ofX_a, .inl (cI, 16, .inl w_ofX)), (w_ofY_a, .inl (cI, 16, .inl w_ofY)), (w_places_a, .inl (cI, 16, .inl w_places))] H → va_S (fun q => q ∈ ([wo, w_ofX_a, w_ofY_a, w_places_a] : List Nat)) s.heap H locs → decode cX5_write pc = .ok (.return_, 1) → W p l e rmX5_write s m args below meth c H locs 0 0 Q (F0 m pc ls [])) : mX5_write w_ofX w_ofY w_places w_lines p1 p2 p3 = some res → ∀ (H : Heap) (locs : List Loc), va_P D vwCl [(wo, .inr (2, [.ref w_ofX_a, .ref w_ofY_a, .ref w_places_a, .int w_lines])), (w_ofX_a, .inl (cI, 16, .inl w_ofX)), (w_ofY_a, .inl (cI, 16, .inl w_ofY)), (w_places_a, .inl (cI, 16, .inl w_places))] H → va_S (fun q => q ∈ ([wo, w_ofX_a, w_ofY_a, w_places_a] : List Nat)) s.heap H locs → ∀ (ls : Array Slot), lv_has ls 4 [(0, .ref wo), (1, .int p1), (2, .int p2), (3, .int p3)] → W p l e rmX5_write s m args below meth c H locs 0 0 Q (F0 m 0 ls []) := by
  intro h H locs hP hS ls hl
  have C0 := C
  obtain ⟨hx, hb, hml, hown, hts, hr, hlk, hnm⟩ := C0
  rw [mX5_write] at h
  refine lv_iload_n hx hb dX5_write_0 rfl (lv_at hl 1 rfl) ?_
  refine lv_if_eq (tgt := 24) hx hb dX5_write_1 (by decide) (fun c1 => ?_) (fun c1 => ?_)
  · replace h := md_t c1 h
    exact hQ w_ofX w_ofY w_places w_lines H locs 24 ls h hP hS dX5_write_24
  replace h := md_f c1 h
  refine lv_iload_n hx hb dX5_write_4 rfl (lv_at hl 2 rfl) ?_
  refine lv_if_eq (tgt := 24) hx hb dX5_write_5 (by decide) (fun c2 => ?_) (fun c2 => ?_)
  · replace h := md_t c2 h
    exact hQ w_ofX w_ofY w_places w_lines H locs 24 ls h hP hS dX5_write_24
  replace h := md_f c2 h
  refine lv_aload_n hx hb dX5_write_8 rfl (lv_at hl 0 rfl) ?_
  refine va_get (D := D) (ci := 2) (v := .int w_lines) (C := RX5) (T := TX5) (N := 4) hx hb hts wi_X5_write_X5 hown hK hP 0 rfl rfl 3 (by decide) (hts _ wm_X5_write_0) (fun _ h9 => h9) rfl dX5_write_9 ?_
  refine lv_if_lt (tgt := 24) hx hb dX5_write_12 (by decide) (fun c3 => ?_) (fun c3 => ?_)
  · replace h := md_t c3 h
    exact hQ w_ofX w_ofY w_places w_lines H locs 24 ls h hP hS dX5_write_24
  replace h := md_f c3 h
  refine lv_aload_n hx hb dX5_write_15 rfl (lv_at hl 0 rfl) ?_
  refine va_get (D := D) (ci := 2) (v := .int w_lines) (C := RX5) (T := TX5) (N := 4) hx hb hts wi_X5_write_X5 hown hK hP 0 rfl rfl 3 (by decide) (hts _ wm_X5_write_0) (fun _ h9 => h9) rfl dX5_write_16 ?_
  refine lv_bipush (v := 16) hx hb dX5_write_19 (by decide) ?_
  refine lv_icmp_lt (tgt := 25) hx hb dX5_write_21 (by decide) (fun c4 => ?_) (fun c4 => ?_)
  · replace h := md_t c4 h
    refine lv_aload_n hx hb dX5_write_25 rfl (lv_at hl 0 rfl) ?_
    refine va_get (D := D) (ci := 2) (v := .ref w_ofX_a) (C := RX5) (T := TX5) (N := 4) hx hb hts wi_X5_write_X5 hown hK hP 0 rfl rfl 0 (by decide) (hts _ wm_X5_write_1) (fun _ h9 => h9) rfl dX5_write_26 ?_
    refine lv_aload_n hx hb dX5_write_29 rfl (lv_at hl 0 rfl) ?_
    refine va_get (D := D) (ci := 2) (v := .int w_lines) (C := RX5) (T := TX5) (N := 4) hx hb hts wi_X5_write_X5 hown hK hP 0 rfl rfl 3 (by decide) (hts _ wm_X5_write_0) (fun _ h9 => h9) rfl dX5_write_30 ?_
    refine lv_iload_n hx hb dX5_write_33 rfl (lv_at hl 1 rfl) ?_
    obtain ⟨hin5, h⟩ := md_g h
    refine va_iast hx hb hK hP (kD hnd rfl) hS 1 0 rfl rfl hin5 dX5_write_34 (fun H locs hP _ hS => ?_)
    have hP : va_P D vwCl [(wo, .inr (2, [.ref w_ofX_a, .ref w_ofY_a, .ref w_places_a, .int w_lines])), (w_ofX_a, .inl (cI, 16, .inl (upd w_ofX (Int32.toNatClampNeg w_lines) p1))), (w_ofY_a, .inl (cI, 16, .inl w_ofY)), (w_places_a, .inl (cI, 16, .inl w_places))] H := hP
    obtain ⟨w_ofX_5, ew_ofX_5⟩ : ∃ y : Nat → Int32, y = (upd w_ofX (Int32.toNatClampNeg w_lines) p1) := ⟨_, rfl⟩
    replace h := md_le ew_ofX_5 h
    rw [← ew_ofX_5] at hP
    refine lv_aload_n hx hb dX5_write_35 rfl (lv_at hl 0 rfl) ?_
    refine va_get (D := D) (ci := 2) (v := .ref w_ofY_a) (C := RX5) (T := TX5) (N := 4) hx hb hts wi_X5_write_X5 hown hK hP 0 rfl rfl 1 (by decide) (hts _ wm_X5_write_2) (fun _ h9 => h9) rfl dX5_write_36 ?_
    refine lv_aload_n hx hb dX5_write_39 rfl (lv_at hl 0 rfl) ?_
    refine va_get (D := D) (ci := 2) (v := .int w_lines) (C := RX5) (T := TX5) (N := 4) hx hb hts wi_X5_write_X5 hown hK hP 0 rfl rfl 3 (by decide) (hts _ wm_X5_write_0) (fun _ h9 => h9) rfl dX5_write_40 ?_
    refine lv_iload_n hx hb dX5_write_43 rfl (lv_at hl 2 rfl) ?_
    obtain ⟨hin6, h⟩ := md_g h
    refine va_iast hx hb hK hP (kD hnd rfl) hS 2 0 rfl rfl hin6 dX5_write_44 (fun H locs hP _ hS => ?_)
    have hP : va_P D vwCl [(wo, .inr (2, [.ref w_ofX_a, .ref w_ofY_a, .ref w_places_a, .int w_lines])), (w_ofX_a, .inl (cI, 16, .inl w_ofX_5)), (w_ofY_a, .inl (cI, 16, .inl (upd w_ofY (Int32.toNatClampNeg w_lines) p2))), (w_places_a, .inl (cI, 16, .inl w_places))] H := hP
    obtain ⟨w_ofY_6, ew_ofY_6⟩ : ∃ y : Nat → Int32, y = (upd w_ofY (Int32.toNatClampNeg w_lines) p2) := ⟨_, rfl⟩
    replace h := md_le ew_ofY_6 h
    rw [← ew_ofY_6] at hP
    refine lv_aload_n hx hb dX5_write_45 rfl (lv_at hl 0 rfl) ?_
    refine va_get (D := D) (ci := 2) (v := .ref w_places_a) (C := RX5) (T := TX5) (N := 4) hx hb hts wi_X5_write_X5 hown hK hP 0 rfl rfl 2 (by decide) (hts _ wm_X5_write_3) (fun _ h9 => h9) rfl dX5_write_46 ?_
    refine lv_aload_n hx hb dX5_write_49 rfl (lv_at hl 0 rfl) ?_
    refine va_get (D := D) (ci := 2) (v := .int w_lines) (C := RX5) (T := TX5) (N := 4) hx hb hts wi_X5_write_X5 hown hK hP 0 rfl rfl 3 (by decide) (hts _ wm_X5_write_0) (fun _ h9 => h9) rfl dX5_write_50 ?_
    refine lv_iload_n hx hb dX5_write_53 rfl (lv_at hl 3 rfl) ?_
    obtain ⟨hin7, h⟩ := md_g h
    refine va_iast hx hb hK hP (kD hnd rfl) hS 3 0 rfl rfl hin7 dX5_write_54 (fun H locs hP _ hS => ?_)
    have hP : va_P D vwCl [(wo, .inr (2, [.ref w_ofX_a, .ref w_ofY_a, .ref w_places_a, .int w_lines])), (w_ofX_a, .inl (cI, 16, .inl w_ofX_5)), (w_ofY_a, .inl (cI, 16, .inl w_ofY_6)), (w_places_a, .inl (cI, 16, .inl (upd w_places (Int32.toNatClampNeg w_lines) p3)))] H := hP
    obtain ⟨w_places_7, ew_places_7⟩ : ∃ y : Nat → Int32, y = (upd w_places (Int32.toNatClampNeg w_lines) p3) := ⟨_, rfl⟩
    replace h := md_le ew_places_7 h
    rw [← ew_places_7] at hP
    refine lv_aload_n hx hb dX5_write_55 rfl (lv_at hl 0 rfl) ?_
    refine lv_dup hx hb dX5_write_56 rfl ?_
    refine va_get (D := D) (ci := 2) (v := .int w_lines) (C := RX5) (T := TX5) (N := 4) hx hb hts wi_X5_write_X5 hown hK hP 0 rfl rfl 3 (by decide) (hts _ wm_X5_write_0) (fun _ h9 => h9) rfl dX5_write_57 ?_
    refine lv_iconst (v := 1) hx hb dX5_write_60 (by decide) ?_
    refine lv_iadd hx hb dX5_write_61 ?_
    refine lv_topi (fun f_8 ef_8 => ?_)
    replace h := md_le ef_8 h
    refine va_put (D := D) (ci := 2) (v := .int f_8) (ty := .int) (C := RX5) (T := TX5) (N := 4) hx hb hts wi_X5_write_X5 tyX5 tyX5_ok nmX5 hown hK hP (kD hnd rfl) hS 0 rfl rfl 3 (by decide) (hts _ wm_X5_write_0) (fun _ h9 => h9) rfl (by decide +kernel) rfl rfl (Nat.le_of_ble_eq_true rfl) dX5_write_62 (fun H locs hP _ hS => ?_)
    have hP : va_P D vwCl [(wo, .inr (2, [.ref w_ofX_a, .ref w_ofY_a, .ref w_places_a, .int f_8])), (w_ofX_a, .inl (cI, 16, .inl w_ofX_5)), (w_ofY_a, .inl (cI, 16, .inl w_ofY_6)), (w_places_a, .inl (cI, 16, .inl w_places_7))] H := hP
    exact hQ w_ofX_5 w_ofY_6 w_places_7 f_8 H locs 65 ls h hP hS dX5_write_65
  replace h := md_f c4 h
  exact hQ w_ofX w_ofY w_places w_lines H locs 24 ls h hP hS dX5_write_24
set_option maxHeartbeats 4000000 in
theorem ctX5_write (l : Launch) {D : va_G} {cI cT : ClassId} {wo w_ofX_a w_ofY_a w_places_a : Nat} {w_ofX : Nat → Int32} {w_ofY : Nat → Int32} {w_places : Nat → Int32} {w_lines : Int32} {p1 : Int32} {p2 : Int32} {p3 : Int32} {res : ((Nat → Int32) × (Nat → Int32) × (Nat → Int32) × Int32)} (hnd : ([wo, w_ofX_a, w_ofY_a, w_places_a] : List Nat).Nodup) (hm : mX5_write w_ofX w_ofY w_places w_lines p1 p2 p3 = some res) : Met l yX5_write wsX5_write rmX5_write (va_Pc [.ref wo, .int p1, .int p2, .int p3] (kW D cI cT [(wo, .inr (2, [.ref w_ofX_a, .ref w_ofY_a, .ref w_places_a, .int w_lines])), (w_ofX_a, .inl (cI, 16, .inl w_ofX)), (w_ofY_a, .inl (cI, 16, .inl w_ofY)), (w_places_a, .inl (cI, 16, .inl w_places))] none (fun q => q ∈ ([wo, w_ofX_a, w_ofY_a, w_places_a] : List Nat)))) (kX none D [(wo, .inr (2, [.ref w_ofX_a, .ref w_ofY_a, .ref w_places_a, .int res.2.2.2])), (w_ofX_a, .inl (cI, 16, .inl res.1)), (w_ofY_a, .inl (cI, 16, .inl res.2.1)), (w_places_a, .inl (cI, 16, .inl res.2.2.1))] (fun q => q ∈ ([wo, w_ofX_a, w_ofY_a, w_places_a] : List Nat))) 0 0 (fun q => q ∈ ([wo, w_ofX_a, w_ofY_a, w_places_a] : List Nat)) :=
  km (by decide) rfl (Nat.le_of_ble_eq_true rfl) (fun p e s m below meth c ls C hB hl => bX5_write C p1 p2 p3 hB.1 hnd w_ofX w_ofY w_places w_lines res (fun w_ofX1 w_ofY1 w_places1 w_lines1 H locs pc ls h hP hS hd => by obtain rfl := Option.some.inj h; exact kx_v C hP hS hd) hm s.heap [] hB.2.1 va_S.rf ls hl)
theorem wm_X5_begin_0 : Cond.fieldLink RX5 19 "SixtyTablet$Working" "lines" "I" ∈ wsX5_begin := by decide +kernel
theorem wi_X5_begin_X5 : ∀ w ∈ wsX50, w ∈ wsX5_begin := by decide +kernel
theorem kdvX5_begin : yX5_begin.cls = RX5 ∧ yX5_begin.cls ≠ "java/lang/invoke/MethodHandle" ∧ yX5_begin.cls ≠ "java/lang/invoke/VarHandle" ∧ (parseMethodDescriptor yX5_begin.desc).map (fun d => d.parameters.length) = some 2 := by decide +kernel
abbrev rmX5_begin : Room := { frames := 1, cells := 0, slots := 0, locals := 25 }
def mlX5_begin_26 (x1 : Int64) (x3 : Int64) (x5 : Int32) (kE : (Nat → Int32) → (Nat → Int32) → (Nat → Int32) → Int32 → Option ((Nat → Int32) × (Nat → Int32) × (Nat → Int32) × Int32)) : Nat → Int32 → (Nat → Int32) → (Nat → Int32) → (Nat → Int32) → Int32 → Option ((Nat → Int32) × (Nat → Int32) × (Nat → Int32) × Int32)
  | 0, _, _, _, _, _ => none
  | n + 1, x6, w_ofX, w_ofY, w_places, w_lines => (if x6 < 0 then (kE w_ofX w_ofY w_places w_lines) else (Option.bind (mX1_digitAhead x1 x5) (fun u7 => (Option.bind (mX1_digitAhead x3 x6) (fun u8 => (Option.bind (mX5_write w_ofX w_ofY w_places w_lines u7 u8 (x5 + x6)) (fun u9 => (md_let (x6 + (-1 : Int32)) (fun (x6_10 : Int32) => (mlX5_begin_26 x1 x3 x5 kE n x6_10 u9.1 u9.2.1 u9.2.2.1 u9.2.2.2))))))))))
set_option maxHeartbeats 4000000 in
set_option maxRecDepth 100000 in
theorem lX5_begin_26 {p : Program} {l : Launch} {e : Env} {s : State} {m : MethodId} {args : Array Value} {below : List Frame} {meth : Method} {c : Code} {Q : State → Prop} (C : kc p s m args meth c cX5_begin 7 RX5 yX5_begin.name wsX5_begin none) {D : va_G} {cI cT : ClassId} {wo w_ofX_a w_ofY_a w_places_a : Nat} (hK : va_K D vwCl (kTy cI cT) s) (hnd : ([wo, w_ofX_a, w_ofY_a, w_places_a] : List Nat).Nodup) (x1 : Int64) (x3 : Int64) (x5 : Int32) (res : ((Nat → Int32) × (Nat → Int32) × (Nat → Int32) × Int32)) (hQ : ∀ (w_ofX : Nat → Int32) (w_ofY : Nat → Int32) (w_places : Nat → Int32) (w_lines : Int32) (H : Heap) (locs : List Loc) (pc : Nat) (ls : Array Slot), some (w_ofX, w_ofY, w_places, w_lines) = some res → va_P D vwCl [(wo, .inr (2, [.ref w_ofX_a, .ref w_ofY_a, .ref w_places_a, .int w_lines])), (w_ofX_a, .inl (cI, 16, .inl w_ofX)), (w_ofY_a, .inl (cI, 16, .inl w_ofY)), (w_places_a, .inl (cI, 16, .inl w_places))] H → va_S (fun q => q ∈ ([wo, w_ofX_a, w_ofY_a, w_places_a] : List Nat)) s.heap H locs → decode cX5_begin pc = .ok (.return_, 1) → W p l e rmX5_begin s m args below meth c H locs 0 0 Q (F0 m pc ls [])) (kE : (Nat → Int32) → (Nat → Int32) → (Nat → Int32) → Int32 → Option ((Nat → Int32) × (Nat → Int32) × (Nat → Int32) × Int32)) (hE : ∀ (w_ofX : Nat → Int32) (w_ofY : Nat → Int32) (w_places : Nat → Int32) (w_lines : Int32), kE w_ofX w_ofY w_places w_lines = some res → ∀ (H : Heap) (locs : List Loc), va_P D vwCl [(wo, .inr (2, [.ref w_ofX_a, .ref w_ofY_a, .ref w_places_a, .int w_lines])), (w_ofX_a, .inl (cI, 16, .inl w_ofX)), (w_ofY_a, .inl (cI, 16, .inl w_ofY)), (w_places_a, .inl (cI, 16, .inl w_places))] H → va_S (fun q => q ∈ ([wo, w_ofX_a, w_ofY_a, w_places_a] : List Nat)) s.heap H locs → ∀ (ls : Array Slot), lv_has ls 7 [(0, .ref wo), (1, .long x1), (3, .long x3), (5, .int x5)] → W p l e rmX5_begin s m args below meth c H locs 0 0 Q (F0 m 58 ls [])) : ∀ (n : Nat), ∀ (x6 : Int32) (w_ofX : Nat → Int32) (w_ofY : Nat → Int32) (w_places : Nat → Int32) (w_lines : Int32), mlX5_begin_26 x1 x3 x5 kE n x6 w_ofX w_ofY w_places w_lines = some res → ∀ (H : Heap) (locs : List Loc), va_P D vwCl [(wo, .inr (2, [.ref w_ofX_a, .ref w_ofY_a, .ref w_places_a, .int w_lines])), (w_ofX_a, .inl (cI, 16, .inl w_ofX)), (w_ofY_a, .inl (cI, 16, .inl w_ofY)), (w_places_a, .inl (cI, 16, .inl w_places))] H → va_S (fun q => q ∈ ([wo, w_ofX_a, w_ofY_a, w_places_a] : List Nat)) s.heap H locs → ∀ (ls : Array Slot), lv_has ls 7 [(0, .ref wo), (1, .long x1), (3, .long x3), (5, .int x5), (6, .int x6)] → W p l e rmX5_begin s m args below meth c H locs 0 0 Q (F0 m 26 ls []) := by
  have C0 := C
  obtain ⟨hx, hb, hml, hown, hts, hr, hlk, hnm⟩ := C0
  intro n
  induction n with
  | zero => intro _ _ _ _ _ h; exact md_x h
  | succ n ih =>
    intro x6 w_ofX w_ofY w_places w_lines h H locs hP hS ls hl
    rw [mlX5_begin_26] at h
    refine lv_iload hx hb dX5_begin_26 (lv_at hl 4 rfl) ?_
    refine lv_if_lt (tgt := 58) hx hb dX5_begin_28 (by decide) (fun c6 => ?_) (fun c6 => ?_)
    · replace h := md_t c6 h
      exact hE w_ofX w_ofY w_places w_lines h _ _ hP hS ls (lv_sub hl [0, 1, 2, 3] rfl)
    replace h := md_f c6 h
    refine lv_aload_n hx hb dX5_begin_31 rfl (lv_at hl 0 rfl) ?_
    refine lv_lload_n hx hb dX5_begin_32 rfl (lv_at hl 1 rfl) ?_
    refine lv_iload hx hb dX5_begin_33 (lv_at hl 3 rfl) ?_
    obtain ⟨u7, hu7, h⟩ := md_b h
    refine kS C (ctX1_digitAhead l  hu7) gX5_begin_X1_digitAhead rfl kdX1_digitAhead ⟨rfl, rfl⟩ ⟨by decide, by decide⟩ kT_blind (fun _ _ _ => trivial) rfl hl [.ref wo] rfl (Nat.le_of_ble_eq_true rfl) dX5_begin_35 ⟨by decide, by decide⟩ ?_
    refine lv_lload_n hx hb dX5_begin_38 rfl (lv_at hl 2 rfl) ?_
    refine lv_iload hx hb dX5_begin_39 (lv_at hl 4 rfl) ?_
    obtain ⟨u8, hu8, h⟩ := md_b h
    refine kS C (ctX1_digitAhead l  hu8) gX5_begin_X1_digitAhead rfl kdX1_digitAhead ⟨rfl, rfl⟩ ⟨by decide, by decide⟩ kT_blind (fun _ _ _ => trivial) rfl hl [.int u7, .ref wo] rfl (Nat.le_of_ble_eq_true rfl) dX5_begin_41 ⟨by decide, by decide⟩ ?_
    refine lv_iload hx hb dX5_begin_44 (lv_at hl 3 rfl) ?_
    refine lv_iload hx hb dX5_begin_46 (lv_at hl 4 rfl) ?_
    refine lv_iadd hx hb dX5_begin_48 ?_
    obtain ⟨u9, hu9, h⟩ := md_b h
    refine kVx C (ctX5_write l (nd_sub hnd [0, 1, 2, 3] (by decide) rfl) hu9) gX5_begin_X5_write rfl kdvX5_write ⟨rfl, rfl⟩ ⟨by decide, by decide⟩ kW_blind (va_recv hK hP (ci := 2) (q0 := 0) rfl rfl) (kW_use hK (hP.sub (ws' := [(wo, .inr (2, [.ref w_ofX_a, .ref w_ofY_a, .ref w_places_a, .int w_lines])), (w_ofX_a, .inl (cI, 16, .inl w_ofX)), (w_ofY_a, .inl (cI, 16, .inl w_ofY)), (w_places_a, .inl (cI, 16, .inl w_places))]) [0, 1, 2, 3] rfl) kL_no) rfl hl [] rfl (Nat.le_of_ble_eq_true rfl) dX5_begin_49 ⟨by decide, by decide⟩ hS (mem_sub [0, 1, 2, 3] rfl) (fun H1 locs hP1 hk1 hS => ?_)
    replace hP : va_P D vwCl [(wo, .inr (2, [.ref w_ofX_a, .ref w_ofY_a, .ref w_places_a, .int u9.2.2.2])), (w_ofX_a, .inl (cI, 16, .inl u9.1)), (w_ofY_a, .inl (cI, 16, .inl u9.2.1)), (w_places_a, .inl (cI, 16, .inl u9.2.2.1))] H1 := kjoin hnd rfl hP hP1 hk1 [0, 1, 2, 3] rfl [(true, 0), (true, 1), (true, 2), (true, 3)] rfl rfl
    clear hP1 hk1
    generalize H1 = H at hP hS ⊢
    obtain ⟨x6_10, ex6_10⟩ : ∃ y : Int32, y = (x6 + (-1 : Int32)) := ⟨_, rfl⟩
    replace h := md_le ex6_10 h
    refine lv_iinc (v := x6_10) (lv' := [(6, .int x6_10), (0, .ref wo), (1, .long x1), (3, .long x3), (5, .int x5)]) hx hb dX5_begin_52 hl (k := 4) rfl (by rw [ex6_10]; rfl) (by decide) rfl (fun ls hl => ?_)
    refine lv_goto (tgt := 26) hx hb dX5_begin_55 (by decide) ?_
    exact ih x6_10 u9.1 u9.2.1 u9.2.2.1 u9.2.2.2 h _ _ hP hS ls (lv_sub hl [1, 2, 3, 4, 0] rfl)
def mlX5_begin_13 (x1 : Int64) (x3 : Int64) (kE : (Nat → Int32) → (Nat → Int32) → (Nat → Int32) → Int32 → Option ((Nat → Int32) × (Nat → Int32) × (Nat → Int32) × Int32)) : Nat → Int32 → (Nat → Int32) → (Nat → Int32) → (Nat → Int32) → Int32 → Option ((Nat → Int32) × (Nat → Int32) × (Nat → Int32) × Int32)
  | 0, _, _, _, _, _ => none
  | n + 1, x5, w_ofX, w_ofY, w_places, w_lines => (if x5 < 0 then (kE w_ofX w_ofY w_places w_lines) else (Option.bind (mX1_length x3) (fun u4 => (md_let (u4 - (1 : Int32)) (fun (x6_5 : Int32) => (mlX5_begin_26 x1 x3 x5 (fun (w_ofX_58 : Nat → Int32) (w_ofY_58 : Nat → Int32) (w_places_58 : Nat → Int32) (w_lines_58 : Int32) => (md_let (x5 + (-1 : Int32)) (fun (x5_11 : Int32) => (mlX5_begin_13 x1 x3 kE n x5_11 w_ofX_58 w_ofY_58 w_places_58 w_lines_58)))) kN x6_5 w_ofX w_ofY w_places w_lines))))))
set_option maxHeartbeats 4000000 in
set_option maxRecDepth 100000 in
theorem lX5_begin_13 {p : Program} {l : Launch} {e : Env} {s : State} {m : MethodId} {args : Array Value} {below : List Frame} {meth : Method} {c : Code} {Q : State → Prop} (C : kc p s m args meth c cX5_begin 7 RX5 yX5_begin.name wsX5_begin none) {D : va_G} {cI cT : ClassId} {wo w_ofX_a w_ofY_a w_places_a : Nat} (hK : va_K D vwCl (kTy cI cT) s) (hnd : ([wo, w_ofX_a, w_ofY_a, w_places_a] : List Nat).Nodup) (x1 : Int64) (x3 : Int64) (res : ((Nat → Int32) × (Nat → Int32) × (Nat → Int32) × Int32)) (hQ : ∀ (w_ofX : Nat → Int32) (w_ofY : Nat → Int32) (w_places : Nat → Int32) (w_lines : Int32) (H : Heap) (locs : List Loc) (pc : Nat) (ls : Array Slot), some (w_ofX, w_ofY, w_places, w_lines) = some res → va_P D vwCl [(wo, .inr (2, [.ref w_ofX_a, .ref w_ofY_a, .ref w_places_a, .int w_lines])), (w_ofX_a, .inl (cI, 16, .inl w_ofX)), (w_ofY_a, .inl (cI, 16, .inl w_ofY)), (w_places_a, .inl (cI, 16, .inl w_places))] H → va_S (fun q => q ∈ ([wo, w_ofX_a, w_ofY_a, w_places_a] : List Nat)) s.heap H locs → decode cX5_begin pc = .ok (.return_, 1) → W p l e rmX5_begin s m args below meth c H locs 0 0 Q (F0 m pc ls [])) (kE : (Nat → Int32) → (Nat → Int32) → (Nat → Int32) → Int32 → Option ((Nat → Int32) × (Nat → Int32) × (Nat → Int32) × Int32)) (hE : ∀ (w_ofX : Nat → Int32) (w_ofY : Nat → Int32) (w_places : Nat → Int32) (w_lines : Int32), kE w_ofX w_ofY w_places w_lines = some res → ∀ (H : Heap) (locs : List Loc), va_P D vwCl [(wo, .inr (2, [.ref w_ofX_a, .ref w_ofY_a, .ref w_places_a, .int w_lines])), (w_ofX_a, .inl (cI, 16, .inl w_ofX)), (w_ofY_a, .inl (cI, 16, .inl w_ofY)), (w_places_a, .inl (cI, 16, .inl w_places))] H → va_S (fun q => q ∈ ([wo, w_ofX_a, w_ofY_a, w_places_a] : List Nat)) s.heap H locs → ∀ (ls : Array Slot), lv_has ls 7 [] → W p l e rmX5_begin s m args below meth c H locs 0 0 Q (F0 m 64 ls [])) : ∀ (n : Nat), ∀ (x5 : Int32) (w_ofX : Nat → Int32) (w_ofY : Nat → Int32) (w_places : Nat → Int32) (w_lines : Int32), mlX5_begin_13 x1 x3 kE n x5 w_ofX w_ofY w_places w_lines = some res → ∀ (H : Heap) (locs : List Loc), va_P D vwCl [(wo, .inr (2, [.ref w_ofX_a, .ref w_ofY_a, .ref w_places_a, .int w_lines])), (w_ofX_a, .inl (cI, 16, .inl w_ofX)), (w_ofY_a, .inl (cI, 16, .inl w_ofY)), (w_places_a, .inl (cI, 16, .inl w_places))] H → va_S (fun q => q ∈ ([wo, w_ofX_a, w_ofY_a, w_places_a] : List Nat)) s.heap H locs → ∀ (ls : Array Slot), lv_has ls 7 [(0, .ref wo), (1, .long x1), (3, .long x3), (5, .int x5)] → W p l e rmX5_begin s m args below meth c H locs 0 0 Q (F0 m 13 ls []) := by
  have C0 := C
  obtain ⟨hx, hb, hml, hown, hts, hr, hlk, hnm⟩ := C0
  intro n
  induction n with
  | zero => intro _ _ _ _ _ h; exact md_x h
  | succ n ih =>
    intro x5 w_ofX w_ofY w_places w_lines h H locs hP hS ls hl
    rw [mlX5_begin_13] at h
    refine lv_iload hx hb dX5_begin_13 (lv_at hl 3 rfl) ?_
    refine lv_if_lt (tgt := 64) hx hb dX5_begin_15 (by decide) (fun c3 => ?_) (fun c3 => ?_)
    · replace h := md_t c3 h
      exact hE w_ofX w_ofY w_places w_lines h _ _ hP hS ls (lv_sub hl [] rfl)
    replace h := md_f c3 h
    refine lv_lload_n hx hb dX5_begin_18 rfl (lv_at hl 2 rfl) ?_
    obtain ⟨u4, hu4, h⟩ := md_b h
    refine kS C (ctX1_length l  hu4) gX5_begin_X1_length rfl kdX1_length ⟨rfl, rfl⟩ ⟨by decide, by decide⟩ kT_blind (fun _ _ _ => trivial) rfl hl [] rfl (Nat.le_of_ble_eq_true rfl) dX5_begin_19 ⟨by decide, by decide⟩ ?_
    refine lv_iconst (v := 1) hx hb dX5_begin_22 (by decide) ?_
    refine lv_isub hx hb dX5_begin_23 ?_
    refine lv_topi (fun x6_5 ex6_5 => ?_)
    replace h := md_le ex6_5 h
    refine lv_istore (lv' := [(6, .int x6_5), (0, .ref wo), (1, .long x1), (3, .long x3), (5, .int x5)]) hx hb dX5_begin_24 hl (by decide) rfl (fun ls hl => ?_)
    refine lX5_begin_26 C hK hnd x1 x3 x5 res hQ _ (fun w_ofX_58 w_ofY_58 w_places_58 w_lines_58 h H locs hP hS ls hl => ?_) kN x6_5 w_ofX w_ofY w_places w_lines h _ _ hP hS ls (lv_sub hl [1, 2, 3, 4, 0] rfl)
    obtain ⟨x5_11, ex5_11⟩ : ∃ y : Int32, y = (x5 + (-1 : Int32)) := ⟨_, rfl⟩
    replace h := md_le ex5_11 h
    refine lv_iinc (v := x5_11) (lv' := [(5, .int x5_11), (0, .ref wo), (1, .long x1), (3, .long x3)]) hx hb dX5_begin_58 hl (k := 3) rfl (by rw [ex5_11]; rfl) (by decide) rfl (fun ls hl => ?_)
    refine lv_goto (tgt := 13) hx hb dX5_begin_61 (by decide) ?_
    exact ih x5_11 w_ofX_58 w_ofY_58 w_places_58 w_lines_58 h _ _ hP hS ls (lv_sub hl [1, 2, 3, 0] rfl)
def mX5_begin (w_ofX : Nat → Int32) (w_ofY : Nat → Int32) (w_places : Nat → Int32) (p1 : Int64) (p2 : Int64) : Option ((Nat → Int32) × (Nat → Int32) × (Nat → Int32) × Int32) := (Option.bind (mX1_length p1) (fun u1 => (md_let (u1 - (1 : Int32)) (fun (x5_2 : Int32) => (mlX5_begin_13 p1 p2 (fun (w_ofX_64 : Nat → Int32) (w_ofY_64 : Nat → Int32) (w_places_64 : Nat → Int32) (w_lines_64 : Int32) => (some (w_ofX_64, w_ofY_64, w_places_64, w_lines_64))) kN x5_2 w_ofX w_ofY w_places (0 : Int32))))))
set_option maxHeartbeats 4000000 in
set_option maxRecDepth 100000 in
theorem bX5_begin {p : Program} {l : Launch} {e : Env} {s : State} {m : MethodId} {args : Array Value} {below : List Frame} {meth : Method} {c : Code} {Q : State → Prop} (C : kc p s m args meth c cX5_begin 7 RX5 yX5_begin.name wsX5_begin none) {D : va_G} {cI cT : ClassId} {wo w_ofX_a w_ofY_a w_places_a : Nat} (p1 : Int64) (p2 : Int64) (hK : va_K D vwCl (kTy cI cT) s) (hnd : ([wo, w_ofX_a, w_ofY_a, w_places_a] : List Nat).Nodup) (w_ofX : Nat → Int32) (w_ofY : Nat → Int32) (w_places : Nat → Int32) (w_lines : Int32) (res : ((Nat → Int32) × (Nat → Int32) × (Nat → Int32) × Int32)) (hQ : ∀ (w_ofX : Nat → Int32) (w_ofY : Nat → Int32) (w_places : Nat → Int32) (w_lines : Int32) (H : Heap) (locs : List Loc) (pc : Nat) (ls : Array Slot), some (w_ofX, w_ofY, w_places, w_lines) = some res → va_P D vwCl [(wo, .inr (2, [.ref w_ofX_a, .ref w_ofY_a, .ref w_places_a, .int w_lines])), (w_ofX_a, .inl (cI, 16, .inl w_ofX)), (w_ofY_a, .inl (cI, 16, .inl w_ofY)), (w_places_a, .inl (cI, 16, .inl w_places))] H → va_S (fun q => q ∈ ([wo, w_ofX_a, w_ofY_a, w_places_a] : List Nat)) s.heap H locs → decode cX5_begin pc = .ok (.return_, 1) → W p l e rmX5_begin s m args below meth c H locs 0 0 Q (F0 m pc ls [])) : mX5_begin w_ofX w_ofY w_places p1 p2 = some res → ∀ (H : Heap) (locs : List Loc), va_P D vwCl [(wo, .inr (2, [.ref w_ofX_a, .ref w_ofY_a, .ref w_places_a, .int w_lines])), (w_ofX_a, .inl (cI, 16, .inl w_ofX)), (w_ofY_a, .inl (cI, 16, .inl w_ofY)), (w_places_a, .inl (cI, 16, .inl w_places))] H → va_S (fun q => q ∈ ([wo, w_ofX_a, w_ofY_a, w_places_a] : List Nat)) s.heap H locs → ∀ (ls : Array Slot), lv_has ls 7 [(0, .ref wo), (1, .long p1), (3, .long p2)] → W p l e rmX5_begin s m args below meth c H locs 0 0 Q (F0 m 0 ls []) := by
  intro h H locs hP hS ls hl
  have C0 := C
  obtain ⟨hx, hb, hml, hown, hts, hr, hlk, hnm⟩ := C0
  rw [mX5_begin] at h
  refine lv_aload_n hx hb dX5_begin_0 rfl (lv_at hl 0 rfl) ?_
  refine lv_iconst (v := 0) hx hb dX5_begin_1 (by decide) ?_
  refine va_put (D := D) (ci := 2) (v := .int (0 : Int32)) (ty := .int) (C := RX5) (T := TX5) (N := 4) hx hb hts wi_X5_begin_X5 tyX5 tyX5_ok nmX5 hown hK hP (kD hnd rfl) hS 0 rfl rfl 3 (by decide) (hts _ wm_X5_begin_0) (fun _ h9 => h9) rfl (by decide +kernel) rfl rfl (Nat.le_of_ble_eq_true rfl) dX5_begin_2 (fun H locs hP _ hS => ?_)
  have hP : va_P D vwCl [(wo, .inr (2, [.ref w_ofX_a, .ref w_ofY_a, .ref w_places_a, .int (0 : Int32)])), (w_ofX_a, .inl (cI, 16, .inl w_ofX)), (w_ofY_a, .inl (cI, 16, .inl w_ofY)), (w_places_a, .inl (cI, 16, .inl w_places))] H := hP
  refine lv_lload_n hx hb dX5_begin_5 rfl (lv_at hl 1 rfl) ?_
  obtain ⟨u1, hu1, h⟩ := md_b h
  refine kS C (ctX1_length l  hu1) gX5_begin_X1_length rfl kdX1_length ⟨rfl, rfl⟩ ⟨by decide, by decide⟩ kT_blind (fun _ _ _ => trivial) rfl hl [] rfl (Nat.le_of_ble_eq_true rfl) dX5_begin_6 ⟨by decide, by decide⟩ ?_
  refine lv_iconst (v := 1) hx hb dX5_begin_9 (by decide) ?_
  refine lv_isub hx hb dX5_begin_10 ?_
  refine lv_topi (fun x5_2 ex5_2 => ?_)
  replace h := md_le ex5_2 h
  refine lv_istore (lv' := [(5, .int x5_2), (0, .ref wo), (1, .long p1), (3, .long p2)]) hx hb dX5_begin_11 hl (by decide) rfl (fun ls hl => ?_)
  refine lX5_begin_13 C hK hnd p1 p2 res hQ _ (fun w_ofX_64 w_ofY_64 w_places_64 w_lines_64 h H locs hP hS ls hl => ?_) kN x5_2 w_ofX w_ofY w_places (0 : Int32) h _ _ hP hS ls (lv_sub hl [1, 2, 3, 0] rfl)
  exact hQ w_ofX_64 w_ofY_64 w_places_64 w_lines_64 H locs 64 ls h hP hS dX5_begin_64
set_option maxHeartbeats 4000000 in
theorem ctX5_begin (l : Launch) {D : va_G} {cI cT : ClassId} {wo w_ofX_a w_ofY_a w_places_a : Nat} {w_ofX : Nat → Int32} {w_ofY : Nat → Int32} {w_places : Nat → Int32} {w_lines : Int32} {p1 : Int64} {p2 : Int64} {res : ((Nat → Int32) × (Nat → Int32) × (Nat → Int32) × Int32)} (hnd : ([wo, w_ofX_a, w_ofY_a, w_places_a] : List Nat).Nodup) (hm : mX5_begin w_ofX w_ofY w_places p1 p2 = some res) : Met l yX5_begin wsX5_begin rmX5_begin (va_Pc [.ref wo, .long p1, .long p2] (kW D cI cT [(wo, .inr (2, [.ref w_ofX_a, .ref w_ofY_a, .ref w_places_a, .int w_lines])), (w_ofX_a, .inl (cI, 16, .inl w_ofX)), (w_ofY_a, .inl (cI, 16, .inl w_ofY)), (w_places_a, .inl (cI, 16, .inl w_places))] none (fun q => q ∈ ([wo, w_ofX_a, w_ofY_a, w_places_a] : List Nat)))) (kX none D [(wo, .inr (2, [.ref w_ofX_a, .ref w_ofY_a, .ref w_places_a, .int res.2.2.2])), (w_ofX_a, .inl (cI, 16, .inl res.1)), (w_ofY_a, .inl (cI, 16, .inl res.2.1)), (w_places_a, .inl (cI, 16, .inl res.2.2.1))] (fun q => q ∈ ([wo, w_ofX_a, w_ofY_a, w_places_a] : List Nat))) 0 0 (fun q => q ∈ ([wo, w_ofX_a, w_ofY_a, w_places_a] : List Nat)) :=
  km (by decide) rfl (Nat.le_of_ble_eq_true rfl) (fun p e s m below meth c ls C hB hl => bX5_begin C p1 p2 hB.1 hnd w_ofX w_ofY w_places w_lines res (fun w_ofX1 w_ofY1 w_places1 w_lines1 H locs pc ls h hP hS hd => by obtain rfl := Option.some.inj h; exact kx_v C hP hS hd) hm s.heap [] hB.2.1 va_S.rf ls hl)
theorem wm_X5_lineCount_0 : Cond.fieldLink RX5 19 "SixtyTablet$Working" "lines" "I" ∈ wsX5_lineCount := by decide +kernel
theorem wi_X5_lineCount_X5 : ∀ w ∈ wsX50, w ∈ wsX5_lineCount := by decide +kernel
theorem kdvX5_lineCount : yX5_lineCount.cls = RX5 ∧ yX5_lineCount.cls ≠ "java/lang/invoke/MethodHandle" ∧ yX5_lineCount.cls ≠ "java/lang/invoke/VarHandle" ∧ (parseMethodDescriptor yX5_lineCount.desc).map (fun d => d.parameters.length) = some 0 := by decide +kernel
abbrev rmX5_lineCount : Room := { frames := 0, cells := 0, slots := 0, locals := 0 }
def mX5_lineCount (w_lines : Int32) : Option Int32 := (some w_lines)
set_option maxHeartbeats 4000000 in
set_option maxRecDepth 100000 in
theorem bX5_lineCount {p : Program} {l : Launch} {e : Env} {s : State} {m : MethodId} {args : Array Value} {below : List Frame} {meth : Method} {c : Code} {Q : State → Prop} (C : kc p s m args meth c cX5_lineCount 1 RX5 yX5_lineCount.name wsX5_lineCount (some .int)) {D : va_G} {cI cT : ClassId} {wo w_ofX_a w_ofY_a w_places_a : Nat} (hK : va_K D vwCl (kTy cI cT) s) (w_ofX : Nat → Int32) (w_ofY : Nat → Int32) (w_places : Nat → Int32) (w_lines : Int32) (hP : va_P D vwCl [(wo, .inr (2, [.ref w_ofX_a, .ref w_ofY_a, .ref w_places_a, .int w_lines])), (w_ofX_a, .inl (cI, 16, .inl w_ofX)), (w_ofY_a, .inl (cI, 16, .inl w_ofY)), (w_places_a, .inl (cI, 16, .inl w_places))] s.heap) (res : Int32) (hQ : ∀ (v : Int32) (pc : Nat) (ls : Array Slot), some v = some res → decode cX5_lineCount pc = .ok (.ireturn, 1) → W p l e rmX5_lineCount s m args below meth c s.heap [] 0 0 Q (F0 m pc ls [.int v])) : mX5_lineCount w_lines = some res → ∀ (ls : Array Slot), lv_has ls 1 [(0, .ref wo)] → W p l e rmX5_lineCount s m args below meth c s.heap [] 0 0 Q (F0 m 0 ls []) := by
  intro h ls hl
  have C0 := C
  obtain ⟨hx, hb, hml, hown, hts, hr, hlk, hnm⟩ := C0
  rw [mX5_lineCount] at h
  refine lv_aload_n hx hb dX5_lineCount_0 rfl (lv_at hl 0 rfl) ?_
  refine va_get (D := D) (ci := 2) (v := .int w_lines) (C := RX5) (T := TX5) (N := 4) hx hb hts wi_X5_lineCount_X5 hown hK hP 0 rfl rfl 3 (by decide) (hts _ wm_X5_lineCount_0) (fun _ h9 => h9) rfl dX5_lineCount_1 ?_
  exact hQ w_lines 4 ls h dX5_lineCount_4
set_option maxHeartbeats 4000000 in
theorem ctX5_lineCount (l : Launch) {D : va_G} {cI cT : ClassId} {wo w_ofX_a w_ofY_a w_places_a : Nat} {w_ofX : Nat → Int32} {w_ofY : Nat → Int32} {w_places : Nat → Int32} {w_lines : Int32} {res : Int32} (hm : mX5_lineCount w_lines = some res) : Met l yX5_lineCount wsX5_lineCount rmX5_lineCount (va_Pc [.ref wo] (kW D cI cT [(wo, .inr (2, [.ref w_ofX_a, .ref w_ofY_a, .ref w_places_a, .int w_lines])), (w_ofX_a, .inl (cI, 16, .inl w_ofX)), (w_ofY_a, .inl (cI, 16, .inl w_ofY)), (w_places_a, .inl (cI, 16, .inl w_places))] none (fun _ => False))) (kR (.int res)) 0 0 (fun _ => False) :=
  km (by decide) rfl (Nat.le_of_ble_eq_true rfl) (fun p e s m below meth c ls C hB hl => bX5_lineCount C hB.1 w_ofX w_ofY w_places w_lines hB.2.1 res (fun v pc ls h hd => kr_i C h hd) hm ls hl)
theorem wm_X5_hasLine_0 : Cond.fieldLink RX5 19 "SixtyTablet$Working" "lines" "I" ∈ wsX5_hasLine := by decide +kernel
theorem wi_X5_hasLine_X5 : ∀ w ∈ wsX50, w ∈ wsX5_hasLine := by decide +kernel
theorem kdvX5_hasLine : yX5_hasLine.cls = RX5 ∧ yX5_hasLine.cls ≠ "java/lang/invoke/MethodHandle" ∧ yX5_hasLine.cls ≠ "java/lang/invoke/VarHandle" ∧ (parseMethodDescriptor yX5_hasLine.desc).map (fun d => d.parameters.length) = some 1 := by decide +kernel
abbrev rmX5_hasLine : Room := { frames := 0, cells := 0, slots := 0, locals := 0 }
def mX5_hasLine (w_lines : Int32) (p1 : Int32) : Option Int32 := (if p1 < 0 then (some (0 : Int32)) else (if w_lines ≤ p1 then (some (0 : Int32)) else (if (16 : Int32) ≤ p1 then (some (0 : Int32)) else (some (1 : Int32)))))
set_option maxHeartbeats 4000000 in
set_option maxRecDepth 100000 in
theorem bX5_hasLine {p : Program} {l : Launch} {e : Env} {s : State} {m : MethodId} {args : Array Value} {below : List Frame} {meth : Method} {c : Code} {Q : State → Prop} (C : kc p s m args meth c cX5_hasLine 2 RX5 yX5_hasLine.name wsX5_hasLine (some .boolean)) {D : va_G} {cI cT : ClassId} {wo w_ofX_a w_ofY_a w_places_a : Nat} (p1 : Int32) (hK : va_K D vwCl (kTy cI cT) s) (w_ofX : Nat → Int32) (w_ofY : Nat → Int32) (w_places : Nat → Int32) (w_lines : Int32) (hP : va_P D vwCl [(wo, .inr (2, [.ref w_ofX_a, .ref w_ofY_a, .ref w_places_a, .int w_lines])), (w_ofX_a, .inl (cI, 16, .inl w_ofX)), (w_ofY_a, .inl (cI, 16, .inl w_ofY)), (w_places_a, .inl (cI, 16, .inl w_places))] s.heap) (res : Int32) (hQ : ∀ (v : Int32) (pc : Nat) (ls : Array Slot), v = 0 ∨ v = 1 → some v = some res → decode cX5_hasLine pc = .ok (.ireturn, 1) → W p l e rmX5_hasLine s m args below meth c s.heap [] 0 0 Q (F0 m pc ls [.int v])) : mX5_hasLine w_lines p1 = some res → ∀ (ls : Array Slot), lv_has ls 2 [(0, .ref wo), (1, .int p1)] → W p l e rmX5_hasLine s m args below meth c s.heap [] 0 0 Q (F0 m 0 ls []) := by
  intro h ls hl
  have C0 := C
  obtain ⟨hx, hb, hml, hown, hts, hr, hlk, hnm⟩ := C0
  rw [mX5_hasLine] at h
  refine lv_iload_n hx hb dX5_hasLine_0 rfl (lv_at hl 1 rfl) ?_
  refine lv_if_lt (tgt := 22) hx hb dX5_hasLine_1 (by decide) (fun c1 => ?_) (fun c1 => ?_)
  · replace h := md_t c1 h
    refine lv_iconst (v := 0) hx hb dX5_hasLine_22 (by decide) ?_
    exact hQ (0 : Int32) 23 ls (by decide) h dX5_hasLine_23
  replace h := md_f c1 h
  refine lv_iload_n hx hb dX5_hasLine_4 rfl (lv_at hl 1 rfl) ?_
  refine lv_aload_n hx hb dX5_hasLine_5 rfl (lv_at hl 0 rfl) ?_
  refine va_get (D := D) (ci := 2) (v := .int w_lines) (C := RX5) (T := TX5) (N := 4) hx hb hts wi_X5_hasLine_X5 hown hK hP 0 rfl rfl 3 (by decide) (hts _ wm_X5_hasLine_0) (fun _ h9 => h9) rfl dX5_hasLine_6 ?_
  refine lv_icmp_ge (tgt := 22) hx hb dX5_hasLine_9 (by decide) (fun c2 => ?_) (fun c2 => ?_)
  · replace h := md_t c2 h
    refine lv_iconst (v := 0) hx hb dX5_hasLine_22 (by decide) ?_
    exact hQ (0 : Int32) 23 ls (by decide) h dX5_hasLine_23
  replace h := md_f c2 h
  refine lv_iload_n hx hb dX5_hasLine_12 rfl (lv_at hl 1 rfl) ?_
  refine lv_bipush (v := 16) hx hb dX5_hasLine_13 (by decide) ?_
  refine lv_icmp_ge (tgt := 22) hx hb dX5_hasLine_15 (by decide) (fun c3 => ?_) (fun c3 => ?_)
  · replace h := md_t c3 h
    refine lv_iconst (v := 0) hx hb dX5_hasLine_22 (by decide) ?_
    exact hQ (0 : Int32) 23 ls (by decide) h dX5_hasLine_23
  replace h := md_f c3 h
  refine lv_iconst (v := 1) hx hb dX5_hasLine_18 (by decide) ?_
  refine lv_goto (tgt := 23) hx hb dX5_hasLine_19 (by decide) ?_
  exact hQ (1 : Int32) 23 ls (by decide) h dX5_hasLine_23
set_option maxHeartbeats 4000000 in
theorem ctX5_hasLine (l : Launch) {D : va_G} {cI cT : ClassId} {wo w_ofX_a w_ofY_a w_places_a : Nat} {w_ofX : Nat → Int32} {w_ofY : Nat → Int32} {w_places : Nat → Int32} {w_lines : Int32} {p1 : Int32} {res : Int32} (hm : mX5_hasLine w_lines p1 = some res) : Met l yX5_hasLine wsX5_hasLine rmX5_hasLine (va_Pc [.ref wo, .int p1] (kW D cI cT [(wo, .inr (2, [.ref w_ofX_a, .ref w_ofY_a, .ref w_places_a, .int w_lines])), (w_ofX_a, .inl (cI, 16, .inl w_ofX)), (w_ofY_a, .inl (cI, 16, .inl w_ofY)), (w_places_a, .inl (cI, 16, .inl w_places))] none (fun _ => False))) (kR (.int res)) 0 0 (fun _ => False) :=
  km (by decide) rfl (Nat.le_of_ble_eq_true rfl) (fun p e s m below meth c ls C hB hl => bX5_hasLine C p1 hB.1 w_ofX w_ofY w_places w_lines hB.2.1 res (fun v pc ls hz h hd => kr_z C hz h hd) hm ls hl)
theorem wm_X5_digitOfX_0 : Cond.fieldLink RX5 9 "SixtyTablet$Working" "ofX" "[I" ∈ wsX5_digitOfX := by decide +kernel
theorem wi_X5_digitOfX_X5 : ∀ w ∈ wsX50, w ∈ wsX5_digitOfX := by decide +kernel
theorem kdvX5_digitOfX : yX5_digitOfX.cls = RX5 ∧ yX5_digitOfX.cls ≠ "java/lang/invoke/MethodHandle" ∧ yX5_digitOfX.cls ≠ "java/lang/invoke/VarHandle" ∧ (parseMethodDescriptor yX5_digitOfX.desc).map (fun d => d.parameters.length) = some 1 := by decide +kernel
abbrev rmX5_digitOfX : Room := { frames := 1, cells := 0, slots := 0, locals := 21 }
def mX5_digitOfX (w_ofX : Nat → Int32) (w_lines : Int32) (p1 : Int32) : Option Int32 := (Option.bind (mX5_hasLine w_lines p1) (fun u1 => (if u1 = 0 then (some (0 : Int32)) else (if p1 < 0 ∨ 16 ≤ (Int32.toNatClampNeg p1) then none else (some (w_ofX (Int32.toNatClampNeg p1)))))))
set_option maxHeartbeats 4000000 in
set_option maxRecDepth 100000 in
theorem bX5_digitOfX {p : Program} {l : Launch} {e : Env} {s : State} {m : MethodId} {args : Array Value} {below : List Frame} {meth : Method} {c : Code} {Q : State → Prop} (C : kc p s m args meth c cX5_digitOfX 2 RX5 yX5_digitOfX.name wsX5_digitOfX (some .int)) {D : va_G} {cI cT : ClassId} {wo w_ofX_a w_ofY_a w_places_a : Nat} (p1 : Int32) (hK : va_K D vwCl (kTy cI cT) s) (w_ofX : Nat → Int32) (w_ofY : Nat → Int32) (w_places : Nat → Int32) (w_lines : Int32) (hP : va_P D vwCl [(wo, .inr (2, [.ref w_ofX_a, .ref w_ofY_a, .ref w_places_a, .int w_lines])), (w_ofX_a, .inl (cI, 16, .inl w_ofX)), (w_ofY_a, .inl (cI, 16, .inl w_ofY)), (w_places_a, .inl (cI, 16, .inl w_places))] s.heap) (res : Int32) (hQ : ∀ (v : Int32) (pc : Nat) (ls : Array Slot), some v = some res → decode cX5_digitOfX pc = .ok (.ireturn, 1) → W p l e rmX5_digitOfX s m args below meth c s.heap [] 0 0 Q (F0 m pc ls [.int v])) : mX5_digitOfX w_ofX w_lines p1 = some res → ∀ (ls : Array Slot), lv_has ls 2 [(0, .ref wo), (1, .int p1)] → W p l e rmX5_digitOfX s m args below meth c s.heap [] 0 0 Q (F0 m 0 ls []) := by
  intro h ls hl
  have C0 := C
  obtain ⟨hx, hb, hml, hown, hts, hr, hlk, hnm⟩ := C0
  rw [mX5_digitOfX] at h
  refine lv_aload_n hx hb dX5_digitOfX_0 rfl (lv_at hl 0 rfl) ?_
  refine lv_iload_n hx hb dX5_digitOfX_1 rfl (lv_at hl 1 rfl) ?_
  obtain ⟨u1, hu1, h⟩ := md_b h
  refine kV C (ctX5_hasLine l  hu1) gX5_digitOfX_X5_hasLine rfl kdvX5_hasLine ⟨rfl, rfl⟩ ⟨by decide, by decide⟩ kW_blind (va_recv hK hP (ci := 2) (q0 := 0) rfl rfl) (kW_use hK (hP.sub (ws' := [(wo, .inr (2, [.ref w_ofX_a, .ref w_ofY_a, .ref w_places_a, .int w_lines])), (w_ofX_a, .inl (cI, 16, .inl w_ofX)), (w_ofY_a, .inl (cI, 16, .inl w_ofY)), (w_places_a, .inl (cI, 16, .inl w_places))]) [0, 1, 2, 3] rfl) kL_no) rfl hl [] rfl (Nat.le_of_ble_eq_true rfl) dX5_digitOfX_2 ⟨by decide, by decide⟩ ?_
  refine lv_if_eq (tgt := 17) hx hb dX5_digitOfX_5 (by decide) (fun c2 => ?_) (fun c2 => ?_)
  · replace h := md_t c2 h
    refine lv_iconst (v := 0) hx hb dX5_digitOfX_17 (by decide) ?_
    exact hQ (0 : Int32) 18 ls h dX5_digitOfX_18
  replace h := md_f c2 h
  refine lv_aload_n hx hb dX5_digitOfX_8 rfl (lv_at hl 0 rfl) ?_
  refine va_get (D := D) (ci := 2) (v := .ref w_ofX_a) (C := RX5) (T := TX5) (N := 4) hx hb hts wi_X5_digitOfX_X5 hown hK hP 0 rfl rfl 0 (by decide) (hts _ wm_X5_digitOfX_0) (fun _ h9 => h9) rfl dX5_digitOfX_9 ?_
  refine lv_iload_n hx hb dX5_digitOfX_12 rfl (lv_at hl 1 rfl) ?_
  obtain ⟨hin3, h⟩ := md_g h
  refine va_iald hx hb hK hP 1 0 rfl rfl hin3 dX5_digitOfX_13 ?_
  refine lv_goto (tgt := 18) hx hb dX5_digitOfX_14 (by decide) ?_
  exact hQ (w_ofX (Int32.toNatClampNeg p1)) 18 ls h dX5_digitOfX_18
set_option maxHeartbeats 4000000 in
theorem ctX5_digitOfX (l : Launch) {D : va_G} {cI cT : ClassId} {wo w_ofX_a w_ofY_a w_places_a : Nat} {w_ofX : Nat → Int32} {w_ofY : Nat → Int32} {w_places : Nat → Int32} {w_lines : Int32} {p1 : Int32} {res : Int32} (hm : mX5_digitOfX w_ofX w_lines p1 = some res) : Met l yX5_digitOfX wsX5_digitOfX rmX5_digitOfX (va_Pc [.ref wo, .int p1] (kW D cI cT [(wo, .inr (2, [.ref w_ofX_a, .ref w_ofY_a, .ref w_places_a, .int w_lines])), (w_ofX_a, .inl (cI, 16, .inl w_ofX)), (w_ofY_a, .inl (cI, 16, .inl w_ofY)), (w_places_a, .inl (cI, 16, .inl w_places))] none (fun _ => False))) (kR (.int res)) 0 0 (fun _ => False) :=
  km (by decide) rfl (Nat.le_of_ble_eq_true rfl) (fun p e s m below meth c ls C hB hl => bX5_digitOfX C p1 hB.1 w_ofX w_ofY w_places w_lines hB.2.1 res (fun v pc ls h hd => kr_i C h hd) hm ls hl)
theorem wm_X5_digitOfY_0 : Cond.fieldLink RX5 13 "SixtyTablet$Working" "ofY" "[I" ∈ wsX5_digitOfY := by decide +kernel
theorem wi_X5_digitOfY_X5 : ∀ w ∈ wsX50, w ∈ wsX5_digitOfY := by decide +kernel
theorem kdvX5_digitOfY : yX5_digitOfY.cls = RX5 ∧ yX5_digitOfY.cls ≠ "java/lang/invoke/MethodHandle" ∧ yX5_digitOfY.cls ≠ "java/lang/invoke/VarHandle" ∧ (parseMethodDescriptor yX5_digitOfY.desc).map (fun d => d.parameters.length) = some 1 := by decide +kernel
abbrev rmX5_digitOfY : Room := { frames := 1, cells := 0, slots := 0, locals := 21 }
def mX5_digitOfY (w_ofY : Nat → Int32) (w_lines : Int32) (p1 : Int32) : Option Int32 := (Option.bind (mX5_hasLine w_lines p1) (fun u1 => (if u1 = 0 then (some (0 : Int32)) else (if p1 < 0 ∨ 16 ≤ (Int32.toNatClampNeg p1) then none else (some (w_ofY (Int32.toNatClampNeg p1)))))))
set_option maxHeartbeats 4000000 in
set_option maxRecDepth 100000 in
theorem bX5_digitOfY {p : Program} {l : Launch} {e : Env} {s : State} {m : MethodId} {args : Array Value} {below : List Frame} {meth : Method} {c : Code} {Q : State → Prop} (C : kc p s m args meth c cX5_digitOfY 2 RX5 yX5_digitOfY.name wsX5_digitOfY (some .int)) {D : va_G} {cI cT : ClassId} {wo w_ofX_a w_ofY_a w_places_a : Nat} (p1 : Int32) (hK : va_K D vwCl (kTy cI cT) s) (w_ofX : Nat → Int32) (w_ofY : Nat → Int32) (w_places : Nat → Int32) (w_lines : Int32) (hP : va_P D vwCl [(wo, .inr (2, [.ref w_ofX_a, .ref w_ofY_a, .ref w_places_a, .int w_lines])), (w_ofX_a, .inl (cI, 16, .inl w_ofX)), (w_ofY_a, .inl (cI, 16, .inl w_ofY)), (w_places_a, .inl (cI, 16, .inl w_places))] s.heap) (res : Int32) (hQ : ∀ (v : Int32) (pc : Nat) (ls : Array Slot), some v = some res → decode cX5_digitOfY pc = .ok (.ireturn, 1) → W p l e rmX5_digitOfY s m args below meth c s.heap [] 0 0 Q (F0 m pc ls [.int v])) : mX5_digitOfY w_ofY w_lines p1 = some res → ∀ (ls : Array Slot), lv_has ls 2 [(0, .ref wo), (1, .int p1)] → W p l e rmX5_digitOfY s m args below meth c s.heap [] 0 0 Q (F0 m 0 ls []) := by
  intro h ls hl
  have C0 := C
  obtain ⟨hx, hb, hml, hown, hts, hr, hlk, hnm⟩ := C0
  rw [mX5_digitOfY] at h
  refine lv_aload_n hx hb dX5_digitOfY_0 rfl (lv_at hl 0 rfl) ?_
  refine lv_iload_n hx hb dX5_digitOfY_1 rfl (lv_at hl 1 rfl) ?_
  obtain ⟨u1, hu1, h⟩ := md_b h
  refine kV C (ctX5_hasLine l  hu1) gX5_digitOfY_X5_hasLine rfl kdvX5_hasLine ⟨rfl, rfl⟩ ⟨by decide, by decide⟩ kW_blind (va_recv hK hP (ci := 2) (q0 := 0) rfl rfl) (kW_use hK (hP.sub (ws' := [(wo, .inr (2, [.ref w_ofX_a, .ref w_ofY_a, .ref w_places_a, .int w_lines])), (w_ofX_a, .inl (cI, 16, .inl w_ofX)), (w_ofY_a, .inl (cI, 16, .inl w_ofY)), (w_places_a, .inl (cI, 16, .inl w_places))]) [0, 1, 2, 3] rfl) kL_no) rfl hl [] rfl (Nat.le_of_ble_eq_true rfl) dX5_digitOfY_2 ⟨by decide, by decide⟩ ?_
  refine lv_if_eq (tgt := 17) hx hb dX5_digitOfY_5 (by decide) (fun c2 => ?_) (fun c2 => ?_)
  · replace h := md_t c2 h
    refine lv_iconst (v := 0) hx hb dX5_digitOfY_17 (by decide) ?_
    exact hQ (0 : Int32) 18 ls h dX5_digitOfY_18
  replace h := md_f c2 h
  refine lv_aload_n hx hb dX5_digitOfY_8 rfl (lv_at hl 0 rfl) ?_
  refine va_get (D := D) (ci := 2) (v := .ref w_ofY_a) (C := RX5) (T := TX5) (N := 4) hx hb hts wi_X5_digitOfY_X5 hown hK hP 0 rfl rfl 1 (by decide) (hts _ wm_X5_digitOfY_0) (fun _ h9 => h9) rfl dX5_digitOfY_9 ?_
  refine lv_iload_n hx hb dX5_digitOfY_12 rfl (lv_at hl 1 rfl) ?_
  obtain ⟨hin3, h⟩ := md_g h
  refine va_iald hx hb hK hP 2 0 rfl rfl hin3 dX5_digitOfY_13 ?_
  refine lv_goto (tgt := 18) hx hb dX5_digitOfY_14 (by decide) ?_
  exact hQ (w_ofY (Int32.toNatClampNeg p1)) 18 ls h dX5_digitOfY_18
set_option maxHeartbeats 4000000 in
theorem ctX5_digitOfY (l : Launch) {D : va_G} {cI cT : ClassId} {wo w_ofX_a w_ofY_a w_places_a : Nat} {w_ofX : Nat → Int32} {w_ofY : Nat → Int32} {w_places : Nat → Int32} {w_lines : Int32} {p1 : Int32} {res : Int32} (hm : mX5_digitOfY w_ofY w_lines p1 = some res) : Met l yX5_digitOfY wsX5_digitOfY rmX5_digitOfY (va_Pc [.ref wo, .int p1] (kW D cI cT [(wo, .inr (2, [.ref w_ofX_a, .ref w_ofY_a, .ref w_places_a, .int w_lines])), (w_ofX_a, .inl (cI, 16, .inl w_ofX)), (w_ofY_a, .inl (cI, 16, .inl w_ofY)), (w_places_a, .inl (cI, 16, .inl w_places))] none (fun _ => False))) (kR (.int res)) 0 0 (fun _ => False) :=
  km (by decide) rfl (Nat.le_of_ble_eq_true rfl) (fun p e s m below meth c ls C hB hl => bX5_digitOfY C p1 hB.1 w_ofX w_ofY w_places w_lines hB.2.1 res (fun v pc ls h hd => kr_i C h hd) hm ls hl)
theorem wm_X5_place_0 : Cond.fieldLink RX5 16 "SixtyTablet$Working" "places" "[I" ∈ wsX5_place := by decide +kernel
theorem wi_X5_place_X5 : ∀ w ∈ wsX50, w ∈ wsX5_place := by decide +kernel
theorem kdvX5_place : yX5_place.cls = RX5 ∧ yX5_place.cls ≠ "java/lang/invoke/MethodHandle" ∧ yX5_place.cls ≠ "java/lang/invoke/VarHandle" ∧ (parseMethodDescriptor yX5_place.desc).map (fun d => d.parameters.length) = some 1 := by decide +kernel
abbrev rmX5_place : Room := { frames := 1, cells := 0, slots := 0, locals := 21 }
def mX5_place (w_places : Nat → Int32) (w_lines : Int32) (p1 : Int32) : Option Int32 := (Option.bind (mX5_hasLine w_lines p1) (fun u1 => (if u1 = 0 then (some (0 : Int32)) else (if p1 < 0 ∨ 16 ≤ (Int32.toNatClampNeg p1) then none else (some (w_places (Int32.toNatClampNeg p1)))))))
set_option maxHeartbeats 4000000 in
set_option maxRecDepth 100000 in
theorem bX5_place {p : Program} {l : Launch} {e : Env} {s : State} {m : MethodId} {args : Array Value} {below : List Frame} {meth : Method} {c : Code} {Q : State → Prop} (C : kc p s m args meth c cX5_place 2 RX5 yX5_place.name wsX5_place (some .int)) {D : va_G} {cI cT : ClassId} {wo w_ofX_a w_ofY_a w_places_a : Nat} (p1 : Int32) (hK : va_K D vwCl (kTy cI cT) s) (w_ofX : Nat → Int32) (w_ofY : Nat → Int32) (w_places : Nat → Int32) (w_lines : Int32) (hP : va_P D vwCl [(wo, .inr (2, [.ref w_ofX_a, .ref w_ofY_a, .ref w_places_a, .int w_lines])), (w_ofX_a, .inl (cI, 16, .inl w_ofX)), (w_ofY_a, .inl (cI, 16, .inl w_ofY)), (w_places_a, .inl (cI, 16, .inl w_places))] s.heap) (res : Int32) (hQ : ∀ (v : Int32) (pc : Nat) (ls : Array Slot), some v = some res → decode cX5_place pc = .ok (.ireturn, 1) → W p l e rmX5_place s m args below meth c s.heap [] 0 0 Q (F0 m pc ls [.int v])) : mX5_place w_places w_lines p1 = some res → ∀ (ls : Array Slot), lv_has ls 2 [(0, .ref wo), (1, .int p1)] → W p l e rmX5_place s m args below meth c s.heap [] 0 0 Q (F0 m 0 ls []) := by
  intro h ls hl
  have C0 := C
  obtain ⟨hx, hb, hml, hown, hts, hr, hlk, hnm⟩ := C0
  rw [mX5_place] at h
  refine lv_aload_n hx hb dX5_place_0 rfl (lv_at hl 0 rfl) ?_
  refine lv_iload_n hx hb dX5_place_1 rfl (lv_at hl 1 rfl) ?_
  obtain ⟨u1, hu1, h⟩ := md_b h
  refine kV C (ctX5_hasLine l  hu1) gX5_place_X5_hasLine rfl kdvX5_hasLine ⟨rfl, rfl⟩ ⟨by decide, by decide⟩ kW_blind (va_recv hK hP (ci := 2) (q0 := 0) rfl rfl) (kW_use hK (hP.sub (ws' := [(wo, .inr (2, [.ref w_ofX_a, .ref w_ofY_a, .ref w_places_a, .int w_lines])), (w_ofX_a, .inl (cI, 16, .inl w_ofX)), (w_ofY_a, .inl (cI, 16, .inl w_ofY)), (w_places_a, .inl (cI, 16, .inl w_places))]) [0, 1, 2, 3] rfl) kL_no) rfl hl [] rfl (Nat.le_of_ble_eq_true rfl) dX5_place_2 ⟨by decide, by decide⟩ ?_
  refine lv_if_eq (tgt := 17) hx hb dX5_place_5 (by decide) (fun c2 => ?_) (fun c2 => ?_)
  · replace h := md_t c2 h
    refine lv_iconst (v := 0) hx hb dX5_place_17 (by decide) ?_
    exact hQ (0 : Int32) 18 ls h dX5_place_18
  replace h := md_f c2 h
  refine lv_aload_n hx hb dX5_place_8 rfl (lv_at hl 0 rfl) ?_
  refine va_get (D := D) (ci := 2) (v := .ref w_places_a) (C := RX5) (T := TX5) (N := 4) hx hb hts wi_X5_place_X5 hown hK hP 0 rfl rfl 2 (by decide) (hts _ wm_X5_place_0) (fun _ h9 => h9) rfl dX5_place_9 ?_
  refine lv_iload_n hx hb dX5_place_12 rfl (lv_at hl 1 rfl) ?_
  obtain ⟨hin3, h⟩ := md_g h
  refine va_iald hx hb hK hP 3 0 rfl rfl hin3 dX5_place_13 ?_
  refine lv_goto (tgt := 18) hx hb dX5_place_14 (by decide) ?_
  exact hQ (w_places (Int32.toNatClampNeg p1)) 18 ls h dX5_place_18
set_option maxHeartbeats 4000000 in
theorem ctX5_place (l : Launch) {D : va_G} {cI cT : ClassId} {wo w_ofX_a w_ofY_a w_places_a : Nat} {w_ofX : Nat → Int32} {w_ofY : Nat → Int32} {w_places : Nat → Int32} {w_lines : Int32} {p1 : Int32} {res : Int32} (hm : mX5_place w_places w_lines p1 = some res) : Met l yX5_place wsX5_place rmX5_place (va_Pc [.ref wo, .int p1] (kW D cI cT [(wo, .inr (2, [.ref w_ofX_a, .ref w_ofY_a, .ref w_places_a, .int w_lines])), (w_ofX_a, .inl (cI, 16, .inl w_ofX)), (w_ofY_a, .inl (cI, 16, .inl w_ofY)), (w_places_a, .inl (cI, 16, .inl w_places))] none (fun _ => False))) (kR (.int res)) 0 0 (fun _ => False) :=
  km (by decide) rfl (Nat.le_of_ble_eq_true rfl) (fun p e s m below meth c ls C hB hl => bX5_place C p1 hB.1 w_ofX w_ofY w_places w_lines hB.2.1 res (fun v pc ls h hd => kr_i C h hd) hm ls hl)
theorem kdvX5_product : yX5_product.cls = RX5 ∧ yX5_product.cls ≠ "java/lang/invoke/MethodHandle" ∧ yX5_product.cls ≠ "java/lang/invoke/VarHandle" ∧ (parseMethodDescriptor yX5_product.desc).map (fun d => d.parameters.length) = some 1 := by decide +kernel
abbrev rmX5_product : Room := { frames := 2, cells := 0, slots := 0, locals := 42 }
def mX5_product (w_ofX : Nat → Int32) (w_ofY : Nat → Int32) (w_lines : Int32) (p1 : Int32) : Option Int32 := (Option.bind (mX5_digitOfX w_ofX w_lines p1) (fun u1 => (Option.bind (mX5_digitOfY w_ofY w_lines p1) (fun u2 => (some (u1 * u2))))))
set_option maxHeartbeats 4000000 in
set_option maxRecDepth 100000 in
theorem bX5_product {p : Program} {l : Launch} {e : Env} {s : State} {m : MethodId} {args : Array Value} {below : List Frame} {meth : Method} {c : Code} {Q : State → Prop} (C : kc p s m args meth c cX5_product 2 RX5 yX5_product.name wsX5_product (some .int)) {D : va_G} {cI cT : ClassId} {wo w_ofX_a w_ofY_a w_places_a : Nat} (p1 : Int32) (hK : va_K D vwCl (kTy cI cT) s) (w_ofX : Nat → Int32) (w_ofY : Nat → Int32) (w_places : Nat → Int32) (w_lines : Int32) (hP : va_P D vwCl [(wo, .inr (2, [.ref w_ofX_a, .ref w_ofY_a, .ref w_places_a, .int w_lines])), (w_ofX_a, .inl (cI, 16, .inl w_ofX)), (w_ofY_a, .inl (cI, 16, .inl w_ofY)), (w_places_a, .inl (cI, 16, .inl w_places))] s.heap) (res : Int32) (hQ : ∀ (v : Int32) (pc : Nat) (ls : Array Slot), some v = some res → decode cX5_product pc = .ok (.ireturn, 1) → W p l e rmX5_product s m args below meth c s.heap [] 0 0 Q (F0 m pc ls [.int v])) : mX5_product w_ofX w_ofY w_lines p1 = some res → ∀ (ls : Array Slot), lv_has ls 2 [(0, .ref wo), (1, .int p1)] → W p l e rmX5_product s m args below meth c s.heap [] 0 0 Q (F0 m 0 ls []) := by
  intro h ls hl
  have C0 := C
  obtain ⟨hx, hb, hml, hown, hts, hr, hlk, hnm⟩ := C0
  rw [mX5_product] at h
  refine lv_aload_n hx hb dX5_product_0 rfl (lv_at hl 0 rfl) ?_
  refine lv_iload_n hx hb dX5_product_1 rfl (lv_at hl 1 rfl) ?_
  obtain ⟨u1, hu1, h⟩ := md_b h
  refine kV C (ctX5_digitOfX l  hu1) gX5_product_X5_digitOfX rfl kdvX5_digitOfX ⟨rfl, rfl⟩ ⟨by decide, by decide⟩ kW_blind (va_recv hK hP (ci := 2) (q0 := 0) rfl rfl) (kW_use hK (hP.sub (ws' := [(wo, .inr (2, [.ref w_ofX_a, .ref w_ofY_a, .ref w_places_a, .int w_lines])), (w_ofX_a, .inl (cI, 16, .inl w_ofX)), (w_ofY_a, .inl (cI, 16, .inl w_ofY)), (w_places_a, .inl (cI, 16, .inl w_places))]) [0, 1, 2, 3] rfl) kL_no) rfl hl [] rfl (Nat.le_of_ble_eq_true rfl) dX5_product_2 ⟨by decide, by decide⟩ ?_
  refine lv_aload_n hx hb dX5_product_5 rfl (lv_at hl 0 rfl) ?_
  refine lv_iload_n hx hb dX5_product_6 rfl (lv_at hl 1 rfl) ?_
  obtain ⟨u2, hu2, h⟩ := md_b h
  refine kV C (ctX5_digitOfY l  hu2) gX5_product_X5_digitOfY rfl kdvX5_digitOfY ⟨rfl, rfl⟩ ⟨by decide, by decide⟩ kW_blind (va_recv hK hP (ci := 2) (q0 := 0) rfl rfl) (kW_use hK (hP.sub (ws' := [(wo, .inr (2, [.ref w_ofX_a, .ref w_ofY_a, .ref w_places_a, .int w_lines])), (w_ofX_a, .inl (cI, 16, .inl w_ofX)), (w_ofY_a, .inl (cI, 16, .inl w_ofY)), (w_places_a, .inl (cI, 16, .inl w_places))]) [0, 1, 2, 3] rfl) kL_no) rfl hl [.int u1] rfl (Nat.le_of_ble_eq_true rfl) dX5_product_7 ⟨by decide, by decide⟩ ?_
  refine lv_imul hx hb dX5_product_10 ?_
  exact hQ (u1 * u2) 11 ls h dX5_product_11
set_option maxHeartbeats 4000000 in
theorem ctX5_product (l : Launch) {D : va_G} {cI cT : ClassId} {wo w_ofX_a w_ofY_a w_places_a : Nat} {w_ofX : Nat → Int32} {w_ofY : Nat → Int32} {w_places : Nat → Int32} {w_lines : Int32} {p1 : Int32} {res : Int32} (hm : mX5_product w_ofX w_ofY w_lines p1 = some res) : Met l yX5_product wsX5_product rmX5_product (va_Pc [.ref wo, .int p1] (kW D cI cT [(wo, .inr (2, [.ref w_ofX_a, .ref w_ofY_a, .ref w_places_a, .int w_lines])), (w_ofX_a, .inl (cI, 16, .inl w_ofX)), (w_ofY_a, .inl (cI, 16, .inl w_ofY)), (w_places_a, .inl (cI, 16, .inl w_places))] none (fun _ => False))) (kR (.int res)) 0 0 (fun _ => False) :=
  km (by decide) rfl (Nat.le_of_ble_eq_true rfl) (fun p e s m below meth c ls C hB hl => bX5_product C p1 hB.1 w_ofX w_ofY w_places w_lines hB.2.1 res (fun v pc ls h hd => kr_i C h hd) hm ls hl)
theorem kdvX5_worth : yX5_worth.cls = RX5 ∧ yX5_worth.cls ≠ "java/lang/invoke/MethodHandle" ∧ yX5_worth.cls ≠ "java/lang/invoke/VarHandle" ∧ (parseMethodDescriptor yX5_worth.desc).map (fun d => d.parameters.length) = some 1 := by decide +kernel
abbrev rmX5_worth : Room := { frames := 3, cells := 0, slots := 0, locals := 63 }
def mX5_worth (w_ofX : Nat → Int32) (w_ofY : Nat → Int32) (w_places : Nat → Int32) (w_lines : Int32) (p1 : Int32) : Option Int64 := (Option.bind (mX5_product w_ofX w_ofY w_lines p1) (fun u1 => (Option.bind (mX5_place w_places w_lines p1) (fun u2 => (Option.bind (mX1_atPlace (Int32.toInt64 u1) u2) (fun u3 => (some u3)))))))
set_option maxHeartbeats 4000000 in
set_option maxRecDepth 100000 in
theorem bX5_worth {p : Program} {l : Launch} {e : Env} {s : State} {m : MethodId} {args : Array Value} {below : List Frame} {meth : Method} {c : Code} {Q : State → Prop} (C : kc p s m args meth c cX5_worth 2 RX5 yX5_worth.name wsX5_worth (some .long)) {D : va_G} {cI cT : ClassId} {wo w_ofX_a w_ofY_a w_places_a : Nat} (p1 : Int32) (hK : va_K D vwCl (kTy cI cT) s) (w_ofX : Nat → Int32) (w_ofY : Nat → Int32) (w_places : Nat → Int32) (w_lines : Int32) (hP : va_P D vwCl [(wo, .inr (2, [.ref w_ofX_a, .ref w_ofY_a, .ref w_places_a, .int w_lines])), (w_ofX_a, .inl (cI, 16, .inl w_ofX)), (w_ofY_a, .inl (cI, 16, .inl w_ofY)), (w_places_a, .inl (cI, 16, .inl w_places))] s.heap) (res : Int64) (hQ : ∀ (v : Int64) (pc : Nat) (ls : Array Slot), some v = some res → decode cX5_worth pc = .ok (.lreturn, 1) → W p l e rmX5_worth s m args below meth c s.heap [] 0 0 Q (F0 m pc ls [.long v])) : mX5_worth w_ofX w_ofY w_places w_lines p1 = some res → ∀ (ls : Array Slot), lv_has ls 2 [(0, .ref wo), (1, .int p1)] → W p l e rmX5_worth s m args below meth c s.heap [] 0 0 Q (F0 m 0 ls []) := by
  intro h ls hl
  have C0 := C
  obtain ⟨hx, hb, hml, hown, hts, hr, hlk, hnm⟩ := C0
  rw [mX5_worth] at h
  refine lv_aload_n hx hb dX5_worth_0 rfl (lv_at hl 0 rfl) ?_
  refine lv_iload_n hx hb dX5_worth_1 rfl (lv_at hl 1 rfl) ?_
  obtain ⟨u1, hu1, h⟩ := md_b h
  refine kV C (ctX5_product l  hu1) gX5_worth_X5_product rfl kdvX5_product ⟨rfl, rfl⟩ ⟨by decide, by decide⟩ kW_blind (va_recv hK hP (ci := 2) (q0 := 0) rfl rfl) (kW_use hK (hP.sub (ws' := [(wo, .inr (2, [.ref w_ofX_a, .ref w_ofY_a, .ref w_places_a, .int w_lines])), (w_ofX_a, .inl (cI, 16, .inl w_ofX)), (w_ofY_a, .inl (cI, 16, .inl w_ofY)), (w_places_a, .inl (cI, 16, .inl w_places))]) [0, 1, 2, 3] rfl) kL_no) rfl hl [] rfl (Nat.le_of_ble_eq_true rfl) dX5_worth_2 ⟨by decide, by decide⟩ ?_
  refine lv_i2l hx hb dX5_worth_5 rfl ?_
  refine lv_aload_n hx hb dX5_worth_6 rfl (lv_at hl 0 rfl) ?_
  refine lv_iload_n hx hb dX5_worth_7 rfl (lv_at hl 1 rfl) ?_
  obtain ⟨u2, hu2, h⟩ := md_b h
  refine kV C (ctX5_place l  hu2) gX5_worth_X5_place rfl kdvX5_place ⟨rfl, rfl⟩ ⟨by decide, by decide⟩ kW_blind (va_recv hK hP (ci := 2) (q0 := 0) rfl rfl) (kW_use hK (hP.sub (ws' := [(wo, .inr (2, [.ref w_ofX_a, .ref w_ofY_a, .ref w_places_a, .int w_lines])), (w_ofX_a, .inl (cI, 16, .inl w_ofX)), (w_ofY_a, .inl (cI, 16, .inl w_ofY)), (w_places_a, .inl (cI, 16, .inl w_places))]) [0, 1, 2, 3] rfl) kL_no) rfl hl [.long (Int32.toInt64 u1)] rfl (Nat.le_of_ble_eq_true rfl) dX5_worth_8 ⟨by decide, by decide⟩ ?_
  obtain ⟨u3, hu3, h⟩ := md_b h
  refine kS C (ctX1_atPlace l  hu3) gX5_worth_X1_atPlace rfl kdX1_atPlace ⟨rfl, rfl⟩ ⟨by decide, by decide⟩ kT_blind (fun _ _ _ => trivial) rfl hl [] rfl (Nat.le_of_ble_eq_true rfl) dX5_worth_11 ⟨by decide, by decide⟩ ?_
  exact hQ u3 14 ls h dX5_worth_14
set_option maxHeartbeats 4000000 in
theorem ctX5_worth (l : Launch) {D : va_G} {cI cT : ClassId} {wo w_ofX_a w_ofY_a w_places_a : Nat} {w_ofX : Nat → Int32} {w_ofY : Nat → Int32} {w_places : Nat → Int32} {w_lines : Int32} {p1 : Int32} {res : Int64} (hm : mX5_worth w_ofX w_ofY w_places w_lines p1 = some res) : Met l yX5_worth wsX5_worth rmX5_worth (va_Pc [.ref wo, .int p1] (kW D cI cT [(wo, .inr (2, [.ref w_ofX_a, .ref w_ofY_a, .ref w_places_a, .int w_lines])), (w_ofX_a, .inl (cI, 16, .inl w_ofX)), (w_ofY_a, .inl (cI, 16, .inl w_ofY)), (w_places_a, .inl (cI, 16, .inl w_places))] none (fun _ => False))) (kR (.long res)) 0 0 (fun _ => False) :=
  km (by decide) rfl (Nat.le_of_ble_eq_true rfl) (fun p e s m below meth c ls C hB hl => bX5_worth C p1 hB.1 w_ofX w_ofY w_places w_lines hB.2.1 res (fun v pc ls h hd => kr_l C h hd) hm ls hl)
theorem kdvX5_sumUpTo : yX5_sumUpTo.cls = RX5 ∧ yX5_sumUpTo.cls ≠ "java/lang/invoke/MethodHandle" ∧ yX5_sumUpTo.cls ≠ "java/lang/invoke/VarHandle" ∧ (parseMethodDescriptor yX5_sumUpTo.desc).map (fun d => d.parameters.length) = some 1 := by decide +kernel
abbrev rmX5_sumUpTo : Room := { frames := 4, cells := 0, slots := 0, locals := 84 }
def mlX5_sumUpTo_5 (x1 : Int32) (w_ofX : Nat → Int32) (w_ofY : Nat → Int32) (w_places : Nat → Int32) (w_lines : Int32) (kE : Int64 → Option Int64) : Nat → Int64 → Int32 → Option Int64
  | 0, _, _ => none
  | n + 1, x2, x4 => (if x1 < x4 then (kE x2) else (if (16 : Int32) ≤ x4 then (kE x2) else (Option.bind (mX5_worth w_ofX w_ofY w_places w_lines x4) (fun u3 => (md_let (x2 + u3) (fun (x2_4 : Int64) => (md_let (x4 + (1 : Int32)) (fun (x4_5 : Int32) => (mlX5_sumUpTo_5 x1 w_ofX w_ofY w_places w_lines kE n x2_4 x4_5)))))))))
set_option maxHeartbeats 4000000 in
set_option maxRecDepth 100000 in
theorem lX5_sumUpTo_5 {p : Program} {l : Launch} {e : Env} {s : State} {m : MethodId} {args : Array Value} {below : List Frame} {meth : Method} {c : Code} {Q : State → Prop} (C : kc p s m args meth c cX5_sumUpTo 5 RX5 yX5_sumUpTo.name wsX5_sumUpTo (some .long)) {D : va_G} {cI cT : ClassId} {wo w_ofX_a w_ofY_a w_places_a : Nat} (hK : va_K D vwCl (kTy cI cT) s) (x1 : Int32) (w_ofX : Nat → Int32) (w_ofY : Nat → Int32) (w_places : Nat → Int32) (w_lines : Int32) (hP : va_P D vwCl [(wo, .inr (2, [.ref w_ofX_a, .ref w_ofY_a, .ref w_places_a, .int w_lines])), (w_ofX_a, .inl (cI, 16, .inl w_ofX)), (w_ofY_a, .inl (cI, 16, .inl w_ofY)), (w_places_a, .inl (cI, 16, .inl w_places))] s.heap) (res : Int64) (hQ : ∀ (v : Int64) (pc : Nat) (ls : Array Slot), some v = some res → decode cX5_sumUpTo pc = .ok (.lreturn, 1) → W p l e rmX5_sumUpTo s m args below meth c s.heap [] 0 0 Q (F0 m pc ls [.long v])) (kE : Int64 → Option Int64) (hE : ∀ (y2 : Int64), kE y2 = some res → ∀ (ls : Array Slot), lv_has ls 5 [(2, .long y2)] → W p l e rmX5_sumUpTo s m args below meth c s.heap [] 0 0 Q (F0 m 33 ls [])) : ∀ (n : Nat), ∀ (x2 : Int64) (x4 : Int32), mlX5_sumUpTo_5 x1 w_ofX w_ofY w_places w_lines kE n x2 x4 = some res → ∀ (ls : Array Slot), lv_has ls 5 [(0, .ref wo), (1, .int x1), (2, .long x2), (4, .int x4)] → W p l e rmX5_sumUpTo s m args below meth c s.heap [] 0 0 Q (F0 m 5 ls []) := by
  have C0 := C
  obtain ⟨hx, hb, hml, hown, hts, hr, hlk, hnm⟩ := C0
  intro n
  induction n with
  | zero => intro _ _ h; exact md_x h
  | succ n ih =>
    intro x2 x4 h ls hl
    rw [mlX5_sumUpTo_5] at h
    refine lv_iload hx hb dX5_sumUpTo_5 (lv_at hl 3 rfl) ?_
    refine lv_iload_n hx hb dX5_sumUpTo_7 rfl (lv_at hl 1 rfl) ?_
    refine lv_icmp_gt (tgt := 33) hx hb dX5_sumUpTo_8 (by decide) (fun c1 => ?_) (fun c1 => ?_)
    · replace h := md_t c1 h
      exact hE x2 h ls (lv_sub hl [2] rfl)
    replace h := md_f c1 h
    refine lv_iload hx hb dX5_sumUpTo_11 (lv_at hl 3 rfl) ?_
    refine lv_bipush (v := 16) hx hb dX5_sumUpTo_13 (by decide) ?_
    refine lv_icmp_ge (tgt := 33) hx hb dX5_sumUpTo_15 (by decide) (fun c2 => ?_) (fun c2 => ?_)
    · replace h := md_t c2 h
      exact hE x2 h ls (lv_sub hl [2] rfl)
    replace h := md_f c2 h
    refine lv_lload_n hx hb dX5_sumUpTo_18 rfl (lv_at hl 2 rfl) ?_
    refine lv_aload_n hx hb dX5_sumUpTo_19 rfl (lv_at hl 0 rfl) ?_
    refine lv_iload hx hb dX5_sumUpTo_20 (lv_at hl 3 rfl) ?_
    obtain ⟨u3, hu3, h⟩ := md_b h
    refine kV C (ctX5_worth l  hu3) gX5_sumUpTo_X5_worth rfl kdvX5_worth ⟨rfl, rfl⟩ ⟨by decide, by decide⟩ kW_blind (va_recv hK hP (ci := 2) (q0 := 0) rfl rfl) (kW_use hK (hP.sub (ws' := [(wo, .inr (2, [.ref w_ofX_a, .ref w_ofY_a, .ref w_places_a, .int w_lines])), (w_ofX_a, .inl (cI, 16, .inl w_ofX)), (w_ofY_a, .inl (cI, 16, .inl w_ofY)), (w_places_a, .inl (cI, 16, .inl w_places))]) [0, 1, 2, 3] rfl) kL_no) rfl hl [.long x2] rfl (Nat.le_of_ble_eq_true rfl) dX5_sumUpTo_22 ⟨by decide, by decide⟩ ?_
    refine lv_ladd hx hb dX5_sumUpTo_25 ?_
    refine lv_topl (fun x2_4 ex2_4 => ?_)
    replace h := md_le ex2_4 h
    refine lv_lstore_n (lv' := [(2, .long x2_4), (0, .ref wo), (1, .int x1), (4, .int x4)]) hx hb dX5_sumUpTo_26 rfl hl (by decide) rfl (fun ls hl => ?_)
    obtain ⟨x4_5, ex4_5⟩ : ∃ y : Int32, y = (x4 + (1 : Int32)) := ⟨_, rfl⟩
    replace h := md_le ex4_5 h
    refine lv_iinc (v := x4_5) (lv' := [(4, .int x4_5), (2, .long x2_4), (0, .ref wo), (1, .int x1)]) hx hb dX5_sumUpTo_27 hl (k := 3) rfl (by rw [ex4_5]; rfl) (by decide) rfl (fun ls hl => ?_)
    refine lv_goto (tgt := 5) hx hb dX5_sumUpTo_30 (by decide) ?_
    exact ih x2_4 x4_5 h ls (lv_sub hl [2, 3, 1, 0] rfl)
def mX5_sumUpTo (w_ofX : Nat → Int32) (w_ofY : Nat → Int32) (w_places : Nat → Int32) (w_lines : Int32) (p1 : Int32) : Option Int64 := (mlX5_sumUpTo_5 p1 w_ofX w_ofY w_places w_lines (fun (y2_33 : Int64) => (some y2_33)) kN (0 : Int64) (0 : Int32))
set_option maxHeartbeats 4000000 in
set_option maxRecDepth 100000 in
theorem bX5_sumUpTo {p : Program} {l : Launch} {e : Env} {s : State} {m : MethodId} {args : Array Value} {below : List Frame} {meth : Method} {c : Code} {Q : State → Prop} (C : kc p s m args meth c cX5_sumUpTo 5 RX5 yX5_sumUpTo.name wsX5_sumUpTo (some .long)) {D : va_G} {cI cT : ClassId} {wo w_ofX_a w_ofY_a w_places_a : Nat} (p1 : Int32) (hK : va_K D vwCl (kTy cI cT) s) (w_ofX : Nat → Int32) (w_ofY : Nat → Int32) (w_places : Nat → Int32) (w_lines : Int32) (hP : va_P D vwCl [(wo, .inr (2, [.ref w_ofX_a, .ref w_ofY_a, .ref w_places_a, .int w_lines])), (w_ofX_a, .inl (cI, 16, .inl w_ofX)), (w_ofY_a, .inl (cI, 16, .inl w_ofY)), (w_places_a, .inl (cI, 16, .inl w_places))] s.heap) (res : Int64) (hQ : ∀ (v : Int64) (pc : Nat) (ls : Array Slot), some v = some res → decode cX5_sumUpTo pc = .ok (.lreturn, 1) → W p l e rmX5_sumUpTo s m args below meth c s.heap [] 0 0 Q (F0 m pc ls [.long v])) : mX5_sumUpTo w_ofX w_ofY w_places w_lines p1 = some res → ∀ (ls : Array Slot), lv_has ls 5 [(0, .ref wo), (1, .int p1)] → W p l e rmX5_sumUpTo s m args below meth c s.heap [] 0 0 Q (F0 m 0 ls []) := by
  intro h ls hl
  have C0 := C
  obtain ⟨hx, hb, hml, hown, hts, hr, hlk, hnm⟩ := C0
  rw [mX5_sumUpTo] at h
  refine lv_lconst (v := 0) hx hb dX5_sumUpTo_0 (by decide) ?_
  refine lv_lstore_n (lv' := [(2, .long (0 : Int64)), (0, .ref wo), (1, .int p1)]) hx hb dX5_sumUpTo_1 rfl hl (by decide) rfl (fun ls hl => ?_)
  refine lv_iconst (v := 0) hx hb dX5_sumUpTo_2 (by decide) ?_
  refine lv_istore (lv' := [(4, .int (0 : Int32)), (2, .long (0 : Int64)), (0, .ref wo), (1, .int p1)]) hx hb dX5_sumUpTo_3 hl (by decide) rfl (fun ls hl => ?_)
  refine lX5_sumUpTo_5 C hK p1 w_ofX w_ofY w_places w_lines hP res hQ _ (fun y2_33 h ls hl => ?_) kN (0 : Int64) (0 : Int32) h ls (lv_sub hl [2, 3, 1, 0] rfl)
  refine lv_lload_n hx hb dX5_sumUpTo_33 rfl (lv_at hl 0 rfl) ?_
  exact hQ y2_33 34 ls h dX5_sumUpTo_34
set_option maxHeartbeats 4000000 in
theorem ctX5_sumUpTo (l : Launch) {D : va_G} {cI cT : ClassId} {wo w_ofX_a w_ofY_a w_places_a : Nat} {w_ofX : Nat → Int32} {w_ofY : Nat → Int32} {w_places : Nat → Int32} {w_lines : Int32} {p1 : Int32} {res : Int64} (hm : mX5_sumUpTo w_ofX w_ofY w_places w_lines p1 = some res) : Met l yX5_sumUpTo wsX5_sumUpTo rmX5_sumUpTo (va_Pc [.ref wo, .int p1] (kW D cI cT [(wo, .inr (2, [.ref w_ofX_a, .ref w_ofY_a, .ref w_places_a, .int w_lines])), (w_ofX_a, .inl (cI, 16, .inl w_ofX)), (w_ofY_a, .inl (cI, 16, .inl w_ofY)), (w_places_a, .inl (cI, 16, .inl w_places))] none (fun _ => False))) (kR (.long res)) 0 0 (fun _ => False) :=
  km (by decide) rfl (Nat.le_of_ble_eq_true rfl) (fun p e s m below meth c ls C hB hl => bX5_sumUpTo C p1 hB.1 w_ofX w_ofY w_places w_lines hB.2.1 res (fun v pc ls h hd => kr_l C h hd) hm ls hl)
theorem wm_X5_leftOut_0 : Cond.constantLong RX5 75 (-1) ∈ wsX5_leftOut := by decide +kernel
theorem kdvX5_leftOut : yX5_leftOut.cls = RX5 ∧ yX5_leftOut.cls ≠ "java/lang/invoke/MethodHandle" ∧ yX5_leftOut.cls ≠ "java/lang/invoke/VarHandle" ∧ (parseMethodDescriptor yX5_leftOut.desc).map (fun d => d.parameters.length) = some 2 := by decide +kernel
abbrev rmX5_leftOut : Room := { frames := 3, cells := 0, slots := 0, locals := 63 }
def mX5_leftOut (w_ofX : Nat → Int32) (w_ofY : Nat → Int32) (w_places : Nat → Int32) (w_lines : Int32) (p1 : Int32) (p2 : Int32) : Option Int64 := (Option.bind (mX5_product w_ofX w_ofY w_lines p1) (fun u1 => (md_let (u1 / (60 : Int32)) (fun (x3_2 : Int32) => (Option.bind (mX5_product w_ofX w_ofY w_lines p1) (fun u3 => (md_let (u3 - u3 / (60 : Int32) * (60 : Int32)) (fun (x4_4 : Int32) => (if x3_2 = 0 then (some (-1 : Int64)) else (md_jn (fun (u_37 : Unit) => (md_jn (fun (z0_49 : Int64) => (Option.bind (mX5_place w_places w_lines p1) (fun u6 => (Option.bind (mX1_atPlace z0_49 u6) (fun u7 => (some u7)))))) (fun kJ49 => (if p2 = 0 then (kJ49 (Int32.toInt64 x4_4)) else (kJ49 (Int32.toInt64 x3_2)))))) (fun kJ37 => (if p2 = (1 : Int32) then (if x4_4 = 0 then (some (-1 : Int64)) else (kJ37 ())) else (kJ37 ())))))))))))))
set_option maxHeartbeats 4000000 in
set_option maxRecDepth 100000 in
theorem bX5_leftOut {p : Program} {l : Launch} {e : Env} {s : State} {m : MethodId} {args : Array Value} {below : List Frame} {meth : Method} {c : Code} {Q : State → Prop} (C : kc p s m args meth c cX5_leftOut 5 RX5 yX5_leftOut.name wsX5_leftOut (some .long)) {D : va_G} {cI cT : ClassId} {wo w_ofX_a w_ofY_a w_places_a : Nat} (p1 : Int32) (p2 : Int32) (hK : va_K D vwCl (kTy cI cT) s) (w_ofX : Nat → Int32) (w_ofY : Nat → Int32) (w_places : Nat → Int32) (w_lines : Int32) (hP : va_P D vwCl [(wo, .inr (2, [.ref w_ofX_a, .ref w_ofY_a, .ref w_places_a, .int w_lines])), (w_ofX_a, .inl (cI, 16, .inl w_ofX)), (w_ofY_a, .inl (cI, 16, .inl w_ofY)), (w_places_a, .inl (cI, 16, .inl w_places))] s.heap) (res : Int64) (hQ : ∀ (v : Int64) (pc : Nat) (ls : Array Slot), some v = some res → decode cX5_leftOut pc = .ok (.lreturn, 1) → W p l e rmX5_leftOut s m args below meth c s.heap [] 0 0 Q (F0 m pc ls [.long v])) : mX5_leftOut w_ofX w_ofY w_places w_lines p1 p2 = some res → ∀ (ls : Array Slot), lv_has ls 5 [(0, .ref wo), (1, .int p1), (2, .int p2)] → W p l e rmX5_leftOut s m args below meth c s.heap [] 0 0 Q (F0 m 0 ls []) := by
  intro h ls hl
  have C0 := C
  obtain ⟨hx, hb, hml, hown, hts, hr, hlk, hnm⟩ := C0
  rw [mX5_leftOut] at h
  refine lv_aload_n hx hb dX5_leftOut_0 rfl (lv_at hl 0 rfl) ?_
  refine lv_iload_n hx hb dX5_leftOut_1 rfl (lv_at hl 1 rfl) ?_
  obtain ⟨u1, hu1, h⟩ := md_b h
  refine kV C (ctX5_product l  hu1) gX5_leftOut_X5_product rfl kdvX5_product ⟨rfl, rfl⟩ ⟨by decide, by decide⟩ kW_blind (va_recv hK hP (ci := 2) (q0 := 0) rfl rfl) (kW_use hK (hP.sub (ws' := [(wo, .inr (2, [.ref w_ofX_a, .ref w_ofY_a, .ref w_places_a, .int w_lines])), (w_ofX_a, .inl (cI, 16, .inl w_ofX)), (w_ofY_a, .inl (cI, 16, .inl w_ofY)), (w_places_a, .inl (cI, 16, .inl w_places))]) [0, 1, 2, 3] rfl) kL_no) rfl hl [] rfl (Nat.le_of_ble_eq_true rfl) dX5_leftOut_2 ⟨by decide, by decide⟩ ?_
  refine lv_bipush (v := 60) hx hb dX5_leftOut_5 (by decide) ?_
  refine lv_idiv hx hb dX5_leftOut_7 (by decide) ?_
  refine lv_topi (fun x3_2 ex3_2 => ?_)
  replace h := md_le ex3_2 h
  refine lv_istore_n (lv' := [(3, .int x3_2), (0, .ref wo), (1, .int p1), (2, .int p2)]) hx hb dX5_leftOut_8 rfl hl (by decide) rfl (fun ls hl => ?_)
  refine lv_aload_n hx hb dX5_leftOut_9 rfl (lv_at hl 1 rfl) ?_
  refine lv_iload_n hx hb dX5_leftOut_10 rfl (lv_at hl 2 rfl) ?_
  obtain ⟨u3, hu3, h⟩ := md_b h
  refine kV C (ctX5_product l  hu3) gX5_leftOut_X5_product rfl kdvX5_product ⟨rfl, rfl⟩ ⟨by decide, by decide⟩ kW_blind (va_recv hK hP (ci := 2) (q0 := 0) rfl rfl) (kW_use hK (hP.sub (ws' := [(wo, .inr (2, [.ref w_ofX_a, .ref w_ofY_a, .ref w_places_a, .int w_lines])), (w_ofX_a, .inl (cI, 16, .inl w_ofX)), (w_ofY_a, .inl (cI, 16, .inl w_ofY)), (w_places_a, .inl (cI, 16, .inl w_places))]) [0, 1, 2, 3] rfl) kL_no) rfl hl [] rfl (Nat.le_of_ble_eq_true rfl) dX5_leftOut_11 ⟨by decide, by decide⟩ ?_
  refine lv_bipush (v := 60) hx hb dX5_leftOut_14 (by decide) ?_
  refine lv_irem hx hb dX5_leftOut_16 (by decide) ?_
  refine lv_topi (fun x4_4 ex4_4 => ?_)
  replace h := md_le ex4_4 h
  refine lv_istore (lv' := [(4, .int x4_4), (3, .int x3_2), (0, .ref wo), (1, .int p1), (2, .int p2)]) hx hb dX5_leftOut_17 hl (by decide) rfl (fun ls hl => ?_)
  refine lv_iload_n hx hb dX5_leftOut_19 rfl (lv_at hl 1 rfl) ?_
  refine lv_if_eq (tgt := 33) hx hb dX5_leftOut_20 (by decide) (fun c5 => ?_) (fun c5 => ?_)
  · replace h := md_t c5 h
    refine lv_ldc2 hx hb hown (hts _ wm_X5_leftOut_0) dX5_leftOut_33 ?_
    exact hQ (-1 : Int64) 36 ls h dX5_leftOut_36
  replace h := md_f c5 h
  refine lv_iload_n hx hb dX5_leftOut_23 rfl (lv_at hl 4 rfl) ?_
  refine lv_iconst (v := 1) hx hb dX5_leftOut_24 (by decide) ?_
  obtain ⟨kJ37, ekJ37, h⟩ := md_jo h
  have KJ37 : ∀ (u_37 : Unit), kJ37 u_37 = some res → ∀ (ls : Array Slot), lv_has ls 5 [(0, .ref wo), (1, .int p1), (2, .int p2), (3, .int x3_2), (4, .int x4_4)] → W p l e rmX5_leftOut s m args below meth c s.heap [] 0 0 Q (F0 m 37 ls []) := by
    intro u_37 h ls hl
    rw [ekJ37] at h
    refine lv_iload_n hx hb dX5_leftOut_37 rfl (lv_at hl 2 rfl) ?_
    obtain ⟨kJ49, ekJ49, h⟩ := md_jo h
    have KJ49 : ∀ (z0_49 : Int64), kJ49 z0_49 = some res → ∀ (ls : Array Slot), lv_has ls 5 [(0, .ref wo), (1, .int p1)] → W p l e rmX5_leftOut s m args below meth c s.heap [] 0 0 Q (F0 m 49 ls [.long z0_49]) := by
      intro z0_49 h ls hl
      rw [ekJ49] at h
      refine lv_aload_n hx hb dX5_leftOut_49 rfl (lv_at hl 0 rfl) ?_
      refine lv_iload_n hx hb dX5_leftOut_50 rfl (lv_at hl 1 rfl) ?_
      obtain ⟨u6, hu6, h⟩ := md_b h
      refine kV C (ctX5_place l  hu6) gX5_leftOut_X5_place rfl kdvX5_place ⟨rfl, rfl⟩ ⟨by decide, by decide⟩ kW_blind (va_recv hK hP (ci := 2) (q0 := 0) rfl rfl) (kW_use hK (hP.sub (ws' := [(wo, .inr (2, [.ref w_ofX_a, .ref w_ofY_a, .ref w_places_a, .int w_lines])), (w_ofX_a, .inl (cI, 16, .inl w_ofX)), (w_ofY_a, .inl (cI, 16, .inl w_ofY)), (w_places_a, .inl (cI, 16, .inl w_places))]) [0, 1, 2, 3] rfl) kL_no) rfl hl [.long z0_49] rfl (Nat.le_of_ble_eq_true rfl) dX5_leftOut_51 ⟨by decide, by decide⟩ ?_
      obtain ⟨u7, hu7, h⟩ := md_b h
      refine kS C (ctX1_atPlace l  hu7) gX5_leftOut_X1_atPlace rfl kdX1_atPlace ⟨rfl, rfl⟩ ⟨by decide, by decide⟩ kT_blind (fun _ _ _ => trivial) rfl hl [] rfl (Nat.le_of_ble_eq_true rfl) dX5_leftOut_54 ⟨by decide, by decide⟩ ?_
      exact hQ u7 57 ls h dX5_leftOut_57
    clear ekJ49
    refine lv_if_ne (tgt := 47) hx hb dX5_leftOut_38 (by decide) (fun c8 => ?_) (fun c8 => ?_)
    · replace h := md_f c8 h
      refine lv_iload_n hx hb dX5_leftOut_47 rfl (lv_at hl 3 rfl) ?_
      refine lv_i2l hx hb dX5_leftOut_48 rfl ?_
      exact KJ49 (Int32.toInt64 x3_2) h ls (lv_sub hl [0, 1] rfl)
    replace h := md_t c8 h
    refine lv_iload hx hb dX5_leftOut_41 (lv_at hl 4 rfl) ?_
    refine lv_i2l hx hb dX5_leftOut_43 rfl ?_
    refine lv_goto (tgt := 49) hx hb dX5_leftOut_44 (by decide) ?_
    exact KJ49 (Int32.toInt64 x4_4) h ls (lv_sub hl [0, 1] rfl)
  clear ekJ37
  refine lv_icmp_ne (tgt := 37) hx hb dX5_leftOut_25 (by decide) (fun c9 => ?_) (fun c9 => ?_)
  · replace h := md_f c9 h
    exact KJ37 () h ls (lv_sub hl [2, 3, 4, 1, 0] rfl)
  replace h := md_t c9 h
  refine lv_iload hx hb dX5_leftOut_28 (lv_at hl 0 rfl) ?_
  refine lv_if_ne (tgt := 37) hx hb dX5_leftOut_30 (by decide) (fun c10 => ?_) (fun c10 => ?_)
  · replace h := md_f c10 h
    exact KJ37 () h ls (lv_sub hl [2, 3, 4, 1, 0] rfl)
  replace h := md_t c10 h
  refine lv_ldc2 hx hb hown (hts _ wm_X5_leftOut_0) dX5_leftOut_33 ?_
  exact hQ (-1 : Int64) 36 ls h dX5_leftOut_36
set_option maxHeartbeats 4000000 in
theorem ctX5_leftOut (l : Launch) {D : va_G} {cI cT : ClassId} {wo w_ofX_a w_ofY_a w_places_a : Nat} {w_ofX : Nat → Int32} {w_ofY : Nat → Int32} {w_places : Nat → Int32} {w_lines : Int32} {p1 : Int32} {p2 : Int32} {res : Int64} (hm : mX5_leftOut w_ofX w_ofY w_places w_lines p1 p2 = some res) : Met l yX5_leftOut wsX5_leftOut rmX5_leftOut (va_Pc [.ref wo, .int p1, .int p2] (kW D cI cT [(wo, .inr (2, [.ref w_ofX_a, .ref w_ofY_a, .ref w_places_a, .int w_lines])), (w_ofX_a, .inl (cI, 16, .inl w_ofX)), (w_ofY_a, .inl (cI, 16, .inl w_ofY)), (w_places_a, .inl (cI, 16, .inl w_places))] none (fun _ => False))) (kR (.long res)) 0 0 (fun _ => False) :=
  km (by decide) rfl (Nat.le_of_ble_eq_true rfl) (fun p e s m below meth c ls C hB hl => bX5_leftOut C p1 p2 hB.1 w_ofX w_ofY w_places w_lines hB.2.1 res (fun v pc ls h hd => kr_l C h hd) hm ls hl)
theorem wm_X5_placeLost_0 : Cond.constantLong RX5 75 (-1) ∈ wsX5_placeLost := by decide +kernel
theorem kdvX5_placeLost : yX5_placeLost.cls = RX5 ∧ yX5_placeLost.cls ≠ "java/lang/invoke/MethodHandle" ∧ yX5_placeLost.cls ≠ "java/lang/invoke/VarHandle" ∧ (parseMethodDescriptor yX5_placeLost.desc).map (fun d => d.parameters.length) = some 2 := by decide +kernel
abbrev rmX5_placeLost : Room := { frames := 3, cells := 0, slots := 0, locals := 63 }
def mX5_placeLost (w_ofX : Nat → Int32) (w_ofY : Nat → Int32) (w_places : Nat → Int32) (w_lines : Int32) (p1 : Int32) (p2 : Int32) : Option Int64 := (if p2 = 0 then (Option.bind (mX5_place w_places w_lines p1) (fun u2 => (if u2 ≤ 0 then (some (-1 : Int64)) else (Option.bind (mX5_product w_ofX w_ofY w_lines p1) (fun u4 => (Option.bind (mX5_place w_places w_lines p1) (fun u5 => (Option.bind (mX1_atPlace (Int32.toInt64 u4) (u5 - (1 : Int32))) (fun u6 => (some u6)))))))))) else (some (-1 : Int64)))
set_option maxHeartbeats 4000000 in
set_option maxRecDepth 100000 in
theorem bX5_placeLost {p : Program} {l : Launch} {e : Env} {s : State} {m : MethodId} {args : Array Value} {below : List Frame} {meth : Method} {c : Code} {Q : State → Prop} (C : kc p s m args meth c cX5_placeLost 3 RX5 yX5_placeLost.name wsX5_placeLost (some .long)) {D : va_G} {cI cT : ClassId} {wo w_ofX_a w_ofY_a w_places_a : Nat} (p1 : Int32) (p2 : Int32) (hK : va_K D vwCl (kTy cI cT) s) (w_ofX : Nat → Int32) (w_ofY : Nat → Int32) (w_places : Nat → Int32) (w_lines : Int32) (hP : va_P D vwCl [(wo, .inr (2, [.ref w_ofX_a, .ref w_ofY_a, .ref w_places_a, .int w_lines])), (w_ofX_a, .inl (cI, 16, .inl w_ofX)), (w_ofY_a, .inl (cI, 16, .inl w_ofY)), (w_places_a, .inl (cI, 16, .inl w_places))] s.heap) (res : Int64) (hQ : ∀ (v : Int64) (pc : Nat) (ls : Array Slot), some v = some res → decode cX5_placeLost pc = .ok (.lreturn, 1) → W p l e rmX5_placeLost s m args below meth c s.heap [] 0 0 Q (F0 m pc ls [.long v])) : mX5_placeLost w_ofX w_ofY w_places w_lines p1 p2 = some res → ∀ (ls : Array Slot), lv_has ls 3 [(0, .ref wo), (1, .int p1), (2, .int p2)] → W p l e rmX5_placeLost s m args below meth c s.heap [] 0 0 Q (F0 m 0 ls []) := by
  intro h ls hl
  have C0 := C
  obtain ⟨hx, hb, hml, hown, hts, hr, hlk, hnm⟩ := C0
  rw [mX5_placeLost] at h
  refine lv_iload_n hx hb dX5_placeLost_0 rfl (lv_at hl 2 rfl) ?_
  refine lv_if_ne (tgt := 31) hx hb dX5_placeLost_1 (by decide) (fun c1 => ?_) (fun c1 => ?_)
  · replace h := md_f c1 h
    refine lv_ldc2 hx hb hown (hts _ wm_X5_placeLost_0) dX5_placeLost_31 ?_
    exact hQ (-1 : Int64) 34 ls h dX5_placeLost_34
  replace h := md_t c1 h
  refine lv_aload_n hx hb dX5_placeLost_4 rfl (lv_at hl 0 rfl) ?_
  refine lv_iload_n hx hb dX5_placeLost_5 rfl (lv_at hl 1 rfl) ?_
  obtain ⟨u2, hu2, h⟩ := md_b h
  refine kV C (ctX5_place l  hu2) gX5_placeLost_X5_place rfl kdvX5_place ⟨rfl, rfl⟩ ⟨by decide, by decide⟩ kW_blind (va_recv hK hP (ci := 2) (q0 := 0) rfl rfl) (kW_use hK (hP.sub (ws' := [(wo, .inr (2, [.ref w_ofX_a, .ref w_ofY_a, .ref w_places_a, .int w_lines])), (w_ofX_a, .inl (cI, 16, .inl w_ofX)), (w_ofY_a, .inl (cI, 16, .inl w_ofY)), (w_places_a, .inl (cI, 16, .inl w_places))]) [0, 1, 2, 3] rfl) kL_no) rfl hl [] rfl (Nat.le_of_ble_eq_true rfl) dX5_placeLost_6 ⟨by decide, by decide⟩ ?_
  refine lv_if_le (tgt := 31) hx hb dX5_placeLost_9 (by decide) (fun c3 => ?_) (fun c3 => ?_)
  · replace h := md_t c3 h
    refine lv_ldc2 hx hb hown (hts _ wm_X5_placeLost_0) dX5_placeLost_31 ?_
    exact hQ (-1 : Int64) 34 ls h dX5_placeLost_34
  replace h := md_f c3 h
  refine lv_aload_n hx hb dX5_placeLost_12 rfl (lv_at hl 0 rfl) ?_
  refine lv_iload_n hx hb dX5_placeLost_13 rfl (lv_at hl 1 rfl) ?_
  obtain ⟨u4, hu4, h⟩ := md_b h
  refine kV C (ctX5_product l  hu4) gX5_placeLost_X5_product rfl kdvX5_product ⟨rfl, rfl⟩ ⟨by decide, by decide⟩ kW_blind (va_recv hK hP (ci := 2) (q0 := 0) rfl rfl) (kW_use hK (hP.sub (ws' := [(wo, .inr (2, [.ref w_ofX_a, .ref w_ofY_a, .ref w_places_a, .int w_lines])), (w_ofX_a, .inl (cI, 16, .inl w_ofX)), (w_ofY_a, .inl (cI, 16, .inl w_ofY)), (w_places_a, .inl (cI, 16, .inl w_places))]) [0, 1, 2, 3] rfl) kL_no) rfl hl [] rfl (Nat.le_of_ble_eq_true rfl) dX5_placeLost_14 ⟨by decide, by decide⟩ ?_
  refine lv_i2l hx hb dX5_placeLost_17 rfl ?_
  refine lv_aload_n hx hb dX5_placeLost_18 rfl (lv_at hl 0 rfl) ?_
  refine lv_iload_n hx hb dX5_placeLost_19 rfl (lv_at hl 1 rfl) ?_
  obtain ⟨u5, hu5, h⟩ := md_b h
  refine kV C (ctX5_place l  hu5) gX5_placeLost_X5_place rfl kdvX5_place ⟨rfl, rfl⟩ ⟨by decide, by decide⟩ kW_blind (va_recv hK hP (ci := 2) (q0 := 0) rfl rfl) (kW_use hK (hP.sub (ws' := [(wo, .inr (2, [.ref w_ofX_a, .ref w_ofY_a, .ref w_places_a, .int w_lines])), (w_ofX_a, .inl (cI, 16, .inl w_ofX)), (w_ofY_a, .inl (cI, 16, .inl w_ofY)), (w_places_a, .inl (cI, 16, .inl w_places))]) [0, 1, 2, 3] rfl) kL_no) rfl hl [.long (Int32.toInt64 u4)] rfl (Nat.le_of_ble_eq_true rfl) dX5_placeLost_20 ⟨by decide, by decide⟩ ?_
  refine lv_iconst (v := 1) hx hb dX5_placeLost_23 (by decide) ?_
  refine lv_isub hx hb dX5_placeLost_24 ?_
  obtain ⟨u6, hu6, h⟩ := md_b h
  refine kS C (ctX1_atPlace l  hu6) gX5_placeLost_X1_atPlace rfl kdX1_atPlace ⟨rfl, rfl⟩ ⟨by decide, by decide⟩ kT_blind (fun _ _ _ => trivial) rfl hl [] rfl (Nat.le_of_ble_eq_true rfl) dX5_placeLost_25 ⟨by decide, by decide⟩ ?_
  refine lv_goto (tgt := 34) hx hb dX5_placeLost_28 (by decide) ?_
  exact hQ u6 34 ls h dX5_placeLost_34
set_option maxHeartbeats 4000000 in
theorem ctX5_placeLost (l : Launch) {D : va_G} {cI cT : ClassId} {wo w_ofX_a w_ofY_a w_places_a : Nat} {w_ofX : Nat → Int32} {w_ofY : Nat → Int32} {w_places : Nat → Int32} {w_lines : Int32} {p1 : Int32} {p2 : Int32} {res : Int64} (hm : mX5_placeLost w_ofX w_ofY w_places w_lines p1 p2 = some res) : Met l yX5_placeLost wsX5_placeLost rmX5_placeLost (va_Pc [.ref wo, .int p1, .int p2] (kW D cI cT [(wo, .inr (2, [.ref w_ofX_a, .ref w_ofY_a, .ref w_places_a, .int w_lines])), (w_ofX_a, .inl (cI, 16, .inl w_ofX)), (w_ofY_a, .inl (cI, 16, .inl w_ofY)), (w_places_a, .inl (cI, 16, .inl w_places))] none (fun _ => False))) (kR (.long res)) 0 0 (fun _ => False) :=
  km (by decide) rfl (Nat.le_of_ble_eq_true rfl) (fun p e s m below meth c ls C hB hl => bX5_placeLost C p1 p2 hB.1 w_ofX w_ofY w_places w_lines hB.2.1 res (fun v pc ls h hd => kr_l C h hd) hm ls hl)
theorem wm_X5_rowBeside_0 : Cond.constantLong RX5 75 (-1) ∈ wsX5_rowBeside := by decide +kernel
theorem kdvX5_rowBeside : yX5_rowBeside.cls = RX5 ∧ yX5_rowBeside.cls ≠ "java/lang/invoke/MethodHandle" ∧ yX5_rowBeside.cls ≠ "java/lang/invoke/VarHandle" ∧ (parseMethodDescriptor yX5_rowBeside.desc).map (fun d => d.parameters.length) = some 2 := by decide +kernel
abbrev rmX5_rowBeside : Room := { frames := 2, cells := 0, slots := 0, locals := 42 }
def mX5_rowBeside (w_ofX : Nat → Int32) (w_ofY : Nat → Int32) (w_places : Nat → Int32) (w_lines : Int32) (p1 : Int32) (p2 : Int32) : Option Int64 := (md_jn (fun (z0_21 : Int32) => (if z0_21 < (1 : Int32) then (some (-1 : Int64)) else (if z0_21 < (60 : Int32) then (Option.bind (mX5_digitOfX w_ofX w_lines p1) (fun u3 => (Option.bind (mX5_place w_places w_lines p1) (fun u4 => (Option.bind (mX1_atPlace ((Int32.toInt64 u3) * (Int32.toInt64 z0_21)) u4) (fun u5 => (some u5))))))) else (some (-1 : Int64))))) (fun kJ21 => (if p2 = 0 then (Option.bind (mX5_digitOfY w_ofY w_lines p1) (fun u8 => (kJ21 (u8 - (1 : Int32))))) else (Option.bind (mX5_digitOfY w_ofY w_lines p1) (fun u7 => (kJ21 (u7 + (1 : Int32))))))))
set_option maxHeartbeats 4000000 in
set_option maxRecDepth 100000 in
theorem bX5_rowBeside {p : Program} {l : Launch} {e : Env} {s : State} {m : MethodId} {args : Array Value} {below : List Frame} {meth : Method} {c : Code} {Q : State → Prop} (C : kc p s m args meth c cX5_rowBeside 4 RX5 yX5_rowBeside.name wsX5_rowBeside (some .long)) {D : va_G} {cI cT : ClassId} {wo w_ofX_a w_ofY_a w_places_a : Nat} (p1 : Int32) (p2 : Int32) (hK : va_K D vwCl (kTy cI cT) s) (w_ofX : Nat → Int32) (w_ofY : Nat → Int32) (w_places : Nat → Int32) (w_lines : Int32) (hP : va_P D vwCl [(wo, .inr (2, [.ref w_ofX_a, .ref w_ofY_a, .ref w_places_a, .int w_lines])), (w_ofX_a, .inl (cI, 16, .inl w_ofX)), (w_ofY_a, .inl (cI, 16, .inl w_ofY)), (w_places_a, .inl (cI, 16, .inl w_places))] s.heap) (res : Int64) (hQ : ∀ (v : Int64) (pc : Nat) (ls : Array Slot), some v = some res → decode cX5_rowBeside pc = .ok (.lreturn, 1) → W p l e rmX5_rowBeside s m args below meth c s.heap [] 0 0 Q (F0 m pc ls [.long v])) : mX5_rowBeside w_ofX w_ofY w_places w_lines p1 p2 = some res → ∀ (ls : Array Slot), lv_has ls 4 [(0, .ref wo), (1, .int p1), (2, .int p2)] → W p l e rmX5_rowBeside s m args below meth c s.heap [] 0 0 Q (F0 m 0 ls []) := by
  intro h ls hl
  have C0 := C
  obtain ⟨hx, hb, hml, hown, hts, hr, hlk, hnm⟩ := C0
  rw [mX5_rowBeside] at h
  refine lv_iload_n hx hb dX5_rowBeside_0 rfl (lv_at hl 2 rfl) ?_
  obtain ⟨kJ21, ekJ21, h⟩ := md_jo h
  have KJ21 : ∀ (z0_21 : Int32), kJ21 z0_21 = some res → ∀ (ls : Array Slot), lv_has ls 4 [(0, .ref wo), (1, .int p1)] → W p l e rmX5_rowBeside s m args below meth c s.heap [] 0 0 Q (F0 m 21 ls [.int z0_21]) := by
    intro z0_21 h ls hl
    rw [ekJ21] at h
    refine lv_istore_n (lv' := [(3, .int z0_21), (0, .ref wo), (1, .int p1)]) hx hb dX5_rowBeside_21 rfl hl (by decide) rfl (fun ls hl => ?_)
    refine lv_iload_n hx hb dX5_rowBeside_22 rfl (lv_at hl 0 rfl) ?_
    refine lv_iconst (v := 1) hx hb dX5_rowBeside_23 (by decide) ?_
    refine lv_icmp_lt (tgt := 33) hx hb dX5_rowBeside_24 (by decide) (fun c1 => ?_) (fun c1 => ?_)
    · replace h := md_t c1 h
      refine lv_ldc2 hx hb hown (hts _ wm_X5_rowBeside_0) dX5_rowBeside_33 ?_
      exact hQ (-1 : Int64) 36 ls h dX5_rowBeside_36
    replace h := md_f c1 h
    refine lv_iload_n hx hb dX5_rowBeside_27 rfl (lv_at hl 0 rfl) ?_
    refine lv_bipush (v := 60) hx hb dX5_rowBeside_28 (by decide) ?_
    refine lv_icmp_lt (tgt := 37) hx hb dX5_rowBeside_30 (by decide) (fun c2 => ?_) (fun c2 => ?_)
    · replace h := md_t c2 h
      refine lv_aload_n hx hb dX5_rowBeside_37 rfl (lv_at hl 1 rfl) ?_
      refine lv_iload_n hx hb dX5_rowBeside_38 rfl (lv_at hl 2 rfl) ?_
      obtain ⟨u3, hu3, h⟩ := md_b h
      refine kV C (ctX5_digitOfX l  hu3) gX5_rowBeside_X5_digitOfX rfl kdvX5_digitOfX ⟨rfl, rfl⟩ ⟨by decide, by decide⟩ kW_blind (va_recv hK hP (ci := 2) (q0 := 0) rfl rfl) (kW_use hK (hP.sub (ws' := [(wo, .inr (2, [.ref w_ofX_a, .ref w_ofY_a, .ref w_places_a, .int w_lines])), (w_ofX_a, .inl (cI, 16, .inl w_ofX)), (w_ofY_a, .inl (cI, 16, .inl w_ofY)), (w_places_a, .inl (cI, 16, .inl w_places))]) [0, 1, 2, 3] rfl) kL_no) rfl hl [] rfl (Nat.le_of_ble_eq_true rfl) dX5_rowBeside_39 ⟨by decide, by decide⟩ ?_
      refine lv_i2l hx hb dX5_rowBeside_42 rfl ?_
      refine lv_iload_n hx hb dX5_rowBeside_43 rfl (lv_at hl 0 rfl) ?_
      refine lv_i2l hx hb dX5_rowBeside_44 rfl ?_
      refine lv_lmul hx hb dX5_rowBeside_45 ?_
      refine lv_aload_n hx hb dX5_rowBeside_46 rfl (lv_at hl 1 rfl) ?_
      refine lv_iload_n hx hb dX5_rowBeside_47 rfl (lv_at hl 2 rfl) ?_
      obtain ⟨u4, hu4, h⟩ := md_b h
      refine kV C (ctX5_place l  hu4) gX5_rowBeside_X5_place rfl kdvX5_place ⟨rfl, rfl⟩ ⟨by decide, by decide⟩ kW_blind (va_recv hK hP (ci := 2) (q0 := 0) rfl rfl) (kW_use hK (hP.sub (ws' := [(wo, .inr (2, [.ref w_ofX_a, .ref w_ofY_a, .ref w_places_a, .int w_lines])), (w_ofX_a, .inl (cI, 16, .inl w_ofX)), (w_ofY_a, .inl (cI, 16, .inl w_ofY)), (w_places_a, .inl (cI, 16, .inl w_places))]) [0, 1, 2, 3] rfl) kL_no) rfl hl [.long ((Int32.toInt64 u3) * (Int32.toInt64 z0_21))] rfl (Nat.le_of_ble_eq_true rfl) dX5_rowBeside_48 ⟨by decide, by decide⟩ ?_
      obtain ⟨u5, hu5, h⟩ := md_b h
      refine kS C (ctX1_atPlace l  hu5) gX5_rowBeside_X1_atPlace rfl kdX1_atPlace ⟨rfl, rfl⟩ ⟨by decide, by decide⟩ kT_blind (fun _ _ _ => trivial) rfl hl [] rfl (Nat.le_of_ble_eq_true rfl) dX5_rowBeside_51 ⟨by decide, by decide⟩ ?_
      exact hQ u5 54 ls h dX5_rowBeside_54
    replace h := md_f c2 h
    refine lv_ldc2 hx hb hown (hts _ wm_X5_rowBeside_0) dX5_rowBeside_33 ?_
    exact hQ (-1 : Int64) 36 ls h dX5_rowBeside_36
  clear ekJ21
  refine lv_if_ne (tgt := 14) hx hb dX5_rowBeside_1 (by decide) (fun c6 => ?_) (fun c6 => ?_)
  · replace h := md_f c6 h
    refine lv_aload_n hx hb dX5_rowBeside_14 rfl (lv_at hl 0 rfl) ?_
    refine lv_iload_n hx hb dX5_rowBeside_15 rfl (lv_at hl 1 rfl) ?_
    obtain ⟨u7, hu7, h⟩ := md_b h
    refine kV C (ctX5_digitOfY l  hu7) gX5_rowBeside_X5_digitOfY rfl kdvX5_digitOfY ⟨rfl, rfl⟩ ⟨by decide, by decide⟩ kW_blind (va_recv hK hP (ci := 2) (q0 := 0) rfl rfl) (kW_use hK (hP.sub (ws' := [(wo, .inr (2, [.ref w_ofX_a, .ref w_ofY_a, .ref w_places_a, .int w_lines])), (w_ofX_a, .inl (cI, 16, .inl w_ofX)), (w_ofY_a, .inl (cI, 16, .inl w_ofY)), (w_places_a, .inl (cI, 16, .inl w_places))]) [0, 1, 2, 3] rfl) kL_no) rfl hl [] rfl (Nat.le_of_ble_eq_true rfl) dX5_rowBeside_16 ⟨by decide, by decide⟩ ?_
    refine lv_iconst (v := 1) hx hb dX5_rowBeside_19 (by decide) ?_
    refine lv_iadd hx hb dX5_rowBeside_20 ?_
    exact KJ21 (u7 + (1 : Int32)) h ls (lv_sub hl [0, 1] rfl)
  replace h := md_t c6 h
  refine lv_aload_n hx hb dX5_rowBeside_4 rfl (lv_at hl 0 rfl) ?_
  refine lv_iload_n hx hb dX5_rowBeside_5 rfl (lv_at hl 1 rfl) ?_
  obtain ⟨u8, hu8, h⟩ := md_b h
  refine kV C (ctX5_digitOfY l  hu8) gX5_rowBeside_X5_digitOfY rfl kdvX5_digitOfY ⟨rfl, rfl⟩ ⟨by decide, by decide⟩ kW_blind (va_recv hK hP (ci := 2) (q0 := 0) rfl rfl) (kW_use hK (hP.sub (ws' := [(wo, .inr (2, [.ref w_ofX_a, .ref w_ofY_a, .ref w_places_a, .int w_lines])), (w_ofX_a, .inl (cI, 16, .inl w_ofX)), (w_ofY_a, .inl (cI, 16, .inl w_ofY)), (w_places_a, .inl (cI, 16, .inl w_places))]) [0, 1, 2, 3] rfl) kL_no) rfl hl [] rfl (Nat.le_of_ble_eq_true rfl) dX5_rowBeside_6 ⟨by decide, by decide⟩ ?_
  refine lv_iconst (v := 1) hx hb dX5_rowBeside_9 (by decide) ?_
  refine lv_isub hx hb dX5_rowBeside_10 ?_
  refine lv_goto (tgt := 21) hx hb dX5_rowBeside_11 (by decide) ?_
  exact KJ21 (u8 - (1 : Int32)) h ls (lv_sub hl [0, 1] rfl)
set_option maxHeartbeats 4000000 in
theorem ctX5_rowBeside (l : Launch) {D : va_G} {cI cT : ClassId} {wo w_ofX_a w_ofY_a w_places_a : Nat} {w_ofX : Nat → Int32} {w_ofY : Nat → Int32} {w_places : Nat → Int32} {w_lines : Int32} {p1 : Int32} {p2 : Int32} {res : Int64} (hm : mX5_rowBeside w_ofX w_ofY w_places w_lines p1 p2 = some res) : Met l yX5_rowBeside wsX5_rowBeside rmX5_rowBeside (va_Pc [.ref wo, .int p1, .int p2] (kW D cI cT [(wo, .inr (2, [.ref w_ofX_a, .ref w_ofY_a, .ref w_places_a, .int w_lines])), (w_ofX_a, .inl (cI, 16, .inl w_ofX)), (w_ofY_a, .inl (cI, 16, .inl w_ofY)), (w_places_a, .inl (cI, 16, .inl w_places))] none (fun _ => False))) (kR (.long res)) 0 0 (fun _ => False) :=
  km (by decide) rfl (Nat.le_of_ble_eq_true rfl) (fun p e s m below meth c ls C hB hl => bX5_rowBeside C p1 p2 hB.1 w_ofX w_ofY w_places w_lines hB.2.1 res (fun v pc ls h hd => kr_l C h hd) hm ls hl)
theorem wm_X5_writtenTwice_0 : Cond.constantLong RX5 75 (-1) ∈ wsX5_writtenTwice := by decide +kernel
theorem kdvX5_writtenTwice : yX5_writtenTwice.cls = RX5 ∧ yX5_writtenTwice.cls ≠ "java/lang/invoke/MethodHandle" ∧ yX5_writtenTwice.cls ≠ "java/lang/invoke/VarHandle" ∧ (parseMethodDescriptor yX5_writtenTwice.desc).map (fun d => d.parameters.length) = some 2 := by decide +kernel
abbrev rmX5_writtenTwice : Room := { frames := 3, cells := 0, slots := 0, locals := 63 }
def mX5_writtenTwice (w_ofX : Nat → Int32) (w_ofY : Nat → Int32) (w_places : Nat → Int32) (w_lines : Int32) (p1 : Int32) (p2 : Int32) : Option Int64 := (Option.bind (mX5_product w_ofX w_ofY w_lines p1) (fun u1 => (md_let (u1 / (60 : Int32)) (fun (x3_2 : Int32) => (Option.bind (mX5_product w_ofX w_ofY w_lines p1) (fun u3 => (md_let (u3 - u3 / (60 : Int32) * (60 : Int32)) (fun (x4_4 : Int32) => (md_jn (fun (z0_29 : Int32) => (if z0_29 = 0 then (some (-1 : Int64)) else (Option.bind (mX5_place w_places w_lines p1) (fun u6 => (Option.bind (mX1_atPlace (Int32.toInt64 ((((x3_2 * (60 : Int32)) + z0_29) * (60 : Int32)) + x4_4)) u6) (fun u7 => (some u7))))))) (fun kJ29 => (if p2 = 0 then (kJ29 x3_2) else (kJ29 x4_4))))))))))))
set_option maxHeartbeats 4000000 in
set_option maxRecDepth 100000 in
theorem bX5_writtenTwice {p : Program} {l : Launch} {e : Env} {s : State} {m : MethodId} {args : Array Value} {below : List Frame} {meth : Method} {c : Code} {Q : State → Prop} (C : kc p s m args meth c cX5_writtenTwice 6 RX5 yX5_writtenTwice.name wsX5_writtenTwice (some .long)) {D : va_G} {cI cT : ClassId} {wo w_ofX_a w_ofY_a w_places_a : Nat} (p1 : Int32) (p2 : Int32) (hK : va_K D vwCl (kTy cI cT) s) (w_ofX : Nat → Int32) (w_ofY : Nat → Int32) (w_places : Nat → Int32) (w_lines : Int32) (hP : va_P D vwCl [(wo, .inr (2, [.ref w_ofX_a, .ref w_ofY_a, .ref w_places_a, .int w_lines])), (w_ofX_a, .inl (cI, 16, .inl w_ofX)), (w_ofY_a, .inl (cI, 16, .inl w_ofY)), (w_places_a, .inl (cI, 16, .inl w_places))] s.heap) (res : Int64) (hQ : ∀ (v : Int64) (pc : Nat) (ls : Array Slot), some v = some res → decode cX5_writtenTwice pc = .ok (.lreturn, 1) → W p l e rmX5_writtenTwice s m args below meth c s.heap [] 0 0 Q (F0 m pc ls [.long v])) : mX5_writtenTwice w_ofX w_ofY w_places w_lines p1 p2 = some res → ∀ (ls : Array Slot), lv_has ls 6 [(0, .ref wo), (1, .int p1), (2, .int p2)] → W p l e rmX5_writtenTwice s m args below meth c s.heap [] 0 0 Q (F0 m 0 ls []) := by
  intro h ls hl
  have C0 := C
  obtain ⟨hx, hb, hml, hown, hts, hr, hlk, hnm⟩ := C0
  rw [mX5_writtenTwice] at h
  refine lv_aload_n hx hb dX5_writtenTwice_0 rfl (lv_at hl 0 rfl) ?_
  refine lv_iload_n hx hb dX5_writtenTwice_1 rfl (lv_at hl 1 rfl) ?_
  obtain ⟨u1, hu1, h⟩ := md_b h
  refine kV C (ctX5_product l  hu1) gX5_writtenTwice_X5_product rfl kdvX5_product ⟨rfl, rfl⟩ ⟨by decide, by decide⟩ kW_blind (va_recv hK hP (ci := 2) (q0 := 0) rfl rfl) (kW_use hK (hP.sub (ws' := [(wo, .inr (2, [.ref w_ofX_a, .ref w_ofY_a, .ref w_places_a, .int w_lines])), (w_ofX_a, .inl (cI, 16, .inl w_ofX)), (w_ofY_a, .inl (cI, 16, .inl w_ofY)), (w_places_a, .inl (cI, 16, .inl w_places))]) [0, 1, 2, 3] rfl) kL_no) rfl hl [] rfl (Nat.le_of_ble_eq_true rfl) dX5_writtenTwice_2 ⟨by decide, by decide⟩ ?_
  refine lv_bipush (v := 60) hx hb dX5_writtenTwice_5 (by decide) ?_
  refine lv_idiv hx hb dX5_writtenTwice_7 (by decide) ?_
  refine lv_topi (fun x3_2 ex3_2 => ?_)
  replace h := md_le ex3_2 h
  refine lv_istore_n (lv' := [(3, .int x3_2), (0, .ref wo), (1, .int p1), (2, .int p2)]) hx hb dX5_writtenTwice_8 rfl hl (by decide) rfl (fun ls hl => ?_)
  refine lv_aload_n hx hb dX5_writtenTwice_9 rfl (lv_at hl 1 rfl) ?_
  refine lv_iload_n hx hb dX5_writtenTwice_10 rfl (lv_at hl 2 rfl) ?_
  obtain ⟨u3, hu3, h⟩ := md_b h
  refine kV C (ctX5_product l  hu3) gX5_writtenTwice_X5_product rfl kdvX5_product ⟨rfl, rfl⟩ ⟨by decide, by decide⟩ kW_blind (va_recv hK hP (ci := 2) (q0 := 0) rfl rfl) (kW_use hK (hP.sub (ws' := [(wo, .inr (2, [.ref w_ofX_a, .ref w_ofY_a, .ref w_places_a, .int w_lines])), (w_ofX_a, .inl (cI, 16, .inl w_ofX)), (w_ofY_a, .inl (cI, 16, .inl w_ofY)), (w_places_a, .inl (cI, 16, .inl w_places))]) [0, 1, 2, 3] rfl) kL_no) rfl hl [] rfl (Nat.le_of_ble_eq_true rfl) dX5_writtenTwice_11 ⟨by decide, by decide⟩ ?_
  refine lv_bipush (v := 60) hx hb dX5_writtenTwice_14 (by decide) ?_
  refine lv_irem hx hb dX5_writtenTwice_16 (by decide) ?_
  refine lv_topi (fun x4_4 ex4_4 => ?_)
  replace h := md_le ex4_4 h
  refine lv_istore (lv' := [(4, .int x4_4), (3, .int x3_2), (0, .ref wo), (1, .int p1), (2, .int p2)]) hx hb dX5_writtenTwice_17 hl (by decide) rfl (fun ls hl => ?_)
  refine lv_iload_n hx hb dX5_writtenTwice_19 rfl (lv_at hl 4 rfl) ?_
  obtain ⟨kJ29, ekJ29, h⟩ := md_jo h
  have KJ29 : ∀ (z0_29 : Int32), kJ29 z0_29 = some res → ∀ (ls : Array Slot), lv_has ls 6 [(0, .ref wo), (1, .int p1), (3, .int x3_2), (4, .int x4_4)] → W p l e rmX5_writtenTwice s m args below meth c s.heap [] 0 0 Q (F0 m 29 ls [.int z0_29]) := by
    intro z0_29 h ls hl
    rw [ekJ29] at h
    refine lv_istore (lv' := [(5, .int z0_29), (0, .ref wo), (1, .int p1), (3, .int x3_2), (4, .int x4_4)]) hx hb dX5_writtenTwice_29 hl (by decide) rfl (fun ls hl => ?_)
    refine lv_iload hx hb dX5_writtenTwice_31 (lv_at hl 0 rfl) ?_
    refine lv_if_ne (tgt := 40) hx hb dX5_writtenTwice_33 (by decide) (fun c5 => ?_) (fun c5 => ?_)
    · replace h := md_f c5 h
      refine lv_iload_n hx hb dX5_writtenTwice_40 rfl (lv_at hl 3 rfl) ?_
      refine lv_bipush (v := 60) hx hb dX5_writtenTwice_41 (by decide) ?_
      refine lv_imul hx hb dX5_writtenTwice_43 ?_
      refine lv_iload hx hb dX5_writtenTwice_44 (lv_at hl 0 rfl) ?_
      refine lv_iadd hx hb dX5_writtenTwice_46 ?_
      refine lv_bipush (v := 60) hx hb dX5_writtenTwice_47 (by decide) ?_
      refine lv_imul hx hb dX5_writtenTwice_49 ?_
      refine lv_iload hx hb dX5_writtenTwice_50 (lv_at hl 4 rfl) ?_
      refine lv_iadd hx hb dX5_writtenTwice_52 ?_
      refine lv_i2l hx hb dX5_writtenTwice_53 rfl ?_
      refine lv_aload_n hx hb dX5_writtenTwice_54 rfl (lv_at hl 1 rfl) ?_
      refine lv_iload_n hx hb dX5_writtenTwice_55 rfl (lv_at hl 2 rfl) ?_
      obtain ⟨u6, hu6, h⟩ := md_b h
      refine kV C (ctX5_place l  hu6) gX5_writtenTwice_X5_place rfl kdvX5_place ⟨rfl, rfl⟩ ⟨by decide, by decide⟩ kW_blind (va_recv hK hP (ci := 2) (q0 := 0) rfl rfl) (kW_use hK (hP.sub (ws' := [(wo, .inr (2, [.ref w_ofX_a, .ref w_ofY_a, .ref w_places_a, .int w_lines])), (w_ofX_a, .inl (cI, 16, .inl w_ofX)), (w_ofY_a, .inl (cI, 16, .inl w_ofY)), (w_places_a, .inl (cI, 16, .inl w_places))]) [0, 1, 2, 3] rfl) kL_no) rfl hl [.long (Int32.toInt64 ((((x3_2 * (60 : Int32)) + z0_29) * (60 : Int32)) + x4_4))] rfl (Nat.le_of_ble_eq_true rfl) dX5_writtenTwice_56 ⟨by decide, by decide⟩ ?_
      obtain ⟨u7, hu7, h⟩ := md_b h
      refine kS C (ctX1_atPlace l  hu7) gX5_writtenTwice_X1_atPlace rfl kdX1_atPlace ⟨rfl, rfl⟩ ⟨by decide, by decide⟩ kT_blind (fun _ _ _ => trivial) rfl hl [] rfl (Nat.le_of_ble_eq_true rfl) dX5_writtenTwice_59 ⟨by decide, by decide⟩ ?_
      exact hQ u7 62 ls h dX5_writtenTwice_62
    replace h := md_t c5 h
    refine lv_ldc2 hx hb hown (hts _ wm_X5_writtenTwice_0) dX5_writtenTwice_36 ?_
    exact hQ (-1 : Int64) 39 ls h dX5_writtenTwice_39
  clear ekJ29
  refine lv_if_ne (tgt := 27) hx hb dX5_writtenTwice_20 (by decide) (fun c8 => ?_) (fun c8 => ?_)
  · replace h := md_f c8 h
    refine lv_iload hx hb dX5_writtenTwice_27 (lv_at hl 0 rfl) ?_
    exact KJ29 x4_4 h ls (lv_sub hl [2, 3, 1, 0] rfl)
  replace h := md_t c8 h
  refine lv_iload_n hx hb dX5_writtenTwice_23 rfl (lv_at hl 1 rfl) ?_
  refine lv_goto (tgt := 29) hx hb dX5_writtenTwice_24 (by decide) ?_
  exact KJ29 x3_2 h ls (lv_sub hl [2, 3, 1, 0] rfl)
set_option maxHeartbeats 4000000 in
theorem ctX5_writtenTwice (l : Launch) {D : va_G} {cI cT : ClassId} {wo w_ofX_a w_ofY_a w_places_a : Nat} {w_ofX : Nat → Int32} {w_ofY : Nat → Int32} {w_places : Nat → Int32} {w_lines : Int32} {p1 : Int32} {p2 : Int32} {res : Int64} (hm : mX5_writtenTwice w_ofX w_ofY w_places w_lines p1 p2 = some res) : Met l yX5_writtenTwice wsX5_writtenTwice rmX5_writtenTwice (va_Pc [.ref wo, .int p1, .int p2] (kW D cI cT [(wo, .inr (2, [.ref w_ofX_a, .ref w_ofY_a, .ref w_places_a, .int w_lines])), (w_ofX_a, .inl (cI, 16, .inl w_ofX)), (w_ofY_a, .inl (cI, 16, .inl w_ofY)), (w_places_a, .inl (cI, 16, .inl w_places))] none (fun _ => False))) (kR (.long res)) 0 0 (fun _ => False) :=
  km (by decide) rfl (Nat.le_of_ble_eq_true rfl) (fun p e s m below meth c ls C hB hl => bX5_writtenTwice C p1 p2 hB.1 w_ofX w_ofY w_places w_lines hB.2.1 res (fun v pc ls h hd => kr_l C h hd) hm ls hl)
theorem wm_X5_slipped_0 : Cond.constantLong RX5 75 (-1) ∈ wsX5_slipped := by decide +kernel
theorem kdvX5_slipped : yX5_slipped.cls = RX5 ∧ yX5_slipped.cls ≠ "java/lang/invoke/MethodHandle" ∧ yX5_slipped.cls ≠ "java/lang/invoke/VarHandle" ∧ (parseMethodDescriptor yX5_slipped.desc).map (fun d => d.parameters.length) = some 3 := by decide +kernel
abbrev rmX5_slipped : Room := { frames := 4, cells := 0, slots := 0, locals := 88 }
def mX5_slipped (w_ofX : Nat → Int32) (w_ofY : Nat → Int32) (w_places : Nat → Int32) (w_lines : Int32) (p1 : Int32) (p2 : Int32) (p3 : Int32) : Option Int64 := (if p2 = (0 : Int32) then (Option.bind (mX5_leftOut w_ofX w_ofY w_places w_lines p1 p3) (fun u2 => (some u2))) else (if p2 = (1 : Int32) then (Option.bind (mX5_placeLost w_ofX w_ofY w_places w_lines p1 p3) (fun u4 => (some u4))) else (if p2 = (2 : Int32) then (Option.bind (mX5_rowBeside w_ofX w_ofY w_places w_lines p1 p3) (fun u6 => (some u6))) else (if p2 = (3 : Int32) then (Option.bind (mX5_writtenTwice w_ofX w_ofY w_places w_lines p1 p3) (fun u8 => (some u8))) else (some (-1 : Int64))))))
set_option maxHeartbeats 4000000 in
set_option maxRecDepth 100000 in
theorem bX5_slipped {p : Program} {l : Launch} {e : Env} {s : State} {m : MethodId} {args : Array Value} {below : List Frame} {meth : Method} {c : Code} {Q : State → Prop} (C : kc p s m args meth c cX5_slipped 4 RX5 yX5_slipped.name wsX5_slipped (some .long)) {D : va_G} {cI cT : ClassId} {wo w_ofX_a w_ofY_a w_places_a : Nat} (p1 : Int32) (p2 : Int32) (p3 : Int32) (hK : va_K D vwCl (kTy cI cT) s) (w_ofX : Nat → Int32) (w_ofY : Nat → Int32) (w_places : Nat → Int32) (w_lines : Int32) (hP : va_P D vwCl [(wo, .inr (2, [.ref w_ofX_a, .ref w_ofY_a, .ref w_places_a, .int w_lines])), (w_ofX_a, .inl (cI, 16, .inl w_ofX)), (w_ofY_a, .inl (cI, 16, .inl w_ofY)), (w_places_a, .inl (cI, 16, .inl w_places))] s.heap) (res : Int64) (hQ : ∀ (v : Int64) (pc : Nat) (ls : Array Slot), some v = some res → decode cX5_slipped pc = .ok (.lreturn, 1) → W p l e rmX5_slipped s m args below meth c s.heap [] 0 0 Q (F0 m pc ls [.long v])) : mX5_slipped w_ofX w_ofY w_places w_lines p1 p2 p3 = some res → ∀ (ls : Array Slot), lv_has ls 4 [(0, .ref wo), (1, .int p1), (2, .int p2), (3, .int p3)] → W p l e rmX5_slipped s m args below meth c s.heap [] 0 0 Q (F0 m 0 ls []) := by
  intro h ls hl
  have C0 := C
  obtain ⟨hx, hb, hml, hown, hts, hr, hlk, hnm⟩ := C0
  rw [mX5_slipped] at h
  refine lv_iload_n hx hb dX5_slipped_0 rfl (lv_at hl 2 rfl) ?_
  by_cases c1 : p2 = (0 : Int32)
  · replace h := md_t c1 h
    refine lv_tableIn (tgt := 32) hx hb dX5_slipped_1 (by rw [c1]; decide) (by rw [c1]; decide) (by rw [c1]; rfl) (by decide) ?_
    refine lv_aload_n hx hb dX5_slipped_32 rfl (lv_at hl 0 rfl) ?_
    refine lv_iload_n hx hb dX5_slipped_33 rfl (lv_at hl 1 rfl) ?_
    refine lv_iload_n hx hb dX5_slipped_34 rfl (lv_at hl 3 rfl) ?_
    obtain ⟨u2, hu2, h⟩ := md_b h
    refine kV C (ctX5_leftOut l  hu2) gX5_slipped_X5_leftOut rfl kdvX5_leftOut ⟨rfl, rfl⟩ ⟨by decide, by decide⟩ kW_blind (va_recv hK hP (ci := 2) (q0 := 0) rfl rfl) (kW_use hK (hP.sub (ws' := [(wo, .inr (2, [.ref w_ofX_a, .ref w_ofY_a, .ref w_places_a, .int w_lines])), (w_ofX_a, .inl (cI, 16, .inl w_ofX)), (w_ofY_a, .inl (cI, 16, .inl w_ofY)), (w_places_a, .inl (cI, 16, .inl w_places))]) [0, 1, 2, 3] rfl) kL_no) rfl hl [] rfl (Nat.le_of_ble_eq_true rfl) dX5_slipped_35 ⟨by decide, by decide⟩ ?_
    exact hQ u2 38 ls h dX5_slipped_38
  replace h := md_f c1 h
  by_cases c3 : p2 = (1 : Int32)
  · replace h := md_t c3 h
    refine lv_tableIn (tgt := 39) hx hb dX5_slipped_1 (by rw [c3]; decide) (by rw [c3]; decide) (by rw [c3]; rfl) (by decide) ?_
    refine lv_aload_n hx hb dX5_slipped_39 rfl (lv_at hl 0 rfl) ?_
    refine lv_iload_n hx hb dX5_slipped_40 rfl (lv_at hl 1 rfl) ?_
    refine lv_iload_n hx hb dX5_slipped_41 rfl (lv_at hl 3 rfl) ?_
    obtain ⟨u4, hu4, h⟩ := md_b h
    refine kV C (ctX5_placeLost l  hu4) gX5_slipped_X5_placeLost rfl kdvX5_placeLost ⟨rfl, rfl⟩ ⟨by decide, by decide⟩ kW_blind (va_recv hK hP (ci := 2) (q0 := 0) rfl rfl) (kW_use hK (hP.sub (ws' := [(wo, .inr (2, [.ref w_ofX_a, .ref w_ofY_a, .ref w_places_a, .int w_lines])), (w_ofX_a, .inl (cI, 16, .inl w_ofX)), (w_ofY_a, .inl (cI, 16, .inl w_ofY)), (w_places_a, .inl (cI, 16, .inl w_places))]) [0, 1, 2, 3] rfl) kL_no) rfl hl [] rfl (Nat.le_of_ble_eq_true rfl) dX5_slipped_42 ⟨by decide, by decide⟩ ?_
    exact hQ u4 45 ls h dX5_slipped_45
  replace h := md_f c3 h
  by_cases c5 : p2 = (2 : Int32)
  · replace h := md_t c5 h
    refine lv_tableIn (tgt := 46) hx hb dX5_slipped_1 (by rw [c5]; decide) (by rw [c5]; decide) (by rw [c5]; rfl) (by decide) ?_
    refine lv_aload_n hx hb dX5_slipped_46 rfl (lv_at hl 0 rfl) ?_
    refine lv_iload_n hx hb dX5_slipped_47 rfl (lv_at hl 1 rfl) ?_
    refine lv_iload_n hx hb dX5_slipped_48 rfl (lv_at hl 3 rfl) ?_
    obtain ⟨u6, hu6, h⟩ := md_b h
    refine kV C (ctX5_rowBeside l  hu6) gX5_slipped_X5_rowBeside rfl kdvX5_rowBeside ⟨rfl, rfl⟩ ⟨by decide, by decide⟩ kW_blind (va_recv hK hP (ci := 2) (q0 := 0) rfl rfl) (kW_use hK (hP.sub (ws' := [(wo, .inr (2, [.ref w_ofX_a, .ref w_ofY_a, .ref w_places_a, .int w_lines])), (w_ofX_a, .inl (cI, 16, .inl w_ofX)), (w_ofY_a, .inl (cI, 16, .inl w_ofY)), (w_places_a, .inl (cI, 16, .inl w_places))]) [0, 1, 2, 3] rfl) kL_no) rfl hl [] rfl (Nat.le_of_ble_eq_true rfl) dX5_slipped_49 ⟨by decide, by decide⟩ ?_
    exact hQ u6 52 ls h dX5_slipped_52
  replace h := md_f c5 h
  by_cases c7 : p2 = (3 : Int32)
  · replace h := md_t c7 h
    refine lv_tableIn (tgt := 53) hx hb dX5_slipped_1 (by rw [c7]; decide) (by rw [c7]; decide) (by rw [c7]; rfl) (by decide) ?_
    refine lv_aload_n hx hb dX5_slipped_53 rfl (lv_at hl 0 rfl) ?_
    refine lv_iload_n hx hb dX5_slipped_54 rfl (lv_at hl 1 rfl) ?_
    refine lv_iload_n hx hb dX5_slipped_55 rfl (lv_at hl 3 rfl) ?_
    obtain ⟨u8, hu8, h⟩ := md_b h
    refine kV C (ctX5_writtenTwice l  hu8) gX5_slipped_X5_writtenTwice rfl kdvX5_writtenTwice ⟨rfl, rfl⟩ ⟨by decide, by decide⟩ kW_blind (va_recv hK hP (ci := 2) (q0 := 0) rfl rfl) (kW_use hK (hP.sub (ws' := [(wo, .inr (2, [.ref w_ofX_a, .ref w_ofY_a, .ref w_places_a, .int w_lines])), (w_ofX_a, .inl (cI, 16, .inl w_ofX)), (w_ofY_a, .inl (cI, 16, .inl w_ofY)), (w_places_a, .inl (cI, 16, .inl w_places))]) [0, 1, 2, 3] rfl) kL_no) rfl hl [] rfl (Nat.le_of_ble_eq_true rfl) dX5_slipped_56 ⟨by decide, by decide⟩ ?_
    exact hQ u8 59 ls h dX5_slipped_59
  replace h := md_f c7 h
  have tc1 := lv_neT (a := 0) c1 (by decide)
  have tc3 := lv_neT (a := 1) c3 (by decide)
  have tc5 := lv_neT (a := 2) c5 (by decide)
  have tc7 := lv_neT (a := 3) c7 (by decide)
  refine lv_tableOut (tgt := 60) hx hb dX5_slipped_1 (by omega) (by decide) ?_
  refine lv_ldc2 hx hb hown (hts _ wm_X5_slipped_0) dX5_slipped_60 ?_
  exact hQ (-1 : Int64) 63 ls h dX5_slipped_63
set_option maxHeartbeats 4000000 in
theorem ctX5_slipped (l : Launch) {D : va_G} {cI cT : ClassId} {wo w_ofX_a w_ofY_a w_places_a : Nat} {w_ofX : Nat → Int32} {w_ofY : Nat → Int32} {w_places : Nat → Int32} {w_lines : Int32} {p1 : Int32} {p2 : Int32} {p3 : Int32} {res : Int64} (hm : mX5_slipped w_ofX w_ofY w_places w_lines p1 p2 p3 = some res) : Met l yX5_slipped wsX5_slipped rmX5_slipped (va_Pc [.ref wo, .int p1, .int p2, .int p3] (kW D cI cT [(wo, .inr (2, [.ref w_ofX_a, .ref w_ofY_a, .ref w_places_a, .int w_lines])), (w_ofX_a, .inl (cI, 16, .inl w_ofX)), (w_ofY_a, .inl (cI, 16, .inl w_ofY)), (w_places_a, .inl (cI, 16, .inl w_places))] none (fun _ => False))) (kR (.long res)) 0 0 (fun _ => False) :=
  km (by decide) rfl (Nat.le_of_ble_eq_true rfl) (fun p e s m below meth c ls C hB hl => bX5_slipped C p1 p2 p3 hB.1 w_ofX w_ofY w_places w_lines hB.2.1 res (fun v pc ls h hd => kr_l C h hd) hm ls hl)
end
section
theorem wm_X3_rowCount_0 : Cond.fieldLink RX3 16 "SixtyTablet$Tablet" "rows" "I" ∈ wsX3_rowCount := by decide +kernel
theorem wi_X3_rowCount_X3 : ∀ w ∈ wsX30, w ∈ wsX3_rowCount := by decide +kernel
theorem kdvX3_rowCount : yX3_rowCount.cls = RX3 ∧ yX3_rowCount.cls ≠ "java/lang/invoke/MethodHandle" ∧ yX3_rowCount.cls ≠ "java/lang/invoke/VarHandle" ∧ (parseMethodDescriptor yX3_rowCount.desc).map (fun d => d.parameters.length) = some 0 := by decide +kernel
abbrev rmX3_rowCount : Room := { frames := 0, cells := 0, slots := 0, locals := 0 }
def mX3_rowCount (t_rows : Int32) : Option Int32 := (some t_rows)
set_option maxHeartbeats 4000000 in
set_option maxRecDepth 100000 in
theorem bX3_rowCount {p : Program} {l : Launch} {e : Env} {s : State} {m : MethodId} {args : Array Value} {below : List Frame} {meth : Method} {c : Code} {Q : State → Prop} (C : kc p s m args meth c cX3_rowCount 1 RX3 yX3_rowCount.name wsX3_rowCount (some .int)) {D : va_G} {cI cT : ClassId} {to t_cells_a t_sixties_a : Nat} (hK : va_K D vwCl (kTy cI cT) s) (t_cells : Nat → Int32) (t_sixties : Nat → Int32) (t_rows : Int32) (hP : va_P D vwCl [(to, .inr (1, [.ref t_cells_a, .ref t_sixties_a, .int t_rows])), (t_cells_a, .inl (cI, 24, .inl t_cells)), (t_sixties_a, .inl (cI, 24, .inl t_sixties))] s.heap) (res : Int32) (hQ : ∀ (v : Int32) (pc : Nat) (ls : Array Slot), some v = some res → decode cX3_rowCount pc = .ok (.ireturn, 1) → W p l e rmX3_rowCount s m args below meth c s.heap [] 0 0 Q (F0 m pc ls [.int v])) : mX3_rowCount t_rows = some res → ∀ (ls : Array Slot), lv_has ls 1 [(0, .ref to)] → W p l e rmX3_rowCount s m args below meth c s.heap [] 0 0 Q (F0 m 0 ls []) := by
  intro h ls hl
  have C0 := C
  obtain ⟨hx, hb, hml, hown, hts, hr, hlk, hnm⟩ := C0
  rw [mX3_rowCount] at h
  refine lv_aload_n hx hb dX3_rowCount_0 rfl (lv_at hl 0 rfl) ?_
  refine va_get (D := D) (ci := 1) (v := .int t_rows) (C := RX3) (T := TX3) (N := 3) hx hb hts wi_X3_rowCount_X3 hown hK hP 0 rfl rfl 2 (by decide) (hts _ wm_X3_rowCount_0) (fun _ h9 => h9) rfl dX3_rowCount_1 ?_
  exact hQ t_rows 4 ls h dX3_rowCount_4
set_option maxHeartbeats 4000000 in
theorem ctX3_rowCount (l : Launch) {D : va_G} {cI cT : ClassId} {to t_cells_a t_sixties_a : Nat} {t_cells : Nat → Int32} {t_sixties : Nat → Int32} {t_rows : Int32} {res : Int32} (hm : mX3_rowCount t_rows = some res) : Met l yX3_rowCount wsX3_rowCount rmX3_rowCount (va_Pc [.ref to] (kW D cI cT [(to, .inr (1, [.ref t_cells_a, .ref t_sixties_a, .int t_rows])), (t_cells_a, .inl (cI, 24, .inl t_cells)), (t_sixties_a, .inl (cI, 24, .inl t_sixties))] none (fun _ => False))) (kR (.int res)) 0 0 (fun _ => False) :=
  km (by decide) rfl (Nat.le_of_ble_eq_true rfl) (fun p e s m below meth c ls C hB hl => bX3_rowCount C hB.1 t_cells t_sixties t_rows hB.2.1 res (fun v pc ls h hd => kr_i C h hd) hm ls hl)
theorem wm_X3_hasCell_0 : Cond.fieldLink RX3 16 "SixtyTablet$Tablet" "rows" "I" ∈ wsX3_hasCell := by decide +kernel
theorem wi_X3_hasCell_X3 : ∀ w ∈ wsX30, w ∈ wsX3_hasCell := by decide +kernel
theorem kdvX3_hasCell : yX3_hasCell.cls = RX3 ∧ yX3_hasCell.cls ≠ "java/lang/invoke/MethodHandle" ∧ yX3_hasCell.cls ≠ "java/lang/invoke/VarHandle" ∧ (parseMethodDescriptor yX3_hasCell.desc).map (fun d => d.parameters.length) = some 2 := by decide +kernel
abbrev rmX3_hasCell : Room := { frames := 0, cells := 0, slots := 0, locals := 0 }
def mX3_hasCell (t_rows : Int32) (p1 : Int32) (p2 : Int32) : Option Int32 := (if p1 < 0 then (some (0 : Int32)) else (if t_rows ≤ p1 then (some (0 : Int32)) else (if p2 < 0 then (some (0 : Int32)) else (if (3 : Int32) ≤ p2 then (some (0 : Int32)) else (some (1 : Int32))))))
set_option maxHeartbeats 4000000 in
set_option maxRecDepth 100000 in
theorem bX3_hasCell {p : Program} {l : Launch} {e : Env} {s : State} {m : MethodId} {args : Array Value} {below : List Frame} {meth : Method} {c : Code} {Q : State → Prop} (C : kc p s m args meth c cX3_hasCell 3 RX3 yX3_hasCell.name wsX3_hasCell (some .boolean)) {D : va_G} {cI cT : ClassId} {to t_cells_a t_sixties_a : Nat} (p1 : Int32) (p2 : Int32) (hK : va_K D vwCl (kTy cI cT) s) (t_cells : Nat → Int32) (t_sixties : Nat → Int32) (t_rows : Int32) (hP : va_P D vwCl [(to, .inr (1, [.ref t_cells_a, .ref t_sixties_a, .int t_rows])), (t_cells_a, .inl (cI, 24, .inl t_cells)), (t_sixties_a, .inl (cI, 24, .inl t_sixties))] s.heap) (res : Int32) (hQ : ∀ (v : Int32) (pc : Nat) (ls : Array Slot), v = 0 ∨ v = 1 → some v = some res → decode cX3_hasCell pc = .ok (.ireturn, 1) → W p l e rmX3_hasCell s m args below meth c s.heap [] 0 0 Q (F0 m pc ls [.int v])) : mX3_hasCell t_rows p1 p2 = some res → ∀ (ls : Array Slot), lv_has ls 3 [(0, .ref to), (1, .int p1), (2, .int p2)] → W p l e rmX3_hasCell s m args below meth c s.heap [] 0 0 Q (F0 m 0 ls []) := by
  intro h ls hl
  have C0 := C
  obtain ⟨hx, hb, hml, hown, hts, hr, hlk, hnm⟩ := C0
  rw [mX3_hasCell] at h
  refine lv_iload_n hx hb dX3_hasCell_0 rfl (lv_at hl 1 rfl) ?_
  refine lv_if_lt (tgt := 25) hx hb dX3_hasCell_1 (by decide) (fun c1 => ?_) (fun c1 => ?_)
  · replace h := md_t c1 h
    refine lv_iconst (v := 0) hx hb dX3_hasCell_25 (by decide) ?_
    exact hQ (0 : Int32) 26 ls (by decide) h dX3_hasCell_26
  replace h := md_f c1 h
  refine lv_iload_n hx hb dX3_hasCell_4 rfl (lv_at hl 1 rfl) ?_
  refine lv_aload_n hx hb dX3_hasCell_5 rfl (lv_at hl 0 rfl) ?_
  refine va_get (D := D) (ci := 1) (v := .int t_rows) (C := RX3) (T := TX3) (N := 3) hx hb hts wi_X3_hasCell_X3 hown hK hP 0 rfl rfl 2 (by decide) (hts _ wm_X3_hasCell_0) (fun _ h9 => h9) rfl dX3_hasCell_6 ?_
  refine lv_icmp_ge (tgt := 25) hx hb dX3_hasCell_9 (by decide) (fun c2 => ?_) (fun c2 => ?_)
  · replace h := md_t c2 h
    refine lv_iconst (v := 0) hx hb dX3_hasCell_25 (by decide) ?_
    exact hQ (0 : Int32) 26 ls (by decide) h dX3_hasCell_26
  replace h := md_f c2 h
  refine lv_iload_n hx hb dX3_hasCell_12 rfl (lv_at hl 2 rfl) ?_
  refine lv_if_lt (tgt := 25) hx hb dX3_hasCell_13 (by decide) (fun c3 => ?_) (fun c3 => ?_)
  · replace h := md_t c3 h
    refine lv_iconst (v := 0) hx hb dX3_hasCell_25 (by decide) ?_
    exact hQ (0 : Int32) 26 ls (by decide) h dX3_hasCell_26
  replace h := md_f c3 h
  refine lv_iload_n hx hb dX3_hasCell_16 rfl (lv_at hl 2 rfl) ?_
  refine lv_iconst (v := 3) hx hb dX3_hasCell_17 (by decide) ?_
  refine lv_icmp_ge (tgt := 25) hx hb dX3_hasCell_18 (by decide) (fun c4 => ?_) (fun c4 => ?_)
  · replace h := md_t c4 h
    refine lv_iconst (v := 0) hx hb dX3_hasCell_25 (by decide) ?_
    exact hQ (0 : Int32) 26 ls (by decide) h dX3_hasCell_26
  replace h := md_f c4 h
  refine lv_iconst (v := 1) hx hb dX3_hasCell_21 (by decide) ?_
  refine lv_goto (tgt := 26) hx hb dX3_hasCell_22 (by decide) ?_
  exact hQ (1 : Int32) 26 ls (by decide) h dX3_hasCell_26
set_option maxHeartbeats 4000000 in
theorem ctX3_hasCell (l : Launch) {D : va_G} {cI cT : ClassId} {to t_cells_a t_sixties_a : Nat} {t_cells : Nat → Int32} {t_sixties : Nat → Int32} {t_rows : Int32} {p1 : Int32} {p2 : Int32} {res : Int32} (hm : mX3_hasCell t_rows p1 p2 = some res) : Met l yX3_hasCell wsX3_hasCell rmX3_hasCell (va_Pc [.ref to, .int p1, .int p2] (kW D cI cT [(to, .inr (1, [.ref t_cells_a, .ref t_sixties_a, .int t_rows])), (t_cells_a, .inl (cI, 24, .inl t_cells)), (t_sixties_a, .inl (cI, 24, .inl t_sixties))] none (fun _ => False))) (kR (.int res)) 0 0 (fun _ => False) :=
  km (by decide) rfl (Nat.le_of_ble_eq_true rfl) (fun p e s m below meth c ls C hB hl => bX3_hasCell C p1 p2 hB.1 t_cells t_sixties t_rows hB.2.1 res (fun v pc ls hz h hd => kr_z C hz h hd) hm ls hl)
theorem wm_X3_smooth_0 : Cond.fieldLink RX3 16 "SixtyTablet$Tablet" "rows" "I" ∈ wsX3_smooth := by decide +kernel
theorem wm_X3_smooth_1 : Cond.fieldLink RX3 9 "SixtyTablet$Tablet" "cells" "[I" ∈ wsX3_smooth := by decide +kernel
theorem wm_X3_smooth_2 : Cond.fieldLink RX3 13 "SixtyTablet$Tablet" "sixties" "[I" ∈ wsX3_smooth := by decide +kernel
theorem wi_X3_smooth_X3 : ∀ w ∈ wsX30, w ∈ wsX3_smooth := by decide +kernel
theorem kdvX3_smooth : yX3_smooth.cls = RX3 ∧ yX3_smooth.cls ≠ "java/lang/invoke/MethodHandle" ∧ yX3_smooth.cls ≠ "java/lang/invoke/VarHandle" ∧ (parseMethodDescriptor yX3_smooth.desc).map (fun d => d.parameters.length) = some 1 := by decide +kernel
abbrev rmX3_smooth : Room := { frames := 0, cells := 0, slots := 0, locals := 0 }
def mlX3_smooth_7 (kE : (Nat → Int32) → (Nat → Int32) → Option ((Nat → Int32) × (Nat → Int32) × Int32)) : Nat → Int32 → (Nat → Int32) → (Nat → Int32) → Option ((Nat → Int32) × (Nat → Int32) × Int32)
  | 0, _, _, _ => none
  | n + 1, x2, t_cells, t_sixties => (if (24 : Int32) ≤ x2 then (kE t_cells t_sixties) else (if x2 < 0 ∨ 24 ≤ (Int32.toNatClampNeg x2) then none else (md_let (upd t_cells (Int32.toNatClampNeg x2) (0 : Int32)) (fun (t_cells_2 : Nat → Int32) => (if x2 < 0 ∨ 24 ≤ (Int32.toNatClampNeg x2) then none else (md_let (upd t_sixties (Int32.toNatClampNeg x2) (0 : Int32)) (fun (t_sixties_3 : Nat → Int32) => (md_let (x2 + (1 : Int32)) (fun (x2_4 : Int32) => (mlX3_smooth_7 kE n x2_4 t_cells_2 t_sixties_3))))))))))
set_option maxHeartbeats 4000000 in
set_option maxRecDepth 100000 in
theorem lX3_smooth_7 {p : Program} {l : Launch} {e : Env} {s : State} {m : MethodId} {args : Array Value} {below : List Frame} {meth : Method} {c : Code} {Q : State → Prop} (C : kc p s m args meth c cX3_smooth 3 RX3 yX3_smooth.name wsX3_smooth none) {D : va_G} {cI cT : ClassId} {to t_cells_a t_sixties_a : Nat} (hK : va_K D vwCl (kTy cI cT) s) (hnd : ([to, t_cells_a, t_sixties_a] : List Nat).Nodup) (t_rows : Int32) (res : ((Nat → Int32) × (Nat → Int32) × Int32)) (hQ : ∀ (t_cells : Nat → Int32) (t_sixties : Nat → Int32) (t_rows : Int32) (H : Heap) (locs : List Loc) (pc : Nat) (ls : Array Slot), some (t_cells, t_sixties, t_rows) = some res → va_P D vwCl [(to, .inr (1, [.ref t_cells_a, .ref t_sixties_a, .int t_rows])), (t_cells_a, .inl (cI, 24, .inl t_cells)), (t_sixties_a, .inl (cI, 24, .inl t_sixties))] H → va_S (fun q => q ∈ ([to, t_cells_a, t_sixties_a] : List Nat)) s.heap H locs → decode cX3_smooth pc = .ok (.return_, 1) → W p l e rmX3_smooth s m args below meth c H locs 0 0 Q (F0 m pc ls [])) (kE : (Nat → Int32) → (Nat → Int32) → Option ((Nat → Int32) × (Nat → Int32) × Int32)) (hE : ∀ (t_cells : Nat → Int32) (t_sixties : Nat → Int32), kE t_cells t_sixties = some res → ∀ (H : Heap) (locs : List Loc), va_P D vwCl [(to, .inr (1, [.ref t_cells_a, .ref t_sixties_a, .int t_rows])), (t_cells_a, .inl (cI, 24, .inl t_cells)), (t_sixties_a, .inl (cI, 24, .inl t_sixties))] H → va_S (fun q => q ∈ ([to, t_cells_a, t_sixties_a] : List Nat)) s.heap H locs → ∀ (ls : Array Slot), lv_has ls 3 [] → W p l e rmX3_smooth s m args below meth c H locs 0 0 Q (F0 m 33 ls [])) : ∀ (n : Nat), ∀ (x2 : Int32) (t_cells : Nat → Int32) (t_sixties : Nat → Int32), mlX3_smooth_7 kE n x2 t_cells t_sixties = some res → ∀ (H : Heap) (locs : List Loc), va_P D vwCl [(to, .inr (1, [.ref t_cells_a, .ref t_sixties_a, .int t_rows])), (t_cells_a, .inl (cI, 24, .inl t_cells)), (t_sixties_a, .inl (cI, 24, .inl t_sixties))] H → va_S (fun q => q ∈ ([to, t_cells_a, t_sixties_a] : List Nat)) s.heap H locs → ∀ (ls : Array Slot), lv_has ls 3 [(0, .ref to), (2, .int x2)] → W p l e rmX3_smooth s m args below meth c H locs 0 0 Q (F0 m 7 ls []) := by
  have C0 := C
  obtain ⟨hx, hb, hml, hown, hts, hr, hlk, hnm⟩ := C0
  intro n
  induction n with
  | zero => intro _ _ _ h; exact md_x h
  | succ n ih =>
    intro x2 t_cells t_sixties h H locs hP hS ls hl
    rw [mlX3_smooth_7] at h
    refine lv_iload_n hx hb dX3_smooth_7 rfl (lv_at hl 1 rfl) ?_
    refine lv_bipush (v := 24) hx hb dX3_smooth_8 (by decide) ?_
    refine lv_icmp_ge (tgt := 33) hx hb dX3_smooth_10 (by decide) (fun c1 => ?_) (fun c1 => ?_)
    · replace h := md_t c1 h
      exact hE t_cells t_sixties h _ _ hP hS ls (lv_sub hl [] rfl)
    replace h := md_f c1 h
    refine lv_aload_n hx hb dX3_smooth_13 rfl (lv_at hl 0 rfl) ?_
    refine va_get (D := D) (ci := 1) (v := .ref t_cells_a) (C := RX3) (T := TX3) (N := 3) hx hb hts wi_X3_smooth_X3 hown hK hP 0 rfl rfl 0 (by decide) (hts _ wm_X3_smooth_1) (fun _ h9 => h9) rfl dX3_smooth_14 ?_
    refine lv_iload_n hx hb dX3_smooth_17 rfl (lv_at hl 1 rfl) ?_
    refine lv_iconst (v := 0) hx hb dX3_smooth_18 (by decide) ?_
    obtain ⟨hin2, h⟩ := md_g h
    refine va_iast hx hb hK hP (kD hnd rfl) hS 1 0 rfl rfl hin2 dX3_smooth_19 (fun H locs hP _ hS => ?_)
    have hP : va_P D vwCl [(to, .inr (1, [.ref t_cells_a, .ref t_sixties_a, .int t_rows])), (t_cells_a, .inl (cI, 24, .inl (upd t_cells (Int32.toNatClampNeg x2) (0 : Int32)))), (t_sixties_a, .inl (cI, 24, .inl t_sixties))] H := hP
    obtain ⟨t_cells_2, et_cells_2⟩ : ∃ y : Nat → Int32, y = (upd t_cells (Int32.toNatClampNeg x2) (0 : Int32)) := ⟨_, rfl⟩
    replace h := md_le et_cells_2 h
    rw [← et_cells_2] at hP
    refine lv_aload_n hx hb dX3_smooth_20 rfl (lv_at hl 0 rfl) ?_
    refine va_get (D := D) (ci := 1) (v := .ref t_sixties_a) (C := RX3) (T := TX3) (N := 3) hx hb hts wi_X3_smooth_X3 hown hK hP 0 rfl rfl 1 (by decide) (hts _ wm_X3_smooth_2) (fun _ h9 => h9) rfl dX3_smooth_21 ?_
    refine lv_iload_n hx hb dX3_smooth_24 rfl (lv_at hl 1 rfl) ?_
    refine lv_iconst (v := 0) hx hb dX3_smooth_25 (by decide) ?_
    obtain ⟨hin3, h⟩ := md_g h
    refine va_iast hx hb hK hP (kD hnd rfl) hS 2 0 rfl rfl hin3 dX3_smooth_26 (fun H locs hP _ hS => ?_)
    have hP : va_P D vwCl [(to, .inr (1, [.ref t_cells_a, .ref t_sixties_a, .int t_rows])), (t_cells_a, .inl (cI, 24, .inl t_cells_2)), (t_sixties_a, .inl (cI, 24, .inl (upd t_sixties (Int32.toNatClampNeg x2) (0 : Int32))))] H := hP
    obtain ⟨t_sixties_3, et_sixties_3⟩ : ∃ y : Nat → Int32, y = (upd t_sixties (Int32.toNatClampNeg x2) (0 : Int32)) := ⟨_, rfl⟩
    replace h := md_le et_sixties_3 h
    rw [← et_sixties_3] at hP
    obtain ⟨x2_4, ex2_4⟩ : ∃ y : Int32, y = (x2 + (1 : Int32)) := ⟨_, rfl⟩
    replace h := md_le ex2_4 h
    refine lv_iinc (v := x2_4) (lv' := [(2, .int x2_4), (0, .ref to)]) hx hb dX3_smooth_27 hl (k := 1) rfl (by rw [ex2_4]; rfl) (by decide) rfl (fun ls hl => ?_)
    refine lv_goto (tgt := 7) hx hb dX3_smooth_30 (by decide) ?_
    exact ih x2_4 t_cells_2 t_sixties_3 h _ _ hP hS ls (lv_sub hl [1, 0] rfl)
def mX3_smooth (t_cells : Nat → Int32) (t_sixties : Nat → Int32) (p1 : Int32) : Option ((Nat → Int32) × (Nat → Int32) × Int32) := (mlX3_smooth_7 (fun (t_cells_33 : Nat → Int32) (t_sixties_33 : Nat → Int32) => (some (t_cells_33, t_sixties_33, p1))) kN (0 : Int32) t_cells t_sixties)
set_option maxHeartbeats 4000000 in
set_option maxRecDepth 100000 in
theorem bX3_smooth {p : Program} {l : Launch} {e : Env} {s : State} {m : MethodId} {args : Array Value} {below : List Frame} {meth : Method} {c : Code} {Q : State → Prop} (C : kc p s m args meth c cX3_smooth 3 RX3 yX3_smooth.name wsX3_smooth none) {D : va_G} {cI cT : ClassId} {to t_cells_a t_sixties_a : Nat} (p1 : Int32) (hK : va_K D vwCl (kTy cI cT) s) (hnd : ([to, t_cells_a, t_sixties_a] : List Nat).Nodup) (t_cells : Nat → Int32) (t_sixties : Nat → Int32) (t_rows : Int32) (res : ((Nat → Int32) × (Nat → Int32) × Int32)) (hQ : ∀ (t_cells : Nat → Int32) (t_sixties : Nat → Int32) (t_rows : Int32) (H : Heap) (locs : List Loc) (pc : Nat) (ls : Array Slot), some (t_cells, t_sixties, t_rows) = some res → va_P D vwCl [(to, .inr (1, [.ref t_cells_a, .ref t_sixties_a, .int t_rows])), (t_cells_a, .inl (cI, 24, .inl t_cells)), (t_sixties_a, .inl (cI, 24, .inl t_sixties))] H → va_S (fun q => q ∈ ([to, t_cells_a, t_sixties_a] : List Nat)) s.heap H locs → decode cX3_smooth pc = .ok (.return_, 1) → W p l e rmX3_smooth s m args below meth c H locs 0 0 Q (F0 m pc ls [])) : mX3_smooth t_cells t_sixties p1 = some res → ∀ (H : Heap) (locs : List Loc), va_P D vwCl [(to, .inr (1, [.ref t_cells_a, .ref t_sixties_a, .int t_rows])), (t_cells_a, .inl (cI, 24, .inl t_cells)), (t_sixties_a, .inl (cI, 24, .inl t_sixties))] H → va_S (fun q => q ∈ ([to, t_cells_a, t_sixties_a] : List Nat)) s.heap H locs → ∀ (ls : Array Slot), lv_has ls 3 [(0, .ref to), (1, .int p1)] → W p l e rmX3_smooth s m args below meth c H locs 0 0 Q (F0 m 0 ls []) := by
  intro h H locs hP hS ls hl
  have C0 := C
  obtain ⟨hx, hb, hml, hown, hts, hr, hlk, hnm⟩ := C0
  rw [mX3_smooth] at h
  refine lv_aload_n hx hb dX3_smooth_0 rfl (lv_at hl 0 rfl) ?_
  refine lv_iload_n hx hb dX3_smooth_1 rfl (lv_at hl 1 rfl) ?_
  refine va_put (D := D) (ci := 1) (v := .int p1) (ty := .int) (C := RX3) (T := TX3) (N := 3) hx hb hts wi_X3_smooth_X3 tyX3 tyX3_ok nmX3 hown hK hP (kD hnd rfl) hS 0 rfl rfl 2 (by decide) (hts _ wm_X3_smooth_0) (fun _ h9 => h9) rfl (by decide +kernel) rfl rfl (Nat.le_of_ble_eq_true rfl) dX3_smooth_2 (fun H locs hP _ hS => ?_)
  have hP : va_P D vwCl [(to, .inr (1, [.ref t_cells_a, .ref t_sixties_a, .int p1])), (t_cells_a, .inl (cI, 24, .inl t_cells)), (t_sixties_a, .inl (cI, 24, .inl t_sixties))] H := hP
  refine lv_iconst (v := 0) hx hb dX3_smooth_5 (by decide) ?_
  refine lv_istore_n (lv' := [(2, .int (0 : Int32)), (0, .ref to), (1, .int p1)]) hx hb dX3_smooth_6 rfl hl (by decide) rfl (fun ls hl => ?_)
  refine lX3_smooth_7 C hK hnd p1 res hQ _ (fun t_cells_33 t_sixties_33 h H locs hP hS ls hl => ?_) kN (0 : Int32) t_cells t_sixties h _ _ hP hS ls (lv_sub hl [1, 0] rfl)
  exact hQ t_cells_33 t_sixties_33 p1 H locs 33 ls h hP hS dX3_smooth_33
set_option maxHeartbeats 4000000 in
theorem ctX3_smooth (l : Launch) {D : va_G} {cI cT : ClassId} {to t_cells_a t_sixties_a : Nat} {t_cells : Nat → Int32} {t_sixties : Nat → Int32} {t_rows : Int32} {p1 : Int32} {res : ((Nat → Int32) × (Nat → Int32) × Int32)} (hnd : ([to, t_cells_a, t_sixties_a] : List Nat).Nodup) (hm : mX3_smooth t_cells t_sixties p1 = some res) : Met l yX3_smooth wsX3_smooth rmX3_smooth (va_Pc [.ref to, .int p1] (kW D cI cT [(to, .inr (1, [.ref t_cells_a, .ref t_sixties_a, .int t_rows])), (t_cells_a, .inl (cI, 24, .inl t_cells)), (t_sixties_a, .inl (cI, 24, .inl t_sixties))] none (fun q => q ∈ ([to, t_cells_a, t_sixties_a] : List Nat)))) (kX none D [(to, .inr (1, [.ref t_cells_a, .ref t_sixties_a, .int res.2.2])), (t_cells_a, .inl (cI, 24, .inl res.1)), (t_sixties_a, .inl (cI, 24, .inl res.2.1))] (fun q => q ∈ ([to, t_cells_a, t_sixties_a] : List Nat))) 0 0 (fun q => q ∈ ([to, t_cells_a, t_sixties_a] : List Nat)) :=
  km (by decide) rfl (Nat.le_of_ble_eq_true rfl) (fun p e s m below meth c ls C hB hl => bX3_smooth C p1 hB.1 hnd t_cells t_sixties t_rows res (fun t_cells1 t_sixties1 t_rows1 H locs pc ls h hP hS hd => by obtain rfl := Option.some.inj h; exact kx_v C hP hS hd) hm s.heap [] hB.2.1 va_S.rf ls hl)
theorem wm_X3_hold_0 : Cond.fieldLink RX3 9 "SixtyTablet$Tablet" "cells" "[I" ∈ wsX3_hold := by decide +kernel
theorem wm_X3_hold_1 : Cond.fieldLink RX3 13 "SixtyTablet$Tablet" "sixties" "[I" ∈ wsX3_hold := by decide +kernel
theorem wi_X3_hold_X3 : ∀ w ∈ wsX30, w ∈ wsX3_hold := by decide +kernel
theorem kdvX3_hold : yX3_hold.cls = RX3 ∧ yX3_hold.cls ≠ "java/lang/invoke/MethodHandle" ∧ yX3_hold.cls ≠ "java/lang/invoke/VarHandle" ∧ (parseMethodDescriptor yX3_hold.desc).map (fun d => d.parameters.length) = some 3 := by decide +kernel
abbrev rmX3_hold : Room := { frames := 1, cells := 0, slots := 0, locals := 24 }
def mX3_hold (t_cells : Nat → Int32) (t_sixties : Nat → Int32) (p1 : Int32) (p2 : Int32) (p3 : Int32) : Option ((Nat → Int32) × (Nat → Int32)) := (md_let ((p1 * (3 : Int32)) + p2) (fun (x4_1 : Int32) => (if x4_1 < 0 then (some (t_cells, t_sixties)) else (if (24 : Int32) ≤ x4_1 then (some (t_cells, t_sixties)) else (if x4_1 < 0 ∨ 24 ≤ (Int32.toNatClampNeg x4_1) then none else (md_let (upd t_cells (Int32.toNatClampNeg x4_1) p3) (fun (t_cells_4 : Nat → Int32) => (md_jn (fun (z2_47 : Int32) => (if x4_1 < 0 ∨ 24 ≤ (Int32.toNatClampNeg x4_1) then none else (md_let (upd t_sixties (Int32.toNatClampNeg x4_1) z2_47) (fun (t_sixties_5 : Nat → Int32) => (some (t_cells_4, t_sixties_5)))))) (fun kJ47 => (if p3 = 0 then (kJ47 (0 : Int32)) else (Option.bind (mX1_strip (Int32.toInt64 p3)) (fun u7 => (kJ47 (Int64.toInt32 u7))))))))))))))
set_option maxHeartbeats 4000000 in
set_option maxRecDepth 100000 in
theorem bX3_hold {p : Program} {l : Launch} {e : Env} {s : State} {m : MethodId} {args : Array Value} {below : List Frame} {meth : Method} {c : Code} {Q : State → Prop} (C : kc p s m args meth c cX3_hold 5 RX3 yX3_hold.name wsX3_hold none) {D : va_G} {cI cT : ClassId} {to t_cells_a t_sixties_a : Nat} (p1 : Int32) (p2 : Int32) (p3 : Int32) (hK : va_K D vwCl (kTy cI cT) s) (hnd : ([to, t_cells_a, t_sixties_a] : List Nat).Nodup) (t_cells : Nat → Int32) (t_sixties : Nat → Int32) (t_rows : Int32) (res : ((Nat → Int32) × (Nat → Int32))) (hQ : ∀ (t_cells : Nat → Int32) (t_sixties : Nat → Int32) (H : Heap) (locs : List Loc) (pc : Nat) (ls : Array Slot), some (t_cells, t_sixties) = some res → va_P D vwCl [(to, .inr (1, [.ref t_cells_a, .ref t_sixties_a, .int t_rows])), (t_cells_a, .inl (cI, 24, .inl t_cells)), (t_sixties_a, .inl (cI, 24, .inl t_sixties))] H → va_S (fun q => q ∈ ([to, t_cells_a, t_sixties_a] : List Nat)) s.heap H locs → decode cX3_hold pc = .ok (.return_, 1) → W p l e rmX3_hold s m args below meth c H locs 0 0 Q (F0 m pc ls [])) : mX3_hold t_cells t_sixties p1 p2 p3 = some res → ∀ (H : Heap) (locs : List Loc), va_P D vwCl [(to, .inr (1, [.ref t_cells_a, .ref t_sixties_a, .int t_rows])), (t_cells_a, .inl (cI, 24, .inl t_cells)), (t_sixties_a, .inl (cI, 24, .inl t_sixties))] H → va_S (fun q => q ∈ ([to, t_cells_a, t_sixties_a] : List Nat)) s.heap H locs → ∀ (ls : Array Slot), lv_has ls 5 [(0, .ref to), (1, .int p1), (2, .int p2), (3, .int p3)] → W p l e rmX3_hold s m args below meth c H locs 0 0 Q (F0 m 0 ls []) := by
  intro h H locs hP hS ls hl
  have C0 := C
  obtain ⟨hx, hb, hml, hown, hts, hr, hlk, hnm⟩ := C0
  rw [mX3_hold] at h
  refine lv_iload_n hx hb dX3_hold_0 rfl (lv_at hl 1 rfl) ?_
  refine lv_iconst (v := 3) hx hb dX3_hold_1 (by decide) ?_
  refine lv_imul hx hb dX3_hold_2 ?_
  refine lv_iload_n hx hb dX3_hold_3 rfl (lv_at hl 2 rfl) ?_
  refine lv_iadd hx hb dX3_hold_4 ?_
  refine lv_topi (fun x4_1 ex4_1 => ?_)
  replace h := md_le ex4_1 h
  refine lv_istore (lv' := [(4, .int x4_1), (0, .ref to), (1, .int p1), (2, .int p2), (3, .int p3)]) hx hb dX3_hold_5 hl (by decide) rfl (fun ls hl => ?_)
  refine lv_iload hx hb dX3_hold_7 (lv_at hl 0 rfl) ?_
  refine lv_if_lt (tgt := 48) hx hb dX3_hold_9 (by decide) (fun c2 => ?_) (fun c2 => ?_)
  · replace h := md_t c2 h
    exact hQ t_cells t_sixties H locs 48 ls h hP hS dX3_hold_48
  replace h := md_f c2 h
  refine lv_iload hx hb dX3_hold_12 (lv_at hl 0 rfl) ?_
  refine lv_bipush (v := 24) hx hb dX3_hold_14 (by decide) ?_
  refine lv_icmp_ge (tgt := 48) hx hb dX3_hold_16 (by decide) (fun c3 => ?_) (fun c3 => ?_)
  · replace h := md_t c3 h
    exact hQ t_cells t_sixties H locs 48 ls h hP hS dX3_hold_48
  replace h := md_f c3 h
  refine lv_aload_n hx hb dX3_hold_19 rfl (lv_at hl 1 rfl) ?_
  refine va_get (D := D) (ci := 1) (v := .ref t_cells_a) (C := RX3) (T := TX3) (N := 3) hx hb hts wi_X3_hold_X3 hown hK hP 0 rfl rfl 0 (by decide) (hts _ wm_X3_hold_0) (fun _ h9 => h9) rfl dX3_hold_20 ?_
  refine lv_iload hx hb dX3_hold_23 (lv_at hl 0 rfl) ?_
  refine lv_iload_n hx hb dX3_hold_25 rfl (lv_at hl 4 rfl) ?_
  obtain ⟨hin4, h⟩ := md_g h
  refine va_iast hx hb hK hP (kD hnd rfl) hS 1 0 rfl rfl hin4 dX3_hold_26 (fun H locs hP _ hS => ?_)
  have hP : va_P D vwCl [(to, .inr (1, [.ref t_cells_a, .ref t_sixties_a, .int t_rows])), (t_cells_a, .inl (cI, 24, .inl (upd t_cells (Int32.toNatClampNeg x4_1) p3))), (t_sixties_a, .inl (cI, 24, .inl t_sixties))] H := hP
  obtain ⟨t_cells_4, et_cells_4⟩ : ∃ y : Nat → Int32, y = (upd t_cells (Int32.toNatClampNeg x4_1) p3) := ⟨_, rfl⟩
  replace h := md_le et_cells_4 h
  rw [← et_cells_4] at hP
  refine lv_aload_n hx hb dX3_hold_27 rfl (lv_at hl 1 rfl) ?_
  refine va_get (D := D) (ci := 1) (v := .ref t_sixties_a) (C := RX3) (T := TX3) (N := 3) hx hb hts wi_X3_hold_X3 hown hK hP 0 rfl rfl 1 (by decide) (hts _ wm_X3_hold_1) (fun _ h9 => h9) rfl dX3_hold_28 ?_
  refine lv_iload hx hb dX3_hold_31 (lv_at hl 0 rfl) ?_
  refine lv_iload_n hx hb dX3_hold_33 rfl (lv_at hl 4 rfl) ?_
  obtain ⟨kJ47, ekJ47, h⟩ := md_jo h
  have KJ47 : ∀ (z2_47 : Int32), kJ47 z2_47 = some res → ∀ (H : Heap) (locs : List Loc), va_P D vwCl [(to, .inr (1, [.ref t_cells_a, .ref t_sixties_a, .int t_rows])), (t_cells_a, .inl (cI, 24, .inl t_cells_4)), (t_sixties_a, .inl (cI, 24, .inl t_sixties))] H → va_S (fun q => q ∈ ([to, t_cells_a, t_sixties_a] : List Nat)) s.heap H locs → ∀ (ls : Array Slot), lv_has ls 5 [] → W p l e rmX3_hold s m args below meth c H locs 0 0 Q (F0 m 47 ls [.int z2_47, .int x4_1, .ref t_sixties_a]) := by
    intro z2_47 h H locs hP hS ls hl
    rw [ekJ47] at h
    obtain ⟨hin5, h⟩ := md_g h
    refine va_iast hx hb hK hP (kD hnd rfl) hS 2 0 rfl rfl hin5 dX3_hold_47 (fun H locs hP _ hS => ?_)
    have hP : va_P D vwCl [(to, .inr (1, [.ref t_cells_a, .ref t_sixties_a, .int t_rows])), (t_cells_a, .inl (cI, 24, .inl t_cells_4)), (t_sixties_a, .inl (cI, 24, .inl (upd t_sixties (Int32.toNatClampNeg x4_1) z2_47)))] H := hP
    obtain ⟨t_sixties_5, et_sixties_5⟩ : ∃ y : Nat → Int32, y = (upd t_sixties (Int32.toNatClampNeg x4_1) z2_47) := ⟨_, rfl⟩
    replace h := md_le et_sixties_5 h
    rw [← et_sixties_5] at hP
    exact hQ t_cells_4 t_sixties_5 H locs 48 ls h hP hS dX3_hold_48
  clear ekJ47
  refine lv_if_ne (tgt := 41) hx hb dX3_hold_34 (by decide) (fun c6 => ?_) (fun c6 => ?_)
  · replace h := md_f c6 h
    refine lv_iload_n hx hb dX3_hold_41 rfl (lv_at hl 4 rfl) ?_
    refine lv_i2l hx hb dX3_hold_42 rfl ?_
    obtain ⟨u7, hu7, h⟩ := md_b h
    refine kS C (ctX1_strip l  hu7) gX3_hold_X1_strip rfl kdX1_strip ⟨rfl, rfl⟩ ⟨by decide, by decide⟩ kT_blind (fun _ _ _ => trivial) rfl hl [.int x4_1, .ref t_sixties_a] rfl (Nat.le_of_ble_eq_true rfl) dX3_hold_43 ⟨by decide, by decide⟩ ?_
    refine lv_l2i hx hb dX3_hold_46 rfl ?_
    exact KJ47 (Int64.toInt32 u7) h _ _ hP hS ls (lv_sub hl [] rfl)
  replace h := md_t c6 h
  refine lv_iconst (v := 0) hx hb dX3_hold_37 (by decide) ?_
  refine lv_goto (tgt := 47) hx hb dX3_hold_38 (by decide) ?_
  exact KJ47 (0 : Int32) h _ _ hP hS ls (lv_sub hl [] rfl)
set_option maxHeartbeats 4000000 in
theorem ctX3_hold (l : Launch) {D : va_G} {cI cT : ClassId} {to t_cells_a t_sixties_a : Nat} {t_cells : Nat → Int32} {t_sixties : Nat → Int32} {t_rows : Int32} {p1 : Int32} {p2 : Int32} {p3 : Int32} {res : ((Nat → Int32) × (Nat → Int32))} (hnd : ([to, t_cells_a, t_sixties_a] : List Nat).Nodup) (hm : mX3_hold t_cells t_sixties p1 p2 p3 = some res) : Met l yX3_hold wsX3_hold rmX3_hold (va_Pc [.ref to, .int p1, .int p2, .int p3] (kW D cI cT [(to, .inr (1, [.ref t_cells_a, .ref t_sixties_a, .int t_rows])), (t_cells_a, .inl (cI, 24, .inl t_cells)), (t_sixties_a, .inl (cI, 24, .inl t_sixties))] none (fun q => q ∈ ([to, t_cells_a, t_sixties_a] : List Nat)))) (kX none D [(to, .inr (1, [.ref t_cells_a, .ref t_sixties_a, .int t_rows])), (t_cells_a, .inl (cI, 24, .inl res.1)), (t_sixties_a, .inl (cI, 24, .inl res.2))] (fun q => q ∈ ([to, t_cells_a, t_sixties_a] : List Nat))) 0 0 (fun q => q ∈ ([to, t_cells_a, t_sixties_a] : List Nat)) :=
  km (by decide) rfl (Nat.le_of_ble_eq_true rfl) (fun p e s m below meth c ls C hB hl => bX3_hold C p1 p2 p3 hB.1 hnd t_cells t_sixties t_rows res (fun t_cells1 t_sixties1 H locs pc ls h hP hS hd => by obtain rfl := Option.some.inj h; exact kx_v C hP hS hd) hm s.heap [] hB.2.1 va_S.rf ls hl)
theorem wm_X3_held_0 : Cond.fieldLink RX3 9 "SixtyTablet$Tablet" "cells" "[I" ∈ wsX3_held := by decide +kernel
theorem wi_X3_held_X3 : ∀ w ∈ wsX30, w ∈ wsX3_held := by decide +kernel
theorem kdvX3_held : yX3_held.cls = RX3 ∧ yX3_held.cls ≠ "java/lang/invoke/MethodHandle" ∧ yX3_held.cls ≠ "java/lang/invoke/VarHandle" ∧ (parseMethodDescriptor yX3_held.desc).map (fun d => d.parameters.length) = some 2 := by decide +kernel
abbrev rmX3_held : Room := { frames := 0, cells := 0, slots := 0, locals := 0 }
def mX3_held (t_cells : Nat → Int32) (p1 : Int32) (p2 : Int32) : Option Int32 := (md_let ((p1 * (3 : Int32)) + p2) (fun (x3_1 : Int32) => (if x3_1 < 0 then (some (0 : Int32)) else (if (24 : Int32) ≤ x3_1 then (some (0 : Int32)) else (if x3_1 < 0 ∨ 24 ≤ (Int32.toNatClampNeg x3_1) then none else (some (t_cells (Int32.toNatClampNeg x3_1))))))))
set_option maxHeartbeats 4000000 in
set_option maxRecDepth 100000 in
theorem bX3_held {p : Program} {l : Launch} {e : Env} {s : State} {m : MethodId} {args : Array Value} {below : List Frame} {meth : Method} {c : Code} {Q : State → Prop} (C : kc p s m args meth c cX3_held 4 RX3 yX3_held.name wsX3_held (some .int)) {D : va_G} {cI cT : ClassId} {to t_cells_a t_sixties_a : Nat} (p1 : Int32) (p2 : Int32) (hK : va_K D vwCl (kTy cI cT) s) (t_cells : Nat → Int32) (t_sixties : Nat → Int32) (t_rows : Int32) (hP : va_P D vwCl [(to, .inr (1, [.ref t_cells_a, .ref t_sixties_a, .int t_rows])), (t_cells_a, .inl (cI, 24, .inl t_cells)), (t_sixties_a, .inl (cI, 24, .inl t_sixties))] s.heap) (res : Int32) (hQ : ∀ (v : Int32) (pc : Nat) (ls : Array Slot), some v = some res → decode cX3_held pc = .ok (.ireturn, 1) → W p l e rmX3_held s m args below meth c s.heap [] 0 0 Q (F0 m pc ls [.int v])) : mX3_held t_cells p1 p2 = some res → ∀ (ls : Array Slot), lv_has ls 4 [(0, .ref to), (1, .int p1), (2, .int p2)] → W p l e rmX3_held s m args below meth c s.heap [] 0 0 Q (F0 m 0 ls []) := by
  intro h ls hl
  have C0 := C
  obtain ⟨hx, hb, hml, hown, hts, hr, hlk, hnm⟩ := C0
  rw [mX3_held] at h
  refine lv_iload_n hx hb dX3_held_0 rfl (lv_at hl 1 rfl) ?_
  refine lv_iconst (v := 3) hx hb dX3_held_1 (by decide) ?_
  refine lv_imul hx hb dX3_held_2 ?_
  refine lv_iload_n hx hb dX3_held_3 rfl (lv_at hl 2 rfl) ?_
  refine lv_iadd hx hb dX3_held_4 ?_
  refine lv_topi (fun x3_1 ex3_1 => ?_)
  replace h := md_le ex3_1 h
  refine lv_istore_n (lv' := [(3, .int x3_1), (0, .ref to), (1, .int p1), (2, .int p2)]) hx hb dX3_held_5 rfl hl (by decide) rfl (fun ls hl => ?_)
  refine lv_iload_n hx hb dX3_held_6 rfl (lv_at hl 0 rfl) ?_
  refine lv_if_lt (tgt := 25) hx hb dX3_held_7 (by decide) (fun c2 => ?_) (fun c2 => ?_)
  · replace h := md_t c2 h
    refine lv_iconst (v := 0) hx hb dX3_held_25 (by decide) ?_
    exact hQ (0 : Int32) 26 ls h dX3_held_26
  replace h := md_f c2 h
  refine lv_iload_n hx hb dX3_held_10 rfl (lv_at hl 0 rfl) ?_
  refine lv_bipush (v := 24) hx hb dX3_held_11 (by decide) ?_
  refine lv_icmp_ge (tgt := 25) hx hb dX3_held_13 (by decide) (fun c3 => ?_) (fun c3 => ?_)
  · replace h := md_t c3 h
    refine lv_iconst (v := 0) hx hb dX3_held_25 (by decide) ?_
    exact hQ (0 : Int32) 26 ls h dX3_held_26
  replace h := md_f c3 h
  refine lv_aload_n hx hb dX3_held_16 rfl (lv_at hl 1 rfl) ?_
  refine va_get (D := D) (ci := 1) (v := .ref t_cells_a) (C := RX3) (T := TX3) (N := 3) hx hb hts wi_X3_held_X3 hown hK hP 0 rfl rfl 0 (by decide) (hts _ wm_X3_held_0) (fun _ h9 => h9) rfl dX3_held_17 ?_
  refine lv_iload_n hx hb dX3_held_20 rfl (lv_at hl 0 rfl) ?_
  obtain ⟨hin4, h⟩ := md_g h
  refine va_iald hx hb hK hP 1 0 rfl rfl hin4 dX3_held_21 ?_
  refine lv_goto (tgt := 26) hx hb dX3_held_22 (by decide) ?_
  exact hQ (t_cells (Int32.toNatClampNeg x3_1)) 26 ls h dX3_held_26
set_option maxHeartbeats 4000000 in
theorem ctX3_held (l : Launch) {D : va_G} {cI cT : ClassId} {to t_cells_a t_sixties_a : Nat} {t_cells : Nat → Int32} {t_sixties : Nat → Int32} {t_rows : Int32} {p1 : Int32} {p2 : Int32} {res : Int32} (hm : mX3_held t_cells p1 p2 = some res) : Met l yX3_held wsX3_held rmX3_held (va_Pc [.ref to, .int p1, .int p2] (kW D cI cT [(to, .inr (1, [.ref t_cells_a, .ref t_sixties_a, .int t_rows])), (t_cells_a, .inl (cI, 24, .inl t_cells)), (t_sixties_a, .inl (cI, 24, .inl t_sixties))] none (fun _ => False))) (kR (.int res)) 0 0 (fun _ => False) :=
  km (by decide) rfl (Nat.le_of_ble_eq_true rfl) (fun p e s m below meth c ls C hB hl => bX3_held C p1 p2 hB.1 t_cells t_sixties t_rows hB.2.1 res (fun v pc ls h hd => kr_i C h hd) hm ls hl)
theorem wm_X3_heldSixty_0 : Cond.fieldLink RX3 13 "SixtyTablet$Tablet" "sixties" "[I" ∈ wsX3_heldSixty := by decide +kernel
theorem wi_X3_heldSixty_X3 : ∀ w ∈ wsX30, w ∈ wsX3_heldSixty := by decide +kernel
theorem kdvX3_heldSixty : yX3_heldSixty.cls = RX3 ∧ yX3_heldSixty.cls ≠ "java/lang/invoke/MethodHandle" ∧ yX3_heldSixty.cls ≠ "java/lang/invoke/VarHandle" ∧ (parseMethodDescriptor yX3_heldSixty.desc).map (fun d => d.parameters.length) = some 2 := by decide +kernel
abbrev rmX3_heldSixty : Room := { frames := 0, cells := 0, slots := 0, locals := 0 }
def mX3_heldSixty (t_sixties : Nat → Int32) (p1 : Int32) (p2 : Int32) : Option Int32 := (md_let ((p1 * (3 : Int32)) + p2) (fun (x3_1 : Int32) => (if x3_1 < 0 then (some (0 : Int32)) else (if (24 : Int32) ≤ x3_1 then (some (0 : Int32)) else (if x3_1 < 0 ∨ 24 ≤ (Int32.toNatClampNeg x3_1) then none else (some (t_sixties (Int32.toNatClampNeg x3_1))))))))
set_option maxHeartbeats 4000000 in
set_option maxRecDepth 100000 in
theorem bX3_heldSixty {p : Program} {l : Launch} {e : Env} {s : State} {m : MethodId} {args : Array Value} {below : List Frame} {meth : Method} {c : Code} {Q : State → Prop} (C : kc p s m args meth c cX3_heldSixty 4 RX3 yX3_heldSixty.name wsX3_heldSixty (some .int)) {D : va_G} {cI cT : ClassId} {to t_cells_a t_sixties_a : Nat} (p1 : Int32) (p2 : Int32) (hK : va_K D vwCl (kTy cI cT) s) (t_cells : Nat → Int32) (t_sixties : Nat → Int32) (t_rows : Int32) (hP : va_P D vwCl [(to, .inr (1, [.ref t_cells_a, .ref t_sixties_a, .int t_rows])), (t_cells_a, .inl (cI, 24, .inl t_cells)), (t_sixties_a, .inl (cI, 24, .inl t_sixties))] s.heap) (res : Int32) (hQ : ∀ (v : Int32) (pc : Nat) (ls : Array Slot), some v = some res → decode cX3_heldSixty pc = .ok (.ireturn, 1) → W p l e rmX3_heldSixty s m args below meth c s.heap [] 0 0 Q (F0 m pc ls [.int v])) : mX3_heldSixty t_sixties p1 p2 = some res → ∀ (ls : Array Slot), lv_has ls 4 [(0, .ref to), (1, .int p1), (2, .int p2)] → W p l e rmX3_heldSixty s m args below meth c s.heap [] 0 0 Q (F0 m 0 ls []) := by
  intro h ls hl
  have C0 := C
  obtain ⟨hx, hb, hml, hown, hts, hr, hlk, hnm⟩ := C0
  rw [mX3_heldSixty] at h
  refine lv_iload_n hx hb dX3_heldSixty_0 rfl (lv_at hl 1 rfl) ?_
  refine lv_iconst (v := 3) hx hb dX3_heldSixty_1 (by decide) ?_
  refine lv_imul hx hb dX3_heldSixty_2 ?_
  refine lv_iload_n hx hb dX3_heldSixty_3 rfl (lv_at hl 2 rfl) ?_
  refine lv_iadd hx hb dX3_heldSixty_4 ?_
  refine lv_topi (fun x3_1 ex3_1 => ?_)
  replace h := md_le ex3_1 h
  refine lv_istore_n (lv' := [(3, .int x3_1), (0, .ref to), (1, .int p1), (2, .int p2)]) hx hb dX3_heldSixty_5 rfl hl (by decide) rfl (fun ls hl => ?_)
  refine lv_iload_n hx hb dX3_heldSixty_6 rfl (lv_at hl 0 rfl) ?_
  refine lv_if_lt (tgt := 25) hx hb dX3_heldSixty_7 (by decide) (fun c2 => ?_) (fun c2 => ?_)
  · replace h := md_t c2 h
    refine lv_iconst (v := 0) hx hb dX3_heldSixty_25 (by decide) ?_
    exact hQ (0 : Int32) 26 ls h dX3_heldSixty_26
  replace h := md_f c2 h
  refine lv_iload_n hx hb dX3_heldSixty_10 rfl (lv_at hl 0 rfl) ?_
  refine lv_bipush (v := 24) hx hb dX3_heldSixty_11 (by decide) ?_
  refine lv_icmp_ge (tgt := 25) hx hb dX3_heldSixty_13 (by decide) (fun c3 => ?_) (fun c3 => ?_)
  · replace h := md_t c3 h
    refine lv_iconst (v := 0) hx hb dX3_heldSixty_25 (by decide) ?_
    exact hQ (0 : Int32) 26 ls h dX3_heldSixty_26
  replace h := md_f c3 h
  refine lv_aload_n hx hb dX3_heldSixty_16 rfl (lv_at hl 1 rfl) ?_
  refine va_get (D := D) (ci := 1) (v := .ref t_sixties_a) (C := RX3) (T := TX3) (N := 3) hx hb hts wi_X3_heldSixty_X3 hown hK hP 0 rfl rfl 1 (by decide) (hts _ wm_X3_heldSixty_0) (fun _ h9 => h9) rfl dX3_heldSixty_17 ?_
  refine lv_iload_n hx hb dX3_heldSixty_20 rfl (lv_at hl 0 rfl) ?_
  obtain ⟨hin4, h⟩ := md_g h
  refine va_iald hx hb hK hP 2 0 rfl rfl hin4 dX3_heldSixty_21 ?_
  refine lv_goto (tgt := 26) hx hb dX3_heldSixty_22 (by decide) ?_
  exact hQ (t_sixties (Int32.toNatClampNeg x3_1)) 26 ls h dX3_heldSixty_26
set_option maxHeartbeats 4000000 in
theorem ctX3_heldSixty (l : Launch) {D : va_G} {cI cT : ClassId} {to t_cells_a t_sixties_a : Nat} {t_cells : Nat → Int32} {t_sixties : Nat → Int32} {t_rows : Int32} {p1 : Int32} {p2 : Int32} {res : Int32} (hm : mX3_heldSixty t_sixties p1 p2 = some res) : Met l yX3_heldSixty wsX3_heldSixty rmX3_heldSixty (va_Pc [.ref to, .int p1, .int p2] (kW D cI cT [(to, .inr (1, [.ref t_cells_a, .ref t_sixties_a, .int t_rows])), (t_cells_a, .inl (cI, 24, .inl t_cells)), (t_sixties_a, .inl (cI, 24, .inl t_sixties))] none (fun _ => False))) (kR (.int res)) 0 0 (fun _ => False) :=
  km (by decide) rfl (Nat.le_of_ble_eq_true rfl) (fun p e s m below meth c ls C hB hl => bX3_heldSixty C p1 p2 hB.1 t_cells t_sixties t_rows hB.2.1 res (fun v pc ls h hd => kr_i C h hd) hm ls hl)
theorem kdvX3_mayBe : yX3_mayBe.cls = RX3 ∧ yX3_mayBe.cls ≠ "java/lang/invoke/MethodHandle" ∧ yX3_mayBe.cls ≠ "java/lang/invoke/VarHandle" ∧ (parseMethodDescriptor yX3_mayBe.desc).map (fun d => d.parameters.length) = some 3 := by decide +kernel
abbrev rmX3_mayBe : Room := { frames := 1, cells := 0, slots := 0, locals := 24 }
def mX3_mayBe (t_sixties : Nat → Int32) (p1 : Int32) (p2 : Int32) (p3 : Int32) : Option Int32 := (Option.bind (mX3_heldSixty t_sixties p1 p2) (fun u1 => (if u1 = 0 then (some (1 : Int32)) else (Option.bind (mX1_strip (Int32.toInt64 p3)) (fun u3 => (if (Int32.toInt64 u1) = u3 then (some (1 : Int32)) else (some (0 : Int32))))))))
set_option maxHeartbeats 4000000 in
set_option maxRecDepth 100000 in
theorem bX3_mayBe {p : Program} {l : Launch} {e : Env} {s : State} {m : MethodId} {args : Array Value} {below : List Frame} {meth : Method} {c : Code} {Q : State → Prop} (C : kc p s m args meth c cX3_mayBe 5 RX3 yX3_mayBe.name wsX3_mayBe (some .boolean)) {D : va_G} {cI cT : ClassId} {to t_cells_a t_sixties_a : Nat} (p1 : Int32) (p2 : Int32) (p3 : Int32) (hK : va_K D vwCl (kTy cI cT) s) (t_cells : Nat → Int32) (t_sixties : Nat → Int32) (t_rows : Int32) (hP : va_P D vwCl [(to, .inr (1, [.ref t_cells_a, .ref t_sixties_a, .int t_rows])), (t_cells_a, .inl (cI, 24, .inl t_cells)), (t_sixties_a, .inl (cI, 24, .inl t_sixties))] s.heap) (res : Int32) (hQ : ∀ (v : Int32) (pc : Nat) (ls : Array Slot), v = 0 ∨ v = 1 → some v = some res → decode cX3_mayBe pc = .ok (.ireturn, 1) → W p l e rmX3_mayBe s m args below meth c s.heap [] 0 0 Q (F0 m pc ls [.int v])) : mX3_mayBe t_sixties p1 p2 p3 = some res → ∀ (ls : Array Slot), lv_has ls 5 [(0, .ref to), (1, .int p1), (2, .int p2), (3, .int p3)] → W p l e rmX3_mayBe s m args below meth c s.heap [] 0 0 Q (F0 m 0 ls []) := by
  intro h ls hl
  have C0 := C
  obtain ⟨hx, hb, hml, hown, hts, hr, hlk, hnm⟩ := C0
  rw [mX3_mayBe] at h
  refine lv_aload_n hx hb dX3_mayBe_0 rfl (lv_at hl 0 rfl) ?_
  refine lv_iload_n hx hb dX3_mayBe_1 rfl (lv_at hl 1 rfl) ?_
  refine lv_iload_n hx hb dX3_mayBe_2 rfl (lv_at hl 2 rfl) ?_
  obtain ⟨u1, hu1, h⟩ := md_b h
  refine kV C (ctX3_heldSixty l  hu1) gX3_mayBe_X3_heldSixty rfl kdvX3_heldSixty ⟨rfl, rfl⟩ ⟨by decide, by decide⟩ kW_blind (va_recv hK hP (ci := 1) (q0 := 0) rfl rfl) (kW_use hK (hP.sub (ws' := [(to, .inr (1, [.ref t_cells_a, .ref t_sixties_a, .int t_rows])), (t_cells_a, .inl (cI, 24, .inl t_cells)), (t_sixties_a, .inl (cI, 24, .inl t_sixties))]) [0, 1, 2] rfl) kL_no) rfl hl [] rfl (Nat.le_of_ble_eq_true rfl) dX3_mayBe_3 ⟨by decide, by decide⟩ ?_
  refine lv_istore (lv' := [(4, .int u1), (0, .ref to), (1, .int p1), (2, .int p2), (3, .int p3)]) hx hb dX3_mayBe_6 hl (by decide) rfl (fun ls hl => ?_)
  refine lv_iload hx hb dX3_mayBe_8 (lv_at hl 0 rfl) ?_
  refine lv_if_eq (tgt := 25) hx hb dX3_mayBe_10 (by decide) (fun c2 => ?_) (fun c2 => ?_)
  · replace h := md_t c2 h
    refine lv_iconst (v := 1) hx hb dX3_mayBe_25 (by decide) ?_
    refine lv_goto (tgt := 30) hx hb dX3_mayBe_26 (by decide) ?_
    exact hQ (1 : Int32) 30 ls (by decide) h dX3_mayBe_30
  replace h := md_f c2 h
  refine lv_iload hx hb dX3_mayBe_13 (lv_at hl 0 rfl) ?_
  refine lv_i2l hx hb dX3_mayBe_15 rfl ?_
  refine lv_iload_n hx hb dX3_mayBe_16 rfl (lv_at hl 4 rfl) ?_
  refine lv_i2l hx hb dX3_mayBe_17 rfl ?_
  obtain ⟨u3, hu3, h⟩ := md_b h
  refine kS C (ctX1_strip l  hu3) gX3_mayBe_X1_strip rfl kdX1_strip ⟨rfl, rfl⟩ ⟨by decide, by decide⟩ kT_blind (fun _ _ _ => trivial) rfl hl [.long (Int32.toInt64 u1)] rfl (Nat.le_of_ble_eq_true rfl) dX3_mayBe_18 ⟨by decide, by decide⟩ ?_
  refine W.lcmp hx hb dX3_mayBe_21 ?_
  refine lv_if_ne (tgt := 29) hx hb dX3_mayBe_22 (by decide) (fun c4 => ?_) (fun c4 => ?_)
  · replace c4 := fun q9 => c4 ((lg_cmp_eq _ _).mpr q9)
    replace h := md_f c4 h
    refine lv_iconst (v := 0) hx hb dX3_mayBe_29 (by decide) ?_
    exact hQ (0 : Int32) 30 ls (by decide) h dX3_mayBe_30
  replace c4 := (lg_cmp_eq _ _).mp c4
  replace h := md_t c4 h
  refine lv_iconst (v := 1) hx hb dX3_mayBe_25 (by decide) ?_
  refine lv_goto (tgt := 30) hx hb dX3_mayBe_26 (by decide) ?_
  exact hQ (1 : Int32) 30 ls (by decide) h dX3_mayBe_30
set_option maxHeartbeats 4000000 in
theorem ctX3_mayBe (l : Launch) {D : va_G} {cI cT : ClassId} {to t_cells_a t_sixties_a : Nat} {t_cells : Nat → Int32} {t_sixties : Nat → Int32} {t_rows : Int32} {p1 : Int32} {p2 : Int32} {p3 : Int32} {res : Int32} (hm : mX3_mayBe t_sixties p1 p2 p3 = some res) : Met l yX3_mayBe wsX3_mayBe rmX3_mayBe (va_Pc [.ref to, .int p1, .int p2, .int p3] (kW D cI cT [(to, .inr (1, [.ref t_cells_a, .ref t_sixties_a, .int t_rows])), (t_cells_a, .inl (cI, 24, .inl t_cells)), (t_sixties_a, .inl (cI, 24, .inl t_sixties))] none (fun _ => False))) (kR (.int res)) 0 0 (fun _ => False) :=
  km (by decide) rfl (Nat.le_of_ble_eq_true rfl) (fun p e s m below meth c ls C hB hl => bX3_mayBe C p1 p2 p3 hB.1 t_cells t_sixties t_rows hB.2.1 res (fun v pc ls hz h hd => kr_z C hz h hd) hm ls hl)
theorem wm_X3_brokenCells_0 : Cond.fieldLink RX3 16 "SixtyTablet$Tablet" "rows" "I" ∈ wsX3_brokenCells := by decide +kernel
theorem wm_X3_brokenCells_1 : Cond.fieldLink RX3 9 "SixtyTablet$Tablet" "cells" "[I" ∈ wsX3_brokenCells := by decide +kernel
theorem wi_X3_brokenCells_X3 : ∀ w ∈ wsX30, w ∈ wsX3_brokenCells := by decide +kernel
theorem kdvX3_brokenCells : yX3_brokenCells.cls = RX3 ∧ yX3_brokenCells.cls ≠ "java/lang/invoke/MethodHandle" ∧ yX3_brokenCells.cls ≠ "java/lang/invoke/VarHandle" ∧ (parseMethodDescriptor yX3_brokenCells.desc).map (fun d => d.parameters.length) = some 0 := by decide +kernel
abbrev rmX3_brokenCells : Room := { frames := 0, cells := 0, slots := 0, locals := 0 }
def mlX3_brokenCells_4 (t_cells : Nat → Int32) (t_rows : Int32) (kE : Int32 → Option Int32) : Nat → Int32 → Int32 → Option Int32
  | 0, _, _ => none
  | n + 1, x1, x2 => (if (t_rows * (3 : Int32)) ≤ x2 then (kE x1) else (if (24 : Int32) ≤ x2 then (kE x1) else (if x2 < 0 ∨ 24 ≤ (Int32.toNatClampNeg x2) then none else (md_jn (fun (x1_32 : Int32) => (md_let (x2 + (1 : Int32)) (fun (x2_4 : Int32) => (mlX3_brokenCells_4 t_cells t_rows kE n x1_32 x2_4)))) (fun kJ32 => (if (t_cells (Int32.toNatClampNeg x2)) = 0 then (md_let (x1 + (1 : Int32)) (fun (x1_6 : Int32) => (kJ32 x1_6))) else (kJ32 x1)))))))
set_option maxHeartbeats 4000000 in
set_option maxRecDepth 100000 in
theorem lX3_brokenCells_4 {p : Program} {l : Launch} {e : Env} {s : State} {m : MethodId} {args : Array Value} {below : List Frame} {meth : Method} {c : Code} {Q : State → Prop} (C : kc p s m args meth c cX3_brokenCells 3 RX3 yX3_brokenCells.name wsX3_brokenCells (some .int)) {D : va_G} {cI cT : ClassId} {to t_cells_a t_sixties_a : Nat} (hK : va_K D vwCl (kTy cI cT) s) (t_cells : Nat → Int32) (t_sixties : Nat → Int32) (t_rows : Int32) (hP : va_P D vwCl [(to, .inr (1, [.ref t_cells_a, .ref t_sixties_a, .int t_rows])), (t_cells_a, .inl (cI, 24, .inl t_cells)), (t_sixties_a, .inl (cI, 24, .inl t_sixties))] s.heap) (res : Int32) (hQ : ∀ (v : Int32) (pc : Nat) (ls : Array Slot), some v = some res → decode cX3_brokenCells pc = .ok (.ireturn, 1) → W p l e rmX3_brokenCells s m args below meth c s.heap [] 0 0 Q (F0 m pc ls [.int v])) (kE : Int32 → Option Int32) (hE : ∀ (y1 : Int32), kE y1 = some res → ∀ (ls : Array Slot), lv_has ls 3 [(1, .int y1)] → W p l e rmX3_brokenCells s m args below meth c s.heap [] 0 0 Q (F0 m 38 ls [])) : ∀ (n : Nat), ∀ (x1 : Int32) (x2 : Int32), mlX3_brokenCells_4 t_cells t_rows kE n x1 x2 = some res → ∀ (ls : Array Slot), lv_has ls 3 [(0, .ref to), (1, .int x1), (2, .int x2)] → W p l e rmX3_brokenCells s m args below meth c s.heap [] 0 0 Q (F0 m 4 ls []) := by
  have C0 := C
  obtain ⟨hx, hb, hml, hown, hts, hr, hlk, hnm⟩ := C0
  intro n
  induction n with
  | zero => intro _ _ h; exact md_x h
  | succ n ih =>
    intro x1 x2 h ls hl
    rw [mlX3_brokenCells_4] at h
    refine lv_iload_n hx hb dX3_brokenCells_4 rfl (lv_at hl 2 rfl) ?_
    refine lv_aload_n hx hb dX3_brokenCells_5 rfl (lv_at hl 0 rfl) ?_
    refine va_get (D := D) (ci := 1) (v := .int t_rows) (C := RX3) (T := TX3) (N := 3) hx hb hts wi_X3_brokenCells_X3 hown hK hP 0 rfl rfl 2 (by decide) (hts _ wm_X3_brokenCells_0) (fun _ h9 => h9) rfl dX3_brokenCells_6 ?_
    refine lv_iconst (v := 3) hx hb dX3_brokenCells_9 (by decide) ?_
    refine lv_imul hx hb dX3_brokenCells_10 ?_
    refine lv_icmp_ge (tgt := 38) hx hb dX3_brokenCells_11 (by decide) (fun c1 => ?_) (fun c1 => ?_)
    · replace h := md_t c1 h
      exact hE x1 h ls (lv_sub hl [1] rfl)
    replace h := md_f c1 h
    refine lv_iload_n hx hb dX3_brokenCells_14 rfl (lv_at hl 2 rfl) ?_
    refine lv_bipush (v := 24) hx hb dX3_brokenCells_15 (by decide) ?_
    refine lv_icmp_ge (tgt := 38) hx hb dX3_brokenCells_17 (by decide) (fun c2 => ?_) (fun c2 => ?_)
    · replace h := md_t c2 h
      exact hE x1 h ls (lv_sub hl [1] rfl)
    replace h := md_f c2 h
    refine lv_aload_n hx hb dX3_brokenCells_20 rfl (lv_at hl 0 rfl) ?_
    refine va_get (D := D) (ci := 1) (v := .ref t_cells_a) (C := RX3) (T := TX3) (N := 3) hx hb hts wi_X3_brokenCells_X3 hown hK hP 0 rfl rfl 0 (by decide) (hts _ wm_X3_brokenCells_1) (fun _ h9 => h9) rfl dX3_brokenCells_21 ?_
    refine lv_iload_n hx hb dX3_brokenCells_24 rfl (lv_at hl 2 rfl) ?_
    obtain ⟨hin3, h⟩ := md_g h
    refine va_iald hx hb hK hP 1 0 rfl rfl hin3 dX3_brokenCells_25 ?_
    obtain ⟨kJ32, ekJ32, h⟩ := md_jo h
    have KJ32 : ∀ (x1_32 : Int32), kJ32 x1_32 = some res → ∀ (ls : Array Slot), lv_has ls 3 [(0, .ref to), (1, .int x1_32), (2, .int x2)] → W p l e rmX3_brokenCells s m args below meth c s.heap [] 0 0 Q (F0 m 32 ls []) := by
      intro x1_32 h ls hl
      rw [ekJ32] at h
      obtain ⟨x2_4, ex2_4⟩ : ∃ y : Int32, y = (x2 + (1 : Int32)) := ⟨_, rfl⟩
      replace h := md_le ex2_4 h
      refine lv_iinc (v := x2_4) (lv' := [(2, .int x2_4), (0, .ref to), (1, .int x1_32)]) hx hb dX3_brokenCells_32 hl (k := 2) rfl (by rw [ex2_4]; rfl) (by decide) rfl (fun ls hl => ?_)
      refine lv_goto (tgt := 4) hx hb dX3_brokenCells_35 (by decide) ?_
      exact ih x1_32 x2_4 h ls (lv_sub hl [1, 2, 0] rfl)
    clear ekJ32
    refine lv_if_ne (tgt := 32) hx hb dX3_brokenCells_26 (by decide) (fun c5 => ?_) (fun c5 => ?_)
    · replace h := md_f c5 h
      exact KJ32 x1 h ls (lv_sub hl [0, 1, 2] rfl)
    replace h := md_t c5 h
    obtain ⟨x1_6, ex1_6⟩ : ∃ y : Int32, y = (x1 + (1 : Int32)) := ⟨_, rfl⟩
    replace h := md_le ex1_6 h
    refine lv_iinc (v := x1_6) (lv' := [(1, .int x1_6), (0, .ref to), (2, .int x2)]) hx hb dX3_brokenCells_29 hl (k := 1) rfl (by rw [ex1_6]; rfl) (by decide) rfl (fun ls hl => ?_)
    exact KJ32 x1_6 h ls (lv_sub hl [1, 0, 2] rfl)
def mX3_brokenCells (t_cells : Nat → Int32) (t_rows : Int32) : Option Int32 := (mlX3_brokenCells_4 t_cells t_rows (fun (y1_38 : Int32) => (some y1_38)) kN (0 : Int32) (0 : Int32))
set_option maxHeartbeats 4000000 in
set_option maxRecDepth 100000 in
theorem bX3_brokenCells {p : Program} {l : Launch} {e : Env} {s : State} {m : MethodId} {args : Array Value} {below : List Frame} {meth : Method} {c : Code} {Q : State → Prop} (C : kc p s m args meth c cX3_brokenCells 3 RX3 yX3_brokenCells.name wsX3_brokenCells (some .int)) {D : va_G} {cI cT : ClassId} {to t_cells_a t_sixties_a : Nat} (hK : va_K D vwCl (kTy cI cT) s) (t_cells : Nat → Int32) (t_sixties : Nat → Int32) (t_rows : Int32) (hP : va_P D vwCl [(to, .inr (1, [.ref t_cells_a, .ref t_sixties_a, .int t_rows])), (t_cells_a, .inl (cI, 24, .inl t_cells)), (t_sixties_a, .inl (cI, 24, .inl t_sixties))] s.heap) (res : Int32) (hQ : ∀ (v : Int32) (pc : Nat) (ls : Array Slot), some v = some res → decode cX3_brokenCells pc = .ok (.ireturn, 1) → W p l e rmX3_brokenCells s m args below meth c s.heap [] 0 0 Q (F0 m pc ls [.int v])) : mX3_brokenCells t_cells t_rows = some res → ∀ (ls : Array Slot), lv_has ls 3 [(0, .ref to)] → W p l e rmX3_brokenCells s m args below meth c s.heap [] 0 0 Q (F0 m 0 ls []) := by
  intro h ls hl
  have C0 := C
  obtain ⟨hx, hb, hml, hown, hts, hr, hlk, hnm⟩ := C0
  rw [mX3_brokenCells] at h
  refine lv_iconst (v := 0) hx hb dX3_brokenCells_0 (by decide) ?_
  refine lv_istore_n (lv' := [(1, .int (0 : Int32)), (0, .ref to)]) hx hb dX3_brokenCells_1 rfl hl (by decide) rfl (fun ls hl => ?_)
  refine lv_iconst (v := 0) hx hb dX3_brokenCells_2 (by decide) ?_
  refine lv_istore_n (lv' := [(2, .int (0 : Int32)), (1, .int (0 : Int32)), (0, .ref to)]) hx hb dX3_brokenCells_3 rfl hl (by decide) rfl (fun ls hl => ?_)
  refine lX3_brokenCells_4 C hK t_cells t_sixties t_rows hP res hQ _ (fun y1_38 h ls hl => ?_) kN (0 : Int32) (0 : Int32) h ls (lv_sub hl [2, 1, 0] rfl)
  refine lv_iload_n hx hb dX3_brokenCells_38 rfl (lv_at hl 0 rfl) ?_
  exact hQ y1_38 39 ls h dX3_brokenCells_39
set_option maxHeartbeats 4000000 in
theorem ctX3_brokenCells (l : Launch) {D : va_G} {cI cT : ClassId} {to t_cells_a t_sixties_a : Nat} {t_cells : Nat → Int32} {t_sixties : Nat → Int32} {t_rows : Int32} {res : Int32} (hm : mX3_brokenCells t_cells t_rows = some res) : Met l yX3_brokenCells wsX3_brokenCells rmX3_brokenCells (va_Pc [.ref to] (kW D cI cT [(to, .inr (1, [.ref t_cells_a, .ref t_sixties_a, .int t_rows])), (t_cells_a, .inl (cI, 24, .inl t_cells)), (t_sixties_a, .inl (cI, 24, .inl t_sixties))] none (fun _ => False))) (kR (.int res)) 0 0 (fun _ => False) :=
  km (by decide) rfl (Nat.le_of_ble_eq_true rfl) (fun p e s m below meth c ls C hB hl => bX3_brokenCells C hB.1 t_cells t_sixties t_rows hB.2.1 res (fun v pc ls h hd => kr_i C h hd) hm ls hl)
theorem wm_X3_fits_0 : Cond.fieldLink RX3 16 "SixtyTablet$Tablet" "rows" "I" ∈ wsX3_fits := by decide +kernel
theorem wi_X3_fits_X3 : ∀ w ∈ wsX30, w ∈ wsX3_fits := by decide +kernel
theorem kdvX3_fits : yX3_fits.cls = RX3 ∧ yX3_fits.cls ≠ "java/lang/invoke/MethodHandle" ∧ yX3_fits.cls ≠ "java/lang/invoke/VarHandle" ∧ (parseMethodDescriptor yX3_fits.desc).map (fun d => d.parameters.length) = some 2 := by decide +kernel
abbrev rmX3_fits : Room := { frames := 1, cells := 0, slots := 0, locals := 23 }
def mlX3_fits_13 (x2 : Int32) (x3 : Int32) (t_sixties : Nat → Int32) (u_sixties : Nat → Int32) (kE : Unit → Option Int32) : Nat → Int32 → Option Int32
  | 0, _ => none
  | n + 1, x4 => (if (3 : Int32) ≤ x4 then (kE ()) else (Option.bind (mX3_heldSixty u_sixties x3 x4) (fun u3 => (Option.bind (mX3_heldSixty t_sixties (x2 + x3) x4) (fun u4 => (md_jn (fun (u_58 : Unit) => (md_let (x4 + (1 : Int32)) (fun (x4_5 : Int32) => (mlX3_fits_13 x2 x3 t_sixties u_sixties kE n x4_5)))) (fun kJ58 => (if u3 = 0 then (kJ58 ()) else (if u4 = 0 then (kJ58 ()) else (if u3 = u4 then (kJ58 ()) else (some (0 : Int32))))))))))))
set_option maxHeartbeats 4000000 in
set_option maxRecDepth 100000 in
theorem lX3_fits_13 {p : Program} {l : Launch} {e : Env} {s : State} {m : MethodId} {args : Array Value} {below : List Frame} {meth : Method} {c : Code} {Q : State → Prop} (C : kc p s m args meth c cX3_fits 7 RX3 yX3_fits.name wsX3_fits (some .boolean)) {D : va_G} {cI cT : ClassId} {to t_cells_a t_sixties_a uo u_cells_a u_sixties_a : Nat} (hK : va_K D vwCl (kTy cI cT) s) (x2 : Int32) (x3 : Int32) (t_cells : Nat → Int32) (t_sixties : Nat → Int32) (t_rows : Int32) (u_cells : Nat → Int32) (u_sixties : Nat → Int32) (u_rows : Int32) (hP : va_P D vwCl [(to, .inr (1, [.ref t_cells_a, .ref t_sixties_a, .int t_rows])), (t_cells_a, .inl (cI, 24, .inl t_cells)), (t_sixties_a, .inl (cI, 24, .inl t_sixties)), (uo, .inr (1, [.ref u_cells_a, .ref u_sixties_a, .int u_rows])), (u_cells_a, .inl (cI, 24, .inl u_cells)), (u_sixties_a, .inl (cI, 24, .inl u_sixties))] s.heap) (res : Int32) (hQ : ∀ (v : Int32) (pc : Nat) (ls : Array Slot), v = 0 ∨ v = 1 → some v = some res → decode cX3_fits pc = .ok (.ireturn, 1) → W p l e rmX3_fits s m args below meth c s.heap [] 0 0 Q (F0 m pc ls [.int v])) (kE : Unit → Option Int32) (hE : ∀ (u_ : Unit), kE u_ = some res → ∀ (ls : Array Slot), lv_has ls 7 [(0, .ref to), (1, .ref uo), (2, .int x2), (3, .int x3)] → W p l e rmX3_fits s m args below meth c s.heap [] 0 0 Q (F0 m 64 ls [])) : ∀ (n : Nat), ∀ (x4 : Int32), mlX3_fits_13 x2 x3 t_sixties u_sixties kE n x4 = some res → ∀ (ls : Array Slot), lv_has ls 7 [(0, .ref to), (1, .ref uo), (2, .int x2), (3, .int x3), (4, .int x4)] → W p l e rmX3_fits s m args below meth c s.heap [] 0 0 Q (F0 m 13 ls []) := by
  have C0 := C
  obtain ⟨hx, hb, hml, hown, hts, hr, hlk, hnm⟩ := C0
  intro n
  induction n with
  | zero => intro _ h; exact md_x h
  | succ n ih =>
    intro x4 h ls hl
    rw [mlX3_fits_13] at h
    refine lv_iload hx hb dX3_fits_13 (lv_at hl 4 rfl) ?_
    refine lv_iconst (v := 3) hx hb dX3_fits_15 (by decide) ?_
    refine lv_icmp_ge (tgt := 64) hx hb dX3_fits_16 (by decide) (fun c2 => ?_) (fun c2 => ?_)
    · replace h := md_t c2 h
      exact hE () h ls (lv_sub hl [0, 1, 2, 3] rfl)
    replace h := md_f c2 h
    refine lv_aload_n hx hb dX3_fits_19 rfl (lv_at hl 1 rfl) ?_
    refine lv_iload_n hx hb dX3_fits_20 rfl (lv_at hl 3 rfl) ?_
    refine lv_iload hx hb dX3_fits_21 (lv_at hl 4 rfl) ?_
    obtain ⟨u3, hu3, h⟩ := md_b h
    refine kV C (ctX3_heldSixty l  hu3) gX3_fits_X3_heldSixty rfl kdvX3_heldSixty ⟨rfl, rfl⟩ ⟨by decide, by decide⟩ kW_blind (va_recv hK hP (ci := 1) (q0 := 3) rfl rfl) (kW_use hK (hP.sub (ws' := [(uo, .inr (1, [.ref u_cells_a, .ref u_sixties_a, .int u_rows])), (u_cells_a, .inl (cI, 24, .inl u_cells)), (u_sixties_a, .inl (cI, 24, .inl u_sixties))]) [3, 4, 5] rfl) kL_no) rfl hl [] rfl (Nat.le_of_ble_eq_true rfl) dX3_fits_23 ⟨by decide, by decide⟩ ?_
    refine lv_istore (lv' := [(5, .int u3), (0, .ref to), (1, .ref uo), (2, .int x2), (3, .int x3), (4, .int x4)]) hx hb dX3_fits_26 hl (by decide) rfl (fun ls hl => ?_)
    refine lv_aload_n hx hb dX3_fits_28 rfl (lv_at hl 1 rfl) ?_
    refine lv_iload_n hx hb dX3_fits_29 rfl (lv_at hl 3 rfl) ?_
    refine lv_iload_n hx hb dX3_fits_30 rfl (lv_at hl 4 rfl) ?_
    refine lv_iadd hx hb dX3_fits_31 ?_
    refine lv_iload hx hb dX3_fits_32 (lv_at hl 5 rfl) ?_
    obtain ⟨u4, hu4, h⟩ := md_b h
    refine kV C (ctX3_heldSixty l  hu4) gX3_fits_X3_heldSixty rfl kdvX3_heldSixty ⟨rfl, rfl⟩ ⟨by decide, by decide⟩ kW_blind (va_recv hK hP (ci := 1) (q0 := 0) rfl rfl) (kW_use hK (hP.sub (ws' := [(to, .inr (1, [.ref t_cells_a, .ref t_sixties_a, .int t_rows])), (t_cells_a, .inl (cI, 24, .inl t_cells)), (t_sixties_a, .inl (cI, 24, .inl t_sixties))]) [0, 1, 2] rfl) kL_no) rfl hl [] rfl (Nat.le_of_ble_eq_true rfl) dX3_fits_34 ⟨by decide, by decide⟩ ?_
    refine lv_istore (lv' := [(6, .int u4), (5, .int u3), (0, .ref to), (1, .ref uo), (2, .int x2), (3, .int x3), (4, .int x4)]) hx hb dX3_fits_37 hl (by decide) rfl (fun ls hl => ?_)
    refine lv_iload hx hb dX3_fits_39 (lv_at hl 1 rfl) ?_
    obtain ⟨kJ58, ekJ58, h⟩ := md_jo h
    have KJ58 : ∀ (u_58 : Unit), kJ58 u_58 = some res → ∀ (ls : Array Slot), lv_has ls 7 [(0, .ref to), (1, .ref uo), (2, .int x2), (3, .int x3), (4, .int x4)] → W p l e rmX3_fits s m args below meth c s.heap [] 0 0 Q (F0 m 58 ls []) := by
      intro u_58 h ls hl
      rw [ekJ58] at h
      obtain ⟨x4_5, ex4_5⟩ : ∃ y : Int32, y = (x4 + (1 : Int32)) := ⟨_, rfl⟩
      replace h := md_le ex4_5 h
      refine lv_iinc (v := x4_5) (lv' := [(4, .int x4_5), (0, .ref to), (1, .ref uo), (2, .int x2), (3, .int x3)]) hx hb dX3_fits_58 hl (k := 4) rfl (by rw [ex4_5]; rfl) (by decide) rfl (fun ls hl => ?_)
      refine lv_goto (tgt := 13) hx hb dX3_fits_61 (by decide) ?_
      exact ih x4_5 h ls (lv_sub hl [1, 2, 3, 4, 0] rfl)
    clear ekJ58
    refine lv_if_eq (tgt := 58) hx hb dX3_fits_41 (by decide) (fun c6 => ?_) (fun c6 => ?_)
    · replace h := md_t c6 h
      exact KJ58 () h ls (lv_sub hl [2, 3, 4, 5, 6] rfl)
    replace h := md_f c6 h
    refine lv_iload hx hb dX3_fits_44 (lv_at hl 0 rfl) ?_
    refine lv_if_eq (tgt := 58) hx hb dX3_fits_46 (by decide) (fun c7 => ?_) (fun c7 => ?_)
    · replace h := md_t c7 h
      exact KJ58 () h ls (lv_sub hl [2, 3, 4, 5, 6] rfl)
    replace h := md_f c7 h
    refine lv_iload hx hb dX3_fits_49 (lv_at hl 1 rfl) ?_
    refine lv_iload hx hb dX3_fits_51 (lv_at hl 0 rfl) ?_
    refine lv_icmp_eq (tgt := 58) hx hb dX3_fits_53 (by decide) (fun c8 => ?_) (fun c8 => ?_)
    · replace h := md_t c8 h
      exact KJ58 () h ls (lv_sub hl [2, 3, 4, 5, 6] rfl)
    replace h := md_f c8 h
    refine lv_iconst (v := 0) hx hb dX3_fits_56 (by decide) ?_
    exact hQ (0 : Int32) 57 ls (by decide) h dX3_fits_57
def mlX3_fits_2 (x2 : Int32) (t_sixties : Nat → Int32) (u_sixties : Nat → Int32) (u_rows : Int32) (kE : Unit → Option Int32) : Nat → Int32 → Option Int32
  | 0, _ => none
  | n + 1, x3 => (if u_rows ≤ x3 then (kE ()) else (mlX3_fits_13 x2 x3 t_sixties u_sixties (fun (u_64 : Unit) => (md_let (x3 + (1 : Int32)) (fun (x3_9 : Int32) => (mlX3_fits_2 x2 t_sixties u_sixties u_rows kE n x3_9)))) kN (0 : Int32)))
set_option maxHeartbeats 4000000 in
set_option maxRecDepth 100000 in
theorem lX3_fits_2 {p : Program} {l : Launch} {e : Env} {s : State} {m : MethodId} {args : Array Value} {below : List Frame} {meth : Method} {c : Code} {Q : State → Prop} (C : kc p s m args meth c cX3_fits 7 RX3 yX3_fits.name wsX3_fits (some .boolean)) {D : va_G} {cI cT : ClassId} {to t_cells_a t_sixties_a uo u_cells_a u_sixties_a : Nat} (hK : va_K D vwCl (kTy cI cT) s) (x2 : Int32) (t_cells : Nat → Int32) (t_sixties : Nat → Int32) (t_rows : Int32) (u_cells : Nat → Int32) (u_sixties : Nat → Int32) (u_rows : Int32) (hP : va_P D vwCl [(to, .inr (1, [.ref t_cells_a, .ref t_sixties_a, .int t_rows])), (t_cells_a, .inl (cI, 24, .inl t_cells)), (t_sixties_a, .inl (cI, 24, .inl t_sixties)), (uo, .inr (1, [.ref u_cells_a, .ref u_sixties_a, .int u_rows])), (u_cells_a, .inl (cI, 24, .inl u_cells)), (u_sixties_a, .inl (cI, 24, .inl u_sixties))] s.heap) (res : Int32) (hQ : ∀ (v : Int32) (pc : Nat) (ls : Array Slot), v = 0 ∨ v = 1 → some v = some res → decode cX3_fits pc = .ok (.ireturn, 1) → W p l e rmX3_fits s m args below meth c s.heap [] 0 0 Q (F0 m pc ls [.int v])) (kE : Unit → Option Int32) (hE : ∀ (u_ : Unit), kE u_ = some res → ∀ (ls : Array Slot), lv_has ls 7 [] → W p l e rmX3_fits s m args below meth c s.heap [] 0 0 Q (F0 m 70 ls [])) : ∀ (n : Nat), ∀ (x3 : Int32), mlX3_fits_2 x2 t_sixties u_sixties u_rows kE n x3 = some res → ∀ (ls : Array Slot), lv_has ls 7 [(0, .ref to), (1, .ref uo), (2, .int x2), (3, .int x3)] → W p l e rmX3_fits s m args below meth c s.heap [] 0 0 Q (F0 m 2 ls []) := by
  have C0 := C
  obtain ⟨hx, hb, hml, hown, hts, hr, hlk, hnm⟩ := C0
  intro n
  induction n with
  | zero => intro _ h; exact md_x h
  | succ n ih =>
    intro x3 h ls hl
    rw [mlX3_fits_2] at h
    refine lv_iload_n hx hb dX3_fits_2 rfl (lv_at hl 3 rfl) ?_
    refine lv_aload_n hx hb dX3_fits_3 rfl (lv_at hl 1 rfl) ?_
    refine va_get (D := D) (ci := 1) (v := .int u_rows) (C := RX3) (T := TX3) (N := 3) hx hb hts wi_X3_fits_X3 hown hK hP 3 rfl rfl 2 (by decide) (hts _ wm_X3_fits_0) (fun _ h9 => h9) rfl dX3_fits_4 ?_
    refine lv_icmp_ge (tgt := 70) hx hb dX3_fits_7 (by decide) (fun c1 => ?_) (fun c1 => ?_)
    · replace h := md_t c1 h
      exact hE () h ls (lv_sub hl [] rfl)
    replace h := md_f c1 h
    refine lv_iconst (v := 0) hx hb dX3_fits_10 (by decide) ?_
    refine lv_istore (lv' := [(4, .int (0 : Int32)), (0, .ref to), (1, .ref uo), (2, .int x2), (3, .int x3)]) hx hb dX3_fits_11 hl (by decide) rfl (fun ls hl => ?_)
    refine lX3_fits_13 C hK x2 x3 t_cells t_sixties t_rows u_cells u_sixties u_rows hP res hQ _ (fun u_64 h ls hl => ?_) kN (0 : Int32) h ls (lv_sub hl [1, 2, 3, 4, 0] rfl)
    obtain ⟨x3_9, ex3_9⟩ : ∃ y : Int32, y = (x3 + (1 : Int32)) := ⟨_, rfl⟩
    replace h := md_le ex3_9 h
    refine lv_iinc (v := x3_9) (lv' := [(3, .int x3_9), (0, .ref to), (1, .ref uo), (2, .int x2)]) hx hb dX3_fits_64 hl (k := 3) rfl (by rw [ex3_9]; rfl) (by decide) rfl (fun ls hl => ?_)
    refine lv_goto (tgt := 2) hx hb dX3_fits_67 (by decide) ?_
    exact ih x3_9 h ls (lv_sub hl [1, 2, 3, 0] rfl)
def mX3_fits (t_sixties : Nat → Int32) (u_sixties : Nat → Int32) (u_rows : Int32) (p2 : Int32) : Option Int32 := (mlX3_fits_2 p2 t_sixties u_sixties u_rows (fun (u_70 : Unit) => (some (1 : Int32))) kN (0 : Int32))
set_option maxHeartbeats 4000000 in
set_option maxRecDepth 100000 in
theorem bX3_fits {p : Program} {l : Launch} {e : Env} {s : State} {m : MethodId} {args : Array Value} {below : List Frame} {meth : Method} {c : Code} {Q : State → Prop} (C : kc p s m args meth c cX3_fits 7 RX3 yX3_fits.name wsX3_fits (some .boolean)) {D : va_G} {cI cT : ClassId} {to t_cells_a t_sixties_a uo u_cells_a u_sixties_a : Nat} (p2 : Int32) (hK : va_K D vwCl (kTy cI cT) s) (t_cells : Nat → Int32) (t_sixties : Nat → Int32) (t_rows : Int32) (u_cells : Nat → Int32) (u_sixties : Nat → Int32) (u_rows : Int32) (hP : va_P D vwCl [(to, .inr (1, [.ref t_cells_a, .ref t_sixties_a, .int t_rows])), (t_cells_a, .inl (cI, 24, .inl t_cells)), (t_sixties_a, .inl (cI, 24, .inl t_sixties)), (uo, .inr (1, [.ref u_cells_a, .ref u_sixties_a, .int u_rows])), (u_cells_a, .inl (cI, 24, .inl u_cells)), (u_sixties_a, .inl (cI, 24, .inl u_sixties))] s.heap) (res : Int32) (hQ : ∀ (v : Int32) (pc : Nat) (ls : Array Slot), v = 0 ∨ v = 1 → some v = some res → decode cX3_fits pc = .ok (.ireturn, 1) → W p l e rmX3_fits s m args below meth c s.heap [] 0 0 Q (F0 m pc ls [.int v])) : mX3_fits t_sixties u_sixties u_rows p2 = some res → ∀ (ls : Array Slot), lv_has ls 7 [(0, .ref to), (1, .ref uo), (2, .int p2)] → W p l e rmX3_fits s m args below meth c s.heap [] 0 0 Q (F0 m 0 ls []) := by
  intro h ls hl
  have C0 := C
  obtain ⟨hx, hb, hml, hown, hts, hr, hlk, hnm⟩ := C0
  rw [mX3_fits] at h
  refine lv_iconst (v := 0) hx hb dX3_fits_0 (by decide) ?_
  refine lv_istore_n (lv' := [(3, .int (0 : Int32)), (0, .ref to), (1, .ref uo), (2, .int p2)]) hx hb dX3_fits_1 rfl hl (by decide) rfl (fun ls hl => ?_)
  refine lX3_fits_2 C hK p2 t_cells t_sixties t_rows u_cells u_sixties u_rows hP res hQ _ (fun u_70 h ls hl => ?_) kN (0 : Int32) h ls (lv_sub hl [1, 2, 3, 0] rfl)
  refine lv_iconst (v := 1) hx hb dX3_fits_70 (by decide) ?_
  exact hQ (1 : Int32) 71 ls (by decide) h dX3_fits_71
set_option maxHeartbeats 4000000 in
theorem ctX3_fits (l : Launch) {D : va_G} {cI cT : ClassId} {to t_cells_a t_sixties_a uo u_cells_a u_sixties_a : Nat} {t_cells : Nat → Int32} {t_sixties : Nat → Int32} {t_rows : Int32} {u_cells : Nat → Int32} {u_sixties : Nat → Int32} {u_rows : Int32} {p2 : Int32} {res : Int32} (hm : mX3_fits t_sixties u_sixties u_rows p2 = some res) : Met l yX3_fits wsX3_fits rmX3_fits (va_Pc [.ref to, .ref uo, .int p2] (kW D cI cT [(to, .inr (1, [.ref t_cells_a, .ref t_sixties_a, .int t_rows])), (t_cells_a, .inl (cI, 24, .inl t_cells)), (t_sixties_a, .inl (cI, 24, .inl t_sixties)), (uo, .inr (1, [.ref u_cells_a, .ref u_sixties_a, .int u_rows])), (u_cells_a, .inl (cI, 24, .inl u_cells)), (u_sixties_a, .inl (cI, 24, .inl u_sixties))] none (fun _ => False))) (kR (.int res)) 0 0 (fun _ => False) :=
  km (by decide) rfl (Nat.le_of_ble_eq_true rfl) (fun p e s m below meth c ls C hB hl => bX3_fits C p2 hB.1 t_cells t_sixties t_rows u_cells u_sixties u_rows hB.2.1 res (fun v pc ls hz h hd => kr_z C hz h hd) hm ls hl)
theorem wm_X3_take_0 : Cond.fieldLink RX3 16 "SixtyTablet$Tablet" "rows" "I" ∈ wsX3_take := by decide +kernel
theorem wm_X3_take_1 : Cond.methodLink RX3 30 Lib.Math.max.name ∈ wsX3_take := by decide +kernel
theorem wm_X3_take_2 : Cond.static Lib.Math.max.name ∈ wsX3_take := by decide +kernel
theorem wm_X3_take_3 : Cond.initialized "java/lang/Math" ∈ wsX3_take := by decide +kernel
theorem wm_X3_take_4 : Cond.code Lib.Math.max.name Lib.Math.max.code 2 (some .int) ∈ wsX3_take := by decide +kernel
theorem wm_X3_take_5 : Cond.methodLink RX3 35 Lib.Math.min.name ∈ wsX3_take := by decide +kernel
theorem wm_X3_take_6 : Cond.static Lib.Math.min.name ∈ wsX3_take := by decide +kernel
theorem wm_X3_take_7 : Cond.code Lib.Math.min.name Lib.Math.min.code 2 (some .int) ∈ wsX3_take := by decide +kernel
theorem wi_X3_take_X3 : ∀ w ∈ wsX30, w ∈ wsX3_take := by decide +kernel
theorem kdvX3_take : yX3_take.cls = RX3 ∧ yX3_take.cls ≠ "java/lang/invoke/MethodHandle" ∧ yX3_take.cls ≠ "java/lang/invoke/VarHandle" ∧ (parseMethodDescriptor yX3_take.desc).map (fun d => d.parameters.length) = some 2 := by decide +kernel
abbrev rmX3_take : Room := { frames := 2, cells := 0, slots := 0, locals := 48 }
def mlX3_take_35 (x2 : Int32) (x3 : Int32) (u_cells : Nat → Int32) (kE : (Nat → Int32) → (Nat → Int32) → Option ((Nat → Int32) × (Nat → Int32) × Int32)) : Nat → Int32 → (Nat → Int32) → (Nat → Int32) → Option ((Nat → Int32) × (Nat → Int32) × Int32)
  | 0, _, _, _ => none
  | n + 1, x4, t_cells, t_sixties => (if (3 : Int32) ≤ x4 then (kE t_cells t_sixties) else (Option.bind (mX3_held t_cells (x2 + x3) x4) (fun u4 => (md_jn (fun (t_cells_69 : Nat → Int32) (t_sixties_69 : Nat → Int32) => (md_let (x4 + (1 : Int32)) (fun (x4_5 : Int32) => (mlX3_take_35 x2 x3 u_cells kE n x4_5 t_cells_69 t_sixties_69)))) (fun kJ69 => (if u4 = 0 then (Option.bind (mX3_held u_cells x3 x4) (fun u7 => (Option.bind (mX3_hold t_cells t_sixties (x2 + x3) x4 u7) (fun u8 => (kJ69 u8.1 u8.2))))) else (kJ69 t_cells t_sixties)))))))
set_option maxHeartbeats 4000000 in
set_option maxRecDepth 100000 in
theorem lX3_take_35 {p : Program} {l : Launch} {e : Env} {s : State} {m : MethodId} {args : Array Value} {below : List Frame} {meth : Method} {c : Code} {Q : State → Prop} (C : kc p s m args meth c cX3_take 5 RX3 yX3_take.name wsX3_take none) {D : va_G} {cI cT : ClassId} {to t_cells_a t_sixties_a uo u_cells_a u_sixties_a : Nat} (hK : va_K D vwCl (kTy cI cT) s) (hnd : ([to, t_cells_a, t_sixties_a, uo, u_cells_a, u_sixties_a] : List Nat).Nodup) (x2 : Int32) (x3 : Int32) (t_rows : Int32) (u_cells : Nat → Int32) (u_sixties : Nat → Int32) (u_rows : Int32) (res : ((Nat → Int32) × (Nat → Int32) × Int32)) (hQ : ∀ (t_cells : Nat → Int32) (t_sixties : Nat → Int32) (t_rows : Int32) (H : Heap) (locs : List Loc) (pc : Nat) (ls : Array Slot), some (t_cells, t_sixties, t_rows) = some res → va_P D vwCl [(to, .inr (1, [.ref t_cells_a, .ref t_sixties_a, .int t_rows])), (t_cells_a, .inl (cI, 24, .inl t_cells)), (t_sixties_a, .inl (cI, 24, .inl t_sixties)), (uo, .inr (1, [.ref u_cells_a, .ref u_sixties_a, .int u_rows])), (u_cells_a, .inl (cI, 24, .inl u_cells)), (u_sixties_a, .inl (cI, 24, .inl u_sixties))] H → va_S (fun q => q ∈ ([to, t_cells_a, t_sixties_a, uo, u_cells_a, u_sixties_a] : List Nat)) s.heap H locs → decode cX3_take pc = .ok (.return_, 1) → W p l e rmX3_take s m args below meth c H locs 0 0 Q (F0 m pc ls [])) (kE : (Nat → Int32) → (Nat → Int32) → Option ((Nat → Int32) × (Nat → Int32) × Int32)) (hE : ∀ (t_cells : Nat → Int32) (t_sixties : Nat → Int32), kE t_cells t_sixties = some res → ∀ (H : Heap) (locs : List Loc), va_P D vwCl [(to, .inr (1, [.ref t_cells_a, .ref t_sixties_a, .int t_rows])), (t_cells_a, .inl (cI, 24, .inl t_cells)), (t_sixties_a, .inl (cI, 24, .inl t_sixties)), (uo, .inr (1, [.ref u_cells_a, .ref u_sixties_a, .int u_rows])), (u_cells_a, .inl (cI, 24, .inl u_cells)), (u_sixties_a, .inl (cI, 24, .inl u_sixties))] H → va_S (fun q => q ∈ ([to, t_cells_a, t_sixties_a, uo, u_cells_a, u_sixties_a] : List Nat)) s.heap H locs → ∀ (ls : Array Slot), lv_has ls 5 [(0, .ref to), (1, .ref uo), (2, .int x2), (3, .int x3)] → W p l e rmX3_take s m args below meth c H locs 0 0 Q (F0 m 75 ls [])) : ∀ (n : Nat), ∀ (x4 : Int32) (t_cells : Nat → Int32) (t_sixties : Nat → Int32), mlX3_take_35 x2 x3 u_cells kE n x4 t_cells t_sixties = some res → ∀ (H : Heap) (locs : List Loc), va_P D vwCl [(to, .inr (1, [.ref t_cells_a, .ref t_sixties_a, .int t_rows])), (t_cells_a, .inl (cI, 24, .inl t_cells)), (t_sixties_a, .inl (cI, 24, .inl t_sixties)), (uo, .inr (1, [.ref u_cells_a, .ref u_sixties_a, .int u_rows])), (u_cells_a, .inl (cI, 24, .inl u_cells)), (u_sixties_a, .inl (cI, 24, .inl u_sixties))] H → va_S (fun q => q ∈ ([to, t_cells_a, t_sixties_a, uo, u_cells_a, u_sixties_a] : List Nat)) s.heap H locs → ∀ (ls : Array Slot), lv_has ls 5 [(0, .ref to), (1, .ref uo), (2, .int x2), (3, .int x3), (4, .int x4)] → W p l e rmX3_take s m args below meth c H locs 0 0 Q (F0 m 35 ls []) := by
  have C0 := C
  obtain ⟨hx, hb, hml, hown, hts, hr, hlk, hnm⟩ := C0
  intro n
  induction n with
  | zero => intro _ _ _ h; exact md_x h
  | succ n ih =>
    intro x4 t_cells t_sixties h H locs hP hS ls hl
    rw [mlX3_take_35] at h
    refine lv_iload hx hb dX3_take_35 (lv_at hl 4 rfl) ?_
    refine lv_iconst (v := 3) hx hb dX3_take_37 (by decide) ?_
    refine lv_icmp_ge (tgt := 75) hx hb dX3_take_38 (by decide) (fun c3 => ?_) (fun c3 => ?_)
    · replace h := md_t c3 h
      exact hE t_cells t_sixties h _ _ hP hS ls (lv_sub hl [0, 1, 2, 3] rfl)
    replace h := md_f c3 h
    refine lv_aload_n hx hb dX3_take_41 rfl (lv_at hl 0 rfl) ?_
    refine lv_iload_n hx hb dX3_take_42 rfl (lv_at hl 2 rfl) ?_
    refine lv_iload_n hx hb dX3_take_43 rfl (lv_at hl 3 rfl) ?_
    refine lv_iadd hx hb dX3_take_44 ?_
    refine lv_iload hx hb dX3_take_45 (lv_at hl 4 rfl) ?_
    obtain ⟨u4, hu4, h⟩ := md_b h
    refine kV C (ctX3_held l  hu4) gX3_take_X3_held rfl kdvX3_held ⟨rfl, rfl⟩ ⟨by decide, by decide⟩ kW_blind (va_recv hK hP (ci := 1) (q0 := 0) rfl rfl) (kW_use hK (hP.sub (ws' := [(to, .inr (1, [.ref t_cells_a, .ref t_sixties_a, .int t_rows])), (t_cells_a, .inl (cI, 24, .inl t_cells)), (t_sixties_a, .inl (cI, 24, .inl t_sixties))]) [0, 1, 2] rfl) kL_no) rfl hl [] rfl (Nat.le_of_ble_eq_true rfl) dX3_take_47 ⟨by decide, by decide⟩ ?_
    obtain ⟨kJ69, ekJ69, h⟩ := md_jo h
    have KJ69 : ∀ (t_cells_69 : Nat → Int32) (t_sixties_69 : Nat → Int32), kJ69 t_cells_69 t_sixties_69 = some res → ∀ (H : Heap) (locs : List Loc), va_P D vwCl [(to, .inr (1, [.ref t_cells_a, .ref t_sixties_a, .int t_rows])), (t_cells_a, .inl (cI, 24, .inl t_cells_69)), (t_sixties_a, .inl (cI, 24, .inl t_sixties_69)), (uo, .inr (1, [.ref u_cells_a, .ref u_sixties_a, .int u_rows])), (u_cells_a, .inl (cI, 24, .inl u_cells)), (u_sixties_a, .inl (cI, 24, .inl u_sixties))] H → va_S (fun q => q ∈ ([to, t_cells_a, t_sixties_a, uo, u_cells_a, u_sixties_a] : List Nat)) s.heap H locs → ∀ (ls : Array Slot), lv_has ls 5 [(0, .ref to), (1, .ref uo), (2, .int x2), (3, .int x3), (4, .int x4)] → W p l e rmX3_take s m args below meth c H locs 0 0 Q (F0 m 69 ls []) := by
      intro t_cells_69 t_sixties_69 h H locs hP hS ls hl
      rw [ekJ69] at h
      obtain ⟨x4_5, ex4_5⟩ : ∃ y : Int32, y = (x4 + (1 : Int32)) := ⟨_, rfl⟩
      replace h := md_le ex4_5 h
      refine lv_iinc (v := x4_5) (lv' := [(4, .int x4_5), (0, .ref to), (1, .ref uo), (2, .int x2), (3, .int x3)]) hx hb dX3_take_69 hl (k := 4) rfl (by rw [ex4_5]; rfl) (by decide) rfl (fun ls hl => ?_)
      refine lv_goto (tgt := 35) hx hb dX3_take_72 (by decide) ?_
      exact ih x4_5 t_cells_69 t_sixties_69 h _ _ hP hS ls (lv_sub hl [1, 2, 3, 4, 0] rfl)
    clear ekJ69
    refine lv_if_ne (tgt := 69) hx hb dX3_take_50 (by decide) (fun c6 => ?_) (fun c6 => ?_)
    · replace h := md_f c6 h
      exact KJ69 t_cells t_sixties h _ _ hP hS ls (lv_sub hl [0, 1, 2, 3, 4] rfl)
    replace h := md_t c6 h
    refine lv_aload_n hx hb dX3_take_53 rfl (lv_at hl 0 rfl) ?_
    refine lv_iload_n hx hb dX3_take_54 rfl (lv_at hl 2 rfl) ?_
    refine lv_iload_n hx hb dX3_take_55 rfl (lv_at hl 3 rfl) ?_
    refine lv_iadd hx hb dX3_take_56 ?_
    refine lv_iload hx hb dX3_take_57 (lv_at hl 4 rfl) ?_
    refine lv_aload_n hx hb dX3_take_59 rfl (lv_at hl 1 rfl) ?_
    refine lv_iload_n hx hb dX3_take_60 rfl (lv_at hl 3 rfl) ?_
    refine lv_iload hx hb dX3_take_61 (lv_at hl 4 rfl) ?_
    obtain ⟨u7, hu7, h⟩ := md_b h
    refine kV C (ctX3_held l  hu7) gX3_take_X3_held rfl kdvX3_held ⟨rfl, rfl⟩ ⟨by decide, by decide⟩ kW_blind (va_recv hK hP (ci := 1) (q0 := 3) rfl rfl) (kW_use hK (hP.sub (ws' := [(uo, .inr (1, [.ref u_cells_a, .ref u_sixties_a, .int u_rows])), (u_cells_a, .inl (cI, 24, .inl u_cells)), (u_sixties_a, .inl (cI, 24, .inl u_sixties))]) [3, 4, 5] rfl) kL_no) rfl hl [.int x4, .int (x2 + x3), .ref to] rfl (Nat.le_of_ble_eq_true rfl) dX3_take_63 ⟨by decide, by decide⟩ ?_
    obtain ⟨u8, hu8, h⟩ := md_b h
    refine kVx C (ctX3_hold l (nd_sub hnd [0, 1, 2] (by decide) rfl) hu8) gX3_take_X3_hold rfl kdvX3_hold ⟨rfl, rfl⟩ ⟨by decide, by decide⟩ kW_blind (va_recv hK hP (ci := 1) (q0 := 0) rfl rfl) (kW_use hK (hP.sub (ws' := [(to, .inr (1, [.ref t_cells_a, .ref t_sixties_a, .int t_rows])), (t_cells_a, .inl (cI, 24, .inl t_cells)), (t_sixties_a, .inl (cI, 24, .inl t_sixties))]) [0, 1, 2] rfl) kL_no) rfl hl [] rfl (Nat.le_of_ble_eq_true rfl) dX3_take_66 ⟨by decide, by decide⟩ hS (mem_sub [0, 1, 2] rfl) (fun H1 locs hP1 hk1 hS => ?_)
    replace hP : va_P D vwCl [(to, .inr (1, [.ref t_cells_a, .ref t_sixties_a, .int t_rows])), (t_cells_a, .inl (cI, 24, .inl u8.1)), (t_sixties_a, .inl (cI, 24, .inl u8.2)), (uo, .inr (1, [.ref u_cells_a, .ref u_sixties_a, .int u_rows])), (u_cells_a, .inl (cI, 24, .inl u_cells)), (u_sixties_a, .inl (cI, 24, .inl u_sixties))] H1 := kjoin hnd rfl hP hP1 hk1 [0, 1, 2] rfl [(true, 0), (true, 1), (true, 2), (false, 3), (false, 4), (false, 5)] rfl rfl
    clear hP1 hk1
    generalize H1 = H at hP hS ⊢
    exact KJ69 u8.1 u8.2 h _ _ hP hS ls (lv_sub hl [0, 1, 2, 3, 4] rfl)
def mlX3_take_24 (x2 : Int32) (u_cells : Nat → Int32) (u_rows : Int32) (kE : (Nat → Int32) → (Nat → Int32) → Option ((Nat → Int32) × (Nat → Int32) × Int32)) : Nat → Int32 → (Nat → Int32) → (Nat → Int32) → Option ((Nat → Int32) × (Nat → Int32) × Int32)
  | 0, _, _, _ => none
  | n + 1, x3, t_cells, t_sixties => (if u_rows ≤ x3 then (kE t_cells t_sixties) else (mlX3_take_35 x2 x3 u_cells (fun (t_cells_75 : Nat → Int32) (t_sixties_75 : Nat → Int32) => (md_let (x3 + (1 : Int32)) (fun (x3_9 : Int32) => (mlX3_take_24 x2 u_cells u_rows kE n x3_9 t_cells_75 t_sixties_75)))) kN (0 : Int32) t_cells t_sixties))
set_option maxHeartbeats 4000000 in
set_option maxRecDepth 100000 in
theorem lX3_take_24 {p : Program} {l : Launch} {e : Env} {s : State} {m : MethodId} {args : Array Value} {below : List Frame} {meth : Method} {c : Code} {Q : State → Prop} (C : kc p s m args meth c cX3_take 5 RX3 yX3_take.name wsX3_take none) {D : va_G} {cI cT : ClassId} {to t_cells_a t_sixties_a uo u_cells_a u_sixties_a : Nat} (hK : va_K D vwCl (kTy cI cT) s) (hnd : ([to, t_cells_a, t_sixties_a, uo, u_cells_a, u_sixties_a] : List Nat).Nodup) (x2 : Int32) (t_rows : Int32) (u_cells : Nat → Int32) (u_sixties : Nat → Int32) (u_rows : Int32) (res : ((Nat → Int32) × (Nat → Int32) × Int32)) (hQ : ∀ (t_cells : Nat → Int32) (t_sixties : Nat → Int32) (t_rows : Int32) (H : Heap) (locs : List Loc) (pc : Nat) (ls : Array Slot), some (t_cells, t_sixties, t_rows) = some res → va_P D vwCl [(to, .inr (1, [.ref t_cells_a, .ref t_sixties_a, .int t_rows])), (t_cells_a, .inl (cI, 24, .inl t_cells)), (t_sixties_a, .inl (cI, 24, .inl t_sixties)), (uo, .inr (1, [.ref u_cells_a, .ref u_sixties_a, .int u_rows])), (u_cells_a, .inl (cI, 24, .inl u_cells)), (u_sixties_a, .inl (cI, 24, .inl u_sixties))] H → va_S (fun q => q ∈ ([to, t_cells_a, t_sixties_a, uo, u_cells_a, u_sixties_a] : List Nat)) s.heap H locs → decode cX3_take pc = .ok (.return_, 1) → W p l e rmX3_take s m args below meth c H locs 0 0 Q (F0 m pc ls [])) (kE : (Nat → Int32) → (Nat → Int32) → Option ((Nat → Int32) × (Nat → Int32) × Int32)) (hE : ∀ (t_cells : Nat → Int32) (t_sixties : Nat → Int32), kE t_cells t_sixties = some res → ∀ (H : Heap) (locs : List Loc), va_P D vwCl [(to, .inr (1, [.ref t_cells_a, .ref t_sixties_a, .int t_rows])), (t_cells_a, .inl (cI, 24, .inl t_cells)), (t_sixties_a, .inl (cI, 24, .inl t_sixties)), (uo, .inr (1, [.ref u_cells_a, .ref u_sixties_a, .int u_rows])), (u_cells_a, .inl (cI, 24, .inl u_cells)), (u_sixties_a, .inl (cI, 24, .inl u_sixties))] H → va_S (fun q => q ∈ ([to, t_cells_a, t_sixties_a, uo, u_cells_a, u_sixties_a] : List Nat)) s.heap H locs → ∀ (ls : Array Slot), lv_has ls 5 [] → W p l e rmX3_take s m args below meth c H locs 0 0 Q (F0 m 81 ls [])) : ∀ (n : Nat), ∀ (x3 : Int32) (t_cells : Nat → Int32) (t_sixties : Nat → Int32), mlX3_take_24 x2 u_cells u_rows kE n x3 t_cells t_sixties = some res → ∀ (H : Heap) (locs : List Loc), va_P D vwCl [(to, .inr (1, [.ref t_cells_a, .ref t_sixties_a, .int t_rows])), (t_cells_a, .inl (cI, 24, .inl t_cells)), (t_sixties_a, .inl (cI, 24, .inl t_sixties)), (uo, .inr (1, [.ref u_cells_a, .ref u_sixties_a, .int u_rows])), (u_cells_a, .inl (cI, 24, .inl u_cells)), (u_sixties_a, .inl (cI, 24, .inl u_sixties))] H → va_S (fun q => q ∈ ([to, t_cells_a, t_sixties_a, uo, u_cells_a, u_sixties_a] : List Nat)) s.heap H locs → ∀ (ls : Array Slot), lv_has ls 5 [(0, .ref to), (1, .ref uo), (2, .int x2), (3, .int x3)] → W p l e rmX3_take s m args below meth c H locs 0 0 Q (F0 m 24 ls []) := by
  have C0 := C
  obtain ⟨hx, hb, hml, hown, hts, hr, hlk, hnm⟩ := C0
  intro n
  induction n with
  | zero => intro _ _ _ h; exact md_x h
  | succ n ih =>
    intro x3 t_cells t_sixties h H locs hP hS ls hl
    rw [mlX3_take_24] at h
    refine lv_iload_n hx hb dX3_take_24 rfl (lv_at hl 3 rfl) ?_
    refine lv_aload_n hx hb dX3_take_25 rfl (lv_at hl 1 rfl) ?_
    refine va_get (D := D) (ci := 1) (v := .int u_rows) (C := RX3) (T := TX3) (N := 3) hx hb hts wi_X3_take_X3 hown hK hP 3 rfl rfl 2 (by decide) (hts _ wm_X3_take_0) (fun _ h9 => h9) rfl dX3_take_26 ?_
    refine lv_icmp_ge (tgt := 81) hx hb dX3_take_29 (by decide) (fun c2 => ?_) (fun c2 => ?_)
    · replace h := md_t c2 h
      exact hE t_cells t_sixties h _ _ hP hS ls (lv_sub hl [] rfl)
    replace h := md_f c2 h
    refine lv_iconst (v := 0) hx hb dX3_take_32 (by decide) ?_
    refine lv_istore (lv' := [(4, .int (0 : Int32)), (0, .ref to), (1, .ref uo), (2, .int x2), (3, .int x3)]) hx hb dX3_take_33 hl (by decide) rfl (fun ls hl => ?_)
    refine lX3_take_35 C hK hnd x2 x3 t_rows u_cells u_sixties u_rows res hQ _ (fun t_cells_75 t_sixties_75 h H locs hP hS ls hl => ?_) kN (0 : Int32) t_cells t_sixties h _ _ hP hS ls (lv_sub hl [1, 2, 3, 4, 0] rfl)
    obtain ⟨x3_9, ex3_9⟩ : ∃ y : Int32, y = (x3 + (1 : Int32)) := ⟨_, rfl⟩
    replace h := md_le ex3_9 h
    refine lv_iinc (v := x3_9) (lv' := [(3, .int x3_9), (0, .ref to), (1, .ref uo), (2, .int x2)]) hx hb dX3_take_75 hl (k := 3) rfl (by rw [ex3_9]; rfl) (by decide) rfl (fun ls hl => ?_)
    refine lv_goto (tgt := 24) hx hb dX3_take_78 (by decide) ?_
    exact ih x3_9 t_cells_75 t_sixties_75 h _ _ hP hS ls (lv_sub hl [1, 2, 3, 0] rfl)
def mX3_take (t_cells : Nat → Int32) (t_sixties : Nat → Int32) (t_rows : Int32) (u_cells : Nat → Int32) (u_rows : Int32) (p2 : Int32) : Option ((Nat → Int32) × (Nat → Int32) × Int32) := (md_let (if (if t_rows < (p2 + u_rows) then (p2 + u_rows) else t_rows) < (8 : Int32) then (if t_rows < (p2 + u_rows) then (p2 + u_rows) else t_rows) else (8 : Int32)) (fun (f_1 : Int32) => (mlX3_take_24 p2 u_cells u_rows (fun (t_cells_81 : Nat → Int32) (t_sixties_81 : Nat → Int32) => (some (t_cells_81, t_sixties_81, f_1))) kN (0 : Int32) t_cells t_sixties)))
set_option maxHeartbeats 4000000 in
set_option maxRecDepth 100000 in
theorem bX3_take {p : Program} {l : Launch} {e : Env} {s : State} {m : MethodId} {args : Array Value} {below : List Frame} {meth : Method} {c : Code} {Q : State → Prop} (C : kc p s m args meth c cX3_take 5 RX3 yX3_take.name wsX3_take none) {D : va_G} {cI cT : ClassId} {to t_cells_a t_sixties_a uo u_cells_a u_sixties_a : Nat} (p2 : Int32) (hK : va_K D vwCl (kTy cI cT) s) (hnd : ([to, t_cells_a, t_sixties_a, uo, u_cells_a, u_sixties_a] : List Nat).Nodup) (t_cells : Nat → Int32) (t_sixties : Nat → Int32) (t_rows : Int32) (u_cells : Nat → Int32) (u_sixties : Nat → Int32) (u_rows : Int32) (res : ((Nat → Int32) × (Nat → Int32) × Int32)) (hQ : ∀ (t_cells : Nat → Int32) (t_sixties : Nat → Int32) (t_rows : Int32) (H : Heap) (locs : List Loc) (pc : Nat) (ls : Array Slot), some (t_cells, t_sixties, t_rows) = some res → va_P D vwCl [(to, .inr (1, [.ref t_cells_a, .ref t_sixties_a, .int t_rows])), (t_cells_a, .inl (cI, 24, .inl t_cells)), (t_sixties_a, .inl (cI, 24, .inl t_sixties)), (uo, .inr (1, [.ref u_cells_a, .ref u_sixties_a, .int u_rows])), (u_cells_a, .inl (cI, 24, .inl u_cells)), (u_sixties_a, .inl (cI, 24, .inl u_sixties))] H → va_S (fun q => q ∈ ([to, t_cells_a, t_sixties_a, uo, u_cells_a, u_sixties_a] : List Nat)) s.heap H locs → decode cX3_take pc = .ok (.return_, 1) → W p l e rmX3_take s m args below meth c H locs 0 0 Q (F0 m pc ls [])) : mX3_take t_cells t_sixties t_rows u_cells u_rows p2 = some res → ∀ (H : Heap) (locs : List Loc), va_P D vwCl [(to, .inr (1, [.ref t_cells_a, .ref t_sixties_a, .int t_rows])), (t_cells_a, .inl (cI, 24, .inl t_cells)), (t_sixties_a, .inl (cI, 24, .inl t_sixties)), (uo, .inr (1, [.ref u_cells_a, .ref u_sixties_a, .int u_rows])), (u_cells_a, .inl (cI, 24, .inl u_cells)), (u_sixties_a, .inl (cI, 24, .inl u_sixties))] H → va_S (fun q => q ∈ ([to, t_cells_a, t_sixties_a, uo, u_cells_a, u_sixties_a] : List Nat)) s.heap H locs → ∀ (ls : Array Slot), lv_has ls 5 [(0, .ref to), (1, .ref uo), (2, .int p2)] → W p l e rmX3_take s m args below meth c H locs 0 0 Q (F0 m 0 ls []) := by
  intro h H locs hP hS ls hl
  have C0 := C
  obtain ⟨hx, hb, hml, hown, hts, hr, hlk, hnm⟩ := C0
  rw [mX3_take] at h
  refine lv_aload_n hx hb dX3_take_0 rfl (lv_at hl 0 rfl) ?_
  refine lv_bipush (v := 8) hx hb dX3_take_1 (by decide) ?_
  refine lv_aload_n hx hb dX3_take_3 rfl (lv_at hl 0 rfl) ?_
  refine va_get (D := D) (ci := 1) (v := .int t_rows) (C := RX3) (T := TX3) (N := 3) hx hb hts wi_X3_take_X3 hown hK hP 0 rfl rfl 2 (by decide) (hts _ wm_X3_take_0) (fun _ h9 => h9) rfl dX3_take_4 ?_
  refine lv_iload_n hx hb dX3_take_7 rfl (lv_at hl 2 rfl) ?_
  refine lv_aload_n hx hb dX3_take_8 rfl (lv_at hl 1 rfl) ?_
  refine va_get (D := D) (ci := 1) (v := .int u_rows) (C := RX3) (T := TX3) (N := 3) hx hb hts wi_X3_take_X3 hown hK hP 3 rfl rfl 2 (by decide) (hts _ wm_X3_take_0) (fun _ h9 => h9) rfl dX3_take_9 ?_
  refine lv_iadd hx hb dX3_take_12 ?_
  refine va_mmax hx hb (hml.trans hl.1.symm) hown (hts _ wm_X3_take_1) (hts _ wm_X3_take_2) (hts _ wm_X3_take_3) (hts _ wm_X3_take_4) (by decide) (Nat.le_of_ble_eq_true rfl) (by decide) (by decide) dX3_take_13 ?_
  refine va_mmin hx hb (hml.trans hl.1.symm) hown (hts _ wm_X3_take_5) (hts _ wm_X3_take_6) (hts _ wm_X3_take_3) (hts _ wm_X3_take_7) (by decide) (Nat.le_of_ble_eq_true rfl) (by decide) (by decide) dX3_take_16 ?_
  refine lv_topi (fun f_1 ef_1 => ?_)
  replace h := md_le ef_1 h
  refine va_put (D := D) (ci := 1) (v := .int f_1) (ty := .int) (C := RX3) (T := TX3) (N := 3) hx hb hts wi_X3_take_X3 tyX3 tyX3_ok nmX3 hown hK hP (kD hnd rfl) hS 0 rfl rfl 2 (by decide) (hts _ wm_X3_take_0) (fun _ h9 => h9) rfl (by decide +kernel) rfl rfl (Nat.le_of_ble_eq_true rfl) dX3_take_19 (fun H locs hP _ hS => ?_)
  have hP : va_P D vwCl [(to, .inr (1, [.ref t_cells_a, .ref t_sixties_a, .int f_1])), (t_cells_a, .inl (cI, 24, .inl t_cells)), (t_sixties_a, .inl (cI, 24, .inl t_sixties)), (uo, .inr (1, [.ref u_cells_a, .ref u_sixties_a, .int u_rows])), (u_cells_a, .inl (cI, 24, .inl u_cells)), (u_sixties_a, .inl (cI, 24, .inl u_sixties))] H := hP
  refine lv_iconst (v := 0) hx hb dX3_take_22 (by decide) ?_
  refine lv_istore_n (lv' := [(3, .int (0 : Int32)), (0, .ref to), (1, .ref uo), (2, .int p2)]) hx hb dX3_take_23 rfl hl (by decide) rfl (fun ls hl => ?_)
  refine lX3_take_24 C hK hnd p2 f_1 u_cells u_sixties u_rows res hQ _ (fun t_cells_81 t_sixties_81 h H locs hP hS ls hl => ?_) kN (0 : Int32) t_cells t_sixties h _ _ hP hS ls (lv_sub hl [1, 2, 3, 0] rfl)
  exact hQ t_cells_81 t_sixties_81 f_1 H locs 81 ls h hP hS dX3_take_81
set_option maxHeartbeats 4000000 in
theorem ctX3_take (l : Launch) {D : va_G} {cI cT : ClassId} {to t_cells_a t_sixties_a uo u_cells_a u_sixties_a : Nat} {t_cells : Nat → Int32} {t_sixties : Nat → Int32} {t_rows : Int32} {u_cells : Nat → Int32} {u_sixties : Nat → Int32} {u_rows : Int32} {p2 : Int32} {res : ((Nat → Int32) × (Nat → Int32) × Int32)} (hnd : ([to, t_cells_a, t_sixties_a, uo, u_cells_a, u_sixties_a] : List Nat).Nodup) (hm : mX3_take t_cells t_sixties t_rows u_cells u_rows p2 = some res) : Met l yX3_take wsX3_take rmX3_take (va_Pc [.ref to, .ref uo, .int p2] (kW D cI cT [(to, .inr (1, [.ref t_cells_a, .ref t_sixties_a, .int t_rows])), (t_cells_a, .inl (cI, 24, .inl t_cells)), (t_sixties_a, .inl (cI, 24, .inl t_sixties)), (uo, .inr (1, [.ref u_cells_a, .ref u_sixties_a, .int u_rows])), (u_cells_a, .inl (cI, 24, .inl u_cells)), (u_sixties_a, .inl (cI, 24, .inl u_sixties))] none (fun q => q ∈ ([to, t_cells_a, t_sixties_a, uo, u_cells_a, u_sixties_a] : List Nat)))) (kX none D [(to, .inr (1, [.ref t_cells_a, .ref t_sixties_a, .int res.2.2])), (t_cells_a, .inl (cI, 24, .inl res.1)), (t_sixties_a, .inl (cI, 24, .inl res.2.1)), (uo, .inr (1, [.ref u_cells_a, .ref u_sixties_a, .int u_rows])), (u_cells_a, .inl (cI, 24, .inl u_cells)), (u_sixties_a, .inl (cI, 24, .inl u_sixties))] (fun q => q ∈ ([to, t_cells_a, t_sixties_a, uo, u_cells_a, u_sixties_a] : List Nat))) 0 0 (fun q => q ∈ ([to, t_cells_a, t_sixties_a, uo, u_cells_a, u_sixties_a] : List Nat)) :=
  km (by decide) rfl (Nat.le_of_ble_eq_true rfl) (fun p e s m below meth c ls C hB hl => bX3_take C p2 hB.1 hnd t_cells t_sixties t_rows u_cells u_sixties u_rows res (fun t_cells1 t_sixties1 t_rows1 H locs pc ls h hP hS hd => by obtain rfl := Option.some.inj h; exact kx_v C hP hS hd) hm s.heap [] hB.2.1 va_S.rf ls hl)
end
section
theorem wm_X0_begin_0 : Cond.fieldLink RX0 33 "SixtyTablet$Search" "kind" "I" ∈ wsX0_begin := by decide +kernel
theorem wm_X0_begin_1 : Cond.fieldLink RX0 36 "SixtyTablet$Search" "n" "I" ∈ wsX0_begin := by decide +kernel
theorem wm_X0_begin_2 : Cond.fieldLink RX0 39 "SixtyTablet$Search" "first" "I" ∈ wsX0_begin := by decide +kernel
theorem wm_X0_begin_3 : Cond.fieldLink RX0 28 "SixtyTablet$Search" "rows" "I" ∈ wsX0_begin := by decide +kernel
theorem wm_X0_begin_4 : Cond.fieldLink RX0 24 "SixtyTablet$Search" "heldCount" "I" ∈ wsX0_begin := by decide +kernel
theorem wm_X0_begin_5 : Cond.fieldLink RX0 9 "SixtyTablet$Search" "heldRows" "[I" ∈ wsX0_begin := by decide +kernel
theorem wm_X0_begin_6 : Cond.fieldLink RX0 15 "SixtyTablet$Search" "heldColumns" "[I" ∈ wsX0_begin := by decide +kernel
theorem wm_X0_begin_7 : Cond.fieldLink RX0 18 "SixtyTablet$Search" "heldSixties" "[I" ∈ wsX0_begin := by decide +kernel
theorem wi_X0_begin_X0 : ∀ w ∈ wsX00, w ∈ wsX0_begin := by decide +kernel
theorem kdvX0_begin : yX0_begin.cls = RX0 ∧ yX0_begin.cls ≠ "java/lang/invoke/MethodHandle" ∧ yX0_begin.cls ≠ "java/lang/invoke/VarHandle" ∧ (parseMethodDescriptor yX0_begin.desc).map (fun d => d.parameters.length) = some 1 := by decide +kernel
abbrev rmX0_begin : Room := { frames := 1, cells := 0, slots := 0, locals := 23 }
def mlX0_begin_30 (s_rows : Int32) (t_cells : Nat → Int32) (t_sixties : Nat → Int32) (kE : (Nat → Int32) → (Nat → Int32) → (Nat → Int32) → Int32 → Option ((Nat → Int32) × (Nat → Int32) × (Nat → Int32) × Int32 × Int32 × Int32 × Int32 × Int32)) : Nat → Int32 → (Nat → Int32) → (Nat → Int32) → (Nat → Int32) → Int32 → Option ((Nat → Int32) × (Nat → Int32) × (Nat → Int32) × Int32 × Int32 × Int32 × Int32 × Int32)
  | 0, _, _, _, _, _ => none
  | n + 1, x2, s_heldRows, s_heldColumns, s_heldSixties, s_heldCount => (if (s_rows * (3 : Int32)) ≤ x2 then (kE s_heldRows s_heldColumns s_heldSixties s_heldCount) else (if (24 : Int32) ≤ x2 then (kE s_heldRows s_heldColumns s_heldSixties s_heldCount) else (md_let (x2 / (3 : Int32)) (fun (x3_4 : Int32) => (md_let (x2 - x2 / (3 : Int32) * (3 : Int32)) (fun (x4_5 : Int32) => (Option.bind (mX3_held t_cells x3_4 x4_5) (fun u6 => (md_jn (fun (s_heldRows_128 : Nat → Int32) (s_heldColumns_128 : Nat → Int32) (s_heldSixties_128 : Nat → Int32) (s_heldCount_128 : Int32) => (md_let (x2 + (1 : Int32)) (fun (x2_7 : Int32) => (mlX0_begin_30 s_rows t_cells t_sixties kE n x2_7 s_heldRows_128 s_heldColumns_128 s_heldSixties_128 s_heldCount_128)))) (fun kJ128 => (if u6 = 0 then (kJ128 s_heldRows s_heldColumns s_heldSixties s_heldCount) else (if s_heldCount < 0 then (kJ128 s_heldRows s_heldColumns s_heldSixties s_heldCount) else (if (24 : Int32) ≤ s_heldCount then (kJ128 s_heldRows s_heldColumns s_heldSixties s_heldCount) else (if s_heldCount < 0 ∨ 24 ≤ (Int32.toNatClampNeg s_heldCount) then none else (md_let (upd s_heldRows (Int32.toNatClampNeg s_heldCount) x3_4) (fun (s_heldRows_11 : Nat → Int32) => (if s_heldCount < 0 ∨ 24 ≤ (Int32.toNatClampNeg s_heldCount) then none else (md_let (upd s_heldColumns (Int32.toNatClampNeg s_heldCount) x4_5) (fun (s_heldColumns_12 : Nat → Int32) => (Option.bind (mX3_heldSixty t_sixties x3_4 x4_5) (fun u13 => (if s_heldCount < 0 ∨ 24 ≤ (Int32.toNatClampNeg s_heldCount) then none else (md_let (upd s_heldSixties (Int32.toNatClampNeg s_heldCount) u13) (fun (s_heldSixties_14 : Nat → Int32) => (md_let (s_heldCount + (1 : Int32)) (fun (f_15 : Int32) => (kJ128 s_heldRows_11 s_heldColumns_12 s_heldSixties_14 f_15)))))))))))))))))))))))))))
set_option maxHeartbeats 4000000 in
set_option maxRecDepth 100000 in
theorem lX0_begin_30 {p : Program} {l : Launch} {e : Env} {s : State} {m : MethodId} {args : Array Value} {below : List Frame} {meth : Method} {c : Code} {Q : State → Prop} (C : kc p s m args meth c cX0_begin 5 RX0 yX0_begin.name wsX0_begin none) {D : va_G} {cI cT : ClassId} {so s_heldRows_a s_heldColumns_a s_heldSixties_a s_certain_a to t_cells_a t_sixties_a : Nat} (hK : va_K D vwCl (kTy cI cT) s) (hnd : ([so, s_heldRows_a, s_heldColumns_a, s_heldSixties_a, s_certain_a, to, t_cells_a, t_sixties_a] : List Nat).Nodup) (s_certain : Nat → Int32) (s_rows : Int32) (s_kind : Int32) (s_n : Int32) (s_first : Int32) (t_cells : Nat → Int32) (t_sixties : Nat → Int32) (t_rows : Int32) (res : ((Nat → Int32) × (Nat → Int32) × (Nat → Int32) × Int32 × Int32 × Int32 × Int32 × Int32)) (hQ : ∀ (s_heldRows : Nat → Int32) (s_heldColumns : Nat → Int32) (s_heldSixties : Nat → Int32) (s_heldCount : Int32) (s_rows : Int32) (s_kind : Int32) (s_n : Int32) (s_first : Int32) (H : Heap) (locs : List Loc) (pc : Nat) (ls : Array Slot), some (s_heldRows, s_heldColumns, s_heldSixties, s_heldCount, s_rows, s_kind, s_n, s_first) = some res → va_P D vwCl [(so, .inr (0, [.ref s_heldRows_a, .ref s_heldColumns_a, .ref s_heldSixties_a, .ref s_certain_a, .int s_heldCount, .int s_rows, .int s_kind, .int s_n, .int s_first])), (s_heldRows_a, .inl (cI, 24, .inl s_heldRows)), (s_heldColumns_a, .inl (cI, 24, .inl s_heldColumns)), (s_heldSixties_a, .inl (cI, 24, .inl s_heldSixties)), (s_certain_a, .inl (cI, 24, .inl s_certain)), (to, .inr (1, [.ref t_cells_a, .ref t_sixties_a, .int t_rows])), (t_cells_a, .inl (cI, 24, .inl t_cells)), (t_sixties_a, .inl (cI, 24, .inl t_sixties))] H → va_S (fun q => q ∈ ([so, s_heldRows_a, s_heldColumns_a, s_heldSixties_a, s_certain_a, to, t_cells_a, t_sixties_a] : List Nat)) s.heap H locs → decode cX0_begin pc = .ok (.return_, 1) → W p l e rmX0_begin s m args below meth c H locs 0 0 Q (F0 m pc ls [])) (kE : (Nat → Int32) → (Nat → Int32) → (Nat → Int32) → Int32 → Option ((Nat → Int32) × (Nat → Int32) × (Nat → Int32) × Int32 × Int32 × Int32 × Int32 × Int32)) (hE : ∀ (s_heldRows : Nat → Int32) (s_heldColumns : Nat → Int32) (s_heldSixties : Nat → Int32) (s_heldCount : Int32), kE s_heldRows s_heldColumns s_heldSixties s_heldCount = some res → ∀ (H : Heap) (locs : List Loc), va_P D vwCl [(so, .inr (0, [.ref s_heldRows_a, .ref s_heldColumns_a, .ref s_heldSixties_a, .ref s_certain_a, .int s_heldCount, .int s_rows, .int s_kind, .int s_n, .int s_first])), (s_heldRows_a, .inl (cI, 24, .inl s_heldRows)), (s_heldColumns_a, .inl (cI, 24, .inl s_heldColumns)), (s_heldSixties_a, .inl (cI, 24, .inl s_heldSixties)), (s_certain_a, .inl (cI, 24, .inl s_certain)), (to, .inr (1, [.ref t_cells_a, .ref t_sixties_a, .int t_rows])), (t_cells_a, .inl (cI, 24, .inl t_cells)), (t_sixties_a, .inl (cI, 24, .inl t_sixties))] H → va_S (fun q => q ∈ ([so, s_heldRows_a, s_heldColumns_a, s_heldSixties_a, s_certain_a, to, t_cells_a, t_sixties_a] : List Nat)) s.heap H locs → ∀ (ls : Array Slot), lv_has ls 5 [] → W p l e rmX0_begin s m args below meth c H locs 0 0 Q (F0 m 134 ls [])) : ∀ (n : Nat), ∀ (x2 : Int32) (s_heldRows : Nat → Int32) (s_heldColumns : Nat → Int32) (s_heldSixties : Nat → Int32) (s_heldCount : Int32), mlX0_begin_30 s_rows t_cells t_sixties kE n x2 s_heldRows s_heldColumns s_heldSixties s_heldCount = some res → ∀ (H : Heap) (locs : List Loc), va_P D vwCl [(so, .inr (0, [.ref s_heldRows_a, .ref s_heldColumns_a, .ref s_heldSixties_a, .ref s_certain_a, .int s_heldCount, .int s_rows, .int s_kind, .int s_n, .int s_first])), (s_heldRows_a, .inl (cI, 24, .inl s_heldRows)), (s_heldColumns_a, .inl (cI, 24, .inl s_heldColumns)), (s_heldSixties_a, .inl (cI, 24, .inl s_heldSixties)), (s_certain_a, .inl (cI, 24, .inl s_certain)), (to, .inr (1, [.ref t_cells_a, .ref t_sixties_a, .int t_rows])), (t_cells_a, .inl (cI, 24, .inl t_cells)), (t_sixties_a, .inl (cI, 24, .inl t_sixties))] H → va_S (fun q => q ∈ ([so, s_heldRows_a, s_heldColumns_a, s_heldSixties_a, s_certain_a, to, t_cells_a, t_sixties_a] : List Nat)) s.heap H locs → ∀ (ls : Array Slot), lv_has ls 5 [(0, .ref so), (1, .ref to), (2, .int x2)] → W p l e rmX0_begin s m args below meth c H locs 0 0 Q (F0 m 30 ls []) := by
  have C0 := C
  obtain ⟨hx, hb, hml, hown, hts, hr, hlk, hnm⟩ := C0
  intro n
  induction n with
  | zero => intro _ _ _ _ _ h; exact md_x h
  | succ n ih =>
    intro x2 s_heldRows s_heldColumns s_heldSixties s_heldCount h H locs hP hS ls hl
    rw [mlX0_begin_30] at h
    refine lv_iload_n hx hb dX0_begin_30 rfl (lv_at hl 2 rfl) ?_
    refine lv_aload_n hx hb dX0_begin_31 rfl (lv_at hl 0 rfl) ?_
    refine va_get (D := D) (ci := 0) (v := .int s_rows) (C := RX0) (T := TX0) (N := 9) hx hb hts wi_X0_begin_X0 hown hK hP 0 rfl rfl 5 (by decide) (hts _ wm_X0_begin_3) (fun _ h9 => h9) rfl dX0_begin_32 ?_
    refine lv_iconst (v := 3) hx hb dX0_begin_35 (by decide) ?_
    refine lv_imul hx hb dX0_begin_36 ?_
    refine lv_icmp_ge (tgt := 134) hx hb dX0_begin_37 (by decide) (fun c2 => ?_) (fun c2 => ?_)
    · replace h := md_t c2 h
      exact hE s_heldRows s_heldColumns s_heldSixties s_heldCount h _ _ hP hS ls (lv_sub hl [] rfl)
    replace h := md_f c2 h
    refine lv_iload_n hx hb dX0_begin_40 rfl (lv_at hl 2 rfl) ?_
    refine lv_bipush (v := 24) hx hb dX0_begin_41 (by decide) ?_
    refine lv_icmp_ge (tgt := 134) hx hb dX0_begin_43 (by decide) (fun c3 => ?_) (fun c3 => ?_)
    · replace h := md_t c3 h
      exact hE s_heldRows s_heldColumns s_heldSixties s_heldCount h _ _ hP hS ls (lv_sub hl [] rfl)
    replace h := md_f c3 h
    refine lv_iload_n hx hb dX0_begin_46 rfl (lv_at hl 2 rfl) ?_
    refine lv_iconst (v := 3) hx hb dX0_begin_47 (by decide) ?_
    refine lv_idiv hx hb dX0_begin_48 (by decide) ?_
    refine lv_topi (fun x3_4 ex3_4 => ?_)
    replace h := md_le ex3_4 h
    refine lv_istore_n (lv' := [(3, .int x3_4), (0, .ref so), (1, .ref to), (2, .int x2)]) hx hb dX0_begin_49 rfl hl (by decide) rfl (fun ls hl => ?_)
    refine lv_iload_n hx hb dX0_begin_50 rfl (lv_at hl 3 rfl) ?_
    refine lv_iconst (v := 3) hx hb dX0_begin_51 (by decide) ?_
    refine lv_irem hx hb dX0_begin_52 (by decide) ?_
    refine lv_topi (fun x4_5 ex4_5 => ?_)
    replace h := md_le ex4_5 h
    refine lv_istore (lv' := [(4, .int x4_5), (3, .int x3_4), (0, .ref so), (1, .ref to), (2, .int x2)]) hx hb dX0_begin_53 hl (by decide) rfl (fun ls hl => ?_)
    refine lv_aload_n hx hb dX0_begin_55 rfl (lv_at hl 3 rfl) ?_
    refine lv_iload_n hx hb dX0_begin_56 rfl (lv_at hl 1 rfl) ?_
    refine lv_iload hx hb dX0_begin_57 (lv_at hl 0 rfl) ?_
    obtain ⟨u6, hu6, h⟩ := md_b h
    refine kV C (ctX3_held l  hu6) gX0_begin_X3_held rfl kdvX3_held ⟨rfl, rfl⟩ ⟨by decide, by decide⟩ kW_blind (va_recv hK hP (ci := 1) (q0 := 5) rfl rfl) (kW_use hK (hP.sub (ws' := [(to, .inr (1, [.ref t_cells_a, .ref t_sixties_a, .int t_rows])), (t_cells_a, .inl (cI, 24, .inl t_cells)), (t_sixties_a, .inl (cI, 24, .inl t_sixties))]) [5, 6, 7] rfl) kL_no) rfl hl [] rfl (Nat.le_of_ble_eq_true rfl) dX0_begin_59 ⟨by decide, by decide⟩ ?_
    obtain ⟨kJ128, ekJ128, h⟩ := md_jo h
    have KJ128 : ∀ (s_heldRows_128 : Nat → Int32) (s_heldColumns_128 : Nat → Int32) (s_heldSixties_128 : Nat → Int32) (s_heldCount_128 : Int32), kJ128 s_heldRows_128 s_heldColumns_128 s_heldSixties_128 s_heldCount_128 = some res → ∀ (H : Heap) (locs : List Loc), va_P D vwCl [(so, .inr (0, [.ref s_heldRows_a, .ref s_heldColumns_a, .ref s_heldSixties_a, .ref s_certain_a, .int s_heldCount_128, .int s_rows, .int s_kind, .int s_n, .int s_first])), (s_heldRows_a, .inl (cI, 24, .inl s_heldRows_128)), (s_heldColumns_a, .inl (cI, 24, .inl s_heldColumns_128)), (s_heldSixties_a, .inl (cI, 24, .inl s_heldSixties_128)), (s_certain_a, .inl (cI, 24, .inl s_certain)), (to, .inr (1, [.ref t_cells_a, .ref t_sixties_a, .int t_rows])), (t_cells_a, .inl (cI, 24, .inl t_cells)), (t_sixties_a, .inl (cI, 24, .inl t_sixties))] H → va_S (fun q => q ∈ ([so, s_heldRows_a, s_heldColumns_a, s_heldSixties_a, s_certain_a, to, t_cells_a, t_sixties_a] : List Nat)) s.heap H locs → ∀ (ls : Array Slot), lv_has ls 5 [(0, .ref so), (1, .ref to), (2, .int x2)] → W p l e rmX0_begin s m args below meth c H locs 0 0 Q (F0 m 128 ls []) := by
      intro s_heldRows_128 s_heldColumns_128 s_heldSixties_128 s_heldCount_128 h H locs hP hS ls hl
      rw [ekJ128] at h
      obtain ⟨x2_7, ex2_7⟩ : ∃ y : Int32, y = (x2 + (1 : Int32)) := ⟨_, rfl⟩
      replace h := md_le ex2_7 h
      refine lv_iinc (v := x2_7) (lv' := [(2, .int x2_7), (0, .ref so), (1, .ref to)]) hx hb dX0_begin_128 hl (k := 2) rfl (by rw [ex2_7]; rfl) (by decide) rfl (fun ls hl => ?_)
      refine lv_goto (tgt := 30) hx hb dX0_begin_131 (by decide) ?_
      exact ih x2_7 s_heldRows_128 s_heldColumns_128 s_heldSixties_128 s_heldCount_128 h _ _ hP hS ls (lv_sub hl [1, 2, 0] rfl)
    clear ekJ128
    refine lv_if_eq (tgt := 128) hx hb dX0_begin_62 (by decide) (fun c8 => ?_) (fun c8 => ?_)
    · replace h := md_t c8 h
      exact KJ128 s_heldRows s_heldColumns s_heldSixties s_heldCount h _ _ hP hS ls (lv_sub hl [2, 3, 4] rfl)
    replace h := md_f c8 h
    refine lv_aload_n hx hb dX0_begin_65 rfl (lv_at hl 2 rfl) ?_
    refine va_get (D := D) (ci := 0) (v := .int s_heldCount) (C := RX0) (T := TX0) (N := 9) hx hb hts wi_X0_begin_X0 hown hK hP 0 rfl rfl 4 (by decide) (hts _ wm_X0_begin_4) (fun _ h9 => h9) rfl dX0_begin_66 ?_
    refine lv_if_lt (tgt := 128) hx hb dX0_begin_69 (by decide) (fun c9 => ?_) (fun c9 => ?_)
    · replace h := md_t c9 h
      exact KJ128 s_heldRows s_heldColumns s_heldSixties s_heldCount h _ _ hP hS ls (lv_sub hl [2, 3, 4] rfl)
    replace h := md_f c9 h
    refine lv_aload_n hx hb dX0_begin_72 rfl (lv_at hl 2 rfl) ?_
    refine va_get (D := D) (ci := 0) (v := .int s_heldCount) (C := RX0) (T := TX0) (N := 9) hx hb hts wi_X0_begin_X0 hown hK hP 0 rfl rfl 4 (by decide) (hts _ wm_X0_begin_4) (fun _ h9 => h9) rfl dX0_begin_73 ?_
    refine lv_bipush (v := 24) hx hb dX0_begin_76 (by decide) ?_
    refine lv_icmp_ge (tgt := 128) hx hb dX0_begin_78 (by decide) (fun c10 => ?_) (fun c10 => ?_)
    · replace h := md_t c10 h
      exact KJ128 s_heldRows s_heldColumns s_heldSixties s_heldCount h _ _ hP hS ls (lv_sub hl [2, 3, 4] rfl)
    replace h := md_f c10 h
    refine lv_aload_n hx hb dX0_begin_81 rfl (lv_at hl 2 rfl) ?_
    refine va_get (D := D) (ci := 0) (v := .ref s_heldRows_a) (C := RX0) (T := TX0) (N := 9) hx hb hts wi_X0_begin_X0 hown hK hP 0 rfl rfl 0 (by decide) (hts _ wm_X0_begin_5) (fun _ h9 => h9) rfl dX0_begin_82 ?_
    refine lv_aload_n hx hb dX0_begin_85 rfl (lv_at hl 2 rfl) ?_
    refine va_get (D := D) (ci := 0) (v := .int s_heldCount) (C := RX0) (T := TX0) (N := 9) hx hb hts wi_X0_begin_X0 hown hK hP 0 rfl rfl 4 (by decide) (hts _ wm_X0_begin_4) (fun _ h9 => h9) rfl dX0_begin_86 ?_
    refine lv_iload_n hx hb dX0_begin_89 rfl (lv_at hl 1 rfl) ?_
    obtain ⟨hin11, h⟩ := md_g h
    refine va_iast hx hb hK hP (kD hnd rfl) hS 1 0 rfl rfl hin11 dX0_begin_90 (fun H locs hP _ hS => ?_)
    have hP : va_P D vwCl [(so, .inr (0, [.ref s_heldRows_a, .ref s_heldColumns_a, .ref s_heldSixties_a, .ref s_certain_a, .int s_heldCount, .int s_rows, .int s_kind, .int s_n, .int s_first])), (s_heldRows_a, .inl (cI, 24, .inl (upd s_heldRows (Int32.toNatClampNeg s_heldCount) x3_4))), (s_heldColumns_a, .inl (cI, 24, .inl s_heldColumns)), (s_heldSixties_a, .inl (cI, 24, .inl s_heldSixties)), (s_certain_a, .inl (cI, 24, .inl s_certain)), (to, .inr (1, [.ref t_cells_a, .ref t_sixties_a, .int t_rows])), (t_cells_a, .inl (cI, 24, .inl t_cells)), (t_sixties_a, .inl (cI, 24, .inl t_sixties))] H := hP
    obtain ⟨s_heldRows_11, es_heldRows_11⟩ : ∃ y : Nat → Int32, y = (upd s_heldRows (Int32.toNatClampNeg s_heldCount) x3_4) := ⟨_, rfl⟩
    replace h := md_le es_heldRows_11 h
    rw [← es_heldRows_11] at hP
    refine lv_aload_n hx hb dX0_begin_91 rfl (lv_at hl 2 rfl) ?_
    refine va_get (D := D) (ci := 0) (v := .ref s_heldColumns_a) (C := RX0) (T := TX0) (N := 9) hx hb hts wi_X0_begin_X0 hown hK hP 0 rfl rfl 1 (by decide) (hts _ wm_X0_begin_6) (fun _ h9 => h9) rfl dX0_begin_92 ?_
    refine lv_aload_n hx hb dX0_begin_95 rfl (lv_at hl 2 rfl) ?_
    refine va_get (D := D) (ci := 0) (v := .int s_heldCount) (C := RX0) (T := TX0) (N := 9) hx hb hts wi_X0_begin_X0 hown hK hP 0 rfl rfl 4 (by decide) (hts _ wm_X0_begin_4) (fun _ h9 => h9) rfl dX0_begin_96 ?_
    refine lv_iload hx hb dX0_begin_99 (lv_at hl 0 rfl) ?_
    obtain ⟨hin12, h⟩ := md_g h
    refine va_iast hx hb hK hP (kD hnd rfl) hS 2 0 rfl rfl hin12 dX0_begin_101 (fun H locs hP _ hS => ?_)
    have hP : va_P D vwCl [(so, .inr (0, [.ref s_heldRows_a, .ref s_heldColumns_a, .ref s_heldSixties_a, .ref s_certain_a, .int s_heldCount, .int s_rows, .int s_kind, .int s_n, .int s_first])), (s_heldRows_a, .inl (cI, 24, .inl s_heldRows_11)), (s_heldColumns_a, .inl (cI, 24, .inl (upd s_heldColumns (Int32.toNatClampNeg s_heldCount) x4_5))), (s_heldSixties_a, .inl (cI, 24, .inl s_heldSixties)), (s_certain_a, .inl (cI, 24, .inl s_certain)), (to, .inr (1, [.ref t_cells_a, .ref t_sixties_a, .int t_rows])), (t_cells_a, .inl (cI, 24, .inl t_cells)), (t_sixties_a, .inl (cI, 24, .inl t_sixties))] H := hP
    obtain ⟨s_heldColumns_12, es_heldColumns_12⟩ : ∃ y : Nat → Int32, y = (upd s_heldColumns (Int32.toNatClampNeg s_heldCount) x4_5) := ⟨_, rfl⟩
    replace h := md_le es_heldColumns_12 h
    rw [← es_heldColumns_12] at hP
    refine lv_aload_n hx hb dX0_begin_102 rfl (lv_at hl 2 rfl) ?_
    refine va_get (D := D) (ci := 0) (v := .ref s_heldSixties_a) (C := RX0) (T := TX0) (N := 9) hx hb hts wi_X0_begin_X0 hown hK hP 0 rfl rfl 2 (by decide) (hts _ wm_X0_begin_7) (fun _ h9 => h9) rfl dX0_begin_103 ?_
    refine lv_aload_n hx hb dX0_begin_106 rfl (lv_at hl 2 rfl) ?_
    refine va_get (D := D) (ci := 0) (v := .int s_heldCount) (C := RX0) (T := TX0) (N := 9) hx hb hts wi_X0_begin_X0 hown hK hP 0 rfl rfl 4 (by decide) (hts _ wm_X0_begin_4) (fun _ h9 => h9) rfl dX0_begin_107 ?_
    refine lv_aload_n hx hb dX0_begin_110 rfl (lv_at hl 3 rfl) ?_
    refine lv_iload_n hx hb dX0_begin_111 rfl (lv_at hl 1 rfl) ?_
    refine lv_iload hx hb dX0_begin_112 (lv_at hl 0 rfl) ?_
    obtain ⟨u13, hu13, h⟩ := md_b h
    refine kV C (ctX3_heldSixty l  hu13) gX0_begin_X3_heldSixty rfl kdvX3_heldSixty ⟨rfl, rfl⟩ ⟨by decide, by decide⟩ kW_blind (va_recv hK hP (ci := 1) (q0 := 5) rfl rfl) (kW_use hK (hP.sub (ws' := [(to, .inr (1, [.ref t_cells_a, .ref t_sixties_a, .int t_rows])), (t_cells_a, .inl (cI, 24, .inl t_cells)), (t_sixties_a, .inl (cI, 24, .inl t_sixties))]) [5, 6, 7] rfl) kL_no) rfl hl [.int s_heldCount, .ref s_heldSixties_a] rfl (Nat.le_of_ble_eq_true rfl) dX0_begin_114 ⟨by decide, by decide⟩ ?_
    obtain ⟨hin14, h⟩ := md_g h
    refine va_iast hx hb hK hP (kD hnd rfl) hS 3 0 rfl rfl hin14 dX0_begin_117 (fun H locs hP _ hS => ?_)
    have hP : va_P D vwCl [(so, .inr (0, [.ref s_heldRows_a, .ref s_heldColumns_a, .ref s_heldSixties_a, .ref s_certain_a, .int s_heldCount, .int s_rows, .int s_kind, .int s_n, .int s_first])), (s_heldRows_a, .inl (cI, 24, .inl s_heldRows_11)), (s_heldColumns_a, .inl (cI, 24, .inl s_heldColumns_12)), (s_heldSixties_a, .inl (cI, 24, .inl (upd s_heldSixties (Int32.toNatClampNeg s_heldCount) u13))), (s_certain_a, .inl (cI, 24, .inl s_certain)), (to, .inr (1, [.ref t_cells_a, .ref t_sixties_a, .int t_rows])), (t_cells_a, .inl (cI, 24, .inl t_cells)), (t_sixties_a, .inl (cI, 24, .inl t_sixties))] H := hP
    obtain ⟨s_heldSixties_14, es_heldSixties_14⟩ : ∃ y : Nat → Int32, y = (upd s_heldSixties (Int32.toNatClampNeg s_heldCount) u13) := ⟨_, rfl⟩
    replace h := md_le es_heldSixties_14 h
    rw [← es_heldSixties_14] at hP
    refine lv_aload_n hx hb dX0_begin_118 rfl (lv_at hl 2 rfl) ?_
    refine lv_dup hx hb dX0_begin_119 rfl ?_
    refine va_get (D := D) (ci := 0) (v := .int s_heldCount) (C := RX0) (T := TX0) (N := 9) hx hb hts wi_X0_begin_X0 hown hK hP 0 rfl rfl 4 (by decide) (hts _ wm_X0_begin_4) (fun _ h9 => h9) rfl dX0_begin_120 ?_
    refine lv_iconst (v := 1) hx hb dX0_begin_123 (by decide) ?_
    refine lv_iadd hx hb dX0_begin_124 ?_
    refine lv_topi (fun f_15 ef_15 => ?_)
    replace h := md_le ef_15 h
    refine va_put (D := D) (ci := 0) (v := .int f_15) (ty := .int) (C := RX0) (T := TX0) (N := 9) hx hb hts wi_X0_begin_X0 tyX0 tyX0_ok nmX0 hown hK hP (kD hnd rfl) hS 0 rfl rfl 4 (by decide) (hts _ wm_X0_begin_4) (fun _ h9 => h9) rfl (by decide +kernel) rfl rfl (Nat.le_of_ble_eq_true rfl) dX0_begin_125 (fun H locs hP _ hS => ?_)
    have hP : va_P D vwCl [(so, .inr (0, [.ref s_heldRows_a, .ref s_heldColumns_a, .ref s_heldSixties_a, .ref s_certain_a, .int f_15, .int s_rows, .int s_kind, .int s_n, .int s_first])), (s_heldRows_a, .inl (cI, 24, .inl s_heldRows_11)), (s_heldColumns_a, .inl (cI, 24, .inl s_heldColumns_12)), (s_heldSixties_a, .inl (cI, 24, .inl s_heldSixties_14)), (s_certain_a, .inl (cI, 24, .inl s_certain)), (to, .inr (1, [.ref t_cells_a, .ref t_sixties_a, .int t_rows])), (t_cells_a, .inl (cI, 24, .inl t_cells)), (t_sixties_a, .inl (cI, 24, .inl t_sixties))] H := hP
    exact KJ128 s_heldRows_11 s_heldColumns_12 s_heldSixties_14 f_15 h _ _ hP hS ls (lv_sub hl [2, 3, 4] rfl)
def mX0_begin (s_heldRows : Nat → Int32) (s_heldColumns : Nat → Int32) (s_heldSixties : Nat → Int32) (t_cells : Nat → Int32) (t_sixties : Nat → Int32) (t_rows : Int32) : Option ((Nat → Int32) × (Nat → Int32) × (Nat → Int32) × Int32 × Int32 × Int32 × Int32 × Int32) := (Option.bind (mX3_rowCount t_rows) (fun u1 => (mlX0_begin_30 u1 t_cells t_sixties (fun (s_heldRows_134 : Nat → Int32) (s_heldColumns_134 : Nat → Int32) (s_heldSixties_134 : Nat → Int32) (s_heldCount_134 : Int32) => (some (s_heldRows_134, s_heldColumns_134, s_heldSixties_134, s_heldCount_134, u1, (0 : Int32), (1 : Int32), (-1 : Int32)))) kN (0 : Int32) s_heldRows s_heldColumns s_heldSixties (0 : Int32))))
set_option maxHeartbeats 4000000 in
set_option maxRecDepth 100000 in
theorem bX0_begin {p : Program} {l : Launch} {e : Env} {s : State} {m : MethodId} {args : Array Value} {below : List Frame} {meth : Method} {c : Code} {Q : State → Prop} (C : kc p s m args meth c cX0_begin 5 RX0 yX0_begin.name wsX0_begin none) {D : va_G} {cI cT : ClassId} {so s_heldRows_a s_heldColumns_a s_heldSixties_a s_certain_a to t_cells_a t_sixties_a : Nat} (hK : va_K D vwCl (kTy cI cT) s) (hnd : ([so, s_heldRows_a, s_heldColumns_a, s_heldSixties_a, s_certain_a, to, t_cells_a, t_sixties_a] : List Nat).Nodup) (s_heldRows : Nat → Int32) (s_heldColumns : Nat → Int32) (s_heldSixties : Nat → Int32) (s_certain : Nat → Int32) (s_heldCount : Int32) (s_rows : Int32) (s_kind : Int32) (s_n : Int32) (s_first : Int32) (t_cells : Nat → Int32) (t_sixties : Nat → Int32) (t_rows : Int32) (res : ((Nat → Int32) × (Nat → Int32) × (Nat → Int32) × Int32 × Int32 × Int32 × Int32 × Int32)) (hQ : ∀ (s_heldRows : Nat → Int32) (s_heldColumns : Nat → Int32) (s_heldSixties : Nat → Int32) (s_heldCount : Int32) (s_rows : Int32) (s_kind : Int32) (s_n : Int32) (s_first : Int32) (H : Heap) (locs : List Loc) (pc : Nat) (ls : Array Slot), some (s_heldRows, s_heldColumns, s_heldSixties, s_heldCount, s_rows, s_kind, s_n, s_first) = some res → va_P D vwCl [(so, .inr (0, [.ref s_heldRows_a, .ref s_heldColumns_a, .ref s_heldSixties_a, .ref s_certain_a, .int s_heldCount, .int s_rows, .int s_kind, .int s_n, .int s_first])), (s_heldRows_a, .inl (cI, 24, .inl s_heldRows)), (s_heldColumns_a, .inl (cI, 24, .inl s_heldColumns)), (s_heldSixties_a, .inl (cI, 24, .inl s_heldSixties)), (s_certain_a, .inl (cI, 24, .inl s_certain)), (to, .inr (1, [.ref t_cells_a, .ref t_sixties_a, .int t_rows])), (t_cells_a, .inl (cI, 24, .inl t_cells)), (t_sixties_a, .inl (cI, 24, .inl t_sixties))] H → va_S (fun q => q ∈ ([so, s_heldRows_a, s_heldColumns_a, s_heldSixties_a, s_certain_a, to, t_cells_a, t_sixties_a] : List Nat)) s.heap H locs → decode cX0_begin pc = .ok (.return_, 1) → W p l e rmX0_begin s m args below meth c H locs 0 0 Q (F0 m pc ls [])) : mX0_begin s_heldRows s_heldColumns s_heldSixties t_cells t_sixties t_rows = some res → ∀ (H : Heap) (locs : List Loc), va_P D vwCl [(so, .inr (0, [.ref s_heldRows_a, .ref s_heldColumns_a, .ref s_heldSixties_a, .ref s_certain_a, .int s_heldCount, .int s_rows, .int s_kind, .int s_n, .int s_first])), (s_heldRows_a, .inl (cI, 24, .inl s_heldRows)), (s_heldColumns_a, .inl (cI, 24, .inl s_heldColumns)), (s_heldSixties_a, .inl (cI, 24, .inl s_heldSixties)), (s_certain_a, .inl (cI, 24, .inl s_certain)), (to, .inr (1, [.ref t_cells_a, .ref t_sixties_a, .int t_rows])), (t_cells_a, .inl (cI, 24, .inl t_cells)), (t_sixties_a, .inl (cI, 24, .inl t_sixties))] H → va_S (fun q => q ∈ ([so, s_heldRows_a, s_heldColumns_a, s_heldSixties_a, s_certain_a, to, t_cells_a, t_sixties_a] : List Nat)) s.heap H locs → ∀ (ls : Array Slot), lv_has ls 5 [(0, .ref so), (1, .ref to)] → W p l e rmX0_begin s m args below meth c H locs 0 0 Q (F0 m 0 ls []) := by
  intro h H locs hP hS ls hl
  have C0 := C
  obtain ⟨hx, hb, hml, hown, hts, hr, hlk, hnm⟩ := C0
  rw [mX0_begin] at h
  refine lv_aload_n hx hb dX0_begin_0 rfl (lv_at hl 0 rfl) ?_
  refine lv_iconst (v := 0) hx hb dX0_begin_1 (by decide) ?_
  refine va_put (D := D) (ci := 0) (v := .int (0 : Int32)) (ty := .int) (C := RX0) (T := TX0) (N := 9) hx hb hts wi_X0_begin_X0 tyX0 tyX0_ok nmX0 hown hK hP (kD hnd rfl) hS 0 rfl rfl 6 (by decide) (hts _ wm_X0_begin_0) (fun _ h9 => h9) rfl (by decide +kernel) rfl rfl (Nat.le_of_ble_eq_true rfl) dX0_begin_2 (fun H locs hP _ hS => ?_)
  have hP : va_P D vwCl [(so, .inr (0, [.ref s_heldRows_a, .ref s_heldColumns_a, .ref s_heldSixties_a, .ref s_certain_a, .int s_heldCount, .int s_rows, .int (0 : Int32), .int s_n, .int s_first])), (s_heldRows_a, .inl (cI, 24, .inl s_heldRows)), (s_heldColumns_a, .inl (cI, 24, .inl s_heldColumns)), (s_heldSixties_a, .inl (cI, 24, .inl s_heldSixties)), (s_certain_a, .inl (cI, 24, .inl s_certain)), (to, .inr (1, [.ref t_cells_a, .ref t_sixties_a, .int t_rows])), (t_cells_a, .inl (cI, 24, .inl t_cells)), (t_sixties_a, .inl (cI, 24, .inl t_sixties))] H := hP
  refine lv_aload_n hx hb dX0_begin_5 rfl (lv_at hl 0 rfl) ?_
  refine lv_iconst (v := 1) hx hb dX0_begin_6 (by decide) ?_
  refine va_put (D := D) (ci := 0) (v := .int (1 : Int32)) (ty := .int) (C := RX0) (T := TX0) (N := 9) hx hb hts wi_X0_begin_X0 tyX0 tyX0_ok nmX0 hown hK hP (kD hnd rfl) hS 0 rfl rfl 7 (by decide) (hts _ wm_X0_begin_1) (fun _ h9 => h9) rfl (by decide +kernel) rfl rfl (Nat.le_of_ble_eq_true rfl) dX0_begin_7 (fun H locs hP _ hS => ?_)
  have hP : va_P D vwCl [(so, .inr (0, [.ref s_heldRows_a, .ref s_heldColumns_a, .ref s_heldSixties_a, .ref s_certain_a, .int s_heldCount, .int s_rows, .int (0 : Int32), .int (1 : Int32), .int s_first])), (s_heldRows_a, .inl (cI, 24, .inl s_heldRows)), (s_heldColumns_a, .inl (cI, 24, .inl s_heldColumns)), (s_heldSixties_a, .inl (cI, 24, .inl s_heldSixties)), (s_certain_a, .inl (cI, 24, .inl s_certain)), (to, .inr (1, [.ref t_cells_a, .ref t_sixties_a, .int t_rows])), (t_cells_a, .inl (cI, 24, .inl t_cells)), (t_sixties_a, .inl (cI, 24, .inl t_sixties))] H := hP
  refine lv_aload_n hx hb dX0_begin_10 rfl (lv_at hl 0 rfl) ?_
  refine lv_iconst (v := -1) hx hb dX0_begin_11 (by decide) ?_
  refine va_put (D := D) (ci := 0) (v := .int (-1 : Int32)) (ty := .int) (C := RX0) (T := TX0) (N := 9) hx hb hts wi_X0_begin_X0 tyX0 tyX0_ok nmX0 hown hK hP (kD hnd rfl) hS 0 rfl rfl 8 (by decide) (hts _ wm_X0_begin_2) (fun _ h9 => h9) rfl (by decide +kernel) rfl rfl (Nat.le_of_ble_eq_true rfl) dX0_begin_12 (fun H locs hP _ hS => ?_)
  have hP : va_P D vwCl [(so, .inr (0, [.ref s_heldRows_a, .ref s_heldColumns_a, .ref s_heldSixties_a, .ref s_certain_a, .int s_heldCount, .int s_rows, .int (0 : Int32), .int (1 : Int32), .int (-1 : Int32)])), (s_heldRows_a, .inl (cI, 24, .inl s_heldRows)), (s_heldColumns_a, .inl (cI, 24, .inl s_heldColumns)), (s_heldSixties_a, .inl (cI, 24, .inl s_heldSixties)), (s_certain_a, .inl (cI, 24, .inl s_certain)), (to, .inr (1, [.ref t_cells_a, .ref t_sixties_a, .int t_rows])), (t_cells_a, .inl (cI, 24, .inl t_cells)), (t_sixties_a, .inl (cI, 24, .inl t_sixties))] H := hP
  refine lv_aload_n hx hb dX0_begin_15 rfl (lv_at hl 0 rfl) ?_
  refine lv_aload_n hx hb dX0_begin_16 rfl (lv_at hl 1 rfl) ?_
  obtain ⟨u1, hu1, h⟩ := md_b h
  refine kV C (ctX3_rowCount l  hu1) gX0_begin_X3_rowCount rfl kdvX3_rowCount ⟨rfl, rfl⟩ ⟨by decide, by decide⟩ kW_blind (va_recv hK hP (ci := 1) (q0 := 5) rfl rfl) (kW_use hK (hP.sub (ws' := [(to, .inr (1, [.ref t_cells_a, .ref t_sixties_a, .int t_rows])), (t_cells_a, .inl (cI, 24, .inl t_cells)), (t_sixties_a, .inl (cI, 24, .inl t_sixties))]) [5, 6, 7] rfl) kL_no) rfl hl [.ref so] rfl (Nat.le_of_ble_eq_true rfl) dX0_begin_17 ⟨by decide, by decide⟩ ?_
  refine va_put (D := D) (ci := 0) (v := .int u1) (ty := .int) (C := RX0) (T := TX0) (N := 9) hx hb hts wi_X0_begin_X0 tyX0 tyX0_ok nmX0 hown hK hP (kD hnd rfl) hS 0 rfl rfl 5 (by decide) (hts _ wm_X0_begin_3) (fun _ h9 => h9) rfl (by decide +kernel) rfl rfl (Nat.le_of_ble_eq_true rfl) dX0_begin_20 (fun H locs hP _ hS => ?_)
  have hP : va_P D vwCl [(so, .inr (0, [.ref s_heldRows_a, .ref s_heldColumns_a, .ref s_heldSixties_a, .ref s_certain_a, .int s_heldCount, .int u1, .int (0 : Int32), .int (1 : Int32), .int (-1 : Int32)])), (s_heldRows_a, .inl (cI, 24, .inl s_heldRows)), (s_heldColumns_a, .inl (cI, 24, .inl s_heldColumns)), (s_heldSixties_a, .inl (cI, 24, .inl s_heldSixties)), (s_certain_a, .inl (cI, 24, .inl s_certain)), (to, .inr (1, [.ref t_cells_a, .ref t_sixties_a, .int t_rows])), (t_cells_a, .inl (cI, 24, .inl t_cells)), (t_sixties_a, .inl (cI, 24, .inl t_sixties))] H := hP
  refine lv_aload_n hx hb dX0_begin_23 rfl (lv_at hl 0 rfl) ?_
  refine lv_iconst (v := 0) hx hb dX0_begin_24 (by decide) ?_
  refine va_put (D := D) (ci := 0) (v := .int (0 : Int32)) (ty := .int) (C := RX0) (T := TX0) (N := 9) hx hb hts wi_X0_begin_X0 tyX0 tyX0_ok nmX0 hown hK hP (kD hnd rfl) hS 0 rfl rfl 4 (by decide) (hts _ wm_X0_begin_4) (fun _ h9 => h9) rfl (by decide +kernel) rfl rfl (Nat.le_of_ble_eq_true rfl) dX0_begin_25 (fun H locs hP _ hS => ?_)
  have hP : va_P D vwCl [(so, .inr (0, [.ref s_heldRows_a, .ref s_heldColumns_a, .ref s_heldSixties_a, .ref s_certain_a, .int (0 : Int32), .int u1, .int (0 : Int32), .int (1 : Int32), .int (-1 : Int32)])), (s_heldRows_a, .inl (cI, 24, .inl s_heldRows)), (s_heldColumns_a, .inl (cI, 24, .inl s_heldColumns)), (s_heldSixties_a, .inl (cI, 24, .inl s_heldSixties)), (s_certain_a, .inl (cI, 24, .inl s_certain)), (to, .inr (1, [.ref t_cells_a, .ref t_sixties_a, .int t_rows])), (t_cells_a, .inl (cI, 24, .inl t_cells)), (t_sixties_a, .inl (cI, 24, .inl t_sixties))] H := hP
  refine lv_iconst (v := 0) hx hb dX0_begin_28 (by decide) ?_
  refine lv_istore_n (lv' := [(2, .int (0 : Int32)), (0, .ref so), (1, .ref to)]) hx hb dX0_begin_29 rfl hl (by decide) rfl (fun ls hl => ?_)
  refine lX0_begin_30 C hK hnd s_certain u1 (0 : Int32) (1 : Int32) (-1 : Int32) t_cells t_sixties t_rows res hQ _ (fun s_heldRows_134 s_heldColumns_134 s_heldSixties_134 s_heldCount_134 h H locs hP hS ls hl => ?_) kN (0 : Int32) s_heldRows s_heldColumns s_heldSixties (0 : Int32) h _ _ hP hS ls (lv_sub hl [1, 2, 0] rfl)
  exact hQ s_heldRows_134 s_heldColumns_134 s_heldSixties_134 s_heldCount_134 u1 (0 : Int32) (1 : Int32) (-1 : Int32) H locs 134 ls h hP hS dX0_begin_134
set_option maxHeartbeats 4000000 in
theorem ctX0_begin (l : Launch) {D : va_G} {cI cT : ClassId} {so s_heldRows_a s_heldColumns_a s_heldSixties_a s_certain_a to t_cells_a t_sixties_a : Nat} {s_heldRows : Nat → Int32} {s_heldColumns : Nat → Int32} {s_heldSixties : Nat → Int32} {s_certain : Nat → Int32} {s_heldCount : Int32} {s_rows : Int32} {s_kind : Int32} {s_n : Int32} {s_first : Int32} {t_cells : Nat → Int32} {t_sixties : Nat → Int32} {t_rows : Int32} {res : ((Nat → Int32) × (Nat → Int32) × (Nat → Int32) × Int32 × Int32 × Int32 × Int32 × Int32)} (hnd : ([so, s_heldRows_a, s_heldColumns_a, s_heldSixties_a, s_certain_a, to, t_cells_a, t_sixties_a] : List Nat).Nodup) (hm : mX0_begin s_heldRows s_heldColumns s_heldSixties t_cells t_sixties t_rows = some res) : Met l yX0_begin wsX0_begin rmX0_begin (va_Pc [.ref so, .ref to] (kW D cI cT [(so, .inr (0, [.ref s_heldRows_a, .ref s_heldColumns_a, .ref s_heldSixties_a, .ref s_certain_a, .int s_heldCount, .int s_rows, .int s_kind, .int s_n, .int s_first])), (s_heldRows_a, .inl (cI, 24, .inl s_heldRows)), (s_heldColumns_a, .inl (cI, 24, .inl s_heldColumns)), (s_heldSixties_a, .inl (cI, 24, .inl s_heldSixties)), (s_certain_a, .inl (cI, 24, .inl s_certain)), (to, .inr (1, [.ref t_cells_a, .ref t_sixties_a, .int t_rows])), (t_cells_a, .inl (cI, 24, .inl t_cells)), (t_sixties_a, .inl (cI, 24, .inl t_sixties))] none (fun q => q ∈ ([so, s_heldRows_a, s_heldColumns_a, s_heldSixties_a, s_certain_a, to, t_cells_a, t_sixties_a] : List Nat)))) (kX none D [(so, .inr (0, [.ref s_heldRows_a, .ref s_heldColumns_a, .ref s_heldSixties_a, .ref s_certain_a, .int res.2.2.2.1, .int res.2.2.2.2.1, .int res.2.2.2.2.2.1, .int res.2.2.2.2.2.2.1, .int res.2.2.2.2.2.2.2])), (s_heldRows_a, .inl (cI, 24, .inl res.1)), (s_heldColumns_a, .inl (cI, 24, .inl res.2.1)), (s_heldSixties_a, .inl (cI, 24, .inl res.2.2.1)), (s_certain_a, .inl (cI, 24, .inl s_certain)), (to, .inr (1, [.ref t_cells_a, .ref t_sixties_a, .int t_rows])), (t_cells_a, .inl (cI, 24, .inl t_cells)), (t_sixties_a, .inl (cI, 24, .inl t_sixties))] (fun q => q ∈ ([so, s_heldRows_a, s_heldColumns_a, s_heldSixties_a, s_certain_a, to, t_cells_a, t_sixties_a] : List Nat))) 0 0 (fun q => q ∈ ([so, s_heldRows_a, s_heldColumns_a, s_heldSixties_a, s_certain_a, to, t_cells_a, t_sixties_a] : List Nat)) :=
  km (by decide) rfl (Nat.le_of_ble_eq_true rfl) (fun p e s m below meth c ls C hB hl => bX0_begin C hB.1 hnd s_heldRows s_heldColumns s_heldSixties s_certain s_heldCount s_rows s_kind s_n s_first t_cells t_sixties t_rows res (fun s_heldRows1 s_heldColumns1 s_heldSixties1 s_heldCount1 s_rows1 s_kind1 s_n1 s_first1 H locs pc ls h hP hS hd => by obtain rfl := Option.some.inj h; exact kx_v C hP hS hd) hm s.heap [] hB.2.1 va_S.rf ls hl)
theorem wm_X0_nextPlace_0 : Cond.fieldLink RX0 39 "SixtyTablet$Search" "first" "I" ∈ wsX0_nextPlace := by decide +kernel
theorem wm_X0_nextPlace_1 : Cond.fieldLink RX0 28 "SixtyTablet$Search" "rows" "I" ∈ wsX0_nextPlace := by decide +kernel
theorem wm_X0_nextPlace_2 : Cond.fieldLink RX0 33 "SixtyTablet$Search" "kind" "I" ∈ wsX0_nextPlace := by decide +kernel
theorem wm_X0_nextPlace_3 : Cond.fieldLink RX0 36 "SixtyTablet$Search" "n" "I" ∈ wsX0_nextPlace := by decide +kernel
theorem wi_X0_nextPlace_X0 : ∀ w ∈ wsX00, w ∈ wsX0_nextPlace := by decide +kernel
theorem kdvX0_nextPlace : yX0_nextPlace.cls = RX0 ∧ yX0_nextPlace.cls ≠ "java/lang/invoke/MethodHandle" ∧ yX0_nextPlace.cls ≠ "java/lang/invoke/VarHandle" ∧ (parseMethodDescriptor yX0_nextPlace.desc).map (fun d => d.parameters.length) = some 0 := by decide +kernel
abbrev rmX0_nextPlace : Room := { frames := 2, cells := 0, slots := 0, locals := 39 }
def mX0_nextPlace (s_rows : Int32) (s_kind : Int32) (s_n : Int32) (s_first : Int32) : Option (Int32 × Int32 × Int32 × Int32) := (md_let (s_first + (1 : Int32)) (fun (f_1 : Int32) => (Option.bind (mX2_rowsOf s_kind) (fun u2 => (if u2 < (f_1 + s_rows) then (md_jn (fun (u_64 : Unit) => (md_let (s_kind + (1 : Int32)) (fun (f_4 : Int32) => (if (4 : Int32) ≤ f_4 then (some ((0 : Int32), f_4, (0 : Int32), (0 : Int32))) else (some ((1 : Int32), f_4, (0 : Int32), (0 : Int32))))))) (fun kJ64 => (if s_kind = 0 then (if (59 : Int32) ≤ s_n then (kJ64 ()) else (md_let (s_n + (1 : Int32)) (fun (f_8 : Int32) => (some ((1 : Int32), s_kind, f_8, (0 : Int32)))))) else (kJ64 ())))) else (some ((1 : Int32), s_kind, s_n, f_1)))))))
set_option maxHeartbeats 4000000 in
set_option maxRecDepth 100000 in
theorem bX0_nextPlace {p : Program} {l : Launch} {e : Env} {s : State} {m : MethodId} {args : Array Value} {below : List Frame} {meth : Method} {c : Code} {Q : State → Prop} (C : kc p s m args meth c cX0_nextPlace 1 RX0 yX0_nextPlace.name wsX0_nextPlace (some .boolean)) {D : va_G} {cI cT : ClassId} {so s_heldRows_a s_heldColumns_a s_heldSixties_a s_certain_a : Nat} {aL : Nat} (hK : va_K D vwCl (kTy cI cT) s) (hLz : kLz aL (fun q => q ∈ ([so, s_heldRows_a, s_heldColumns_a, s_heldSixties_a, s_certain_a] : List Nat)) s s.heap) (hnd : ([so, s_heldRows_a, s_heldColumns_a, s_heldSixties_a, s_certain_a] : List Nat).Nodup) (s_heldRows : Nat → Int32) (s_heldColumns : Nat → Int32) (s_heldSixties : Nat → Int32) (s_certain : Nat → Int32) (s_heldCount : Int32) (s_rows : Int32) (s_kind : Int32) (s_n : Int32) (s_first : Int32) (res : (Int32 × Int32 × Int32 × Int32)) (hQ : ∀ (v : Int32) (s_kind : Int32) (s_n : Int32) (s_first : Int32) (H : Heap) (locs : List Loc) (pc : Nat) (ls : Array Slot), v = 0 ∨ v = 1 → some (v, s_kind, s_n, s_first) = some res → va_P D vwCl [(so, .inr (0, [.ref s_heldRows_a, .ref s_heldColumns_a, .ref s_heldSixties_a, .ref s_certain_a, .int s_heldCount, .int s_rows, .int s_kind, .int s_n, .int s_first])), (s_heldRows_a, .inl (cI, 24, .inl s_heldRows)), (s_heldColumns_a, .inl (cI, 24, .inl s_heldColumns)), (s_heldSixties_a, .inl (cI, 24, .inl s_heldSixties)), (s_certain_a, .inl (cI, 24, .inl s_certain))] H → va_S (fun q => q ∈ ([so, s_heldRows_a, s_heldColumns_a, s_heldSixties_a, s_certain_a] : List Nat)) s.heap H locs → decode cX0_nextPlace pc = .ok (.ireturn, 1) → W p l e rmX0_nextPlace s m args below meth c H locs 0 0 Q (F0 m pc ls [.int v])) : mX0_nextPlace s_rows s_kind s_n s_first = some res → ∀ (H : Heap) (locs : List Loc), va_P D vwCl [(so, .inr (0, [.ref s_heldRows_a, .ref s_heldColumns_a, .ref s_heldSixties_a, .ref s_certain_a, .int s_heldCount, .int s_rows, .int s_kind, .int s_n, .int s_first])), (s_heldRows_a, .inl (cI, 24, .inl s_heldRows)), (s_heldColumns_a, .inl (cI, 24, .inl s_heldColumns)), (s_heldSixties_a, .inl (cI, 24, .inl s_heldSixties)), (s_certain_a, .inl (cI, 24, .inl s_certain))] H → va_S (fun q => q ∈ ([so, s_heldRows_a, s_heldColumns_a, s_heldSixties_a, s_certain_a] : List Nat)) s.heap H locs → ∀ (ls : Array Slot), lv_has ls 1 [(0, .ref so)] → W p l e rmX0_nextPlace s m args below meth c H locs 0 0 Q (F0 m 0 ls []) := by
  intro h H locs hP hS ls hl
  have C0 := C
  obtain ⟨hx, hb, hml, hown, hts, hr, hlk, hnm⟩ := C0
  rw [mX0_nextPlace] at h
  refine lv_aload_n hx hb dX0_nextPlace_0 rfl (lv_at hl 0 rfl) ?_
  refine lv_dup hx hb dX0_nextPlace_1 rfl ?_
  refine va_get (D := D) (ci := 0) (v := .int s_first) (C := RX0) (T := TX0) (N := 9) hx hb hts wi_X0_nextPlace_X0 hown hK hP 0 rfl rfl 8 (by decide) (hts _ wm_X0_nextPlace_0) (fun _ h9 => h9) rfl dX0_nextPlace_2 ?_
  refine lv_iconst (v := 1) hx hb dX0_nextPlace_5 (by decide) ?_
  refine lv_iadd hx hb dX0_nextPlace_6 ?_
  refine lv_topi (fun f_1 ef_1 => ?_)
  replace h := md_le ef_1 h
  refine va_put (D := D) (ci := 0) (v := .int f_1) (ty := .int) (C := RX0) (T := TX0) (N := 9) hx hb hts wi_X0_nextPlace_X0 tyX0 tyX0_ok nmX0 hown hK hP (kD hnd rfl) hS 0 rfl rfl 8 (by decide) (hts _ wm_X0_nextPlace_0) (fun _ h9 => h9) rfl (by decide +kernel) rfl rfl (Nat.le_of_ble_eq_true rfl) dX0_nextPlace_7 (fun H locs hP _ hS => ?_)
  have hP : va_P D vwCl [(so, .inr (0, [.ref s_heldRows_a, .ref s_heldColumns_a, .ref s_heldSixties_a, .ref s_certain_a, .int s_heldCount, .int s_rows, .int s_kind, .int s_n, .int f_1])), (s_heldRows_a, .inl (cI, 24, .inl s_heldRows)), (s_heldColumns_a, .inl (cI, 24, .inl s_heldColumns)), (s_heldSixties_a, .inl (cI, 24, .inl s_heldSixties)), (s_certain_a, .inl (cI, 24, .inl s_certain))] H := hP
  refine lv_aload_n hx hb dX0_nextPlace_10 rfl (lv_at hl 0 rfl) ?_
  refine va_get (D := D) (ci := 0) (v := .int f_1) (C := RX0) (T := TX0) (N := 9) hx hb hts wi_X0_nextPlace_X0 hown hK hP 0 rfl rfl 8 (by decide) (hts _ wm_X0_nextPlace_0) (fun _ h9 => h9) rfl dX0_nextPlace_11 ?_
  refine lv_aload_n hx hb dX0_nextPlace_14 rfl (lv_at hl 0 rfl) ?_
  refine va_get (D := D) (ci := 0) (v := .int s_rows) (C := RX0) (T := TX0) (N := 9) hx hb hts wi_X0_nextPlace_X0 hown hK hP 0 rfl rfl 5 (by decide) (hts _ wm_X0_nextPlace_1) (fun _ h9 => h9) rfl dX0_nextPlace_15 ?_
  refine lv_iadd hx hb dX0_nextPlace_18 ?_
  refine lv_aload_n hx hb dX0_nextPlace_19 rfl (lv_at hl 0 rfl) ?_
  refine va_get (D := D) (ci := 0) (v := .int s_kind) (C := RX0) (T := TX0) (N := 9) hx hb hts wi_X0_nextPlace_X0 hown hK hP 0 rfl rfl 6 (by decide) (hts _ wm_X0_nextPlace_2) (fun _ h9 => h9) rfl dX0_nextPlace_20 ?_
  obtain ⟨u2, hu2, h⟩ := md_b h
  refine kS C (ctX2_rowsOf l  hu2) gX0_nextPlace_X2_rowsOf rfl kdX2_rowsOf ⟨rfl, rfl⟩ ⟨by decide, by decide⟩ kW_blind (kW_use hK va_P0 (kL_at hLz hS (fun _ q => q.elim))) rfl hl [.int (f_1 + s_rows)] rfl (Nat.le_of_ble_eq_true rfl) dX0_nextPlace_23 ⟨by decide, by decide⟩ ?_
  refine lv_icmp_gt (tgt := 31) hx hb dX0_nextPlace_26 (by decide) (fun c3 => ?_) (fun c3 => ?_)
  · replace h := md_t c3 h
    refine lv_aload_n hx hb dX0_nextPlace_31 rfl (lv_at hl 0 rfl) ?_
    refine lv_iconst (v := 0) hx hb dX0_nextPlace_32 (by decide) ?_
    refine va_put (D := D) (ci := 0) (v := .int (0 : Int32)) (ty := .int) (C := RX0) (T := TX0) (N := 9) hx hb hts wi_X0_nextPlace_X0 tyX0 tyX0_ok nmX0 hown hK hP (kD hnd rfl) hS 0 rfl rfl 8 (by decide) (hts _ wm_X0_nextPlace_0) (fun _ h9 => h9) rfl (by decide +kernel) rfl rfl (Nat.le_of_ble_eq_true rfl) dX0_nextPlace_33 (fun H locs hP _ hS => ?_)
    have hP : va_P D vwCl [(so, .inr (0, [.ref s_heldRows_a, .ref s_heldColumns_a, .ref s_heldSixties_a, .ref s_certain_a, .int s_heldCount, .int s_rows, .int s_kind, .int s_n, .int (0 : Int32)])), (s_heldRows_a, .inl (cI, 24, .inl s_heldRows)), (s_heldColumns_a, .inl (cI, 24, .inl s_heldColumns)), (s_heldSixties_a, .inl (cI, 24, .inl s_heldSixties)), (s_certain_a, .inl (cI, 24, .inl s_certain))] H := hP
    refine lv_aload_n hx hb dX0_nextPlace_36 rfl (lv_at hl 0 rfl) ?_
    refine va_get (D := D) (ci := 0) (v := .int s_kind) (C := RX0) (T := TX0) (N := 9) hx hb hts wi_X0_nextPlace_X0 hown hK hP 0 rfl rfl 6 (by decide) (hts _ wm_X0_nextPlace_2) (fun _ h9 => h9) rfl dX0_nextPlace_37 ?_
    obtain ⟨kJ64, ekJ64, h⟩ := md_jo h
    have KJ64 : ∀ (u_64 : Unit), kJ64 u_64 = some res → ∀ (H : Heap) (locs : List Loc), va_P D vwCl [(so, .inr (0, [.ref s_heldRows_a, .ref s_heldColumns_a, .ref s_heldSixties_a, .ref s_certain_a, .int s_heldCount, .int s_rows, .int s_kind, .int s_n, .int (0 : Int32)])), (s_heldRows_a, .inl (cI, 24, .inl s_heldRows)), (s_heldColumns_a, .inl (cI, 24, .inl s_heldColumns)), (s_heldSixties_a, .inl (cI, 24, .inl s_heldSixties)), (s_certain_a, .inl (cI, 24, .inl s_certain))] H → va_S (fun q => q ∈ ([so, s_heldRows_a, s_heldColumns_a, s_heldSixties_a, s_certain_a] : List Nat)) s.heap H locs → ∀ (ls : Array Slot), lv_has ls 1 [(0, .ref so)] → W p l e rmX0_nextPlace s m args below meth c H locs 0 0 Q (F0 m 64 ls []) := by
      intro u_64 h H locs hP hS ls hl
      rw [ekJ64] at h
      refine lv_aload_n hx hb dX0_nextPlace_64 rfl (lv_at hl 0 rfl) ?_
      refine lv_dup hx hb dX0_nextPlace_65 rfl ?_
      refine va_get (D := D) (ci := 0) (v := .int s_kind) (C := RX0) (T := TX0) (N := 9) hx hb hts wi_X0_nextPlace_X0 hown hK hP 0 rfl rfl 6 (by decide) (hts _ wm_X0_nextPlace_2) (fun _ h9 => h9) rfl dX0_nextPlace_66 ?_
      refine lv_iconst (v := 1) hx hb dX0_nextPlace_69 (by decide) ?_
      refine lv_iadd hx hb dX0_nextPlace_70 ?_
      refine lv_topi (fun f_4 ef_4 => ?_)
      replace h := md_le ef_4 h
      refine va_put (D := D) (ci := 0) (v := .int f_4) (ty := .int) (C := RX0) (T := TX0) (N := 9) hx hb hts wi_X0_nextPlace_X0 tyX0 tyX0_ok nmX0 hown hK hP (kD hnd rfl) hS 0 rfl rfl 6 (by decide) (hts _ wm_X0_nextPlace_2) (fun _ h9 => h9) rfl (by decide +kernel) rfl rfl (Nat.le_of_ble_eq_true rfl) dX0_nextPlace_71 (fun H locs hP _ hS => ?_)
      have hP : va_P D vwCl [(so, .inr (0, [.ref s_heldRows_a, .ref s_heldColumns_a, .ref s_heldSixties_a, .ref s_certain_a, .int s_heldCount, .int s_rows, .int f_4, .int s_n, .int (0 : Int32)])), (s_heldRows_a, .inl (cI, 24, .inl s_heldRows)), (s_heldColumns_a, .inl (cI, 24, .inl s_heldColumns)), (s_heldSixties_a, .inl (cI, 24, .inl s_heldSixties)), (s_certain_a, .inl (cI, 24, .inl s_certain))] H := hP
      refine lv_aload_n hx hb dX0_nextPlace_74 rfl (lv_at hl 0 rfl) ?_
      refine lv_iconst (v := 0) hx hb dX0_nextPlace_75 (by decide) ?_
      refine va_put (D := D) (ci := 0) (v := .int (0 : Int32)) (ty := .int) (C := RX0) (T := TX0) (N := 9) hx hb hts wi_X0_nextPlace_X0 tyX0 tyX0_ok nmX0 hown hK hP (kD hnd rfl) hS 0 rfl rfl 7 (by decide) (hts _ wm_X0_nextPlace_3) (fun _ h9 => h9) rfl (by decide +kernel) rfl rfl (Nat.le_of_ble_eq_true rfl) dX0_nextPlace_76 (fun H locs hP _ hS => ?_)
      have hP : va_P D vwCl [(so, .inr (0, [.ref s_heldRows_a, .ref s_heldColumns_a, .ref s_heldSixties_a, .ref s_certain_a, .int s_heldCount, .int s_rows, .int f_4, .int (0 : Int32), .int (0 : Int32)])), (s_heldRows_a, .inl (cI, 24, .inl s_heldRows)), (s_heldColumns_a, .inl (cI, 24, .inl s_heldColumns)), (s_heldSixties_a, .inl (cI, 24, .inl s_heldSixties)), (s_certain_a, .inl (cI, 24, .inl s_certain))] H := hP
      refine lv_aload_n hx hb dX0_nextPlace_79 rfl (lv_at hl 0 rfl) ?_
      refine va_get (D := D) (ci := 0) (v := .int f_4) (C := RX0) (T := TX0) (N := 9) hx hb hts wi_X0_nextPlace_X0 hown hK hP 0 rfl rfl 6 (by decide) (hts _ wm_X0_nextPlace_2) (fun _ h9 => h9) rfl dX0_nextPlace_80 ?_
      refine lv_iconst (v := 4) hx hb dX0_nextPlace_83 (by decide) ?_
      refine lv_icmp_ge (tgt := 91) hx hb dX0_nextPlace_84 (by decide) (fun c5 => ?_) (fun c5 => ?_)
      · replace h := md_t c5 h
        refine lv_iconst (v := 0) hx hb dX0_nextPlace_91 (by decide) ?_
        exact hQ (0 : Int32) f_4 (0 : Int32) (0 : Int32) H locs 92 ls (by decide) h hP hS dX0_nextPlace_92
      replace h := md_f c5 h
      refine lv_iconst (v := 1) hx hb dX0_nextPlace_87 (by decide) ?_
      refine lv_goto (tgt := 92) hx hb dX0_nextPlace_88 (by decide) ?_
      exact hQ (1 : Int32) f_4 (0 : Int32) (0 : Int32) H locs 92 ls (by decide) h hP hS dX0_nextPlace_92
    clear ekJ64
    refine lv_if_ne (tgt := 64) hx hb dX0_nextPlace_40 (by decide) (fun c6 => ?_) (fun c6 => ?_)
    · replace h := md_f c6 h
      exact KJ64 () h _ _ hP hS ls (lv_sub hl [0] rfl)
    replace h := md_t c6 h
    refine lv_aload_n hx hb dX0_nextPlace_43 rfl (lv_at hl 0 rfl) ?_
    refine va_get (D := D) (ci := 0) (v := .int s_n) (C := RX0) (T := TX0) (N := 9) hx hb hts wi_X0_nextPlace_X0 hown hK hP 0 rfl rfl 7 (by decide) (hts _ wm_X0_nextPlace_3) (fun _ h9 => h9) rfl dX0_nextPlace_44 ?_
    refine lv_bipush (v := 59) hx hb dX0_nextPlace_47 (by decide) ?_
    refine lv_icmp_ge (tgt := 64) hx hb dX0_nextPlace_49 (by decide) (fun c7 => ?_) (fun c7 => ?_)
    · replace h := md_t c7 h
      exact KJ64 () h _ _ hP hS ls (lv_sub hl [0] rfl)
    replace h := md_f c7 h
    refine lv_aload_n hx hb dX0_nextPlace_52 rfl (lv_at hl 0 rfl) ?_
    refine lv_dup hx hb dX0_nextPlace_53 rfl ?_
    refine va_get (D := D) (ci := 0) (v := .int s_n) (C := RX0) (T := TX0) (N := 9) hx hb hts wi_X0_nextPlace_X0 hown hK hP 0 rfl rfl 7 (by decide) (hts _ wm_X0_nextPlace_3) (fun _ h9 => h9) rfl dX0_nextPlace_54 ?_
    refine lv_iconst (v := 1) hx hb dX0_nextPlace_57 (by decide) ?_
    refine lv_iadd hx hb dX0_nextPlace_58 ?_
    refine lv_topi (fun f_8 ef_8 => ?_)
    replace h := md_le ef_8 h
    refine va_put (D := D) (ci := 0) (v := .int f_8) (ty := .int) (C := RX0) (T := TX0) (N := 9) hx hb hts wi_X0_nextPlace_X0 tyX0 tyX0_ok nmX0 hown hK hP (kD hnd rfl) hS 0 rfl rfl 7 (by decide) (hts _ wm_X0_nextPlace_3) (fun _ h9 => h9) rfl (by decide +kernel) rfl rfl (Nat.le_of_ble_eq_true rfl) dX0_nextPlace_59 (fun H locs hP _ hS => ?_)
    have hP : va_P D vwCl [(so, .inr (0, [.ref s_heldRows_a, .ref s_heldColumns_a, .ref s_heldSixties_a, .ref s_certain_a, .int s_heldCount, .int s_rows, .int s_kind, .int f_8, .int (0 : Int32)])), (s_heldRows_a, .inl (cI, 24, .inl s_heldRows)), (s_heldColumns_a, .inl (cI, 24, .inl s_heldColumns)), (s_heldSixties_a, .inl (cI, 24, .inl s_heldSixties)), (s_certain_a, .inl (cI, 24, .inl s_certain))] H := hP
    refine lv_iconst (v := 1) hx hb dX0_nextPlace_62 (by decide) ?_
    exact hQ (1 : Int32) s_kind f_8 (0 : Int32) H locs 63 ls (by decide) h hP hS dX0_nextPlace_63
  replace h := md_f c3 h
  refine lv_iconst (v := 1) hx hb dX0_nextPlace_29 (by decide) ?_
  exact hQ (1 : Int32) s_kind s_n f_1 H locs 30 ls (by decide) h hP hS dX0_nextPlace_30
set_option maxHeartbeats 4000000 in
theorem ctX0_nextPlace (l : Launch) {D : va_G} {cI cT : ClassId} {so s_heldRows_a s_heldColumns_a s_heldSixties_a s_certain_a : Nat} {aL : Nat} {s_heldRows : Nat → Int32} {s_heldColumns : Nat → Int32} {s_heldSixties : Nat → Int32} {s_certain : Nat → Int32} {s_heldCount : Int32} {s_rows : Int32} {s_kind : Int32} {s_n : Int32} {s_first : Int32} {res : (Int32 × Int32 × Int32 × Int32)} (hnd : ([so, s_heldRows_a, s_heldColumns_a, s_heldSixties_a, s_certain_a] : List Nat).Nodup) (hm : mX0_nextPlace s_rows s_kind s_n s_first = some res) : Met l yX0_nextPlace wsX0_nextPlace rmX0_nextPlace (va_Pc [.ref so] (kW D cI cT [(so, .inr (0, [.ref s_heldRows_a, .ref s_heldColumns_a, .ref s_heldSixties_a, .ref s_certain_a, .int s_heldCount, .int s_rows, .int s_kind, .int s_n, .int s_first])), (s_heldRows_a, .inl (cI, 24, .inl s_heldRows)), (s_heldColumns_a, .inl (cI, 24, .inl s_heldColumns)), (s_heldSixties_a, .inl (cI, 24, .inl s_heldSixties)), (s_certain_a, .inl (cI, 24, .inl s_certain))] (some aL) (fun q => q ∈ ([so, s_heldRows_a, s_heldColumns_a, s_heldSixties_a, s_certain_a] : List Nat)))) (kX (some (.int res.1)) D [(so, .inr (0, [.ref s_heldRows_a, .ref s_heldColumns_a, .ref s_heldSixties_a, .ref s_certain_a, .int s_heldCount, .int s_rows, .int res.2.1, .int res.2.2.1, .int res.2.2.2])), (s_heldRows_a, .inl (cI, 24, .inl s_heldRows)), (s_heldColumns_a, .inl (cI, 24, .inl s_heldColumns)), (s_heldSixties_a, .inl (cI, 24, .inl s_heldSixties)), (s_certain_a, .inl (cI, 24, .inl s_certain))] (fun q => q ∈ ([so, s_heldRows_a, s_heldColumns_a, s_heldSixties_a, s_certain_a] : List Nat))) 0 0 (fun q => q ∈ ([so, s_heldRows_a, s_heldColumns_a, s_heldSixties_a, s_certain_a] : List Nat)) :=
  km (by decide) rfl (Nat.le_of_ble_eq_true rfl) (fun p e s m below meth c ls C hB hl => bX0_nextPlace C hB.1 (hB.2.2 aL rfl) hnd s_heldRows s_heldColumns s_heldSixties s_certain s_heldCount s_rows s_kind s_n s_first res (fun v s_kind1 s_n1 s_first1 H locs pc ls hz h hP hS hd => by obtain rfl := Option.some.inj h; exact kx_z C hz hP hS hd) hm s.heap [] hB.2.1 va_S.rf ls hl)
theorem wm_X0_sixtyHere_0 : Cond.fieldLink RX0 33 "SixtyTablet$Search" "kind" "I" ∈ wsX0_sixtyHere := by decide +kernel
theorem wm_X0_sixtyHere_1 : Cond.fieldLink RX0 36 "SixtyTablet$Search" "n" "I" ∈ wsX0_sixtyHere := by decide +kernel
theorem wm_X0_sixtyHere_2 : Cond.fieldLink RX0 39 "SixtyTablet$Search" "first" "I" ∈ wsX0_sixtyHere := by decide +kernel
theorem wi_X0_sixtyHere_X0 : ∀ w ∈ wsX00, w ∈ wsX0_sixtyHere := by decide +kernel
theorem kdvX0_sixtyHere : yX0_sixtyHere.cls = RX0 ∧ yX0_sixtyHere.cls ≠ "java/lang/invoke/MethodHandle" ∧ yX0_sixtyHere.cls ≠ "java/lang/invoke/VarHandle" ∧ (parseMethodDescriptor yX0_sixtyHere.desc).map (fun d => d.parameters.length) = some 2 := by decide +kernel
abbrev rmX0_sixtyHere : Room := { frames := 5, cells := 0, slots := 0, locals := 114 }
def mX0_sixtyHere (s_kind : Int32) (s_n : Int32) (s_first : Int32) (p1 : Int32) (p2 : Int32) : Option Int32 := (Option.bind (mX2_number s_kind s_n (s_first + p1) p2) (fun u1 => (Option.bind (mX1_strip (Int32.toInt64 u1)) (fun u2 => (some (Int64.toInt32 u2))))))
set_option maxHeartbeats 4000000 in
set_option maxRecDepth 100000 in
theorem bX0_sixtyHere {p : Program} {l : Launch} {e : Env} {s : State} {m : MethodId} {args : Array Value} {below : List Frame} {meth : Method} {c : Code} {Q : State → Prop} (C : kc p s m args meth c cX0_sixtyHere 3 RX0 yX0_sixtyHere.name wsX0_sixtyHere (some .int)) {D : va_G} {cI cT : ClassId} {so s_heldRows_a s_heldColumns_a s_heldSixties_a s_certain_a : Nat} {aL : Nat} (p1 : Int32) (p2 : Int32) (hK : va_K D vwCl (kTy cI cT) s) (hLz : kLz aL (fun _ => False) s s.heap) (s_heldRows : Nat → Int32) (s_heldColumns : Nat → Int32) (s_heldSixties : Nat → Int32) (s_certain : Nat → Int32) (s_heldCount : Int32) (s_rows : Int32) (s_kind : Int32) (s_n : Int32) (s_first : Int32) (hP : va_P D vwCl [(so, .inr (0, [.ref s_heldRows_a, .ref s_heldColumns_a, .ref s_heldSixties_a, .ref s_certain_a, .int s_heldCount, .int s_rows, .int s_kind, .int s_n, .int s_first])), (s_heldRows_a, .inl (cI, 24, .inl s_heldRows)), (s_heldColumns_a, .inl (cI, 24, .inl s_heldColumns)), (s_heldSixties_a, .inl (cI, 24, .inl s_heldSixties)), (s_certain_a, .inl (cI, 24, .inl s_certain))] s.heap) (res : Int32) (hQ : ∀ (v : Int32) (pc : Nat) (ls : Array Slot), some v = some res → decode cX0_sixtyHere pc = .ok (.ireturn, 1) → W p l e rmX0_sixtyHere s m args below meth c s.heap [] 0 0 Q (F0 m pc ls [.int v])) : mX0_sixtyHere s_kind s_n s_first p1 p2 = some res → ∀ (ls : Array Slot), lv_has ls 3 [(0, .ref so), (1, .int p1), (2, .int p2)] → W p l e rmX0_sixtyHere s m args below meth c s.heap [] 0 0 Q (F0 m 0 ls []) := by
  intro h ls hl
  have C0 := C
  obtain ⟨hx, hb, hml, hown, hts, hr, hlk, hnm⟩ := C0
  rw [mX0_sixtyHere] at h
  refine lv_aload_n hx hb dX0_sixtyHere_0 rfl (lv_at hl 0 rfl) ?_
  refine va_get (D := D) (ci := 0) (v := .int s_kind) (C := RX0) (T := TX0) (N := 9) hx hb hts wi_X0_sixtyHere_X0 hown hK hP 0 rfl rfl 6 (by decide) (hts _ wm_X0_sixtyHere_0) (fun _ h9 => h9) rfl dX0_sixtyHere_1 ?_
  refine lv_aload_n hx hb dX0_sixtyHere_4 rfl (lv_at hl 0 rfl) ?_
  refine va_get (D := D) (ci := 0) (v := .int s_n) (C := RX0) (T := TX0) (N := 9) hx hb hts wi_X0_sixtyHere_X0 hown hK hP 0 rfl rfl 7 (by decide) (hts _ wm_X0_sixtyHere_1) (fun _ h9 => h9) rfl dX0_sixtyHere_5 ?_
  refine lv_aload_n hx hb dX0_sixtyHere_8 rfl (lv_at hl 0 rfl) ?_
  refine va_get (D := D) (ci := 0) (v := .int s_first) (C := RX0) (T := TX0) (N := 9) hx hb hts wi_X0_sixtyHere_X0 hown hK hP 0 rfl rfl 8 (by decide) (hts _ wm_X0_sixtyHere_2) (fun _ h9 => h9) rfl dX0_sixtyHere_9 ?_
  refine lv_iload_n hx hb dX0_sixtyHere_12 rfl (lv_at hl 1 rfl) ?_
  refine lv_iadd hx hb dX0_sixtyHere_13 ?_
  refine lv_iload_n hx hb dX0_sixtyHere_14 rfl (lv_at hl 2 rfl) ?_
  obtain ⟨u1, hu1, h⟩ := md_b h
  refine kS C (ctX2_number l  hu1) gX0_sixtyHere_X2_number rfl kdX2_number ⟨rfl, rfl⟩ ⟨by decide, by decide⟩ kW_blind (kW_use hK va_P0 (kL_ro hLz (fun _ q => q))) rfl hl [] rfl (Nat.le_of_ble_eq_true rfl) dX0_sixtyHere_15 ⟨by decide, by decide⟩ ?_
  refine lv_i2l hx hb dX0_sixtyHere_18 rfl ?_
  obtain ⟨u2, hu2, h⟩ := md_b h
  refine kS C (ctX1_strip l  hu2) gX0_sixtyHere_X1_strip rfl kdX1_strip ⟨rfl, rfl⟩ ⟨by decide, by decide⟩ kT_blind (fun _ _ _ => trivial) rfl hl [] rfl (Nat.le_of_ble_eq_true rfl) dX0_sixtyHere_19 ⟨by decide, by decide⟩ ?_
  refine lv_l2i hx hb dX0_sixtyHere_22 rfl ?_
  exact hQ (Int64.toInt32 u2) 23 ls h dX0_sixtyHere_23
set_option maxHeartbeats 4000000 in
theorem ctX0_sixtyHere (l : Launch) {D : va_G} {cI cT : ClassId} {so s_heldRows_a s_heldColumns_a s_heldSixties_a s_certain_a : Nat} {aL : Nat} {s_heldRows : Nat → Int32} {s_heldColumns : Nat → Int32} {s_heldSixties : Nat → Int32} {s_certain : Nat → Int32} {s_heldCount : Int32} {s_rows : Int32} {s_kind : Int32} {s_n : Int32} {s_first : Int32} {p1 : Int32} {p2 : Int32} {res : Int32} (hm : mX0_sixtyHere s_kind s_n s_first p1 p2 = some res) : Met l yX0_sixtyHere wsX0_sixtyHere rmX0_sixtyHere (va_Pc [.ref so, .int p1, .int p2] (kW D cI cT [(so, .inr (0, [.ref s_heldRows_a, .ref s_heldColumns_a, .ref s_heldSixties_a, .ref s_certain_a, .int s_heldCount, .int s_rows, .int s_kind, .int s_n, .int s_first])), (s_heldRows_a, .inl (cI, 24, .inl s_heldRows)), (s_heldColumns_a, .inl (cI, 24, .inl s_heldColumns)), (s_heldSixties_a, .inl (cI, 24, .inl s_heldSixties)), (s_certain_a, .inl (cI, 24, .inl s_certain))] (some aL) (fun _ => False))) (kR (.int res)) 0 0 (fun _ => False) :=
  km (by decide) rfl (Nat.le_of_ble_eq_true rfl) (fun p e s m below meth c ls C hB hl => bX0_sixtyHere C p1 p2 hB.1 (hB.2.2 aL rfl) s_heldRows s_heldColumns s_heldSixties s_certain s_heldCount s_rows s_kind s_n s_first hB.2.1 res (fun v pc ls h hd => kr_i C h hd) hm ls hl)
theorem wm_X0_strayRow_0 : Cond.fieldLink RX0 24 "SixtyTablet$Search" "heldCount" "I" ∈ wsX0_strayRow := by decide +kernel
theorem wm_X0_strayRow_1 : Cond.fieldLink RX0 9 "SixtyTablet$Search" "heldRows" "[I" ∈ wsX0_strayRow := by decide +kernel
theorem wm_X0_strayRow_2 : Cond.fieldLink RX0 18 "SixtyTablet$Search" "heldSixties" "[I" ∈ wsX0_strayRow := by decide +kernel
theorem wm_X0_strayRow_3 : Cond.fieldLink RX0 15 "SixtyTablet$Search" "heldColumns" "[I" ∈ wsX0_strayRow := by decide +kernel
theorem wi_X0_strayRow_X0 : ∀ w ∈ wsX00, w ∈ wsX0_strayRow := by decide +kernel
theorem kdvX0_strayRow : yX0_strayRow.cls = RX0 ∧ yX0_strayRow.cls ≠ "java/lang/invoke/MethodHandle" ∧ yX0_strayRow.cls ≠ "java/lang/invoke/VarHandle" ∧ (parseMethodDescriptor yX0_strayRow.desc).map (fun d => d.parameters.length) = some 0 := by decide +kernel
abbrev rmX0_strayRow : Room := { frames := 6, cells := 0, slots := 0, locals := 136 }
def mlX0_strayRow_4 (s_heldRows : Nat → Int32) (s_heldColumns : Nat → Int32) (s_heldSixties : Nat → Int32) (s_heldCount : Int32) (s_kind : Int32) (s_n : Int32) (s_first : Int32) (kE : Int32 → Option Int32) : Nat → Int32 → Int32 → Option Int32
  | 0, _, _ => none
  | n + 1, x1, x2 => (if s_heldCount ≤ x2 then (kE x1) else (if (24 : Int32) ≤ x2 then (kE x1) else (if x2 < 0 ∨ 24 ≤ (Int32.toNatClampNeg x2) then none else (md_let (s_heldRows (Int32.toNatClampNeg x2)) (fun (x3_4 : Int32) => (md_jn (fun (x1_60 : Int32) => (md_let (x2 + (1 : Int32)) (fun (x2_5 : Int32) => (mlX0_strayRow_4 s_heldRows s_heldColumns s_heldSixties s_heldCount s_kind s_n s_first kE n x1_60 x2_5)))) (fun kJ60 => (if x3_4 = x1 then (kJ60 x1) else (if x2 < 0 ∨ 24 ≤ (Int32.toNatClampNeg x2) then none else (if x2 < 0 ∨ 24 ≤ (Int32.toNatClampNeg x2) then none else (Option.bind (mX0_sixtyHere s_kind s_n s_first x3_4 (s_heldColumns (Int32.toNatClampNeg x2))) (fun u9 => (if (s_heldSixties (Int32.toNatClampNeg x2)) = u9 then (kJ60 x1) else (if x1 = (-1 : Int32) then (kJ60 x3_4) else (some (-2 : Int32))))))))))))))))
set_option maxHeartbeats 4000000 in
set_option maxRecDepth 100000 in
theorem lX0_strayRow_4 {p : Program} {l : Launch} {e : Env} {s : State} {m : MethodId} {args : Array Value} {below : List Frame} {meth : Method} {c : Code} {Q : State → Prop} (C : kc p s m args meth c cX0_strayRow 4 RX0 yX0_strayRow.name wsX0_strayRow (some .int)) {D : va_G} {cI cT : ClassId} {so s_heldRows_a s_heldColumns_a s_heldSixties_a s_certain_a : Nat} {aL : Nat} (hK : va_K D vwCl (kTy cI cT) s) (hLz : kLz aL (fun _ => False) s s.heap) (s_heldRows : Nat → Int32) (s_heldColumns : Nat → Int32) (s_heldSixties : Nat → Int32) (s_certain : Nat → Int32) (s_heldCount : Int32) (s_rows : Int32) (s_kind : Int32) (s_n : Int32) (s_first : Int32) (hP : va_P D vwCl [(so, .inr (0, [.ref s_heldRows_a, .ref s_heldColumns_a, .ref s_heldSixties_a, .ref s_certain_a, .int s_heldCount, .int s_rows, .int s_kind, .int s_n, .int s_first])), (s_heldRows_a, .inl (cI, 24, .inl s_heldRows)), (s_heldColumns_a, .inl (cI, 24, .inl s_heldColumns)), (s_heldSixties_a, .inl (cI, 24, .inl s_heldSixties)), (s_certain_a, .inl (cI, 24, .inl s_certain))] s.heap) (res : Int32) (hQ : ∀ (v : Int32) (pc : Nat) (ls : Array Slot), some v = some res → decode cX0_strayRow pc = .ok (.ireturn, 1) → W p l e rmX0_strayRow s m args below meth c s.heap [] 0 0 Q (F0 m pc ls [.int v])) (kE : Int32 → Option Int32) (hE : ∀ (y1 : Int32), kE y1 = some res → ∀ (ls : Array Slot), lv_has ls 4 [(1, .int y1)] → W p l e rmX0_strayRow s m args below meth c s.heap [] 0 0 Q (F0 m 66 ls [])) : ∀ (n : Nat), ∀ (x1 : Int32) (x2 : Int32), mlX0_strayRow_4 s_heldRows s_heldColumns s_heldSixties s_heldCount s_kind s_n s_first kE n x1 x2 = some res → ∀ (ls : Array Slot), lv_has ls 4 [(0, .ref so), (1, .int x1), (2, .int x2)] → W p l e rmX0_strayRow s m args below meth c s.heap [] 0 0 Q (F0 m 4 ls []) := by
  have C0 := C
  obtain ⟨hx, hb, hml, hown, hts, hr, hlk, hnm⟩ := C0
  intro n
  induction n with
  | zero => intro _ _ h; exact md_x h
  | succ n ih =>
    intro x1 x2 h ls hl
    rw [mlX0_strayRow_4] at h
    refine lv_iload_n hx hb dX0_strayRow_4 rfl (lv_at hl 2 rfl) ?_
    refine lv_aload_n hx hb dX0_strayRow_5 rfl (lv_at hl 0 rfl) ?_
    refine va_get (D := D) (ci := 0) (v := .int s_heldCount) (C := RX0) (T := TX0) (N := 9) hx hb hts wi_X0_strayRow_X0 hown hK hP 0 rfl rfl 4 (by decide) (hts _ wm_X0_strayRow_0) (fun _ h9 => h9) rfl dX0_strayRow_6 ?_
    refine lv_icmp_ge (tgt := 66) hx hb dX0_strayRow_9 (by decide) (fun c1 => ?_) (fun c1 => ?_)
    · replace h := md_t c1 h
      exact hE x1 h ls (lv_sub hl [1] rfl)
    replace h := md_f c1 h
    refine lv_iload_n hx hb dX0_strayRow_12 rfl (lv_at hl 2 rfl) ?_
    refine lv_bipush (v := 24) hx hb dX0_strayRow_13 (by decide) ?_
    refine lv_icmp_ge (tgt := 66) hx hb dX0_strayRow_15 (by decide) (fun c2 => ?_) (fun c2 => ?_)
    · replace h := md_t c2 h
      exact hE x1 h ls (lv_sub hl [1] rfl)
    replace h := md_f c2 h
    refine lv_aload_n hx hb dX0_strayRow_18 rfl (lv_at hl 0 rfl) ?_
    refine va_get (D := D) (ci := 0) (v := .ref s_heldRows_a) (C := RX0) (T := TX0) (N := 9) hx hb hts wi_X0_strayRow_X0 hown hK hP 0 rfl rfl 0 (by decide) (hts _ wm_X0_strayRow_1) (fun _ h9 => h9) rfl dX0_strayRow_19 ?_
    refine lv_iload_n hx hb dX0_strayRow_22 rfl (lv_at hl 2 rfl) ?_
    obtain ⟨hin3, h⟩ := md_g h
    refine va_iald hx hb hK hP 1 0 rfl rfl hin3 dX0_strayRow_23 ?_
    refine lv_topi (fun x3_4 ex3_4 => ?_)
    replace h := md_le ex3_4 h
    refine lv_istore_n (lv' := [(3, .int x3_4), (0, .ref so), (1, .int x1), (2, .int x2)]) hx hb dX0_strayRow_24 rfl hl (by decide) rfl (fun ls hl => ?_)
    refine lv_iload_n hx hb dX0_strayRow_25 rfl (lv_at hl 0 rfl) ?_
    refine lv_iload_n hx hb dX0_strayRow_26 rfl (lv_at hl 2 rfl) ?_
    obtain ⟨kJ60, ekJ60, h⟩ := md_jo h
    have KJ60 : ∀ (x1_60 : Int32), kJ60 x1_60 = some res → ∀ (ls : Array Slot), lv_has ls 4 [(0, .ref so), (1, .int x1_60), (2, .int x2)] → W p l e rmX0_strayRow s m args below meth c s.heap [] 0 0 Q (F0 m 60 ls []) := by
      intro x1_60 h ls hl
      rw [ekJ60] at h
      obtain ⟨x2_5, ex2_5⟩ : ∃ y : Int32, y = (x2 + (1 : Int32)) := ⟨_, rfl⟩
      replace h := md_le ex2_5 h
      refine lv_iinc (v := x2_5) (lv' := [(2, .int x2_5), (0, .ref so), (1, .int x1_60)]) hx hb dX0_strayRow_60 hl (k := 2) rfl (by rw [ex2_5]; rfl) (by decide) rfl (fun ls hl => ?_)
      refine lv_goto (tgt := 4) hx hb dX0_strayRow_63 (by decide) ?_
      exact ih x1_60 x2_5 h ls (lv_sub hl [1, 2, 0] rfl)
    clear ekJ60
    refine lv_icmp_eq (tgt := 60) hx hb dX0_strayRow_27 (by decide) (fun c6 => ?_) (fun c6 => ?_)
    · replace h := md_t c6 h
      exact KJ60 x1 h ls (lv_sub hl [1, 2, 3] rfl)
    replace h := md_f c6 h
    refine lv_aload_n hx hb dX0_strayRow_30 rfl (lv_at hl 1 rfl) ?_
    refine va_get (D := D) (ci := 0) (v := .ref s_heldSixties_a) (C := RX0) (T := TX0) (N := 9) hx hb hts wi_X0_strayRow_X0 hown hK hP 0 rfl rfl 2 (by decide) (hts _ wm_X0_strayRow_2) (fun _ h9 => h9) rfl dX0_strayRow_31 ?_
    refine lv_iload_n hx hb dX0_strayRow_34 rfl (lv_at hl 3 rfl) ?_
    obtain ⟨hin7, h⟩ := md_g h
    refine va_iald hx hb hK hP 3 0 rfl rfl hin7 dX0_strayRow_35 ?_
    refine lv_aload_n hx hb dX0_strayRow_36 rfl (lv_at hl 1 rfl) ?_
    refine lv_iload_n hx hb dX0_strayRow_37 rfl (lv_at hl 0 rfl) ?_
    refine lv_aload_n hx hb dX0_strayRow_38 rfl (lv_at hl 1 rfl) ?_
    refine va_get (D := D) (ci := 0) (v := .ref s_heldColumns_a) (C := RX0) (T := TX0) (N := 9) hx hb hts wi_X0_strayRow_X0 hown hK hP 0 rfl rfl 1 (by decide) (hts _ wm_X0_strayRow_3) (fun _ h9 => h9) rfl dX0_strayRow_39 ?_
    refine lv_iload_n hx hb dX0_strayRow_42 rfl (lv_at hl 3 rfl) ?_
    obtain ⟨hin8, h⟩ := md_g h
    refine va_iald hx hb hK hP 2 0 rfl rfl hin8 dX0_strayRow_43 ?_
    obtain ⟨u9, hu9, h⟩ := md_b h
    refine kV C (ctX0_sixtyHere l  hu9) gX0_strayRow_X0_sixtyHere rfl kdvX0_sixtyHere ⟨rfl, rfl⟩ ⟨by decide, by decide⟩ kW_blind (va_recv hK hP (ci := 0) (q0 := 0) rfl rfl) (kW_use hK (hP.sub (ws' := [(so, .inr (0, [.ref s_heldRows_a, .ref s_heldColumns_a, .ref s_heldSixties_a, .ref s_certain_a, .int s_heldCount, .int s_rows, .int s_kind, .int s_n, .int s_first])), (s_heldRows_a, .inl (cI, 24, .inl s_heldRows)), (s_heldColumns_a, .inl (cI, 24, .inl s_heldColumns)), (s_heldSixties_a, .inl (cI, 24, .inl s_heldSixties)), (s_certain_a, .inl (cI, 24, .inl s_certain))]) [0, 1, 2, 3, 4] rfl) (kL_ro hLz (fun _ q => q))) rfl hl [.int (s_heldSixties (Int32.toNatClampNeg x2))] rfl (Nat.le_of_ble_eq_true rfl) dX0_strayRow_44 ⟨by decide, by decide⟩ ?_
    refine lv_icmp_eq (tgt := 60) hx hb dX0_strayRow_47 (by decide) (fun c10 => ?_) (fun c10 => ?_)
    · replace h := md_t c10 h
      exact KJ60 x1 h ls (lv_sub hl [1, 2, 3] rfl)
    replace h := md_f c10 h
    refine lv_iload_n hx hb dX0_strayRow_50 rfl (lv_at hl 2 rfl) ?_
    refine lv_iconst (v := -1) hx hb dX0_strayRow_51 (by decide) ?_
    refine lv_icmp_eq (tgt := 58) hx hb dX0_strayRow_52 (by decide) (fun c11 => ?_) (fun c11 => ?_)
    · replace h := md_t c11 h
      refine lv_iload_n hx hb dX0_strayRow_58 rfl (lv_at hl 0 rfl) ?_
      refine lv_istore_n (lv' := [(1, .int x3_4), (3, .int x3_4), (0, .ref so), (2, .int x2)]) hx hb dX0_strayRow_59 rfl hl (by decide) rfl (fun ls hl => ?_)
      exact KJ60 x3_4 h ls (lv_sub hl [2, 0, 3] rfl)
    replace h := md_f c11 h
    refine lv_bipush (v := -2) hx hb dX0_strayRow_55 (by decide) ?_
    exact hQ (-2 : Int32) 57 ls h dX0_strayRow_57
def mX0_strayRow (s_heldRows : Nat → Int32) (s_heldColumns : Nat → Int32) (s_heldSixties : Nat → Int32) (s_heldCount : Int32) (s_kind : Int32) (s_n : Int32) (s_first : Int32) : Option Int32 := (mlX0_strayRow_4 s_heldRows s_heldColumns s_heldSixties s_heldCount s_kind s_n s_first (fun (y1_66 : Int32) => (some y1_66)) kN (-1 : Int32) (0 : Int32))
set_option maxHeartbeats 4000000 in
set_option maxRecDepth 100000 in
theorem bX0_strayRow {p : Program} {l : Launch} {e : Env} {s : State} {m : MethodId} {args : Array Value} {below : List Frame} {meth : Method} {c : Code} {Q : State → Prop} (C : kc p s m args meth c cX0_strayRow 4 RX0 yX0_strayRow.name wsX0_strayRow (some .int)) {D : va_G} {cI cT : ClassId} {so s_heldRows_a s_heldColumns_a s_heldSixties_a s_certain_a : Nat} {aL : Nat} (hK : va_K D vwCl (kTy cI cT) s) (hLz : kLz aL (fun _ => False) s s.heap) (s_heldRows : Nat → Int32) (s_heldColumns : Nat → Int32) (s_heldSixties : Nat → Int32) (s_certain : Nat → Int32) (s_heldCount : Int32) (s_rows : Int32) (s_kind : Int32) (s_n : Int32) (s_first : Int32) (hP : va_P D vwCl [(so, .inr (0, [.ref s_heldRows_a, .ref s_heldColumns_a, .ref s_heldSixties_a, .ref s_certain_a, .int s_heldCount, .int s_rows, .int s_kind, .int s_n, .int s_first])), (s_heldRows_a, .inl (cI, 24, .inl s_heldRows)), (s_heldColumns_a, .inl (cI, 24, .inl s_heldColumns)), (s_heldSixties_a, .inl (cI, 24, .inl s_heldSixties)), (s_certain_a, .inl (cI, 24, .inl s_certain))] s.heap) (res : Int32) (hQ : ∀ (v : Int32) (pc : Nat) (ls : Array Slot), some v = some res → decode cX0_strayRow pc = .ok (.ireturn, 1) → W p l e rmX0_strayRow s m args below meth c s.heap [] 0 0 Q (F0 m pc ls [.int v])) : mX0_strayRow s_heldRows s_heldColumns s_heldSixties s_heldCount s_kind s_n s_first = some res → ∀ (ls : Array Slot), lv_has ls 4 [(0, .ref so)] → W p l e rmX0_strayRow s m args below meth c s.heap [] 0 0 Q (F0 m 0 ls []) := by
  intro h ls hl
  have C0 := C
  obtain ⟨hx, hb, hml, hown, hts, hr, hlk, hnm⟩ := C0
  rw [mX0_strayRow] at h
  refine lv_iconst (v := -1) hx hb dX0_strayRow_0 (by decide) ?_
  refine lv_istore_n (lv' := [(1, .int (-1 : Int32)), (0, .ref so)]) hx hb dX0_strayRow_1 rfl hl (by decide) rfl (fun ls hl => ?_)
  refine lv_iconst (v := 0) hx hb dX0_strayRow_2 (by decide) ?_
  refine lv_istore_n (lv' := [(2, .int (0 : Int32)), (1, .int (-1 : Int32)), (0, .ref so)]) hx hb dX0_strayRow_3 rfl hl (by decide) rfl (fun ls hl => ?_)
  refine lX0_strayRow_4 C hK hLz s_heldRows s_heldColumns s_heldSixties s_certain s_heldCount s_rows s_kind s_n s_first hP res hQ _ (fun y1_66 h ls hl => ?_) kN (-1 : Int32) (0 : Int32) h ls (lv_sub hl [2, 1, 0] rfl)
  refine lv_iload_n hx hb dX0_strayRow_66 rfl (lv_at hl 0 rfl) ?_
  exact hQ y1_66 67 ls h dX0_strayRow_67
set_option maxHeartbeats 4000000 in
theorem ctX0_strayRow (l : Launch) {D : va_G} {cI cT : ClassId} {so s_heldRows_a s_heldColumns_a s_heldSixties_a s_certain_a : Nat} {aL : Nat} {s_heldRows : Nat → Int32} {s_heldColumns : Nat → Int32} {s_heldSixties : Nat → Int32} {s_certain : Nat → Int32} {s_heldCount : Int32} {s_rows : Int32} {s_kind : Int32} {s_n : Int32} {s_first : Int32} {res : Int32} (hm : mX0_strayRow s_heldRows s_heldColumns s_heldSixties s_heldCount s_kind s_n s_first = some res) : Met l yX0_strayRow wsX0_strayRow rmX0_strayRow (va_Pc [.ref so] (kW D cI cT [(so, .inr (0, [.ref s_heldRows_a, .ref s_heldColumns_a, .ref s_heldSixties_a, .ref s_certain_a, .int s_heldCount, .int s_rows, .int s_kind, .int s_n, .int s_first])), (s_heldRows_a, .inl (cI, 24, .inl s_heldRows)), (s_heldColumns_a, .inl (cI, 24, .inl s_heldColumns)), (s_heldSixties_a, .inl (cI, 24, .inl s_heldSixties)), (s_certain_a, .inl (cI, 24, .inl s_certain))] (some aL) (fun _ => False))) (kR (.int res)) 0 0 (fun _ => False) :=
  km (by decide) rfl (Nat.le_of_ble_eq_true rfl) (fun p e s m below meth c ls C hB hl => bX0_strayRow C hB.1 (hB.2.2 aL rfl) s_heldRows s_heldColumns s_heldSixties s_certain s_heldCount s_rows s_kind s_n s_first hB.2.1 res (fun v pc ls h hd => kr_i C h hd) hm ls hl)
theorem kdvX0_nextReading : yX0_nextReading.cls = RX0 ∧ yX0_nextReading.cls ≠ "java/lang/invoke/MethodHandle" ∧ yX0_nextReading.cls ≠ "java/lang/invoke/VarHandle" ∧ (parseMethodDescriptor yX0_nextReading.desc).map (fun d => d.parameters.length) = some 0 := by decide +kernel
abbrev rmX0_nextReading : Room := { frames := 7, cells := 0, slots := 0, locals := 159 }
def mlX0_nextReading_2 (s_heldRows : Nat → Int32) (s_heldColumns : Nat → Int32) (s_heldSixties : Nat → Int32) (s_heldCount : Int32) (s_rows : Int32) (kE : Int32 → Int32 → Int32 → Option (Int32 × Int32 × Int32 × Int32)) : Nat → Int32 → Int32 → Int32 → Int32 → Option (Int32 × Int32 × Int32 × Int32)
  | 0, _, _, _, _ => none
  | n + 1, x1, s_kind, s_n, s_first => (if (4000 : Int32) ≤ x1 then (kE s_kind s_n s_first) else (Option.bind (mX0_nextPlace s_rows s_kind s_n s_first) (fun u2 => (if u2.1 = 0 then (kE u2.2.1 u2.2.2.1 u2.2.2.2) else (Option.bind (mX0_strayRow s_heldRows s_heldColumns s_heldSixties s_heldCount u2.2.1 u2.2.2.1 u2.2.2.2) (fun u4 => (if u4 = (-1 : Int32) then (some ((1 : Int32), u2.2.1, u2.2.2.1, u2.2.2.2)) else (md_let (x1 + (1 : Int32)) (fun (x1_6 : Int32) => (mlX0_nextReading_2 s_heldRows s_heldColumns s_heldSixties s_heldCount s_rows kE n x1_6 u2.2.1 u2.2.2.1 u2.2.2.2))))))))))
set_option maxHeartbeats 4000000 in
set_option maxRecDepth 100000 in
theorem lX0_nextReading_2 {p : Program} {l : Launch} {e : Env} {s : State} {m : MethodId} {args : Array Value} {below : List Frame} {meth : Method} {c : Code} {Q : State → Prop} (C : kc p s m args meth c cX0_nextReading 2 RX0 yX0_nextReading.name wsX0_nextReading (some .boolean)) {D : va_G} {cI cT : ClassId} {so s_heldRows_a s_heldColumns_a s_heldSixties_a s_certain_a : Nat} {aL : Nat} (hK : va_K D vwCl (kTy cI cT) s) (hLz : kLz aL (fun q => q ∈ ([so, s_heldRows_a, s_heldColumns_a, s_heldSixties_a, s_certain_a] : List Nat)) s s.heap) (hnd : ([so, s_heldRows_a, s_heldColumns_a, s_heldSixties_a, s_certain_a] : List Nat).Nodup) (s_heldRows : Nat → Int32) (s_heldColumns : Nat → Int32) (s_heldSixties : Nat → Int32) (s_certain : Nat → Int32) (s_heldCount : Int32) (s_rows : Int32) (res : (Int32 × Int32 × Int32 × Int32)) (hQ : ∀ (v : Int32) (s_kind : Int32) (s_n : Int32) (s_first : Int32) (H : Heap) (locs : List Loc) (pc : Nat) (ls : Array Slot), v = 0 ∨ v = 1 → some (v, s_kind, s_n, s_first) = some res → va_P D vwCl [(so, .inr (0, [.ref s_heldRows_a, .ref s_heldColumns_a, .ref s_heldSixties_a, .ref s_certain_a, .int s_heldCount, .int s_rows, .int s_kind, .int s_n, .int s_first])), (s_heldRows_a, .inl (cI, 24, .inl s_heldRows)), (s_heldColumns_a, .inl (cI, 24, .inl s_heldColumns)), (s_heldSixties_a, .inl (cI, 24, .inl s_heldSixties)), (s_certain_a, .inl (cI, 24, .inl s_certain))] H → va_S (fun q => q ∈ ([so, s_heldRows_a, s_heldColumns_a, s_heldSixties_a, s_certain_a] : List Nat)) s.heap H locs → decode cX0_nextReading pc = .ok (.ireturn, 1) → W p l e rmX0_nextReading s m args below meth c H locs 0 0 Q (F0 m pc ls [.int v])) (kE : Int32 → Int32 → Int32 → Option (Int32 × Int32 × Int32 × Int32)) (hE : ∀ (s_kind : Int32) (s_n : Int32) (s_first : Int32), kE s_kind s_n s_first = some res → ∀ (H : Heap) (locs : List Loc), va_P D vwCl [(so, .inr (0, [.ref s_heldRows_a, .ref s_heldColumns_a, .ref s_heldSixties_a, .ref s_certain_a, .int s_heldCount, .int s_rows, .int s_kind, .int s_n, .int s_first])), (s_heldRows_a, .inl (cI, 24, .inl s_heldRows)), (s_heldColumns_a, .inl (cI, 24, .inl s_heldColumns)), (s_heldSixties_a, .inl (cI, 24, .inl s_heldSixties)), (s_certain_a, .inl (cI, 24, .inl s_certain))] H → va_S (fun q => q ∈ ([so, s_heldRows_a, s_heldColumns_a, s_heldSixties_a, s_certain_a] : List Nat)) s.heap H locs → ∀ (ls : Array Slot), lv_has ls 2 [] → W p l e rmX0_nextReading s m args below meth c H locs 0 0 Q (F0 m 32 ls [])) : ∀ (n : Nat), ∀ (x1 : Int32) (s_kind : Int32) (s_n : Int32) (s_first : Int32), mlX0_nextReading_2 s_heldRows s_heldColumns s_heldSixties s_heldCount s_rows kE n x1 s_kind s_n s_first = some res → ∀ (H : Heap) (locs : List Loc), va_P D vwCl [(so, .inr (0, [.ref s_heldRows_a, .ref s_heldColumns_a, .ref s_heldSixties_a, .ref s_certain_a, .int s_heldCount, .int s_rows, .int s_kind, .int s_n, .int s_first])), (s_heldRows_a, .inl (cI, 24, .inl s_heldRows)), (s_heldColumns_a, .inl (cI, 24, .inl s_heldColumns)), (s_heldSixties_a, .inl (cI, 24, .inl s_heldSixties)), (s_certain_a, .inl (cI, 24, .inl s_certain))] H → va_S (fun q => q ∈ ([so, s_heldRows_a, s_heldColumns_a, s_heldSixties_a, s_certain_a] : List Nat)) s.heap H locs → ∀ (ls : Array Slot), lv_has ls 2 [(0, .ref so), (1, .int x1)] → W p l e rmX0_nextReading s m args below meth c H locs 0 0 Q (F0 m 2 ls []) := by
  have C0 := C
  obtain ⟨hx, hb, hml, hown, hts, hr, hlk, hnm⟩ := C0
  intro n
  induction n with
  | zero => intro _ _ _ _ h; exact md_x h
  | succ n ih =>
    intro x1 s_kind s_n s_first h H locs hP hS ls hl
    rw [mlX0_nextReading_2] at h
    refine lv_iload_n hx hb dX0_nextReading_2 rfl (lv_at hl 1 rfl) ?_
    refine lv_sipush (v := 4000) hx hb dX0_nextReading_3 (by decide) ?_
    refine lv_icmp_ge (tgt := 32) hx hb dX0_nextReading_6 (by decide) (fun c1 => ?_) (fun c1 => ?_)
    · replace h := md_t c1 h
      exact hE s_kind s_n s_first h _ _ hP hS ls (lv_sub hl [] rfl)
    replace h := md_f c1 h
    refine lv_aload_n hx hb dX0_nextReading_9 rfl (lv_at hl 0 rfl) ?_
    obtain ⟨u2, hu2, h⟩ := md_b h
    refine kVx C (ctX0_nextPlace l (nd_sub hnd [0, 1, 2, 3, 4] (by decide) rfl) hu2) gX0_nextReading_X0_nextPlace rfl kdvX0_nextPlace ⟨rfl, rfl⟩ ⟨by decide, by decide⟩ kW_blind (va_recv hK hP (ci := 0) (q0 := 0) rfl rfl) (kW_use hK (hP.sub (ws' := [(so, .inr (0, [.ref s_heldRows_a, .ref s_heldColumns_a, .ref s_heldSixties_a, .ref s_certain_a, .int s_heldCount, .int s_rows, .int s_kind, .int s_n, .int s_first])), (s_heldRows_a, .inl (cI, 24, .inl s_heldRows)), (s_heldColumns_a, .inl (cI, 24, .inl s_heldColumns)), (s_heldSixties_a, .inl (cI, 24, .inl s_heldSixties)), (s_certain_a, .inl (cI, 24, .inl s_certain))]) [0, 1, 2, 3, 4] rfl) (kL_at hLz hS (mem_sub [0, 1, 2, 3, 4] rfl))) rfl hl [] rfl (Nat.le_of_ble_eq_true rfl) dX0_nextReading_10 ⟨by decide, by decide⟩ hS (mem_sub [0, 1, 2, 3, 4] rfl) (fun H1 locs hP1 hk1 hS => ?_)
    replace hP : va_P D vwCl [(so, .inr (0, [.ref s_heldRows_a, .ref s_heldColumns_a, .ref s_heldSixties_a, .ref s_certain_a, .int s_heldCount, .int s_rows, .int u2.2.1, .int u2.2.2.1, .int u2.2.2.2])), (s_heldRows_a, .inl (cI, 24, .inl s_heldRows)), (s_heldColumns_a, .inl (cI, 24, .inl s_heldColumns)), (s_heldSixties_a, .inl (cI, 24, .inl s_heldSixties)), (s_certain_a, .inl (cI, 24, .inl s_certain))] H1 := kjoin hnd rfl hP hP1 hk1 [0, 1, 2, 3, 4] rfl [(true, 0), (true, 1), (true, 2), (true, 3), (true, 4)] rfl rfl
    clear hP1 hk1
    generalize H1 = H at hP hS ⊢
    refine lv_if_eq (tgt := 32) hx hb dX0_nextReading_13 (by decide) (fun c3 => ?_) (fun c3 => ?_)
    · replace h := md_t c3 h
      exact hE u2.2.1 u2.2.2.1 u2.2.2.2 h _ _ hP hS ls (lv_sub hl [] rfl)
    replace h := md_f c3 h
    refine lv_aload_n hx hb dX0_nextReading_16 rfl (lv_at hl 0 rfl) ?_
    obtain ⟨u4, hu4, h⟩ := md_b h
    refine kV C (ctX0_strayRow l  hu4) gX0_nextReading_X0_strayRow rfl kdvX0_strayRow ⟨rfl, rfl⟩ ⟨by decide, by decide⟩ kW_blind (va_recv hK hP (ci := 0) (q0 := 0) rfl rfl) (kW_use hK (hP.sub (ws' := [(so, .inr (0, [.ref s_heldRows_a, .ref s_heldColumns_a, .ref s_heldSixties_a, .ref s_certain_a, .int s_heldCount, .int s_rows, .int u2.2.1, .int u2.2.2.1, .int u2.2.2.2])), (s_heldRows_a, .inl (cI, 24, .inl s_heldRows)), (s_heldColumns_a, .inl (cI, 24, .inl s_heldColumns)), (s_heldSixties_a, .inl (cI, 24, .inl s_heldSixties)), (s_certain_a, .inl (cI, 24, .inl s_certain))]) [0, 1, 2, 3, 4] rfl) (kL_at hLz hS (fun _ q => q.elim))) rfl hl [] rfl (Nat.le_of_ble_eq_true rfl) dX0_nextReading_17 ⟨by decide, by decide⟩ ?_
    refine lv_iconst (v := -1) hx hb dX0_nextReading_20 (by decide) ?_
    refine lv_icmp_ne (tgt := 26) hx hb dX0_nextReading_21 (by decide) (fun c5 => ?_) (fun c5 => ?_)
    · replace h := md_f c5 h
      obtain ⟨x1_6, ex1_6⟩ : ∃ y : Int32, y = (x1 + (1 : Int32)) := ⟨_, rfl⟩
      replace h := md_le ex1_6 h
      refine lv_iinc (v := x1_6) (lv' := [(1, .int x1_6), (0, .ref so)]) hx hb dX0_nextReading_26 hl (k := 1) rfl (by rw [ex1_6]; rfl) (by decide) rfl (fun ls hl => ?_)
      refine lv_goto (tgt := 2) hx hb dX0_nextReading_29 (by decide) ?_
      exact ih x1_6 u2.2.1 u2.2.2.1 u2.2.2.2 h _ _ hP hS ls (lv_sub hl [1, 0] rfl)
    replace h := md_t c5 h
    refine lv_iconst (v := 1) hx hb dX0_nextReading_24 (by decide) ?_
    exact hQ (1 : Int32) u2.2.1 u2.2.2.1 u2.2.2.2 H locs 25 ls (by decide) h hP hS dX0_nextReading_25
def mX0_nextReading (s_heldRows : Nat → Int32) (s_heldColumns : Nat → Int32) (s_heldSixties : Nat → Int32) (s_heldCount : Int32) (s_rows : Int32) (s_kind : Int32) (s_n : Int32) (s_first : Int32) : Option (Int32 × Int32 × Int32 × Int32) := (mlX0_nextReading_2 s_heldRows s_heldColumns s_heldSixties s_heldCount s_rows (fun (s_kind_32 : Int32) (s_n_32 : Int32) (s_first_32 : Int32) => (some ((0 : Int32), s_kind_32, s_n_32, s_first_32))) kN (0 : Int32) s_kind s_n s_first)
set_option maxHeartbeats 4000000 in
set_option maxRecDepth 100000 in
theorem bX0_nextReading {p : Program} {l : Launch} {e : Env} {s : State} {m : MethodId} {args : Array Value} {below : List Frame} {meth : Method} {c : Code} {Q : State → Prop} (C : kc p s m args meth c cX0_nextReading 2 RX0 yX0_nextReading.name wsX0_nextReading (some .boolean)) {D : va_G} {cI cT : ClassId} {so s_heldRows_a s_heldColumns_a s_heldSixties_a s_certain_a : Nat} {aL : Nat} (hK : va_K D vwCl (kTy cI cT) s) (hLz : kLz aL (fun q => q ∈ ([so, s_heldRows_a, s_heldColumns_a, s_heldSixties_a, s_certain_a] : List Nat)) s s.heap) (hnd : ([so, s_heldRows_a, s_heldColumns_a, s_heldSixties_a, s_certain_a] : List Nat).Nodup) (s_heldRows : Nat → Int32) (s_heldColumns : Nat → Int32) (s_heldSixties : Nat → Int32) (s_certain : Nat → Int32) (s_heldCount : Int32) (s_rows : Int32) (s_kind : Int32) (s_n : Int32) (s_first : Int32) (res : (Int32 × Int32 × Int32 × Int32)) (hQ : ∀ (v : Int32) (s_kind : Int32) (s_n : Int32) (s_first : Int32) (H : Heap) (locs : List Loc) (pc : Nat) (ls : Array Slot), v = 0 ∨ v = 1 → some (v, s_kind, s_n, s_first) = some res → va_P D vwCl [(so, .inr (0, [.ref s_heldRows_a, .ref s_heldColumns_a, .ref s_heldSixties_a, .ref s_certain_a, .int s_heldCount, .int s_rows, .int s_kind, .int s_n, .int s_first])), (s_heldRows_a, .inl (cI, 24, .inl s_heldRows)), (s_heldColumns_a, .inl (cI, 24, .inl s_heldColumns)), (s_heldSixties_a, .inl (cI, 24, .inl s_heldSixties)), (s_certain_a, .inl (cI, 24, .inl s_certain))] H → va_S (fun q => q ∈ ([so, s_heldRows_a, s_heldColumns_a, s_heldSixties_a, s_certain_a] : List Nat)) s.heap H locs → decode cX0_nextReading pc = .ok (.ireturn, 1) → W p l e rmX0_nextReading s m args below meth c H locs 0 0 Q (F0 m pc ls [.int v])) : mX0_nextReading s_heldRows s_heldColumns s_heldSixties s_heldCount s_rows s_kind s_n s_first = some res → ∀ (H : Heap) (locs : List Loc), va_P D vwCl [(so, .inr (0, [.ref s_heldRows_a, .ref s_heldColumns_a, .ref s_heldSixties_a, .ref s_certain_a, .int s_heldCount, .int s_rows, .int s_kind, .int s_n, .int s_first])), (s_heldRows_a, .inl (cI, 24, .inl s_heldRows)), (s_heldColumns_a, .inl (cI, 24, .inl s_heldColumns)), (s_heldSixties_a, .inl (cI, 24, .inl s_heldSixties)), (s_certain_a, .inl (cI, 24, .inl s_certain))] H → va_S (fun q => q ∈ ([so, s_heldRows_a, s_heldColumns_a, s_heldSixties_a, s_certain_a] : List Nat)) s.heap H locs → ∀ (ls : Array Slot), lv_has ls 2 [(0, .ref so)] → W p l e rmX0_nextReading s m args below meth c H locs 0 0 Q (F0 m 0 ls []) := by
  intro h H locs hP hS ls hl
  have C0 := C
  obtain ⟨hx, hb, hml, hown, hts, hr, hlk, hnm⟩ := C0
  rw [mX0_nextReading] at h
  refine lv_iconst (v := 0) hx hb dX0_nextReading_0 (by decide) ?_
  refine lv_istore_n (lv' := [(1, .int (0 : Int32)), (0, .ref so)]) hx hb dX0_nextReading_1 rfl hl (by decide) rfl (fun ls hl => ?_)
  refine lX0_nextReading_2 C hK hLz hnd s_heldRows s_heldColumns s_heldSixties s_certain s_heldCount s_rows res hQ _ (fun s_kind_32 s_n_32 s_first_32 h H locs hP hS ls hl => ?_) kN (0 : Int32) s_kind s_n s_first h _ _ hP hS ls (lv_sub hl [1, 0] rfl)
  refine lv_iconst (v := 0) hx hb dX0_nextReading_32 (by decide) ?_
  exact hQ (0 : Int32) s_kind_32 s_n_32 s_first_32 H locs 33 ls (by decide) h hP hS dX0_nextReading_33
set_option maxHeartbeats 4000000 in
theorem ctX0_nextReading (l : Launch) {D : va_G} {cI cT : ClassId} {so s_heldRows_a s_heldColumns_a s_heldSixties_a s_certain_a : Nat} {aL : Nat} {s_heldRows : Nat → Int32} {s_heldColumns : Nat → Int32} {s_heldSixties : Nat → Int32} {s_certain : Nat → Int32} {s_heldCount : Int32} {s_rows : Int32} {s_kind : Int32} {s_n : Int32} {s_first : Int32} {res : (Int32 × Int32 × Int32 × Int32)} (hnd : ([so, s_heldRows_a, s_heldColumns_a, s_heldSixties_a, s_certain_a] : List Nat).Nodup) (hm : mX0_nextReading s_heldRows s_heldColumns s_heldSixties s_heldCount s_rows s_kind s_n s_first = some res) : Met l yX0_nextReading wsX0_nextReading rmX0_nextReading (va_Pc [.ref so] (kW D cI cT [(so, .inr (0, [.ref s_heldRows_a, .ref s_heldColumns_a, .ref s_heldSixties_a, .ref s_certain_a, .int s_heldCount, .int s_rows, .int s_kind, .int s_n, .int s_first])), (s_heldRows_a, .inl (cI, 24, .inl s_heldRows)), (s_heldColumns_a, .inl (cI, 24, .inl s_heldColumns)), (s_heldSixties_a, .inl (cI, 24, .inl s_heldSixties)), (s_certain_a, .inl (cI, 24, .inl s_certain))] (some aL) (fun q => q ∈ ([so, s_heldRows_a, s_heldColumns_a, s_heldSixties_a, s_certain_a] : List Nat)))) (kX (some (.int res.1)) D [(so, .inr (0, [.ref s_heldRows_a, .ref s_heldColumns_a, .ref s_heldSixties_a, .ref s_certain_a, .int s_heldCount, .int s_rows, .int res.2.1, .int res.2.2.1, .int res.2.2.2])), (s_heldRows_a, .inl (cI, 24, .inl s_heldRows)), (s_heldColumns_a, .inl (cI, 24, .inl s_heldColumns)), (s_heldSixties_a, .inl (cI, 24, .inl s_heldSixties)), (s_certain_a, .inl (cI, 24, .inl s_certain))] (fun q => q ∈ ([so, s_heldRows_a, s_heldColumns_a, s_heldSixties_a, s_certain_a] : List Nat))) 0 0 (fun q => q ∈ ([so, s_heldRows_a, s_heldColumns_a, s_heldSixties_a, s_certain_a] : List Nat)) :=
  km (by decide) rfl (Nat.le_of_ble_eq_true rfl) (fun p e s m below meth c ls C hB hl => bX0_nextReading C hB.1 (hB.2.2 aL rfl) hnd s_heldRows s_heldColumns s_heldSixties s_certain s_heldCount s_rows s_kind s_n s_first res (fun v s_kind1 s_n1 s_first1 H locs pc ls hz h hP hS hd => by obtain rfl := Option.some.inj h; exact kx_z C hz hP hS hd) hm s.heap [] hB.2.1 va_S.rf ls hl)
theorem wm_X0_code_0 : Cond.fieldLink RX0 33 "SixtyTablet$Search" "kind" "I" ∈ wsX0_code := by decide +kernel
theorem wm_X0_code_1 : Cond.fieldLink RX0 36 "SixtyTablet$Search" "n" "I" ∈ wsX0_code := by decide +kernel
theorem wm_X0_code_2 : Cond.fieldLink RX0 39 "SixtyTablet$Search" "first" "I" ∈ wsX0_code := by decide +kernel
theorem wi_X0_code_X0 : ∀ w ∈ wsX00, w ∈ wsX0_code := by decide +kernel
theorem kdvX0_code : yX0_code.cls = RX0 ∧ yX0_code.cls ≠ "java/lang/invoke/MethodHandle" ∧ yX0_code.cls ≠ "java/lang/invoke/VarHandle" ∧ (parseMethodDescriptor yX0_code.desc).map (fun d => d.parameters.length) = some 0 := by decide +kernel
abbrev rmX0_code : Room := { frames := 0, cells := 0, slots := 0, locals := 0 }
def mX0_code (s_kind : Int32) (s_n : Int32) (s_first : Int32) : Option Int32 := (some ((((10000 : Int32) * s_kind) + ((100 : Int32) * s_n)) + s_first))
set_option maxHeartbeats 4000000 in
set_option maxRecDepth 100000 in
theorem bX0_code {p : Program} {l : Launch} {e : Env} {s : State} {m : MethodId} {args : Array Value} {below : List Frame} {meth : Method} {c : Code} {Q : State → Prop} (C : kc p s m args meth c cX0_code 1 RX0 yX0_code.name wsX0_code (some .int)) {D : va_G} {cI cT : ClassId} {so s_heldRows_a s_heldColumns_a s_heldSixties_a s_certain_a : Nat} (hK : va_K D vwCl (kTy cI cT) s) (s_heldRows : Nat → Int32) (s_heldColumns : Nat → Int32) (s_heldSixties : Nat → Int32) (s_certain : Nat → Int32) (s_heldCount : Int32) (s_rows : Int32) (s_kind : Int32) (s_n : Int32) (s_first : Int32) (hP : va_P D vwCl [(so, .inr (0, [.ref s_heldRows_a, .ref s_heldColumns_a, .ref s_heldSixties_a, .ref s_certain_a, .int s_heldCount, .int s_rows, .int s_kind, .int s_n, .int s_first])), (s_heldRows_a, .inl (cI, 24, .inl s_heldRows)), (s_heldColumns_a, .inl (cI, 24, .inl s_heldColumns)), (s_heldSixties_a, .inl (cI, 24, .inl s_heldSixties)), (s_certain_a, .inl (cI, 24, .inl s_certain))] s.heap) (res : Int32) (hQ : ∀ (v : Int32) (pc : Nat) (ls : Array Slot), some v = some res → decode cX0_code pc = .ok (.ireturn, 1) → W p l e rmX0_code s m args below meth c s.heap [] 0 0 Q (F0 m pc ls [.int v])) : mX0_code s_kind s_n s_first = some res → ∀ (ls : Array Slot), lv_has ls 1 [(0, .ref so)] → W p l e rmX0_code s m args below meth c s.heap [] 0 0 Q (F0 m 0 ls []) := by
  intro h ls hl
  have C0 := C
  obtain ⟨hx, hb, hml, hown, hts, hr, hlk, hnm⟩ := C0
  rw [mX0_code] at h
  refine lv_sipush (v := 10000) hx hb dX0_code_0 (by decide) ?_
  refine lv_aload_n hx hb dX0_code_3 rfl (lv_at hl 0 rfl) ?_
  refine va_get (D := D) (ci := 0) (v := .int s_kind) (C := RX0) (T := TX0) (N := 9) hx hb hts wi_X0_code_X0 hown hK hP 0 rfl rfl 6 (by decide) (hts _ wm_X0_code_0) (fun _ h9 => h9) rfl dX0_code_4 ?_
  refine lv_imul hx hb dX0_code_7 ?_
  refine lv_bipush (v := 100) hx hb dX0_code_8 (by decide) ?_
  refine lv_aload_n hx hb dX0_code_10 rfl (lv_at hl 0 rfl) ?_
  refine va_get (D := D) (ci := 0) (v := .int s_n) (C := RX0) (T := TX0) (N := 9) hx hb hts wi_X0_code_X0 hown hK hP 0 rfl rfl 7 (by decide) (hts _ wm_X0_code_1) (fun _ h9 => h9) rfl dX0_code_11 ?_
  refine lv_imul hx hb dX0_code_14 ?_
  refine lv_iadd hx hb dX0_code_15 ?_
  refine lv_aload_n hx hb dX0_code_16 rfl (lv_at hl 0 rfl) ?_
  refine va_get (D := D) (ci := 0) (v := .int s_first) (C := RX0) (T := TX0) (N := 9) hx hb hts wi_X0_code_X0 hown hK hP 0 rfl rfl 8 (by decide) (hts _ wm_X0_code_2) (fun _ h9 => h9) rfl dX0_code_17 ?_
  refine lv_iadd hx hb dX0_code_20 ?_
  exact hQ ((((10000 : Int32) * s_kind) + ((100 : Int32) * s_n)) + s_first) 21 ls h dX0_code_21
set_option maxHeartbeats 4000000 in
theorem ctX0_code (l : Launch) {D : va_G} {cI cT : ClassId} {so s_heldRows_a s_heldColumns_a s_heldSixties_a s_certain_a : Nat} {s_heldRows : Nat → Int32} {s_heldColumns : Nat → Int32} {s_heldSixties : Nat → Int32} {s_certain : Nat → Int32} {s_heldCount : Int32} {s_rows : Int32} {s_kind : Int32} {s_n : Int32} {s_first : Int32} {res : Int32} (hm : mX0_code s_kind s_n s_first = some res) : Met l yX0_code wsX0_code rmX0_code (va_Pc [.ref so] (kW D cI cT [(so, .inr (0, [.ref s_heldRows_a, .ref s_heldColumns_a, .ref s_heldSixties_a, .ref s_certain_a, .int s_heldCount, .int s_rows, .int s_kind, .int s_n, .int s_first])), (s_heldRows_a, .inl (cI, 24, .inl s_heldRows)), (s_heldColumns_a, .inl (cI, 24, .inl s_heldColumns)), (s_heldSixties_a, .inl (cI, 24, .inl s_heldSixties)), (s_certain_a, .inl (cI, 24, .inl s_certain))] none (fun _ => False))) (kR (.int res)) 0 0 (fun _ => False) :=
  km (by decide) rfl (Nat.le_of_ble_eq_true rfl) (fun p e s m below meth c ls C hB hl => bX0_code C hB.1 s_heldRows s_heldColumns s_heldSixties s_certain s_heldCount s_rows s_kind s_n s_first hB.2.1 res (fun v pc ls h hd => kr_i C h hd) hm ls hl)
theorem wm_X0_takeAll_0 : Cond.fieldLink RX0 28 "SixtyTablet$Search" "rows" "I" ∈ wsX0_takeAll := by decide +kernel
theorem wm_X0_takeAll_1 : Cond.fieldLink RX0 21 "SixtyTablet$Search" "certain" "[I" ∈ wsX0_takeAll := by decide +kernel
theorem wi_X0_takeAll_X0 : ∀ w ∈ wsX00, w ∈ wsX0_takeAll := by decide +kernel
theorem kdvX0_takeAll : yX0_takeAll.cls = RX0 ∧ yX0_takeAll.cls ≠ "java/lang/invoke/MethodHandle" ∧ yX0_takeAll.cls ≠ "java/lang/invoke/VarHandle" ∧ (parseMethodDescriptor yX0_takeAll.desc).map (fun d => d.parameters.length) = some 0 := by decide +kernel
abbrev rmX0_takeAll : Room := { frames := 6, cells := 0, slots := 0, locals := 136 }
def mlX0_takeAll_2 (s_rows : Int32) (s_kind : Int32) (s_n : Int32) (s_first : Int32) (kE : (Nat → Int32) → Option (Nat → Int32)) : Nat → Int32 → (Nat → Int32) → Option (Nat → Int32)
  | 0, _, _ => none
  | n + 1, x1, s_certain => (if (s_rows * (3 : Int32)) ≤ x1 then (kE s_certain) else (if (24 : Int32) ≤ x1 then (kE s_certain) else (Option.bind (mX0_sixtyHere s_kind s_n s_first (x1 / (3 : Int32)) (x1 - x1 / (3 : Int32) * (3 : Int32))) (fun u3 => (if x1 < 0 ∨ 24 ≤ (Int32.toNatClampNeg x1) then none else (md_let (upd s_certain (Int32.toNatClampNeg x1) u3) (fun (s_certain_4 : Nat → Int32) => (md_let (x1 + (1 : Int32)) (fun (x1_5 : Int32) => (mlX0_takeAll_2 s_rows s_kind s_n s_first kE n x1_5 s_certain_4))))))))))
set_option maxHeartbeats 4000000 in
set_option maxRecDepth 100000 in
theorem lX0_takeAll_2 {p : Program} {l : Launch} {e : Env} {s : State} {m : MethodId} {args : Array Value} {below : List Frame} {meth : Method} {c : Code} {Q : State → Prop} (C : kc p s m args meth c cX0_takeAll 2 RX0 yX0_takeAll.name wsX0_takeAll none) {D : va_G} {cI cT : ClassId} {so s_heldRows_a s_heldColumns_a s_heldSixties_a s_certain_a : Nat} {aL : Nat} (hK : va_K D vwCl (kTy cI cT) s) (hLz : kLz aL (fun q => q ∈ ([so, s_heldRows_a, s_heldColumns_a, s_heldSixties_a, s_certain_a] : List Nat)) s s.heap) (hnd : ([so, s_heldRows_a, s_heldColumns_a, s_heldSixties_a, s_certain_a] : List Nat).Nodup) (s_heldRows : Nat → Int32) (s_heldColumns : Nat → Int32) (s_heldSixties : Nat → Int32) (s_heldCount : Int32) (s_rows : Int32) (s_kind : Int32) (s_n : Int32) (s_first : Int32) (res : (Nat → Int32)) (hQ : ∀ (s_certain : Nat → Int32) (H : Heap) (locs : List Loc) (pc : Nat) (ls : Array Slot), some s_certain = some res → va_P D vwCl [(so, .inr (0, [.ref s_heldRows_a, .ref s_heldColumns_a, .ref s_heldSixties_a, .ref s_certain_a, .int s_heldCount, .int s_rows, .int s_kind, .int s_n, .int s_first])), (s_heldRows_a, .inl (cI, 24, .inl s_heldRows)), (s_heldColumns_a, .inl (cI, 24, .inl s_heldColumns)), (s_heldSixties_a, .inl (cI, 24, .inl s_heldSixties)), (s_certain_a, .inl (cI, 24, .inl s_certain))] H → va_S (fun q => q ∈ ([so, s_heldRows_a, s_heldColumns_a, s_heldSixties_a, s_certain_a] : List Nat)) s.heap H locs → decode cX0_takeAll pc = .ok (.return_, 1) → W p l e rmX0_takeAll s m args below meth c H locs 0 0 Q (F0 m pc ls [])) (kE : (Nat → Int32) → Option (Nat → Int32)) (hE : ∀ (s_certain : Nat → Int32), kE s_certain = some res → ∀ (H : Heap) (locs : List Loc), va_P D vwCl [(so, .inr (0, [.ref s_heldRows_a, .ref s_heldColumns_a, .ref s_heldSixties_a, .ref s_certain_a, .int s_heldCount, .int s_rows, .int s_kind, .int s_n, .int s_first])), (s_heldRows_a, .inl (cI, 24, .inl s_heldRows)), (s_heldColumns_a, .inl (cI, 24, .inl s_heldColumns)), (s_heldSixties_a, .inl (cI, 24, .inl s_heldSixties)), (s_certain_a, .inl (cI, 24, .inl s_certain))] H → va_S (fun q => q ∈ ([so, s_heldRows_a, s_heldColumns_a, s_heldSixties_a, s_certain_a] : List Nat)) s.heap H locs → ∀ (ls : Array Slot), lv_has ls 2 [] → W p l e rmX0_takeAll s m args below meth c H locs 0 0 Q (F0 m 40 ls [])) : ∀ (n : Nat), ∀ (x1 : Int32) (s_certain : Nat → Int32), mlX0_takeAll_2 s_rows s_kind s_n s_first kE n x1 s_certain = some res → ∀ (H : Heap) (locs : List Loc), va_P D vwCl [(so, .inr (0, [.ref s_heldRows_a, .ref s_heldColumns_a, .ref s_heldSixties_a, .ref s_certain_a, .int s_heldCount, .int s_rows, .int s_kind, .int s_n, .int s_first])), (s_heldRows_a, .inl (cI, 24, .inl s_heldRows)), (s_heldColumns_a, .inl (cI, 24, .inl s_heldColumns)), (s_heldSixties_a, .inl (cI, 24, .inl s_heldSixties)), (s_certain_a, .inl (cI, 24, .inl s_certain))] H → va_S (fun q => q ∈ ([so, s_heldRows_a, s_heldColumns_a, s_heldSixties_a, s_certain_a] : List Nat)) s.heap H locs → ∀ (ls : Array Slot), lv_has ls 2 [(0, .ref so), (1, .int x1)] → W p l e rmX0_takeAll s m args below meth c H locs 0 0 Q (F0 m 2 ls []) := by
  have C0 := C
  obtain ⟨hx, hb, hml, hown, hts, hr, hlk, hnm⟩ := C0
  intro n
  induction n with
  | zero => intro _ _ h; exact md_x h
  | succ n ih =>
    intro x1 s_certain h H locs hP hS ls hl
    rw [mlX0_takeAll_2] at h
    refine lv_iload_n hx hb dX0_takeAll_2 rfl (lv_at hl 1 rfl) ?_
    refine lv_aload_n hx hb dX0_takeAll_3 rfl (lv_at hl 0 rfl) ?_
    refine va_get (D := D) (ci := 0) (v := .int s_rows) (C := RX0) (T := TX0) (N := 9) hx hb hts wi_X0_takeAll_X0 hown hK hP 0 rfl rfl 5 (by decide) (hts _ wm_X0_takeAll_0) (fun _ h9 => h9) rfl dX0_takeAll_4 ?_
    refine lv_iconst (v := 3) hx hb dX0_takeAll_7 (by decide) ?_
    refine lv_imul hx hb dX0_takeAll_8 ?_
    refine lv_icmp_ge (tgt := 40) hx hb dX0_takeAll_9 (by decide) (fun c1 => ?_) (fun c1 => ?_)
    · replace h := md_t c1 h
      exact hE s_certain h _ _ hP hS ls (lv_sub hl [] rfl)
    replace h := md_f c1 h
    refine lv_iload_n hx hb dX0_takeAll_12 rfl (lv_at hl 1 rfl) ?_
    refine lv_bipush (v := 24) hx hb dX0_takeAll_13 (by decide) ?_
    refine lv_icmp_ge (tgt := 40) hx hb dX0_takeAll_15 (by decide) (fun c2 => ?_) (fun c2 => ?_)
    · replace h := md_t c2 h
      exact hE s_certain h _ _ hP hS ls (lv_sub hl [] rfl)
    replace h := md_f c2 h
    refine lv_aload_n hx hb dX0_takeAll_18 rfl (lv_at hl 0 rfl) ?_
    refine va_get (D := D) (ci := 0) (v := .ref s_certain_a) (C := RX0) (T := TX0) (N := 9) hx hb hts wi_X0_takeAll_X0 hown hK hP 0 rfl rfl 3 (by decide) (hts _ wm_X0_takeAll_1) (fun _ h9 => h9) rfl dX0_takeAll_19 ?_
    refine lv_iload_n hx hb dX0_takeAll_22 rfl (lv_at hl 1 rfl) ?_
    refine lv_aload_n hx hb dX0_takeAll_23 rfl (lv_at hl 0 rfl) ?_
    refine lv_iload_n hx hb dX0_takeAll_24 rfl (lv_at hl 1 rfl) ?_
    refine lv_iconst (v := 3) hx hb dX0_takeAll_25 (by decide) ?_
    refine lv_idiv hx hb dX0_takeAll_26 (by decide) ?_
    refine lv_iload_n hx hb dX0_takeAll_27 rfl (lv_at hl 1 rfl) ?_
    refine lv_iconst (v := 3) hx hb dX0_takeAll_28 (by decide) ?_
    refine lv_irem hx hb dX0_takeAll_29 (by decide) ?_
    obtain ⟨u3, hu3, h⟩ := md_b h
    refine kV C (ctX0_sixtyHere l  hu3) gX0_takeAll_X0_sixtyHere rfl kdvX0_sixtyHere ⟨rfl, rfl⟩ ⟨by decide, by decide⟩ kW_blind (va_recv hK hP (ci := 0) (q0 := 0) rfl rfl) (kW_use hK (hP.sub (ws' := [(so, .inr (0, [.ref s_heldRows_a, .ref s_heldColumns_a, .ref s_heldSixties_a, .ref s_certain_a, .int s_heldCount, .int s_rows, .int s_kind, .int s_n, .int s_first])), (s_heldRows_a, .inl (cI, 24, .inl s_heldRows)), (s_heldColumns_a, .inl (cI, 24, .inl s_heldColumns)), (s_heldSixties_a, .inl (cI, 24, .inl s_heldSixties)), (s_certain_a, .inl (cI, 24, .inl s_certain))]) [0, 1, 2, 3, 4] rfl) (kL_at hLz hS (fun _ q => q.elim))) rfl hl [.int x1, .ref s_certain_a] rfl (Nat.le_of_ble_eq_true rfl) dX0_takeAll_30 ⟨by decide, by decide⟩ ?_
    obtain ⟨hin4, h⟩ := md_g h
    refine va_iast hx hb hK hP (kD hnd rfl) hS 4 0 rfl rfl hin4 dX0_takeAll_33 (fun H locs hP _ hS => ?_)
    have hP : va_P D vwCl [(so, .inr (0, [.ref s_heldRows_a, .ref s_heldColumns_a, .ref s_heldSixties_a, .ref s_certain_a, .int s_heldCount, .int s_rows, .int s_kind, .int s_n, .int s_first])), (s_heldRows_a, .inl (cI, 24, .inl s_heldRows)), (s_heldColumns_a, .inl (cI, 24, .inl s_heldColumns)), (s_heldSixties_a, .inl (cI, 24, .inl s_heldSixties)), (s_certain_a, .inl (cI, 24, .inl (upd s_certain (Int32.toNatClampNeg x1) u3)))] H := hP
    obtain ⟨s_certain_4, es_certain_4⟩ : ∃ y : Nat → Int32, y = (upd s_certain (Int32.toNatClampNeg x1) u3) := ⟨_, rfl⟩
    replace h := md_le es_certain_4 h
    rw [← es_certain_4] at hP
    obtain ⟨x1_5, ex1_5⟩ : ∃ y : Int32, y = (x1 + (1 : Int32)) := ⟨_, rfl⟩
    replace h := md_le ex1_5 h
    refine lv_iinc (v := x1_5) (lv' := [(1, .int x1_5), (0, .ref so)]) hx hb dX0_takeAll_34 hl (k := 1) rfl (by rw [ex1_5]; rfl) (by decide) rfl (fun ls hl => ?_)
    refine lv_goto (tgt := 2) hx hb dX0_takeAll_37 (by decide) ?_
    exact ih x1_5 s_certain_4 h _ _ hP hS ls (lv_sub hl [1, 0] rfl)
def mX0_takeAll (s_certain : Nat → Int32) (s_rows : Int32) (s_kind : Int32) (s_n : Int32) (s_first : Int32) : Option (Nat → Int32) := (mlX0_takeAll_2 s_rows s_kind s_n s_first (fun (s_certain_40 : Nat → Int32) => (some s_certain_40)) kN (0 : Int32) s_certain)
set_option maxHeartbeats 4000000 in
set_option maxRecDepth 100000 in
theorem bX0_takeAll {p : Program} {l : Launch} {e : Env} {s : State} {m : MethodId} {args : Array Value} {below : List Frame} {meth : Method} {c : Code} {Q : State → Prop} (C : kc p s m args meth c cX0_takeAll 2 RX0 yX0_takeAll.name wsX0_takeAll none) {D : va_G} {cI cT : ClassId} {so s_heldRows_a s_heldColumns_a s_heldSixties_a s_certain_a : Nat} {aL : Nat} (hK : va_K D vwCl (kTy cI cT) s) (hLz : kLz aL (fun q => q ∈ ([so, s_heldRows_a, s_heldColumns_a, s_heldSixties_a, s_certain_a] : List Nat)) s s.heap) (hnd : ([so, s_heldRows_a, s_heldColumns_a, s_heldSixties_a, s_certain_a] : List Nat).Nodup) (s_heldRows : Nat → Int32) (s_heldColumns : Nat → Int32) (s_heldSixties : Nat → Int32) (s_certain : Nat → Int32) (s_heldCount : Int32) (s_rows : Int32) (s_kind : Int32) (s_n : Int32) (s_first : Int32) (res : (Nat → Int32)) (hQ : ∀ (s_certain : Nat → Int32) (H : Heap) (locs : List Loc) (pc : Nat) (ls : Array Slot), some s_certain = some res → va_P D vwCl [(so, .inr (0, [.ref s_heldRows_a, .ref s_heldColumns_a, .ref s_heldSixties_a, .ref s_certain_a, .int s_heldCount, .int s_rows, .int s_kind, .int s_n, .int s_first])), (s_heldRows_a, .inl (cI, 24, .inl s_heldRows)), (s_heldColumns_a, .inl (cI, 24, .inl s_heldColumns)), (s_heldSixties_a, .inl (cI, 24, .inl s_heldSixties)), (s_certain_a, .inl (cI, 24, .inl s_certain))] H → va_S (fun q => q ∈ ([so, s_heldRows_a, s_heldColumns_a, s_heldSixties_a, s_certain_a] : List Nat)) s.heap H locs → decode cX0_takeAll pc = .ok (.return_, 1) → W p l e rmX0_takeAll s m args below meth c H locs 0 0 Q (F0 m pc ls [])) : mX0_takeAll s_certain s_rows s_kind s_n s_first = some res → ∀ (H : Heap) (locs : List Loc), va_P D vwCl [(so, .inr (0, [.ref s_heldRows_a, .ref s_heldColumns_a, .ref s_heldSixties_a, .ref s_certain_a, .int s_heldCount, .int s_rows, .int s_kind, .int s_n, .int s_first])), (s_heldRows_a, .inl (cI, 24, .inl s_heldRows)), (s_heldColumns_a, .inl (cI, 24, .inl s_heldColumns)), (s_heldSixties_a, .inl (cI, 24, .inl s_heldSixties)), (s_certain_a, .inl (cI, 24, .inl s_certain))] H → va_S (fun q => q ∈ ([so, s_heldRows_a, s_heldColumns_a, s_heldSixties_a, s_certain_a] : List Nat)) s.heap H locs → ∀ (ls : Array Slot), lv_has ls 2 [(0, .ref so)] → W p l e rmX0_takeAll s m args below meth c H locs 0 0 Q (F0 m 0 ls []) := by
  intro h H locs hP hS ls hl
  have C0 := C
  obtain ⟨hx, hb, hml, hown, hts, hr, hlk, hnm⟩ := C0
  rw [mX0_takeAll] at h
  refine lv_iconst (v := 0) hx hb dX0_takeAll_0 (by decide) ?_
  refine lv_istore_n (lv' := [(1, .int (0 : Int32)), (0, .ref so)]) hx hb dX0_takeAll_1 rfl hl (by decide) rfl (fun ls hl => ?_)
  refine lX0_takeAll_2 C hK hLz hnd s_heldRows s_heldColumns s_heldSixties s_heldCount s_rows s_kind s_n s_first res hQ _ (fun s_certain_40 h H locs hP hS ls hl => ?_) kN (0 : Int32) s_certain h _ _ hP hS ls (lv_sub hl [1, 0] rfl)
  exact hQ s_certain_40 H locs 40 ls h hP hS dX0_takeAll_40
set_option maxHeartbeats 4000000 in
theorem ctX0_takeAll (l : Launch) {D : va_G} {cI cT : ClassId} {so s_heldRows_a s_heldColumns_a s_heldSixties_a s_certain_a : Nat} {aL : Nat} {s_heldRows : Nat → Int32} {s_heldColumns : Nat → Int32} {s_heldSixties : Nat → Int32} {s_certain : Nat → Int32} {s_heldCount : Int32} {s_rows : Int32} {s_kind : Int32} {s_n : Int32} {s_first : Int32} {res : (Nat → Int32)} (hnd : ([so, s_heldRows_a, s_heldColumns_a, s_heldSixties_a, s_certain_a] : List Nat).Nodup) (hm : mX0_takeAll s_certain s_rows s_kind s_n s_first = some res) : Met l yX0_takeAll wsX0_takeAll rmX0_takeAll (va_Pc [.ref so] (kW D cI cT [(so, .inr (0, [.ref s_heldRows_a, .ref s_heldColumns_a, .ref s_heldSixties_a, .ref s_certain_a, .int s_heldCount, .int s_rows, .int s_kind, .int s_n, .int s_first])), (s_heldRows_a, .inl (cI, 24, .inl s_heldRows)), (s_heldColumns_a, .inl (cI, 24, .inl s_heldColumns)), (s_heldSixties_a, .inl (cI, 24, .inl s_heldSixties)), (s_certain_a, .inl (cI, 24, .inl s_certain))] (some aL) (fun q => q ∈ ([so, s_heldRows_a, s_heldColumns_a, s_heldSixties_a, s_certain_a] : List Nat)))) (kX none D [(so, .inr (0, [.ref s_heldRows_a, .ref s_heldColumns_a, .ref s_heldSixties_a, .ref s_certain_a, .int s_heldCount, .int s_rows, .int s_kind, .int s_n, .int s_first])), (s_heldRows_a, .inl (cI, 24, .inl s_heldRows)), (s_heldColumns_a, .inl (cI, 24, .inl s_heldColumns)), (s_heldSixties_a, .inl (cI, 24, .inl s_heldSixties)), (s_certain_a, .inl (cI, 24, .inl res))] (fun q => q ∈ ([so, s_heldRows_a, s_heldColumns_a, s_heldSixties_a, s_certain_a] : List Nat))) 0 0 (fun q => q ∈ ([so, s_heldRows_a, s_heldColumns_a, s_heldSixties_a, s_certain_a] : List Nat)) :=
  km (by decide) rfl (Nat.le_of_ble_eq_true rfl) (fun p e s m below meth c ls C hB hl => bX0_takeAll C hB.1 (hB.2.2 aL rfl) hnd s_heldRows s_heldColumns s_heldSixties s_certain s_heldCount s_rows s_kind s_n s_first res (fun s_certain1 H locs pc ls h hP hS hd => by obtain rfl := Option.some.inj h; exact kx_v C hP hS hd) hm s.heap [] hB.2.1 va_S.rf ls hl)
theorem wm_X0_keepAgreed_0 : Cond.fieldLink RX0 28 "SixtyTablet$Search" "rows" "I" ∈ wsX0_keepAgreed := by decide +kernel
theorem wm_X0_keepAgreed_1 : Cond.fieldLink RX0 21 "SixtyTablet$Search" "certain" "[I" ∈ wsX0_keepAgreed := by decide +kernel
theorem wm_X0_keepAgreed_2 : Cond.fieldLink RX0 24 "SixtyTablet$Search" "heldCount" "I" ∈ wsX0_keepAgreed := by decide +kernel
theorem wi_X0_keepAgreed_X0 : ∀ w ∈ wsX00, w ∈ wsX0_keepAgreed := by decide +kernel
theorem kdvX0_keepAgreed : yX0_keepAgreed.cls = RX0 ∧ yX0_keepAgreed.cls ≠ "java/lang/invoke/MethodHandle" ∧ yX0_keepAgreed.cls ≠ "java/lang/invoke/VarHandle" ∧ (parseMethodDescriptor yX0_keepAgreed.desc).map (fun d => d.parameters.length) = some 0 := by decide +kernel
abbrev rmX0_keepAgreed : Room := { frames := 6, cells := 0, slots := 0, locals := 136 }
def mlX0_keepAgreed_4 (s_rows : Int32) (s_kind : Int32) (s_n : Int32) (s_first : Int32) (kE : Int32 → (Nat → Int32) → Option (Int32 × (Nat → Int32))) : Nat → Int32 → Int32 → (Nat → Int32) → Option (Int32 × (Nat → Int32))
  | 0, _, _, _ => none
  | n + 1, x1, x2, s_certain => (if (s_rows * (3 : Int32)) ≤ x2 then (kE x1 s_certain) else (if (24 : Int32) ≤ x2 then (kE x1 s_certain) else (if x2 < 0 ∨ 24 ≤ (Int32.toNatClampNeg x2) then none else (md_jn (fun (x1_61 : Int32) (s_certain_61 : Nat → Int32) => (md_let (x2 + (1 : Int32)) (fun (x2_4 : Int32) => (mlX0_keepAgreed_4 s_rows s_kind s_n s_first kE n x1_61 x2_4 s_certain_61)))) (fun kJ61 => (if (s_certain (Int32.toNatClampNeg x2)) = 0 then (kJ61 x1 s_certain) else (if x2 < 0 ∨ 24 ≤ (Int32.toNatClampNeg x2) then none else (Option.bind (mX0_sixtyHere s_kind s_n s_first (x2 / (3 : Int32)) (x2 - x2 / (3 : Int32) * (3 : Int32))) (fun u7 => (if (s_certain (Int32.toNatClampNeg x2)) = u7 then (md_let (x1 + (1 : Int32)) (fun (x1_10 : Int32) => (kJ61 x1_10 s_certain))) else (if x2 < 0 ∨ 24 ≤ (Int32.toNatClampNeg x2) then none else (md_let (upd s_certain (Int32.toNatClampNeg x2) (0 : Int32)) (fun (s_certain_9 : Nat → Int32) => (kJ61 x1 s_certain_9))))))))))))))
set_option maxHeartbeats 4000000 in
set_option maxRecDepth 100000 in
theorem lX0_keepAgreed_4 {p : Program} {l : Launch} {e : Env} {s : State} {m : MethodId} {args : Array Value} {below : List Frame} {meth : Method} {c : Code} {Q : State → Prop} (C : kc p s m args meth c cX0_keepAgreed 3 RX0 yX0_keepAgreed.name wsX0_keepAgreed (some .boolean)) {D : va_G} {cI cT : ClassId} {so s_heldRows_a s_heldColumns_a s_heldSixties_a s_certain_a : Nat} {aL : Nat} (hK : va_K D vwCl (kTy cI cT) s) (hLz : kLz aL (fun q => q ∈ ([so, s_heldRows_a, s_heldColumns_a, s_heldSixties_a, s_certain_a] : List Nat)) s s.heap) (hnd : ([so, s_heldRows_a, s_heldColumns_a, s_heldSixties_a, s_certain_a] : List Nat).Nodup) (s_heldRows : Nat → Int32) (s_heldColumns : Nat → Int32) (s_heldSixties : Nat → Int32) (s_heldCount : Int32) (s_rows : Int32) (s_kind : Int32) (s_n : Int32) (s_first : Int32) (res : (Int32 × (Nat → Int32))) (hQ : ∀ (v : Int32) (s_certain : Nat → Int32) (H : Heap) (locs : List Loc) (pc : Nat) (ls : Array Slot), v = 0 ∨ v = 1 → some (v, s_certain) = some res → va_P D vwCl [(so, .inr (0, [.ref s_heldRows_a, .ref s_heldColumns_a, .ref s_heldSixties_a, .ref s_certain_a, .int s_heldCount, .int s_rows, .int s_kind, .int s_n, .int s_first])), (s_heldRows_a, .inl (cI, 24, .inl s_heldRows)), (s_heldColumns_a, .inl (cI, 24, .inl s_heldColumns)), (s_heldSixties_a, .inl (cI, 24, .inl s_heldSixties)), (s_certain_a, .inl (cI, 24, .inl s_certain))] H → va_S (fun q => q ∈ ([so, s_heldRows_a, s_heldColumns_a, s_heldSixties_a, s_certain_a] : List Nat)) s.heap H locs → decode cX0_keepAgreed pc = .ok (.ireturn, 1) → W p l e rmX0_keepAgreed s m args below meth c H locs 0 0 Q (F0 m pc ls [.int v])) (kE : Int32 → (Nat → Int32) → Option (Int32 × (Nat → Int32))) (hE : ∀ (y1 : Int32) (s_certain : Nat → Int32), kE y1 s_certain = some res → ∀ (H : Heap) (locs : List Loc), va_P D vwCl [(so, .inr (0, [.ref s_heldRows_a, .ref s_heldColumns_a, .ref s_heldSixties_a, .ref s_certain_a, .int s_heldCount, .int s_rows, .int s_kind, .int s_n, .int s_first])), (s_heldRows_a, .inl (cI, 24, .inl s_heldRows)), (s_heldColumns_a, .inl (cI, 24, .inl s_heldColumns)), (s_heldSixties_a, .inl (cI, 24, .inl s_heldSixties)), (s_certain_a, .inl (cI, 24, .inl s_certain))] H → va_S (fun q => q ∈ ([so, s_heldRows_a, s_heldColumns_a, s_heldSixties_a, s_certain_a] : List Nat)) s.heap H locs → ∀ (ls : Array Slot), lv_has ls 3 [(0, .ref so), (1, .int y1)] → W p l e rmX0_keepAgreed s m args below meth c H locs 0 0 Q (F0 m 67 ls [])) : ∀ (n : Nat), ∀ (x1 : Int32) (x2 : Int32) (s_certain : Nat → Int32), mlX0_keepAgreed_4 s_rows s_kind s_n s_first kE n x1 x2 s_certain = some res → ∀ (H : Heap) (locs : List Loc), va_P D vwCl [(so, .inr (0, [.ref s_heldRows_a, .ref s_heldColumns_a, .ref s_heldSixties_a, .ref s_certain_a, .int s_heldCount, .int s_rows, .int s_kind, .int s_n, .int s_first])), (s_heldRows_a, .inl (cI, 24, .inl s_heldRows)), (s_heldColumns_a, .inl (cI, 24, .inl s_heldColumns)), (s_heldSixties_a, .inl (cI, 24, .inl s_heldSixties)), (s_certain_a, .inl (cI, 24, .inl s_certain))] H → va_S (fun q => q ∈ ([so, s_heldRows_a, s_heldColumns_a, s_heldSixties_a, s_certain_a] : List Nat)) s.heap H locs → ∀ (ls : Array Slot), lv_has ls 3 [(0, .ref so), (1, .int x1), (2, .int x2)] → W p l e rmX0_keepAgreed s m args below meth c H locs 0 0 Q (F0 m 4 ls []) := by
  have C0 := C
  obtain ⟨hx, hb, hml, hown, hts, hr, hlk, hnm⟩ := C0
  intro n
  induction n with
  | zero => intro _ _ _ h; exact md_x h
  | succ n ih =>
    intro x1 x2 s_certain h H locs hP hS ls hl
    rw [mlX0_keepAgreed_4] at h
    refine lv_iload_n hx hb dX0_keepAgreed_4 rfl (lv_at hl 2 rfl) ?_
    refine lv_aload_n hx hb dX0_keepAgreed_5 rfl (lv_at hl 0 rfl) ?_
    refine va_get (D := D) (ci := 0) (v := .int s_rows) (C := RX0) (T := TX0) (N := 9) hx hb hts wi_X0_keepAgreed_X0 hown hK hP 0 rfl rfl 5 (by decide) (hts _ wm_X0_keepAgreed_0) (fun _ h9 => h9) rfl dX0_keepAgreed_6 ?_
    refine lv_iconst (v := 3) hx hb dX0_keepAgreed_9 (by decide) ?_
    refine lv_imul hx hb dX0_keepAgreed_10 ?_
    refine lv_icmp_ge (tgt := 67) hx hb dX0_keepAgreed_11 (by decide) (fun c1 => ?_) (fun c1 => ?_)
    · replace h := md_t c1 h
      exact hE x1 s_certain h _ _ hP hS ls (lv_sub hl [0, 1] rfl)
    replace h := md_f c1 h
    refine lv_iload_n hx hb dX0_keepAgreed_14 rfl (lv_at hl 2 rfl) ?_
    refine lv_bipush (v := 24) hx hb dX0_keepAgreed_15 (by decide) ?_
    refine lv_icmp_ge (tgt := 67) hx hb dX0_keepAgreed_17 (by decide) (fun c2 => ?_) (fun c2 => ?_)
    · replace h := md_t c2 h
      exact hE x1 s_certain h _ _ hP hS ls (lv_sub hl [0, 1] rfl)
    replace h := md_f c2 h
    refine lv_aload_n hx hb dX0_keepAgreed_20 rfl (lv_at hl 0 rfl) ?_
    refine va_get (D := D) (ci := 0) (v := .ref s_certain_a) (C := RX0) (T := TX0) (N := 9) hx hb hts wi_X0_keepAgreed_X0 hown hK hP 0 rfl rfl 3 (by decide) (hts _ wm_X0_keepAgreed_1) (fun _ h9 => h9) rfl dX0_keepAgreed_21 ?_
    refine lv_iload_n hx hb dX0_keepAgreed_24 rfl (lv_at hl 2 rfl) ?_
    obtain ⟨hin3, h⟩ := md_g h
    refine va_iald hx hb hK hP 4 0 rfl rfl hin3 dX0_keepAgreed_25 ?_
    obtain ⟨kJ61, ekJ61, h⟩ := md_jo h
    have KJ61 : ∀ (x1_61 : Int32) (s_certain_61 : Nat → Int32), kJ61 x1_61 s_certain_61 = some res → ∀ (H : Heap) (locs : List Loc), va_P D vwCl [(so, .inr (0, [.ref s_heldRows_a, .ref s_heldColumns_a, .ref s_heldSixties_a, .ref s_certain_a, .int s_heldCount, .int s_rows, .int s_kind, .int s_n, .int s_first])), (s_heldRows_a, .inl (cI, 24, .inl s_heldRows)), (s_heldColumns_a, .inl (cI, 24, .inl s_heldColumns)), (s_heldSixties_a, .inl (cI, 24, .inl s_heldSixties)), (s_certain_a, .inl (cI, 24, .inl s_certain_61))] H → va_S (fun q => q ∈ ([so, s_heldRows_a, s_heldColumns_a, s_heldSixties_a, s_certain_a] : List Nat)) s.heap H locs → ∀ (ls : Array Slot), lv_has ls 3 [(0, .ref so), (1, .int x1_61), (2, .int x2)] → W p l e rmX0_keepAgreed s m args below meth c H locs 0 0 Q (F0 m 61 ls []) := by
      intro x1_61 s_certain_61 h H locs hP hS ls hl
      rw [ekJ61] at h
      obtain ⟨x2_4, ex2_4⟩ : ∃ y : Int32, y = (x2 + (1 : Int32)) := ⟨_, rfl⟩
      replace h := md_le ex2_4 h
      refine lv_iinc (v := x2_4) (lv' := [(2, .int x2_4), (0, .ref so), (1, .int x1_61)]) hx hb dX0_keepAgreed_61 hl (k := 2) rfl (by rw [ex2_4]; rfl) (by decide) rfl (fun ls hl => ?_)
      refine lv_goto (tgt := 4) hx hb dX0_keepAgreed_64 (by decide) ?_
      exact ih x1_61 x2_4 s_certain_61 h _ _ hP hS ls (lv_sub hl [1, 2, 0] rfl)
    clear ekJ61
    refine lv_if_eq (tgt := 61) hx hb dX0_keepAgreed_26 (by decide) (fun c5 => ?_) (fun c5 => ?_)
    · replace h := md_t c5 h
      exact KJ61 x1 s_certain h _ _ hP hS ls (lv_sub hl [0, 1, 2] rfl)
    replace h := md_f c5 h
    refine lv_aload_n hx hb dX0_keepAgreed_29 rfl (lv_at hl 0 rfl) ?_
    refine va_get (D := D) (ci := 0) (v := .ref s_certain_a) (C := RX0) (T := TX0) (N := 9) hx hb hts wi_X0_keepAgreed_X0 hown hK hP 0 rfl rfl 3 (by decide) (hts _ wm_X0_keepAgreed_1) (fun _ h9 => h9) rfl dX0_keepAgreed_30 ?_
    refine lv_iload_n hx hb dX0_keepAgreed_33 rfl (lv_at hl 2 rfl) ?_
    obtain ⟨hin6, h⟩ := md_g h
    refine va_iald hx hb hK hP 4 0 rfl rfl hin6 dX0_keepAgreed_34 ?_
    refine lv_aload_n hx hb dX0_keepAgreed_35 rfl (lv_at hl 0 rfl) ?_
    refine lv_iload_n hx hb dX0_keepAgreed_36 rfl (lv_at hl 2 rfl) ?_
    refine lv_iconst (v := 3) hx hb dX0_keepAgreed_37 (by decide) ?_
    refine lv_idiv hx hb dX0_keepAgreed_38 (by decide) ?_
    refine lv_iload_n hx hb dX0_keepAgreed_39 rfl (lv_at hl 2 rfl) ?_
    refine lv_iconst (v := 3) hx hb dX0_keepAgreed_40 (by decide) ?_
    refine lv_irem hx hb dX0_keepAgreed_41 (by decide) ?_
    obtain ⟨u7, hu7, h⟩ := md_b h
    refine kV C (ctX0_sixtyHere l  hu7) gX0_keepAgreed_X0_sixtyHere rfl kdvX0_sixtyHere ⟨rfl, rfl⟩ ⟨by decide, by decide⟩ kW_blind (va_recv hK hP (ci := 0) (q0 := 0) rfl rfl) (kW_use hK (hP.sub (ws' := [(so, .inr (0, [.ref s_heldRows_a, .ref s_heldColumns_a, .ref s_heldSixties_a, .ref s_certain_a, .int s_heldCount, .int s_rows, .int s_kind, .int s_n, .int s_first])), (s_heldRows_a, .inl (cI, 24, .inl s_heldRows)), (s_heldColumns_a, .inl (cI, 24, .inl s_heldColumns)), (s_heldSixties_a, .inl (cI, 24, .inl s_heldSixties)), (s_certain_a, .inl (cI, 24, .inl s_certain))]) [0, 1, 2, 3, 4] rfl) (kL_at hLz hS (fun _ q => q.elim))) rfl hl [.int (s_certain (Int32.toNatClampNeg x2))] rfl (Nat.le_of_ble_eq_true rfl) dX0_keepAgreed_42 ⟨by decide, by decide⟩ ?_
    refine lv_icmp_ne (tgt := 54) hx hb dX0_keepAgreed_45 (by decide) (fun c8 => ?_) (fun c8 => ?_)
    · replace h := md_f c8 h
      refine lv_aload_n hx hb dX0_keepAgreed_54 rfl (lv_at hl 0 rfl) ?_
      refine va_get (D := D) (ci := 0) (v := .ref s_certain_a) (C := RX0) (T := TX0) (N := 9) hx hb hts wi_X0_keepAgreed_X0 hown hK hP 0 rfl rfl 3 (by decide) (hts _ wm_X0_keepAgreed_1) (fun _ h9 => h9) rfl dX0_keepAgreed_55 ?_
      refine lv_iload_n hx hb dX0_keepAgreed_58 rfl (lv_at hl 2 rfl) ?_
      refine lv_iconst (v := 0) hx hb dX0_keepAgreed_59 (by decide) ?_
      obtain ⟨hin9, h⟩ := md_g h
      refine va_iast hx hb hK hP (kD hnd rfl) hS 4 0 rfl rfl hin9 dX0_keepAgreed_60 (fun H locs hP _ hS => ?_)
      have hP : va_P D vwCl [(so, .inr (0, [.ref s_heldRows_a, .ref s_heldColumns_a, .ref s_heldSixties_a, .ref s_certain_a, .int s_heldCount, .int s_rows, .int s_kind, .int s_n, .int s_first])), (s_heldRows_a, .inl (cI, 24, .inl s_heldRows)), (s_heldColumns_a, .inl (cI, 24, .inl s_heldColumns)), (s_heldSixties_a, .inl (cI, 24, .inl s_heldSixties)), (s_certain_a, .inl (cI, 24, .inl (upd s_certain (Int32.toNatClampNeg x2) (0 : Int32))))] H := hP
      obtain ⟨s_certain_9, es_certain_9⟩ : ∃ y : Nat → Int32, y = (upd s_certain (Int32.toNatClampNeg x2) (0 : Int32)) := ⟨_, rfl⟩
      replace h := md_le es_certain_9 h
      rw [← es_certain_9] at hP
      exact KJ61 x1 s_certain_9 h _ _ hP hS ls (lv_sub hl [0, 1, 2] rfl)
    replace h := md_t c8 h
    obtain ⟨x1_10, ex1_10⟩ : ∃ y : Int32, y = (x1 + (1 : Int32)) := ⟨_, rfl⟩
    replace h := md_le ex1_10 h
    refine lv_iinc (v := x1_10) (lv' := [(1, .int x1_10), (0, .ref so), (2, .int x2)]) hx hb dX0_keepAgreed_48 hl (k := 1) rfl (by rw [ex1_10]; rfl) (by decide) rfl (fun ls hl => ?_)
    refine lv_goto (tgt := 61) hx hb dX0_keepAgreed_51 (by decide) ?_
    exact KJ61 x1_10 s_certain h _ _ hP hS ls (lv_sub hl [1, 0, 2] rfl)
def mX0_keepAgreed (s_certain : Nat → Int32) (s_heldCount : Int32) (s_rows : Int32) (s_kind : Int32) (s_n : Int32) (s_first : Int32) : Option (Int32 × (Nat → Int32)) := (mlX0_keepAgreed_4 s_rows s_kind s_n s_first (fun (y1_67 : Int32) (s_certain_67 : Nat → Int32) => (if y1_67 ≤ s_heldCount then (some ((0 : Int32), s_certain_67)) else (some ((1 : Int32), s_certain_67)))) kN (0 : Int32) (0 : Int32) s_certain)
set_option maxHeartbeats 4000000 in
set_option maxRecDepth 100000 in
theorem bX0_keepAgreed {p : Program} {l : Launch} {e : Env} {s : State} {m : MethodId} {args : Array Value} {below : List Frame} {meth : Method} {c : Code} {Q : State → Prop} (C : kc p s m args meth c cX0_keepAgreed 3 RX0 yX0_keepAgreed.name wsX0_keepAgreed (some .boolean)) {D : va_G} {cI cT : ClassId} {so s_heldRows_a s_heldColumns_a s_heldSixties_a s_certain_a : Nat} {aL : Nat} (hK : va_K D vwCl (kTy cI cT) s) (hLz : kLz aL (fun q => q ∈ ([so, s_heldRows_a, s_heldColumns_a, s_heldSixties_a, s_certain_a] : List Nat)) s s.heap) (hnd : ([so, s_heldRows_a, s_heldColumns_a, s_heldSixties_a, s_certain_a] : List Nat).Nodup) (s_heldRows : Nat → Int32) (s_heldColumns : Nat → Int32) (s_heldSixties : Nat → Int32) (s_certain : Nat → Int32) (s_heldCount : Int32) (s_rows : Int32) (s_kind : Int32) (s_n : Int32) (s_first : Int32) (res : (Int32 × (Nat → Int32))) (hQ : ∀ (v : Int32) (s_certain : Nat → Int32) (H : Heap) (locs : List Loc) (pc : Nat) (ls : Array Slot), v = 0 ∨ v = 1 → some (v, s_certain) = some res → va_P D vwCl [(so, .inr (0, [.ref s_heldRows_a, .ref s_heldColumns_a, .ref s_heldSixties_a, .ref s_certain_a, .int s_heldCount, .int s_rows, .int s_kind, .int s_n, .int s_first])), (s_heldRows_a, .inl (cI, 24, .inl s_heldRows)), (s_heldColumns_a, .inl (cI, 24, .inl s_heldColumns)), (s_heldSixties_a, .inl (cI, 24, .inl s_heldSixties)), (s_certain_a, .inl (cI, 24, .inl s_certain))] H → va_S (fun q => q ∈ ([so, s_heldRows_a, s_heldColumns_a, s_heldSixties_a, s_certain_a] : List Nat)) s.heap H locs → decode cX0_keepAgreed pc = .ok (.ireturn, 1) → W p l e rmX0_keepAgreed s m args below meth c H locs 0 0 Q (F0 m pc ls [.int v])) : mX0_keepAgreed s_certain s_heldCount s_rows s_kind s_n s_first = some res → ∀ (H : Heap) (locs : List Loc), va_P D vwCl [(so, .inr (0, [.ref s_heldRows_a, .ref s_heldColumns_a, .ref s_heldSixties_a, .ref s_certain_a, .int s_heldCount, .int s_rows, .int s_kind, .int s_n, .int s_first])), (s_heldRows_a, .inl (cI, 24, .inl s_heldRows)), (s_heldColumns_a, .inl (cI, 24, .inl s_heldColumns)), (s_heldSixties_a, .inl (cI, 24, .inl s_heldSixties)), (s_certain_a, .inl (cI, 24, .inl s_certain))] H → va_S (fun q => q ∈ ([so, s_heldRows_a, s_heldColumns_a, s_heldSixties_a, s_certain_a] : List Nat)) s.heap H locs → ∀ (ls : Array Slot), lv_has ls 3 [(0, .ref so)] → W p l e rmX0_keepAgreed s m args below meth c H locs 0 0 Q (F0 m 0 ls []) := by
  intro h H locs hP hS ls hl
  have C0 := C
  obtain ⟨hx, hb, hml, hown, hts, hr, hlk, hnm⟩ := C0
  rw [mX0_keepAgreed] at h
  refine lv_iconst (v := 0) hx hb dX0_keepAgreed_0 (by decide) ?_
  refine lv_istore_n (lv' := [(1, .int (0 : Int32)), (0, .ref so)]) hx hb dX0_keepAgreed_1 rfl hl (by decide) rfl (fun ls hl => ?_)
  refine lv_iconst (v := 0) hx hb dX0_keepAgreed_2 (by decide) ?_
  refine lv_istore_n (lv' := [(2, .int (0 : Int32)), (1, .int (0 : Int32)), (0, .ref so)]) hx hb dX0_keepAgreed_3 rfl hl (by decide) rfl (fun ls hl => ?_)
  refine lX0_keepAgreed_4 C hK hLz hnd s_heldRows s_heldColumns s_heldSixties s_heldCount s_rows s_kind s_n s_first res hQ _ (fun y1_67 s_certain_67 h H locs hP hS ls hl => ?_) kN (0 : Int32) (0 : Int32) s_certain h _ _ hP hS ls (lv_sub hl [2, 1, 0] rfl)
  refine lv_iload_n hx hb dX0_keepAgreed_67 rfl (lv_at hl 1 rfl) ?_
  refine lv_aload_n hx hb dX0_keepAgreed_68 rfl (lv_at hl 0 rfl) ?_
  refine va_get (D := D) (ci := 0) (v := .int s_heldCount) (C := RX0) (T := TX0) (N := 9) hx hb hts wi_X0_keepAgreed_X0 hown hK hP 0 rfl rfl 4 (by decide) (hts _ wm_X0_keepAgreed_2) (fun _ h9 => h9) rfl dX0_keepAgreed_69 ?_
  refine lv_icmp_le (tgt := 79) hx hb dX0_keepAgreed_72 (by decide) (fun c11 => ?_) (fun c11 => ?_)
  · replace h := md_t c11 h
    refine lv_iconst (v := 0) hx hb dX0_keepAgreed_79 (by decide) ?_
    exact hQ (0 : Int32) s_certain_67 H locs 80 ls (by decide) h hP hS dX0_keepAgreed_80
  replace h := md_f c11 h
  refine lv_iconst (v := 1) hx hb dX0_keepAgreed_75 (by decide) ?_
  refine lv_goto (tgt := 80) hx hb dX0_keepAgreed_76 (by decide) ?_
  exact hQ (1 : Int32) s_certain_67 H locs 80 ls (by decide) h hP hS dX0_keepAgreed_80
set_option maxHeartbeats 4000000 in
theorem ctX0_keepAgreed (l : Launch) {D : va_G} {cI cT : ClassId} {so s_heldRows_a s_heldColumns_a s_heldSixties_a s_certain_a : Nat} {aL : Nat} {s_heldRows : Nat → Int32} {s_heldColumns : Nat → Int32} {s_heldSixties : Nat → Int32} {s_certain : Nat → Int32} {s_heldCount : Int32} {s_rows : Int32} {s_kind : Int32} {s_n : Int32} {s_first : Int32} {res : (Int32 × (Nat → Int32))} (hnd : ([so, s_heldRows_a, s_heldColumns_a, s_heldSixties_a, s_certain_a] : List Nat).Nodup) (hm : mX0_keepAgreed s_certain s_heldCount s_rows s_kind s_n s_first = some res) : Met l yX0_keepAgreed wsX0_keepAgreed rmX0_keepAgreed (va_Pc [.ref so] (kW D cI cT [(so, .inr (0, [.ref s_heldRows_a, .ref s_heldColumns_a, .ref s_heldSixties_a, .ref s_certain_a, .int s_heldCount, .int s_rows, .int s_kind, .int s_n, .int s_first])), (s_heldRows_a, .inl (cI, 24, .inl s_heldRows)), (s_heldColumns_a, .inl (cI, 24, .inl s_heldColumns)), (s_heldSixties_a, .inl (cI, 24, .inl s_heldSixties)), (s_certain_a, .inl (cI, 24, .inl s_certain))] (some aL) (fun q => q ∈ ([so, s_heldRows_a, s_heldColumns_a, s_heldSixties_a, s_certain_a] : List Nat)))) (kX (some (.int res.1)) D [(so, .inr (0, [.ref s_heldRows_a, .ref s_heldColumns_a, .ref s_heldSixties_a, .ref s_certain_a, .int s_heldCount, .int s_rows, .int s_kind, .int s_n, .int s_first])), (s_heldRows_a, .inl (cI, 24, .inl s_heldRows)), (s_heldColumns_a, .inl (cI, 24, .inl s_heldColumns)), (s_heldSixties_a, .inl (cI, 24, .inl s_heldSixties)), (s_certain_a, .inl (cI, 24, .inl res.2))] (fun q => q ∈ ([so, s_heldRows_a, s_heldColumns_a, s_heldSixties_a, s_certain_a] : List Nat))) 0 0 (fun q => q ∈ ([so, s_heldRows_a, s_heldColumns_a, s_heldSixties_a, s_certain_a] : List Nat)) :=
  km (by decide) rfl (Nat.le_of_ble_eq_true rfl) (fun p e s m below meth c ls C hB hl => bX0_keepAgreed C hB.1 (hB.2.2 aL rfl) hnd s_heldRows s_heldColumns s_heldSixties s_certain s_heldCount s_rows s_kind s_n s_first res (fun v s_certain1 H locs pc ls hz h hP hS hd => by obtain rfl := Option.some.inj h; exact kx_z C hz hP hS hd) hm s.heap [] hB.2.1 va_S.rf ls hl)
theorem wm_X0_gatherSure_0 : Cond.fieldLink RX0 21 "SixtyTablet$Search" "certain" "[I" ∈ wsX0_gatherSure := by decide +kernel
theorem wi_X0_gatherSure_X0 : ∀ w ∈ wsX00, w ∈ wsX0_gatherSure := by decide +kernel
theorem kdvX0_gatherSure : yX0_gatherSure.cls = RX0 ∧ yX0_gatherSure.cls ≠ "java/lang/invoke/MethodHandle" ∧ yX0_gatherSure.cls ≠ "java/lang/invoke/VarHandle" ∧ (parseMethodDescriptor yX0_gatherSure.desc).map (fun d => d.parameters.length) = some 1 := by decide +kernel
abbrev rmX0_gatherSure : Room := { frames := 8, cells := 0, slots := 0, locals := 180 }
def mlX0_gatherSure_2 (kE : (Nat → Int32) → Option ((Nat → Int32) × (Nat → Int32) × (Nat → Int32) × (Nat → Int32) × Int32 × Int32 × Int32 × Int32 × Int32)) : Nat → Int32 → (Nat → Int32) → Option ((Nat → Int32) × (Nat → Int32) × (Nat → Int32) × (Nat → Int32) × Int32 × Int32 × Int32 × Int32 × Int32)
  | 0, _, _ => none
  | n + 1, x2, s_certain => (if (24 : Int32) ≤ x2 then (kE s_certain) else (if x2 < 0 ∨ 24 ≤ (Int32.toNatClampNeg x2) then none else (md_let (upd s_certain (Int32.toNatClampNeg x2) (0 : Int32)) (fun (s_certain_2 : Nat → Int32) => (md_let (x2 + (1 : Int32)) (fun (x2_3 : Int32) => (mlX0_gatherSure_2 kE n x2_3 s_certain_2)))))))
set_option maxHeartbeats 4000000 in
set_option maxRecDepth 100000 in
theorem lX0_gatherSure_2 {p : Program} {l : Launch} {e : Env} {s : State} {m : MethodId} {args : Array Value} {below : List Frame} {meth : Method} {c : Code} {Q : State → Prop} (C : kc p s m args meth c cX0_gatherSure 4 RX0 yX0_gatherSure.name wsX0_gatherSure none) {D : va_G} {cI cT : ClassId} {so s_heldRows_a s_heldColumns_a s_heldSixties_a s_certain_a to t_cells_a t_sixties_a : Nat} {aL : Nat} (hK : va_K D vwCl (kTy cI cT) s) (hLz : kLz aL (fun q => q ∈ ([so, s_heldRows_a, s_heldColumns_a, s_heldSixties_a, s_certain_a, to, t_cells_a, t_sixties_a] : List Nat)) s s.heap) (hnd : ([so, s_heldRows_a, s_heldColumns_a, s_heldSixties_a, s_certain_a, to, t_cells_a, t_sixties_a] : List Nat).Nodup) (s_heldRows : Nat → Int32) (s_heldColumns : Nat → Int32) (s_heldSixties : Nat → Int32) (s_heldCount : Int32) (s_rows : Int32) (s_kind : Int32) (s_n : Int32) (s_first : Int32) (t_cells : Nat → Int32) (t_sixties : Nat → Int32) (t_rows : Int32) (res : ((Nat → Int32) × (Nat → Int32) × (Nat → Int32) × (Nat → Int32) × Int32 × Int32 × Int32 × Int32 × Int32)) (hQ : ∀ (s_heldRows : Nat → Int32) (s_heldColumns : Nat → Int32) (s_heldSixties : Nat → Int32) (s_certain : Nat → Int32) (s_heldCount : Int32) (s_rows : Int32) (s_kind : Int32) (s_n : Int32) (s_first : Int32) (H : Heap) (locs : List Loc) (pc : Nat) (ls : Array Slot), some (s_heldRows, s_heldColumns, s_heldSixties, s_certain, s_heldCount, s_rows, s_kind, s_n, s_first) = some res → va_P D vwCl [(so, .inr (0, [.ref s_heldRows_a, .ref s_heldColumns_a, .ref s_heldSixties_a, .ref s_certain_a, .int s_heldCount, .int s_rows, .int s_kind, .int s_n, .int s_first])), (s_heldRows_a, .inl (cI, 24, .inl s_heldRows)), (s_heldColumns_a, .inl (cI, 24, .inl s_heldColumns)), (s_heldSixties_a, .inl (cI, 24, .inl s_heldSixties)), (s_certain_a, .inl (cI, 24, .inl s_certain)), (to, .inr (1, [.ref t_cells_a, .ref t_sixties_a, .int t_rows])), (t_cells_a, .inl (cI, 24, .inl t_cells)), (t_sixties_a, .inl (cI, 24, .inl t_sixties))] H → va_S (fun q => q ∈ ([so, s_heldRows_a, s_heldColumns_a, s_heldSixties_a, s_certain_a, to, t_cells_a, t_sixties_a] : List Nat)) s.heap H locs → decode cX0_gatherSure pc = .ok (.return_, 1) → W p l e rmX0_gatherSure s m args below meth c H locs 0 0 Q (F0 m pc ls [])) (kE : (Nat → Int32) → Option ((Nat → Int32) × (Nat → Int32) × (Nat → Int32) × (Nat → Int32) × Int32 × Int32 × Int32 × Int32 × Int32)) (hE : ∀ (s_certain : Nat → Int32), kE s_certain = some res → ∀ (H : Heap) (locs : List Loc), va_P D vwCl [(so, .inr (0, [.ref s_heldRows_a, .ref s_heldColumns_a, .ref s_heldSixties_a, .ref s_certain_a, .int s_heldCount, .int s_rows, .int s_kind, .int s_n, .int s_first])), (s_heldRows_a, .inl (cI, 24, .inl s_heldRows)), (s_heldColumns_a, .inl (cI, 24, .inl s_heldColumns)), (s_heldSixties_a, .inl (cI, 24, .inl s_heldSixties)), (s_certain_a, .inl (cI, 24, .inl s_certain)), (to, .inr (1, [.ref t_cells_a, .ref t_sixties_a, .int t_rows])), (t_cells_a, .inl (cI, 24, .inl t_cells)), (t_sixties_a, .inl (cI, 24, .inl t_sixties))] H → va_S (fun q => q ∈ ([so, s_heldRows_a, s_heldColumns_a, s_heldSixties_a, s_certain_a, to, t_cells_a, t_sixties_a] : List Nat)) s.heap H locs → ∀ (ls : Array Slot), lv_has ls 4 [(0, .ref so), (1, .ref to)] → W p l e rmX0_gatherSure s m args below meth c H locs 0 0 Q (F0 m 21 ls [])) : ∀ (n : Nat), ∀ (x2 : Int32) (s_certain : Nat → Int32), mlX0_gatherSure_2 kE n x2 s_certain = some res → ∀ (H : Heap) (locs : List Loc), va_P D vwCl [(so, .inr (0, [.ref s_heldRows_a, .ref s_heldColumns_a, .ref s_heldSixties_a, .ref s_certain_a, .int s_heldCount, .int s_rows, .int s_kind, .int s_n, .int s_first])), (s_heldRows_a, .inl (cI, 24, .inl s_heldRows)), (s_heldColumns_a, .inl (cI, 24, .inl s_heldColumns)), (s_heldSixties_a, .inl (cI, 24, .inl s_heldSixties)), (s_certain_a, .inl (cI, 24, .inl s_certain)), (to, .inr (1, [.ref t_cells_a, .ref t_sixties_a, .int t_rows])), (t_cells_a, .inl (cI, 24, .inl t_cells)), (t_sixties_a, .inl (cI, 24, .inl t_sixties))] H → va_S (fun q => q ∈ ([so, s_heldRows_a, s_heldColumns_a, s_heldSixties_a, s_certain_a, to, t_cells_a, t_sixties_a] : List Nat)) s.heap H locs → ∀ (ls : Array Slot), lv_has ls 4 [(0, .ref so), (1, .ref to), (2, .int x2)] → W p l e rmX0_gatherSure s m args below meth c H locs 0 0 Q (F0 m 2 ls []) := by
  have C0 := C
  obtain ⟨hx, hb, hml, hown, hts, hr, hlk, hnm⟩ := C0
  intro n
  induction n with
  | zero => intro _ _ h; exact md_x h
  | succ n ih =>
    intro x2 s_certain h H locs hP hS ls hl
    rw [mlX0_gatherSure_2] at h
    refine lv_iload_n hx hb dX0_gatherSure_2 rfl (lv_at hl 2 rfl) ?_
    refine lv_bipush (v := 24) hx hb dX0_gatherSure_3 (by decide) ?_
    refine lv_icmp_ge (tgt := 21) hx hb dX0_gatherSure_5 (by decide) (fun c1 => ?_) (fun c1 => ?_)
    · replace h := md_t c1 h
      exact hE s_certain h _ _ hP hS ls (lv_sub hl [0, 1] rfl)
    replace h := md_f c1 h
    refine lv_aload_n hx hb dX0_gatherSure_8 rfl (lv_at hl 0 rfl) ?_
    refine va_get (D := D) (ci := 0) (v := .ref s_certain_a) (C := RX0) (T := TX0) (N := 9) hx hb hts wi_X0_gatherSure_X0 hown hK hP 0 rfl rfl 3 (by decide) (hts _ wm_X0_gatherSure_0) (fun _ h9 => h9) rfl dX0_gatherSure_9 ?_
    refine lv_iload_n hx hb dX0_gatherSure_12 rfl (lv_at hl 2 rfl) ?_
    refine lv_iconst (v := 0) hx hb dX0_gatherSure_13 (by decide) ?_
    obtain ⟨hin2, h⟩ := md_g h
    refine va_iast hx hb hK hP (kD hnd rfl) hS 4 0 rfl rfl hin2 dX0_gatherSure_14 (fun H locs hP _ hS => ?_)
    have hP : va_P D vwCl [(so, .inr (0, [.ref s_heldRows_a, .ref s_heldColumns_a, .ref s_heldSixties_a, .ref s_certain_a, .int s_heldCount, .int s_rows, .int s_kind, .int s_n, .int s_first])), (s_heldRows_a, .inl (cI, 24, .inl s_heldRows)), (s_heldColumns_a, .inl (cI, 24, .inl s_heldColumns)), (s_heldSixties_a, .inl (cI, 24, .inl s_heldSixties)), (s_certain_a, .inl (cI, 24, .inl (upd s_certain (Int32.toNatClampNeg x2) (0 : Int32)))), (to, .inr (1, [.ref t_cells_a, .ref t_sixties_a, .int t_rows])), (t_cells_a, .inl (cI, 24, .inl t_cells)), (t_sixties_a, .inl (cI, 24, .inl t_sixties))] H := hP
    obtain ⟨s_certain_2, es_certain_2⟩ : ∃ y : Nat → Int32, y = (upd s_certain (Int32.toNatClampNeg x2) (0 : Int32)) := ⟨_, rfl⟩
    replace h := md_le es_certain_2 h
    rw [← es_certain_2] at hP
    obtain ⟨x2_3, ex2_3⟩ : ∃ y : Int32, y = (x2 + (1 : Int32)) := ⟨_, rfl⟩
    replace h := md_le ex2_3 h
    refine lv_iinc (v := x2_3) (lv' := [(2, .int x2_3), (0, .ref so), (1, .ref to)]) hx hb dX0_gatherSure_15 hl (k := 2) rfl (by rw [ex2_3]; rfl) (by decide) rfl (fun ls hl => ?_)
    refine lv_goto (tgt := 2) hx hb dX0_gatherSure_18 (by decide) ?_
    exact ih x2_3 s_certain_2 h _ _ hP hS ls (lv_sub hl [1, 2, 0] rfl)
def mlX0_gatherSure_41 (s_heldRows : Nat → Int32) (s_heldColumns : Nat → Int32) (s_heldSixties : Nat → Int32) (s_heldCount : Int32) (s_rows : Int32) (kE : (Nat → Int32) → Int32 → Int32 → Int32 → Option ((Nat → Int32) × (Nat → Int32) × (Nat → Int32) × (Nat → Int32) × Int32 × Int32 × Int32 × Int32 × Int32)) : Nat → Int32 → Int32 → (Nat → Int32) → Int32 → Int32 → Int32 → Option ((Nat → Int32) × (Nat → Int32) × (Nat → Int32) × (Nat → Int32) × Int32 × Int32 × Int32 × Int32 × Int32)
  | 0, _, _, _, _, _, _ => none
  | n + 1, x2, x3, s_certain, s_kind, s_n, s_first => (if (4000 : Int32) ≤ x3 then (kE s_certain s_kind s_n s_first) else (if x2 = 0 then (kE s_certain s_kind s_n s_first) else (Option.bind (mX0_nextReading s_heldRows s_heldColumns s_heldSixties s_heldCount s_rows s_kind s_n s_first) (fun u8 => (md_jn (fun (z0_71 : Int32) (s_certain_71 : Nat → Int32) => (md_let (x3 + (1 : Int32)) (fun (x3_9 : Int32) => (mlX0_gatherSure_41 s_heldRows s_heldColumns s_heldSixties s_heldCount s_rows kE n z0_71 x3_9 s_certain_71 u8.2.1 u8.2.2.1 u8.2.2.2)))) (fun kJ71 => (md_jn (fun (s_certain_70 : Nat → Int32) => (kJ71 (0 : Int32) s_certain_70)) (fun kJ70 => (if u8.1 = 0 then (kJ70 s_certain) else (Option.bind (mX0_keepAgreed s_certain s_heldCount s_rows u8.2.1 u8.2.2.1 u8.2.2.2) (fun u11 => (if u11.1 = 0 then (kJ70 u11.2) else (kJ71 (1 : Int32) u11.2)))))))))))))
set_option maxHeartbeats 4000000 in
set_option maxRecDepth 100000 in
theorem lX0_gatherSure_41 {p : Program} {l : Launch} {e : Env} {s : State} {m : MethodId} {args : Array Value} {below : List Frame} {meth : Method} {c : Code} {Q : State → Prop} (C : kc p s m args meth c cX0_gatherSure 4 RX0 yX0_gatherSure.name wsX0_gatherSure none) {D : va_G} {cI cT : ClassId} {so s_heldRows_a s_heldColumns_a s_heldSixties_a s_certain_a to t_cells_a t_sixties_a : Nat} {aL : Nat} (hK : va_K D vwCl (kTy cI cT) s) (hLz : kLz aL (fun q => q ∈ ([so, s_heldRows_a, s_heldColumns_a, s_heldSixties_a, s_certain_a, to, t_cells_a, t_sixties_a] : List Nat)) s s.heap) (hnd : ([so, s_heldRows_a, s_heldColumns_a, s_heldSixties_a, s_certain_a, to, t_cells_a, t_sixties_a] : List Nat).Nodup) (s_heldRows : Nat → Int32) (s_heldColumns : Nat → Int32) (s_heldSixties : Nat → Int32) (s_heldCount : Int32) (s_rows : Int32) (t_cells : Nat → Int32) (t_sixties : Nat → Int32) (t_rows : Int32) (res : ((Nat → Int32) × (Nat → Int32) × (Nat → Int32) × (Nat → Int32) × Int32 × Int32 × Int32 × Int32 × Int32)) (hQ : ∀ (s_heldRows : Nat → Int32) (s_heldColumns : Nat → Int32) (s_heldSixties : Nat → Int32) (s_certain : Nat → Int32) (s_heldCount : Int32) (s_rows : Int32) (s_kind : Int32) (s_n : Int32) (s_first : Int32) (H : Heap) (locs : List Loc) (pc : Nat) (ls : Array Slot), some (s_heldRows, s_heldColumns, s_heldSixties, s_certain, s_heldCount, s_rows, s_kind, s_n, s_first) = some res → va_P D vwCl [(so, .inr (0, [.ref s_heldRows_a, .ref s_heldColumns_a, .ref s_heldSixties_a, .ref s_certain_a, .int s_heldCount, .int s_rows, .int s_kind, .int s_n, .int s_first])), (s_heldRows_a, .inl (cI, 24, .inl s_heldRows)), (s_heldColumns_a, .inl (cI, 24, .inl s_heldColumns)), (s_heldSixties_a, .inl (cI, 24, .inl s_heldSixties)), (s_certain_a, .inl (cI, 24, .inl s_certain)), (to, .inr (1, [.ref t_cells_a, .ref t_sixties_a, .int t_rows])), (t_cells_a, .inl (cI, 24, .inl t_cells)), (t_sixties_a, .inl (cI, 24, .inl t_sixties))] H → va_S (fun q => q ∈ ([so, s_heldRows_a, s_heldColumns_a, s_heldSixties_a, s_certain_a, to, t_cells_a, t_sixties_a] : List Nat)) s.heap H locs → decode cX0_gatherSure pc = .ok (.return_, 1) → W p l e rmX0_gatherSure s m args below meth c H locs 0 0 Q (F0 m pc ls [])) (kE : (Nat → Int32) → Int32 → Int32 → Int32 → Option ((Nat → Int32) × (Nat → Int32) × (Nat → Int32) × (Nat → Int32) × Int32 × Int32 × Int32 × Int32 × Int32)) (hE : ∀ (s_certain : Nat → Int32) (s_kind : Int32) (s_n : Int32) (s_first : Int32), kE s_certain s_kind s_n s_first = some res → ∀ (H : Heap) (locs : List Loc), va_P D vwCl [(so, .inr (0, [.ref s_heldRows_a, .ref s_heldColumns_a, .ref s_heldSixties_a, .ref s_certain_a, .int s_heldCount, .int s_rows, .int s_kind, .int s_n, .int s_first])), (s_heldRows_a, .inl (cI, 24, .inl s_heldRows)), (s_heldColumns_a, .inl (cI, 24, .inl s_heldColumns)), (s_heldSixties_a, .inl (cI, 24, .inl s_heldSixties)), (s_certain_a, .inl (cI, 24, .inl s_certain)), (to, .inr (1, [.ref t_cells_a, .ref t_sixties_a, .int t_rows])), (t_cells_a, .inl (cI, 24, .inl t_cells)), (t_sixties_a, .inl (cI, 24, .inl t_sixties))] H → va_S (fun q => q ∈ ([so, s_heldRows_a, s_heldColumns_a, s_heldSixties_a, s_certain_a, to, t_cells_a, t_sixties_a] : List Nat)) s.heap H locs → ∀ (ls : Array Slot), lv_has ls 4 [] → W p l e rmX0_gatherSure s m args below meth c H locs 0 0 Q (F0 m 78 ls [])) : ∀ (n : Nat), ∀ (x2 : Int32) (x3 : Int32) (s_certain : Nat → Int32) (s_kind : Int32) (s_n : Int32) (s_first : Int32), mlX0_gatherSure_41 s_heldRows s_heldColumns s_heldSixties s_heldCount s_rows kE n x2 x3 s_certain s_kind s_n s_first = some res → ∀ (H : Heap) (locs : List Loc), va_P D vwCl [(so, .inr (0, [.ref s_heldRows_a, .ref s_heldColumns_a, .ref s_heldSixties_a, .ref s_certain_a, .int s_heldCount, .int s_rows, .int s_kind, .int s_n, .int s_first])), (s_heldRows_a, .inl (cI, 24, .inl s_heldRows)), (s_heldColumns_a, .inl (cI, 24, .inl s_heldColumns)), (s_heldSixties_a, .inl (cI, 24, .inl s_heldSixties)), (s_certain_a, .inl (cI, 24, .inl s_certain)), (to, .inr (1, [.ref t_cells_a, .ref t_sixties_a, .int t_rows])), (t_cells_a, .inl (cI, 24, .inl t_cells)), (t_sixties_a, .inl (cI, 24, .inl t_sixties))] H → va_S (fun q => q ∈ ([so, s_heldRows_a, s_heldColumns_a, s_heldSixties_a, s_certain_a, to, t_cells_a, t_sixties_a] : List Nat)) s.heap H locs → ∀ (ls : Array Slot), lv_has ls 4 [(0, .ref so), (2, .int x2), (3, .int x3)] → W p l e rmX0_gatherSure s m args below meth c H locs 0 0 Q (F0 m 41 ls []) := by
  have C0 := C
  obtain ⟨hx, hb, hml, hown, hts, hr, hlk, hnm⟩ := C0
  intro n
  induction n with
  | zero => intro _ _ _ _ _ _ h; exact md_x h
  | succ n ih =>
    intro x2 x3 s_certain s_kind s_n s_first h H locs hP hS ls hl
    rw [mlX0_gatherSure_41] at h
    refine lv_iload_n hx hb dX0_gatherSure_41 rfl (lv_at hl 2 rfl) ?_
    refine lv_sipush (v := 4000) hx hb dX0_gatherSure_42 (by decide) ?_
    refine lv_icmp_ge (tgt := 78) hx hb dX0_gatherSure_45 (by decide) (fun c6 => ?_) (fun c6 => ?_)
    · replace h := md_t c6 h
      exact hE s_certain s_kind s_n s_first h _ _ hP hS ls (lv_sub hl [] rfl)
    replace h := md_f c6 h
    refine lv_iload_n hx hb dX0_gatherSure_48 rfl (lv_at hl 1 rfl) ?_
    refine lv_if_eq (tgt := 78) hx hb dX0_gatherSure_49 (by decide) (fun c7 => ?_) (fun c7 => ?_)
    · replace h := md_t c7 h
      exact hE s_certain s_kind s_n s_first h _ _ hP hS ls (lv_sub hl [] rfl)
    replace h := md_f c7 h
    refine lv_aload_n hx hb dX0_gatherSure_52 rfl (lv_at hl 0 rfl) ?_
    obtain ⟨u8, hu8, h⟩ := md_b h
    refine kVx C (ctX0_nextReading l (nd_sub hnd [0, 1, 2, 3, 4] (by decide) rfl) hu8) gX0_gatherSure_X0_nextReading rfl kdvX0_nextReading ⟨rfl, rfl⟩ ⟨by decide, by decide⟩ kW_blind (va_recv hK hP (ci := 0) (q0 := 0) rfl rfl) (kW_use hK (hP.sub (ws' := [(so, .inr (0, [.ref s_heldRows_a, .ref s_heldColumns_a, .ref s_heldSixties_a, .ref s_certain_a, .int s_heldCount, .int s_rows, .int s_kind, .int s_n, .int s_first])), (s_heldRows_a, .inl (cI, 24, .inl s_heldRows)), (s_heldColumns_a, .inl (cI, 24, .inl s_heldColumns)), (s_heldSixties_a, .inl (cI, 24, .inl s_heldSixties)), (s_certain_a, .inl (cI, 24, .inl s_certain))]) [0, 1, 2, 3, 4] rfl) (kL_at hLz hS (mem_sub [0, 1, 2, 3, 4] rfl))) rfl hl [] rfl (Nat.le_of_ble_eq_true rfl) dX0_gatherSure_53 ⟨by decide, by decide⟩ hS (mem_sub [0, 1, 2, 3, 4] rfl) (fun H1 locs hP1 hk1 hS => ?_)
    replace hP : va_P D vwCl [(so, .inr (0, [.ref s_heldRows_a, .ref s_heldColumns_a, .ref s_heldSixties_a, .ref s_certain_a, .int s_heldCount, .int s_rows, .int u8.2.1, .int u8.2.2.1, .int u8.2.2.2])), (s_heldRows_a, .inl (cI, 24, .inl s_heldRows)), (s_heldColumns_a, .inl (cI, 24, .inl s_heldColumns)), (s_heldSixties_a, .inl (cI, 24, .inl s_heldSixties)), (s_certain_a, .inl (cI, 24, .inl s_certain)), (to, .inr (1, [.ref t_cells_a, .ref t_sixties_a, .int t_rows])), (t_cells_a, .inl (cI, 24, .inl t_cells)), (t_sixties_a, .inl (cI, 24, .inl t_sixties))] H1 := kjoin hnd rfl hP hP1 hk1 [0, 1, 2, 3, 4] rfl [(true, 0), (true, 1), (true, 2), (true, 3), (true, 4), (false, 5), (false, 6), (false, 7)] rfl rfl
    clear hP1 hk1
    generalize H1 = H at hP hS ⊢
    obtain ⟨kJ71, ekJ71, h⟩ := md_jo h
    have KJ71 : ∀ (z0_71 : Int32) (s_certain_71 : Nat → Int32), kJ71 z0_71 s_certain_71 = some res → ∀ (H : Heap) (locs : List Loc), va_P D vwCl [(so, .inr (0, [.ref s_heldRows_a, .ref s_heldColumns_a, .ref s_heldSixties_a, .ref s_certain_a, .int s_heldCount, .int s_rows, .int u8.2.1, .int u8.2.2.1, .int u8.2.2.2])), (s_heldRows_a, .inl (cI, 24, .inl s_heldRows)), (s_heldColumns_a, .inl (cI, 24, .inl s_heldColumns)), (s_heldSixties_a, .inl (cI, 24, .inl s_heldSixties)), (s_certain_a, .inl (cI, 24, .inl s_certain_71)), (to, .inr (1, [.ref t_cells_a, .ref t_sixties_a, .int t_rows])), (t_cells_a, .inl (cI, 24, .inl t_cells)), (t_sixties_a, .inl (cI, 24, .inl t_sixties))] H → va_S (fun q => q ∈ ([so, s_heldRows_a, s_heldColumns_a, s_heldSixties_a, s_certain_a, to, t_cells_a, t_sixties_a] : List Nat)) s.heap H locs → ∀ (ls : Array Slot), lv_has ls 4 [(0, .ref so), (3, .int x3)] → W p l e rmX0_gatherSure s m args below meth c H locs 0 0 Q (F0 m 71 ls [.int z0_71]) := by
      intro z0_71 s_certain_71 h H locs hP hS ls hl
      rw [ekJ71] at h
      refine lv_istore_n (lv' := [(2, .int z0_71), (0, .ref so), (3, .int x3)]) hx hb dX0_gatherSure_71 rfl hl (by decide) rfl (fun ls hl => ?_)
      obtain ⟨x3_9, ex3_9⟩ : ∃ y : Int32, y = (x3 + (1 : Int32)) := ⟨_, rfl⟩
      replace h := md_le ex3_9 h
      refine lv_iinc (v := x3_9) (lv' := [(3, .int x3_9), (2, .int z0_71), (0, .ref so)]) hx hb dX0_gatherSure_72 hl (k := 2) rfl (by rw [ex3_9]; rfl) (by decide) rfl (fun ls hl => ?_)
      refine lv_goto (tgt := 41) hx hb dX0_gatherSure_75 (by decide) ?_
      exact ih z0_71 x3_9 s_certain_71 u8.2.1 u8.2.2.1 u8.2.2.2 h _ _ hP hS ls (lv_sub hl [2, 1, 0] rfl)
    clear ekJ71
    obtain ⟨kJ70, ekJ70, h⟩ := md_jo h
    have KJ70 : ∀ (s_certain_70 : Nat → Int32), kJ70 s_certain_70 = some res → ∀ (H : Heap) (locs : List Loc), va_P D vwCl [(so, .inr (0, [.ref s_heldRows_a, .ref s_heldColumns_a, .ref s_heldSixties_a, .ref s_certain_a, .int s_heldCount, .int s_rows, .int u8.2.1, .int u8.2.2.1, .int u8.2.2.2])), (s_heldRows_a, .inl (cI, 24, .inl s_heldRows)), (s_heldColumns_a, .inl (cI, 24, .inl s_heldColumns)), (s_heldSixties_a, .inl (cI, 24, .inl s_heldSixties)), (s_certain_a, .inl (cI, 24, .inl s_certain_70)), (to, .inr (1, [.ref t_cells_a, .ref t_sixties_a, .int t_rows])), (t_cells_a, .inl (cI, 24, .inl t_cells)), (t_sixties_a, .inl (cI, 24, .inl t_sixties))] H → va_S (fun q => q ∈ ([so, s_heldRows_a, s_heldColumns_a, s_heldSixties_a, s_certain_a, to, t_cells_a, t_sixties_a] : List Nat)) s.heap H locs → ∀ (ls : Array Slot), lv_has ls 4 [(0, .ref so), (3, .int x3)] → W p l e rmX0_gatherSure s m args below meth c H locs 0 0 Q (F0 m 70 ls []) := by
      intro s_certain_70 h H locs hP hS ls hl
      rw [ekJ70] at h
      refine lv_iconst (v := 0) hx hb dX0_gatherSure_70 (by decide) ?_
      exact KJ71 (0 : Int32) s_certain_70 h _ _ hP hS ls (lv_sub hl [0, 1] rfl)
    clear ekJ70
    refine lv_if_eq (tgt := 70) hx hb dX0_gatherSure_56 (by decide) (fun c10 => ?_) (fun c10 => ?_)
    · replace h := md_t c10 h
      exact KJ70 s_certain h _ _ hP hS ls (lv_sub hl [0, 2] rfl)
    replace h := md_f c10 h
    refine lv_aload_n hx hb dX0_gatherSure_59 rfl (lv_at hl 0 rfl) ?_
    obtain ⟨u11, hu11, h⟩ := md_b h
    refine kVx C (ctX0_keepAgreed l (nd_sub hnd [0, 1, 2, 3, 4] (by decide) rfl) hu11) gX0_gatherSure_X0_keepAgreed rfl kdvX0_keepAgreed ⟨rfl, rfl⟩ ⟨by decide, by decide⟩ kW_blind (va_recv hK hP (ci := 0) (q0 := 0) rfl rfl) (kW_use hK (hP.sub (ws' := [(so, .inr (0, [.ref s_heldRows_a, .ref s_heldColumns_a, .ref s_heldSixties_a, .ref s_certain_a, .int s_heldCount, .int s_rows, .int u8.2.1, .int u8.2.2.1, .int u8.2.2.2])), (s_heldRows_a, .inl (cI, 24, .inl s_heldRows)), (s_heldColumns_a, .inl (cI, 24, .inl s_heldColumns)), (s_heldSixties_a, .inl (cI, 24, .inl s_heldSixties)), (s_certain_a, .inl (cI, 24, .inl s_certain))]) [0, 1, 2, 3, 4] rfl) (kL_at hLz hS (mem_sub [0, 1, 2, 3, 4] rfl))) rfl hl [] rfl (Nat.le_of_ble_eq_true rfl) dX0_gatherSure_60 ⟨by decide, by decide⟩ hS (mem_sub [0, 1, 2, 3, 4] rfl) (fun H1 locs hP1 hk1 hS => ?_)
    replace hP : va_P D vwCl [(so, .inr (0, [.ref s_heldRows_a, .ref s_heldColumns_a, .ref s_heldSixties_a, .ref s_certain_a, .int s_heldCount, .int s_rows, .int u8.2.1, .int u8.2.2.1, .int u8.2.2.2])), (s_heldRows_a, .inl (cI, 24, .inl s_heldRows)), (s_heldColumns_a, .inl (cI, 24, .inl s_heldColumns)), (s_heldSixties_a, .inl (cI, 24, .inl s_heldSixties)), (s_certain_a, .inl (cI, 24, .inl u11.2)), (to, .inr (1, [.ref t_cells_a, .ref t_sixties_a, .int t_rows])), (t_cells_a, .inl (cI, 24, .inl t_cells)), (t_sixties_a, .inl (cI, 24, .inl t_sixties))] H1 := kjoin hnd rfl hP hP1 hk1 [0, 1, 2, 3, 4] rfl [(true, 0), (true, 1), (true, 2), (true, 3), (true, 4), (false, 5), (false, 6), (false, 7)] rfl rfl
    clear hP1 hk1
    generalize H1 = H at hP hS ⊢
    refine lv_if_eq (tgt := 70) hx hb dX0_gatherSure_63 (by decide) (fun c12 => ?_) (fun c12 => ?_)
    · replace h := md_t c12 h
      exact KJ70 u11.2 h _ _ hP hS ls (lv_sub hl [0, 2] rfl)
    replace h := md_f c12 h
    refine lv_iconst (v := 1) hx hb dX0_gatherSure_66 (by decide) ?_
    refine lv_goto (tgt := 71) hx hb dX0_gatherSure_67 (by decide) ?_
    exact KJ71 (1 : Int32) u11.2 h _ _ hP hS ls (lv_sub hl [0, 2] rfl)
def mX0_gatherSure (s_heldRows : Nat → Int32) (s_heldColumns : Nat → Int32) (s_heldSixties : Nat → Int32) (s_certain : Nat → Int32) (t_cells : Nat → Int32) (t_sixties : Nat → Int32) (t_rows : Int32) : Option ((Nat → Int32) × (Nat → Int32) × (Nat → Int32) × (Nat → Int32) × Int32 × Int32 × Int32 × Int32 × Int32) := (mlX0_gatherSure_2 (fun (s_certain_21 : Nat → Int32) => (Option.bind (mX0_begin s_heldRows s_heldColumns s_heldSixties t_cells t_sixties t_rows) (fun u4 => (Option.bind (mX0_nextReading u4.1 u4.2.1 u4.2.2.1 u4.2.2.2.1 u4.2.2.2.2.1 u4.2.2.2.2.2.1 u4.2.2.2.2.2.2.1 u4.2.2.2.2.2.2.2) (fun u5 => (md_jn (fun (s_certain_39 : Nat → Int32) => (mlX0_gatherSure_41 u4.1 u4.2.1 u4.2.2.1 u4.2.2.2.1 u4.2.2.2.2.1 (fun (s_certain_78 : Nat → Int32) (s_kind_78 : Int32) (s_n_78 : Int32) (s_first_78 : Int32) => (some (u4.1, u4.2.1, u4.2.2.1, s_certain_78, u4.2.2.2.1, u4.2.2.2.2.1, s_kind_78, s_n_78, s_first_78))) kN u5.1 (0 : Int32) s_certain_39 u5.2.1 u5.2.2.1 u5.2.2.2)) (fun kJ39 => (if u5.1 = 0 then (kJ39 s_certain_21) else (Option.bind (mX0_takeAll s_certain_21 u4.2.2.2.2.1 u5.2.1 u5.2.2.1 u5.2.2.2) (fun u14 => (kJ39 u14))))))))))) kN (0 : Int32) s_certain)
set_option maxHeartbeats 4000000 in
set_option maxRecDepth 100000 in
theorem bX0_gatherSure {p : Program} {l : Launch} {e : Env} {s : State} {m : MethodId} {args : Array Value} {below : List Frame} {meth : Method} {c : Code} {Q : State → Prop} (C : kc p s m args meth c cX0_gatherSure 4 RX0 yX0_gatherSure.name wsX0_gatherSure none) {D : va_G} {cI cT : ClassId} {so s_heldRows_a s_heldColumns_a s_heldSixties_a s_certain_a to t_cells_a t_sixties_a : Nat} {aL : Nat} (hK : va_K D vwCl (kTy cI cT) s) (hLz : kLz aL (fun q => q ∈ ([so, s_heldRows_a, s_heldColumns_a, s_heldSixties_a, s_certain_a, to, t_cells_a, t_sixties_a] : List Nat)) s s.heap) (hnd : ([so, s_heldRows_a, s_heldColumns_a, s_heldSixties_a, s_certain_a, to, t_cells_a, t_sixties_a] : List Nat).Nodup) (s_heldRows : Nat → Int32) (s_heldColumns : Nat → Int32) (s_heldSixties : Nat → Int32) (s_certain : Nat → Int32) (s_heldCount : Int32) (s_rows : Int32) (s_kind : Int32) (s_n : Int32) (s_first : Int32) (t_cells : Nat → Int32) (t_sixties : Nat → Int32) (t_rows : Int32) (res : ((Nat → Int32) × (Nat → Int32) × (Nat → Int32) × (Nat → Int32) × Int32 × Int32 × Int32 × Int32 × Int32)) (hQ : ∀ (s_heldRows : Nat → Int32) (s_heldColumns : Nat → Int32) (s_heldSixties : Nat → Int32) (s_certain : Nat → Int32) (s_heldCount : Int32) (s_rows : Int32) (s_kind : Int32) (s_n : Int32) (s_first : Int32) (H : Heap) (locs : List Loc) (pc : Nat) (ls : Array Slot), some (s_heldRows, s_heldColumns, s_heldSixties, s_certain, s_heldCount, s_rows, s_kind, s_n, s_first) = some res → va_P D vwCl [(so, .inr (0, [.ref s_heldRows_a, .ref s_heldColumns_a, .ref s_heldSixties_a, .ref s_certain_a, .int s_heldCount, .int s_rows, .int s_kind, .int s_n, .int s_first])), (s_heldRows_a, .inl (cI, 24, .inl s_heldRows)), (s_heldColumns_a, .inl (cI, 24, .inl s_heldColumns)), (s_heldSixties_a, .inl (cI, 24, .inl s_heldSixties)), (s_certain_a, .inl (cI, 24, .inl s_certain)), (to, .inr (1, [.ref t_cells_a, .ref t_sixties_a, .int t_rows])), (t_cells_a, .inl (cI, 24, .inl t_cells)), (t_sixties_a, .inl (cI, 24, .inl t_sixties))] H → va_S (fun q => q ∈ ([so, s_heldRows_a, s_heldColumns_a, s_heldSixties_a, s_certain_a, to, t_cells_a, t_sixties_a] : List Nat)) s.heap H locs → decode cX0_gatherSure pc = .ok (.return_, 1) → W p l e rmX0_gatherSure s m args below meth c H locs 0 0 Q (F0 m pc ls [])) : mX0_gatherSure s_heldRows s_heldColumns s_heldSixties s_certain t_cells t_sixties t_rows = some res → ∀ (H : Heap) (locs : List Loc), va_P D vwCl [(so, .inr (0, [.ref s_heldRows_a, .ref s_heldColumns_a, .ref s_heldSixties_a, .ref s_certain_a, .int s_heldCount, .int s_rows, .int s_kind, .int s_n, .int s_first])), (s_heldRows_a, .inl (cI, 24, .inl s_heldRows)), (s_heldColumns_a, .inl (cI, 24, .inl s_heldColumns)), (s_heldSixties_a, .inl (cI, 24, .inl s_heldSixties)), (s_certain_a, .inl (cI, 24, .inl s_certain)), (to, .inr (1, [.ref t_cells_a, .ref t_sixties_a, .int t_rows])), (t_cells_a, .inl (cI, 24, .inl t_cells)), (t_sixties_a, .inl (cI, 24, .inl t_sixties))] H → va_S (fun q => q ∈ ([so, s_heldRows_a, s_heldColumns_a, s_heldSixties_a, s_certain_a, to, t_cells_a, t_sixties_a] : List Nat)) s.heap H locs → ∀ (ls : Array Slot), lv_has ls 4 [(0, .ref so), (1, .ref to)] → W p l e rmX0_gatherSure s m args below meth c H locs 0 0 Q (F0 m 0 ls []) := by
  intro h H locs hP hS ls hl
  have C0 := C
  obtain ⟨hx, hb, hml, hown, hts, hr, hlk, hnm⟩ := C0
  rw [mX0_gatherSure] at h
  refine lv_iconst (v := 0) hx hb dX0_gatherSure_0 (by decide) ?_
  refine lv_istore_n (lv' := [(2, .int (0 : Int32)), (0, .ref so), (1, .ref to)]) hx hb dX0_gatherSure_1 rfl hl (by decide) rfl (fun ls hl => ?_)
  refine lX0_gatherSure_2 C hK hLz hnd s_heldRows s_heldColumns s_heldSixties s_heldCount s_rows s_kind s_n s_first t_cells t_sixties t_rows res hQ _ (fun s_certain_21 h H locs hP hS ls hl => ?_) kN (0 : Int32) s_certain h _ _ hP hS ls (lv_sub hl [1, 2, 0] rfl)
  refine lv_aload_n hx hb dX0_gatherSure_21 rfl (lv_at hl 0 rfl) ?_
  refine lv_aload_n hx hb dX0_gatherSure_22 rfl (lv_at hl 1 rfl) ?_
  obtain ⟨u4, hu4, h⟩ := md_b h
  refine kVx C (ctX0_begin l (nd_sub hnd [0, 1, 2, 3, 4, 5, 6, 7] (by decide) rfl) hu4) gX0_gatherSure_X0_begin rfl kdvX0_begin ⟨rfl, rfl⟩ ⟨by decide, by decide⟩ kW_blind (va_recv hK hP (ci := 0) (q0 := 0) rfl rfl) (kW_use hK (hP.sub (ws' := [(so, .inr (0, [.ref s_heldRows_a, .ref s_heldColumns_a, .ref s_heldSixties_a, .ref s_certain_a, .int s_heldCount, .int s_rows, .int s_kind, .int s_n, .int s_first])), (s_heldRows_a, .inl (cI, 24, .inl s_heldRows)), (s_heldColumns_a, .inl (cI, 24, .inl s_heldColumns)), (s_heldSixties_a, .inl (cI, 24, .inl s_heldSixties)), (s_certain_a, .inl (cI, 24, .inl s_certain_21)), (to, .inr (1, [.ref t_cells_a, .ref t_sixties_a, .int t_rows])), (t_cells_a, .inl (cI, 24, .inl t_cells)), (t_sixties_a, .inl (cI, 24, .inl t_sixties))]) [0, 1, 2, 3, 4, 5, 6, 7] rfl) kL_no) rfl hl [] rfl (Nat.le_of_ble_eq_true rfl) dX0_gatherSure_23 ⟨by decide, by decide⟩ hS (mem_sub [0, 1, 2, 3, 4, 5, 6, 7] rfl) (fun H1 locs hP1 hk1 hS => ?_)
  replace hP : va_P D vwCl [(so, .inr (0, [.ref s_heldRows_a, .ref s_heldColumns_a, .ref s_heldSixties_a, .ref s_certain_a, .int u4.2.2.2.1, .int u4.2.2.2.2.1, .int u4.2.2.2.2.2.1, .int u4.2.2.2.2.2.2.1, .int u4.2.2.2.2.2.2.2])), (s_heldRows_a, .inl (cI, 24, .inl u4.1)), (s_heldColumns_a, .inl (cI, 24, .inl u4.2.1)), (s_heldSixties_a, .inl (cI, 24, .inl u4.2.2.1)), (s_certain_a, .inl (cI, 24, .inl s_certain_21)), (to, .inr (1, [.ref t_cells_a, .ref t_sixties_a, .int t_rows])), (t_cells_a, .inl (cI, 24, .inl t_cells)), (t_sixties_a, .inl (cI, 24, .inl t_sixties))] H1 := kjoin hnd rfl hP hP1 hk1 [0, 1, 2, 3, 4, 5, 6, 7] rfl [(true, 0), (true, 1), (true, 2), (true, 3), (true, 4), (true, 5), (true, 6), (true, 7)] rfl rfl
  clear hP1 hk1
  generalize H1 = H at hP hS ⊢
  refine lv_aload_n hx hb dX0_gatherSure_26 rfl (lv_at hl 0 rfl) ?_
  obtain ⟨u5, hu5, h⟩ := md_b h
  refine kVx C (ctX0_nextReading l (nd_sub hnd [0, 1, 2, 3, 4] (by decide) rfl) hu5) gX0_gatherSure_X0_nextReading rfl kdvX0_nextReading ⟨rfl, rfl⟩ ⟨by decide, by decide⟩ kW_blind (va_recv hK hP (ci := 0) (q0 := 0) rfl rfl) (kW_use hK (hP.sub (ws' := [(so, .inr (0, [.ref s_heldRows_a, .ref s_heldColumns_a, .ref s_heldSixties_a, .ref s_certain_a, .int u4.2.2.2.1, .int u4.2.2.2.2.1, .int u4.2.2.2.2.2.1, .int u4.2.2.2.2.2.2.1, .int u4.2.2.2.2.2.2.2])), (s_heldRows_a, .inl (cI, 24, .inl u4.1)), (s_heldColumns_a, .inl (cI, 24, .inl u4.2.1)), (s_heldSixties_a, .inl (cI, 24, .inl u4.2.2.1)), (s_certain_a, .inl (cI, 24, .inl s_certain_21))]) [0, 1, 2, 3, 4] rfl) (kL_at hLz hS (mem_sub [0, 1, 2, 3, 4] rfl))) rfl hl [] rfl (Nat.le_of_ble_eq_true rfl) dX0_gatherSure_27 ⟨by decide, by decide⟩ hS (mem_sub [0, 1, 2, 3, 4] rfl) (fun H1 locs hP1 hk1 hS => ?_)
  replace hP : va_P D vwCl [(so, .inr (0, [.ref s_heldRows_a, .ref s_heldColumns_a, .ref s_heldSixties_a, .ref s_certain_a, .int u4.2.2.2.1, .int u4.2.2.2.2.1, .int u5.2.1, .int u5.2.2.1, .int u5.2.2.2])), (s_heldRows_a, .inl (cI, 24, .inl u4.1)), (s_heldColumns_a, .inl (cI, 24, .inl u4.2.1)), (s_heldSixties_a, .inl (cI, 24, .inl u4.2.2.1)), (s_certain_a, .inl (cI, 24, .inl s_certain_21)), (to, .inr (1, [.ref t_cells_a, .ref t_sixties_a, .int t_rows])), (t_cells_a, .inl (cI, 24, .inl t_cells)), (t_sixties_a, .inl (cI, 24, .inl t_sixties))] H1 := kjoin hnd rfl hP hP1 hk1 [0, 1, 2, 3, 4] rfl [(true, 0), (true, 1), (true, 2), (true, 3), (true, 4), (false, 5), (false, 6), (false, 7)] rfl rfl
  clear hP1 hk1
  generalize H1 = H at hP hS ⊢
  refine lv_istore_n (lv' := [(2, .int u5.1), (0, .ref so), (1, .ref to)]) hx hb dX0_gatherSure_30 rfl hl (by decide) rfl (fun ls hl => ?_)
  refine lv_iload_n hx hb dX0_gatherSure_31 rfl (lv_at hl 0 rfl) ?_
  obtain ⟨kJ39, ekJ39, h⟩ := md_jo h
  have KJ39 : ∀ (s_certain_39 : Nat → Int32), kJ39 s_certain_39 = some res → ∀ (H : Heap) (locs : List Loc), va_P D vwCl [(so, .inr (0, [.ref s_heldRows_a, .ref s_heldColumns_a, .ref s_heldSixties_a, .ref s_certain_a, .int u4.2.2.2.1, .int u4.2.2.2.2.1, .int u5.2.1, .int u5.2.2.1, .int u5.2.2.2])), (s_heldRows_a, .inl (cI, 24, .inl u4.1)), (s_heldColumns_a, .inl (cI, 24, .inl u4.2.1)), (s_heldSixties_a, .inl (cI, 24, .inl u4.2.2.1)), (s_certain_a, .inl (cI, 24, .inl s_certain_39)), (to, .inr (1, [.ref t_cells_a, .ref t_sixties_a, .int t_rows])), (t_cells_a, .inl (cI, 24, .inl t_cells)), (t_sixties_a, .inl (cI, 24, .inl t_sixties))] H → va_S (fun q => q ∈ ([so, s_heldRows_a, s_heldColumns_a, s_heldSixties_a, s_certain_a, to, t_cells_a, t_sixties_a] : List Nat)) s.heap H locs → ∀ (ls : Array Slot), lv_has ls 4 [(0, .ref so), (2, .int u5.1)] → W p l e rmX0_gatherSure s m args below meth c H locs 0 0 Q (F0 m 39 ls []) := by
    intro s_certain_39 h H locs hP hS ls hl
    rw [ekJ39] at h
    refine lv_iconst (v := 0) hx hb dX0_gatherSure_39 (by decide) ?_
    refine lv_istore_n (lv' := [(3, .int (0 : Int32)), (0, .ref so), (2, .int u5.1)]) hx hb dX0_gatherSure_40 rfl hl (by decide) rfl (fun ls hl => ?_)
    refine lX0_gatherSure_41 C hK hLz hnd u4.1 u4.2.1 u4.2.2.1 u4.2.2.2.1 u4.2.2.2.2.1 t_cells t_sixties t_rows res hQ _ (fun s_certain_78 s_kind_78 s_n_78 s_first_78 h H locs hP hS ls hl => ?_) kN u5.1 (0 : Int32) s_certain_39 u5.2.1 u5.2.2.1 u5.2.2.2 h _ _ hP hS ls (lv_sub hl [1, 2, 0] rfl)
    exact hQ u4.1 u4.2.1 u4.2.2.1 s_certain_78 u4.2.2.2.1 u4.2.2.2.2.1 s_kind_78 s_n_78 s_first_78 H locs 78 ls h hP hS dX0_gatherSure_78
  clear ekJ39
  refine lv_if_eq (tgt := 39) hx hb dX0_gatherSure_32 (by decide) (fun c13 => ?_) (fun c13 => ?_)
  · replace h := md_t c13 h
    exact KJ39 s_certain_21 h _ _ hP hS ls (lv_sub hl [1, 0] rfl)
  replace h := md_f c13 h
  refine lv_aload_n hx hb dX0_gatherSure_35 rfl (lv_at hl 1 rfl) ?_
  obtain ⟨u14, hu14, h⟩ := md_b h
  refine kVx C (ctX0_takeAll l (nd_sub hnd [0, 1, 2, 3, 4] (by decide) rfl) hu14) gX0_gatherSure_X0_takeAll rfl kdvX0_takeAll ⟨rfl, rfl⟩ ⟨by decide, by decide⟩ kW_blind (va_recv hK hP (ci := 0) (q0 := 0) rfl rfl) (kW_use hK (hP.sub (ws' := [(so, .inr (0, [.ref s_heldRows_a, .ref s_heldColumns_a, .ref s_heldSixties_a, .ref s_certain_a, .int u4.2.2.2.1, .int u4.2.2.2.2.1, .int u5.2.1, .int u5.2.2.1, .int u5.2.2.2])), (s_heldRows_a, .inl (cI, 24, .inl u4.1)), (s_heldColumns_a, .inl (cI, 24, .inl u4.2.1)), (s_heldSixties_a, .inl (cI, 24, .inl u4.2.2.1)), (s_certain_a, .inl (cI, 24, .inl s_certain_21))]) [0, 1, 2, 3, 4] rfl) (kL_at hLz hS (mem_sub [0, 1, 2, 3, 4] rfl))) rfl hl [] rfl (Nat.le_of_ble_eq_true rfl) dX0_gatherSure_36 ⟨by decide, by decide⟩ hS (mem_sub [0, 1, 2, 3, 4] rfl) (fun H1 locs hP1 hk1 hS => ?_)
  replace hP : va_P D vwCl [(so, .inr (0, [.ref s_heldRows_a, .ref s_heldColumns_a, .ref s_heldSixties_a, .ref s_certain_a, .int u4.2.2.2.1, .int u4.2.2.2.2.1, .int u5.2.1, .int u5.2.2.1, .int u5.2.2.2])), (s_heldRows_a, .inl (cI, 24, .inl u4.1)), (s_heldColumns_a, .inl (cI, 24, .inl u4.2.1)), (s_heldSixties_a, .inl (cI, 24, .inl u4.2.2.1)), (s_certain_a, .inl (cI, 24, .inl u14)), (to, .inr (1, [.ref t_cells_a, .ref t_sixties_a, .int t_rows])), (t_cells_a, .inl (cI, 24, .inl t_cells)), (t_sixties_a, .inl (cI, 24, .inl t_sixties))] H1 := kjoin hnd rfl hP hP1 hk1 [0, 1, 2, 3, 4] rfl [(true, 0), (true, 1), (true, 2), (true, 3), (true, 4), (false, 5), (false, 6), (false, 7)] rfl rfl
  clear hP1 hk1
  generalize H1 = H at hP hS ⊢
  exact KJ39 u14 h _ _ hP hS ls (lv_sub hl [1, 0] rfl)
set_option maxHeartbeats 4000000 in
theorem ctX0_gatherSure (l : Launch) {D : va_G} {cI cT : ClassId} {so s_heldRows_a s_heldColumns_a s_heldSixties_a s_certain_a to t_cells_a t_sixties_a : Nat} {aL : Nat} {s_heldRows : Nat → Int32} {s_heldColumns : Nat → Int32} {s_heldSixties : Nat → Int32} {s_certain : Nat → Int32} {s_heldCount : Int32} {s_rows : Int32} {s_kind : Int32} {s_n : Int32} {s_first : Int32} {t_cells : Nat → Int32} {t_sixties : Nat → Int32} {t_rows : Int32} {res : ((Nat → Int32) × (Nat → Int32) × (Nat → Int32) × (Nat → Int32) × Int32 × Int32 × Int32 × Int32 × Int32)} (hnd : ([so, s_heldRows_a, s_heldColumns_a, s_heldSixties_a, s_certain_a, to, t_cells_a, t_sixties_a] : List Nat).Nodup) (hm : mX0_gatherSure s_heldRows s_heldColumns s_heldSixties s_certain t_cells t_sixties t_rows = some res) : Met l yX0_gatherSure wsX0_gatherSure rmX0_gatherSure (va_Pc [.ref so, .ref to] (kW D cI cT [(so, .inr (0, [.ref s_heldRows_a, .ref s_heldColumns_a, .ref s_heldSixties_a, .ref s_certain_a, .int s_heldCount, .int s_rows, .int s_kind, .int s_n, .int s_first])), (s_heldRows_a, .inl (cI, 24, .inl s_heldRows)), (s_heldColumns_a, .inl (cI, 24, .inl s_heldColumns)), (s_heldSixties_a, .inl (cI, 24, .inl s_heldSixties)), (s_certain_a, .inl (cI, 24, .inl s_certain)), (to, .inr (1, [.ref t_cells_a, .ref t_sixties_a, .int t_rows])), (t_cells_a, .inl (cI, 24, .inl t_cells)), (t_sixties_a, .inl (cI, 24, .inl t_sixties))] (some aL) (fun q => q ∈ ([so, s_heldRows_a, s_heldColumns_a, s_heldSixties_a, s_certain_a, to, t_cells_a, t_sixties_a] : List Nat)))) (kX none D [(so, .inr (0, [.ref s_heldRows_a, .ref s_heldColumns_a, .ref s_heldSixties_a, .ref s_certain_a, .int res.2.2.2.2.1, .int res.2.2.2.2.2.1, .int res.2.2.2.2.2.2.1, .int res.2.2.2.2.2.2.2.1, .int res.2.2.2.2.2.2.2.2])), (s_heldRows_a, .inl (cI, 24, .inl res.1)), (s_heldColumns_a, .inl (cI, 24, .inl res.2.1)), (s_heldSixties_a, .inl (cI, 24, .inl res.2.2.1)), (s_certain_a, .inl (cI, 24, .inl res.2.2.2.1)), (to, .inr (1, [.ref t_cells_a, .ref t_sixties_a, .int t_rows])), (t_cells_a, .inl (cI, 24, .inl t_cells)), (t_sixties_a, .inl (cI, 24, .inl t_sixties))] (fun q => q ∈ ([so, s_heldRows_a, s_heldColumns_a, s_heldSixties_a, s_certain_a, to, t_cells_a, t_sixties_a] : List Nat))) 0 0 (fun q => q ∈ ([so, s_heldRows_a, s_heldColumns_a, s_heldSixties_a, s_certain_a, to, t_cells_a, t_sixties_a] : List Nat)) :=
  km (by decide) rfl (Nat.le_of_ble_eq_true rfl) (fun p e s m below meth c ls C hB hl => bX0_gatherSure C hB.1 (hB.2.2 aL rfl) hnd s_heldRows s_heldColumns s_heldSixties s_certain s_heldCount s_rows s_kind s_n s_first t_cells t_sixties t_rows res (fun s_heldRows1 s_heldColumns1 s_heldSixties1 s_certain1 s_heldCount1 s_rows1 s_kind1 s_n1 s_first1 H locs pc ls h hP hS hd => by obtain rfl := Option.some.inj h; exact kx_v C hP hS hd) hm s.heap [] hB.2.1 va_S.rf ls hl)
theorem wm_X0_sureIn_0 : Cond.fieldLink RX0 21 "SixtyTablet$Search" "certain" "[I" ∈ wsX0_sureIn := by decide +kernel
theorem wi_X0_sureIn_X0 : ∀ w ∈ wsX00, w ∈ wsX0_sureIn := by decide +kernel
theorem kdvX0_sureIn : yX0_sureIn.cls = RX0 ∧ yX0_sureIn.cls ≠ "java/lang/invoke/MethodHandle" ∧ yX0_sureIn.cls ≠ "java/lang/invoke/VarHandle" ∧ (parseMethodDescriptor yX0_sureIn.desc).map (fun d => d.parameters.length) = some 2 := by decide +kernel
abbrev rmX0_sureIn : Room := { frames := 0, cells := 0, slots := 0, locals := 0 }
def mX0_sureIn (s_certain : Nat → Int32) (p1 : Int32) (p2 : Int32) : Option Int32 := (md_let ((p1 * (3 : Int32)) + p2) (fun (x3_1 : Int32) => (if x3_1 < 0 then (some (0 : Int32)) else (if (24 : Int32) ≤ x3_1 then (some (0 : Int32)) else (if x3_1 < 0 ∨ 24 ≤ (Int32.toNatClampNeg x3_1) then none else (some (s_certain (Int32.toNatClampNeg x3_1))))))))
set_option maxHeartbeats 4000000 in
set_option maxRecDepth 100000 in
theorem bX0_sureIn {p : Program} {l : Launch} {e : Env} {s : State} {m : MethodId} {args : Array Value} {below : List Frame} {meth : Method} {c : Code} {Q : State → Prop} (C : kc p s m args meth c cX0_sureIn 4 RX0 yX0_sureIn.name wsX0_sureIn (some .int)) {D : va_G} {cI cT : ClassId} {so s_heldRows_a s_heldColumns_a s_heldSixties_a s_certain_a : Nat} (p1 : Int32) (p2 : Int32) (hK : va_K D vwCl (kTy cI cT) s) (s_heldRows : Nat → Int32) (s_heldColumns : Nat → Int32) (s_heldSixties : Nat → Int32) (s_certain : Nat → Int32) (s_heldCount : Int32) (s_rows : Int32) (s_kind : Int32) (s_n : Int32) (s_first : Int32) (hP : va_P D vwCl [(so, .inr (0, [.ref s_heldRows_a, .ref s_heldColumns_a, .ref s_heldSixties_a, .ref s_certain_a, .int s_heldCount, .int s_rows, .int s_kind, .int s_n, .int s_first])), (s_heldRows_a, .inl (cI, 24, .inl s_heldRows)), (s_heldColumns_a, .inl (cI, 24, .inl s_heldColumns)), (s_heldSixties_a, .inl (cI, 24, .inl s_heldSixties)), (s_certain_a, .inl (cI, 24, .inl s_certain))] s.heap) (res : Int32) (hQ : ∀ (v : Int32) (pc : Nat) (ls : Array Slot), some v = some res → decode cX0_sureIn pc = .ok (.ireturn, 1) → W p l e rmX0_sureIn s m args below meth c s.heap [] 0 0 Q (F0 m pc ls [.int v])) : mX0_sureIn s_certain p1 p2 = some res → ∀ (ls : Array Slot), lv_has ls 4 [(0, .ref so), (1, .int p1), (2, .int p2)] → W p l e rmX0_sureIn s m args below meth c s.heap [] 0 0 Q (F0 m 0 ls []) := by
  intro h ls hl
  have C0 := C
  obtain ⟨hx, hb, hml, hown, hts, hr, hlk, hnm⟩ := C0
  rw [mX0_sureIn] at h
  refine lv_iload_n hx hb dX0_sureIn_0 rfl (lv_at hl 1 rfl) ?_
  refine lv_iconst (v := 3) hx hb dX0_sureIn_1 (by decide) ?_
  refine lv_imul hx hb dX0_sureIn_2 ?_
  refine lv_iload_n hx hb dX0_sureIn_3 rfl (lv_at hl 2 rfl) ?_
  refine lv_iadd hx hb dX0_sureIn_4 ?_
  refine lv_topi (fun x3_1 ex3_1 => ?_)
  replace h := md_le ex3_1 h
  refine lv_istore_n (lv' := [(3, .int x3_1), (0, .ref so), (1, .int p1), (2, .int p2)]) hx hb dX0_sureIn_5 rfl hl (by decide) rfl (fun ls hl => ?_)
  refine lv_iload_n hx hb dX0_sureIn_6 rfl (lv_at hl 0 rfl) ?_
  refine lv_if_lt (tgt := 25) hx hb dX0_sureIn_7 (by decide) (fun c2 => ?_) (fun c2 => ?_)
  · replace h := md_t c2 h
    refine lv_iconst (v := 0) hx hb dX0_sureIn_25 (by decide) ?_
    exact hQ (0 : Int32) 26 ls h dX0_sureIn_26
  replace h := md_f c2 h
  refine lv_iload_n hx hb dX0_sureIn_10 rfl (lv_at hl 0 rfl) ?_
  refine lv_bipush (v := 24) hx hb dX0_sureIn_11 (by decide) ?_
  refine lv_icmp_ge (tgt := 25) hx hb dX0_sureIn_13 (by decide) (fun c3 => ?_) (fun c3 => ?_)
  · replace h := md_t c3 h
    refine lv_iconst (v := 0) hx hb dX0_sureIn_25 (by decide) ?_
    exact hQ (0 : Int32) 26 ls h dX0_sureIn_26
  replace h := md_f c3 h
  refine lv_aload_n hx hb dX0_sureIn_16 rfl (lv_at hl 1 rfl) ?_
  refine va_get (D := D) (ci := 0) (v := .ref s_certain_a) (C := RX0) (T := TX0) (N := 9) hx hb hts wi_X0_sureIn_X0 hown hK hP 0 rfl rfl 3 (by decide) (hts _ wm_X0_sureIn_0) (fun _ h9 => h9) rfl dX0_sureIn_17 ?_
  refine lv_iload_n hx hb dX0_sureIn_20 rfl (lv_at hl 0 rfl) ?_
  obtain ⟨hin4, h⟩ := md_g h
  refine va_iald hx hb hK hP 4 0 rfl rfl hin4 dX0_sureIn_21 ?_
  refine lv_goto (tgt := 26) hx hb dX0_sureIn_22 (by decide) ?_
  exact hQ (s_certain (Int32.toNatClampNeg x3_1)) 26 ls h dX0_sureIn_26
set_option maxHeartbeats 4000000 in
theorem ctX0_sureIn (l : Launch) {D : va_G} {cI cT : ClassId} {so s_heldRows_a s_heldColumns_a s_heldSixties_a s_certain_a : Nat} {s_heldRows : Nat → Int32} {s_heldColumns : Nat → Int32} {s_heldSixties : Nat → Int32} {s_certain : Nat → Int32} {s_heldCount : Int32} {s_rows : Int32} {s_kind : Int32} {s_n : Int32} {s_first : Int32} {p1 : Int32} {p2 : Int32} {res : Int32} (hm : mX0_sureIn s_certain p1 p2 = some res) : Met l yX0_sureIn wsX0_sureIn rmX0_sureIn (va_Pc [.ref so, .int p1, .int p2] (kW D cI cT [(so, .inr (0, [.ref s_heldRows_a, .ref s_heldColumns_a, .ref s_heldSixties_a, .ref s_certain_a, .int s_heldCount, .int s_rows, .int s_kind, .int s_n, .int s_first])), (s_heldRows_a, .inl (cI, 24, .inl s_heldRows)), (s_heldColumns_a, .inl (cI, 24, .inl s_heldColumns)), (s_heldSixties_a, .inl (cI, 24, .inl s_heldSixties)), (s_certain_a, .inl (cI, 24, .inl s_certain))] none (fun _ => False))) (kR (.int res)) 0 0 (fun _ => False) :=
  km (by decide) rfl (Nat.le_of_ble_eq_true rfl) (fun p e s m below meth c ls C hB hl => bX0_sureIn C p1 p2 hB.1 s_heldRows s_heldColumns s_heldSixties s_certain s_heldCount s_rows s_kind s_n s_first hB.2.1 res (fun v pc ls h hd => kr_i C h hd) hm ls hl)
end
