/-- a method: name, code, locals, answer's type, class, argument kinds (0 int, 1 long, 2 reference), frames, words, places of longs, how it is called (0 an object's, 1 static, 2 constructor) -/
abbrev cm_MI : Type := MethodName × ByteArray × Nat × Option FieldType × Nat × List Nat × Nat × Nat × List Nat × Nat
abbrev cm_Q : Type := cm_MI × List (Nat × Instr × Nat)
def mi_0 : cm_MI := (yX0_init, cX0_init, 1, none, 0, [2], 2, 59, [], 2)
def mi_1 : cm_MI := (yX0_follow, cX0_follow, 1, none, 0, [2], 3, 71, [], 0)
def mi_2 : cm_MI := (yX0_layOut, cX0_layOut, 2, none, 0, [2], 1, 21, [], 0)
def mi_3 : cm_MI := (yX0_pace, cX0_pace, 2, none, 0, [2], 2, 48, [], 0)
def mi_4 : cm_MI := (yX0_changeSpeed, cX0_changeSpeed, 5, none, 0, [2, 0, 0], 1, 24, [], 0)
def mi_5 : cm_MI := (yX0_begin, cX0_begin, 4, none, 0, [2, 0, 0, 0], 0, 0, [], 0)
def mi_6 : cm_MI := (yX0_watch, cX0_watch, 6, none, 0, [2], 2, 46, [], 0)
def mi_7 : cm_MI := (yX0_stretchReaching, cX0_stretchReaching, 5, (some .int), 0, [2, 0, 0], 0, 0, [], 0)
def mi_8 : cm_MI := (yX0_timeIn, cX0_timeIn, 3, (some .int), 0, [2, 0, 0], 1, 24, [], 0)
def mi_9 : cm_MI := (yX0_ticksIn, cX0_ticksIn, 5, (some .int), 0, [2, 0, 0], 0, 0, [], 0)
def mi_10 : cm_MI := (yX0_ticksInAll, cX0_ticksInAll, 2, (some .int), 0, [2], 2, 46, [], 0)
def mi_11 : cm_MI := (yX0_stretchAt, cX0_stretchAt, 4, (some .int), 0, [2, 0], 0, 0, [], 0)
def mi_12 : cm_MI := (yX0_speedAt, cX0_speedAt, 2, (some .int), 0, [2, 0], 1, 23, [], 0)
def mi_13 : cm_MI := (yX0_movedAt, cX0_movedAt, 3, (some .int), 0, [2, 0], 1, 23, [], 0)
def mi_14 : cm_MI := (yX0_isSeenAt, cX0_isSeenAt, 3, (some .boolean), 0, [2, 0, 0], 0, 0, [], 0)
def mi_15 : cm_MI := (yX0_firstSeenAt, cX0_firstSeenAt, 3, (some .int), 0, [2, 0], 1, 22, [], 0)
def mi_16 : cm_MI := (yX0_lastSeenAt, cX0_lastSeenAt, 3, (some .int), 0, [2, 0], 1, 22, [], 0)
def mi_17 : cm_MI := (yX0_howManySeenAt, cX0_howManySeenAt, 4, (some .int), 0, [2, 0], 1, 22, [], 0)
def mi_18 : cm_MI := (yX0_leastSeenLineOf, cX0_leastSeenLineOf, 4, (some .int), 0, [2, 0], 0, 0, [], 0)
def mi_19 : cm_MI := (yX0_leastSeenOf, cX0_leastSeenOf, 3, (some .int), 0, [2, 0], 1, 23, [], 0)
def mi_20 : cm_MI := (yX0_mostSeenOf, cX0_mostSeenOf, 4, (some .int), 0, [2, 0], 1, 21, [], 0)
def mi_21 : cm_MI := (yX0_spreadOf, cX0_spreadOf, 2, (some .int), 0, [2, 0], 2, 45, [], 0)
def mi_22 : cm_MI := (yX0_spreadsInAll, cX0_spreadsInAll, 3, (some .int), 0, [2], 3, 66, [], 0)
def mi_23 : cm_MI := (yX0_unequalGroups, cX0_unequalGroups, 3, (some .int), 0, [2], 3, 66, [], 0)
def mi_24 : cm_MI := (yX0_neverSeenNames, cX0_neverSeenNames, 3, (some .int), 0, [2], 0, 0, [], 0)
def mi_25 : cm_MI := (yX0_showsNamesFor, cX0_showsNamesFor, 3, (some .boolean), 0, [2, 0], 0, 0, [], 0)
def mi_26 : cm_MI := (yX1_init, cX1_init, 1, none, 1, [2], 1, 39, [], 2)
def mi_27 : cm_MI := (yX1_takeFrom, cX1_takeFrom, 2, none, 1, [2, 2], 2, 46, [], 0)
def mi_28 : cm_MI := (yX1_addAll, cX1_addAll, 3, none, 1, [2, 2], 1, 24, [], 0)
def mi_29 : cm_MI := (yX1_add, cX1_add, 5, none, 1, [2, 0, 0, 0, 0], 0, 0, [], 0)
def mi_30 : cm_MI := (yX1_holds, cX1_holds, 2, (some .boolean), 1, [2, 0], 0, 0, [], 0)
def mi_31 : cm_MI := (yX1_heightOf, cX1_heightOf, 2, (some .int), 1, [2, 0], 0, 0, [], 0)
def mi_32 : cm_MI := (yX1_carry, cX1_carry, 4, none, 1, [2, 0, 0], 2, 45, [], 0)
def mi_33 : cm_MI := (yX1_remove, cX1_remove, 2, none, 1, [2, 0], 3, 68, [], 0)
def mi_34 : cm_MI := (yX1_exchange, cX1_exchange, 3, none, 1, [2, 0, 0], 1, 23, [], 0)
def mi_35 : cm_MI := (yX1_exchangeIn, cX1_exchangeIn, 4, none, 1, [2, 0, 0], 0, 0, [], 1)
def mi_36 : cm_MI := (yX1_firstNameOf, cX1_firstNameOf, 3, (some .int), 1, [2, 0], 0, 0, [], 0)
def mi_37 : cm_MI := (yX1_namesOf, cX1_namesOf, 4, (some .int), 1, [2, 0], 0, 0, [], 0)
def mi_38 : cm_MI := (yX1_namesInAll, cX1_namesInAll, 3, (some .int), 1, [2], 0, 0, [], 0)
def mi_39 : cm_MI := (yX1_cuesInAll, cX1_cuesInAll, 3, (some .int), 1, [2], 0, 0, [], 0)
def mi_40 : cm_MI := (yX1_dropCues, cX1_dropCues, 2, none, 1, [2], 0, 0, [], 0)
def mi_41 : cm_MI := (yX2_init, cX2_init, 2, none, 2, [2], 2, 59, [], 2)
def mi_42 : cm_MI := (yX2_remember, cX2_remember, 2, none, 2, [2, 2], 3, 67, [], 0)
def mi_43 : cm_MI := (yX3_init, cX3_init, 1, none, 3, [2], 1, 12, [], 2)
def mi_44 : cm_MI := (yX4_init, cX4_init, 2, none, 4, [2], 2, 59, [], 2)
def mi_45 : cm_MI := (yX5_init, cX5_init, 1, none, 5, [2], 3, 80, [], 2)
def mi_46 : cm_MI := (yX5_set, cX5_set, 4, (some .int), 5, [2, 0, 0], 4, 88, [], 0)
def mi_47 : cm_MI := (yX5_name, cX5_name, 3, (some .int), 5, [2, 0, 0], 5, 111, [], 0)
def mi_48 : cm_MI := (yX5_line, cX5_line, 2, (some .int), 5, [2, 0], 5, 111, [], 0)
def mi_49 : cm_MI := (yX5_cue, cX5_cue, 4, (some .int), 5, [2, 0, 0], 4, 88, [], 0)
def mi_50 : cm_MI := (yX5_move, cX5_move, 4, (some .int), 5, [2, 0, 0], 4, 91, [], 0)
def mi_51 : cm_MI := (yX5_drop, cX5_drop, 2, (some .int), 5, [2, 0], 4, 89, [], 0)
def mi_52 : cm_MI := (yX5_of, cX5_of, 3, (some .int), 5, [2, 0, 0], 4, 91, [], 0)
def mi_53 : cm_MI := (yX5_group, cX5_group, 3, (some .int), 5, [2, 0, 0], 4, 91, [], 0)
def mi_54 : cm_MI := (yX5_at, cX5_at, 3, (some .int), 5, [2, 0, 0], 4, 91, [], 0)
def mi_55 : cm_MI := (yX5_count, cX5_count, 2, (some .int), 5, [2, 0], 4, 91, [], 0)
def mi_56 : cm_MI := (yX5_blame, cX5_blame, 7, (some .int), 5, [2, 0], 4, 91, [], 0)
def mi_57 : cm_MI := (yX5_speedFor, cX5_speedFor, 3, (some .int), 5, [2, 0], 4, 91, [], 0)
def mi_58 : cm_MI := (yX5_seenIf, cX5_seenIf, 3, (some .int), 5, [2, 0, 0], 4, 91, [], 0)
def mi_59 : cm_MI := (yX5_addAsChange, cX5_addAsChange, 4, (some .int), 5, [2, 0, 0, 0], 4, 88, [], 0)
def mi_60 : cm_MI := (yX5_firstNumberOf, cX5_firstNumberOf, 3, (some .int), 5, [2, 0], 1, 22, [], 0)
def mi_61 : cm_MI := (yX5_isWithin, cX5_isWithin, 3, (some .boolean), 5, [0, 0, 0], 0, 0, [], 1)
def mi_62 : cm_MI := (yX5_isGroup, cX5_isGroup, 1, (some .boolean), 5, [0], 1, 22, [], 1)
def mi_63 : cm_MI := (yX5_isSpeed, cX5_isSpeed, 1, (some .boolean), 5, [0], 1, 22, [], 1)
def mi_64 : cm_MI := (yL_cell, cL_cell, 2, (some .int), 7, [2, 0], 0, 0, [], 1)
def mi_65 : cm_MI := (yL_low, cL_low, 2, (some .int), 7, [0, 0], 0, 0, [], 1)
def mi_66 : cm_MI := (yL_add, cL_add, 7, (some .boolean), 7, [2, 0], 6, 133, [], 1)
def mi_67 : cm_MI := (yL_settings, cL_settings, 5, (some .boolean), 7, [2, 0], 5, 112, [], 1)
def mi_68 : cm_MI := (yL_run, cL_run, 15, (some .int), 7, [2, 2, 2, 0, 0, 0, 2, 2, 2], 0, 0, [], 1)
def mi_69 : cm_MI := (yL_lay, cL_lay, 8, none, 7, [2, 2, 2, 2, 2], 5, 113, [], 1)
def mi_70 : cm_MI := (yL_tells, cL_tells, 16, (some .boolean), 7, [2, 0], 6, 155, [], 1)
def mi_71 : cm_MI := (yL_groups, cL_groups, 12, (some .boolean), 7, [2, 2, 2, 0], 5, 113, [], 1)
def mi_72 : cm_MI := (yL_times, cL_times, 14, (some .boolean), 7, [2, 2, 2, 2, 0], 5, 113, [], 1)
def mi_73 : cm_MI := (yL_others, cL_others, 19, (some .boolean), 7, [2, 2, 2, 2, 2, 0], 5, 117, [], 1)
def mi_74 : cm_MI := (yL_law, cL_law, 14, (some .boolean), 7, [2], 7, 190, [], 1)
def cm_P : List cm_Q := [(mi_0, ins_0), (mi_1, ins_1), (mi_2, ins_2), (mi_3, ins_3), (mi_4, ins_4), (mi_5, ins_5), (mi_6, ins_6), (mi_7, ins_7), (mi_8, ins_8), (mi_9, ins_9), (mi_10, ins_10), (mi_11, ins_11), (mi_12, ins_12), (mi_13, ins_13), (mi_14, ins_14), (mi_15, ins_15), (mi_16, ins_16), (mi_17, ins_17), (mi_18, ins_18), (mi_19, ins_19), (mi_20, ins_20), (mi_21, ins_21), (mi_22, ins_22), (mi_23, ins_23), (mi_24, ins_24), (mi_25, ins_25), (mi_26, ins_26), (mi_27, ins_27), (mi_28, ins_28), (mi_29, ins_29), (mi_30, ins_30), (mi_31, ins_31), (mi_32, ins_32), (mi_33, ins_33), (mi_34, ins_34), (mi_35, ins_35), (mi_36, ins_36), (mi_37, ins_37), (mi_38, ins_38), (mi_39, ins_39), (mi_40, ins_40), (mi_41, ins_41), (mi_42, ins_42), (mi_43, ins_43), (mi_44, ins_44), (mi_45, ins_45), (mi_46, ins_46), (mi_47, ins_47), (mi_48, ins_48), (mi_49, ins_49), (mi_50, ins_50), (mi_51, ins_51), (mi_52, ins_52), (mi_53, ins_53), (mi_54, ins_54), (mi_55, ins_55), (mi_56, ins_56), (mi_57, ins_57), (mi_58, ins_58), (mi_59, ins_59), (mi_60, ins_60), (mi_61, ins_61), (mi_62, ins_62), (mi_63, ins_63), (mi_64, ins_64), (mi_65, ins_65), (mi_66, ins_66), (mi_67, ins_67), (mi_68, ins_68), (mi_69, ins_69), (mi_70, ins_70), (mi_71, ins_71), (mi_72, ins_72), (mi_73, ins_73), (mi_74, ins_74)]
def cm_call : List ((Nat × Nat) × (Nat × Nat)) := [((0, 3), (0, 1000)), ((0, 11), (0, 26)), ((0, 37), (0, 2)), ((0, 40), (0, 3)), ((0, 43), (0, 6)), ((0, 53), (0, 31)), ((0, 63), (0, 5)), ((0, 70), (0, 4)), ((0, 74), (0, 9)), ((0, 78), (0, 7)), ((0, 81), (0, 8)), ((0, 84), (0, 11)), ((0, 87), (0, 14)), ((0, 94), (0, 18)), ((0, 97), (0, 1001)), ((0, 102), (0, 20)), ((0, 105), (0, 19)), ((0, 108), (0, 21)), ((1, 3), (0, 1000)), ((1, 30), (0, 1002)), ((1, 40), (0, 28)), ((1, 44), (0, 29)), ((1, 48), (0, 34)), ((1, 52), (0, 32)), ((1, 55), (0, 35)), ((2, 3), (0, 1000)), ((2, 17), (0, 26)), ((2, 25), (0, 27)), ((3, 3), (0, 1000)), ((4, 3), (0, 1000)), ((4, 21), (0, 26)), ((5, 1), (0, 1000)), ((5, 9), (1, 0)), ((5, 29), (1, 43)), ((5, 36), (0, 41)), ((5, 43), (0, 44)), ((5, 55), (0, 61)), ((5, 59), (0, 42)), ((5, 68), (0, 62)), ((5, 72), (0, 59)), ((5, 76), (0, 30)), ((5, 79), (0, 63)), ((5, 85), (0, 1)), ((5, 88), (0, 10)), ((5, 92), (0, 32)), ((5, 96), (0, 33)), ((5, 133), (0, 31)), ((5, 142), (0, 37)), ((5, 145), (0, 21)), ((5, 148), (0, 19)), ((5, 151), (0, 18)), ((5, 154), (0, 60)), ((5, 157), (0, 15)), ((5, 160), (0, 16)), ((5, 163), (0, 17)), ((5, 166), (0, 12)), ((5, 169), (0, 13)), ((5, 172), (0, 38)), ((5, 178), (0, 23)), ((5, 181), (0, 39)), ((5, 184), (0, 24)), ((5, 190), (0, 27)), ((5, 193), (0, 22)), ((5, 196), (0, 40)), ((5, 199), (0, 25)), ((5, 224), (0, 29)), ((5, 104), (0, 36)), ((7, 10), (0, 55)), ((7, 16), (0, 65)), ((7, 22), (0, 47)), ((7, 25), (0, 48)), ((7, 28), (0, 52)), ((7, 31), (0, 49)), ((7, 34), (0, 46)), ((7, 37), (0, 69)), ((7, 41), (0, 68)), ((7, 45), (0, 71)), ((7, 49), (0, 72)), ((7, 53), (0, 73)), ((7, 57), (0, 53)), ((7, 60), (0, 54)), ((7, 63), (0, 56)), ((7, 66), (0, 57)), ((7, 69), (0, 58)), ((7, 72), (0, 45)), ((7, 73), (0, 64)), ((7, 77), (0, 70)), ((7, 81), (0, 67)), ((7, 84), (0, 66)), ((7, 87), (0, 51)), ((7, 90), (0, 50))]
def cm_fld : List ((Nat × Nat) × (Nat × Nat)) := [((1, 9), (1, 0)), ((5, 63), (1, 0)), ((0, 60), (1, 0)), ((1, 15), (1, 1)), ((5, 124), (1, 1)), ((0, 111), (1, 1)), ((1, 18), (1, 2)), ((5, 127), (1, 2)), ((0, 91), (1, 2)), ((1, 21), (1, 3)), ((5, 111), (1, 3)), ((1, 24), (1, 4)), ((0, 67), (1, 4)), ((5, 82), (1, 4)), ((1, 36), (1, 5)), ((0, 50), (1, 5)), ((5, 100), (1, 5)), ((0, 12), (0, 0)), ((5, 16), (0, 0)), ((0, 18), (0, 1)), ((5, 130), (0, 1)), ((0, 22), (0, 2)), ((5, 139), (0, 2)), ((0, 25), (0, 3)), ((5, 136), (0, 3)), ((0, 46), (0, 4)), ((5, 175), (0, 4)), ((0, 28), (0, 5)), ((0, 31), (0, 6)), ((0, 34), (0, 7)), ((0, 57), (0, 8)), ((3, 9), (3, 0)), ((5, 121), (3, 1)), ((2, 11), (2, 0)), ((2, 22), (2, 1)), ((5, 187), (2, 1)), ((2, 18), (2, 2)), ((4, 11), (4, 0)), ((4, 17), (4, 1)), ((5, 10), (5, 0)), ((5, 20), (5, 1)), ((5, 21), (5, 2)), ((5, 24), (5, 3)), ((5, 30), (5, 4)), ((5, 37), (5, 5)), ((5, 44), (5, 6))]
def cm_sta : List ((Nat × Nat) × (Nat × Int)) := [((1, 27), (1, (-3))), ((5, 48), (0, (-4))), ((5, 52), (0, (-5)))]
def cm_icn : List ((Nat × Nat) × Int) := [((7, 7), 32452867), ((7, 8), 15485863), ((7, 9), 2147483647)]
def cm_cls : List ((Nat × Nat) × Nat) := [((7, 11), 5), ((5, 7), 0), ((0, 9), 1), ((5, 27), 3), ((5, 34), 2), ((2, 9), 1), ((5, 41), 4), ((4, 9), 1)]
def cm_lng : List ((Nat × Nat) × Int) := []
def cm_ft : List (List Nat) := [[2, 2, 2, 2, 0, 2, 2, 2, 0], [2, 2, 2, 2, 2, 0], [2, 0, 0], [2, 0, 0], [2, 2], [2, 2, 2, 2, 2, 2, 2]]
def cm_ty : List (Nat → FieldType) := [tyX0, tyX1, tyX2, tyX3, tyX4, tyX5]
/-! ===== THE SMALL MACHINE: whole numbers for ints and longs, references by the order in which they were made ===== -/
/-- a value: kind (0 int, 1 long, 2 reference), number (-1: null; -2: the script; -3, -4, -5: static tables) -/
abbrev cm_V : Type := Nat × Int
/-- shapes of the cells ((0, class), (1, n) int[n], (2, n) char[n], (3, n) boolean[n], (4, n) references), and what reference cells hold -/
abbrev cm_G : Type := List (Nat × Nat) × (Int → Int → Int)
abbrev cm_M : Type := Int → Int → Int
abbrev cm_R : Type := Option cm_V × cm_G × cm_M
abbrev cm_K : Type := Nat → Nat → List (Option cm_V) → List cm_V → cm_G → cm_M → Option cm_R
def cm_as {α : Type} : List ((Nat × Nat) × α) → Nat → Nat → Option α
  | [], _, _ => none
  | e :: l, a, b => if e.1.1 = a ∧ e.1.2 = b then some e.2 else cm_as l a b
def cm_at : List (Nat × Instr × Nat) → Nat → Option (Instr × Nat)
  | [], _ => none
  | e :: l, pc => if e.1 = pc then some e.2 else cm_at l pc
def cm_up (f : Int → Int → Int) (k j v : Int) : Int → Int → Int := fun a b => if a = k ∧ b = j then v else f a b
def cm_row (f : Int → Int → Int) (k v : Int) : Int → Int → Int := fun a b => if a = k then v else f a b
def cm_cpy (f : Int → Int → Int) (k1 sp k2 dp n : Int) : Int → Int → Int := fun a b => if a = k2 ∧ dp ≤ b ∧ b < dp + n then f k1 (sp + (b - dp)) else f a b
abbrev cm_in (x : Int) : Prop := -2147483648 ≤ x ∧ x < 2147483648
def cm_cat (v : cm_V) : Nat := if v.1 = 1 then 2 else 1
def cm_sum (st : List cm_V) : Nat := (st.map cm_cat).sum
def cm_sh (G : cm_G) (k : Int) : Option (Nat × Nat) := if k < 0 then none else G.1[k.toNat]?
def cm_al (t : Nat) (G : cm_G) (M : cm_M) (k : Int) : Int :=
  if k = -2 ∧ t = 1 then M (-2) (-1) else if (k = -3 ∨ k = -4 ∨ k = -5) ∧ t = 1 then 3 else match cm_sh G k with
    | some (t', n) => if t' = t then (n : Int) else 0
    | none => 0
def cm_cmp (c : Jvm.ClassFile.Cond) (a b : Int) : Bool := match c with
  | .eq => decide (a = b)
  | .ne => !decide (a = b)
  | .lt => decide (a < b)
  | .ge => !decide (a < b)
  | .gt => decide (b < a)
  | .le => !decide (b < a)
def cm_tab (d lo hi : Int) (offs : Array Int) (x : Int) : Int := if x < lo ∨ hi < x then d else offs.toList.getD (x - lo).toNat d
def cm_lk (d : Int) (ps : List (Int × Int)) (x : Int) : Int := Op.lookupswitch.offset ps d x
def cm_land (a b : Int) : Int := (Int64.ofInt a &&& Int64.ofInt b).toInt
def cm_lor (a b : Int) : Int := (Int64.ofInt a ||| Int64.ofInt b).toInt
def cm_lushr (a b : Int) : Int := ((Int64.ofInt a).toUInt64 >>> ((Int32.ofInt b).toInt64.toUInt64 &&& Int64.toUInt64 63)).toInt64.toInt
def cm_lshl (a b : Int) : Int := (Int64.ofInt a <<< ((Int32.ofInt b).toInt64 &&& 63)).toInt
def cm_l2i (a : Int) : Int := (Int64.ofInt a).toInt32.toInt
def cm_i2l (a : Int) : Int := (Int32.ofInt a).toInt64.toInt
def cm_iand (a b : Int) : Int := (Int32.ofInt a &&& Int32.ofInt b).toInt
def cm_ishr (a b : Int) : Int := (Int32.ofInt a >>> (Int32.ofInt b &&& 31)).toInt
def cm_lcmp (a b : Int) : Int := (lg_cmp (Int64.ofInt a) (Int64.ofInt b)).toInt
def cm_ent (L : Nat) (as : List cm_V) : List (Option cm_V) := (as.flatMap (fun v => if v.1 = 1 then [some v, none] else [some v])) ++ List.replicate (L - cm_sum as) none
def cm_tg (q : cm_MI) : List Nat := q.2.2.2.2.2.1
def cm_lg (q : cm_MI) : List Nat := q.2.2.2.2.2.2.2.2.1
def cm_kd (q : cm_MI) : Nat := q.2.2.2.2.2.2.2.2.2
def cm_ci (q : cm_MI) : Nat := q.2.2.2.2.1
def cm_rt (q : cm_MI) : Option FieldType := q.2.2.2.1
def cm_ml (q : cm_MI) : Nat := q.2.2.1
def cm_dp (q : cm_MI) : Nat := q.2.2.2.2.2.2.1
def cm_lc (q : cm_MI) : Nat := q.2.2.2.2.2.2.2.1
/-- is the place before i a long's? -/
def cm_pl (q : cm_MI) (i : Nat) : Bool := decide (i ≠ 0 ∧ (i - 1) ∈ cm_lg q)
def cm_fin (ci k : Nat) : Bool := match vwCl[ci]? with
  | some r => (r.2.1 k).2.2.2
  | none => false
def cm_fk (ci k : Nat) : Option Nat := match cm_ft[ci]? with
  | some r => r[k]?
  | none => none
def cm_ld (t : Nat) (i : Nat) (r : cm_K) (μ pc w : Nat) (ls : List (Option cm_V)) (st : List cm_V) (G : cm_G) (M : cm_M) : Option cm_R := match ls[i]? with
  | some (some v) => if v.1 = t then r μ (pc + w) ls (v :: st) G M else none
  | _ => none
def cm_st (t : Nat) (i : Nat) (r : cm_K) (μ : Nat) (q : cm_MI) (pc w : Nat) (ls : List (Option cm_V)) (st : List cm_V) (G : cm_G) (M : cm_M) : Option cm_R := match st with
  | v :: st => if v.1 = t ∧ i < ls.length ∧ cm_pl q i = false ∧ i ∉ cm_lg q ∧ (t = 2 → v.2 ≠ -1) then r μ (pc + w) (ls.set i (some v)) st G M else none
  | _ => none
def cm_lst (i : Nat) (r : cm_K) (μ : Nat) (q : cm_MI) (pc w : Nat) (ls : List (Option cm_V)) (st : List cm_V) (G : cm_G) (M : cm_M) : Option cm_R := match st with
  | (1, v) :: st => if i + 1 < ls.length ∧ cm_pl q i = false ∧ i ∈ cm_lg q ∧ (i + 1) ∉ cm_lg q then r μ (pc + w) ((ls.set i (some (1, v))).set (i + 1) none) st G M else none
  | _ => none
def cm_go (r : cm_K) (μ pc : Nat) (off : Int) (ls : List (Option cm_V)) (st : List cm_V) (G : cm_G) (M : cm_M) : Option cm_R :=
  if 0 ≤ (pc : Int) + off then r μ ((pc : Int) + off).toNat ls st G M else none
/-- a call: the callee from its start, then what goes on with its answer -/
def cm_cl (r : cm_K) (n : Nat) (q' : cm_MI) (st : List cm_V) (G : cm_G) (M : cm_M) (k : Option cm_V → List cm_V → cm_G → cm_M → Option cm_R) : Option cm_R :=
  let as := (st.take (cm_tg q').length).reverse
  let rest := st.drop (cm_tg q').length
  if as.map (fun v => v.1) = cm_tg q' ∧ cm_sum rest ≤ 8 ∧ cm_sum as ≤ cm_ml q' then
    match r n 0 (cm_ent (cm_ml q') as) [] G M with
    | some (v, G', M') => k v rest G' M'
    | none => none
  else none
/-- what an object's method is called on -/
def cm_rc (G : cm_G) (q' : cm_MI) (st : List cm_V) : Prop := ∃ k, st[(cm_tg q').length - 1]? = some (2, k) ∧ cm_sh G k = some (0, cm_ci q')
def cm_rcb (G : cm_G) (q' : cm_MI) (st : List cm_V) : Bool := match st[(cm_tg q').length - 1]? with
  | some (2, k) => decide (cm_sh G k = some (0, cm_ci q'))
  | _ => false
def cm_ari (r : cm_K) (f : Int → Int → Int) (μ pc : Nat) (ls : List (Option cm_V)) (st : List cm_V) (G : cm_G) (M : cm_M) : Option cm_R := match st with
  | (0, b) :: (0, a) :: st => r μ (pc + 1) ls ((0, f a b) :: st) G M
  | _ => none
def cm_arl (r : cm_K) (f : Int → Int → Int) (μ pc : Nat) (ls : List (Option cm_V)) (st : List cm_V) (G : cm_G) (M : cm_M) : Option cm_R := match st with
  | (1, b) :: (1, a) :: st => r μ (pc + 1) ls ((1, f a b) :: st) G M
  | _ => none
def cm_shl (r : cm_K) (f : Int → Int → Int) (μ pc : Nat) (ls : List (Option cm_V)) (st : List cm_V) (G : cm_G) (M : cm_M) : Option cm_R := match st with
  | (0, b) :: (1, a) :: st => r μ (pc + 1) ls ((1, f a b) :: st) G M
  | _ => none
def cm_div (r : cm_K) (f : Int → Int → Int) (μ pc : Nat) (ls : List (Option cm_V)) (st : List cm_V) (G : cm_G) (M : cm_M) : Option cm_R := match st with
  | (0, b) :: (0, a) :: st => if cm_in a ∧ cm_in b ∧ 0 < b then r μ (pc + 1) ls ((0, f a b) :: st) G M else none
  | _ => none
def cm_icmp (r : cm_K) (c : Jvm.ClassFile.Cond) (off : Int) (μ pc : Nat) (ls : List (Option cm_V)) (st : List cm_V) (G : cm_G) (M : cm_M) : Option cm_R := match st with
  | (0, b) :: (0, a) :: st => if cm_in a ∧ cm_in b ∧ 0 ≤ (pc : Int) + off then (if cm_cmp c a b = true then r μ ((pc : Int) + off).toNat ls st G M else r μ (pc + 3) ls st G M) else none
  | _ => none
def cm_if (r : cm_K) (c : Jvm.ClassFile.Cond) (off : Int) (μ pc : Nat) (ls : List (Option cm_V)) (st : List cm_V) (G : cm_G) (M : cm_M) : Option cm_R := match st with
  | (0, a) :: st => if cm_in a ∧ 0 ≤ (pc : Int) + off then (if cm_cmp c a 0 = true then r μ ((pc : Int) + off).toNat ls st G M else r μ (pc + 3) ls st G M) else none
  | _ => none
def cm_get (r : cm_K) (q : cm_MI) (ix μ pc : Nat) (ls : List (Option cm_V)) (st : List cm_V) (G : cm_G) (M : cm_M) : Option cm_R := match st, cm_as cm_fld (cm_ci q) ix with
  | (2, k) :: st, some (ci, j) => if cm_sh G k = some (0, ci) then (match cm_fk ci j with
    | some 0 => r μ (pc + 3) ls ((0, M k j) :: st) G M
    | some 2 => r μ (pc + 3) ls ((2, G.2 k j) :: st) G M
    | _ => none) else none
  | _, _ => none
def cm_put (r : cm_K) (q : cm_MI) (ix μ pc : Nat) (ls : List (Option cm_V)) (st : List cm_V) (G : cm_G) (M : cm_M) : Option cm_R := match st, cm_as cm_fld (cm_ci q) ix with
  | (t, v) :: (2, k) :: st, some (ci, j) => if cm_sh G k = some (0, ci) ∧ cm_fk ci j = some t ∧ (cm_fin ci j = true → cm_kd q = 2 ∧ cm_ci q = ci) then
      (if t = 0 then r μ (pc + 3) ls st G (cm_up M k j v) else if t = 2 ∧ 0 ≤ v then r μ (pc + 3) ls st (G.1, cm_up G.2 k j v) M else none) else none
  | _, _ => none
def cm_ald (r : cm_K) (t : Nat) (μ pc : Nat) (ls : List (Option cm_V)) (st : List cm_V) (G : cm_G) (M : cm_M) : Option cm_R := match st with
  | (0, i) :: (2, k) :: st => if 0 ≤ i ∧ i < cm_al t G M k then r μ (pc + 1) ls ((0, M k i) :: st) G M else none
  | _ => none
def cm_ast (r : cm_K) (t : Nat) (ok : Int → Bool) (μ pc : Nat) (ls : List (Option cm_V)) (st : List cm_V) (G : cm_G) (M : cm_M) : Option cm_R := match st with
  | (0, v) :: (0, i) :: (2, k) :: st => if 0 ≤ k ∧ 0 ≤ i ∧ i < cm_al t G M k ∧ ok v = true then r μ (pc + 1) ls st G (cm_up M k i v) else none
  | _ => none
def cm_ty1 : ArrayType → Option Nat
  | .int => some 1
  | .char => some 2
  | .boolean => some 3
  | _ => none
def cm_do (r : cm_K) (μ : Nat) (q : cm_MI) (i : Instr × Nat) (pc : Nat) (ls : List (Option cm_V)) (st : List cm_V) (G : cm_G) (M : cm_M) : Option cm_R := match i with
  | (.iconst n, 1) => r μ (pc + 1) ls ((0, n) :: st) G M
  | (.bipush n, 2) => if -128 ≤ n ∧ n ≤ 127 then r μ (pc + 2) ls ((0, n) :: st) G M else none
  | (.sipush n, 3) => if -32768 ≤ n ∧ n ≤ 32767 then r μ (pc + 3) ls ((0, n) :: st) G M else none
  | (.lconst n, 1) => r μ (pc + 1) ls ((1, (n : Nat)) :: st) G M
  | (.ldc2_w ix, 3) => match cm_as cm_lng (cm_ci q) ix with
    | some v => r μ (pc + 3) ls ((1, v) :: st) G M
    | none => none
  | (.ldc ix, 2) => match cm_as cm_icn (cm_ci q) ix with
    | some v => r μ (pc + 2) ls ((0, v) :: st) G M
    | none => none
  | (.iload_n k, 1) => cm_ld 0 k r μ pc 1 ls st G M
  | (.iload k, 2) => cm_ld 0 k r μ pc 2 ls st G M
  | (.lload_n k, 1) => cm_ld 1 k r μ pc 1 ls st G M
  | (.lload k, 2) => cm_ld 1 k r μ pc 2 ls st G M
  | (.aload_n k, 1) => cm_ld 2 k r μ pc 1 ls st G M
  | (.aload k, 2) => cm_ld 2 k r μ pc 2 ls st G M
  | (.istore_n k, 1) => cm_st 0 k r μ q pc 1 ls st G M
  | (.istore k, 2) => cm_st 0 k r μ q pc 2 ls st G M
  | (.astore_n k, 1) => cm_st 2 k r μ q pc 1 ls st G M
  | (.astore k, 2) => cm_st 2 k r μ q pc 2 ls st G M
  | (.lstore k, 2) => cm_lst k r μ q pc 2 ls st G M
  | (.iinc k n, 3) => match ls[k]? with
    | some (some (0, x)) => if cm_pl q k = false ∧ k ∉ cm_lg q then r μ (pc + 3) (ls.set k (some (0, x + n))) st G M else none
    | _ => none
  | (.iadd, 1) => cm_ari r (fun a b => a + b) μ pc ls st G M
  | (.isub, 1) => cm_ari r (fun a b => a - b) μ pc ls st G M
  | (.imul, 1) => cm_ari r (fun a b => a * b) μ pc ls st G M
  | (.iand, 1) => cm_ari r cm_iand μ pc ls st G M
  | (.ishr, 1) => cm_ari r cm_ishr μ pc ls st G M
  | (.idiv, 1) => cm_div r (fun a b => a.tdiv b) μ pc ls st G M
  | (.irem, 1) => cm_div r (fun a b => a.tmod b) μ pc ls st G M
  | (.land, 1) => cm_arl r cm_land μ pc ls st G M
  | (.lor, 1) => cm_arl r cm_lor μ pc ls st G M
  | (.lushr, 1) => cm_shl r cm_lushr μ pc ls st G M
  | (.lshl, 1) => cm_shl r cm_lshl μ pc ls st G M
  | (.l2i, 1) => match st with
    | (1, a) :: st => r μ (pc + 1) ls ((0, cm_l2i a) :: st) G M
    | _ => none
  | (.i2l, 1) => match st with
    | (0, a) :: st => r μ (pc + 1) ls ((1, cm_i2l a) :: st) G M
    | _ => none
  | (.i2c, 1) => match st with
    | (0, a) :: st => if 0 ≤ a ∧ a < 65536 then r μ (pc + 1) ls ((0, a) :: st) G M else none
    | _ => none
  | (.lcmp, 1) => match st with
    | (1, b) :: (1, a) :: st => r μ (pc + 1) ls ((0, cm_lcmp a b) :: st) G M
    | _ => none
  | (.dup, 1) => match st with
    | v :: st => if v.1 ≠ 1 then r μ (pc + 1) ls (v :: v :: st) G M else none
    | _ => none
  | (.dup2, 1) => match st with
    | v :: w :: st => if v.1 ≠ 1 ∧ w.1 ≠ 1 then r μ (pc + 1) ls (v :: w :: v :: w :: st) G M else none
    | _ => none
  | (.pop, 1) => match st with
    | v :: st => if v.1 ≠ 1 then r μ (pc + 1) ls st G M else none
    | _ => none
  | (.goto off, 3) => cm_go r μ pc off ls st G M
  | (.if_icmp c off, 3) => cm_icmp r c off μ pc ls st G M
  | (.ifCond c off, 3) => cm_if r c off μ pc ls st G M
  | (.tableswitch d lo hi offs, _) => match st with
    | (0, x) :: st => if cm_in x ∧ (x < lo ∨ hi < x ∨ (x - lo).toNat < offs.size) then cm_go r μ pc (cm_tab d lo hi offs x) ls st G M else none
    | _ => none
  | (.lookupswitch d ps, _) => match st with
    | (0, x) :: st => if cm_in x ∧ (ps.toList.zip (ps.toList.drop 1)).all (fun (a, next) => a.1 < next.1) = true then cm_go r μ pc (cm_lk d ps.toList x) ls st G M else none
    | _ => none
  | (.getfield ix, 3) => cm_get r q ix μ pc ls st G M
  | (.putfield ix, 3) => cm_put r q ix μ pc ls st G M
  | (.getstatic ix, 3) => match cm_as cm_sta (cm_ci q) ix with
    | some (_, k) => r μ (pc + 3) ls ((2, k) :: st) G M
    | none => none
  | (.iaload, 1) => cm_ald r 1 μ pc ls st G M
  | (.caload, 1) => cm_ald r 2 μ pc ls st G M
  | (.baload, 1) => cm_ald r 3 μ pc ls st G M
  | (.iastore, 1) => cm_ast r 1 (fun _ => true) μ pc ls st G M
  | (.castore, 1) => cm_ast r 2 (fun v => decide (0 ≤ v ∧ v < 65536)) μ pc ls st G M
  | (.bastore, 1) => cm_ast r 3 (fun v => decide (v = 0 ∨ v = 1)) μ pc ls st G M
  | (.aaload, 1) => match st with
    | (0, i) :: (2, k) :: st => if 0 ≤ k ∧ 0 ≤ i ∧ i < cm_al 4 G M k then r μ (pc + 1) ls ((2, G.2 k i) :: st) G M else none
    | _ => none
  | (.aastore, 1) => match st with
    | (2, v) :: (0, i) :: (2, k) :: st => if 0 ≤ k ∧ 0 ≤ i ∧ i < cm_al 4 G M k ∧ cm_sh G v = some (0, 1) then r μ (pc + 1) ls st (G.1, cm_up G.2 k i v) M else none
    | _ => none
  | (.arraylength, 1) => match st with
    | (2, k) :: st => if k = -2 then r μ (pc + 1) ls ((0, M (-2) (-1)) :: st) G M else none
    | _ => none
  | (.newarray t, 2) => match st, cm_ty1 t with
    | (0, n) :: st, some u => if 0 ≤ n ∧ n ≤ 1000 then r μ (pc + 2) ls ((2, (G.1.length : Int)) :: st) (G.1 ++ [(u, n.toNat)], G.2) (cm_row M (G.1.length : Int) 0) else none
    | _, _ => none
  | (.anewarray ix, 3) => match st, cm_as cm_cls (cm_ci q) ix with
    | (0, n) :: st, some 1 => if 0 ≤ n ∧ n ≤ 1000 then r μ (pc + 3) ls ((2, (G.1.length : Int)) :: st) (G.1 ++ [(4, n.toNat)], cm_row G.2 (G.1.length : Int) (-1)) M else none
    | _, _ => none
  | (.new ix, 3) => match cm_as cm_cls (cm_ci q) ix with
    | some ci => r μ (pc + 3) ls ((2, (G.1.length : Int)) :: st) (G.1 ++ [(0, ci)], cm_row G.2 (G.1.length : Int) (-1)) (cm_row M (G.1.length : Int) 0)
    | none => none
  | (.invokevirtual ix, 3) => match cm_as cm_call (cm_ci q) ix with
    | some (_, n) => match cm_P[n]? with
      | some q' => if cm_kd q'.1 = 0 ∧ cm_rcb G q'.1 st = true then cm_cl r n q'.1 st G M (fun v rest G' M' => r μ (pc + 3) ls (v.toList ++ rest) G' M') else none
      | none => none
    | none => none
  | (.invokespecial ix, 3) => match cm_as cm_call (cm_ci q) ix with
    | some (_, n) => if n = 1000 then (match st with
        | [(2, k)] => if 0 ≤ k then r μ (pc + 3) ls [] G M else none
        | _ => none) else (match cm_P[n]? with
      | some q' => if cm_kd q'.1 = 2 ∧ cm_rcb G q'.1 st = true then cm_cl r n q'.1 st G M (fun v rest G' M' => r μ (pc + 3) ls (v.toList ++ rest) G' M') else none
      | none => none)
    | none => none
  | (.invokestatic ix, 3) => match cm_as cm_call (cm_ci q) ix with
    | some (_, n) => if n = 1001 then (match st with
        | (0, b) :: (0, a) :: st => if cm_in a ∧ cm_in b ∧ cm_sum st ≤ 8 then r μ (pc + 3) ls ((0, if a < b then b else a) :: st) G M else none
        | _ => none) else if n = 1002 then (match st with
        | (0, n) :: (0, dp) :: (2, k2) :: (0, sp) :: (2, k1) :: st => if 0 ≤ k2 ∧ 1 ≤ n ∧ 0 ≤ dp ∧ 0 ≤ sp ∧ (0 ≤ k1 ∨ k1 = -3) ∧ dp + n ≤ cm_al 1 G M k2 ∧ sp + n ≤ cm_al 1 G M k1 ∧ cm_sum st ≤ 8 then r μ (pc + 3) ls st G (cm_cpy M k1 sp k2 dp n) else none
        | _ => none) else (match cm_P[n]? with
      | some q' => if cm_kd q'.1 = 1 then cm_cl r n q'.1 st G M (fun v rest G' M' => r μ (pc + 3) ls (v.toList ++ rest) G' M') else none
      | none => none)
    | none => none
  | (.ireturn, 1) => match st, cm_rt q with
    | [(0, v)], some .int => some (some (0, v), G, M)
    | [(0, v)], some .boolean => if v = 0 ∨ v = 1 then some (some (0, v), G, M) else none
    | _, _ => none
  | (.return_, 1) => match st, cm_rt q with
    | [], none => some (none, G, M)
    | _, _ => none
  | _ => none
def cm_step (r : cm_K) : cm_K := fun μ pc ls st G M => match cm_P[μ]? with
  | none => none
  | some q => match cm_at q.2 pc with
    | none => none
    | some i => cm_do r μ q.1 i pc ls st G M
noncomputable def cm_run (n : Nat) : cm_K := Nat.rec (motive := fun _ => cm_K) (fun _ _ _ _ _ _ => none) (fun _ r => cm_step r) n
theorem cm_run_0 : cm_run 0 = fun _ _ _ _ _ _ => none := rfl
theorem cm_run_s (n : Nat) : cm_run (n + 1) = cm_step (cm_run n) := rfl

