def tb_cn : Nat → String := fun k => match k with
  | 0 => "TiltBoards$Board"
  | 1 => "TiltBoards$History"
  | 2 => "TiltBoards$Orders"
  | 3 => "TiltBoards$Rules"
  | 4 => "TiltBoards$State"
  | 5 => "TiltBoards"
  | 6 => "TiltBoardsLaw"
  | _ => ""
def tb_F0 : Nat → String × String × String × Bool := fun k => match k with
  | 0 => ("TiltBoards$Board", "heaps", "[I", true)
  | 1 => ("TiltBoards$Board", "moving", "[Z", true)
  | 2 => ("TiltBoards$Board", "pan", "[I", true)
  | 3 => ("TiltBoards$Board", "angle", "I", false)
  | 4 => ("TiltBoards$Board", "fallen", "I", false)
  | _ => ("TiltBoards$Board", "dust", "I", false)
def tb_T0 : Nat → FieldType := fun k => match k with
  | 0 => .array .int
  | 1 => .array .boolean
  | 2 => .array .int
  | 3 => .int
  | 4 => .int
  | _ => .int
def tb_F1 : Nat → String × String × String × Bool := fun k => match k with
  | 0 => ("TiltBoards$History", "states", "[LTiltBoards$State;", true)
  | 1 => ("TiltBoards$History", "oldest", "I", false)
  | _ => ("TiltBoards$History", "held", "I", false)
def tb_T1 : Nat → FieldType := fun k => match k with
  | 0 => .array (.object "TiltBoards$State")
  | 1 => .int
  | _ => .int
def tb_F2 : Nat → String × String × String × Bool := fun k => match k with
  | 0 => ("TiltBoards$Orders", "signs", "[C", true)
  | 1 => ("TiltBoards$Orders", "length", "I", false)
  | 2 => ("TiltBoards$Orders", "at", "I", false)
  | 3 => ("TiltBoards$Orders", "faulty", "Z", false)
  | 4 => ("TiltBoards$Orders", "verb", "C", false)
  | 5 => ("TiltBoards$Orders", "board", "I", false)
  | 6 => ("TiltBoards$Orders", "cell", "I", false)
  | 7 => ("TiltBoards$Orders", "kind", "I", false)
  | _ => ("TiltBoards$Orders", "number", "I", false)
def tb_T2 : Nat → FieldType := fun k => match k with
  | 0 => .array .char
  | 1 => .int
  | 2 => .int
  | 3 => .boolean
  | 4 => .char
  | 5 => .int
  | 6 => .int
  | 7 => .int
  | _ => .int
def tb_F3 : Nat → String × String × String × Bool := fun k => match k with
  | 0 => ("TiltBoards$Rules", "grips", "[I", true)
  | 1 => ("TiltBoards$Rules", "settings", "[I", true)
  | _ => ("TiltBoards$Rules", "slideOrder", "[I", true)
def tb_T3 : Nat → FieldType := fun k => match k with
  | 0 => .array .int
  | 1 => .array .int
  | _ => .array .int
def tb_F4 : Nat → String × String × String × Bool := fun k => match k with
  | 0 => ("TiltBoards$State", "rules", "LTiltBoards$Rules;", true)
  | 1 => ("TiltBoards$State", "boards", "[LTiltBoards$Board;", true)
  | 2 => ("TiltBoards$State", "poured", "[I", true)
  | 3 => ("TiltBoards$State", "emptied", "I", false)
  | _ => ("TiltBoards$State", "tick", "I", false)
def tb_T4 : Nat → FieldType := fun k => match k with
  | 0 => .object "TiltBoards$Rules"
  | 1 => .array (.object "TiltBoards$Board")
  | 2 => .array .int
  | 3 => .int
  | _ => .int
def tb_F5 : Nat → String × String × String × Bool := fun k => match k with
  | 0 => ("TiltBoards", "now", "LTiltBoards$State;", true)
  | 1 => ("TiltBoards", "before", "LTiltBoards$State;", true)
  | 2 => ("TiltBoards", "snapshot", "LTiltBoards$State;", true)
  | 3 => ("TiltBoards", "hasSnapshot", "Z", false)
  | 4 => ("TiltBoards", "history", "LTiltBoards$History;", true)
  | 5 => ("TiltBoards", "trial", "LTiltBoards$Board;", true)
  | 6 => ("TiltBoards", "text", "LTiltBoards$Orders;", true)
  | 7 => ("TiltBoards", "stopOrder", "I", false)
  | _ => ("TiltBoards", "stopError", "I", false)
def tb_T5 : Nat → FieldType := fun k => match k with
  | 0 => .object "TiltBoards$State"
  | 1 => .object "TiltBoards$State"
  | 2 => .object "TiltBoards$State"
  | 3 => .boolean
  | 4 => .object "TiltBoards$History"
  | 5 => .object "TiltBoards$Board"
  | 6 => .object "TiltBoards$Orders"
  | 7 => .int
  | _ => .int
def tb_F : Nat → u_T := fun k => match k with
  | 0 => tb_F0
  | 1 => tb_F1
  | 2 => tb_F2
  | 3 => tb_F3
  | 4 => tb_F4
  | 5 => tb_F5
  | _ => tb_F0
def tb_T : Nat → (Nat → FieldType) := fun k => match k with
  | 0 => tb_T0
  | 1 => tb_T1
  | 2 => tb_T2
  | 3 => tb_T3
  | 4 => tb_T4
  | 5 => tb_T5
  | _ => tb_T0
def tb_nF : Nat → Nat := fun k => match k with
  | 0 => 6
  | 1 => 3
  | 2 => 9
  | 3 => 3
  | 4 => 5
  | 5 => 9
  | _ => 0
def tb_nM : Nat := 81
def tb_ow : Nat → Nat := fun k => match k with
  | 0 => 0
  | 1 => 0
  | 2 => 0
  | 3 => 0
  | 4 => 0
  | 5 => 0
  | 6 => 0
  | 7 => 0
  | 8 => 0
  | 9 => 0
  | 10 => 0
  | 11 => 0
  | 12 => 0
  | 13 => 0
  | 14 => 0
  | 15 => 0
  | 16 => 1
  | 17 => 1
  | 18 => 1
  | 19 => 2
  | 20 => 3
  | 21 => 3
  | 22 => 3
  | 23 => 3
  | 24 => 3
  | 25 => 3
  | 26 => 4
  | 27 => 4
  | 28 => 4
  | 29 => 4
  | 30 => 4
  | 31 => 4
  | 32 => 4
  | 33 => 4
  | 34 => 4
  | 35 => 4
  | 36 => 4
  | 37 => 4
  | 38 => 4
  | 39 => 4
  | 40 => 4
  | 41 => 4
  | 42 => 4
  | 43 => 5
  | 44 => 5
  | 45 => 5
  | 46 => 5
  | 47 => 5
  | 48 => 5
  | 49 => 5
  | 50 => 5
  | 51 => 5
  | 52 => 5
  | 53 => 5
  | 54 => 5
  | 55 => 5
  | 56 => 5
  | 57 => 5
  | 58 => 5
  | 59 => 5
  | 60 => 5
  | 61 => 5
  | 62 => 5
  | 63 => 5
  | 64 => 5
  | 65 => 5
  | 66 => 5
  | 67 => 5
  | 68 => 5
  | 69 => 5
  | 70 => 5
  | 71 => 5
  | 72 => 6
  | 73 => 6
  | 74 => 6
  | 75 => 6
  | 76 => 6
  | 77 => 6
  | 78 => 6
  | 79 => 6
  | 80 => 6
  | _ => 6
def tb_nm : Nat → String × String := fun k => match k with
  | 0 => ("<init>", "()V")
  | 1 => ("copyFrom", "(LTiltBoards$Board;)V")
  | 2 => ("grainsOn", "(I)I")
  | 3 => ("roomBelow", "(I)I")
  | 4 => ("angleNeeded", "(IILTiltBoards$Rules;)I")
  | 5 => ("whyNoSlide", "(IILTiltBoards$Rules;)I")
  | 6 => ("isAtRest", "(LTiltBoards$Rules;)Z")
  | 7 => ("leastAngleOfSlide", "(LTiltBoards$Rules;)I")
  | 8 => ("slideOnce", "(LTiltBoards$Rules;)Z")
  | 9 => ("slideHeap", "(IILTiltBoards$Rules;)V")
  | 10 => ("stopMoving", "(I)V")
  | 11 => ("moveAllHeaps", "()V")
  | 12 => ("grainsOnCells", "()I")
  | 13 => ("grainsInPan", "()I")
  | 14 => ("heapsLying", "()I")
  | 15 => ("heapsMoving", "()I")
  | 16 => ("<init>", "()V")
  | 17 => ("record", "(LTiltBoards$State;)V")
  | 18 => ("takeLatest", "(LTiltBoards$State;)V")
  | 19 => ("<init>", "()V")
  | 20 => ("<init>", "()V")
  | 21 => ("copyFrom", "(LTiltBoards$Rules;)V")
  | 22 => ("changeGripOf", "(II)V")
  | 23 => ("sortKinds", "()V")
  | 24 => ("angleAtRest", "(II)I")
  | 25 => ("dustOf", "(I)I")
  | 26 => ("<init>", "()V")
  | 27 => ("copyFrom", "(LTiltBoards$State;)V")
  | 28 => ("tiltBoard", "(II)I")
  | 29 => ("pourGrains", "(IIII)I")
  | 30 => ("joltBoard", "(I)I")
  | 31 => ("emptyPanOf", "(I)I")
  | 32 => ("changeGrip", "(II)I")
  | 33 => ("changeSetting", "(II)I")
  | 34 => ("passTicks", "(I)I")
  | 35 => ("onCellsOfKind", "(I)I")
  | 36 => ("inPansOfKind", "(I)I")
  | 37 => ("onAllCells", "()I")
  | 38 => ("inAllPans", "()I")
  | 39 => ("fallenOfAll", "()I")
  | 40 => ("dustOfAll", "()I")
  | 41 => ("pouredOfAll", "()I")
  | 42 => ("boardsAtRest", "()I")
  | 43 => ("<init>", "()V")
  | 44 => ("tilt", "(II)I")
  | 45 => ("pour", "(IIII)I")
  | 46 => ("jolt", "(I)I")
  | 47 => ("emptyPan", "(I)I")
  | 48 => ("setGrip", "(II)I")
  | 49 => ("set", "(II)I")
  | 50 => ("pass", "(I)I")
  | 51 => ("undo", "()I")
  | 52 => ("restore", "()I")
  | 53 => ("grains", "(III)I")
  | 54 => ("board", "(II)I")
  | 55 => ("pan", "(II)I")
  | 56 => ("kind", "(II)I")
  | 57 => ("needs", "(III)I")
  | 58 => ("reason", "(III)I")
  | 59 => ("leastAngle", "(I)I")
  | 60 => ("restsIn", "(I)I")
  | 61 => ("ifTilted", "(III)I")
  | 62 => ("clearingAngle", "(I)I")
  | 63 => ("weighs", "(IIZ)I")
  | 64 => ("count", "(I)I")
  | 65 => ("recorded", "(I)I")
  | 66 => ("tryAngle", "(II)I")
  | 67 => ("isWithin", "(III)Z")
  | 68 => ("isBoard", "(I)Z")
  | 69 => ("isKind", "(I)Z")
  | 70 => ("isPlace", "(III)Z")
  | 71 => ("indexOf", "(II)I")
  | 72 => ("cell", "([II)I")
  | 73 => ("low", "(II)I")
  | 74 => ("act", "(LTiltBoards;III)I")
  | 75 => ("onCell", "(LTiltBoards;II)I")
  | 76 => ("isHeap", "(LTiltBoards;III)Z")
  | 77 => ("isBoard", "(LTiltBoards;I)Z")
  | 78 => ("holds", "(LTiltBoards;)Z")
  | 79 => ("tries", "(LTiltBoards;I)Z")
  | 80 => ("law", "([I)Z")
  | _ => ("", "()V")
def tb_by : Nat → ByteArray := fun k => match k with
  | 0 => prog_2_method_1_code
  | 1 => prog_2_method_2_code
  | 2 => prog_2_method_3_code
  | 3 => prog_2_method_4_code
  | 4 => prog_2_method_5_code
  | 5 => prog_2_method_6_code
  | 6 => prog_2_method_7_code
  | 7 => prog_2_method_8_code
  | 8 => prog_2_method_9_code
  | 9 => prog_2_method_10_code
  | 10 => prog_2_method_11_code
  | 11 => prog_2_method_12_code
  | 12 => prog_2_method_13_code
  | 13 => prog_2_method_14_code
  | 14 => prog_2_method_15_code
  | 15 => prog_2_method_16_code
  | 16 => prog_3_method_1_code
  | 17 => prog_3_method_2_code
  | 18 => prog_3_method_3_code
  | 19 => prog_4_method_1_code
  | 20 => prog_5_method_1_code
  | 21 => prog_5_method_2_code
  | 22 => prog_5_method_3_code
  | 23 => prog_5_method_4_code
  | 24 => prog_5_method_5_code
  | 25 => prog_5_method_6_code
  | 26 => prog_6_method_1_code
  | 27 => prog_6_method_2_code
  | 28 => prog_6_method_3_code
  | 29 => prog_6_method_4_code
  | 30 => prog_6_method_5_code
  | 31 => prog_6_method_6_code
  | 32 => prog_6_method_7_code
  | 33 => prog_6_method_8_code
  | 34 => prog_6_method_9_code
  | 35 => prog_6_method_10_code
  | 36 => prog_6_method_11_code
  | 37 => prog_6_method_12_code
  | 38 => prog_6_method_13_code
  | 39 => prog_6_method_14_code
  | 40 => prog_6_method_15_code
  | 41 => prog_6_method_16_code
  | 42 => prog_6_method_17_code
  | 43 => prog_1_method_1_code
  | 44 => prog_1_method_2_code
  | 45 => prog_1_method_3_code
  | 46 => prog_1_method_4_code
  | 47 => prog_1_method_5_code
  | 48 => prog_1_method_6_code
  | 49 => prog_1_method_7_code
  | 50 => prog_1_method_8_code
  | 51 => prog_1_method_13_code
  | 52 => prog_1_method_15_code
  | 53 => prog_1_method_16_code
  | 54 => prog_1_method_17_code
  | 55 => prog_1_method_18_code
  | 56 => prog_1_method_19_code
  | 57 => prog_1_method_20_code
  | 58 => prog_1_method_21_code
  | 59 => prog_1_method_22_code
  | 60 => prog_1_method_23_code
  | 61 => prog_1_method_24_code
  | 62 => prog_1_method_25_code
  | 63 => prog_1_method_26_code
  | 64 => prog_1_method_27_code
  | 65 => prog_1_method_28_code
  | 66 => prog_1_method_30_code
  | 67 => prog_1_method_31_code
  | 68 => prog_1_method_32_code
  | 69 => prog_1_method_33_code
  | 70 => prog_1_method_34_code
  | 71 => prog_1_method_35_code
  | 72 => method_2_code
  | 73 => method_3_code
  | 74 => method_4_code
  | 75 => method_5_code
  | 76 => method_6_code
  | 77 => method_7_code
  | 78 => method_8_code
  | 79 => method_9_code
  | 80 => code
  | _ => code
def tb_mL : Nat → Nat := fun k => match k with
  | 0 => 1
  | 1 => 3
  | 2 => 5
  | 3 => 2
  | 4 => 5
  | 5 => 4
  | 6 => 4
  | 7 => 6
  | 8 => 6
  | 9 => 9
  | 10 => 3
  | 11 => 2
  | 12 => 3
  | 13 => 3
  | 14 => 3
  | 15 => 3
  | 16 => 2
  | 17 => 2
  | 18 => 2
  | 19 => 1
  | 20 => 2
  | 21 => 2
  | 22 => 3
  | 23 => 4
  | 24 => 5
  | 25 => 3
  | 26 => 2
  | 27 => 3
  | 28 => 4
  | 29 => 6
  | 30 => 3
  | 31 => 4
  | 32 => 4
  | 33 => 4
  | 34 => 6
  | 35 => 5
  | 36 => 4
  | 37 => 3
  | 38 => 3
  | 39 => 3
  | 40 => 3
  | 41 => 3
  | 42 => 3
  | 43 => 1
  | 44 => 3
  | 45 => 5
  | 46 => 2
  | 47 => 2
  | 48 => 3
  | 49 => 3
  | 50 => 2
  | 51 => 1
  | 52 => 1
  | 53 => 4
  | 54 => 4
  | 55 => 3
  | 56 => 3
  | 57 => 5
  | 58 => 4
  | 59 => 3
  | 60 => 3
  | 61 => 5
  | 62 => 3
  | 63 => 7
  | 64 => 2
  | 65 => 2
  | 66 => 4
  | 67 => 3
  | 68 => 1
  | 69 => 1
  | 70 => 3
  | 71 => 2
  | 72 => 2
  | 73 => 2
  | 74 => 5
  | 75 => 5
  | 76 => 11
  | 77 => 12
  | 78 => 8
  | 79 => 18
  | 80 => 9
  | _ => 0
def tb_rt : Nat → Option FieldType := fun k => match k with
  | 0 => none
  | 1 => none
  | 2 => (some .int)
  | 3 => (some .int)
  | 4 => (some .int)
  | 5 => (some .int)
  | 6 => (some .boolean)
  | 7 => (some .int)
  | 8 => (some .boolean)
  | 9 => none
  | 10 => none
  | 11 => none
  | 12 => (some .int)
  | 13 => (some .int)
  | 14 => (some .int)
  | 15 => (some .int)
  | 16 => none
  | 17 => none
  | 18 => none
  | 19 => none
  | 20 => none
  | 21 => none
  | 22 => none
  | 23 => none
  | 24 => (some .int)
  | 25 => (some .int)
  | 26 => none
  | 27 => none
  | 28 => (some .int)
  | 29 => (some .int)
  | 30 => (some .int)
  | 31 => (some .int)
  | 32 => (some .int)
  | 33 => (some .int)
  | 34 => (some .int)
  | 35 => (some .int)
  | 36 => (some .int)
  | 37 => (some .int)
  | 38 => (some .int)
  | 39 => (some .int)
  | 40 => (some .int)
  | 41 => (some .int)
  | 42 => (some .int)
  | 43 => none
  | 44 => (some .int)
  | 45 => (some .int)
  | 46 => (some .int)
  | 47 => (some .int)
  | 48 => (some .int)
  | 49 => (some .int)
  | 50 => (some .int)
  | 51 => (some .int)
  | 52 => (some .int)
  | 53 => (some .int)
  | 54 => (some .int)
  | 55 => (some .int)
  | 56 => (some .int)
  | 57 => (some .int)
  | 58 => (some .int)
  | 59 => (some .int)
  | 60 => (some .int)
  | 61 => (some .int)
  | 62 => (some .int)
  | 63 => (some .int)
  | 64 => (some .int)
  | 65 => (some .int)
  | 66 => (some .int)
  | 67 => (some .boolean)
  | 68 => (some .boolean)
  | 69 => (some .boolean)
  | 70 => (some .boolean)
  | 71 => (some .int)
  | 72 => (some .int)
  | 73 => (some .int)
  | 74 => (some .int)
  | 75 => (some .int)
  | 76 => (some .boolean)
  | 77 => (some .boolean)
  | 78 => (some .boolean)
  | 79 => (some .boolean)
  | 80 => (some .boolean)
  | _ => none
def tb_na : Nat → Nat := fun k => match k with
  | 0 => 0
  | 1 => 1
  | 2 => 1
  | 3 => 1
  | 4 => 3
  | 5 => 3
  | 6 => 1
  | 7 => 1
  | 8 => 1
  | 9 => 3
  | 10 => 1
  | 11 => 0
  | 12 => 0
  | 13 => 0
  | 14 => 0
  | 15 => 0
  | 16 => 0
  | 17 => 1
  | 18 => 1
  | 19 => 0
  | 20 => 0
  | 21 => 1
  | 22 => 2
  | 23 => 0
  | 24 => 2
  | 25 => 1
  | 26 => 0
  | 27 => 1
  | 28 => 2
  | 29 => 4
  | 30 => 1
  | 31 => 1
  | 32 => 2
  | 33 => 2
  | 34 => 1
  | 35 => 1
  | 36 => 1
  | 37 => 0
  | 38 => 0
  | 39 => 0
  | 40 => 0
  | 41 => 0
  | 42 => 0
  | 43 => 0
  | 44 => 2
  | 45 => 4
  | 46 => 1
  | 47 => 1
  | 48 => 2
  | 49 => 2
  | 50 => 1
  | 51 => 0
  | 52 => 0
  | 53 => 3
  | 54 => 2
  | 55 => 2
  | 56 => 2
  | 57 => 3
  | 58 => 3
  | 59 => 1
  | 60 => 1
  | 61 => 3
  | 62 => 1
  | 63 => 3
  | 64 => 1
  | 65 => 1
  | 66 => 2
  | 67 => 3
  | 68 => 1
  | 69 => 1
  | 70 => 3
  | 71 => 2
  | 72 => 2
  | 73 => 2
  | 74 => 4
  | 75 => 3
  | 76 => 4
  | 77 => 2
  | 78 => 1
  | 79 => 2
  | 80 => 1
  | _ => 0
def tb_kd : Nat → Nat := fun k => match k with
  | 0 => 2
  | 1 => 0
  | 2 => 0
  | 3 => 0
  | 4 => 0
  | 5 => 0
  | 6 => 0
  | 7 => 0
  | 8 => 0
  | 9 => 0
  | 10 => 0
  | 11 => 0
  | 12 => 0
  | 13 => 0
  | 14 => 0
  | 15 => 0
  | 16 => 2
  | 17 => 0
  | 18 => 0
  | 19 => 2
  | 20 => 2
  | 21 => 0
  | 22 => 0
  | 23 => 0
  | 24 => 0
  | 25 => 0
  | 26 => 2
  | 27 => 0
  | 28 => 0
  | 29 => 0
  | 30 => 0
  | 31 => 0
  | 32 => 0
  | 33 => 0
  | 34 => 0
  | 35 => 0
  | 36 => 0
  | 37 => 0
  | 38 => 0
  | 39 => 0
  | 40 => 0
  | 41 => 0
  | 42 => 0
  | 43 => 2
  | 44 => 0
  | 45 => 0
  | 46 => 0
  | 47 => 0
  | 48 => 0
  | 49 => 0
  | 50 => 0
  | 51 => 0
  | 52 => 0
  | 53 => 0
  | 54 => 0
  | 55 => 0
  | 56 => 0
  | 57 => 0
  | 58 => 0
  | 59 => 0
  | 60 => 0
  | 61 => 0
  | 62 => 0
  | 63 => 0
  | 64 => 0
  | 65 => 0
  | 66 => 0
  | 67 => 1
  | 68 => 1
  | 69 => 1
  | 70 => 1
  | 71 => 1
  | 72 => 1
  | 73 => 1
  | 74 => 1
  | 75 => 1
  | 76 => 1
  | 77 => 1
  | 78 => 1
  | 79 => 1
  | 80 => 1
  | _ => 9
def tb_mc : Nat → Nat := fun k => match k with
  | 0 => 3
  | 1 => 0
  | 2 => 0
  | 3 => 0
  | 4 => 0
  | 5 => 0
  | 6 => 0
  | 7 => 0
  | 8 => 0
  | 9 => 0
  | 10 => 0
  | 11 => 0
  | 12 => 0
  | 13 => 0
  | 14 => 0
  | 15 => 0
  | 16 => 109
  | 17 => 0
  | 18 => 0
  | 19 => 1
  | 20 => 3
  | 21 => 0
  | 22 => 0
  | 23 => 0
  | 24 => 0
  | 25 => 0
  | 26 => 26
  | 27 => 0
  | 28 => 0
  | 29 => 0
  | 30 => 0
  | 31 => 0
  | 32 => 0
  | 33 => 0
  | 34 => 0
  | 35 => 0
  | 36 => 0
  | 37 => 0
  | 38 => 0
  | 39 => 0
  | 40 => 0
  | 41 => 0
  | 42 => 0
  | 43 => 197
  | 44 => 0
  | 45 => 0
  | 46 => 0
  | 47 => 0
  | 48 => 0
  | 49 => 0
  | 50 => 0
  | 51 => 0
  | 52 => 0
  | 53 => 0
  | 54 => 0
  | 55 => 0
  | 56 => 0
  | 57 => 0
  | 58 => 0
  | 59 => 0
  | 60 => 0
  | 61 => 0
  | 62 => 0
  | 63 => 0
  | 64 => 0
  | 65 => 0
  | 66 => 0
  | 67 => 0
  | 68 => 0
  | 69 => 0
  | 70 => 0
  | 71 => 0
  | 72 => 0
  | 73 => 0
  | 74 => 0
  | 75 => 0
  | 76 => 0
  | 77 => 0
  | 78 => 0
  | 79 => 0
  | 80 => 0
  | _ => 0
def tb_ms : Nat → Nat := fun k => match k with
  | 0 => 68
  | 1 => 0
  | 2 => 0
  | 3 => 0
  | 4 => 0
  | 5 => 0
  | 6 => 0
  | 7 => 0
  | 8 => 0
  | 9 => 0
  | 10 => 0
  | 11 => 0
  | 12 => 0
  | 13 => 0
  | 14 => 0
  | 15 => 0
  | 16 => 1596
  | 17 => 0
  | 18 => 0
  | 19 => 60
  | 20 => 11
  | 21 => 0
  | 22 => 0
  | 23 => 0
  | 24 => 0
  | 25 => 0
  | 26 => 393
  | 27 => 0
  | 28 => 0
  | 29 => 0
  | 30 => 0
  | 31 => 0
  | 32 => 0
  | 33 => 0
  | 34 => 0
  | 35 => 0
  | 36 => 0
  | 37 => 0
  | 38 => 0
  | 39 => 0
  | 40 => 0
  | 41 => 0
  | 42 => 0
  | 43 => 2936
  | 44 => 0
  | 45 => 0
  | 46 => 0
  | 47 => 0
  | 48 => 0
  | 49 => 0
  | 50 => 0
  | 51 => 0
  | 52 => 0
  | 53 => 0
  | 54 => 0
  | 55 => 0
  | 56 => 0
  | 57 => 0
  | 58 => 0
  | 59 => 0
  | 60 => 0
  | 61 => 0
  | 62 => 0
  | 63 => 0
  | 64 => 0
  | 65 => 0
  | 66 => 0
  | 67 => 0
  | 68 => 0
  | 69 => 0
  | 70 => 0
  | 71 => 0
  | 72 => 0
  | 73 => 0
  | 74 => 0
  | 75 => 0
  | 76 => 0
  | 77 => 0
  | 78 => 0
  | 79 => 0
  | 80 => 0
  | _ => 0
def tb_y (m : Nat) : MethodName := ⟨tb_cn (tb_ow m), (tb_nm m).1, (tb_nm m).2⟩
def tb_iC : Nat → Nat := fun k => match k with
  | 0 => 64
  | 1 => 217
  | 2 => 283
  | 3 => 294
  | 4 => 279
  | 5 => 272
  | 6 => 268
  | 7 => 482
  | 8 => 403
  | 9 => 407
  | 10 => 418
  | 11 => 353
  | 12 => 244
  | 13 => 252
  | 14 => 349
  | 15 => 438
  | 16 => 121
  | 17 => 232
  | 18 => 202
  | 19 => 143
  | 20 => 32
  | 21 => 210
  | 22 => 374
  | 23 => 41
  | 24 => 287
  | 25 => 414
  | 26 => 26
  | 27 => 206
  | 28 => 313
  | 29 => 328
  | 30 => 345
  | 31 => 361
  | 32 => 369
  | 33 => 382
  | 34 => 394
  | 35 => 461
  | 36 => 465
  | 37 => 240
  | 38 => 248
  | 39 => 399
  | 40 => 256
  | 41 => 260
  | 42 => 264
  | 43 => 18
  | 44 => 309
  | 45 => 324
  | 46 => 341
  | 47 => 357
  | 48 => 365
  | 49 => 378
  | 50 => 390
  | 51 => 198
  | 52 => 223
  | 53 => 425
  | 54 => 431
  | 55 => 474
  | 56 => 457
  | 57 => 449
  | 58 => 469
  | 59 => 478
  | 60 => 486
  | 61 => 503
  | 62 => 496
  | 63 => 507
  | 64 => 236
  | 65 => 228
  | 66 => 490
  | 67 => 319
  | 68 => 316
  | 69 => 335
  | 70 => 331
  | 71 => 275
  | 72 => 297
  | 73 => 301
  | 74 => 305
  | 75 => 445
  | 76 => 453
  | 77 => 442
  | 78 => 421
  | 79 => 499
  | _ => 0
def tb_iS : Nat → Nat := fun k => match k with
  | 0 => 63
  | 1 => 215
  | 2 => 281
  | 3 => 292
  | 4 => 277
  | 5 => 270
  | 6 => 266
  | 7 => 480
  | 8 => 401
  | 9 => 406
  | 10 => 417
  | 11 => 351
  | 12 => 242
  | 13 => 250
  | 14 => 347
  | 15 => 436
  | 16 => 120
  | 17 => 230
  | 18 => 200
  | 19 => 142
  | 20 => 31
  | 21 => 208
  | 22 => 372
  | 23 => 40
  | 24 => 285
  | 25 => 412
  | 26 => 25
  | 27 => 204
  | 28 => 311
  | 29 => 326
  | 30 => 343
  | 31 => 359
  | 32 => 367
  | 33 => 380
  | 34 => 392
  | 35 => 459
  | 36 => 463
  | 37 => 238
  | 38 => 246
  | 39 => 397
  | 40 => 254
  | 41 => 258
  | 42 => 262
  | 43 => 17
  | 44 => 307
  | 45 => 322
  | 46 => 339
  | 47 => 355
  | 48 => 363
  | 49 => 376
  | 50 => 388
  | 51 => 196
  | 52 => 221
  | 53 => 423
  | 54 => 429
  | 55 => 472
  | 56 => 455
  | 57 => 447
  | 58 => 467
  | 59 => 476
  | 60 => 484
  | 61 => 501
  | 62 => 494
  | 63 => 505
  | 64 => 234
  | 65 => 227
  | 66 => 489
  | 67 => 318
  | 68 => 315
  | 69 => 334
  | 70 => 330
  | 71 => 274
  | 72 => 296
  | 73 => 300
  | 74 => 304
  | 75 => 444
  | 76 => 452
  | 77 => 441
  | 78 => 420
  | 79 => 498
  | _ => 0
def tb_iV : Nat → Nat := fun k => match k with
  | 0 => 0
  | 1 => 216
  | 2 => 282
  | 3 => 293
  | 4 => 278
  | 5 => 271
  | 6 => 267
  | 7 => 481
  | 8 => 402
  | 9 => 2
  | 10 => 3
  | 11 => 352
  | 12 => 243
  | 13 => 251
  | 14 => 348
  | 15 => 437
  | 16 => 0
  | 17 => 231
  | 18 => 201
  | 19 => 0
  | 20 => 0
  | 21 => 209
  | 22 => 373
  | 23 => 0
  | 24 => 286
  | 25 => 413
  | 26 => 0
  | 27 => 205
  | 28 => 312
  | 29 => 327
  | 30 => 344
  | 31 => 360
  | 32 => 368
  | 33 => 381
  | 34 => 393
  | 35 => 460
  | 36 => 464
  | 37 => 239
  | 38 => 247
  | 39 => 398
  | 40 => 255
  | 41 => 259
  | 42 => 263
  | 43 => 0
  | 44 => 308
  | 45 => 323
  | 46 => 340
  | 47 => 356
  | 48 => 364
  | 49 => 377
  | 50 => 389
  | 51 => 197
  | 52 => 222
  | 53 => 424
  | 54 => 430
  | 55 => 473
  | 56 => 456
  | 57 => 448
  | 58 => 468
  | 59 => 477
  | 60 => 485
  | 61 => 502
  | 62 => 495
  | 63 => 506
  | 64 => 235
  | 65 => 1
  | 66 => 4
  | 67 => 0
  | 68 => 0
  | 69 => 0
  | 70 => 0
  | 71 => 0
  | 72 => 0
  | 73 => 0
  | 74 => 0
  | 75 => 0
  | 76 => 0
  | 77 => 0
  | 78 => 0
  | 79 => 0
  | _ => 0
/-- own class, index, (target, nest mate), place of the word -/
def tb_lkL0 : List (Nat × Nat × (Nat × Bool) × Nat) := [(6, 94, (43, false), 16), (5, 1, (1001, false), 19), (5, 9, (26, false), 24), (4, 3, (1001, false), 27), (4, 11, (20, false), 30), (3, 3, (1001, false), 33), (3, 27, (23, false), 38), (0, 3, (1001, false), 65), (5, 28, (16, false), 119), (1, 3, (1001, false), 122), (1, 17, (26, false), 125), (2, 3, (1001, false), 144), (6, 40, (51, false), 195), (5, 119, (18, false), 199), (1, 25, (27, false), 203), (4, 29, (21, false), 207), (3, 30, (1004, false), 211), (4, 33, (1, false), 214), (0, 22, (1004, false), 218), (4, 36, (1004, false), 219), (6, 99, (52, false), 220), (5, 54, (27, false), 224), (5, 62, (65, false), 225), (5, 233, (17, false), 229)]
def tb_lkL1 : List (Nat × Nat × (Nat × Bool) × Nat) := [(6, 55, (64, false), 233), (5, 209, (37, false), 237), (4, 114, (12, false), 241), (5, 212, (38, false), 245), (4, 81, (13, false), 249), (5, 215, (40, false), 253), (5, 218, (41, false), 257), (5, 224, (42, false), 261), (4, 123, (6, false), 265), (0, 66, (5, false), 269), (0, 59, (4, false), 276), (0, 38, (2, false), 280), (0, 42, (24, false), 284), (0, 54, (1002, false), 288), (0, 63, (3, false), 291), (6, 102, (72, false), 295), (6, 9, (73, false), 299), (6, 106, (74, false), 303), (6, 15, (44, false), 306), (5, 58, (28, false), 310), (5, 112, (67, false), 317), (6, 20, (45, false), 321), (5, 66, (29, false), 325), (5, 139, (68, false), 332)]
def tb_lkL2 : List (Nat × Nat × (Nat × Bool) × Nat) := [(5, 172, (69, false), 333), (4, 63, (2, false), 336), (6, 24, (46, false), 338), (5, 70, (30, false), 342), (4, 74, (14, false), 346), (4, 78, (11, false), 350), (6, 28, (47, false), 354), (5, 73, (31, false), 358), (6, 31, (48, false), 362), (5, 76, (32, false), 366), (4, 93, (22, false), 371), (6, 34, (49, false), 375), (5, 79, (33, false), 379), (6, 37, (50, false), 387), (5, 82, (34, false), 391), (4, 107, (39, false), 396), (4, 110, (8, false), 400), (0, 75, (9, false), 404), (0, 69, (1003, false), 408), (0, 83, (25, false), 411), (0, 79, (10, false), 415), (6, 95, (78, false), 419), (6, 44, (53, false), 422), (5, 125, (70, false), 426)]
def tb_lkL3 : List (Nat × Nat × (Nat × Bool) × Nat) := [(5, 136, (71, false), 427), (6, 61, (54, false), 428), (5, 146, (12, false), 432), (5, 149, (13, false), 433), (5, 158, (14, false), 434), (5, 161, (15, false), 435), (5, 168, (6, false), 439), (6, 83, (77, false), 440), (6, 48, (75, false), 443), (6, 58, (57, false), 446), (5, 192, (4, false), 450), (6, 67, (76, false), 451), (6, 52, (56, false), 454), (5, 183, (35, false), 458), (5, 186, (36, false), 462), (6, 64, (58, false), 466), (5, 196, (5, false), 470), (6, 71, (55, false), 471), (6, 74, (59, false), 475), (5, 199, (7, false), 479), (6, 77, (60, false), 483), (5, 203, (66, false), 487), (5, 252, (1, false), 491), (5, 255, (8, false), 492)]
def tb_lkL4 : List (Nat × Nat × (Nat × Bool) × Nat) := [(6, 80, (62, false), 493), (6, 110, (79, false), 497), (6, 87, (61, false), 500), (6, 90, (63, false), 504), (5, 206, (24, false), 508), (4, 28, (0, true), 0), (5, 35, (0, true), 0), (5, 42, (19, true), 0), (0, 48, (71, true), 0), (4, 49, (68, true), 0), (4, 53, (67, true), 0), (4, 60, (70, true), 0), (4, 70, (71, true), 0), (4, 87, (69, true), 0)]
def tb_lkL : List (Nat × Nat × (Nat × Bool) × Nat) := tb_lkL0 ++ (tb_lkL1 ++ (tb_lkL2 ++ (tb_lkL3 ++ (tb_lkL4))))
def tb_flL : List (Nat × Nat × Nat × Nat) := [(3, 9, 3, 0), (4, 90, 3, 0), (5, 178, 3, 0), (3, 15, 3, 1), (0, 51, 3, 1), (4, 103, 3, 1), (5, 227, 3, 1), (3, 18, 3, 2), (0, 72, 3, 2), (0, 9, 0, 0), (4, 67, 0, 0), (5, 132, 0, 0), (0, 15, 0, 1), (0, 19, 0, 2), (4, 84, 0, 2), (5, 175, 0, 2), (0, 28, 0, 3), (4, 57, 0, 3), (5, 143, 0, 3), (0, 32, 0, 4), (4, 117, 0, 4), (5, 152, 0, 4), (0, 35, 0, 5), (4, 120, 0, 5), (5, 155, 0, 5), (4, 12, 4, 0), (5, 164, 4, 0), (4, 20, 4, 1), (5, 128, 4, 1), (4, 24, 4, 2), (5, 189, 4, 2), (4, 42, 4, 3), (5, 221, 4, 3), (4, 46, 4, 4), (5, 122, 4, 4), (1, 11, 1, 0), (1, 22, 1, 1), (1, 18, 1, 2), (5, 116, 1, 2), (2, 9, 2, 0), (5, 230, 2, 1), (5, 10, 5, 0), (5, 16, 5, 1), (5, 19, 5, 2), (5, 22, 5, 3), (5, 29, 5, 4), (5, 36, 5, 5), (5, 43, 5, 6), (5, 47, 5, 7), (5, 51, 5, 8)]
def tb_sn : Nat → String := fun k => match k with
  | 0 => "FIRST_GRIP"
  | 1 => "FIRST_SETTING"
  | 2 => "LEAST_SETTING"
  | 3 => "MOST_SETTING"
  | _ => ""
def tb_slL : List (Nat × Nat × Nat) := [(3, 21, 0), (3, 24, 1), (4, 97, 2), (4, 100, 3)]
def tb_clL : List (Nat × Nat × Nat) := [(6, 16, 5), (5, 7, 4), (4, 9, 3), (4, 18, 0), (5, 26, 1), (1, 9, 4), (5, 33, 0), (5, 40, 2)]
def tb_kcL : List (Nat × Nat × Int32) := [(6, 7, 40503), (6, 8, 2147483647), (4, 106, 99999)]
def tb_lk (c ix : Nat) : Option (Nat × Bool) := (tb_lkL.find? (fun q => q.1 == c && q.2.1 == ix)).map (fun q => q.2.2.1)
def tb_fl (c ix : Nat) : Option (Nat × Nat) := (tb_flL.find? (fun q => q.1 == c && q.2.1 == ix)).map (fun q => q.2.2)
def tb_sl (c ix : Nat) : Option Nat := (tb_slL.find? (fun q => q.1 == c && q.2.1 == ix)).map (fun q => q.2.2)
def tb_cl (c ix : Nat) : Option Nat := (tb_clL.find? (fun q => q.1 == c && q.2.1 == ix)).map (fun q => q.2.2)
def tb_kc (c ix : Nat) : Option Int32 := (tb_kcL.find? (fun q => q.1 == c && q.2.1 == ix)).map (fun q => q.2.2)
def tb_cls : List vw_C := (List.range 6).map (fun k => (tb_cn k, tb_F k, tb_nF k))
def tb_big : List Cond := lw_tbl.filter goodWord
def tb_cw (m : Nat) : Cond := .code (tb_y m) (tb_by m) (tb_mL m) (tb_rt m)
def tb_ws (m : Nat) : List Cond := tb_cw m :: tb_big
/-- what nest mates are called and read by: these words hold of a state, not of the tables alone -/
def tb_nst : List Cond := ((tb_lkL.filter (fun q => q.2.2.1.2)).map (fun q => Cond.methodLinkNest (tb_cn q.1) q.2.1 (tb_y q.2.2.1.1) "TiltBoards")) ++ (tb_slL.map (fun q => Cond.fieldLinkNest (tb_cn q.1) q.2.1 "TiltBoards" (tb_sn q.2.2) "[I" "TiltBoards"))
def tb_cd (m pc : Nat) : Option (Instr × Nat) := match decode (tb_by m) pc with | .ok r => some r | .error _ => none
def tb_nLaw : Nat := 80
theorem tb_k1i_0 : ∀ m, m < 8 → lw_tbl[tb_iC (m + 0)]? = some (tb_cw (m + 0)) := by decide +kernel
theorem tb_k1i_1 : ∀ m, m < 8 → lw_tbl[tb_iC (m + 8)]? = some (tb_cw (m + 8)) := by decide +kernel
theorem tb_k1i_2 : ∀ m, m < 8 → lw_tbl[tb_iC (m + 16)]? = some (tb_cw (m + 16)) := by decide +kernel
theorem tb_k1i_3 : ∀ m, m < 8 → lw_tbl[tb_iC (m + 24)]? = some (tb_cw (m + 24)) := by decide +kernel
theorem tb_k1i_4 : ∀ m, m < 8 → lw_tbl[tb_iC (m + 32)]? = some (tb_cw (m + 32)) := by decide +kernel
theorem tb_k1i_5 : ∀ m, m < 8 → lw_tbl[tb_iC (m + 40)]? = some (tb_cw (m + 40)) := by decide +kernel
theorem tb_k1i_6 : ∀ m, m < 8 → lw_tbl[tb_iC (m + 48)]? = some (tb_cw (m + 48)) := by decide +kernel
theorem tb_k1i_7 : ∀ m, m < 8 → lw_tbl[tb_iC (m + 56)]? = some (tb_cw (m + 56)) := by decide +kernel
theorem tb_k1i_8 : ∀ m, m < 8 → lw_tbl[tb_iC (m + 64)]? = some (tb_cw (m + 64)) := by decide +kernel
theorem tb_k1i_9 : ∀ m, m < 1 → lw_tbl[tb_iC (m + 72)]? = some (tb_cw (m + 72)) := by decide +kernel
theorem tb_k1i_10 : ∀ m, m < 1 → lw_tbl[tb_iC (m + 73)]? = some (tb_cw (m + 73)) := by decide +kernel
theorem tb_k1i_11 : ∀ m, m < 1 → lw_tbl[tb_iC (m + 74)]? = some (tb_cw (m + 74)) := by decide +kernel
theorem tb_k1i_12 : ∀ m, m < 1 → lw_tbl[tb_iC (m + 75)]? = some (tb_cw (m + 75)) := by decide +kernel
theorem tb_k1i_13 : ∀ m, m < 1 → lw_tbl[tb_iC (m + 76)]? = some (tb_cw (m + 76)) := by decide +kernel
theorem tb_k1i_14 : ∀ m, m < 1 → lw_tbl[tb_iC (m + 77)]? = some (tb_cw (m + 77)) := by decide +kernel
theorem tb_k1i_15 : ∀ m, m < 1 → lw_tbl[tb_iC (m + 78)]? = some (tb_cw (m + 78)) := by decide +kernel
theorem tb_k1i_16 : ∀ m, m < 1 → lw_tbl[tb_iC (m + 79)]? = some (tb_cw (m + 79)) := by decide +kernel
theorem tb_k1i : ∀ m, m < tb_nLaw → lw_tbl[tb_iC m]? = some (tb_cw m) := by
  intro m hm
  have hm : m < 80 := hm
  by_cases h0 : m < 8
  · have h := tb_k1i_0 (m - 0) (by omega)
    rw [Nat.sub_add_cancel (by omega)] at h
    exact h
  by_cases h1 : m < 16
  · have h := tb_k1i_1 (m - 8) (by omega)
    rw [Nat.sub_add_cancel (by omega)] at h
    exact h
  by_cases h2 : m < 24
  · have h := tb_k1i_2 (m - 16) (by omega)
    rw [Nat.sub_add_cancel (by omega)] at h
    exact h
  by_cases h3 : m < 32
  · have h := tb_k1i_3 (m - 24) (by omega)
    rw [Nat.sub_add_cancel (by omega)] at h
    exact h
  by_cases h4 : m < 40
  · have h := tb_k1i_4 (m - 32) (by omega)
    rw [Nat.sub_add_cancel (by omega)] at h
    exact h
  by_cases h5 : m < 48
  · have h := tb_k1i_5 (m - 40) (by omega)
    rw [Nat.sub_add_cancel (by omega)] at h
    exact h
  by_cases h6 : m < 56
  · have h := tb_k1i_6 (m - 48) (by omega)
    rw [Nat.sub_add_cancel (by omega)] at h
    exact h
  by_cases h7 : m < 64
  · have h := tb_k1i_7 (m - 56) (by omega)
    rw [Nat.sub_add_cancel (by omega)] at h
    exact h
  by_cases h8 : m < 72
  · have h := tb_k1i_8 (m - 64) (by omega)
    rw [Nat.sub_add_cancel (by omega)] at h
    exact h
  by_cases h9 : m < 73
  · have h := tb_k1i_9 (m - 72) (by omega)
    rw [Nat.sub_add_cancel (by omega)] at h
    exact h
  by_cases h10 : m < 74
  · have h := tb_k1i_10 (m - 73) (by omega)
    rw [Nat.sub_add_cancel (by omega)] at h
    exact h
  by_cases h11 : m < 75
  · have h := tb_k1i_11 (m - 74) (by omega)
    rw [Nat.sub_add_cancel (by omega)] at h
    exact h
  by_cases h12 : m < 76
  · have h := tb_k1i_12 (m - 75) (by omega)
    rw [Nat.sub_add_cancel (by omega)] at h
    exact h
  by_cases h13 : m < 77
  · have h := tb_k1i_13 (m - 76) (by omega)
    rw [Nat.sub_add_cancel (by omega)] at h
    exact h
  by_cases h14 : m < 78
  · have h := tb_k1i_14 (m - 77) (by omega)
    rw [Nat.sub_add_cancel (by omega)] at h
    exact h
  by_cases h15 : m < 79
  · have h := tb_k1i_15 (m - 78) (by omega)
    rw [Nat.sub_add_cancel (by omega)] at h
    exact h
  have h := tb_k1i_16 (m - 79) (by omega)
  rw [Nat.sub_add_cancel (by omega)] at h
  exact h
theorem tb_k2i_0 : ∀ m, m < 8 → (tb_kd (m + 0) = 1 → lw_tbl[tb_iS (m + 0)]? = some (Cond.static (tb_y (m + 0)))) ∧ (tb_kd (m + 0) ≠ 1 → lw_tbl[tb_iS (m + 0)]? = some (Cond.instanceMethod (tb_y (m + 0)))) ∧ (tb_kd (m + 0) = 0 → lw_tbl[tb_iV (m + 0)]? = some (Cond.selects (tb_cn (tb_ow (m + 0))) (tb_y (m + 0)) (tb_y (m + 0)))) ∧ (tb_kd (m + 0) = 2 → (tb_y (m + 0)).name = "<init>" ∧ tb_rt (m + 0) = none) := by decide +kernel
theorem tb_k2i_1 : ∀ m, m < 8 → (tb_kd (m + 8) = 1 → lw_tbl[tb_iS (m + 8)]? = some (Cond.static (tb_y (m + 8)))) ∧ (tb_kd (m + 8) ≠ 1 → lw_tbl[tb_iS (m + 8)]? = some (Cond.instanceMethod (tb_y (m + 8)))) ∧ (tb_kd (m + 8) = 0 → lw_tbl[tb_iV (m + 8)]? = some (Cond.selects (tb_cn (tb_ow (m + 8))) (tb_y (m + 8)) (tb_y (m + 8)))) ∧ (tb_kd (m + 8) = 2 → (tb_y (m + 8)).name = "<init>" ∧ tb_rt (m + 8) = none) := by decide +kernel
theorem tb_k2i_2 : ∀ m, m < 8 → (tb_kd (m + 16) = 1 → lw_tbl[tb_iS (m + 16)]? = some (Cond.static (tb_y (m + 16)))) ∧ (tb_kd (m + 16) ≠ 1 → lw_tbl[tb_iS (m + 16)]? = some (Cond.instanceMethod (tb_y (m + 16)))) ∧ (tb_kd (m + 16) = 0 → lw_tbl[tb_iV (m + 16)]? = some (Cond.selects (tb_cn (tb_ow (m + 16))) (tb_y (m + 16)) (tb_y (m + 16)))) ∧ (tb_kd (m + 16) = 2 → (tb_y (m + 16)).name = "<init>" ∧ tb_rt (m + 16) = none) := by decide +kernel
theorem tb_k2i_3 : ∀ m, m < 8 → (tb_kd (m + 24) = 1 → lw_tbl[tb_iS (m + 24)]? = some (Cond.static (tb_y (m + 24)))) ∧ (tb_kd (m + 24) ≠ 1 → lw_tbl[tb_iS (m + 24)]? = some (Cond.instanceMethod (tb_y (m + 24)))) ∧ (tb_kd (m + 24) = 0 → lw_tbl[tb_iV (m + 24)]? = some (Cond.selects (tb_cn (tb_ow (m + 24))) (tb_y (m + 24)) (tb_y (m + 24)))) ∧ (tb_kd (m + 24) = 2 → (tb_y (m + 24)).name = "<init>" ∧ tb_rt (m + 24) = none) := by decide +kernel
theorem tb_k2i_4 : ∀ m, m < 8 → (tb_kd (m + 32) = 1 → lw_tbl[tb_iS (m + 32)]? = some (Cond.static (tb_y (m + 32)))) ∧ (tb_kd (m + 32) ≠ 1 → lw_tbl[tb_iS (m + 32)]? = some (Cond.instanceMethod (tb_y (m + 32)))) ∧ (tb_kd (m + 32) = 0 → lw_tbl[tb_iV (m + 32)]? = some (Cond.selects (tb_cn (tb_ow (m + 32))) (tb_y (m + 32)) (tb_y (m + 32)))) ∧ (tb_kd (m + 32) = 2 → (tb_y (m + 32)).name = "<init>" ∧ tb_rt (m + 32) = none) := by decide +kernel
theorem tb_k2i_5 : ∀ m, m < 8 → (tb_kd (m + 40) = 1 → lw_tbl[tb_iS (m + 40)]? = some (Cond.static (tb_y (m + 40)))) ∧ (tb_kd (m + 40) ≠ 1 → lw_tbl[tb_iS (m + 40)]? = some (Cond.instanceMethod (tb_y (m + 40)))) ∧ (tb_kd (m + 40) = 0 → lw_tbl[tb_iV (m + 40)]? = some (Cond.selects (tb_cn (tb_ow (m + 40))) (tb_y (m + 40)) (tb_y (m + 40)))) ∧ (tb_kd (m + 40) = 2 → (tb_y (m + 40)).name = "<init>" ∧ tb_rt (m + 40) = none) := by decide +kernel
theorem tb_k2i_6 : ∀ m, m < 8 → (tb_kd (m + 48) = 1 → lw_tbl[tb_iS (m + 48)]? = some (Cond.static (tb_y (m + 48)))) ∧ (tb_kd (m + 48) ≠ 1 → lw_tbl[tb_iS (m + 48)]? = some (Cond.instanceMethod (tb_y (m + 48)))) ∧ (tb_kd (m + 48) = 0 → lw_tbl[tb_iV (m + 48)]? = some (Cond.selects (tb_cn (tb_ow (m + 48))) (tb_y (m + 48)) (tb_y (m + 48)))) ∧ (tb_kd (m + 48) = 2 → (tb_y (m + 48)).name = "<init>" ∧ tb_rt (m + 48) = none) := by decide +kernel
theorem tb_k2i_7 : ∀ m, m < 8 → (tb_kd (m + 56) = 1 → lw_tbl[tb_iS (m + 56)]? = some (Cond.static (tb_y (m + 56)))) ∧ (tb_kd (m + 56) ≠ 1 → lw_tbl[tb_iS (m + 56)]? = some (Cond.instanceMethod (tb_y (m + 56)))) ∧ (tb_kd (m + 56) = 0 → lw_tbl[tb_iV (m + 56)]? = some (Cond.selects (tb_cn (tb_ow (m + 56))) (tb_y (m + 56)) (tb_y (m + 56)))) ∧ (tb_kd (m + 56) = 2 → (tb_y (m + 56)).name = "<init>" ∧ tb_rt (m + 56) = none) := by decide +kernel
theorem tb_k2i_8 : ∀ m, m < 8 → (tb_kd (m + 64) = 1 → lw_tbl[tb_iS (m + 64)]? = some (Cond.static (tb_y (m + 64)))) ∧ (tb_kd (m + 64) ≠ 1 → lw_tbl[tb_iS (m + 64)]? = some (Cond.instanceMethod (tb_y (m + 64)))) ∧ (tb_kd (m + 64) = 0 → lw_tbl[tb_iV (m + 64)]? = some (Cond.selects (tb_cn (tb_ow (m + 64))) (tb_y (m + 64)) (tb_y (m + 64)))) ∧ (tb_kd (m + 64) = 2 → (tb_y (m + 64)).name = "<init>" ∧ tb_rt (m + 64) = none) := by decide +kernel
theorem tb_k2i_9 : ∀ m, m < 1 → (tb_kd (m + 72) = 1 → lw_tbl[tb_iS (m + 72)]? = some (Cond.static (tb_y (m + 72)))) ∧ (tb_kd (m + 72) ≠ 1 → lw_tbl[tb_iS (m + 72)]? = some (Cond.instanceMethod (tb_y (m + 72)))) ∧ (tb_kd (m + 72) = 0 → lw_tbl[tb_iV (m + 72)]? = some (Cond.selects (tb_cn (tb_ow (m + 72))) (tb_y (m + 72)) (tb_y (m + 72)))) ∧ (tb_kd (m + 72) = 2 → (tb_y (m + 72)).name = "<init>" ∧ tb_rt (m + 72) = none) := by decide +kernel
theorem tb_k2i_10 : ∀ m, m < 1 → (tb_kd (m + 73) = 1 → lw_tbl[tb_iS (m + 73)]? = some (Cond.static (tb_y (m + 73)))) ∧ (tb_kd (m + 73) ≠ 1 → lw_tbl[tb_iS (m + 73)]? = some (Cond.instanceMethod (tb_y (m + 73)))) ∧ (tb_kd (m + 73) = 0 → lw_tbl[tb_iV (m + 73)]? = some (Cond.selects (tb_cn (tb_ow (m + 73))) (tb_y (m + 73)) (tb_y (m + 73)))) ∧ (tb_kd (m + 73) = 2 → (tb_y (m + 73)).name = "<init>" ∧ tb_rt (m + 73) = none) := by decide +kernel
theorem tb_k2i_11 : ∀ m, m < 1 → (tb_kd (m + 74) = 1 → lw_tbl[tb_iS (m + 74)]? = some (Cond.static (tb_y (m + 74)))) ∧ (tb_kd (m + 74) ≠ 1 → lw_tbl[tb_iS (m + 74)]? = some (Cond.instanceMethod (tb_y (m + 74)))) ∧ (tb_kd (m + 74) = 0 → lw_tbl[tb_iV (m + 74)]? = some (Cond.selects (tb_cn (tb_ow (m + 74))) (tb_y (m + 74)) (tb_y (m + 74)))) ∧ (tb_kd (m + 74) = 2 → (tb_y (m + 74)).name = "<init>" ∧ tb_rt (m + 74) = none) := by decide +kernel
theorem tb_k2i_12 : ∀ m, m < 1 → (tb_kd (m + 75) = 1 → lw_tbl[tb_iS (m + 75)]? = some (Cond.static (tb_y (m + 75)))) ∧ (tb_kd (m + 75) ≠ 1 → lw_tbl[tb_iS (m + 75)]? = some (Cond.instanceMethod (tb_y (m + 75)))) ∧ (tb_kd (m + 75) = 0 → lw_tbl[tb_iV (m + 75)]? = some (Cond.selects (tb_cn (tb_ow (m + 75))) (tb_y (m + 75)) (tb_y (m + 75)))) ∧ (tb_kd (m + 75) = 2 → (tb_y (m + 75)).name = "<init>" ∧ tb_rt (m + 75) = none) := by decide +kernel
theorem tb_k2i_13 : ∀ m, m < 1 → (tb_kd (m + 76) = 1 → lw_tbl[tb_iS (m + 76)]? = some (Cond.static (tb_y (m + 76)))) ∧ (tb_kd (m + 76) ≠ 1 → lw_tbl[tb_iS (m + 76)]? = some (Cond.instanceMethod (tb_y (m + 76)))) ∧ (tb_kd (m + 76) = 0 → lw_tbl[tb_iV (m + 76)]? = some (Cond.selects (tb_cn (tb_ow (m + 76))) (tb_y (m + 76)) (tb_y (m + 76)))) ∧ (tb_kd (m + 76) = 2 → (tb_y (m + 76)).name = "<init>" ∧ tb_rt (m + 76) = none) := by decide +kernel
theorem tb_k2i_14 : ∀ m, m < 1 → (tb_kd (m + 77) = 1 → lw_tbl[tb_iS (m + 77)]? = some (Cond.static (tb_y (m + 77)))) ∧ (tb_kd (m + 77) ≠ 1 → lw_tbl[tb_iS (m + 77)]? = some (Cond.instanceMethod (tb_y (m + 77)))) ∧ (tb_kd (m + 77) = 0 → lw_tbl[tb_iV (m + 77)]? = some (Cond.selects (tb_cn (tb_ow (m + 77))) (tb_y (m + 77)) (tb_y (m + 77)))) ∧ (tb_kd (m + 77) = 2 → (tb_y (m + 77)).name = "<init>" ∧ tb_rt (m + 77) = none) := by decide +kernel
theorem tb_k2i_15 : ∀ m, m < 1 → (tb_kd (m + 78) = 1 → lw_tbl[tb_iS (m + 78)]? = some (Cond.static (tb_y (m + 78)))) ∧ (tb_kd (m + 78) ≠ 1 → lw_tbl[tb_iS (m + 78)]? = some (Cond.instanceMethod (tb_y (m + 78)))) ∧ (tb_kd (m + 78) = 0 → lw_tbl[tb_iV (m + 78)]? = some (Cond.selects (tb_cn (tb_ow (m + 78))) (tb_y (m + 78)) (tb_y (m + 78)))) ∧ (tb_kd (m + 78) = 2 → (tb_y (m + 78)).name = "<init>" ∧ tb_rt (m + 78) = none) := by decide +kernel
theorem tb_k2i_16 : ∀ m, m < 1 → (tb_kd (m + 79) = 1 → lw_tbl[tb_iS (m + 79)]? = some (Cond.static (tb_y (m + 79)))) ∧ (tb_kd (m + 79) ≠ 1 → lw_tbl[tb_iS (m + 79)]? = some (Cond.instanceMethod (tb_y (m + 79)))) ∧ (tb_kd (m + 79) = 0 → lw_tbl[tb_iV (m + 79)]? = some (Cond.selects (tb_cn (tb_ow (m + 79))) (tb_y (m + 79)) (tb_y (m + 79)))) ∧ (tb_kd (m + 79) = 2 → (tb_y (m + 79)).name = "<init>" ∧ tb_rt (m + 79) = none) := by decide +kernel
theorem tb_k2i : ∀ m, m < tb_nLaw → (tb_kd m = 1 → lw_tbl[tb_iS m]? = some (Cond.static (tb_y m))) ∧ (tb_kd m ≠ 1 → lw_tbl[tb_iS m]? = some (Cond.instanceMethod (tb_y m))) ∧ (tb_kd m = 0 → lw_tbl[tb_iV m]? = some (Cond.selects (tb_cn (tb_ow m)) (tb_y m) (tb_y m))) ∧ (tb_kd m = 2 → (tb_y m).name = "<init>" ∧ tb_rt m = none) := by
  intro m hm
  have hm : m < 80 := hm
  by_cases h0 : m < 8
  · have h := tb_k2i_0 (m - 0) (by omega)
    rw [Nat.sub_add_cancel (by omega)] at h
    exact h
  by_cases h1 : m < 16
  · have h := tb_k2i_1 (m - 8) (by omega)
    rw [Nat.sub_add_cancel (by omega)] at h
    exact h
  by_cases h2 : m < 24
  · have h := tb_k2i_2 (m - 16) (by omega)
    rw [Nat.sub_add_cancel (by omega)] at h
    exact h
  by_cases h3 : m < 32
  · have h := tb_k2i_3 (m - 24) (by omega)
    rw [Nat.sub_add_cancel (by omega)] at h
    exact h
  by_cases h4 : m < 40
  · have h := tb_k2i_4 (m - 32) (by omega)
    rw [Nat.sub_add_cancel (by omega)] at h
    exact h
  by_cases h5 : m < 48
  · have h := tb_k2i_5 (m - 40) (by omega)
    rw [Nat.sub_add_cancel (by omega)] at h
    exact h
  by_cases h6 : m < 56
  · have h := tb_k2i_6 (m - 48) (by omega)
    rw [Nat.sub_add_cancel (by omega)] at h
    exact h
  by_cases h7 : m < 64
  · have h := tb_k2i_7 (m - 56) (by omega)
    rw [Nat.sub_add_cancel (by omega)] at h
    exact h
  by_cases h8 : m < 72
  · have h := tb_k2i_8 (m - 64) (by omega)
    rw [Nat.sub_add_cancel (by omega)] at h
    exact h
  by_cases h9 : m < 73
  · have h := tb_k2i_9 (m - 72) (by omega)
    rw [Nat.sub_add_cancel (by omega)] at h
    exact h
  by_cases h10 : m < 74
  · have h := tb_k2i_10 (m - 73) (by omega)
    rw [Nat.sub_add_cancel (by omega)] at h
    exact h
  by_cases h11 : m < 75
  · have h := tb_k2i_11 (m - 74) (by omega)
    rw [Nat.sub_add_cancel (by omega)] at h
    exact h
  by_cases h12 : m < 76
  · have h := tb_k2i_12 (m - 75) (by omega)
    rw [Nat.sub_add_cancel (by omega)] at h
    exact h
  by_cases h13 : m < 77
  · have h := tb_k2i_13 (m - 76) (by omega)
    rw [Nat.sub_add_cancel (by omega)] at h
    exact h
  by_cases h14 : m < 78
  · have h := tb_k2i_14 (m - 77) (by omega)
    rw [Nat.sub_add_cancel (by omega)] at h
    exact h
  by_cases h15 : m < 79
  · have h := tb_k2i_15 (m - 78) (by omega)
    rw [Nat.sub_add_cancel (by omega)] at h
    exact h
  have h := tb_k2i_16 (m - 79) (by omega)
  rw [Nat.sub_add_cancel (by omega)] at h
  exact h
theorem tb_k1 {m : Nat} (h : m < tb_nLaw) : tb_cw m ∈ lw_tbl := List.mem_of_getElem? (tb_k1i m h)
theorem tb_k3 : ∀ k, k < 7 → Cond.initialized (tb_cn k) ∈ lw_tbl := by decide +kernel
theorem tb_k4_0 : ∀ q ∈ tb_lkL0, (q.2.2.1.2 = false → q.2.2.1.1 < 1000 → lw_tbl[q.2.2.2]? = some (Cond.methodLink (tb_cn q.1) q.2.1 (tb_y q.2.2.1.1)) ∧ q.2.2.1.1 < tb_nLaw) ∧ (q.2.2.1.2 = true → q.2.2.1.1 < tb_nLaw) := by decide +kernel
theorem tb_k4_1 : ∀ q ∈ tb_lkL1, (q.2.2.1.2 = false → q.2.2.1.1 < 1000 → lw_tbl[q.2.2.2]? = some (Cond.methodLink (tb_cn q.1) q.2.1 (tb_y q.2.2.1.1)) ∧ q.2.2.1.1 < tb_nLaw) ∧ (q.2.2.1.2 = true → q.2.2.1.1 < tb_nLaw) := by decide +kernel
theorem tb_k4_2 : ∀ q ∈ tb_lkL2, (q.2.2.1.2 = false → q.2.2.1.1 < 1000 → lw_tbl[q.2.2.2]? = some (Cond.methodLink (tb_cn q.1) q.2.1 (tb_y q.2.2.1.1)) ∧ q.2.2.1.1 < tb_nLaw) ∧ (q.2.2.1.2 = true → q.2.2.1.1 < tb_nLaw) := by decide +kernel
theorem tb_k4_3 : ∀ q ∈ tb_lkL3, (q.2.2.1.2 = false → q.2.2.1.1 < 1000 → lw_tbl[q.2.2.2]? = some (Cond.methodLink (tb_cn q.1) q.2.1 (tb_y q.2.2.1.1)) ∧ q.2.2.1.1 < tb_nLaw) ∧ (q.2.2.1.2 = true → q.2.2.1.1 < tb_nLaw) := by decide +kernel
theorem tb_k4_4 : ∀ q ∈ tb_lkL4, (q.2.2.1.2 = false → q.2.2.1.1 < 1000 → lw_tbl[q.2.2.2]? = some (Cond.methodLink (tb_cn q.1) q.2.1 (tb_y q.2.2.1.1)) ∧ q.2.2.1.1 < tb_nLaw) ∧ (q.2.2.1.2 = true → q.2.2.1.1 < tb_nLaw) := by decide +kernel
theorem tb_k4 : ∀ q ∈ tb_lkL, (q.2.2.1.2 = false → q.2.2.1.1 < 1000 → lw_tbl[q.2.2.2]? = some (Cond.methodLink (tb_cn q.1) q.2.1 (tb_y q.2.2.1.1)) ∧ q.2.2.1.1 < tb_nLaw) ∧ (q.2.2.1.2 = true → q.2.2.1.1 < tb_nLaw) := List.forall_mem_append.mpr ⟨tb_k4_0,  List.forall_mem_append.mpr ⟨tb_k4_1,  List.forall_mem_append.mpr ⟨tb_k4_2,  List.forall_mem_append.mpr ⟨tb_k4_3, tb_k4_4⟩⟩⟩⟩
theorem tb_k4s1001_0 : ∀ q ∈ tb_lkL0, q.2.2.1.1 = 1001 → q.2.2.1.2 = false ∧ lw_tbl[q.2.2.2]? = some (Cond.methodLink (tb_cn q.1) q.2.1 ⟨"java/lang/Object", "<init>", "()V"⟩) := by decide +kernel
theorem tb_k4s1001_1 : ∀ q ∈ tb_lkL1, q.2.2.1.1 = 1001 → q.2.2.1.2 = false ∧ lw_tbl[q.2.2.2]? = some (Cond.methodLink (tb_cn q.1) q.2.1 ⟨"java/lang/Object", "<init>", "()V"⟩) := by decide +kernel
theorem tb_k4s1001_2 : ∀ q ∈ tb_lkL2, q.2.2.1.1 = 1001 → q.2.2.1.2 = false ∧ lw_tbl[q.2.2.2]? = some (Cond.methodLink (tb_cn q.1) q.2.1 ⟨"java/lang/Object", "<init>", "()V"⟩) := by decide +kernel
theorem tb_k4s1001_3 : ∀ q ∈ tb_lkL3, q.2.2.1.1 = 1001 → q.2.2.1.2 = false ∧ lw_tbl[q.2.2.2]? = some (Cond.methodLink (tb_cn q.1) q.2.1 ⟨"java/lang/Object", "<init>", "()V"⟩) := by decide +kernel
theorem tb_k4s1001_4 : ∀ q ∈ tb_lkL4, q.2.2.1.1 = 1001 → q.2.2.1.2 = false ∧ lw_tbl[q.2.2.2]? = some (Cond.methodLink (tb_cn q.1) q.2.1 ⟨"java/lang/Object", "<init>", "()V"⟩) := by decide +kernel
theorem tb_k4s1001 : ∀ q ∈ tb_lkL, q.2.2.1.1 = 1001 → q.2.2.1.2 = false ∧ lw_tbl[q.2.2.2]? = some (Cond.methodLink (tb_cn q.1) q.2.1 ⟨"java/lang/Object", "<init>", "()V"⟩) := List.forall_mem_append.mpr ⟨tb_k4s1001_0,  List.forall_mem_append.mpr ⟨tb_k4s1001_1,  List.forall_mem_append.mpr ⟨tb_k4s1001_2,  List.forall_mem_append.mpr ⟨tb_k4s1001_3, tb_k4s1001_4⟩⟩⟩⟩
theorem tb_k4s1002_0 : ∀ q ∈ tb_lkL0, q.2.2.1.1 = 1002 → q.2.2.1.2 = false ∧ lw_tbl[q.2.2.2]? = some (Cond.methodLink (tb_cn q.1) q.2.1 ⟨"java/lang/Math", "max", "(II)I"⟩) := by decide +kernel
theorem tb_k4s1002_1 : ∀ q ∈ tb_lkL1, q.2.2.1.1 = 1002 → q.2.2.1.2 = false ∧ lw_tbl[q.2.2.2]? = some (Cond.methodLink (tb_cn q.1) q.2.1 ⟨"java/lang/Math", "max", "(II)I"⟩) := by decide +kernel
theorem tb_k4s1002_2 : ∀ q ∈ tb_lkL2, q.2.2.1.1 = 1002 → q.2.2.1.2 = false ∧ lw_tbl[q.2.2.2]? = some (Cond.methodLink (tb_cn q.1) q.2.1 ⟨"java/lang/Math", "max", "(II)I"⟩) := by decide +kernel
theorem tb_k4s1002_3 : ∀ q ∈ tb_lkL3, q.2.2.1.1 = 1002 → q.2.2.1.2 = false ∧ lw_tbl[q.2.2.2]? = some (Cond.methodLink (tb_cn q.1) q.2.1 ⟨"java/lang/Math", "max", "(II)I"⟩) := by decide +kernel
theorem tb_k4s1002_4 : ∀ q ∈ tb_lkL4, q.2.2.1.1 = 1002 → q.2.2.1.2 = false ∧ lw_tbl[q.2.2.2]? = some (Cond.methodLink (tb_cn q.1) q.2.1 ⟨"java/lang/Math", "max", "(II)I"⟩) := by decide +kernel
theorem tb_k4s1002 : ∀ q ∈ tb_lkL, q.2.2.1.1 = 1002 → q.2.2.1.2 = false ∧ lw_tbl[q.2.2.2]? = some (Cond.methodLink (tb_cn q.1) q.2.1 ⟨"java/lang/Math", "max", "(II)I"⟩) := List.forall_mem_append.mpr ⟨tb_k4s1002_0,  List.forall_mem_append.mpr ⟨tb_k4s1002_1,  List.forall_mem_append.mpr ⟨tb_k4s1002_2,  List.forall_mem_append.mpr ⟨tb_k4s1002_3, tb_k4s1002_4⟩⟩⟩⟩
theorem tb_k4s1003_0 : ∀ q ∈ tb_lkL0, q.2.2.1.1 = 1003 → q.2.2.1.2 = false ∧ lw_tbl[q.2.2.2]? = some (Cond.methodLink (tb_cn q.1) q.2.1 ⟨"java/lang/Math", "min", "(II)I"⟩) := by decide +kernel
theorem tb_k4s1003_1 : ∀ q ∈ tb_lkL1, q.2.2.1.1 = 1003 → q.2.2.1.2 = false ∧ lw_tbl[q.2.2.2]? = some (Cond.methodLink (tb_cn q.1) q.2.1 ⟨"java/lang/Math", "min", "(II)I"⟩) := by decide +kernel
theorem tb_k4s1003_2 : ∀ q ∈ tb_lkL2, q.2.2.1.1 = 1003 → q.2.2.1.2 = false ∧ lw_tbl[q.2.2.2]? = some (Cond.methodLink (tb_cn q.1) q.2.1 ⟨"java/lang/Math", "min", "(II)I"⟩) := by decide +kernel
theorem tb_k4s1003_3 : ∀ q ∈ tb_lkL3, q.2.2.1.1 = 1003 → q.2.2.1.2 = false ∧ lw_tbl[q.2.2.2]? = some (Cond.methodLink (tb_cn q.1) q.2.1 ⟨"java/lang/Math", "min", "(II)I"⟩) := by decide +kernel
theorem tb_k4s1003_4 : ∀ q ∈ tb_lkL4, q.2.2.1.1 = 1003 → q.2.2.1.2 = false ∧ lw_tbl[q.2.2.2]? = some (Cond.methodLink (tb_cn q.1) q.2.1 ⟨"java/lang/Math", "min", "(II)I"⟩) := by decide +kernel
theorem tb_k4s1003 : ∀ q ∈ tb_lkL, q.2.2.1.1 = 1003 → q.2.2.1.2 = false ∧ lw_tbl[q.2.2.2]? = some (Cond.methodLink (tb_cn q.1) q.2.1 ⟨"java/lang/Math", "min", "(II)I"⟩) := List.forall_mem_append.mpr ⟨tb_k4s1003_0,  List.forall_mem_append.mpr ⟨tb_k4s1003_1,  List.forall_mem_append.mpr ⟨tb_k4s1003_2,  List.forall_mem_append.mpr ⟨tb_k4s1003_3, tb_k4s1003_4⟩⟩⟩⟩
theorem tb_k4s1004_0 : ∀ q ∈ tb_lkL0, q.2.2.1.1 = 1004 → q.2.2.1.2 = false ∧ lw_tbl[q.2.2.2]? = some (Cond.methodLink (tb_cn q.1) q.2.1 ⟨"java/lang/System", "arraycopy", "(Ljava/lang/Object;ILjava/lang/Object;II)V"⟩) := by decide +kernel
theorem tb_k4s1004_1 : ∀ q ∈ tb_lkL1, q.2.2.1.1 = 1004 → q.2.2.1.2 = false ∧ lw_tbl[q.2.2.2]? = some (Cond.methodLink (tb_cn q.1) q.2.1 ⟨"java/lang/System", "arraycopy", "(Ljava/lang/Object;ILjava/lang/Object;II)V"⟩) := by decide +kernel
theorem tb_k4s1004_2 : ∀ q ∈ tb_lkL2, q.2.2.1.1 = 1004 → q.2.2.1.2 = false ∧ lw_tbl[q.2.2.2]? = some (Cond.methodLink (tb_cn q.1) q.2.1 ⟨"java/lang/System", "arraycopy", "(Ljava/lang/Object;ILjava/lang/Object;II)V"⟩) := by decide +kernel
theorem tb_k4s1004_3 : ∀ q ∈ tb_lkL3, q.2.2.1.1 = 1004 → q.2.2.1.2 = false ∧ lw_tbl[q.2.2.2]? = some (Cond.methodLink (tb_cn q.1) q.2.1 ⟨"java/lang/System", "arraycopy", "(Ljava/lang/Object;ILjava/lang/Object;II)V"⟩) := by decide +kernel
theorem tb_k4s1004_4 : ∀ q ∈ tb_lkL4, q.2.2.1.1 = 1004 → q.2.2.1.2 = false ∧ lw_tbl[q.2.2.2]? = some (Cond.methodLink (tb_cn q.1) q.2.1 ⟨"java/lang/System", "arraycopy", "(Ljava/lang/Object;ILjava/lang/Object;II)V"⟩) := by decide +kernel
theorem tb_k4s1004 : ∀ q ∈ tb_lkL, q.2.2.1.1 = 1004 → q.2.2.1.2 = false ∧ lw_tbl[q.2.2.2]? = some (Cond.methodLink (tb_cn q.1) q.2.1 ⟨"java/lang/System", "arraycopy", "(Ljava/lang/Object;ILjava/lang/Object;II)V"⟩) := List.forall_mem_append.mpr ⟨tb_k4s1004_0,  List.forall_mem_append.mpr ⟨tb_k4s1004_1,  List.forall_mem_append.mpr ⟨tb_k4s1004_2,  List.forall_mem_append.mpr ⟨tb_k4s1004_3, tb_k4s1004_4⟩⟩⟩⟩
theorem tb_k5 : ∀ q ∈ tb_flL, q.2.2.1 < 6 ∧ q.2.2.2 < tb_nF q.2.2.1 ∧ Cond.fieldLink (tb_cn q.1) q.2.1 (tb_cn q.2.2.1) (tb_F q.2.2.1 q.2.2.2).2.1 (tb_F q.2.2.1 q.2.2.2).2.2.1 ∈ lw_tbl ∧ (tb_F q.2.2.1 q.2.2.2).1 = tb_cn q.2.2.1 := by decide +kernel
theorem tb_k6 : ∀ q ∈ tb_clL, q.2.2 < 6 ∧ Cond.classLink (tb_cn q.1) q.2.1 (tb_cn q.2.2) ∈ lw_tbl := by decide +kernel
theorem tb_k7 : ∀ q ∈ tb_kcL, Cond.constant (tb_cn q.1) q.2.1 q.2.2 ∈ lw_tbl := by decide +kernel
theorem tb_k8 : ∀ k, k < 6 → (∀ w ∈ u_ws (tb_cn k) (tb_F k) (tb_nF k), w ∈ lw_tbl) ∧ Cond.instantiable (tb_cn k) (tb_nF k) ∈ lw_tbl := by decide +kernel
theorem tb_k9 : ∀ k, k < 6 → (∀ j, j < tb_nF k → parseFieldDescriptor (tb_F k j).2.2.1 = some (tb_T k j)) ∧ (∀ a, a < tb_nF k → ∀ b, b < tb_nF k → a ≠ b → (tb_F k a).2.1 ≠ (tb_F k b).2.1) := by decide +kernel
theorem tb_k10 : ∀ m, m < tb_nLaw → tb_ow m < 7 ∧ tb_mL m ≤ 19 ∧ (parseMethodDescriptor (tb_y m).desc).map (fun q => q.parameters.length) = some (tb_na m) ∧ plainName (tb_y m).cls = true ∧ (tb_y m).cls ≠ "java/lang/invoke/MethodHandle" ∧ (tb_y m).cls ≠ "java/lang/invoke/VarHandle" ∧ (tb_kd m = 0 ∨ tb_kd m = 1 ∨ tb_kd m = 2) ∧ (tb_kd m = 0 → tb_ow m < 6) := by decide +kernel
