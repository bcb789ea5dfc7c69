abbrev zR : Type := Nat × Nat × Nat
abbrev zV : Type := Int32 ⊕ Int64 ⊕ zR
abbrev zH : Type := (zR → Nat → Int32) × (zR → Nat → Int64) × (zR → Nat → Option zR)
abbrev zL : Type := List (Option zV)
/-- how many places j a kind has at i -/
def z_bds : List (List Nat) := [[1, 1, 1, 1, 1, 1, 1, 1, 1, 1, 1, 1, 1, 1, 1, 1, 1, 1, 1, 1, 1, 1, 1, 1, 1, 1], [1, 1, 1, 1, 1, 1, 1, 1, 1, 1, 1, 1, 1, 1, 1, 1, 1, 1, 1, 1, 1, 1, 1, 1, 1, 1], [1, 1], [1], [], [], [], [], [], [], [6, 1, 1, 40, 40, 40], [1], [40, 40, 40, 40, 40, 40, 1, 1, 1], [160, 160, 160, 4], [1, 1, 1], [1], [1, 1, 1], [40, 40, 40, 1], [16, 16, 16, 8, 8, 8, 1], [1], [1], [1], [1], [], [], [], [], [], [], [], [6, 1, 1, 40, 40, 40], [1], [1], [1, 1, 1], [40, 40, 40, 1], [40, 40, 40, 1], [1, 1, 1, 1, 1, 1], [1, 1, 1], [1, 1, 1], [1, 1, 1], [1, 1, 1], [1, 1, 1], [1, 1, 1], [1, 1, 1], [1, 1, 1], [1, 1, 1], [1, 1, 1], [1, 1, 1], [1, 1, 1], [1, 1, 1], [1, 1, 1], [1], [1], [1], [1], [1], [1], [], [], [], [], [], [], [], [], [], [], [], [], [], [], [], [], [], [], [], [], [], [], [], [], [], [], [], [], [], [], [], [], [], [], [], [], [], [], [], [], [], [], [], [1], [], [1], [1], [], [], [], [], [], [], [1], [1], [], [], [], [], [1], [1], [1], [1], [1], [1], [], [1], [1], [1], [1], [1], [1], [1], [1], [1], [1], [1], [1], [1], [1], [1], [1], [1], [1], [1], [1], [1], [1], [1], [1], [1], [1], [1], [1], [1], [1], [1], [1], [1], [1], [1], [1], [1], [1], [1], [1], [1], [1], [1], [1], [1], [1], [1], [1], [1], [1], [1], [], [], [], [1], [1], [], [], [1]]
def z_bd (k i : Nat) : Nat := (z_bds.getD k []).getD i 0
def z_ats : List Nat := [99, 8, 9, 99, 99, 99, 99, 99, 99, 99, 99, 99, 99, 99, 99, 99, 99, 99, 99, 99, 99, 99, 99, 99, 99, 99, 99, 99, 99, 99, 2, 4, 5, 4, 4, 1, 4, 4, 0, 0, 0, 0, 0, 0, 1, 4, 4, 0, 0, 3, 0, 1, 0, 0, 1, 1, 0, 99, 99, 99, 99, 99, 99, 99, 99, 99, 99, 99, 99, 99, 99, 99, 99, 99, 99, 99, 99, 99, 99, 99, 99, 99, 99, 99, 99, 99, 99, 99, 99, 99, 99, 99, 99, 99, 99, 99, 99, 99, 99, 99, 0, 99, 0, 0, 99, 99, 99, 99, 99, 99, 0, 0, 99, 99, 99, 99, 3, 0, 0, 0, 0, 0, 99, 1, 0, 0, 0, 0, 0, 0, 1, 0, 0, 0, 0, 0, 0, 1, 1, 0, 0, 0, 0, 0, 0, 1, 1, 1, 0, 0, 0, 1, 0, 0, 0, 0, 0, 0, 0, 0, 0, 0, 0, 0, 3, 1, 1, 1, 1, 1, 0, 0, 0, 3, 99, 99, 99, 1, 0, 99, 99, 0]
def z_at (k : Nat) : Nat := z_ats.getD k 99
def z_t0s : List Nat := [99, 99, 99, 99, 99, 99, 99, 99, 99, 99, 99, 99, 99, 99, 99, 99, 99, 99, 99, 99, 99, 99, 99, 99, 99, 99, 99, 99, 99, 99, 2, 4, 5, 6, 7, 1, 8, 4, 0, 0, 0, 0, 0, 0, 1, 9, 9, 0, 0, 3, 0, 1, 0, 0, 1, 1, 0, 99, 99, 99, 99, 99, 99, 99, 99, 99, 99, 99, 99, 99, 99, 99, 99, 99, 99, 99, 99, 99, 99, 99, 99, 99, 99, 99, 99, 99, 99, 99, 99, 99, 99, 99, 99, 99, 99, 99, 99, 99, 99, 99, 0, 99, 0, 0, 99, 99, 99, 99, 99, 99, 0, 0, 99, 99, 99, 99, 3, 0, 0, 0, 0, 0, 99, 1, 0, 0, 0, 0, 0, 0, 1, 0, 0, 0, 0, 0, 0, 1, 1, 0, 0, 0, 0, 0, 0, 1, 1, 1, 0, 0, 0, 1, 0, 0, 0, 0, 0, 0, 0, 0, 0, 0, 0, 0, 3, 1, 1, 1, 1, 1, 0, 0, 0, 3, 99, 99, 99, 1, 0, 99, 99, 0]
def z_t0 (k : Nat) : Nat := z_t0s.getD k 99
def z_lns : List Nat := [0, 0, 0, 0, 0, 0, 0, 0, 0, 0, 0, 0, 0, 0, 0, 0, 0, 0, 0, 0, 0, 0, 0, 0, 0, 0, 0, 0, 0, 0, 0, 6, 2, 40, 4, 3, 0, 40, 40, 64, 64, 40, 40, 40, 40, 40, 40, 40, 40, 40, 40, 21, 6, 6, 40, 200, 240, 0, 0, 0, 0, 0, 0, 0, 0, 0, 0, 0, 0, 0, 0, 0, 0, 0, 0, 0, 0, 0, 0, 0, 0, 0, 0, 0, 0, 0, 0, 0, 0, 0, 0, 0, 0, 0, 0, 0, 0, 0, 0, 0, 1200, 0, 7200, 6, 0, 0, 0, 0, 0, 0, 8, 8, 0, 0, 0, 0, 3, 3, 3, 3, 3, 3, 0, 120, 120, 120, 120, 120, 120, 120, 120, 120, 120, 120, 120, 120, 120, 480, 480, 480, 480, 480, 480, 480, 480, 360, 48, 48, 48, 48, 48, 48, 48, 48, 48, 192, 192, 120, 120, 7200, 120, 120, 120, 120, 120, 120, 120, 120, 120, 120, 3, 3, 3, 1600, 0, 0, 0, 200, 16000, 0, 0, 240]
def z_sb : List (List Int32) := [[117, 115, 101, 32, 115, 101, 116, 32, 115, 111, 117, 114, 99, 101, 32, 111, 112, 32, 108, 111, 111, 112, 32, 102, 114, 111, 109, 32, 116, 111, 32, 112, 97, 114, 32, 114, 97, 116, 101, 32, 112, 97, 115, 115, 32, 107, 101, 121, 32, 107, 101, 101, 112, 32, 115, 105, 100, 101, 32, 109, 97, 112, 32, 102, 105, 108, 116, 101, 114, 32, 102, 108, 97, 116, 32, 115, 112, 97, 110, 32, 106, 111, 105, 110, 32, 117, 110, 105, 111, 110, 32, 102, 111, 108, 100, 32, 115, 105, 110, 107], [59, 44, 58, 46, 61, 47], [115, 111, 117, 114, 99, 101, 32], [111, 112, 32], [58, 32], [109, 97, 112], [102, 105, 108, 116, 101, 114], [102, 108, 97, 116], [115, 112, 97, 110], [106, 111, 105, 110], [117, 110, 105, 111, 110], [102, 111, 108, 100], [115, 105, 110, 107], [32, 102, 114, 111, 109, 32], [44, 32], [32, 112, 97, 114, 32], [32, 114, 97, 116, 101, 32], [32, 112, 97, 115, 115, 32], [32, 107, 101, 121, 32], [32, 107, 101, 101, 112, 32], [32, 115, 105, 100, 101, 32], [59, 10], [115, 101, 116, 32], [32, 61, 32], [108, 111, 111, 112, 32], [32, 116, 111, 32]]
def z_ci : List (List Int32) := [[16128, 2, 4, 1, 64, 3, 1, 32768, 1, 4, 1, 1, 16, 1069547520, 16384, 1, 1, 2, 2, 2, 128, 2, 1, 2, 1, 44, 12, 4, 12], [2818048, 2949120, 2949120, 2949120, 3473408, 3473408, 589824, 3473408, 65536]]
def z_rl (i : Nat) : Nat := if i < 2 then 1200 else if i = 2 then 9728 else 60
def z_ln (q : zR) : Nat := match q.1 with
  | 1 => (z_sb.getD q.2.1 []).length
  | 2 => if q.2.1 = 0 then 29 else 9
  | 30 => z_rl q.2.1
  | 36 => if q.2.1 < 3 then 16 else 8
  | k => z_lns.getD k 0
def z_tcs : List (List Nat) := [[2, 0], [0, 0, 0, 0], [1, 1, 5], [1, 0, 1, 0, 0, 0], [5, 2, 0, 2, 0, 2, 0, 2, 2, 0, 2, 2, 0, 2], [2, 2], [2, 2, 2, 2, 2, 2, 2, 2, 2, 2, 2, 0, 0, 0, 0], [1, 0, 0, 0, 0, 0, 1, 0, 2, 0, 2, 0, 0, 0, 0, 0], [1, 1, 0, 0, 0, 0, 0, 0], [2, 2, 3, 0, 0, 0, 0, 3, 3, 0], [2, 2, 2, 3, 2, 2, 0, 0, 0, 0, 0, 0, 1], [2, 2, 2, 2, 3, 2, 2, 2, 2, 0, 2, 0], [2, 0, 2, 2, 0, 1, 0, 0, 0, 0, 2, 2, 0, 0, 0, 0, 2, 2, 2, 2, 2, 2, 0, 2, 2, 2, 2, 2, 2, 2, 2, 2, 2, 2, 2, 2, 2, 2, 2, 2, 2, 2, 2, 2, 2, 2, 2, 2, 2, 2, 2, 2, 2, 2, 2, 2, 2, 2, 2, 2, 2, 2, 2, 2, 2, 2, 2, 2, 2, 2, 2, 2, 2, 2, 1, 1, 0, 2, 2, 0, 0, 2]]
def z_tc (kd k : Nat) : Nat := (z_tcs.getD (kd - 10) []).getD k 9
def z_nf (c : Nat) : Nat := (z_tcs.getD c []).length
/-- where a final field leads -/
def z_fr (q : zR) (k : Nat) : zR := match q.1 with
  | 10 => (30, q.2.1, q.2.2)
  | 14 => (match k with
    | 1 => (33, q.2.1, 0)
    | 3 => (36, q.2.1, 0)
    | 5 => (36, q.2.1 + 3, 0)
    | 7 => (37, q.2.1, 0)
    | 8 => (38, q.2.1, 0)
    | 10 => (39, q.2.1, 0)
    | 11 => (40, q.2.1, 0)
    | _ => (16, q.2.1, 0))
  | 15 => (match k with
    | 0 => (11, 0, 0)
    | _ => (54, 0, 0))
  | 16 => (match k with
    | 0 => (41, q.2.1, 0)
    | 1 => (42, q.2.1, 0)
    | 2 => (43, q.2.1, 0)
    | 3 => (44, q.2.1, 0)
    | 4 => (45, q.2.1, 0)
    | 5 => (46, q.2.1, 0)
    | 6 => (12, q.2.1 + 6, 0)
    | 7 => (47, q.2.1, 0)
    | 8 => (48, q.2.1, 0)
    | 9 => (49, q.2.1, 0)
    | _ => (50, q.2.1, 0))
  | 17 => (match k with
    | 8 => (34, q.2.1, q.2.2)
    | _ => (35, q.2.1, q.2.2))
  | 19 => (match k with
    | 0 => (20, 0, 0)
    | _ => (11, 0, 0))
  | 20 => (match k with
    | 0 => (51, 0, 0)
    | 1 => (31, 0, 0)
    | 2 => (11, 0, 0)
    | 4 => (52, 0, 0)
    | _ => (53, 0, 0))
  | 21 => (match k with
    | 0 => (10, 1, 0)
    | 1 => (31, 0, 0)
    | 2 => (10, 2, 0)
    | 3 => (32, 0, 0)
    | 5 => (11, 0, 0)
    | 6 => (19, 0, 0)
    | 7 => (15, 0, 0)
    | 8 => (55, 0, 0)
    | _ => (56, 0, 0))
  | _ => (100 + k, 0, 0)
/-- what an array of cells that never changes holds -/
def z_el (q : zR) (k : Nat) : zR := match q.1 with
  | 31 => (10, 0, k)
  | 33 => (17, q.2.1, k)
  | 34 => (13, q.2.1, 4 * q.2.2 + k)
  | 36 => (18, q.2.1, k)
  | 37 => (10, q.2.1 + 3, k)
  | 45 => (12, q.2.1, k)
  | _ => (12, q.2.1 + 3, k)
def z_cns : List String := ["JobText$Bytes", "JobText$Fault", "JobText$Flow", "JobText$Input", "JobText$Job", "JobText$Judge", "JobText$Layout", "JobText$Operator", "JobText$Pair", "JobText$Reader", "JobText$Words", "JobText", "JobTextModel", "java/lang/String", "java/lang/StringLatin1", "jdk/internal/util/Preconditions", "java/lang/Math"]
def z_cn (c : Nat) : String := z_cns.getD c ""
/-- a method: name, bytes, locals, answer, (own class, frames, locals of its room), (static, parameters), places of its words -/
abbrev zM : Type := MethodName × ByteArray × Nat × Option FieldType × (Nat × Nat × Nat) × (Bool × Nat) × (Nat × Nat × Nat × Nat)
def z_ms0 : List zM := [
  (⟨"java/lang/String", "coder", "()B"⟩, prog_17_method_152_code, 1, (some .byte), (13, 1, 21), (false, 0), (548, 132, 546, 547)),
  (⟨"java/lang/String", "length", "()I"⟩, prog_17_method_54_code, 1, (some .int), (13, 2, 41), (false, 0), (544, 132, 542, 543)),
  (⟨"java/lang/String", "isLatin1", "()Z"⟩, prog_17_method_154_code, 1, (some .boolean), (13, 1, 21), (false, 0), (558, 132, 556, 557)),
  (⟨"jdk/internal/util/Preconditions", "checkIndex", "(IILjava/util/function/BiFunction;)I"⟩, prog_20_method_11_code, 3, (some .int), (15, 1, 21), (true, 3), (569, 134, 568, 0)),
  (⟨"java/lang/String", "checkIndex", "(II)V"⟩, prog_17_method_155_code, 2, none, (13, 2, 43), (true, 2), (564, 132, 563, 0)),
  (⟨"java/lang/StringLatin1", "charAt", "([BI)C"⟩, prog_18_method_2_code, 2, (some .char), (14, 3, 64), (true, 2), (561, 133, 560, 0)),
  (⟨"java/lang/String", "charAt", "(I)C"⟩, prog_17_method_56_code, 2, (some .char), (13, 4, 85), (false, 1), (554, 132, 552, 553)),
  (⟨"JobText", "isDigit", "(I)Z"⟩, prog_1_method_38_code, 1, (some .boolean), (11, 1, 21), (true, 1), (595, 120, 594, 0)),
  (⟨"JobText", "longerName", "(JI)J"⟩, prog_1_method_40_code, 3, (some .long), (11, 2, 41), (true, 2), (591, 120, 590, 0)),
  (⟨"JobText", "lowByte", "(JI)I"⟩, prog_1_method_35_code, 3, (some .int), (11, 1, 21), (true, 2), (741, 120, 740, 0)),
  (⟨"JobText", "isTextByte", "(I)Z"⟩, prog_1_method_36_code, 1, (some .boolean), (11, 1, 21), (true, 1), (744, 120, 743, 0)),
  (⟨"JobText$Bytes", "add", "(I)V"⟩, prog_2_method_4_code, 2, none, (0, 1, 21), (false, 1), (748, 121, 746, 747)),
  (⟨"JobText", "type", "(JI)I"⟩, prog_1_method_2_code, 5, (some .int), (11, 2, 43), (false, 2), (738, 120, 736, 737)),
  (⟨"JobText", "cut", "(I)I"⟩, prog_1_method_3_code, 2, (some .int), (11, 1, 21), (false, 1), (752, 120, 750, 751)),
  (⟨"JobText", "isFile", "(I)Z"⟩, prog_1_method_24_code, 1, (some .boolean), (11, 1, 21), (true, 1), (759, 120, 758, 0)),
  (⟨"JobText$Bytes", "clear", "()V"⟩, prog_2_method_2_code, 1, none, (0, 1, 21), (false, 0), (767, 121, 765, 766)),
  (⟨"JobText$Bytes", "at", "(I)I"⟩, prog_2_method_3_code, 2, (some .int), (0, 1, 21), (false, 1), (771, 121, 769, 770)),
  (⟨"JobText$Bytes", "become", "(LJobText$Bytes;II)V"⟩, prog_2_method_5_code, 5, none, (0, 2, 42), (false, 3), (763, 121, 761, 762)),
  (⟨"JobText", "file", "(I)I"⟩, prog_1_method_4_code, 2, (some .int), (11, 3, 66), (false, 1), (756, 120, 754, 755)),
  (⟨"JobText", "byteOf", "(II)I"⟩, prog_1_method_5_code, 3, (some .int), (11, 2, 42), (false, 2), (777, 120, 775, 776)),
  (⟨"JobText", "isJob", "(I)Z"⟩, prog_1_method_25_code, 1, (some .boolean), (11, 1, 21), (true, 1), (785, 120, 784, 0)),
  (⟨"JobText$Fault", "clear", "()V"⟩, prog_3_method_2_code, 1, none, (1, 1, 21), (false, 0), (789, 123, 787, 788)),
  (⟨"JobText$Job", "clear", "()V"⟩, prog_6_method_2_code, 1, none, (4, 1, 21), (false, 0), (797, 124, 795, 796)),
  (⟨"JobText$Words", "open", "(I)V"⟩, prog_12_method_3_code, 2, none, (10, 2, 41), (false, 1), (805, 131, 803, 804)),
  (⟨"JobText$Words", "begin", "(LJobText$Job;I)V"⟩, prog_12_method_2_code, 3, none, (10, 3, 62), (false, 2), (801, 131, 799, 800)),
  (⟨"JobText$Words", "here", "()I"⟩, prog_12_method_7_code, 1, (some .int), (10, 2, 42), (false, 0), (815, 131, 814, 0)),
  (⟨"JobText$Fault", "tell", "(III)V"⟩, prog_3_method_3_code, 4, none, (1, 1, 21), (false, 3), (824, 123, 822, 823)),
  (⟨"JobText$Job", "addComment", "(LJobText$Bytes;II)V"⟩, prog_6_method_5_code, 4, none, (4, 3, 66), (false, 3), (828, 124, 826, 827)),
  (⟨"JobText$Words", "meetComment", "()V"⟩, prog_12_method_9_code, 5, none, (10, 4, 89), (false, 0), (820, 131, 819, 1)),
  (⟨"JobText$Words", "skipToToken", "()V"⟩, prog_12_method_8_code, 3, none, (10, 5, 113), (false, 0), (811, 131, 809, 810)),
  (⟨"JobText", "isSmallLetter", "(I)Z"⟩, prog_1_method_37_code, 1, (some .boolean), (11, 1, 21), (true, 1), (836, 120, 835, 0)),
  (⟨"JobText", "isWordByte", "(I)Z"⟩, prog_1_method_39_code, 1, (some .boolean), (11, 2, 41), (true, 1), (843, 120, 842, 0)),
  (⟨"JobText$Words", "lookAtName", "()V"⟩, prog_12_method_10_code, 2, none, (10, 3, 63), (false, 0), (840, 131, 839, 2)),
  (⟨"JobText$Words", "lookAtNumber", "()V"⟩, prog_12_method_11_code, 4, none, (10, 3, 62), (false, 0), (849, 131, 848, 3)),
  (⟨"java/lang/StringLatin1", "canEncode", "(I)Z"⟩, prog_18_method_4_code, 1, (some .boolean), (14, 1, 21), (true, 1), (865, 133, 864, 0)),
  (⟨"java/lang/StringLatin1", "indexOfChar", "([BIII)I"⟩, prog_18_method_23_code, 6, (some .int), (14, 1, 21), (true, 4), (872, 133, 871, 0)),
  (⟨"java/lang/StringLatin1", "indexOf", "([BIII)I"⟩, prog_18_method_22_code, 4, (some .int), (14, 2, 46), (true, 4), (862, 133, 861, 0)),
  (⟨"java/lang/String", "indexOf", "(II)I"⟩, prog_17_method_80_code, 3, (some .int), (13, 3, 69), (false, 2), (858, 132, 856, 857)),
  (⟨"java/lang/String", "indexOf", "(I)I"⟩, prog_17_method_79_code, 2, (some .int), (13, 4, 91), (false, 1), (854, 132, 852, 853)),
  (⟨"JobText$Words", "look", "()V"⟩, prog_12_method_6_code, 3, none, (10, 5, 112), (false, 0), (833, 131, 831, 832)),
  (⟨"JobText$Reader", "tellHere", "(I)V"⟩, prog_11_method_4_code, 2, none, (9, 2, 44), (false, 1), (917, 130, 916, 5)),
  (⟨"JobText$Words", "close", "()V"⟩, prog_12_method_4_code, 1, none, (10, 1, 21), (false, 0), (926, 131, 924, 925)),
  (⟨"JobText$Reader", "beginStatement", "()V"⟩, prog_11_method_5_code, 1, none, (9, 2, 41), (false, 0), (922, 130, 921, 6)),
  (⟨"JobText$Words", "isOpen", "(I)Z"⟩, prog_12_method_5_code, 3, (some .boolean), (10, 1, 21), (false, 1), (935, 131, 933, 934)),
  (⟨"JobText$Reader", "goOnWithUse", "()V"⟩, prog_11_method_6_code, 1, none, (9, 3, 65), (false, 0), (930, 130, 929, 7)),
  (⟨"JobText$Pair", "begin", "(LJobText$Words;)V"⟩, prog_10_method_2_code, 2, none, (8, 1, 21), (false, 1), (948, 127, 946, 947)),
  (⟨"JobText$Job", "noteStatement", "(II)V"⟩, prog_6_method_4_code, 4, none, (4, 1, 21), (false, 2), (952, 124, 950, 951)),
  (⟨"JobText$Reader", "beginSet", "()V"⟩, prog_11_method_8_code, 2, none, (9, 3, 65), (false, 0), (944, 130, 943, 9)),
  (⟨"JobText$Pair", "tellSecond", "(LJobText$Words;)V"⟩, prog_10_method_3_code, 2, none, (8, 1, 21), (false, 1), (956, 127, 954, 955)),
  (⟨"JobText$Reader", "beginLoop", "()V"⟩, prog_11_method_9_code, 1, none, (9, 3, 65), (false, 0), (960, 130, 959, 10))]
def z_ms1 : List zM := [
  (⟨"JobText$Reader", "goOnWithLine", "()V"⟩, prog_11_method_7_code, 1, none, (9, 4, 86), (false, 0), (940, 130, 939, 8)),
  (⟨"JobText$Job", "find", "(J)I"⟩, prog_6_method_3_code, 4, (some .int), (4, 1, 21), (false, 1), (972, 124, 970, 971)),
  (⟨"JobText$Operator", "begin", "(LJobText$Words;)V"⟩, prog_9_method_2_code, 2, none, (7, 1, 21), (false, 1), (976, 125, 974, 975)),
  (⟨"JobText$Reader", "beginOperator", "()V"⟩, prog_11_method_11_code, 1, none, (9, 3, 65), (false, 0), (968, 130, 967, 12)),
  (⟨"JobText$Reader", "tellKind", "(I)V"⟩, prog_11_method_13_code, 2, none, (9, 1, 21), (false, 1), (980, 130, 979, 13)),
  (⟨"JobText$Reader", "kindOf", "(I)I"⟩, prog_11_method_12_code, 2, (some .int), (9, 1, 21), (true, 1), (985, 130, 984, 0)),
  (⟨"JobText$Operator", "addInput", "(LJobText$Words;)V"⟩, prog_9_method_3_code, 3, none, (7, 1, 21), (false, 1), (993, 125, 991, 992)),
  (⟨"JobText$Reader", "addInput", "()V"⟩, prog_11_method_14_code, 1, none, (9, 3, 65), (false, 0), (989, 130, 988, 14)),
  (⟨"JobText$Operator", "tellInputSide", "(LJobText$Words;)V"⟩, prog_9_method_4_code, 2, none, (7, 1, 21), (false, 1), (997, 125, 995, 996)),
  (⟨"JobText$Reader", "goOnWithOperator", "()V"⟩, prog_11_method_10_code, 1, none, (9, 4, 85), (false, 0), (964, 130, 963, 11)),
  (⟨"JobText$Reader", "boundedNumber", "(II)I"⟩, prog_11_method_18_code, 3, (some .int), (9, 3, 65), (false, 2), (1005, 130, 1004, 16)),
  (⟨"JobText$Operator", "sideOf", "(J)I"⟩, prog_9_method_5_code, 4, (some .int), (7, 1, 21), (false, 1), (1014, 125, 1012, 1013)),
  (⟨"JobText$Reader", "addSide", "()V"⟩, prog_11_method_19_code, 1, none, (9, 3, 65), (false, 0), (1010, 130, 1009, 17)),
  (⟨"JobText$Reader", "goOnWithProperty", "()V"⟩, prog_11_method_17_code, 1, none, (9, 4, 87), (false, 0), (1001, 130, 1000, 15)),
  (⟨"JobText$Reader", "propertyState", "(I)I"⟩, prog_11_method_16_code, 1, (some .int), (9, 1, 21), (true, 1), (1021, 130, 1020, 0)),
  (⟨"JobText$Reader", "goOnBehind", "()V"⟩, prog_11_method_15_code, 1, none, (9, 2, 41), (false, 0), (1018, 130, 1017, 18)),
  (⟨"JobText$Reader", "meetToken", "()V"⟩, prog_11_method_3_code, 2, none, (9, 5, 107), (false, 0), (911, 130, 910, 4)),
  (⟨"JobText$Reader", "readText", "(LJobText$Job;I)V"⟩, prog_11_method_2_code, 4, none, (9, 6, 135), (false, 2), (793, 130, 791, 792)),
  (⟨"JobText$Judge", "judgeInput", "(LJobText$Job;LJobText$Operator;LJobText$Input;)V"⟩, prog_7_method_4_code, 5, none, (5, 2, 44), (false, 3), (1033, 136, 1032, 20)),
  (⟨"JobText$Operator", "hasWrongInputCount", "()Z"⟩, prog_9_method_8_code, 1, (some .boolean), (7, 1, 21), (false, 0), (1040, 125, 1038, 1039)),
  (⟨"JobText$Judge", "judgeOperator", "(LJobText$Job;LJobText$Operator;)V"⟩, prog_7_method_3_code, 4, none, (5, 3, 68), (false, 2), (1029, 136, 1028, 19)),
  (⟨"JobText$Judge", "judgeLoop", "(LJobText$Job;LJobText$Pair;)V"⟩, prog_7_method_5_code, 3, none, (5, 2, 44), (false, 2), (1044, 136, 1043, 21)),
  (⟨"JobText$Judge", "comesFrom", "(II)Z"⟩, prog_7_method_7_code, 3, (some .boolean), (5, 1, 21), (false, 2), (1052, 136, 1051, 23)),
  (⟨"JobText$Judge", "findOrigins", "(LJobText$Job;)V"⟩, prog_7_method_6_code, 5, none, (5, 2, 43), (false, 1), (1048, 136, 1047, 22)),
  (⟨"JobText$Judge", "judgeCycles", "(LJobText$Job;)V"⟩, prog_7_method_8_code, 3, none, (5, 2, 44), (false, 1), (1056, 136, 1055, 24)),
  (⟨"JobText$Judge", "judgeLoopBack", "(LJobText$Pair;)V"⟩, prog_7_method_9_code, 4, none, (5, 2, 44), (false, 1), (1060, 136, 1059, 25)),
  (⟨"JobText$Layout", "inputsStand", "(LJobText$Operator;)Z"⟩, prog_8_method_5_code, 3, (some .boolean), (6, 1, 21), (false, 1), (1072, 128, 1071, 27)),
  (⟨"JobText$Layout", "firstReady", "(LJobText$Job;)I"⟩, prog_8_method_4_code, 3, (some .int), (6, 2, 43), (false, 1), (1068, 128, 1067, 26)),
  (⟨"JobText$Layout", "levelOf", "(LJobText$Operator;)I"⟩, prog_8_method_6_code, 4, (some .int), (6, 1, 21), (false, 1), (1076, 128, 1075, 28)),
  (⟨"JobText$Layout", "commonKey", "(LJobText$Operator;)J"⟩, prog_8_method_8_code, 5, (some .long), (6, 1, 21), (false, 1), (1085, 128, 1083, 1084)),
  (⟨"JobText$Layout", "keyOf", "(LJobText$Operator;)J"⟩, prog_8_method_7_code, 2, (some .long), (6, 2, 45), (false, 1), (1081, 128, 1080, 29)),
  (⟨"JobText$Layout", "arrange", "(LJobText$Job;)V"⟩, prog_8_method_3_code, 4, none, (6, 3, 66), (false, 1), (1064, 128, 1062, 1063)),
  (⟨"JobText$Operator", "wantsKeyedInputs", "()Z"⟩, prog_9_method_7_code, 1, (some .boolean), (7, 1, 21), (false, 0), (1093, 125, 1091, 1092)),
  (⟨"JobText$Judge", "judgeKeys", "(LJobText$Job;)V"⟩, prog_7_method_10_code, 4, none, (5, 2, 45), (false, 1), (1089, 136, 1088, 30)),
  (⟨"JobText$Judge", "judgeText", "(LJobText$Job;)V"⟩, prog_7_method_2_code, 3, none, (5, 4, 91), (false, 1), (1025, 136, 1023, 1024)),
  (⟨"JobText", "numberOf", "(J)I"⟩, prog_1_method_29_code, 4, (some .int), (11, 1, 21), (false, 1), (1102, 120, 1101, 32)),
  (⟨"JobText", "newNames", "(LJobText$Job;)I"⟩, prog_1_method_30_code, 4, (some .int), (11, 2, 44), (false, 1), (1098, 120, 1097, 31)),
  (⟨"JobText", "giveNumbers", "(LJobText$Job;)V"⟩, prog_1_method_31_code, 5, none, (11, 2, 44), (false, 1), (1106, 120, 1105, 33)),
  (⟨"JobText$Flow", "commonDivisor", "(JJ)J"⟩, prog_4_method_7_code, 11, (some .long), (2, 1, 21), (true, 2), (1125, 129, 1124, 0)),
  (⟨"JobText$Flow", "put", "(JJ)V"⟩, prog_4_method_3_code, 7, none, (2, 2, 51), (false, 2), (1122, 129, 1120, 1121)),
  (⟨"JobText$Layout", "flowOf", "(LJobText$Input;)LJobText$Flow;"⟩, prog_8_method_12_code, 2, (some (.object "JobText$Flow")), (6, 1, 21), (false, 1), (1130, 128, 1129, 36)),
  (⟨"JobText$Flow", "become", "(LJobText$Flow;)V"⟩, prog_4_method_2_code, 2, none, (2, 1, 21), (false, 1), (1134, 129, 1132, 1133)),
  (⟨"JobText$Flow", "lessen", "(LJobText$Flow;)V"⟩, prog_4_method_6_code, 2, none, (2, 2, 42), (false, 1), (1138, 129, 1136, 1137)),
  (⟨"JobText$Flow", "add", "(LJobText$Flow;)V"⟩, prog_4_method_5_code, 2, none, (2, 3, 77), (false, 1), (1143, 129, 1141, 1142)),
  (⟨"JobText$Layout", "findWhatComes", "(LJobText$Operator;)V"⟩, prog_8_method_11_code, 3, none, (6, 4, 98), (false, 1), (1118, 128, 1117, 35)),
  (⟨"JobText$Flow", "multiply", "(II)V"⟩, prog_4_method_4_code, 3, none, (2, 3, 77), (false, 2), (1148, 129, 1146, 1147)),
  (⟨"JobText$Layout", "reckonFlow", "(LJobText$Operator;I)V"⟩, prog_8_method_10_code, 5, none, (6, 5, 120), (false, 2), (1114, 128, 1113, 34)),
  (⟨"JobText$Layout", "countReaders", "(LJobText$Job;)V"⟩, prog_8_method_13_code, 6, none, (6, 1, 21), (false, 1), (1152, 128, 1151, 37)),
  (⟨"JobText$Operator", "parOrOne", "()I"⟩, prog_9_method_6_code, 1, (some .int), (7, 1, 21), (false, 0), (1164, 125, 1162, 1163)),
  (⟨"JobText$Layout", "isFused", "(LJobText$Job;LJobText$Operator;)Z"⟩, prog_8_method_15_code, 5, (some .boolean), (6, 2, 41), (false, 2), (1160, 128, 1159, 39))]
def z_ms2 : List zM := [
  (⟨"JobText$Layout", "findChains", "(LJobText$Job;)V"⟩, prog_8_method_14_code, 5, none, (6, 3, 65), (false, 1), (1156, 128, 1155, 38)),
  (⟨"JobText$Layout", "channelsBetween", "(LJobText$Job;II)I"⟩, prog_8_method_17_code, 6, (some .int), (6, 2, 41), (false, 3), (1172, 128, 1171, 41)),
  (⟨"JobText$Layout", "countChannels", "(LJobText$Job;)V"⟩, prog_8_method_16_code, 4, none, (6, 3, 66), (false, 1), (1168, 128, 1167, 40)),
  (⟨"JobText$Layout", "reckon", "(LJobText$Job;)V"⟩, prog_8_method_9_code, 4, none, (6, 6, 144), (false, 1), (1110, 128, 1108, 1109)),
  (⟨"JobText", "putJob", "(I)V"⟩, prog_1_method_28_code, 3, none, (11, 1, 21), (false, 1), (1176, 120, 1175, 42)),
  (⟨"JobText", "read", "(II)I"⟩, prog_1_method_6_code, 3, (some .int), (11, 7, 167), (false, 2), (782, 120, 780, 781)),
  (⟨"JobText", "drop", "(I)I"⟩, prog_1_method_7_code, 2, (some .int), (11, 2, 41), (false, 1), (1180, 120, 1178, 1179)),
  (⟨"JobText", "fault", "(I)I"⟩, prog_1_method_8_code, 2, (some .int), (11, 1, 21), (false, 1), (1184, 120, 1182, 1183)),
  (⟨"JobText", "refusal", "(III)I"⟩, prog_1_method_26_code, 4, (some .int), (11, 2, 41), (false, 3), (1192, 120, 1191, 43)),
  (⟨"JobText$Job", "howMany", "(I)I"⟩, prog_6_method_6_code, 2, (some .int), (4, 1, 21), (false, 1), (1196, 124, 1194, 1195)),
  (⟨"JobText", "count", "(II)I"⟩, prog_1_method_9_code, 4, (some .int), (11, 3, 64), (false, 2), (1188, 120, 1186, 1187)),
  (⟨"JobText", "operatorRefusal", "(IIII)I"⟩, prog_1_method_27_code, 6, (some .int), (11, 3, 64), (false, 4), (1204, 120, 1203, 44)),
  (⟨"JobText$Layout", "laid", "(II)I"⟩, prog_8_method_2_code, 3, (some .int), (6, 1, 21), (false, 2), (1208, 128, 1206, 1207)),
  (⟨"JobText$Operator", "told", "(I)I"⟩, prog_9_method_9_code, 2, (some .int), (7, 1, 21), (false, 1), (1212, 125, 1210, 1211)),
  (⟨"JobText", "operator", "(III)I"⟩, prog_1_method_10_code, 5, (some .int), (11, 4, 89), (false, 3), (1200, 120, 1198, 1199)),
  (⟨"JobText", "nameLength", "(J)I"⟩, prog_1_method_41_code, 5, (some .int), (11, 1, 21), (true, 1), (1222, 120, 1221, 0)),
  (⟨"JobText", "nameByteFromEnd", "(JI)I"⟩, prog_1_method_43_code, 6, (some .int), (11, 1, 21), (true, 2), (1225, 120, 1224, 0)),
  (⟨"JobText", "nameByte", "(JI)I"⟩, prog_1_method_42_code, 4, (some .int), (11, 2, 46), (true, 2), (1219, 120, 1218, 0)),
  (⟨"JobText", "letter", "(IIII)I"⟩, prog_1_method_11_code, 7, (some .int), (11, 4, 89), (false, 4), (1216, 120, 1214, 1215)),
  (⟨"JobText", "input", "(IIII)I"⟩, prog_1_method_12_code, 7, (some .int), (11, 4, 89), (false, 4), (1229, 120, 1227, 1228)),
  (⟨"JobText", "flow", "(III)I"⟩, prog_1_method_13_code, 7, (some .int), (11, 4, 89), (false, 3), (1233, 120, 1231, 1232)),
  (⟨"JobText", "set", "(III)I"⟩, prog_1_method_14_code, 6, (some .int), (11, 3, 64), (false, 3), (1237, 120, 1235, 1236)),
  (⟨"JobText", "setLetter", "(IIZI)I"⟩, prog_1_method_15_code, 7, (some .int), (11, 3, 69), (false, 4), (1241, 120, 1239, 1240)),
  (⟨"JobText", "loop", "(III)I"⟩, prog_1_method_16_code, 6, (some .int), (11, 3, 64), (false, 3), (1245, 120, 1243, 1244)),
  (⟨"JobText$Bytes", "addBytes", "(LJobText$Bytes;)V"⟩, prog_2_method_6_code, 3, none, (0, 2, 42), (false, 1), (1262, 121, 1260, 1261)),
  (⟨"JobText$Job", "printComment", "(LJobText$Bytes;I)V"⟩, prog_6_method_8_code, 3, none, (4, 3, 64), (false, 2), (1257, 124, 1256, 45)),
  (⟨"JobText$Bytes", "addText", "(Ljava/lang/String;)V"⟩, prog_2_method_7_code, 3, none, (0, 5, 106), (false, 1), (1276, 121, 1274, 1275)),
  (⟨"JobText$Bytes", "addName", "(J)V"⟩, prog_2_method_8_code, 4, none, (0, 2, 46), (false, 1), (1282, 121, 1280, 1281)),
  (⟨"JobText$Operator", "kindWord", "()Ljava/lang/String;"⟩, prog_9_method_14_code, 1, (some (.object "java/lang/String")), (7, 1, 21), (false, 0), (1289, 125, 1288, 47)),
  (⟨"JobText$Operator", "printInputs", "(LJobText$Bytes;)V"⟩, prog_9_method_15_code, 3, none, (7, 6, 128), (false, 1), (1302, 125, 1301, 48)),
  (⟨"JobText$Bytes", "addNumber", "(I)V"⟩, prog_2_method_9_code, 4, none, (0, 2, 42), (false, 1), (1312, 121, 1310, 1311)),
  (⟨"JobText$Operator", "printNumber", "(LJobText$Bytes;Ljava/lang/String;I)V"⟩, prog_9_method_16_code, 3, none, (7, 6, 128), (true, 3), (1308, 125, 1307, 0)),
  (⟨"JobText$Operator", "printSides", "(LJobText$Bytes;)V"⟩, prog_9_method_17_code, 3, none, (7, 6, 128), (false, 1), (1320, 125, 1319, 49)),
  (⟨"JobText$Operator", "printTo", "(LJobText$Bytes;)V"⟩, prog_9_method_13_code, 2, none, (7, 7, 150), (false, 1), (1270, 125, 1268, 1269)),
  (⟨"JobText$Pair", "printSetTo", "(LJobText$Bytes;)V"⟩, prog_10_method_4_code, 2, none, (8, 6, 128), (false, 1), (1326, 127, 1324, 1325)),
  (⟨"JobText$Pair", "printLoopTo", "(LJobText$Bytes;)V"⟩, prog_10_method_5_code, 2, none, (8, 6, 128), (false, 1), (1336, 127, 1334, 1335)),
  (⟨"JobText$Job", "printStatement", "(LJobText$Bytes;I)V"⟩, prog_6_method_9_code, 4, none, (4, 8, 171), (false, 2), (1266, 124, 1265, 46)),
  (⟨"JobText$Job", "printTo", "(LJobText$Bytes;)V"⟩, prog_6_method_7_code, 4, none, (4, 9, 194), (false, 1), (1253, 124, 1251, 1252)),
  (⟨"JobText", "print", "(I)I"⟩, prog_1_method_17_code, 3, (some .int), (11, 10, 217), (false, 1), (1249, 120, 1247, 1248)),
  (⟨"JobText", "out", "(I)I"⟩, prog_1_method_18_code, 2, (some .int), (11, 2, 42), (false, 1), (1342, 120, 1340, 1341)),
  (⟨"JobText", "take", "()I"⟩, prog_1_method_19_code, 1, (some .int), (11, 3, 66), (false, 0), (1346, 120, 1344, 1345)),
  (⟨"JobText", "addDifference", "(III)V"⟩, prog_1_method_34_code, 5, none, (11, 1, 21), (false, 3), (1360, 120, 1359, 51)),
  (⟨"JobText$Input", "isLike", "(LJobText$Input;)Z"⟩, prog_5_method_2_code, 2, (some .boolean), (3, 1, 21), (false, 1), (1372, 126, 1370, 1371)),
  (⟨"JobText$Operator", "hasInputsOf", "(LJobText$Operator;)Z"⟩, prog_9_method_11_code, 3, (some .boolean), (7, 2, 42), (false, 1), (1368, 125, 1367, 52)),
  (⟨"JobText$Operator", "hasSidesOf", "(LJobText$Operator;)Z"⟩, prog_9_method_12_code, 3, (some .boolean), (7, 1, 21), (false, 1), (1376, 125, 1375, 53)),
  (⟨"JobText$Operator", "differenceBits", "(LJobText$Operator;)I"⟩, prog_9_method_10_code, 3, (some .int), (7, 3, 64), (false, 1), (1364, 125, 1362, 1363)),
  (⟨"JobText", "compareFirst", "()V"⟩, prog_1_method_32_code, 5, none, (11, 4, 86), (false, 0), (1355, 120, 1354, 50)),
  (⟨"JobText", "findNew", "()V"⟩, prog_1_method_33_code, 2, none, (11, 2, 45), (false, 0), (1380, 120, 1379, 54)),
  (⟨"JobText", "differ", "()I"⟩, prog_1_method_20_code, 1, (some .int), (11, 5, 110), (false, 0), (1351, 120, 1349, 1350)),
  (⟨"JobText", "difference", "(II)I"⟩, prog_1_method_21_code, 3, (some .int), (11, 1, 21), (false, 2), (1384, 120, 1382, 1383))]
def z_ms3 : List zM := [
  (⟨"JobText", "numbers", "()I"⟩, prog_1_method_22_code, 1, (some .int), (11, 1, 21), (false, 0), (1388, 120, 1386, 1387)),
  (⟨"JobText", "numbered", "(II)I"⟩, prog_1_method_23_code, 3, (some .int), (11, 3, 69), (false, 2), (1392, 120, 1390, 1391)),
  (⟨"JobTextModel", "in", "(III)Z"⟩, prog_14_method_2_code, 3, (some .boolean), (12, 1, 21), (true, 3), (1652, 137, 1651, 0)),
  (⟨"JobTextModel", "type", "(JI)I"⟩, prog_14_method_3_code, 6, (some .int), (12, 2, 43), (false, 2), (1649, 137, 1647, 1648)),
  (⟨"JobTextModel", "cut", "(I)I"⟩, prog_14_method_4_code, 2, (some .int), (12, 2, 43), (false, 1), (1657, 137, 1655, 1656)),
  (⟨"JobTextModel", "file", "(I)I"⟩, prog_14_method_5_code, 3, (some .int), (12, 2, 43), (false, 1), (1661, 137, 1659, 1660)),
  (⟨"JobTextModel", "byteOf", "(II)I"⟩, prog_14_method_6_code, 3, (some .int), (12, 2, 43), (false, 2), (1665, 137, 1663, 1664)),
  (⟨"JobTextModel", "empty", "()V"⟩, prog_14_method_21_code, 1, none, (12, 1, 21), (false, 0), (1677, 137, 1676, 56)),
  (⟨"JobTextModel", "byteAt", "(I)I"⟩, prog_14_method_12_code, 2, (some .int), (12, 1, 21), (false, 1), (1693, 137, 1692, 60)),
  (⟨"JobTextModel", "keepComment", "(II)Z"⟩, prog_14_method_17_code, 7, (some .boolean), (12, 2, 42), (false, 2), (1697, 137, 1696, 61)),
  (⟨"JobTextModel", "wrong", "(III)Z"⟩, prog_14_method_11_code, 4, (some .boolean), (12, 1, 21), (false, 3), (1701, 137, 1700, 62)),
  (⟨"JobTextModel", "pass", "()Z"⟩, prog_14_method_16_code, 4, (some .boolean), (12, 3, 68), (false, 0), (1689, 137, 1688, 59)),
  (⟨"JobTextModel", "isLetter", "(I)Z"⟩, prog_14_method_7_code, 1, (some .boolean), (12, 2, 43), (true, 1), (1704, 137, 1703, 0)),
  (⟨"JobTextModel", "isDigit", "(I)Z"⟩, prog_14_method_8_code, 1, (some .boolean), (12, 2, 43), (true, 1), (1707, 137, 1706, 0)),
  (⟨"JobTextModel", "word", "(IIIIII)J"⟩, prog_14_method_14_code, 8, (some .long), (12, 1, 21), (true, 6), (1717, 137, 1716, 0)),
  (⟨"JobTextModel", "keyName", "(I)J"⟩, prog_14_method_15_code, 1, (some .long), (12, 2, 48), (true, 1), (1714, 137, 1713, 0)),
  (⟨"JobTextModel", "keyOf", "(J)I"⟩, prog_14_method_13_code, 3, (some .int), (12, 3, 68), (true, 1), (1711, 137, 1710, 0)),
  (⟨"JobTextModel", "look", "()Z"⟩, prog_14_method_18_code, 7, (some .boolean), (12, 4, 91), (false, 0), (1685, 137, 1684, 58)),
  (⟨"JobTextModel", "want", "(I)Z"⟩, prog_14_method_19_code, 2, (some .boolean), (12, 5, 117), (false, 1), (1681, 137, 1680, 57)),
  (⟨"JobTextModel", "bounded", "(II)Z"⟩, prog_14_method_20_code, 3, (some .boolean), (12, 2, 44), (false, 2), (1725, 137, 1724, 64)),
  (⟨"JobTextModel", "readUse", "()Z"⟩, prog_14_method_24_code, 5, (some .boolean), (12, 6, 138), (false, 0), (1721, 137, 1720, 63)),
  (⟨"JobTextModel", "begin", "(II)V"⟩, prog_14_method_22_code, 3, none, (12, 1, 21), (false, 2), (1733, 137, 1732, 66)),
  (⟨"JobTextModel", "readSet", "()Z"⟩, prog_14_method_25_code, 2, (some .boolean), (12, 6, 138), (false, 0), (1729, 137, 1728, 65)),
  (⟨"JobTextModel", "readLoop", "()Z"⟩, prog_14_method_26_code, 3, (some .boolean), (12, 6, 138), (false, 0), (1737, 137, 1736, 67)),
  (⟨"JobTextModel", "operatorOf", "(IJ)I"⟩, prog_14_method_23_code, 5, (some .int), (12, 1, 21), (false, 2), (1750, 137, 1749, 70)),
  (⟨"JobTextModel", "readName", "()Z"⟩, prog_14_method_27_code, 2, (some .boolean), (12, 6, 138), (false, 0), (1746, 137, 1745, 69)),
  (⟨"JobTextModel", "mayHave", "(I)I"⟩, prog_14_method_31_code, 2, (some .int), (12, 1, 21), (true, 1), (1757, 137, 1756, 0)),
  (⟨"JobTextModel", "readInputSide", "(I)Z"⟩, prog_14_method_29_code, 3, (some .boolean), (12, 6, 138), (false, 1), (1767, 137, 1766, 72)),
  (⟨"JobTextModel", "readInput", "(I)Z"⟩, prog_14_method_28_code, 3, (some .boolean), (12, 6, 138), (false, 1), (1771, 137, 1770, 73)),
  (⟨"JobTextModel", "readSide", "(I)Z"⟩, prog_14_method_30_code, 3, (some .boolean), (12, 6, 138), (false, 1), (1775, 137, 1774, 74)),
  (⟨"JobTextModel", "readNumber", "(II)Z"⟩, prog_14_method_32_code, 3, (some .boolean), (12, 6, 138), (false, 2), (1783, 137, 1782, 76)),
  (⟨"JobTextModel", "readProperty", "(II)Z"⟩, prog_14_method_33_code, 4, (some .boolean), (12, 7, 160), (false, 2), (1779, 137, 1778, 75)),
  (⟨"JobTextModel", "readRest", "(IZ)Z"⟩, prog_14_method_34_code, 9, (some .boolean), (12, 8, 183), (false, 2), (1754, 137, 1753, 71)),
  (⟨"JobTextModel", "readSource", "()Z"⟩, prog_14_method_35_code, 2, (some .boolean), (12, 9, 211), (false, 0), (1742, 137, 1741, 68)),
  (⟨"JobTextModel", "readOperator", "()Z"⟩, prog_14_method_36_code, 2, (some .boolean), (12, 9, 211), (false, 0), (1788, 137, 1787, 77)),
  (⟨"JobTextModel", "readText", "(I)Z"⟩, prog_14_method_37_code, 3, (some .boolean), (12, 10, 232), (false, 1), (1673, 137, 1672, 55)),
  (⟨"JobTextModel", "sideOf", "(IJ)I"⟩, prog_14_method_38_code, 5, (some .int), (12, 1, 21), (false, 2), (1805, 137, 1804, 81)),
  (⟨"JobTextModel", "judgeInput", "(I)Z"⟩, prog_14_method_39_code, 3, (some .boolean), (12, 2, 45), (false, 1), (1801, 137, 1800, 80)),
  (⟨"JobTextModel", "judgeOperators", "()Z"⟩, prog_14_method_40_code, 4, (some .boolean), (12, 3, 67), (false, 0), (1797, 137, 1796, 79)),
  (⟨"JobTextModel", "judgeLoops", "()Z"⟩, prog_14_method_41_code, 4, (some .boolean), (12, 2, 45), (false, 0), (1809, 137, 1808, 82)),
  (⟨"JobTextModel", "findComes", "()V"⟩, prog_14_method_42_code, 5, none, (12, 1, 21), (false, 0), (1817, 137, 1816, 84)),
  (⟨"JobTextModel", "judgeRings", "()Z"⟩, prog_14_method_43_code, 3, (some .boolean), (12, 2, 45), (false, 0), (1813, 137, 1812, 83)),
  (⟨"JobTextModel", "isReady", "(I)Z"⟩, prog_14_method_45_code, 4, (some .boolean), (12, 1, 21), (false, 1), (1825, 137, 1824, 86)),
  (⟨"JobTextModel", "layOut", "()V"⟩, prog_14_method_44_code, 7, none, (12, 2, 44), (false, 0), (1821, 137, 1820, 85)),
  (⟨"JobTextModel", "keyedAt", "(II)J"⟩, prog_14_method_46_code, 3, (some .long), (12, 1, 21), (false, 2), (1833, 137, 1832, 88)),
  (⟨"JobTextModel", "findKey", "(I)V"⟩, prog_14_method_47_code, 6, none, (12, 2, 43), (false, 1), (1837, 137, 1836, 89)),
  (⟨"JobTextModel", "judgeKeys", "()Z"⟩, prog_14_method_48_code, 5, (some .boolean), (12, 3, 68), (false, 0), (1829, 137, 1828, 87)),
  (⟨"JobTextModel", "big", "()V"⟩, prog_14_method_50_code, 1, none, (12, 1, 21), (false, 0), (1849, 137, 1848, 92)),
  (⟨"JobTextModel", "fraction", "(JJ)V"⟩, prog_14_method_49_code, 11, none, (12, 2, 41), (false, 2), (1854, 137, 1853, 93)),
  (⟨"JobTextModel", "comesTo", "(I)V"⟩, prog_14_method_52_code, 14, none, (12, 3, 71), (false, 1), (1845, 137, 1844, 91))]
def z_ms4 : List zM := [
  (⟨"JobTextModel", "findFlow", "(I)V"⟩, prog_14_method_51_code, 10, none, (12, 4, 104), (false, 1), (1841, 137, 1840, 90)),
  (⟨"JobTextModel", "parOf", "(I)I"⟩, prog_14_method_53_code, 2, (some .int), (12, 1, 21), (false, 1), (1867, 137, 1866, 96)),
  (⟨"JobTextModel", "readersOf", "(IIZ)I"⟩, prog_14_method_54_code, 7, (some .int), (12, 1, 21), (false, 3), (1871, 137, 1870, 97)),
  (⟨"JobTextModel", "findFused", "(I)V"⟩, prog_14_method_55_code, 5, none, (12, 2, 47), (false, 1), (1863, 137, 1862, 95)),
  (⟨"JobTextModel", "channelsOf", "(II)I"⟩, prog_14_method_56_code, 5, (some .int), (12, 2, 42), (false, 2), (1875, 137, 1874, 98)),
  (⟨"JobTextModel", "findChains", "()V"⟩, prog_14_method_57_code, 5, none, (12, 3, 71), (false, 0), (1859, 137, 1858, 94)),
  (⟨"JobTextModel", "judge", "()Z"⟩, prog_14_method_58_code, 2, (some .boolean), (12, 5, 133), (false, 0), (1793, 137, 1792, 78)),
  (⟨"JobTextModel", "numberOf", "(J)I"⟩, prog_14_method_59_code, 4, (some .int), (12, 1, 21), (false, 1), (1879, 137, 1878, 99)),
  (⟨"JobTextModel", "keepInputs", "(II)V"⟩, prog_14_method_60_code, 4, none, (12, 1, 21), (false, 2), (1891, 137, 1890, 102)),
  (⟨"JobTextModel", "keepOperator", "(II)V"⟩, prog_14_method_61_code, 3, none, (12, 2, 44), (false, 2), (1887, 137, 1886, 101)),
  (⟨"JobTextModel", "keep", "(I)V"⟩, prog_14_method_62_code, 3, none, (12, 3, 66), (false, 1), (1883, 137, 1882, 100)),
  (⟨"JobTextModel", "read", "(II)I"⟩, prog_14_method_63_code, 5, (some .int), (12, 11, 254), (false, 2), (1669, 137, 1667, 1668)),
  (⟨"JobTextModel", "against", "(IZ)I"⟩, prog_14_method_64_code, 3, (some .int), (12, 2, 43), (false, 2), (1899, 137, 1898, 103)),
  (⟨"JobTextModel", "drop", "(I)I"⟩, prog_14_method_67_code, 3, (some .int), (12, 3, 65), (false, 1), (1895, 137, 1893, 1894)),
  (⟨"JobTextModel", "fault", "(I)I"⟩, prog_14_method_68_code, 2, (some .int), (12, 1, 21), (false, 1), (1903, 137, 1901, 1902)),
  (⟨"JobTextModel", "count", "(II)I"⟩, prog_14_method_69_code, 6, (some .int), (12, 3, 65), (false, 2), (1907, 137, 1905, 1906)),
  (⟨"JobTextModel", "countOf", "([II)I"⟩, prog_14_method_66_code, 3, (some .int), (12, 2, 43), (false, 2), (1915, 137, 1914, 104)),
  (⟨"JobTextModel", "againstOne", "(IZII)I"⟩, prog_14_method_65_code, 6, (some .int), (12, 3, 65), (false, 4), (1919, 137, 1918, 105)),
  (⟨"JobTextModel", "operator", "(III)I"⟩, prog_14_method_70_code, 6, (some .int), (12, 4, 90), (false, 3), (1911, 137, 1909, 1910)),
  (⟨"JobTextModel", "lengthOf", "(J)I"⟩, prog_14_method_9_code, 5, (some .int), (12, 1, 21), (true, 1), (1929, 137, 1928, 0)),
  (⟨"JobTextModel", "letterAt", "(JI)I"⟩, prog_14_method_10_code, 7, (some .int), (12, 2, 45), (true, 2), (1926, 137, 1925, 0)),
  (⟨"JobTextModel", "letter", "(IIII)I"⟩, prog_14_method_71_code, 9, (some .int), (12, 4, 90), (false, 4), (1923, 137, 1921, 1922)),
  (⟨"JobTextModel", "input", "(IIII)I"⟩, prog_14_method_72_code, 7, (some .int), (12, 4, 90), (false, 4), (1933, 137, 1931, 1932)),
  (⟨"JobTextModel", "flow", "(III)I"⟩, prog_14_method_73_code, 6, (some .int), (12, 4, 90), (false, 3), (1937, 137, 1935, 1936)),
  (⟨"JobTextModel", "set", "(III)I"⟩, prog_14_method_74_code, 6, (some .int), (12, 4, 90), (false, 3), (1941, 137, 1939, 1940)),
  (⟨"JobTextModel", "setLetter", "(IIZI)I"⟩, prog_14_method_75_code, 6, (some .int), (12, 4, 90), (false, 4), (1945, 137, 1943, 1944)),
  (⟨"JobTextModel", "loop", "(III)I"⟩, prog_14_method_76_code, 5, (some .int), (12, 4, 90), (false, 3), (1949, 137, 1947, 1948)),
  (⟨"JobTextModel", "put", "(I)V"⟩, prog_14_method_77_code, 2, none, (12, 1, 21), (false, 1), (1961, 137, 1960, 107)),
  (⟨"JobTextModel", "putComments", "(II)V"⟩, prog_14_method_85_code, 5, none, (12, 2, 42), (false, 2), (1957, 137, 1956, 106)),
  (⟨"JobTextModel", "putName", "(J)V"⟩, prog_14_method_78_code, 5, none, (12, 3, 71), (false, 1), (1977, 137, 1976, 111)),
  (⟨"JobTextModel", "putKey", "(I)V"⟩, prog_14_method_80_code, 2, none, (12, 4, 95), (false, 1), (1973, 137, 1972, 110)),
  (⟨"JobTextModel", "putNumber", "(I)V"⟩, prog_14_method_79_code, 4, none, (12, 2, 42), (false, 1), (1989, 137, 1988, 114)),
  (⟨"JobTextModel", "putNumberProperty", "(II)V"⟩, prog_14_method_81_code, 3, none, (12, 5, 116), (false, 2), (1985, 137, 1984, 113)),
  (⟨"JobTextModel", "putProperties", "(I)V"⟩, prog_14_method_83_code, 3, none, (12, 6, 138), (false, 1), (1981, 137, 1980, 112)),
  (⟨"JobTextModel", "putOperator", "(I)V"⟩, prog_14_method_82_code, 3, none, (12, 7, 160), (false, 1), (1969, 137, 1968, 109)),
  (⟨"JobTextModel", "putStatement", "(II)V"⟩, prog_14_method_84_code, 5, none, (12, 8, 182), (false, 2), (1965, 137, 1964, 108)),
  (⟨"JobTextModel", "print", "(I)I"⟩, prog_14_method_86_code, 4, (some .int), (12, 9, 206), (false, 1), (1953, 137, 1951, 1952)),
  (⟨"JobTextModel", "out", "(I)I"⟩, prog_14_method_87_code, 2, (some .int), (12, 2, 43), (false, 1), (1993, 137, 1991, 1992)),
  (⟨"JobTextModel", "take", "()I"⟩, prog_14_method_88_code, 2, (some .int), (12, 1, 21), (false, 0), (1997, 137, 1995, 1996)),
  (⟨"JobTextModel", "haveLikeInputs", "(II)Z"⟩, prog_14_method_90_code, 5, (some .boolean), (12, 1, 21), (false, 2), (2009, 137, 2008, 116)),
  (⟨"JobTextModel", "haveLikeSides", "(II)Z"⟩, prog_14_method_91_code, 5, (some .boolean), (12, 1, 21), (false, 2), (2013, 137, 2012, 117)),
  (⟨"JobTextModel", "bitsOf", "(II)I"⟩, prog_14_method_92_code, 4, (some .int), (12, 2, 45), (false, 2), (2005, 137, 2004, 115)),
  (⟨"JobTextModel", "note", "(III)V"⟩, prog_14_method_89_code, 4, none, (12, 1, 21), (false, 3), (2017, 137, 2016, 118)),
  (⟨"JobTextModel", "differ", "()I"⟩, prog_14_method_93_code, 4, (some .int), (12, 3, 68), (false, 0), (2001, 137, 1999, 2000)),
  (⟨"JobTextModel", "difference", "(II)I"⟩, prog_14_method_94_code, 3, (some .int), (12, 2, 43), (false, 2), (2021, 137, 2019, 2020)),
  (⟨"JobTextModel", "numbers", "()I"⟩, prog_14_method_95_code, 1, (some .int), (12, 1, 21), (false, 0), (2025, 137, 2023, 2024)),
  (⟨"JobTextModel", "numbered", "(II)I"⟩, prog_14_method_96_code, 3, (some .int), (12, 3, 71), (false, 2), (2029, 137, 2027, 2028))]
def z_ms : List zM := z_ms0 ++ z_ms1 ++ z_ms2 ++ z_ms3 ++ z_ms4
def z_m (y : Nat) : zM := z_ms.getD y (⟨"", "", ""⟩, ⟨#[]⟩, 0, none, (0, 0, 0), (false, 0), (0, 0, 0, 0))
def z_fls : List (List (Nat × Nat × Nat)) := [[(15, 10242, 157), (21, 10248, 158)], [(18, 11264, 174), (9, 11272, 179), (15, 11280, 181), (21, 11288, 183)], [(7, 12289, 392), (13, 12297, 394), (16, 12309, 396)], [(7, 13313, 216), (13, 13329, 221)], [(100, 10248, 160), (70, 17409, 248), (87, 16472, 422), (78, 16480, 423), (81, 16488, 425), (84, 16496, 427), (11, 14346, 462), (54, 14352, 467), (20, 14362, 472), (58, 14368, 475), (25, 14378, 478), (61, 14384, 483), (30, 14394, 488), (37, 14402, 489), (64, 14408, 490), (41, 14418, 492), (44, 14426, 493), (67, 14432, 494), (50, 14442, 496)], [(25, 11264, 175), (99, 13313, 218), (112, 13320, 220), (115, 13329, 223), (124, 13336, 225), (109, 13344, 227), (121, 13352, 231), (127, 17416, 251), (77, 17474, 271), (72, 17480, 275), (89, 17512, 288), (155, 17520, 290), (92, 17528, 292), (130, 18433, 336), (138, 18441, 340), (144, 18456, 345), (145, 18464, 348), (148, 18472, 351), (135, 18480, 353), (141, 18488, 357), (156, 16386, 407), (30, 14346, 463), (19, 14352, 468), (41, 14378, 479), (38, 14384, 484), (60, 14442, 497), (9, 15362, 691), (15, 15370, 692)], [(96, 13344, 228), (160, 13352, 232), (105, 17416, 252), (143, 17432, 257), (136, 17440, 260), (133, 17448, 263), (101, 17457, 266), (92, 17474, 272), (87, 17480, 276), (170, 18480, 354), (196, 18488, 359), (9, 16386, 406), (15, 16394, 408), (18, 16402, 409), (21, 16410, 410), (27, 16418, 412), (31, 16426, 414), (35, 16434, 416), (39, 16442, 417), (42, 16450, 418), (45, 16458, 419), (49, 16466, 420), (52, 16472, 421), (175, 16480, 424), (178, 16488, 426), (189, 16496, 428), (65, 14346, 464), (56, 14352, 469), (166, 14378, 481), (163, 14384, 486)], [(71, 13313, 217), (72, 13320, 219), (73, 13329, 222), (76, 13336, 224), (79, 13344, 226), (82, 13352, 230), (28, 17409, 247), (41, 17416, 250), (44, 17424, 254), (47, 17432, 256), (50, 17440, 259), (53, 17448, 262), (56, 17457, 265), (59, 17464, 268), (11, 17474, 270), (62, 17480, 274), (18, 17490, 279), (65, 17496, 282), (68, 17504, 285), (33, 17512, 287), (37, 17520, 289), (38, 17528, 291), (29, 20552, 609), (34, 20560, 613), (22, 20577, 620)], [(15, 18433, 335), (31, 18441, 339), (34, 18448, 342), (24, 18456, 344), (28, 18464, 347), (37, 18472, 350), (40, 18480, 352), (43, 18488, 356), (46, 20544, 605), (20, 20552, 608), (25, 20560, 612), (49, 20568, 616), (9, 20577, 619)], [(62, 11264, 176), (90, 11288, 184), (213, 17416, 253), (231, 17424, 255), (235, 17432, 258), (238, 17440, 261), (241, 17448, 264), (244, 17457, 267), (247, 17464, 269), (219, 17480, 278), (259, 17490, 281), (253, 17496, 284), (192, 17528, 293), (163, 18433, 337), (208, 14346, 466), (201, 14352, 471), (159, 14362, 473), (156, 14368, 476), (179, 14378, 480), (176, 14384, 485), (124, 14432, 495), (59, 20528, 603), (83, 20544, 606), (111, 20552, 611), (114, 20560, 614), (127, 20568, 617), (167, 20577, 621), (14, 19458, 654), (20, 19466, 655), (24, 19475, 656), (51, 19480, 657), (47, 19488, 658), (133, 19496, 659), (130, 19504, 660), (31, 19515, 661), (38, 19523, 662), (80, 19528, 663)], [(108, 10248, 161), (100, 11264, 178), (111, 14408, 491), (30, 20482, 596), (9, 20490, 597), (15, 20498, 598), (19, 20507, 599), (23, 20514, 600), (27, 20522, 601), (50, 20528, 602), (62, 20536, 604), (74, 20544, 607), (65, 20552, 610), (68, 20560, 615), (131, 20568, 618), (124, 20577, 622)], [(77, 10248, 159), (106, 11264, 177), (142, 11272, 180), (145, 11280, 182), (148, 11288, 185), (198, 13344, 229), (203, 13352, 233), (175, 17409, 249), (194, 17474, 273), (191, 17480, 277), (188, 17490, 280), (185, 17496, 283), (280, 17504, 286), (243, 18433, 338), (231, 18441, 341), (236, 18448, 343), (239, 18456, 346), (240, 18464, 349), (252, 18480, 355), (255, 18488, 358), (218, 12289, 393), (221, 12297, 395), (213, 12309, 397), (182, 16410, 411), (206, 16418, 413), (210, 16426, 415), (138, 14341, 461), (166, 14346, 465), (135, 14352, 470), (227, 14362, 474), (224, 14368, 477), (249, 14378, 482), (246, 14384, 487), (123, 14442, 498), (17, 21506, 698), (21, 21514, 699), (25, 21522, 700), (30, 21530, 701), (35, 21539, 702), (39, 21546, 703), (48, 21554, 704), (57, 21562, 705), (61, 21570, 706), (113, 21576, 707), (65, 21586, 708), (267, 21592, 709)], [(7, 22530, 1399), (220, 22536, 1400), (13, 22546, 1401), (16, 22554, 1402), (264, 22560, 1403), (274, 22569, 1404), (281, 22576, 1405), (258, 22584, 1406), (261, 22592, 1407), (232, 22600, 1408), (19, 22610, 1409), (22, 22618, 1410), (229, 22624, 1411), (25, 22632, 1412), (29, 22640, 1413), (287, 22648, 1414), (32, 22658, 1415), (36, 22666, 1416), (39, 22674, 1417), (42, 22682, 1418), (45, 22690, 1419), (48, 22698, 1420), (290, 22704, 1421), (51, 22714, 1422), (55, 22722, 1423), (58, 22730, 1424), (61, 22738, 1425), (64, 22746, 1426), (67, 22754, 1427), (70, 22762, 1428), (73, 22770, 1429), (76, 22778, 1430), (79, 22786, 1431), (82, 22794, 1432), (85, 22802, 1433), (88, 22810, 1434), (91, 22818, 1435), (94, 22826, 1436), (97, 22834, 1437), (100, 22842, 1438), (103, 22850, 1439), (106, 22858, 1440), (109, 22866, 1441), (112, 22874, 1442), (115, 22882, 1443), (118, 22890, 1444), (121, 22898, 1445), (124, 22906, 1446), (127, 22914, 1447), (130, 22922, 1448), (133, 22930, 1449), (136, 22938, 1450), (139, 22946, 1451), (142, 22954, 1452), (145, 22962, 1453), (148, 22970, 1454), (151, 22978, 1455), (154, 22986, 1456), (157, 22994, 1457), (160, 23002, 1458), (163, 23010, 1459), (166, 23018, 1460), (169, 23026, 1461), (172, 23034, 1462), (175, 23042, 1463), (178, 23050, 1464), (181, 23058, 1465), (184, 23066, 1466), (187, 23074, 1467), (190, 23082, 1468), (193, 23090, 1469), (196, 23098, 1470), (199, 23106, 1471), (202, 23114, 1472), (379, 23121, 1473), (382, 23129, 1474), (434, 23136, 1475), (205, 23146, 1476), (208, 23154, 1477), (471, 23160, 1478), (502, 23168, 1479), (211, 23178, 1480)], [(9, 4, 2031), (15, 14, 2032)], [], [], []]
def z_mls : List (List (Nat × Nat × Nat × Nat)) := [[(9, 0, 3, 154), (25, 15, 0, 764), (28, 16, 0, 768), (32, 11, 0, 772), (36, 1, 0, 1277), (42, 6, 0, 1278), (46, 115, 2, 1283), (50, 116, 2, 1284)], [], [(20, 88, 1, 1123), (30, 91, 0, 1139), (26, 89, 0, 1144)], [], [(74, 17, 0, 829), (90, 125, 0, 1254), (97, 11, 0, 1258), (103, 124, 0, 1259), (94, 136, 0, 1263), (107, 133, 0, 1267), (110, 134, 0, 1323), (113, 135, 0, 1333)], [(34, 70, 0, 1026), (81, 68, 0, 1030), (105, 51, 0, 1034), (95, 26, 0, 1035), (118, 61, 0, 1036), (85, 69, 0, 1037), (45, 71, 0, 1041), (49, 73, 0, 1045), (151, 72, 0, 1049), (53, 74, 0, 1053), (56, 75, 0, 1057), (64, 81, 0, 1061), (69, 83, 0, 1086), (160, 82, 0, 1090), (163, 79, 0, 1094)], [(61, 77, 0, 1065), (83, 76, 0, 1069), (69, 78, 0, 1073), (73, 0, 3, 1077), (79, 80, 0, 1078), (108, 79, 0, 1082), (111, 96, 0, 1111), (125, 94, 0, 1115), (146, 89, 0, 1119), (150, 90, 0, 1127), (129, 91, 0, 1131), (154, 92, 0, 1135), (157, 93, 0, 1140), (139, 95, 0, 1145), (115, 97, 0, 1149), (119, 100, 0, 1153), (181, 99, 0, 1157), (185, 98, 0, 1161), (122, 102, 0, 1165), (192, 101, 0, 1169)], [(100, 126, 0, 1273), (106, 127, 0, 1279), (112, 128, 0, 1286), (118, 129, 0, 1299), (136, 11, 0, 1304), (124, 131, 1, 1306), (132, 130, 0, 1309), (143, 132, 0, 1317), (85, 143, 0, 1365), (92, 142, 0, 1369), (89, 144, 0, 1373)], [(54, 126, 0, 1328), (60, 127, 0, 1329), (66, 130, 0, 1331)], [(42, 22, 0, 794), (54, 24, 0, 798), (67, 29, 0, 808), (70, 39, 0, 830), (73, 66, 0, 908), (86, 40, 0, 914), (117, 26, 0, 918), (93, 42, 0, 919), (121, 41, 0, 923), (96, 44, 0, 927), (136, 14, 2, 931), (140, 43, 0, 932), (143, 23, 0, 936), (99, 50, 0, 937), (146, 47, 0, 941), (170, 45, 0, 945), (172, 46, 0, 949), (149, 48, 0, 953), (153, 49, 0, 957), (102, 59, 0, 961), (182, 53, 0, 965), (204, 51, 0, 969), (212, 52, 0, 973), (185, 54, 0, 977), (188, 55, 1, 983), (195, 57, 0, 986), (222, 56, 0, 990), (198, 58, 0, 994), (105, 63, 0, 998), (227, 60, 0, 1002), (250, 62, 0, 1007), (256, 61, 0, 1011), (108, 65, 0, 1015), (224, 64, 1, 1019)], [(36, 1, 0, 541), (42, 6, 0, 551), (46, 8, 2, 589), (54, 23, 0, 802), (58, 14, 2, 806), (71, 25, 0, 812), (95, 16, 0, 816), (105, 28, 0, 817), (116, 26, 0, 821), (120, 27, 0, 825), (77, 30, 2, 834), (80, 32, 0, 837), (128, 31, 2, 841), (83, 7, 2, 845), (86, 33, 0, 846), (91, 38, 0, 851)], [(295, 7, 1, 593), (69, 9, 1, 739), (73, 10, 1, 742), (81, 11, 0, 745), (84, 14, 1, 757), (87, 17, 0, 760), (91, 15, 0, 773), (94, 16, 0, 778), (98, 20, 1, 783), (101, 21, 0, 786), (102, 67, 0, 790), (292, 30, 1, 844), (109, 84, 0, 1022), (116, 86, 0, 1095), (276, 85, 0, 1099), (120, 87, 0, 1103), (127, 103, 0, 1107), (132, 104, 0, 1173), (151, 108, 0, 1189), (155, 109, 0, 1193), (158, 111, 0, 1201), (162, 112, 0, 1205), (170, 113, 0, 1209), (179, 117, 1, 1217), (300, 115, 1, 1220), (303, 116, 1, 1223), (258, 137, 0, 1250), (262, 0, 4, 1347), (270, 146, 0, 1352), (281, 51, 0, 1356), (284, 141, 0, 1357), (288, 145, 0, 1361), (273, 147, 0, 1377)], [(214, 152, 1, 1650), (443, 185, 0, 1670), (341, 157, 0, 1674), (293, 168, 0, 1678), (284, 167, 0, 1682), (254, 161, 0, 1686), (243, 158, 0, 1690), (247, 159, 0, 1694), (251, 160, 0, 1698), (267, 162, 1, 1702), (271, 163, 1, 1705), (278, 166, 1, 1709), (235, 165, 1, 1712), (239, 164, 1, 1715), (344, 170, 0, 1718), (296, 169, 0, 1722), (347, 172, 0, 1726), (299, 171, 0, 1730), (350, 173, 0, 1734), (353, 183, 0, 1739), (333, 175, 0, 1743), (304, 174, 0, 1747), (336, 182, 0, 1751), (321, 176, 1, 1755), (324, 177, 0, 1764), (327, 178, 0, 1768), (318, 179, 0, 1772), (330, 181, 0, 1776), (314, 180, 0, 1780), (356, 184, 0, 1785), (446, 206, 0, 1790), (413, 188, 0, 1794), (362, 187, 0, 1798), (359, 186, 0, 1802), (416, 189, 0, 1806), (419, 191, 0, 1810), (365, 190, 0, 1814), (422, 193, 0, 1818), (368, 192, 0, 1822), (425, 196, 0, 1826), (371, 194, 0, 1830), (375, 195, 0, 1834), (428, 200, 0, 1838), (392, 199, 0, 1842), (387, 197, 0, 1846), (395, 198, 0, 1851), (431, 205, 0, 1856), (406, 203, 0, 1860), (399, 201, 0, 1864), (402, 202, 0, 1868), (409, 204, 0, 1872), (449, 207, 0, 1876), (452, 210, 0, 1880), (440, 209, 0, 1884), (437, 208, 0, 1888), (455, 212, 0, 1896), (459, 216, 0, 1912), (463, 217, 0, 1916), (467, 220, 1, 1924), (225, 219, 1, 1927), (496, 228, 0, 1954), (474, 227, 0, 1958), (499, 235, 0, 1962), (493, 234, 0, 1966), (481, 230, 0, 1970), (477, 229, 0, 1974), (487, 233, 0, 1978), (490, 232, 0, 1982), (484, 231, 0, 1986), (511, 241, 0, 2002), (505, 239, 0, 2006), (508, 240, 0, 2010), (514, 242, 0, 2014)], [(335, 0, 0, 545), (492, 2, 0, 555), (495, 5, 1, 559), (1059, 3, 1, 567), (633, 37, 0, 855), (505, 1, 0, 859), (637, 36, 1, 860)], [(9, 4, 1, 562), (88, 34, 1, 863), (92, 0, 3, 866), (38, 0, 4, 867), (95, 35, 1, 870)], [], []]
def z_kls : List (List (Nat × Int × Nat)) := [[], [], [], [], [], [], [], [], [], [(58, 37231, 807), (234, 99999, 1006)], [], [], [(303, 32768, 1738), (308, 65536, 1758), (309, 131072, 1759), (310, 524288, 1760), (311, 262144, 1761), (312, 1048576, 1762), (313, 2097152, 1763), (317, 99999, 1784), (340, 1069547520, 1789)], [], [], [], []]
def z_lls : List (List (Nat × Int × Nat)) := [[], [], [(24, 1000000000, 1126)], [], [], [], [], [], [], [], [], [(298, 37, 592)], [(218, 255, 1653), (223, 37, 1708), (390, -5, 1850), (385, 1000000000, 1855)], [], [], [], []]
def z_sls : List (List (Nat × Nat × String)) := [[], [], [], [], [], [], [], [(96, 2, "source "), (98, 3, "op "), (110, 4, ": "), (148, 5, "map"), (150, 6, "filter"), (152, 7, "flat"), (154, 8, "span"), (156, 9, "join"), (158, 10, "union"), (160, 11, "fold"), (162, 12, "sink"), (116, 13, " from "), (164, 14, ", "), (122, 15, " par "), (128, 16, " rate "), (130, 17, " pass "), (139, 18, " key "), (141, 19, " keep "), (166, 20, " side "), (146, 21, ";\n")], [(52, 22, "set "), (64, 23, " = "), (70, 21, ";\n"), (72, 24, "loop "), (74, 25, " to ")], [], [(34, 0, "use set source op loop from to par rate pass key keep side map filter flat span join union fold sink"), (89, 1, ";,:.=/")], [], [], [], [], [], []]
def z_gls : List (List (Nat × Nat × Nat)) := [[], [], [], [], [], [], [], [], [], [(76, 2, 912), (216, 3, 981)], [], [], [], [(38, 0, 549), (1053, 1, 565)], [], [], []]
