/-! TABLES, written by wip/whole/gen/tables.py out of the Statement and javap's listing: classes, methods, links by pool number -/
def mj_cns : List String := ["ProofLinesLaw", "ProofLines", "ProofLines$Line", "ProofLines$Proof", "ProofLines$Reader", "ProofLinesModel", "java/lang/Long", "java/lang/Math"]
def mj_T0 : u_T := fun k => match k with
  | 0 => ("ProofLines$Line", "codes", "[I", true)
  | 1 => ("ProofLines$Line", "size", "I", false)
  | 2 => ("ProofLines$Line", "sort", "I", false)
  | 3 => ("ProofLines$Line", "trues", "J", false)
  | _ => ("ProofLines$Line", "falses", "J", false)
def mj_T1 : u_T := fun k => match k with
  | 0 => ("ProofLines$Proof", "things", "I", true)
  | 1 => ("ProofLines$Proof", "rows", "[LProofLines$Line;", true)
  | 2 => ("ProofLines$Proof", "right", "[Z", true)
  | _ => ("ProofLines$Proof", "count", "I", false)
def mj_T2 : u_T := fun k => match k with
  | 0 => ("ProofLines$Reader", "things", "I", true)
  | 1 => ("ProofLines$Reader", "units", "[I", true)
  | 2 => ("ProofLines$Reader", "size", "I", false)
  | _ => ("ProofLines$Reader", "place", "I", false)
def mj_T3 : u_T := fun k => match k with
  | 0 => ("ProofLines", "things", "I", true)
  | 1 => ("ProofLines", "collected", "LProofLines$Line;", true)
  | 2 => ("ProofLines", "reader", "LProofLines$Reader;", true)
  | 3 => ("ProofLines", "proof", "LProofLines$Proof;", false)
  | _ => ("ProofLines", "spare", "LProofLines$Proof;", false)
def mj_T4 : u_T := fun k => match k with
  | 0 => ("ProofLinesModel", "things", "I", true)
  | 1 => ("ProofLinesModel", "kind", "[I", true)
  | 2 => ("ProofLinesModel", "many", "[I", true)
  | 3 => ("ProofLinesModel", "literal", "[I", true)
  | 4 => ("ProofLinesModel", "lines", "I", false)
  | 5 => ("ProofLinesModel", "collected", "[I", true)
  | 6 => ("ProofLinesModel", "collectedMany", "I", false)
  | 7 => ("ProofLinesModel", "unread", "[I", true)
  | 8 => ("ProofLinesModel", "unreadLong", "I", false)
  | 9 => ("ProofLinesModel", "at", "I", false)
  | 10 => ("ProofLinesModel", "bad", "I", false)
  | 11 => ("ProofLinesModel", "thrown", "I", false)
  | 12 => ("ProofLinesModel", "holds", "[Z", true)
  | _ => ("ProofLinesModel", "rightThen", "[Z", true)
def mj_cl : List vw_C := [("ProofLines$Line", mj_T0, 5), ("ProofLines$Proof", mj_T1, 4), ("ProofLines$Reader", mj_T2, 4), ("ProofLines", mj_T3, 5), ("ProofLinesModel", mj_T4, 14)]
def mj_tyl : List (List FieldType) := [[(.array .int), .int, .int, .long, .long], [.int, (.array (.object "ProofLines$Line")), (.array .boolean), .int], [.int, (.array .int), .int, .int], [.int, (.object "ProofLines$Line"), (.object "ProofLines$Reader"), (.object "ProofLines$Proof"), (.object "ProofLines$Proof")], [.int, (.array .int), (.array .int), (.array .int), .int, (.array .int), .int, (.array .int), .int, .int, .int, .int, (.array .boolean), (.array .boolean)]]
def mj_at : List FieldType := [.int, .boolean, (.object "ProofLines$Line")]
abbrev mj_ti : Nat := 0
abbrev mj_tz : Nat := 1
abbrev mj_tl : Nat := 98
abbrev mj_Mrow : Type := MethodName × ByteArray × Nat × Option FieldType × Nat × Nat × Nat × Nat × Nat
def mj_m0 : mj_Mrow := (⟨"", "", ""⟩, ⟨#[]⟩, 0, none, 0, 0, 0, 0, 0)
def mj_mt0 : List mj_Mrow := [(⟨"java/lang/Long", "bitCount", "(J)I"⟩, prog_7_method_50_code, 2, (some .int), 6, 0, 0, 1, 0),
  (⟨"java/lang/Math", "max", "(II)I"⟩, prog_8_method_65_code, 2, (some .int), 7, 0, 0, 2, 0),
  (⟨"java/lang/Math", "min", "(II)I"⟩, prog_8_method_69_code, 2, (some .int), 7, 0, 0, 2, 0),
  (⟨"ProofLines", "<init>", "(I)V"⟩, prog_1_method_1_code, 2, none, 1, 3, 62, 1, 3),
  (⟨"ProofLines", "given", "()I"⟩, prog_1_method_2_code, 1, (some .int), 1, 2, 43, 0, 3),
  (⟨"ProofLines", "literal", "(IIZ)Z"⟩, prog_1_method_3_code, 5, (some .boolean), 1, 4, 83, 3, 3),
  (⟨"ProofLines", "collect", "(IZ)Z"⟩, prog_1_method_4_code, 3, (some .boolean), 1, 4, 83, 2, 3),
  (⟨"ProofLines", "learn", "()I"⟩, prog_1_method_5_code, 2, (some .int), 1, 5, 107, 0, 3),
  (⟨"ProofLines", "split", "(I)I"⟩, prog_1_method_6_code, 5, (some .int), 1, 5, 107, 1, 3),
  (⟨"ProofLines", "answer", "()I"⟩, prog_1_method_7_code, 1, (some .int), 1, 2, 43, 0, 3),
  (⟨"ProofLines", "value", "(IIZ)Z"⟩, prog_1_method_8_code, 5, (some .boolean), 1, 4, 83, 3, 3),
  (⟨"ProofLines", "check", "()I"⟩, prog_1_method_9_code, 2, (some .int), 1, 3, 83, 0, 3),
  (⟨"ProofLines", "shorten", "()I"⟩, prog_1_method_10_code, 1, (some .int), 1, 5, 126, 0, 3),
  (⟨"ProofLines", "turn", "(II)I"⟩, prog_1_method_11_code, 3, (some .int), 1, 4, 92, 2, 3),
  (⟨"ProofLines", "lines", "()I"⟩, prog_1_method_12_code, 1, (some .int), 1, 1, 20, 0, 3),
  (⟨"ProofLines", "kind", "(I)I"⟩, prog_1_method_13_code, 3, (some .int), 1, 1, 21, 1, 3),
  (⟨"ProofLines", "member", "(II)I"⟩, prog_1_method_14_code, 4, (some .int), 1, 1, 21, 2, 3),
  (⟨"ProofLines", "text", "(I)I"⟩, prog_1_method_15_code, 2, (some .int), 1, 4, 90, 1, 3),
  (⟨"ProofLines", "unit", "(I)Z"⟩, prog_1_method_16_code, 2, (some .boolean), 1, 1, 21, 1, 3),
  (⟨"ProofLines", "read", "()I"⟩, prog_1_method_17_code, 4, (some .int), 1, 7, 153, 0, 3)]
def mj_mt1 : List mj_Mrow := [(⟨"ProofLines", "isThing", "(I)Z"⟩, prog_1_method_18_code, 2, (some .boolean), 1, 0, 0, 1, 3),
  (⟨"ProofLines", "areCases", "(LProofLines$Line;LProofLines$Line;I)Z"⟩, prog_1_method_19_code, 5, (some .boolean), 1, 2, 41, 3, 3),
  (⟨"ProofLines", "codeOf", "(IZ)I"⟩, prog_1_method_20_code, 2, (some .int), 1, 0, 0, 2, 3),
  (⟨"ProofLines", "trueBit", "(I)J"⟩, prog_1_method_21_code, 1, (some .long), 1, 0, 0, 1, 3),
  (⟨"ProofLines", "falseBit", "(I)J"⟩, prog_1_method_22_code, 1, (some .long), 1, 0, 0, 1, 3),
  (⟨"ProofLines$Line", "<init>", "()V"⟩, prog_2_method_1_code, 1, none, 2, 1, 20, 0, 0),
  (⟨"ProofLines$Line", "begin", "(I)V"⟩, prog_2_method_2_code, 2, none, 2, 0, 0, 1, 0),
  (⟨"ProofLines$Line", "sort", "()I"⟩, prog_2_method_3_code, 1, (some .int), 2, 0, 0, 0, 0),
  (⟨"ProofLines$Line", "size", "()I"⟩, prog_2_method_4_code, 1, (some .int), 2, 0, 0, 0, 0),
  (⟨"ProofLines$Line", "trues", "()J"⟩, prog_2_method_5_code, 1, (some .long), 2, 0, 0, 0, 0),
  (⟨"ProofLines$Line", "falses", "()J"⟩, prog_2_method_6_code, 1, (some .long), 2, 0, 0, 0, 0),
  (⟨"ProofLines$Line", "isClause", "()Z"⟩, prog_2_method_7_code, 1, (some .boolean), 2, 0, 0, 0, 0),
  (⟨"ProofLines$Line", "isDerived", "()Z"⟩, prog_2_method_8_code, 1, (some .boolean), 2, 0, 0, 0, 0),
  (⟨"ProofLines$Line", "has", "(I)Z"⟩, prog_2_method_9_code, 2, (some .boolean), 2, 1, 20, 1, 0),
  (⟨"ProofLines$Line", "takes", "(I)Z"⟩, prog_2_method_10_code, 2, (some .boolean), 2, 2, 41, 1, 0),
  (⟨"ProofLines$Line", "add", "(I)Z"⟩, prog_2_method_11_code, 2, (some .boolean), 2, 3, 62, 1, 0),
  (⟨"ProofLines$Line", "addAllBut", "(LProofLines$Line;I)V"⟩, prog_2_method_12_code, 5, none, 2, 4, 83, 2, 0),
  (⟨"ProofLines$Line", "drop", "(I)V"⟩, prog_2_method_13_code, 4, none, 2, 1, 21, 1, 0),
  (⟨"ProofLines$Line", "codeAt", "(I)I"⟩, prog_2_method_14_code, 2, (some .int), 2, 0, 0, 1, 0),
  (⟨"ProofLines$Line", "exchange", "(II)I"⟩, prog_2_method_15_code, 8, (some .int), 2, 2, 41, 2, 0)]
def mj_mt2 : List mj_Mrow := [(⟨"ProofLines$Line", "textLength", "()I"⟩, prog_2_method_16_code, 1, (some .int), 2, 1, 21, 0, 0),
  (⟨"ProofLines$Line", "byteAt", "(I)I"⟩, prog_2_method_17_code, 5, (some .int), 2, 2, 42, 1, 0),
  (⟨"ProofLines$Line", "mark", "(I)V"⟩, prog_2_method_18_code, 2, none, 2, 1, 20, 1, 0),
  (⟨"ProofLines$Line", "widthOf", "(I)I"⟩, prog_2_method_19_code, 1, (some .int), 2, 1, 20, 1, 0),
  (⟨"ProofLines$Line", "numberOf", "(I)I"⟩, prog_2_method_20_code, 1, (some .int), 2, 0, 0, 1, 0),
  (⟨"ProofLines$Line", "byteOf", "(III)I"⟩, prog_2_method_21_code, 3, (some .int), 2, 1, 20, 3, 0),
  (⟨"ProofLines$Line", "letterOf", "(I)I"⟩, prog_2_method_22_code, 1, (some .int), 2, 0, 0, 1, 0),
  (⟨"ProofLines$Proof", "<init>", "(I)V"⟩, prog_3_method_1_code, 3, none, 3, 2, 40, 1, 1),
  (⟨"ProofLines$Proof", "count", "()I"⟩, prog_3_method_2_code, 1, (some .int), 3, 0, 0, 0, 1),
  (⟨"ProofLines$Proof", "clear", "()V"⟩, prog_3_method_3_code, 1, none, 3, 0, 0, 0, 1),
  (⟨"ProofLines$Proof", "at", "(I)LProofLines$Line;"⟩, prog_3_method_4_code, 2, (some (.object "ProofLines$Line")), 3, 0, 0, 1, 1),
  (⟨"ProofLines$Proof", "lastOf", "(II)LProofLines$Line;"⟩, prog_3_method_5_code, 4, (some (.object "ProofLines$Line")), 3, 1, 21, 2, 1),
  (⟨"ProofLines$Proof", "open", "(I)LProofLines$Line;"⟩, prog_3_method_6_code, 3, (some (.object "ProofLines$Line")), 3, 1, 21, 1, 1),
  (⟨"ProofLines$Proof", "isRight", "(II)Z"⟩, prog_3_method_7_code, 4, (some .boolean), 3, 2, 60, 2, 1),
  (⟨"ProofLines$Proof", "dropLines", "()V"⟩, prog_3_method_8_code, 2, none, 3, 4, 105, 0, 1),
  (⟨"ProofLines$Proof", "dropLiterals", "()V"⟩, prog_3_method_9_code, 2, none, 3, 3, 89, 0, 1),
  (⟨"ProofLines$Proof", "exchange", "(II)I"⟩, prog_3_method_10_code, 5, (some .int), 3, 3, 68, 2, 1),
  (⟨"ProofLines$Proof", "byteAt", "(I)I"⟩, prog_3_method_11_code, 5, (some .int), 3, 3, 66, 1, 1),
  (⟨"ProofLines$Proof", "isFullAnswer", "(LProofLines$Line;)Z"⟩, prog_3_method_12_code, 2, (some .boolean), 3, 1, 21, 1, 1),
  (⟨"ProofLines$Proof", "meetsGivens", "(LProofLines$Line;I)Z"⟩, prog_3_method_13_code, 7, (some .boolean), 3, 1, 20, 2, 1)]
def mj_mt3 : List mj_Mrow := [(⟨"ProofLines$Proof", "clashes", "(JJII)Z"⟩, prog_3_method_14_code, 20, (some .boolean), 3, 1, 21, 4, 1),
  (⟨"ProofLines$Proof", "isSpare", "(I)Z"⟩, prog_3_method_15_code, 3, (some .boolean), 3, 3, 83, 1, 1),
  (⟨"ProofLines$Proof", "dropLine", "(I)V"⟩, prog_3_method_16_code, 4, none, 3, 0, 0, 1, 1),
  (⟨"ProofLines$Proof", "dropLiteralsOf", "(LProofLines$Line;I)V"⟩, prog_3_method_17_code, 10, none, 3, 2, 60, 2, 1),
  (⟨"ProofLines$Reader", "<init>", "(I)V"⟩, prog_4_method_1_code, 2, none, 4, 1, 20, 1, 2),
  (⟨"ProofLines$Reader", "take", "(I)Z"⟩, prog_4_method_2_code, 2, (some .boolean), 4, 0, 0, 1, 2),
  (⟨"ProofLines$Reader", "forget", "()V"⟩, prog_4_method_3_code, 1, none, 4, 0, 0, 0, 2),
  (⟨"ProofLines$Reader", "place", "()I"⟩, prog_4_method_4_code, 1, (some .int), 4, 0, 0, 0, 2),
  (⟨"ProofLines$Reader", "fill", "(LProofLines$Proof;)Z"⟩, prog_4_method_5_code, 3, (some .boolean), 4, 6, 131, 1, 2),
  (⟨"ProofLines$Reader", "fillLine", "(LProofLines$Proof;)Z"⟩, prog_4_method_6_code, 5, (some .boolean), 4, 5, 107, 1, 2),
  (⟨"ProofLines$Reader", "fillLiteral", "(LProofLines$Line;)Z"⟩, prog_4_method_7_code, 5, (some .boolean), 4, 4, 83, 1, 2),
  (⟨"ProofLines$Reader", "passNumber", "()I"⟩, prog_4_method_8_code, 4, (some .int), 4, 1, 21, 0, 2),
  (⟨"ProofLines$Reader", "here", "()I"⟩, prog_4_method_9_code, 1, (some .int), 4, 0, 0, 0, 2),
  (⟨"ProofLines$Reader", "sortOf", "(I)I"⟩, prog_4_method_10_code, 2, (some .int), 4, 1, 20, 1, 2),
  (⟨"ProofLinesModel", "<init>", "(I)V"⟩, prog_6_method_1_code, 2, none, 5, 1, 20, 1, 4),
  (⟨"ProofLinesModel", "isThing", "(I)Z"⟩, prog_6_method_3_code, 2, (some .boolean), 5, 0, 0, 1, 4),
  (⟨"ProofLinesModel", "literalOf", "(IZ)I"⟩, prog_6_method_4_code, 2, (some .int), 5, 0, 0, 2, 4),
  (⟨"ProofLinesModel", "has", "(II)Z"⟩, prog_6_method_5_code, 4, (some .boolean), 5, 0, 0, 2, 4),
  (⟨"ProofLinesModel", "add", "(II)V"⟩, prog_6_method_6_code, 3, none, 5, 0, 0, 2, 4),
  (⟨"ProofLinesModel", "newLine", "(I)I"⟩, prog_6_method_7_code, 2, (some .int), 5, 0, 0, 1, 4)]
def mj_mt4 : List mj_Mrow := [(⟨"ProofLinesModel", "given", "()I"⟩, prog_6_method_8_code, 1, (some .int), 5, 1, 21, 0, 4),
  (⟨"ProofLinesModel", "answer", "()I"⟩, prog_6_method_9_code, 1, (some .int), 5, 1, 21, 0, 4),
  (⟨"ProofLinesModel", "isLast", "(II)Z"⟩, prog_6_method_10_code, 3, (some .boolean), 5, 0, 0, 2, 4),
  (⟨"ProofLinesModel", "literal", "(IIZ)Z"⟩, prog_6_method_11_code, 4, (some .boolean), 5, 1, 23, 3, 4),
  (⟨"ProofLinesModel", "value", "(IIZ)Z"⟩, prog_6_method_12_code, 4, (some .boolean), 5, 1, 23, 3, 4),
  (⟨"ProofLinesModel", "collect", "(IZ)Z"⟩, prog_6_method_13_code, 4, (some .boolean), 5, 1, 21, 2, 4),
  (⟨"ProofLinesModel", "learn", "()I"⟩, prog_6_method_14_code, 3, (some .int), 5, 1, 22, 0, 4),
  (⟨"ProofLinesModel", "split", "(I)I"⟩, prog_6_method_15_code, 9, (some .int), 5, 1, 23, 1, 4),
  (⟨"ProofLinesModel", "leadsTo", "(I)I"⟩, prog_6_method_16_code, 6, (some .int), 5, 0, 0, 1, 4),
  (⟨"ProofLinesModel", "clashes", "(I)Z"⟩, prog_6_method_17_code, 5, (some .boolean), 5, 1, 25, 1, 4),
  (⟨"ProofLinesModel", "answers", "(I)Z"⟩, prog_6_method_18_code, 5, (some .boolean), 5, 1, 23, 1, 4),
  (⟨"ProofLinesModel", "isRight", "(I)Z"⟩, prog_6_method_19_code, 3, (some .boolean), 5, 2, 49, 1, 4),
  (⟨"ProofLinesModel", "check", "()I"⟩, prog_6_method_20_code, 2, (some .int), 5, 3, 71, 0, 4),
  (⟨"ProofLinesModel", "copyLine", "(II)V"⟩, prog_6_method_21_code, 4, none, 5, 0, 0, 2, 4),
  (⟨"ProofLinesModel", "takeOut", "(I)V"⟩, prog_6_method_22_code, 3, none, 5, 1, 23, 1, 4),
  (⟨"ProofLinesModel", "putBack", "(I)V"⟩, prog_6_method_23_code, 3, none, 5, 1, 23, 1, 4),
  (⟨"ProofLinesModel", "tryWithout", "(I)V"⟩, prog_6_method_24_code, 5, none, 5, 3, 71, 1, 4),
  (⟨"ProofLinesModel", "shortenLine", "(I)V"⟩, prog_6_method_25_code, 5, none, 5, 3, 71, 1, 4),
  (⟨"ProofLinesModel", "removeLiteral", "(II)V"⟩, prog_6_method_26_code, 4, none, 5, 0, 0, 2, 4),
  (⟨"ProofLinesModel", "insertLiteral", "(III)V"⟩, prog_6_method_27_code, 5, none, 5, 0, 0, 3, 4)]
def mj_mt5 : List mj_Mrow := [(⟨"ProofLinesModel", "shorten", "()I"⟩, prog_6_method_28_code, 2, (some .int), 5, 4, 95, 0, 4),
  (⟨"ProofLinesModel", "turned", "(III)I"⟩, prog_6_method_29_code, 3, (some .int), 5, 0, 0, 3, 4),
  (⟨"ProofLinesModel", "turn", "(II)I"⟩, prog_6_method_30_code, 7, (some .int), 5, 1, 22, 2, 4),
  (⟨"ProofLinesModel", "lines", "()I"⟩, prog_6_method_31_code, 1, (some .int), 5, 0, 0, 0, 4),
  (⟨"ProofLinesModel", "kind", "(I)I"⟩, prog_6_method_32_code, 2, (some .int), 5, 0, 0, 1, 4),
  (⟨"ProofLinesModel", "member", "(II)I"⟩, prog_6_method_33_code, 3, (some .int), 5, 0, 0, 2, 4),
  (⟨"ProofLinesModel", "bytesOf", "(I)I"⟩, prog_6_method_34_code, 1, (some .int), 5, 0, 0, 1, 4),
  (⟨"ProofLinesModel", "byteOf", "(II)I"⟩, prog_6_method_35_code, 4, (some .int), 5, 0, 0, 2, 4),
  (⟨"ProofLinesModel", "text", "(I)I"⟩, prog_6_method_36_code, 6, (some .int), 5, 1, 23, 1, 4),
  (⟨"ProofLinesModel", "letterOf", "(I)I"⟩, prog_6_method_37_code, 1, (some .int), 5, 0, 0, 1, 4),
  (⟨"ProofLinesModel", "kindOf", "(I)I"⟩, prog_6_method_38_code, 1, (some .int), 5, 0, 0, 1, 4),
  (⟨"ProofLinesModel", "unit", "(I)Z"⟩, prog_6_method_39_code, 2, (some .boolean), 5, 0, 0, 1, 4),
  (⟨"ProofLinesModel", "look", "()I"⟩, prog_6_method_40_code, 1, (some .int), 5, 0, 0, 0, 4),
  (⟨"ProofLinesModel", "fail", "(I)V"⟩, prog_6_method_41_code, 2, none, 5, 0, 0, 1, 4),
  (⟨"ProofLinesModel", "isDigit", "()Z"⟩, prog_6_method_42_code, 1, (some .boolean), 5, 1, 20, 0, 4),
  (⟨"ProofLinesModel", "readLiteral", "(I)V"⟩, prog_6_method_43_code, 7, none, 5, 2, 40, 1, 4),
  (⟨"ProofLinesModel", "readLine", "(I)V"⟩, prog_6_method_44_code, 3, none, 5, 3, 66, 1, 4),
  (⟨"ProofLinesModel", "read", "()I"⟩, prog_6_method_45_code, 3, (some .int), 5, 4, 88, 0, 4),
  (⟨"ProofLinesLaw", "cell", "([II)I"⟩, method_2_code, 2, (some .int), 0, 0, 0, 2, 0),
  (⟨"ProofLinesLaw", "law", "([I)Z"⟩, code, 4, (some .boolean), 0, 8, 176, 1, 0)]
def mj_mt : List mj_Mrow := mj_mt0 ++ (mj_mt1 ++ (mj_mt2 ++ (mj_mt3 ++ (mj_mt4 ++ (mj_mt5)))))
def mj_fl : List ((Nat × Nat) × (Nat × Nat)) := [((1, 18), (3, 0)), ((1, 25), (3, 1)), ((1, 34), (3, 2)), ((1, 41), (3, 3)), ((1, 45), (3, 4)), ((2, 9), (0, 0)), ((2, 15), (0, 2)), ((2, 19), (0, 1)), ((2, 22), (0, 3)), ((2, 26), (0, 4)), ((3, 9), (1, 0)), ((3, 17), (1, 1)), ((3, 21), (1, 2)), ((3, 26), (1, 3)), ((4, 9), (2, 0)), ((4, 15), (2, 1)), ((4, 19), (2, 2)), ((4, 22), (2, 3)), ((5, 7), (4, 1)), ((5, 13), (4, 2)), ((5, 16), (4, 3)), ((5, 19), (4, 5)), ((5, 22), (4, 7)), ((5, 25), (4, 12)), ((5, 29), (4, 13)), ((5, 32), (4, 0)), ((5, 36), (4, 11)), ((5, 39), (4, 4)), ((5, 65), (4, 6)), ((5, 117), (4, 8)), ((5, 120), (4, 9)), ((5, 123), (4, 10))]
def mj_ml0 : List ((Nat × Nat) × (Nat × Nat)) := [((0, 9), (118, 0)), ((0, 15), (3, 4)), ((0, 20), (74, 4)), ((0, 21), (4, 2)), ((0, 25), (80, 2)), ((0, 26), (5, 2)), ((0, 30), (83, 2)), ((0, 31), (6, 2)), ((0, 35), (85, 2)), ((0, 36), (7, 2)), ((0, 39), (86, 2)), ((0, 40), (8, 2)), ((0, 44), (87, 2)), ((0, 45), (9, 2)), ((0, 48), (81, 2))]
def mj_ml1 : List ((Nat × Nat) × (Nat × Nat)) := [((0, 49), (10, 2)), ((0, 52), (84, 2)), ((0, 53), (11, 2)), ((0, 56), (92, 2)), ((0, 57), (12, 2)), ((0, 60), (100, 2)), ((0, 61), (13, 2)), ((0, 65), (102, 2)), ((0, 66), (14, 2)), ((0, 69), (103, 2)), ((0, 70), (15, 2)), ((0, 73), (104, 2)), ((0, 74), (16, 2)), ((0, 77), (105, 2)), ((0, 78), (17, 2))]
def mj_ml2 : List ((Nat × Nat) × (Nat × Nat)) := [((0, 81), (108, 2)), ((0, 82), (18, 2)), ((0, 86), (111, 2)), ((0, 87), (19, 2)), ((0, 90), (117, 2)), ((1, 3), (0, 5)), ((1, 9), (2, 0)), ((1, 15), (1, 0)), ((1, 24), (25, 4)), ((1, 31), (64, 4)), ((1, 40), (47, 4)), ((1, 48), (52, 2)), ((1, 52), (48, 2)), ((1, 56), (51, 2)), ((1, 60), (20, 2))]
def mj_ml3 : List ((Nat × Nat) × (Nat × Nat)) := [((1, 64), (22, 0)), ((1, 68), (35, 2)), ((1, 71), (36, 2)), ((1, 75), (26, 2)), ((1, 78), (50, 2)), ((1, 81), (21, 0)), ((1, 85), (53, 2)), ((1, 89), (54, 2)), ((1, 92), (55, 2)), ((1, 95), (56, 2)), ((1, 98), (39, 2)), ((1, 99), (27, 2)), ((1, 102), (38, 2)), ((1, 106), (57, 2)), ((1, 109), (65, 2))]
def mj_ml4 : List ((Nat × Nat) × (Nat × Nat)) := [((1, 112), (68, 2)), ((1, 116), (67, 2)), ((1, 119), (66, 2)), ((1, 122), (31, 2)), ((1, 126), (33, 2)), ((2, 3), (0, 5)), ((2, 29), (23, 1)), ((2, 33), (24, 1)), ((2, 36), (33, 2)), ((2, 40), (31, 2)), ((2, 44), (34, 2)), ((2, 47), (42, 2)), ((2, 51), (28, 2)), ((2, 54), (38, 2)), ((2, 58), (35, 2))]
def mj_ml5 : List ((Nat × Nat) × (Nat × Nat)) := [((2, 63), (0, 0)), ((2, 71), (46, 0)), ((2, 74), (43, 0)), ((2, 77), (45, 0)), ((2, 81), (44, 0)), ((3, 3), (0, 5)), ((3, 25), (25, 4)), ((3, 29), (50, 2)), ((3, 33), (27, 2)), ((3, 37), (26, 2)), ((3, 41), (32, 2)), ((3, 45), (29, 2)), ((3, 49), (30, 2)), ((3, 52), (60, 2)), ((3, 56), (58, 2))]
def mj_ml6 : List ((Nat × Nat) × (Nat × Nat)) := [((3, 60), (59, 2)), ((3, 64), (53, 2)), ((3, 68), (61, 2)), ((3, 72), (62, 2)), ((3, 75), (63, 2)), ((3, 79), (39, 2)), ((3, 83), (40, 2)), ((3, 86), (41, 2)), ((3, 90), (28, 2)), ((3, 93), (0, 0)), ((3, 99), (31, 2)), ((3, 104), (38, 2)), ((3, 107), (23, 1)), ((3, 111), (24, 1)), ((3, 114), (37, 2))]
def mj_ml7 : List ((Nat × Nat) × (Nat × Nat)) := [((4, 3), (0, 5)), ((4, 25), (49, 2)), ((4, 30), (69, 2)), ((4, 34), (72, 2)), ((4, 38), (73, 0)), ((4, 42), (52, 2)), ((4, 46), (70, 2)), ((4, 50), (71, 2)), ((4, 53), (22, 1)), ((4, 57), (35, 2)), ((4, 63), (2, 0)), ((4, 69), (46, 0)), ((5, 1), (0, 5)), ((5, 42), (79, 2)), ((5, 46), (82, 2))]
def mj_ml8 : List ((Nat × Nat) × (Nat × Nat)) := [((5, 50), (75, 2)), ((5, 54), (76, 0)), ((5, 58), (77, 2)), ((5, 61), (78, 2)), ((5, 68), (88, 2)), ((5, 71), (90, 2)), ((5, 74), (89, 2)), ((5, 77), (91, 2)), ((5, 80), (93, 2)), ((5, 83), (94, 2)), ((5, 87), (95, 2)), ((5, 90), (98, 2)), ((5, 93), (99, 2)), ((5, 97), (96, 2)), ((5, 100), (97, 2))]
def mj_ml9 : List ((Nat × Nat) × (Nat × Nat)) := [((5, 103), (101, 0)), ((5, 107), (109, 0)), ((5, 110), (106, 0)), ((5, 113), (107, 0)), ((5, 126), (112, 2)), ((5, 130), (114, 2)), ((5, 134), (113, 2)), ((5, 137), (110, 0)), ((5, 140), (115, 2)), ((5, 143), (116, 2))]
def mj_ml : List ((Nat × Nat) × (Nat × Nat)) := mj_ml0 ++ (mj_ml1 ++ (mj_ml2 ++ (mj_ml3 ++ (mj_ml4 ++ (mj_ml5 ++ (mj_ml6 ++ (mj_ml7 ++ (mj_ml8 ++ (mj_ml9)))))))))
def mj_nl : List ((Nat × Nat) × Nat) := [((0, 7), 3), ((0, 18), 4), ((1, 22), 0), ((1, 29), 2), ((1, 38), 1), ((3, 15), 0)]
def mj_ql : List ((Nat × Nat) × Nat) := [((3, 15), 2)]
def mj_kl : List ((Nat × Nat) × Value) := [((2, 61), .long (-1)), ((2, 69), .long (-512)), ((3, 102), .long (-1)), ((6, 314), .long (6148914691236517205)), ((6, 316), .long (3689348814741910323)), ((6, 318), .long (1085102592571150095))]
def mj_host : String := "ProofLines"
def mj_nm : List (String × Nat × MethodName × String) := [("ProofLines$Line", 29, ⟨"ProofLines", "trueBit", "(I)J"⟩, "ProofLines"), ("ProofLines$Line", 33, ⟨"ProofLines", "falseBit", "(I)J"⟩, "ProofLines"), ("ProofLines$Proof", 107, ⟨"ProofLines", "trueBit", "(I)J"⟩, "ProofLines"), ("ProofLines$Proof", 111, ⟨"ProofLines", "falseBit", "(I)J"⟩, "ProofLines"), ("ProofLines$Reader", 53, ⟨"ProofLines", "codeOf", "(IZ)I"⟩, "ProofLines")]
def mj_ao : List String := ["ProofLines$Line"]
