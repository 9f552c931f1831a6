section
-- ===== PART A: goes FIRST, ahead of the names: the tables' words, and 'selects' of the private methods out of them =====
/-- a private method of a class that the tables say can be made, by its rows of tables_1 -/
def lw_okq (q : MethodName × Nat) : Prop := (q.1.cls ≠ "java/lang/invoke/MethodHandle" ∧ q.1.cls ≠ "java/lang/invoke/VarHandle") ∧ Cond.instantiable q.1.cls q.2 ∈ tables_1 ∧ Cond.privateMethod q.1 ∈ tables_1 ∧ Cond.instanceMethod q.1 ∈ tables_1
theorem lw_p0 : lw_okq (⟨"ProofLines", "isThing", "(I)Z"⟩, 5) := ⟨⟨by decide +kernel, by decide +kernel⟩, List.mem_of_getElem? (i := 9) (by decide +kernel), List.mem_of_getElem? (i := 136) (by decide +kernel), List.mem_of_getElem? (i := 137) (by decide +kernel)⟩
theorem lw_p1 : lw_okq (⟨"ProofLines$Line", "mark", "(I)V"⟩, 5) := ⟨⟨by decide +kernel, by decide +kernel⟩, List.mem_of_getElem? (i := 23) (by decide +kernel), List.mem_of_getElem? (i := 165) (by decide +kernel), List.mem_of_getElem? (i := 166) (by decide +kernel)⟩
theorem lw_p2 : lw_okq (⟨"ProofLines$Proof", "clashes", "(JJII)Z"⟩, 4) := ⟨⟨by decide +kernel, by decide +kernel⟩, List.mem_of_getElem? (i := 65) (by decide +kernel), List.mem_of_getElem? (i := 229) (by decide +kernel), List.mem_of_getElem? (i := 230) (by decide +kernel)⟩
theorem lw_p3 : lw_okq (⟨"ProofLines$Proof", "isFullAnswer", "(LProofLines$Line;)Z"⟩, 4) := ⟨⟨by decide +kernel, by decide +kernel⟩, List.mem_of_getElem? (i := 65) (by decide +kernel), List.mem_of_getElem? (i := 241) (by decide +kernel), List.mem_of_getElem? (i := 242) (by decide +kernel)⟩
theorem lw_p4 : lw_okq (⟨"ProofLines$Proof", "meetsGivens", "(LProofLines$Line;I)Z"⟩, 4) := ⟨⟨by decide +kernel, by decide +kernel⟩, List.mem_of_getElem? (i := 65) (by decide +kernel), List.mem_of_getElem? (i := 246) (by decide +kernel), List.mem_of_getElem? (i := 247) (by decide +kernel)⟩
theorem lw_p5 : lw_okq (⟨"ProofLines$Proof", "isSpare", "(I)Z"⟩, 4) := ⟨⟨by decide +kernel, by decide +kernel⟩, List.mem_of_getElem? (i := 65) (by decide +kernel), List.mem_of_getElem? (i := 259) (by decide +kernel), List.mem_of_getElem? (i := 260) (by decide +kernel)⟩
theorem lw_p6 : lw_okq (⟨"ProofLines$Proof", "dropLine", "(I)V"⟩, 4) := ⟨⟨by decide +kernel, by decide +kernel⟩, List.mem_of_getElem? (i := 65) (by decide +kernel), List.mem_of_getElem? (i := 263) (by decide +kernel), List.mem_of_getElem? (i := 264) (by decide +kernel)⟩
theorem lw_p7 : lw_okq (⟨"ProofLines$Proof", "dropLiteralsOf", "(LProofLines$Line;I)V"⟩, 4) := ⟨⟨by decide +kernel, by decide +kernel⟩, List.mem_of_getElem? (i := 65) (by decide +kernel), List.mem_of_getElem? (i := 271) (by decide +kernel), List.mem_of_getElem? (i := 272) (by decide +kernel)⟩
theorem lw_p8 : lw_okq (⟨"ProofLines$Reader", "fillLine", "(LProofLines$Proof;)Z"⟩, 4) := ⟨⟨by decide +kernel, by decide +kernel⟩, List.mem_of_getElem? (i := 46) (by decide +kernel), List.mem_of_getElem? (i := 360) (by decide +kernel), List.mem_of_getElem? (i := 361) (by decide +kernel)⟩
theorem lw_p9 : lw_okq (⟨"ProofLines$Reader", "here", "()I"⟩, 4) := ⟨⟨by decide +kernel, by decide +kernel⟩, List.mem_of_getElem? (i := 46) (by decide +kernel), List.mem_of_getElem? (i := 364) (by decide +kernel), List.mem_of_getElem? (i := 365) (by decide +kernel)⟩
theorem lw_p10 : lw_okq (⟨"ProofLines$Reader", "fillLiteral", "(LProofLines$Line;)Z"⟩, 4) := ⟨⟨by decide +kernel, by decide +kernel⟩, List.mem_of_getElem? (i := 46) (by decide +kernel), List.mem_of_getElem? (i := 373) (by decide +kernel), List.mem_of_getElem? (i := 374) (by decide +kernel)⟩
theorem lw_p11 : lw_okq (⟨"ProofLines$Reader", "passNumber", "()I"⟩, 4) := ⟨⟨by decide +kernel, by decide +kernel⟩, List.mem_of_getElem? (i := 46) (by decide +kernel), List.mem_of_getElem? (i := 377) (by decide +kernel), List.mem_of_getElem? (i := 378) (by decide +kernel)⟩
theorem lw_p12 : lw_okq (⟨"ProofLinesModel", "newLine", "(I)I"⟩, 14) := ⟨⟨by decide +kernel, by decide +kernel⟩, List.mem_of_getElem? (i := 395) (by decide +kernel), List.mem_of_getElem? (i := 448) (by decide +kernel), List.mem_of_getElem? (i := 449) (by decide +kernel)⟩
theorem lw_p13 : lw_okq (⟨"ProofLinesModel", "isLast", "(II)Z"⟩, 14) := ⟨⟨by decide +kernel, by decide +kernel⟩, List.mem_of_getElem? (i := 395) (by decide +kernel), List.mem_of_getElem? (i := 460) (by decide +kernel), List.mem_of_getElem? (i := 461) (by decide +kernel)⟩
theorem lw_p14 : lw_okq (⟨"ProofLinesModel", "isThing", "(I)Z"⟩, 14) := ⟨⟨by decide +kernel, by decide +kernel⟩, List.mem_of_getElem? (i := 395) (by decide +kernel), List.mem_of_getElem? (i := 464) (by decide +kernel), List.mem_of_getElem? (i := 465) (by decide +kernel)⟩
theorem lw_p15 : lw_okq (⟨"ProofLinesModel", "has", "(II)Z"⟩, 14) := ⟨⟨by decide +kernel, by decide +kernel⟩, List.mem_of_getElem? (i := 395) (by decide +kernel), List.mem_of_getElem? (i := 471) (by decide +kernel), List.mem_of_getElem? (i := 472) (by decide +kernel)⟩
def lw_privs_1 : List (MethodName × Nat) := [(⟨"ProofLines", "isThing", "(I)Z"⟩, 5), (⟨"ProofLines$Line", "mark", "(I)V"⟩, 5), (⟨"ProofLines$Proof", "clashes", "(JJII)Z"⟩, 4), (⟨"ProofLines$Proof", "isFullAnswer", "(LProofLines$Line;)Z"⟩, 4), (⟨"ProofLines$Proof", "meetsGivens", "(LProofLines$Line;I)Z"⟩, 4), (⟨"ProofLines$Proof", "isSpare", "(I)Z"⟩, 4), (⟨"ProofLines$Proof", "dropLine", "(I)V"⟩, 4), (⟨"ProofLines$Proof", "dropLiteralsOf", "(LProofLines$Line;I)V"⟩, 4), (⟨"ProofLines$Reader", "fillLine", "(LProofLines$Proof;)Z"⟩, 4), (⟨"ProofLines$Reader", "here", "()I"⟩, 4), (⟨"ProofLines$Reader", "fillLiteral", "(LProofLines$Line;)Z"⟩, 4), (⟨"ProofLines$Reader", "passNumber", "()I"⟩, 4), (⟨"ProofLinesModel", "newLine", "(I)I"⟩, 14), (⟨"ProofLinesModel", "isLast", "(II)Z"⟩, 14), (⟨"ProofLinesModel", "isThing", "(I)Z"⟩, 14), (⟨"ProofLinesModel", "has", "(II)Z"⟩, 14)]
theorem lw_r1 : ∀ q ∈ lw_privs_1, lw_okq q := List.forall_mem_cons.mpr ⟨lw_p0, List.forall_mem_cons.mpr ⟨lw_p1, List.forall_mem_cons.mpr ⟨lw_p2, List.forall_mem_cons.mpr ⟨lw_p3, List.forall_mem_cons.mpr ⟨lw_p4, List.forall_mem_cons.mpr ⟨lw_p5, List.forall_mem_cons.mpr ⟨lw_p6, List.forall_mem_cons.mpr ⟨lw_p7, List.forall_mem_cons.mpr ⟨lw_p8, List.forall_mem_cons.mpr ⟨lw_p9, List.forall_mem_cons.mpr ⟨lw_p10, List.forall_mem_cons.mpr ⟨lw_p11, List.forall_mem_cons.mpr ⟨lw_p12, List.forall_mem_cons.mpr ⟨lw_p13, List.forall_mem_cons.mpr ⟨lw_p14, List.forall_mem_cons.mpr ⟨lw_p15, fun _ h => absurd h List.not_mem_nil⟩⟩⟩⟩⟩⟩⟩⟩⟩⟩⟩⟩⟩⟩⟩⟩
theorem lw_p16 : lw_okq (⟨"ProofLinesModel", "add", "(II)V"⟩, 14) := ⟨⟨by decide +kernel, by decide +kernel⟩, List.mem_of_getElem? (i := 395) (by decide +kernel), List.mem_of_getElem? (i := 475) (by decide +kernel), List.mem_of_getElem? (i := 476) (by decide +kernel)⟩
theorem lw_p17 : lw_okq (⟨"ProofLinesModel", "isRight", "(I)Z"⟩, 14) := ⟨⟨by decide +kernel, by decide +kernel⟩, List.mem_of_getElem? (i := 395) (by decide +kernel), List.mem_of_getElem? (i := 499) (by decide +kernel), List.mem_of_getElem? (i := 500) (by decide +kernel)⟩
theorem lw_p18 : lw_okq (⟨"ProofLinesModel", "answers", "(I)Z"⟩, 14) := ⟨⟨by decide +kernel, by decide +kernel⟩, List.mem_of_getElem? (i := 395) (by decide +kernel), List.mem_of_getElem? (i := 503) (by decide +kernel), List.mem_of_getElem? (i := 504) (by decide +kernel)⟩
theorem lw_p19 : lw_okq (⟨"ProofLinesModel", "clashes", "(I)Z"⟩, 14) := ⟨⟨by decide +kernel, by decide +kernel⟩, List.mem_of_getElem? (i := 395) (by decide +kernel), List.mem_of_getElem? (i := 507) (by decide +kernel), List.mem_of_getElem? (i := 508) (by decide +kernel)⟩
theorem lw_p20 : lw_okq (⟨"ProofLinesModel", "leadsTo", "(I)I"⟩, 14) := ⟨⟨by decide +kernel, by decide +kernel⟩, List.mem_of_getElem? (i := 395) (by decide +kernel), List.mem_of_getElem? (i := 511) (by decide +kernel), List.mem_of_getElem? (i := 512) (by decide +kernel)⟩
theorem lw_p21 : lw_okq (⟨"ProofLinesModel", "tryWithout", "(I)V"⟩, 14) := ⟨⟨by decide +kernel, by decide +kernel⟩, List.mem_of_getElem? (i := 395) (by decide +kernel), List.mem_of_getElem? (i := 519) (by decide +kernel), List.mem_of_getElem? (i := 520) (by decide +kernel)⟩
theorem lw_p22 : lw_okq (⟨"ProofLinesModel", "copyLine", "(II)V"⟩, 14) := ⟨⟨by decide +kernel, by decide +kernel⟩, List.mem_of_getElem? (i := 395) (by decide +kernel), List.mem_of_getElem? (i := 523) (by decide +kernel), List.mem_of_getElem? (i := 524) (by decide +kernel)⟩
theorem lw_p23 : lw_okq (⟨"ProofLinesModel", "takeOut", "(I)V"⟩, 14) := ⟨⟨by decide +kernel, by decide +kernel⟩, List.mem_of_getElem? (i := 395) (by decide +kernel), List.mem_of_getElem? (i := 527) (by decide +kernel), List.mem_of_getElem? (i := 528) (by decide +kernel)⟩
theorem lw_p24 : lw_okq (⟨"ProofLinesModel", "putBack", "(I)V"⟩, 14) := ⟨⟨by decide +kernel, by decide +kernel⟩, List.mem_of_getElem? (i := 395) (by decide +kernel), List.mem_of_getElem? (i := 531) (by decide +kernel), List.mem_of_getElem? (i := 532) (by decide +kernel)⟩
theorem lw_p25 : lw_okq (⟨"ProofLinesModel", "shortenLine", "(I)V"⟩, 14) := ⟨⟨by decide +kernel, by decide +kernel⟩, List.mem_of_getElem? (i := 395) (by decide +kernel), List.mem_of_getElem? (i := 535) (by decide +kernel), List.mem_of_getElem? (i := 536) (by decide +kernel)⟩
theorem lw_p26 : lw_okq (⟨"ProofLinesModel", "removeLiteral", "(II)V"⟩, 14) := ⟨⟨by decide +kernel, by decide +kernel⟩, List.mem_of_getElem? (i := 395) (by decide +kernel), List.mem_of_getElem? (i := 539) (by decide +kernel), List.mem_of_getElem? (i := 540) (by decide +kernel)⟩
theorem lw_p27 : lw_okq (⟨"ProofLinesModel", "insertLiteral", "(III)V"⟩, 14) := ⟨⟨by decide +kernel, by decide +kernel⟩, List.mem_of_getElem? (i := 395) (by decide +kernel), List.mem_of_getElem? (i := 543) (by decide +kernel), List.mem_of_getElem? (i := 544) (by decide +kernel)⟩
theorem lw_p28 : lw_okq (⟨"ProofLinesModel", "readLine", "(I)V"⟩, 14) := ⟨⟨by decide +kernel, by decide +kernel⟩, List.mem_of_getElem? (i := 395) (by decide +kernel), List.mem_of_getElem? (i := 587) (by decide +kernel), List.mem_of_getElem? (i := 588) (by decide +kernel)⟩
theorem lw_p29 : lw_okq (⟨"ProofLinesModel", "look", "()I"⟩, 14) := ⟨⟨by decide +kernel, by decide +kernel⟩, List.mem_of_getElem? (i := 395) (by decide +kernel), List.mem_of_getElem? (i := 591) (by decide +kernel), List.mem_of_getElem? (i := 592) (by decide +kernel)⟩
theorem lw_p30 : lw_okq (⟨"ProofLinesModel", "fail", "(I)V"⟩, 14) := ⟨⟨by decide +kernel, by decide +kernel⟩, List.mem_of_getElem? (i := 395) (by decide +kernel), List.mem_of_getElem? (i := 598) (by decide +kernel), List.mem_of_getElem? (i := 599) (by decide +kernel)⟩
theorem lw_p31 : lw_okq (⟨"ProofLinesModel", "readLiteral", "(I)V"⟩, 14) := ⟨⟨by decide +kernel, by decide +kernel⟩, List.mem_of_getElem? (i := 395) (by decide +kernel), List.mem_of_getElem? (i := 602) (by decide +kernel), List.mem_of_getElem? (i := 603) (by decide +kernel)⟩
def lw_privs_2 : List (MethodName × Nat) := [(⟨"ProofLinesModel", "add", "(II)V"⟩, 14), (⟨"ProofLinesModel", "isRight", "(I)Z"⟩, 14), (⟨"ProofLinesModel", "answers", "(I)Z"⟩, 14), (⟨"ProofLinesModel", "clashes", "(I)Z"⟩, 14), (⟨"ProofLinesModel", "leadsTo", "(I)I"⟩, 14), (⟨"ProofLinesModel", "tryWithout", "(I)V"⟩, 14), (⟨"ProofLinesModel", "copyLine", "(II)V"⟩, 14), (⟨"ProofLinesModel", "takeOut", "(I)V"⟩, 14), (⟨"ProofLinesModel", "putBack", "(I)V"⟩, 14), (⟨"ProofLinesModel", "shortenLine", "(I)V"⟩, 14), (⟨"ProofLinesModel", "removeLiteral", "(II)V"⟩, 14), (⟨"ProofLinesModel", "insertLiteral", "(III)V"⟩, 14), (⟨"ProofLinesModel", "readLine", "(I)V"⟩, 14), (⟨"ProofLinesModel", "look", "()I"⟩, 14), (⟨"ProofLinesModel", "fail", "(I)V"⟩, 14), (⟨"ProofLinesModel", "readLiteral", "(I)V"⟩, 14)]
theorem lw_r2 : ∀ q ∈ lw_privs_2, lw_okq q := List.forall_mem_cons.mpr ⟨lw_p16, List.forall_mem_cons.mpr ⟨lw_p17, List.forall_mem_cons.mpr ⟨lw_p18, List.forall_mem_cons.mpr ⟨lw_p19, List.forall_mem_cons.mpr ⟨lw_p20, List.forall_mem_cons.mpr ⟨lw_p21, List.forall_mem_cons.mpr ⟨lw_p22, List.forall_mem_cons.mpr ⟨lw_p23, List.forall_mem_cons.mpr ⟨lw_p24, List.forall_mem_cons.mpr ⟨lw_p25, List.forall_mem_cons.mpr ⟨lw_p26, List.forall_mem_cons.mpr ⟨lw_p27, List.forall_mem_cons.mpr ⟨lw_p28, List.forall_mem_cons.mpr ⟨lw_p29, List.forall_mem_cons.mpr ⟨lw_p30, List.forall_mem_cons.mpr ⟨lw_p31, fun _ h => absurd h List.not_mem_nil⟩⟩⟩⟩⟩⟩⟩⟩⟩⟩⟩⟩⟩⟩⟩⟩
theorem lw_p32 : lw_okq (⟨"ProofLinesModel", "isDigit", "()Z"⟩, 14) := ⟨⟨by decide +kernel, by decide +kernel⟩, List.mem_of_getElem? (i := 395) (by decide +kernel), List.mem_of_getElem? (i := 606) (by decide +kernel), List.mem_of_getElem? (i := 607) (by decide +kernel)⟩
def lw_privs_3 : List (MethodName × Nat) := [(⟨"ProofLinesModel", "isDigit", "()Z"⟩, 14)]
theorem lw_r3 : ∀ q ∈ lw_privs_3, lw_okq q := List.forall_mem_cons.mpr ⟨lw_p32, fun _ h => absurd h List.not_mem_nil⟩
def lw_privs : List (MethodName × Nat) := lw_privs_1 ++ (lw_privs_2 ++ (lw_privs_3))
def lw_tbl : List Cond := k2_sels lw_privs ++ tables_1
theorem lw_privs_ok : ∀ q ∈ lw_privs, lw_okq q := by
  show ∀ q ∈ lw_privs_1 ++ (lw_privs_2 ++ (lw_privs_3)), lw_okq q
  exact List.forall_mem_append.mpr ⟨lw_r1, List.forall_mem_append.mpr ⟨lw_r2, lw_r3⟩⟩
end
section
/-! TABLES, written by wip/whole/gen/tables.py out of the Statement and javap's listing: classes, methods, links by pool number -/
def mj_cns : List String := ["ProofLinesLaw", "ProofLines", "ProofLines$Line", "ProofLines$Proof", "ProofLines$Reader", "ProofLinesModel", "java/lang/Long", "java/lang/Math"]
def mj_T0 : u_T := fun k => match k with
  | 0 => ("ProofLines$Line", "codes", "[I", true)
  | 1 => ("ProofLines$Line", "size", "I", false)
  | 2 => ("ProofLines$Line", "sort", "I", false)
  | 3 => ("ProofLines$Line", "trues", "J", false)
  | _ => ("ProofLines$Line", "falses", "J", false)
def mj_T1 : u_T := fun k => match k with
  | 0 => ("ProofLines$Proof", "things", "I", true)
  | 1 => ("ProofLines$Proof", "rows", "[LProofLines$Line;", true)
  | 2 => ("ProofLines$Proof", "right", "[Z", true)
  | _ => ("ProofLines$Proof", "count", "I", false)
def mj_T2 : u_T := fun k => match k with
  | 0 => ("ProofLines$Reader", "things", "I", true)
  | 1 => ("ProofLines$Reader", "units", "[I", true)
  | 2 => ("ProofLines$Reader", "size", "I", false)
  | _ => ("ProofLines$Reader", "place", "I", false)
def mj_T3 : u_T := fun k => match k with
  | 0 => ("ProofLines", "things", "I", true)
  | 1 => ("ProofLines", "collected", "LProofLines$Line;", true)
  | 2 => ("ProofLines", "reader", "LProofLines$Reader;", true)
  | 3 => ("ProofLines", "proof", "LProofLines$Proof;", false)
  | _ => ("ProofLines", "spare", "LProofLines$Proof;", false)
def mj_T4 : u_T := fun k => match k with
  | 0 => ("ProofLinesModel", "things", "I", true)
  | 1 => ("ProofLinesModel", "kind", "[I", true)
  | 2 => ("ProofLinesModel", "many", "[I", true)
  | 3 => ("ProofLinesModel", "literal", "[I", true)
  | 4 => ("ProofLinesModel", "lines", "I", false)
  | 5 => ("ProofLinesModel", "collected", "[I", true)
  | 6 => ("ProofLinesModel", "collectedMany", "I", false)
  | 7 => ("ProofLinesModel", "unread", "[I", true)
  | 8 => ("ProofLinesModel", "unreadLong", "I", false)
  | 9 => ("ProofLinesModel", "at", "I", false)
  | 10 => ("ProofLinesModel", "bad", "I", false)
  | 11 => ("ProofLinesModel", "thrown", "I", false)
  | 12 => ("ProofLinesModel", "holds", "[Z", true)
  | _ => ("ProofLinesModel", "rightThen", "[Z", true)
def mj_cl : List vw_C := [("ProofLines$Line", mj_T0, 5), ("ProofLines$Proof", mj_T1, 4), ("ProofLines$Reader", mj_T2, 4), ("ProofLines", mj_T3, 5), ("ProofLinesModel", mj_T4, 14)]
def mj_tyl : List (List FieldType) := [[(.array .int), .int, .int, .long, .long], [.int, (.array (.object "ProofLines$Line")), (.array .boolean), .int], [.int, (.array .int), .int, .int], [.int, (.object "ProofLines$Line"), (.object "ProofLines$Reader"), (.object "ProofLines$Proof"), (.object "ProofLines$Proof")], [.int, (.array .int), (.array .int), (.array .int), .int, (.array .int), .int, (.array .int), .int, .int, .int, .int, (.array .boolean), (.array .boolean)]]
def mj_at : List FieldType := [.int, .boolean, (.object "ProofLines$Line")]
abbrev mj_ti : Nat := 0
abbrev mj_tz : Nat := 1
abbrev mj_tl : Nat := 98
abbrev mj_Mrow : Type := MethodName × ByteArray × Nat × Option FieldType × Nat × Nat × Nat × Nat × Nat
def mj_m0 : mj_Mrow := (⟨"", "", ""⟩, ⟨#[]⟩, 0, none, 0, 0, 0, 0, 0)
def mj_mt0 : List mj_Mrow := [(⟨"java/lang/Long", "bitCount", "(J)I"⟩, prog_7_method_50_code, 2, (some .int), 6, 0, 0, 1, 0),
  (⟨"java/lang/Math", "max", "(II)I"⟩, prog_8_method_65_code, 2, (some .int), 7, 0, 0, 2, 0),
  (⟨"java/lang/Math", "min", "(II)I"⟩, prog_8_method_69_code, 2, (some .int), 7, 0, 0, 2, 0),
  (⟨"ProofLines", "<init>", "(I)V"⟩, prog_1_method_1_code, 2, none, 1, 3, 62, 1, 3),
  (⟨"ProofLines", "given", "()I"⟩, prog_1_method_2_code, 1, (some .int), 1, 2, 43, 0, 3),
  (⟨"ProofLines", "literal", "(IIZ)Z"⟩, prog_1_method_3_code, 5, (some .boolean), 1, 4, 83, 3, 3),
  (⟨"ProofLines", "collect", "(IZ)Z"⟩, prog_1_method_4_code, 3, (some .boolean), 1, 4, 83, 2, 3),
  (⟨"ProofLines", "learn", "()I"⟩, prog_1_method_5_code, 2, (some .int), 1, 5, 107, 0, 3),
  (⟨"ProofLines", "split", "(I)I"⟩, prog_1_method_6_code, 5, (some .int), 1, 5, 107, 1, 3),
  (⟨"ProofLines", "answer", "()I"⟩, prog_1_method_7_code, 1, (some .int), 1, 2, 43, 0, 3),
  (⟨"ProofLines", "value", "(IIZ)Z"⟩, prog_1_method_8_code, 5, (some .boolean), 1, 4, 83, 3, 3),
  (⟨"ProofLines", "check", "()I"⟩, prog_1_method_9_code, 2, (some .int), 1, 3, 83, 0, 3),
  (⟨"ProofLines", "shorten", "()I"⟩, prog_1_method_10_code, 1, (some .int), 1, 5, 126, 0, 3),
  (⟨"ProofLines", "turn", "(II)I"⟩, prog_1_method_11_code, 3, (some .int), 1, 4, 92, 2, 3),
  (⟨"ProofLines", "lines", "()I"⟩, prog_1_method_12_code, 1, (some .int), 1, 1, 20, 0, 3),
  (⟨"ProofLines", "kind", "(I)I"⟩, prog_1_method_13_code, 3, (some .int), 1, 1, 21, 1, 3),
  (⟨"ProofLines", "member", "(II)I"⟩, prog_1_method_14_code, 4, (some .int), 1, 1, 21, 2, 3),
  (⟨"ProofLines", "text", "(I)I"⟩, prog_1_method_15_code, 2, (some .int), 1, 4, 90, 1, 3),
  (⟨"ProofLines", "unit", "(I)Z"⟩, prog_1_method_16_code, 2, (some .boolean), 1, 1, 21, 1, 3),
  (⟨"ProofLines", "read", "()I"⟩, prog_1_method_17_code, 4, (some .int), 1, 7, 153, 0, 3)]
def mj_mt1 : List mj_Mrow := [(⟨"ProofLines", "isThing", "(I)Z"⟩, prog_1_method_18_code, 2, (some .boolean), 1, 0, 0, 1, 3),
  (⟨"ProofLines", "areCases", "(LProofLines$Line;LProofLines$Line;I)Z"⟩, prog_1_method_19_code, 5, (some .boolean), 1, 2, 41, 3, 3),
  (⟨"ProofLines", "codeOf", "(IZ)I"⟩, prog_1_method_20_code, 2, (some .int), 1, 0, 0, 2, 3),
  (⟨"ProofLines", "trueBit", "(I)J"⟩, prog_1_method_21_code, 1, (some .long), 1, 0, 0, 1, 3),
  (⟨"ProofLines", "falseBit", "(I)J"⟩, prog_1_method_22_code, 1, (some .long), 1, 0, 0, 1, 3),
  (⟨"ProofLines$Line", "<init>", "()V"⟩, prog_2_method_1_code, 1, none, 2, 1, 20, 0, 0),
  (⟨"ProofLines$Line", "begin", "(I)V"⟩, prog_2_method_2_code, 2, none, 2, 0, 0, 1, 0),
  (⟨"ProofLines$Line", "sort", "()I"⟩, prog_2_method_3_code, 1, (some .int), 2, 0, 0, 0, 0),
  (⟨"ProofLines$Line", "size", "()I"⟩, prog_2_method_4_code, 1, (some .int), 2, 0, 0, 0, 0),
  (⟨"ProofLines$Line", "trues", "()J"⟩, prog_2_method_5_code, 1, (some .long), 2, 0, 0, 0, 0),
  (⟨"ProofLines$Line", "falses", "()J"⟩, prog_2_method_6_code, 1, (some .long), 2, 0, 0, 0, 0),
  (⟨"ProofLines$Line", "isClause", "()Z"⟩, prog_2_method_7_code, 1, (some .boolean), 2, 0, 0, 0, 0),
  (⟨"ProofLines$Line", "isDerived", "()Z"⟩, prog_2_method_8_code, 1, (some .boolean), 2, 0, 0, 0, 0),
  (⟨"ProofLines$Line", "has", "(I)Z"⟩, prog_2_method_9_code, 2, (some .boolean), 2, 1, 20, 1, 0),
  (⟨"ProofLines$Line", "takes", "(I)Z"⟩, prog_2_method_10_code, 2, (some .boolean), 2, 2, 41, 1, 0),
  (⟨"ProofLines$Line", "add", "(I)Z"⟩, prog_2_method_11_code, 2, (some .boolean), 2, 3, 62, 1, 0),
  (⟨"ProofLines$Line", "addAllBut", "(LProofLines$Line;I)V"⟩, prog_2_method_12_code, 5, none, 2, 4, 83, 2, 0),
  (⟨"ProofLines$Line", "drop", "(I)V"⟩, prog_2_method_13_code, 4, none, 2, 1, 21, 1, 0),
  (⟨"ProofLines$Line", "codeAt", "(I)I"⟩, prog_2_method_14_code, 2, (some .int), 2, 0, 0, 1, 0),
  (⟨"ProofLines$Line", "exchange", "(II)I"⟩, prog_2_method_15_code, 8, (some .int), 2, 2, 41, 2, 0)]
def mj_mt2 : List mj_Mrow := [(⟨"ProofLines$Line", "textLength", "()I"⟩, prog_2_method_16_code, 1, (some .int), 2, 1, 21, 0, 0),
  (⟨"ProofLines$Line", "byteAt", "(I)I"⟩, prog_2_method_17_code, 5, (some .int), 2, 2, 42, 1, 0),
  (⟨"ProofLines$Line", "mark", "(I)V"⟩, prog_2_method_18_code, 2, none, 2, 1, 20, 1, 0),
  (⟨"ProofLines$Line", "widthOf", "(I)I"⟩, prog_2_method_19_code, 1, (some .int), 2, 1, 20, 1, 0),
  (⟨"ProofLines$Line", "numberOf", "(I)I"⟩, prog_2_method_20_code, 1, (some .int), 2, 0, 0, 1, 0),
  (⟨"ProofLines$Line", "byteOf", "(III)I"⟩, prog_2_method_21_code, 3, (some .int), 2, 1, 20, 3, 0),
  (⟨"ProofLines$Line", "letterOf", "(I)I"⟩, prog_2_method_22_code, 1, (some .int), 2, 0, 0, 1, 0),
  (⟨"ProofLines$Proof", "<init>", "(I)V"⟩, prog_3_method_1_code, 3, none, 3, 2, 40, 1, 1),
  (⟨"ProofLines$Proof", "count", "()I"⟩, prog_3_method_2_code, 1, (some .int), 3, 0, 0, 0, 1),
  (⟨"ProofLines$Proof", "clear", "()V"⟩, prog_3_method_3_code, 1, none, 3, 0, 0, 0, 1),
  (⟨"ProofLines$Proof", "at", "(I)LProofLines$Line;"⟩, prog_3_method_4_code, 2, (some (.object "ProofLines$Line")), 3, 0, 0, 1, 1),
  (⟨"ProofLines$Proof", "lastOf", "(II)LProofLines$Line;"⟩, prog_3_method_5_code, 4, (some (.object "ProofLines$Line")), 3, 1, 21, 2, 1),
  (⟨"ProofLines$Proof", "open", "(I)LProofLines$Line;"⟩, prog_3_method_6_code, 3, (some (.object "ProofLines$Line")), 3, 1, 21, 1, 1),
  (⟨"ProofLines$Proof", "isRight", "(II)Z"⟩, prog_3_method_7_code, 4, (some .boolean), 3, 2, 60, 2, 1),
  (⟨"ProofLines$Proof", "dropLines", "()V"⟩, prog_3_method_8_code, 2, none, 3, 4, 105, 0, 1),
  (⟨"ProofLines$Proof", "dropLiterals", "()V"⟩, prog_3_method_9_code, 2, none, 3, 3, 89, 0, 1),
  (⟨"ProofLines$Proof", "exchange", "(II)I"⟩, prog_3_method_10_code, 5, (some .int), 3, 3, 68, 2, 1),
  (⟨"ProofLines$Proof", "byteAt", "(I)I"⟩, prog_3_method_11_code, 5, (some .int), 3, 3, 66, 1, 1),
  (⟨"ProofLines$Proof", "isFullAnswer", "(LProofLines$Line;)Z"⟩, prog_3_method_12_code, 2, (some .boolean), 3, 1, 21, 1, 1),
  (⟨"ProofLines$Proof", "meetsGivens", "(LProofLines$Line;I)Z"⟩, prog_3_method_13_code, 7, (some .boolean), 3, 1, 20, 2, 1)]
def mj_mt3 : List mj_Mrow := [(⟨"ProofLines$Proof", "clashes", "(JJII)Z"⟩, prog_3_method_14_code, 20, (some .boolean), 3, 1, 21, 4, 1),
  (⟨"ProofLines$Proof", "isSpare", "(I)Z"⟩, prog_3_method_15_code, 3, (some .boolean), 3, 3, 83, 1, 1),
  (⟨"ProofLines$Proof", "dropLine", "(I)V"⟩, prog_3_method_16_code, 4, none, 3, 0, 0, 1, 1),
  (⟨"ProofLines$Proof", "dropLiteralsOf", "(LProofLines$Line;I)V"⟩, prog_3_method_17_code, 10, none, 3, 2, 60, 2, 1),
  (⟨"ProofLines$Reader", "<init>", "(I)V"⟩, prog_4_method_1_code, 2, none, 4, 1, 20, 1, 2),
  (⟨"ProofLines$Reader", "take", "(I)Z"⟩, prog_4_method_2_code, 2, (some .boolean), 4, 0, 0, 1, 2),
  (⟨"ProofLines$Reader", "forget", "()V"⟩, prog_4_method_3_code, 1, none, 4, 0, 0, 0, 2),
  (⟨"ProofLines$Reader", "place", "()I"⟩, prog_4_method_4_code, 1, (some .int), 4, 0, 0, 0, 2),
  (⟨"ProofLines$Reader", "fill", "(LProofLines$Proof;)Z"⟩, prog_4_method_5_code, 3, (some .boolean), 4, 6, 131, 1, 2),
  (⟨"ProofLines$Reader", "fillLine", "(LProofLines$Proof;)Z"⟩, prog_4_method_6_code, 5, (some .boolean), 4, 5, 107, 1, 2),
  (⟨"ProofLines$Reader", "fillLiteral", "(LProofLines$Line;)Z"⟩, prog_4_method_7_code, 5, (some .boolean), 4, 4, 83, 1, 2),
  (⟨"ProofLines$Reader", "passNumber", "()I"⟩, prog_4_method_8_code, 4, (some .int), 4, 1, 21, 0, 2),
  (⟨"ProofLines$Reader", "here", "()I"⟩, prog_4_method_9_code, 1, (some .int), 4, 0, 0, 0, 2),
  (⟨"ProofLines$Reader", "sortOf", "(I)I"⟩, prog_4_method_10_code, 2, (some .int), 4, 1, 20, 1, 2),
  (⟨"ProofLinesModel", "<init>", "(I)V"⟩, prog_6_method_1_code, 2, none, 5, 1, 20, 1, 4),
  (⟨"ProofLinesModel", "isThing", "(I)Z"⟩, prog_6_method_3_code, 2, (some .boolean), 5, 0, 0, 1, 4),
  (⟨"ProofLinesModel", "literalOf", "(IZ)I"⟩, prog_6_method_4_code, 2, (some .int), 5, 0, 0, 2, 4),
  (⟨"ProofLinesModel", "has", "(II)Z"⟩, prog_6_method_5_code, 4, (some .boolean), 5, 0, 0, 2, 4),
  (⟨"ProofLinesModel", "add", "(II)V"⟩, prog_6_method_6_code, 3, none, 5, 0, 0, 2, 4),
  (⟨"ProofLinesModel", "newLine", "(I)I"⟩, prog_6_method_7_code, 2, (some .int), 5, 0, 0, 1, 4)]
def mj_mt4 : List mj_Mrow := [(⟨"ProofLinesModel", "given", "()I"⟩, prog_6_method_8_code, 1, (some .int), 5, 1, 21, 0, 4),
  (⟨"ProofLinesModel", "answer", "()I"⟩, prog_6_method_9_code, 1, (some .int), 5, 1, 21, 0, 4),
  (⟨"ProofLinesModel", "isLast", "(II)Z"⟩, prog_6_method_10_code, 3, (some .boolean), 5, 0, 0, 2, 4),
  (⟨"ProofLinesModel", "literal", "(IIZ)Z"⟩, prog_6_method_11_code, 4, (some .boolean), 5, 1, 23, 3, 4),
  (⟨"ProofLinesModel", "value", "(IIZ)Z"⟩, prog_6_method_12_code, 4, (some .boolean), 5, 1, 23, 3, 4),
  (⟨"ProofLinesModel", "collect", "(IZ)Z"⟩, prog_6_method_13_code, 4, (some .boolean), 5, 1, 21, 2, 4),
  (⟨"ProofLinesModel", "learn", "()I"⟩, prog_6_method_14_code, 3, (some .int), 5, 1, 22, 0, 4),
  (⟨"ProofLinesModel", "split", "(I)I"⟩, prog_6_method_15_code, 9, (some .int), 5, 1, 23, 1, 4),
  (⟨"ProofLinesModel", "leadsTo", "(I)I"⟩, prog_6_method_16_code, 6, (some .int), 5, 0, 0, 1, 4),
  (⟨"ProofLinesModel", "clashes", "(I)Z"⟩, prog_6_method_17_code, 5, (some .boolean), 5, 1, 25, 1, 4),
  (⟨"ProofLinesModel", "answers", "(I)Z"⟩, prog_6_method_18_code, 5, (some .boolean), 5, 1, 23, 1, 4),
  (⟨"ProofLinesModel", "isRight", "(I)Z"⟩, prog_6_method_19_code, 3, (some .boolean), 5, 2, 49, 1, 4),
  (⟨"ProofLinesModel", "check", "()I"⟩, prog_6_method_20_code, 2, (some .int), 5, 3, 71, 0, 4),
  (⟨"ProofLinesModel", "copyLine", "(II)V"⟩, prog_6_method_21_code, 4, none, 5, 0, 0, 2, 4),
  (⟨"ProofLinesModel", "takeOut", "(I)V"⟩, prog_6_method_22_code, 3, none, 5, 1, 23, 1, 4),
  (⟨"ProofLinesModel", "putBack", "(I)V"⟩, prog_6_method_23_code, 3, none, 5, 1, 23, 1, 4),
  (⟨"ProofLinesModel", "tryWithout", "(I)V"⟩, prog_6_method_24_code, 5, none, 5, 3, 71, 1, 4),
  (⟨"ProofLinesModel", "shortenLine", "(I)V"⟩, prog_6_method_25_code, 5, none, 5, 3, 71, 1, 4),
  (⟨"ProofLinesModel", "removeLiteral", "(II)V"⟩, prog_6_method_26_code, 4, none, 5, 0, 0, 2, 4),
  (⟨"ProofLinesModel", "insertLiteral", "(III)V"⟩, prog_6_method_27_code, 5, none, 5, 0, 0, 3, 4)]
def mj_mt5 : List mj_Mrow := [(⟨"ProofLinesModel", "shorten", "()I"⟩, prog_6_method_28_code, 2, (some .int), 5, 4, 95, 0, 4),
  (⟨"ProofLinesModel", "turned", "(III)I"⟩, prog_6_method_29_code, 3, (some .int), 5, 0, 0, 3, 4),
  (⟨"ProofLinesModel", "turn", "(II)I"⟩, prog_6_method_30_code, 7, (some .int), 5, 1, 22, 2, 4),
  (⟨"ProofLinesModel", "lines", "()I"⟩, prog_6_method_31_code, 1, (some .int), 5, 0, 0, 0, 4),
  (⟨"ProofLinesModel", "kind", "(I)I"⟩, prog_6_method_32_code, 2, (some .int), 5, 0, 0, 1, 4),
  (⟨"ProofLinesModel", "member", "(II)I"⟩, prog_6_method_33_code, 3, (some .int), 5, 0, 0, 2, 4),
  (⟨"ProofLinesModel", "bytesOf", "(I)I"⟩, prog_6_method_34_code, 1, (some .int), 5, 0, 0, 1, 4),
  (⟨"ProofLinesModel", "byteOf", "(II)I"⟩, prog_6_method_35_code, 4, (some .int), 5, 0, 0, 2, 4),
  (⟨"ProofLinesModel", "text", "(I)I"⟩, prog_6_method_36_code, 6, (some .int), 5, 1, 23, 1, 4),
  (⟨"ProofLinesModel", "letterOf", "(I)I"⟩, prog_6_method_37_code, 1, (some .int), 5, 0, 0, 1, 4),
  (⟨"ProofLinesModel", "kindOf", "(I)I"⟩, prog_6_method_38_code, 1, (some .int), 5, 0, 0, 1, 4),
  (⟨"ProofLinesModel", "unit", "(I)Z"⟩, prog_6_method_39_code, 2, (some .boolean), 5, 0, 0, 1, 4),
  (⟨"ProofLinesModel", "look", "()I"⟩, prog_6_method_40_code, 1, (some .int), 5, 0, 0, 0, 4),
  (⟨"ProofLinesModel", "fail", "(I)V"⟩, prog_6_method_41_code, 2, none, 5, 0, 0, 1, 4),
  (⟨"ProofLinesModel", "isDigit", "()Z"⟩, prog_6_method_42_code, 1, (some .boolean), 5, 1, 20, 0, 4),
  (⟨"ProofLinesModel", "readLiteral", "(I)V"⟩, prog_6_method_43_code, 7, none, 5, 2, 40, 1, 4),
  (⟨"ProofLinesModel", "readLine", "(I)V"⟩, prog_6_method_44_code, 3, none, 5, 3, 66, 1, 4),
  (⟨"ProofLinesModel", "read", "()I"⟩, prog_6_method_45_code, 3, (some .int), 5, 4, 88, 0, 4),
  (⟨"ProofLinesLaw", "cell", "([II)I"⟩, method_2_code, 2, (some .int), 0, 0, 0, 2, 0),
  (⟨"ProofLinesLaw", "law", "([I)Z"⟩, code, 4, (some .boolean), 0, 8, 176, 1, 0)]
def mj_mt : List mj_Mrow := mj_mt0 ++ (mj_mt1 ++ (mj_mt2 ++ (mj_mt3 ++ (mj_mt4 ++ (mj_mt5)))))
def mj_fl : List ((Nat × Nat) × (Nat × Nat)) := [((1, 18), (3, 0)), ((1, 25), (3, 1)), ((1, 34), (3, 2)), ((1, 41), (3, 3)), ((1, 45), (3, 4)), ((2, 9), (0, 0)), ((2, 15), (0, 2)), ((2, 19), (0, 1)), ((2, 22), (0, 3)), ((2, 26), (0, 4)), ((3, 9), (1, 0)), ((3, 17), (1, 1)), ((3, 21), (1, 2)), ((3, 26), (1, 3)), ((4, 9), (2, 0)), ((4, 15), (2, 1)), ((4, 19), (2, 2)), ((4, 22), (2, 3)), ((5, 7), (4, 1)), ((5, 13), (4, 2)), ((5, 16), (4, 3)), ((5, 19), (4, 5)), ((5, 22), (4, 7)), ((5, 25), (4, 12)), ((5, 29), (4, 13)), ((5, 32), (4, 0)), ((5, 36), (4, 11)), ((5, 39), (4, 4)), ((5, 65), (4, 6)), ((5, 117), (4, 8)), ((5, 120), (4, 9)), ((5, 123), (4, 10))]
def mj_ml0 : List ((Nat × Nat) × (Nat × Nat)) := [((0, 9), (118, 0)), ((0, 15), (3, 4)), ((0, 20), (74, 4)), ((0, 21), (4, 2)), ((0, 25), (80, 2)), ((0, 26), (5, 2)), ((0, 30), (83, 2)), ((0, 31), (6, 2)), ((0, 35), (85, 2)), ((0, 36), (7, 2)), ((0, 39), (86, 2)), ((0, 40), (8, 2)), ((0, 44), (87, 2)), ((0, 45), (9, 2)), ((0, 48), (81, 2))]
def mj_ml1 : List ((Nat × Nat) × (Nat × Nat)) := [((0, 49), (10, 2)), ((0, 52), (84, 2)), ((0, 53), (11, 2)), ((0, 56), (92, 2)), ((0, 57), (12, 2)), ((0, 60), (100, 2)), ((0, 61), (13, 2)), ((0, 65), (102, 2)), ((0, 66), (14, 2)), ((0, 69), (103, 2)), ((0, 70), (15, 2)), ((0, 73), (104, 2)), ((0, 74), (16, 2)), ((0, 77), (105, 2)), ((0, 78), (17, 2))]
def mj_ml2 : List ((Nat × Nat) × (Nat × Nat)) := [((0, 81), (108, 2)), ((0, 82), (18, 2)), ((0, 86), (111, 2)), ((0, 87), (19, 2)), ((0, 90), (117, 2)), ((1, 3), (0, 5)), ((1, 9), (2, 0)), ((1, 15), (1, 0)), ((1, 24), (25, 4)), ((1, 31), (64, 4)), ((1, 40), (47, 4)), ((1, 48), (52, 2)), ((1, 52), (48, 2)), ((1, 56), (51, 2)), ((1, 60), (20, 2))]
def mj_ml3 : List ((Nat × Nat) × (Nat × Nat)) := [((1, 64), (22, 0)), ((1, 68), (35, 2)), ((1, 71), (36, 2)), ((1, 75), (26, 2)), ((1, 78), (50, 2)), ((1, 81), (21, 0)), ((1, 85), (53, 2)), ((1, 89), (54, 2)), ((1, 92), (55, 2)), ((1, 95), (56, 2)), ((1, 98), (39, 2)), ((1, 99), (27, 2)), ((1, 102), (38, 2)), ((1, 106), (57, 2)), ((1, 109), (65, 2))]
def mj_ml4 : List ((Nat × Nat) × (Nat × Nat)) := [((1, 112), (68, 2)), ((1, 116), (67, 2)), ((1, 119), (66, 2)), ((1, 122), (31, 2)), ((1, 126), (33, 2)), ((2, 3), (0, 5)), ((2, 29), (23, 1)), ((2, 33), (24, 1)), ((2, 36), (33, 2)), ((2, 40), (31, 2)), ((2, 44), (34, 2)), ((2, 47), (42, 2)), ((2, 51), (28, 2)), ((2, 54), (38, 2)), ((2, 58), (35, 2))]
def mj_ml5 : List ((Nat × Nat) × (Nat × Nat)) := [((2, 63), (0, 0)), ((2, 71), (46, 0)), ((2, 74), (43, 0)), ((2, 77), (45, 0)), ((2, 81), (44, 0)), ((3, 3), (0, 5)), ((3, 25), (25, 4)), ((3, 29), (50, 2)), ((3, 33), (27, 2)), ((3, 37), (26, 2)), ((3, 41), (32, 2)), ((3, 45), (29, 2)), ((3, 49), (30, 2)), ((3, 52), (60, 2)), ((3, 56), (58, 2))]
def mj_ml6 : List ((Nat × Nat) × (Nat × Nat)) := [((3, 60), (59, 2)), ((3, 64), (53, 2)), ((3, 68), (61, 2)), ((3, 72), (62, 2)), ((3, 75), (63, 2)), ((3, 79), (39, 2)), ((3, 83), (40, 2)), ((3, 86), (41, 2)), ((3, 90), (28, 2)), ((3, 93), (0, 0)), ((3, 99), (31, 2)), ((3, 104), (38, 2)), ((3, 107), (23, 1)), ((3, 111), (24, 1)), ((3, 114), (37, 2))]
def mj_ml7 : List ((Nat × Nat) × (Nat × Nat)) := [((4, 3), (0, 5)), ((4, 25), (49, 2)), ((4, 30), (69, 2)), ((4, 34), (72, 2)), ((4, 38), (73, 0)), ((4, 42), (52, 2)), ((4, 46), (70, 2)), ((4, 50), (71, 2)), ((4, 53), (22, 1)), ((4, 57), (35, 2)), ((4, 63), (2, 0)), ((4, 69), (46, 0)), ((5, 1), (0, 5)), ((5, 42), (79, 2)), ((5, 46), (82, 2))]
def mj_ml8 : List ((Nat × Nat) × (Nat × Nat)) := [((5, 50), (75, 2)), ((5, 54), (76, 0)), ((5, 58), (77, 2)), ((5, 61), (78, 2)), ((5, 68), (88, 2)), ((5, 71), (90, 2)), ((5, 74), (89, 2)), ((5, 77), (91, 2)), ((5, 80), (93, 2)), ((5, 83), (94, 2)), ((5, 87), (95, 2)), ((5, 90), (98, 2)), ((5, 93), (99, 2)), ((5, 97), (96, 2)), ((5, 100), (97, 2))]
def mj_ml9 : List ((Nat × Nat) × (Nat × Nat)) := [((5, 103), (101, 0)), ((5, 107), (109, 0)), ((5, 110), (106, 0)), ((5, 113), (107, 0)), ((5, 126), (112, 2)), ((5, 130), (114, 2)), ((5, 134), (113, 2)), ((5, 137), (110, 0)), ((5, 140), (115, 2)), ((5, 143), (116, 2))]
def mj_ml : List ((Nat × Nat) × (Nat × Nat)) := mj_ml0 ++ (mj_ml1 ++ (mj_ml2 ++ (mj_ml3 ++ (mj_ml4 ++ (mj_ml5 ++ (mj_ml6 ++ (mj_ml7 ++ (mj_ml8 ++ (mj_ml9)))))))))
def mj_nl : List ((Nat × Nat) × Nat) := [((0, 7), 3), ((0, 18), 4), ((1, 22), 0), ((1, 29), 2), ((1, 38), 1), ((3, 15), 0)]
def mj_ql : List ((Nat × Nat) × Nat) := [((3, 15), 2)]
def mj_kl : List ((Nat × Nat) × Value) := [((2, 61), .long (-1)), ((2, 69), .long (-512)), ((3, 102), .long (-1)), ((6, 314), .long (6148914691236517205)), ((6, 316), .long (3689348814741910323)), ((6, 318), .long (1085102592571150095))]
def mj_host : String := "ProofLines"
def mj_nm : List (String × Nat × MethodName × String) := [("ProofLines$Line", 29, ⟨"ProofLines", "trueBit", "(I)J"⟩, "ProofLines"), ("ProofLines$Line", 33, ⟨"ProofLines", "falseBit", "(I)J"⟩, "ProofLines"), ("ProofLines$Proof", 107, ⟨"ProofLines", "trueBit", "(I)J"⟩, "ProofLines"), ("ProofLines$Proof", 111, ⟨"ProofLines", "falseBit", "(I)J"⟩, "ProofLines"), ("ProofLines$Reader", 53, ⟨"ProofLines", "codeOf", "(IZ)I"⟩, "ProofLines")]
def mj_ao : List String := ["ProofLines$Line"]
end
section
/-! What the tables say, read off the rows (the rows are part 02's) -/
def mj_cn (o : Nat) : String := mj_cns.getD o ""
def mj_y (m : Nat) : MethodName := (mj_mt.getD m mj_m0).1
def mj_code (m : Nat) : ByteArray := (mj_mt.getD m mj_m0).2.1
def mj_mxl (m : Nat) : Nat := (mj_mt.getD m mj_m0).2.2.1
def mj_ret (m : Nat) : Option FieldType := (mj_mt.getD m mj_m0).2.2.2.1
def mj_on (m : Nat) : Nat := (mj_mt.getD m mj_m0).2.2.2.2.1
def mj_hgt (m : Nat) : Nat := (mj_mt.getD m mj_m0).2.2.2.2.2.1
def mj_lr (m : Nat) : Nat := (mj_mt.getD m mj_m0).2.2.2.2.2.2.1
def mj_na (m : Nat) : Nat := (mj_mt.getD m mj_m0).2.2.2.2.2.2.2.1
def mj_ci (m : Nat) : Nat := (mj_mt.getD m mj_m0).2.2.2.2.2.2.2.2
def mj_own (m : Nat) : String := mj_cn (mj_on m)
def mj_fin (ci k : Nat) : Bool := match mj_cl[ci]? with
  | some r => (r.2.1 k).2.2.2
  | none => true
def mj_fown (ci k : Nat) : String := match mj_cl[ci]? with
  | some r => (r.2.1 k).1
  | none => ""
def mj_fnm (ci k : Nat) : String := match mj_cl[ci]? with
  | some r => (r.2.1 k).2.1
  | none => ""
def mj_fds (ci k : Nat) : String := match mj_cl[ci]? with
  | some r => (r.2.1 k).2.2.1
  | none => ""
def mj_N (ci : Nat) : Nat := match mj_cl[ci]? with
  | some r => r.2.2
  | none => 0
def mj_cnm (ci : Nat) : String := match mj_cl[ci]? with
  | some r => r.1
  | none => ""
def mj_ty (ci k : Nat) : FieldType := (mj_tyl.getD ci []).getD k .int
def mj_def (ci : Nat) : List Value := (mj_tyl.getD ci []).map defaultValue
def mj_words : List Cond := lw_tbl.filter goodWord
/-- a word by its place -/
def mj_wd (i : Nat) (w : Cond) : Bool := decide (lw_tbl[i]? = some w) && goodWord w
theorem mj_wd_in {i : Nat} {w : Cond} (h : mj_wd i w = true) : w ∈ mj_words := by
  unfold mj_wd at h
  simp only [Bool.and_eq_true, decide_eq_true_eq] at h
  exact List.mem_filter.mpr ⟨List.mem_of_getElem? h.1, h.2⟩
def mj_all2 {α : Type} (f : α → List Nat → Bool) : List α → List (List Nat) → Bool
  | [], _ => true
  | _ :: _, [] => false
  | a :: l, x :: xs => f a x && mj_all2 f l xs
theorem mj_all2_in {α : Type} {f : α → List Nat → Bool} : ∀ {l : List α} {xs : List (List Nat)}, mj_all2 f l xs = true → ∀ a ∈ l, ∃ x, f a x = true := by
  intro l
  induction l with
  | nil => intro xs _ a ha; cases ha
  | cons b l ih =>
    intro xs h a ha
    cases xs with
    | nil => simp [mj_all2] at h
    | cons x xs =>
      simp only [mj_all2, Bool.and_eq_true] at h
      rcases List.mem_cons.mp ha with rfl | ha
      · exact ⟨x, h.1⟩
      · exact ih h.2 a ha
theorem mj_find_mem {α : Type} {t : List ((Nat × Nat) × α)} {o i : Nat} {x : α} (h : (t.find? (fun r => r.1.1 == o && r.1.2 == i)).map (fun r => r.2) = some x) : ((o, i), x) ∈ t := by
  cases hf : t.find? (fun r => r.1.1 == o && r.1.2 == i) with
  | none => rw [hf] at h; cases h
  | some r =>
    rw [hf] at h
    have h1 := List.find?_some hf
    have h2 := List.mem_of_find?_eq_some hf
    simp only [Bool.and_eq_true, beq_iff_eq] at h1
    obtain ⟨⟨a, b⟩, c⟩ := r
    simp only [Option.map_some, Option.some.injEq] at h
    obtain ⟨rfl, rfl⟩ := h1
    subst h
    exact h2
/-- a class's row: its fields' words, its making, its types -/
def mj_clb (r : vw_C × List FieldType) (x : List Nat) : Bool :=
  mj_all2 (fun w y => mj_wd (y.getD 0 0) w) (u_ws r.1.1 r.1.2.1 r.1.2.2) ((x.drop 2).map fun i => [i]) && mj_wd (x.getD 0 0) (.instantiable r.1.1 r.1.2.2) && mj_wd (x.getD 1 0) (.initialized r.1.1) &&
  (List.range r.1.2.2).all (fun k => decide (parseFieldDescriptor (r.1.2.1 k).2.2.1 = some (r.2.getD k .int))) && decide (r.2.length = r.1.2.2) &&
  (List.range r.1.2.2).all (fun a => (List.range r.1.2.2).all (fun b => a == b || decide ((r.1.2.1 a).2.1 ≠ (r.1.2.1 b).2.1)))
def mj_flb (r : (Nat × Nat) × (Nat × Nat)) (x : List Nat) : Bool := decide (r.2.2 < mj_N r.2.1) && mj_wd (x.getD 0 0) (.fieldLink (mj_cn r.1.1) r.1.2 (mj_fown r.2.1 r.2.2) (mj_fnm r.2.1 r.2.2) (mj_fds r.2.1 r.2.2))
def mj_nlb (r : (Nat × Nat) × Nat) (x : List Nat) : Bool := decide (r.2 < mj_cl.length) && mj_wd (x.getD 0 0) (.classLink (mj_cn r.1.1) r.1.2 (mj_cnm r.2))
def mj_qlb (r : (Nat × Nat) × Nat) (x : List Nat) : Bool := match mj_at[r.2]? with
  | some (.object C) => decide (C ∈ mj_ao) && decide (r.2 < mj_at.length) && mj_wd (x.getD 0 0) (.classLink (mj_cn r.1.1) r.1.2 C)
  | _ => false
def mj_klb (r : (Nat × Nat) × Value) (x : List Nat) : Bool := match r.2 with
  | .int v => mj_wd (x.getD 0 0) (.constant (mj_cn r.1.1) r.1.2 v)
  | .long v => mj_wd (x.getD 0 0) (.constantLong (mj_cn r.1.1) r.1.2 v)
  | _ => false
/-- a call's row: places of: link, static or instance, selects, code, initialized -/
def mj_mlb (r : (Nat × Nat) × (Nat × Nat)) (x : List Nat) : Bool :=
  if r.2.2 = 5 then mj_wd (x.getD 0 0) (.methodLink (mj_cn r.1.1) r.1.2 Lib.objectInit) && mj_wd (x.getD 1 0) (.instanceMethod Lib.objectInit) && mj_wd (x.getD 3 0) (.code Lib.objectInit ⟨#[0xb1]⟩ 1 none)
  else mj_wd (x.getD 3 0) (.code (mj_y r.2.1) (mj_code r.2.1) (mj_mxl r.2.1) (mj_ret r.2.1)) && mj_wd (x.getD 4 0) (.initialized (mj_y r.2.1).cls) &&
    decide ((mj_y r.2.1).cls ≠ "java/lang/invoke/MethodHandle" ∧ (mj_y r.2.1).cls ≠ "java/lang/invoke/VarHandle" ∧ (parseMethodDescriptor (mj_y r.2.1).desc).map (fun d => d.parameters.length) = some (mj_na r.2.1)) &&
    plainFor (mj_y r.2.1) && decide (mj_own r.2.1 = (mj_y r.2.1).cls) &&
    (if r.2.2 = 0 ∨ r.2.2 = 2 ∨ r.2.2 = 4 then mj_wd (x.getD 0 0) (.methodLink (mj_cn r.1.1) r.1.2 (mj_y r.2.1)) else decide ((mj_cn r.1.1, r.1.2, mj_y r.2.1, mj_host) ∈ mj_nm)) &&
    (if r.2.2 ≤ 1 then mj_wd (x.getD 1 0) (.static (mj_y r.2.1)) else mj_wd (x.getD 1 0) (.instanceMethod (mj_y r.2.1))) &&
    (if r.2.2 = 2 ∨ r.2.2 = 3 then mj_wd (x.getD 2 0) (.selects (mj_y r.2.1).cls (mj_y r.2.1) (mj_y r.2.1)) && decide (mj_cnm (mj_ci r.2.1) = (mj_y r.2.1).cls ∧ mj_ci r.2.1 < mj_cl.length) else true) &&
    (if r.2.2 = 4 then decide ((mj_y r.2.1).name = "<init>" ∧ mj_ret r.2.1 = none) else decide (r.2.2 < 4))
def mj_atb (ty : FieldType) (x : List Nat) : Bool := match ty with
  | .object _ => true
  | .array _ => true
  | ty => mj_wd (x.getD 0 0) (.arrayClass ty)
end
section
/-! CHECKS of the tables, each row by the places of its words in lw_tbl (written by wip/whole/gen/tables.py) -/
theorem mj_ck_len : mj_cl.length = mj_tyl.length := by decide
theorem mj_ck_cl : mj_all2 mj_clb (mj_cl.zip mj_tyl) [[56, 36, 66, 68, 70, 72, 74], [98, 38, 110, 112, 114, 116], [79, 37, 88, 90, 92, 94], [42, 34, 125, 127, 129, 131, 133], [428, 39, 447, 449, 451, 453, 455, 457, 459, 461, 463, 465, 467, 469, 471, 473]] = true := by decide +kernel
theorem mj_ck_fl : mj_all2 mj_flb mj_fl [[120], [121], [122], [123], [124], [61], [63], [62], [64], [65], [106], [107], [108], [109], [84], [85], [86], [87], [434], [435], [436], [438], [440], [445], [446], [433], [444], [437], [439], [441], [442], [443]] = true := by decide +kernel
theorem mj_ck_nl : mj_all2 mj_nlb mj_nl [[41], [427], [55], [78], [97], [103]] = true := by decide +kernel
theorem mj_ck_ql : mj_all2 mj_qlb mj_ql [[103]] = true := by decide +kernel
theorem mj_ck_kl : mj_all2 mj_klb mj_kl [[314], [355], [266], [270], [271], [272]] = true := by decide +kernel
theorem mj_ck_ml0 : mj_all2 mj_mlb mj_ml0 [[424, 425, 0, 426, 33], [43, 44, 0, 45, 34], [429, 430, 0, 431, 39], [136, 137, 138, 139, 34], [476, 477, 478, 479, 39], [152, 153, 154, 155, 34], [488, 489, 490, 491, 39], [201, 202, 203, 204, 34], [515, 516, 517, 518, 39], [205, 206, 207, 208, 34], [519, 520, 521, 522, 39], [223, 224, 225, 226, 34], [523, 524, 525, 526, 39], [233, 234, 235, 236, 34], [484, 485, 486, 487, 39]] = true := by decide +kernel
theorem mj_ck_ml1 : mj_all2 mj_mlb mj_ml1 [[237, 238, 239, 240, 34], [511, 512, 513, 514, 39], [241, 242, 243, 244, 34], [527, 528, 529, 530, 39], [282, 283, 284, 285, 34], [547, 548, 549, 550, 39], [315, 316, 317, 318, 34], [579, 580, 581, 582, 39], [328, 329, 330, 331, 34], [586, 587, 588, 589, 39], [332, 333, 334, 335, 34], [590, 591, 592, 593, 39], [337, 338, 339, 340, 34], [594, 595, 596, 597, 39], [342, 343, 344, 345, 34]] = true := by decide +kernel
theorem mj_ck_ml2 : mj_all2 mj_mlb mj_ml2 [[598, 599, 600, 601, 39], [372, 373, 374, 375, 34], [611, 612, 613, 614, 39], [380, 381, 382, 383, 34], [615, 616, 617, 618, 39], [46, 47, 0, 48, 0], [49, 50, 0, 51, 35], [52, 53, 0, 54, 35], [57, 58, 0, 59, 36], [80, 81, 0, 82, 37], [99, 100, 0, 101, 38], [140, 141, 142, 143, 38], [148, 149, 150, 151, 38], [156, 157, 158, 159, 38], [168, 170, 0, 171, 34]] = true := by decide +kernel
theorem mj_ck_ml3 : mj_all2 mj_mlb mj_ml3 [[172, 173, 0, 174, 34], [175, 176, 177, 178, 36], [209, 210, 211, 212, 36], [222, 145, 146, 147, 36], [227, 161, 162, 163, 38], [228, 229, 0, 230, 34], [245, 246, 247, 248, 38], [286, 287, 288, 289, 38], [299, 300, 301, 302, 38], [319, 320, 321, 322, 38], [327, 324, 325, 326, 36], [336, 165, 166, 167, 36], [341, 218, 219, 220, 36], [346, 347, 348, 349, 38], [376, 377, 378, 379, 37]] = true := by decide +kernel
theorem mj_ck_ml4 : mj_all2 mj_mlb mj_ml4 [[384, 385, 386, 387, 37], [416, 417, 418, 419, 37], [420, 421, 422, 423, 37], [231, 194, 195, 196, 36], [232, 184, 185, 186, 36], [60, 47, 0, 48, 0], [0, 188, 0, 189, 34], [0, 191, 0, 192, 34], [183, 184, 185, 186, 36], [193, 194, 195, 196, 36], [179, 180, 181, 182, 36], [197, 199, 1, 200, 36], [213, 214, 215, 216, 36], [217, 218, 219, 220, 36], [221, 176, 177, 178, 36]] = true := by decide +kernel
theorem mj_ck_ml5 : mj_all2 mj_mlb mj_ml5 [[354, 268, 0, 269, 40], [360, 361, 0, 362, 36], [363, 364, 0, 365, 36], [369, 370, 0, 371, 36], [366, 367, 0, 368, 36], [102, 47, 0, 48, 0], [105, 58, 0, 59, 36], [160, 161, 162, 163, 38], [164, 165, 166, 167, 36], [144, 145, 146, 147, 36], [249, 250, 251, 252, 36], [253, 254, 255, 256, 36], [257, 258, 259, 260, 36], [261, 263, 2, 264, 38], [273, 275, 3, 276, 38]] = true := by decide +kernel
theorem mj_ck_ml6 : mj_all2 mj_mlb mj_ml6 [[278, 280, 4, 281, 38], [290, 246, 247, 248, 38], [291, 293, 5, 294, 38], [295, 297, 6, 298, 38], [303, 305, 7, 306, 38], [323, 324, 325, 326, 36], [350, 351, 352, 353, 36], [356, 357, 358, 359, 36], [277, 214, 215, 216, 36], [267, 268, 0, 269, 40], [265, 194, 195, 196, 36], [307, 218, 219, 220, 36], [0, 188, 0, 189, 34], [0, 191, 0, 192, 34], [310, 311, 312, 313, 36]] = true := by decide +kernel
theorem mj_ck_ml7 : mj_all2 mj_mlb mj_ml7 [[83, 47, 0, 48, 0], [388, 389, 390, 391, 38], [392, 394, 8, 395, 37], [396, 398, 9, 399, 37], [400, 401, 0, 402, 37], [404, 141, 142, 143, 38], [405, 407, 10, 408, 37], [409, 411, 11, 412, 37], [0, 173, 0, 174, 34], [415, 176, 177, 178, 36], [413, 50, 0, 51, 35], [403, 361, 0, 362, 36], [432, 47, 0, 48, 0], [480, 482, 12, 483, 39], [492, 494, 13, 495, 39]] = true := by decide +kernel
theorem mj_ck_ml8 : mj_all2 mj_mlb mj_ml8 [[496, 498, 14, 499, 39], [500, 501, 0, 502, 39], [503, 505, 15, 506, 39], [507, 509, 16, 510, 39], [543, 545, 20, 546, 39], [535, 537, 18, 538, 39], [539, 541, 19, 542, 39], [531, 533, 17, 534, 39], [555, 557, 22, 558, 39], [559, 561, 23, 562, 39], [563, 565, 24, 566, 39], [571, 573, 26, 574, 39], [575, 577, 27, 578, 39], [551, 553, 21, 554, 39], [567, 569, 25, 570, 39]] = true := by decide +kernel
theorem mj_ck_ml9 : mj_all2 mj_mlb mj_ml9 [[583, 584, 0, 585, 39], [602, 603, 0, 604, 39], [605, 606, 0, 607, 39], [608, 609, 0, 610, 39], [623, 625, 29, 626, 39], [638, 640, 32, 641, 39], [630, 632, 30, 633, 39], [627, 628, 0, 629, 39], [634, 636, 31, 637, 39], [619, 621, 28, 622, 39]] = true := by decide +kernel
theorem mj_ck_ml : ∀ a ∈ mj_ml, ∃ x, mj_mlb a x = true := by
  intro a ha
  unfold mj_ml at ha
  simp only [List.mem_append] at ha
  rcases ha with ha | ha | ha | ha | ha | ha | ha | ha | ha | ha
  · exact mj_all2_in mj_ck_ml0 a ha
  · exact mj_all2_in mj_ck_ml1 a ha
  · exact mj_all2_in mj_ck_ml2 a ha
  · exact mj_all2_in mj_ck_ml3 a ha
  · exact mj_all2_in mj_ck_ml4 a ha
  · exact mj_all2_in mj_ck_ml5 a ha
  · exact mj_all2_in mj_ck_ml6 a ha
  · exact mj_all2_in mj_ck_ml7 a ha
  · exact mj_all2_in mj_ck_ml8 a ha
  · exact mj_all2_in mj_ck_ml9 a ha
theorem mj_ck_at : mj_all2 mj_atb mj_at [[77], [119], [0]] = true := by decide +kernel
end
section
/-! The rows are sound: each by the check that a program has run over its table -/
theorem mj_ok_fl {o x ci k : Nat} (h : ((o, x), (ci, k)) ∈ mj_fl) : k < mj_N ci ∧ Cond.fieldLink (mj_cn o) x (mj_fown ci k) (mj_fnm ci k) (mj_fds ci k) ∈ mj_words := by
  obtain ⟨ix, hx⟩ := mj_all2_in mj_ck_fl _ h
  simp only [mj_flb, Bool.and_eq_true, decide_eq_true_eq] at hx
  exact ⟨hx.1, mj_wd_in hx.2⟩
theorem mj_ok_nl {o x ci : Nat} (h : ((o, x), ci) ∈ mj_nl) : ci < mj_cl.length ∧ Cond.classLink (mj_cn o) x (mj_cnm ci) ∈ mj_words := by
  obtain ⟨ix, hx⟩ := mj_all2_in mj_ck_nl _ h
  simp only [mj_nlb, Bool.and_eq_true, decide_eq_true_eq] at hx
  exact ⟨hx.1, mj_wd_in hx.2⟩
theorem mj_ok_ql {o x t : Nat} (h : ((o, x), t) ∈ mj_ql) : ∃ C, mj_at[t]? = some (.object C) ∧ C ∈ mj_ao ∧ Cond.classLink (mj_cn o) x C ∈ mj_words := by
  obtain ⟨ix, hx⟩ := mj_all2_in mj_ck_ql _ h
  unfold mj_qlb at hx
  dsimp only at hx
  split at hx
  · rename_i C hC
    simp only [Bool.and_eq_true, decide_eq_true_eq] at hx
    exact ⟨C, hC, hx.1.1, mj_wd_in hx.2⟩
  · cases hx
theorem mj_ok_kli {o x : Nat} {v : Int32} (h : ((o, x), Value.int v) ∈ mj_kl) : Cond.constant (mj_cn o) x v ∈ mj_words := by
  obtain ⟨ix, hx⟩ := mj_all2_in mj_ck_kl _ h
  exact mj_wd_in hx
theorem mj_ok_kll {o x : Nat} {v : Int64} (h : ((o, x), Value.long v) ∈ mj_kl) : Cond.constantLong (mj_cn o) x v ∈ mj_words := by
  obtain ⟨ix, hx⟩ := mj_all2_in mj_ck_kl _ h
  exact mj_wd_in hx
theorem mj_ok_cl {ci : Nat} {r : vw_C} (h : mj_cl[ci]? = some r) : (∀ w ∈ u_ws r.1 r.2.1 r.2.2, w ∈ mj_words) ∧ Cond.instantiable r.1 r.2.2 ∈ mj_words ∧ Cond.initialized r.1 ∈ mj_words ∧ (∀ k, k < r.2.2 → parseFieldDescriptor (r.2.1 k).2.2.1 = some (mj_ty ci k)) ∧ (mj_def ci).length = r.2.2 ∧ (∀ a, a < r.2.2 → ∀ b, b < r.2.2 → a ≠ b → (r.2.1 a).2.1 ≠ (r.2.1 b).2.1) := by
  have hlen : mj_cl.length = mj_tyl.length := mj_ck_len
  have hlt : ci < mj_cl.length := (List.getElem?_eq_some_iff.mp h).1
  have ht : mj_tyl[ci]? = some (mj_tyl.getD ci []) := by
    rw [List.getD_eq_getElem?_getD, List.getElem?_eq_getElem (by omega)]
    rfl
  have hm : (r, mj_tyl.getD ci []) ∈ mj_cl.zip mj_tyl := by
    refine List.mem_of_getElem? (i := ci) ?_
    rw [List.getElem?_zip_eq_some]
    exact ⟨h, ht⟩
  obtain ⟨ix, hx⟩ := mj_all2_in mj_ck_cl _ hm
  simp only [mj_clb, Bool.and_eq_true, decide_eq_true_eq, List.all_eq_true, List.mem_range] at hx
  obtain ⟨⟨⟨⟨⟨h1, h2⟩, h3⟩, h4⟩, h5⟩, h6⟩ := hx
  refine ⟨fun w hw => ?_, mj_wd_in h2, mj_wd_in h3, fun k hk => h4 k hk, by unfold mj_def; rw [List.length_map]; exact h5, fun a ha b hb hne => ?_⟩
  · obtain ⟨y, hy⟩ := mj_all2_in h1 w hw
    exact mj_wd_in hy
  · have := h6 a ha b hb
    simpa [hne] using this
theorem mj_cl_of {ci : Nat} (h : ci < mj_cl.length) : ∃ r, mj_cl[ci]? = some r ∧ mj_cnm ci = r.1 ∧ mj_N ci = r.2.2 ∧ (∀ k, mj_fown ci k = (r.2.1 k).1 ∧ mj_fnm ci k = (r.2.1 k).2.1 ∧ mj_fds ci k = (r.2.1 k).2.2.1 ∧ mj_fin ci k = (r.2.1 k).2.2.2) := by
  refine ⟨mj_cl[ci], List.getElem?_eq_getElem h, ?_, ?_, fun k => ⟨?_, ?_, ?_, ?_⟩⟩
  · unfold mj_cnm; rw [List.getElem?_eq_getElem h]
  · unfold mj_N; rw [List.getElem?_eq_getElem h]
  · unfold mj_fown; rw [List.getElem?_eq_getElem h]
  · unfold mj_fnm; rw [List.getElem?_eq_getElem h]
  · unfold mj_fds; rw [List.getElem?_eq_getElem h]
  · unfold mj_fin; rw [List.getElem?_eq_getElem h]
theorem mj_N_lt {ci k : Nat} (h : k < mj_N ci) : ci < mj_cl.length := by
  unfold mj_N at h
  cases hc : mj_cl[ci]? with
  | none => rw [hc] at h; exact absurd h (Nat.not_lt_zero _)
  | some r => exact (List.getElem?_eq_some_iff.mp hc).1
theorem mj_ok_at {t : Nat} {ty : FieldType} (h : mj_at[t]? = some ty) (hp : ty = .int ∨ ty = .boolean ∨ ty = .long) : Cond.arrayClass ty ∈ mj_words := by
  obtain ⟨ix, hx⟩ := mj_all2_in mj_ck_at ty (List.mem_of_getElem? h)
  rcases hp with rfl | rfl | rfl <;> exact mj_wd_in hx
theorem mj_ok_ml5 {o x m' : Nat} (h : ((o, x), (m', 5)) ∈ mj_ml) : Cond.methodLink (mj_cn o) x Lib.objectInit ∈ mj_words ∧ Cond.instanceMethod Lib.objectInit ∈ mj_words ∧ Cond.code Lib.objectInit ⟨#[0xb1]⟩ 1 none ∈ mj_words := by
  obtain ⟨ix, hx⟩ := mj_ck_ml _ h
  unfold mj_mlb at hx
  rw [if_pos rfl] at hx
  simp only [Bool.and_eq_true] at hx
  exact ⟨mj_wd_in hx.1.1, mj_wd_in hx.1.2, mj_wd_in hx.2⟩
theorem mj_ok_ml {o x m' kd : Nat} (h : ((o, x), (m', kd)) ∈ mj_ml) (h5 : ¬ kd = 5) : Cond.code (mj_y m') (mj_code m') (mj_mxl m') (mj_ret m') ∈ mj_words ∧ Cond.initialized (mj_y m').cls ∈ mj_words ∧ ((mj_y m').cls ≠ "java/lang/invoke/MethodHandle" ∧ (mj_y m').cls ≠ "java/lang/invoke/VarHandle" ∧ (parseMethodDescriptor (mj_y m').desc).map (fun d => d.parameters.length) = some (mj_na m')) ∧ plainFor (mj_y m') = true ∧ mj_own m' = (mj_y m').cls ∧
    (kd = 0 ∨ kd = 2 ∨ kd = 4 → Cond.methodLink (mj_cn o) x (mj_y m') ∈ mj_words) ∧ (¬ (kd = 0 ∨ kd = 2 ∨ kd = 4) → (mj_cn o, x, mj_y m', mj_host) ∈ mj_nm) ∧ (kd ≤ 1 → Cond.static (mj_y m') ∈ mj_words) ∧ (¬ kd ≤ 1 → Cond.instanceMethod (mj_y m') ∈ mj_words) ∧
    (kd = 2 ∨ kd = 3 → Cond.selects (mj_y m').cls (mj_y m') (mj_y m') ∈ mj_words ∧ mj_cnm (mj_ci m') = (mj_y m').cls ∧ mj_ci m' < mj_cl.length) ∧ (kd = 4 → (mj_y m').name = "<init>" ∧ mj_ret m' = none) ∧ kd ≤ 4 := by
  obtain ⟨ix, hx⟩ := mj_ck_ml _ h
  unfold mj_mlb at hx
  dsimp only at hx
  rw [if_neg h5] at hx
  simp only [Bool.and_eq_true, decide_eq_true_eq] at hx
  obtain ⟨⟨⟨⟨⟨⟨⟨⟨a1, a2⟩, a3⟩, a4⟩, a5⟩, a7⟩, a8⟩, a9⟩, a10⟩ := hx
  refine ⟨mj_wd_in a1, mj_wd_in a2, a3, a4, a5, fun q => ?_, fun q => ?_, fun q => ?_, fun q => ?_, fun q => ?_, fun q => ?_, ?_⟩
  · rw [if_pos q] at a7; exact mj_wd_in a7
  · rw [if_neg q] at a7; simpa using a7
  · rw [if_pos q] at a8; exact mj_wd_in a8
  · rw [if_neg q] at a8; exact mj_wd_in a8
  · rw [if_pos q] at a9
    simp only [Bool.and_eq_true, decide_eq_true_eq] at a9
    exact ⟨mj_wd_in a9.1, a9.2.1, a9.2.2⟩
  · rw [if_pos q] at a10; simpa using a10
  · by_cases q : kd = 4
    · omega
    · rw [if_neg q] at a10
      simp only [decide_eq_true_eq] at a10
      omega
end
section
/-! A small machine over named cells: one step of a method's code as a function, runs by fuel, and what holds behind a run (mj_wp). Part 04 shows that the machine of the Statement does the same. -/
abbrev mj_H : Type := (Nat → Option va_E) × Nat × Nat
abbrev mj_L : Type := List (Option Value)
abbrev mj_R : Type := Option ((Nat × mj_L × List Value × mj_H) ⊕ ((Nat × List Value × List Value × Nat) ⊕ Option Value))
/-- the tag of the script's cell -/
abbrev mj_tag : Nat := 99
abbrev mj_O : Type := mj_L → List Value → mj_H → mj_R
def mj_up (hp : mj_H) (a : Nat) (e : va_E) : mj_H := (fun q => if q = a then some e else hp.1 q, hp.2)
def mj_push (hp : mj_H) (e : va_E) (k : Nat) : mj_H := (fun q => if q = hp.2.1 then some e else hp.1 q, hp.2.1 + 1, hp.2.2 + k)
def mj_nx (pc : Nat) (L : mj_L) (st : List Value) (hp : mj_H) : mj_R := some (.inl (pc, L, st, hp))
def mj_clr (L : mj_L) (i : Nat) : mj_L := match i with
  | 0 => L
  | j + 1 => match L[j]? with
    | some (some v) => if v.category = 2 then L.set j none else L
    | _ => L
def mj_st1 (L : mj_L) (i : Nat) (v : Value) : mj_L := (mj_clr L i).set i (some v)
def mj_st2 (L : mj_L) (i : Nat) (v : Value) : mj_L := ((mj_clr L i).set i (some v)).set (i + 1) none
def mj_no : mj_O := fun _ _ _ => none
theorem mj_none {P : Prop} {r : (Nat × mj_L × List Value × mj_H) ⊕ ((Nat × List Value × List Value × Nat) ⊕ Option Value)} (h : (none : mj_R) = some r) : P := by cases h
def mj_cst (v : Value) (n : Nat) : mj_O := fun L st hp => mj_nx n L (v :: st) hp
def mj_ild (i n : Nat) : mj_O := fun L st hp => match L[i]? with
  | some (some (.int x)) => mj_nx n L (.int x :: st) hp
  | _ => none
def mj_lld (i n : Nat) : mj_O := fun L st hp => match L[i]? with
  | some (some (.long x)) => mj_nx n L (.long x :: st) hp
  | _ => none
def mj_ald (i n : Nat) : mj_O := fun L st hp => match L[i]? with
  | some (some (.ref x)) => mj_nx n L (.ref x :: st) hp
  | some (some .null) => mj_nx n L (.null :: st) hp
  | _ => none
def mj_ist (i n : Nat) : mj_O := fun L st hp => match st with
  | .int x :: st => if i < L.length then mj_nx n (mj_st1 L i (.int x)) st hp else none
  | _ => none
def mj_lst (i n : Nat) : mj_O := fun L st hp => match st with
  | .long x :: st => if i + 1 < L.length then mj_nx n (mj_st2 L i (.long x)) st hp else none
  | _ => none
def mj_ast (i n : Nat) : mj_O := fun L st hp => match st with
  | .ref x :: st => if i < L.length then mj_nx n (mj_st1 L i (.ref x)) st hp else none
  | .null :: st => if i < L.length then mj_nx n (mj_st1 L i .null) st hp else none
  | _ => none
def mj_inc (i : Nat) (c : Int32) (n : Nat) : mj_O := fun L st hp => match L[i]? with
  | some (some (.int x)) => if i < L.length then mj_nx n (mj_st1 L i (.int (x + c))) st hp else none
  | _ => none
def mj_ii (f : Int32 → Int32 → Int32) (n : Nat) : mj_O := fun L st hp => match st with
  | .int y :: .int x :: st => mj_nx n L (.int (f x y) :: st) hp
  | _ => none
def mj_iz (f : Int32 → Int32 → Int32) (n : Nat) : mj_O := fun L st hp => match st with
  | .int y :: .int x :: st => if y = 0 then none else mj_nx n L (.int (f x y) :: st) hp
  | _ => none
def mj_i1 (f : Int32 → Int32) (n : Nat) : mj_O := fun L st hp => match st with
  | .int x :: st => mj_nx n L (.int (f x) :: st) hp
  | _ => none
def mj_ll (f : Int64 → Int64 → Int64) (n : Nat) : mj_O := fun L st hp => match st with
  | .long y :: .long x :: st => mj_nx n L (.long (f x y) :: st) hp
  | _ => none
def mj_l1 (f : Int64 → Int64) (n : Nat) : mj_O := fun L st hp => match st with
  | .long x :: st => mj_nx n L (.long (f x) :: st) hp
  | _ => none
def mj_li (f : Int64 → Int32 → Int64) (n : Nat) : mj_O := fun L st hp => match st with
  | .int y :: .long x :: st => mj_nx n L (.long (f x y) :: st) hp
  | _ => none
def mj_i2l (n : Nat) : mj_O := fun L st hp => match st with
  | .int x :: st => mj_nx n L (.long x.toInt64 :: st) hp
  | _ => none
def mj_l2i (n : Nat) : mj_O := fun L st hp => match st with
  | .long x :: st => mj_nx n L (.int x.toInt32 :: st) hp
  | _ => none
def mj_lcm (n : Nat) : mj_O := fun L st hp => match st with
  | .long y :: .long x :: st => mj_nx n L (.int (lg_cmp x y) :: st) hp
  | _ => none
def mj_if (f : Int32 → Bool) (t n : Nat) : mj_O := fun L st hp => match st with
  | .int x :: st => if f x = true then mj_nx t L st hp else mj_nx n L st hp
  | _ => none
def mj_ic (f : Int32 → Int32 → Bool) (t n : Nat) : mj_O := fun L st hp => match st with
  | .int y :: .int x :: st => if f x y = true then mj_nx t L st hp else mj_nx n L st hp
  | _ => none
def mj_ifn (t n : Nat) : mj_O := fun L st hp => match st with
  | .null :: st => mj_nx t L st hp
  | .ref _ :: st => mj_nx n L st hp
  | _ => none
def mj_go (t : Nat) : mj_O := fun L st hp => mj_nx t L st hp
def mj_tsw (lo hi : Int) (d : Nat) (ts : List Nat) : mj_O := fun L st hp => match st with
  | .int x :: st => if x.toInt < lo ∨ hi < x.toInt then mj_nx d L st hp else match ts[(x.toInt - lo).toNat]? with
    | some t => mj_nx t L st hp
    | none => none
  | _ => none
def mj_dup (n : Nat) : mj_O := fun L st hp => match st with
  | v :: st => if v.category = 1 then mj_nx n L (v :: v :: st) hp else none
  | _ => none
def mj_pop (n : Nat) : mj_O := fun L st hp => match st with
  | v :: st => if v.category = 1 then mj_nx n L st hp else none
  | _ => none
def mj_dx1 (n : Nat) : mj_O := fun L st hp => match st with
  | v :: w :: st => if v.category = 1 ∧ w.category = 1 then mj_nx n L (v :: w :: v :: st) hp else none
  | _ => none
def mj_dx2 (n : Nat) : mj_O := fun L st hp => match st with
  | v :: w :: u :: st => if v.category = 1 ∧ w.category = 1 ∧ u.category = 1 then mj_nx n L (v :: w :: u :: v :: st) hp else none
  | _ => none
def mj_d2 (n : Nat) : mj_O := fun L st hp => match st with
  | v :: w :: st => if v.category = 2 then mj_nx n L (v :: v :: w :: st) hp else if w.category = 1 then mj_nx n L (v :: w :: v :: w :: st) hp else none
  | v :: st => if v.category = 2 then mj_nx n L (v :: v :: st) hp else none
  | _ => none
def mj_d21 (n : Nat) : mj_O := fun L st hp => match st with
  | v :: w :: st => if v.category = 2 ∧ w.category = 1 then mj_nx n L (v :: w :: v :: st) hp else none
  | _ => none
def mj_get (ci k n : Nat) : mj_O := fun L st hp => match st with
  | .ref a :: st => match hp.1 a with
    | some (.inr (cj, fs)) => if cj = ci then match fs[k]? with
      | some v => mj_nx n L (v :: st) hp
      | none => none
      else none
    | _ => none
  | _ => none
def mj_put (ci k : Nat) (ty : FieldType) (n : Nat) : mj_O := fun L st hp => match st with
  | v :: .ref a :: st => match hp.1 a with
    | some (.inr (cj, fs)) => if cj = ci ∧ k < fs.length ∧ narrow ty v = v ∧ fits ty v = true then mj_nx n L st (mj_up hp a (.inr (ci, fs.set k v))) else none
    | _ => none
  | _ => none
def mj_nw (ci N : Nat) (fs : List Value) (n : Nat) : mj_O := fun L st hp => mj_nx n L (.ref hp.2.1 :: st) (mj_push hp (.inr (ci, fs)) N)
def mj_nwi (t n : Nat) : mj_O := fun L st hp => match st with
  | .int x :: st => if x < 0 ∨ 65536 < x.toNatClampNeg then none else mj_nx n L (.ref hp.2.1 :: st) (mj_push hp (.inl (t, x.toNatClampNeg, .inl (fun _ => 0))) x.toNatClampNeg)
  | _ => none
def mj_nwl (t n : Nat) : mj_O := fun L st hp => match st with
  | .int x :: st => if x < 0 ∨ 65536 < x.toNatClampNeg then none else mj_nx n L (.ref hp.2.1 :: st) (mj_push hp (.inl (t, x.toNatClampNeg, .inr (.inl (fun _ => 0)))) x.toNatClampNeg)
  | _ => none
def mj_nwq (t n : Nat) : mj_O := fun L st hp => match st with
  | .int x :: st => if x < 0 ∨ 65536 < x.toNatClampNeg then none else mj_nx n L (.ref hp.2.1 :: st) (mj_push hp (.inl (t, x.toNatClampNeg, .inr (.inr (.inr (.inr (fun _ => none)))))) x.toNatClampNeg)
  | _ => none
def mj_len (n : Nat) : mj_O := fun L st hp => match st with
  | .ref a :: st => match hp.1 a with
    | some (.inl (t, k, _)) => if t < mj_at.length ∨ t = mj_tag then mj_nx n L (.int (Int32.ofNat k) :: st) hp else none
    | _ => none
  | _ => none
def mj_iar (ty : FieldType) (n : Nat) : mj_O := fun L st hp => match st with
  | .int i :: .ref a :: st => match hp.1 a with
    | some (.inl (t, k, .inl f)) => if (mj_at[t]? = some ty ∨ (t = mj_tag ∧ ty = .int)) ∧ ¬ (i < 0 ∨ k ≤ i.toNatClampNeg) then mj_nx n L (.int (f i.toNatClampNeg) :: st) hp else none
    | _ => none
  | _ => none
def mj_lar (n : Nat) : mj_O := fun L st hp => match st with
  | .int i :: .ref a :: st => match hp.1 a with
    | some (.inl (t, k, .inr (.inl f))) => if mj_at[t]? = some .long ∧ ¬ (i < 0 ∨ k ≤ i.toNatClampNeg) then mj_nx n L (.long (f i.toNatClampNeg) :: st) hp else none
    | _ => none
  | _ => none
def mj_aar (n : Nat) : mj_O := fun L st hp => match st with
  | .int i :: .ref a :: st => match hp.1 a with
    | some (.inl (t, k, .inr (.inr (.inr (.inr f))))) => match mj_at[t]? with
      | some (.object _) => if ¬ (i < 0 ∨ k ≤ i.toNatClampNeg) then mj_nx n L (va_rf (f i.toNatClampNeg) :: st) hp else none
      | _ => none
    | _ => none
  | _ => none
def mj_iaw (ty : FieldType) (n : Nat) : mj_O := fun L st hp => match st with
  | .int x :: .int i :: .ref a :: st => match hp.1 a with
    | some (.inl (t, k, .inl f)) => if mj_at[t]? = some ty ∧ ¬ (i < 0 ∨ k ≤ i.toNatClampNeg) ∧ narrow ty (.int x) = .int x then mj_nx n L st (mj_up hp a (.inl (t, k, .inl (upd f i.toNatClampNeg x)))) else none
    | _ => none
  | _ => none
def mj_law (n : Nat) : mj_O := fun L st hp => match st with
  | .long x :: .int i :: .ref a :: st => match hp.1 a with
    | some (.inl (t, k, .inr (.inl f))) => if mj_at[t]? = some .long ∧ ¬ (i < 0 ∨ k ≤ i.toNatClampNeg) then mj_nx n L st (mj_up hp a (.inl (t, k, .inr (.inl (vp_updL f i.toNatClampNeg x))))) else none
    | _ => none
  | _ => none
/-- a reference comes into an array of its own class; or null -/
def mj_aaw (n : Nat) : mj_O := fun L st hp => match st with
  | .ref v :: .int i :: .ref a :: st => match hp.1 a, hp.1 v with
    | some (.inl (t, k, .inr (.inr (.inr (.inr f))))), some (.inr (ci, _)) => if mj_at[t]? = (mj_cl[ci]?).map (fun r => .object r.1) ∧ mj_cl[ci]?.isSome = true ∧ ¬ (i < 0 ∨ k ≤ i.toNatClampNeg) then mj_nx n L st (mj_up hp a (.inl (t, k, .inr (.inr (.inr (.inr (va_up f i.toNatClampNeg (some v)))))))) else none
    | _, _ => none
  | .null :: .int i :: .ref a :: st => match hp.1 a with
    | some (.inl (t, k, .inr (.inr (.inr (.inr f))))) => match mj_at[t]? with
      | some (.object _) => if ¬ (i < 0 ∨ k ≤ i.toNatClampNeg) then mj_nx n L st (mj_up hp a (.inl (t, k, .inr (.inr (.inr (.inr (va_up f i.toNatClampNeg none))))))) else none
      | _ => none
    | _ => none
  | _ => none
def mj_tk : Nat → List Value → List Value → Option (List Value × List Value)
  | 0, acc, st => some (acc, st)
  | _ + 1, _, [] => none
  | k + 1, acc, v :: st => mj_tk k (v :: acc) st
def mj_cat (st : List Value) : Nat := (st.map fun v => v.category).sum
def mj_ivs (m' na n : Nat) : mj_O := fun _ st _ => match mj_tk na [] st with
  | some (vs, rest) => if mj_cat rest ≤ 8 then some (.inr (.inl (m', vs, rest, n))) else none
  | none => none
def mj_ivv (m' na ci n : Nat) : mj_O := fun _ st hp => match mj_tk na [] st with
  | some (vs, .ref a :: rest) => match hp.1 a with
    | some (.inr (cj, _)) => if cj = ci ∧ mj_cat rest ≤ 8 then some (.inr (.inl (m', .ref a :: vs, rest, n))) else none
    | _ => none
  | _ => none
def mj_ivi (m' na n : Nat) : mj_O := fun _ st _ => match mj_tk na [] st with
  | some (vs, .ref a :: rest) => if mj_cat rest ≤ 8 then some (.inr (.inl (m', .ref a :: vs, rest, n))) else none
  | _ => none
/-- Object's constructor -/
def mj_ob (n : Nat) : mj_O := fun L st hp => match st with
  | .ref _ :: st => if mj_cat st ≤ 8 then mj_nx n L st hp else none
  | _ => none
def mj_rti (ty : FieldType) : mj_O := fun _ st _ => match st with
  | [.int v] => if narrow ty (.int v) = .int v then some (.inr (.inr (some (.int v)))) else none
  | _ => none
def mj_rtl : mj_O := fun _ st _ => match st with
  | [.long v] => some (.inr (.inr (some (.long v))))
  | _ => none
def mj_rta : mj_O := fun _ st _ => match st with
  | [.ref a] => some (.inr (.inr (some (.ref a))))
  | [.null] => some (.inr (.inr (some .null)))
  | _ => none
def mj_rtv : mj_O := fun _ st _ => match st with
  | [] => some (.inr (.inr none))
  | _ => none
/-- the locals with which a method begins -/
def mj_lay0 : List Value → mj_L
  | [] => []
  | v :: vs => if v.category = 2 then some v :: none :: mj_lay0 vs else some v :: mj_lay0 vs
def mj_lay (n : Nat) (vs : List Value) : mj_L := mj_lay0 vs ++ List.replicate (n - (mj_lay0 vs).length) none
def mj_find {α : Type} (t : List ((Nat × Nat) × α)) (o i : Nat) : Option α := (t.find? (fun r => r.1.1 == o && r.1.2 == i)).map (fun r => r.2)
def mj_b (pc : Nat) (off : Int) (f : Nat → mj_O) : mj_O := if 0 ≤ (pc : Int) + off then f ((pc : Int) + off).toNat else mj_no
def mj_bs (pc : Nat) (offs : List Int) : Bool := offs.all (fun off => decide (0 ≤ (pc : Int) + off))
/-- the length that each instruction has -/
def mj_ln : ClassFile.Instr → Nat
  | .bipush _ => 2
  | .sipush _ => 3
  | .ldc _ => 2
  | .ldc2_w _ => 3
  | .iload _ => 2
  | .lload _ => 2
  | .aload _ => 2
  | .istore _ => 2
  | .lstore _ => 2
  | .astore _ => 2
  | .iinc _ _ => 3
  | .ifCond _ _ => 3
  | .if_icmp _ _ => 3
  | .ifnull _ => 3
  | .ifnonnull _ => 3
  | .goto _ => 3
  | .getfield _ => 3
  | .putfield _ => 3
  | .new _ => 3
  | .newarray _ => 2
  | .anewarray _ => 3
  | .invokestatic _ => 3
  | .invokevirtual _ => 3
  | .invokespecial _ => 3
  | _ => 1
def mj_lok : ClassFile.Instr → Nat → Bool
  | .tableswitch _ _ _ _, _ => true
  | i, n => n == mj_ln i
/-- a call by its row: kinds 0 static, 1 static of a nest mate, 2 virtual, 3 virtual of a nest mate, 4 constructor, 5 Object's constructor -/
def mj_inv (m m' kd n : Nat) : mj_O := if kd = 5 then (if 1 ≤ mj_hgt m ∧ 20 ≤ mj_lr m then mj_ob n else mj_no) else if mj_hgt m' < mj_hgt m ∧ mj_lr m' + mj_mxl m' + 19 ≤ mj_lr m then (if kd ≤ 1 then mj_ivs m' (mj_na m') n else if kd ≤ 3 then mj_ivv m' (mj_na m') (mj_ci m') n else if kd = 4 then mj_ivi m' (mj_na m') n else mj_no) else mj_no
def mj_ex (m : Nat) (i : ClassFile.Instr) (pc : Nat) : mj_O := match i with
  | .aconst_null => mj_cst .null (pc + 1)
  | .iconst n => mj_cst (.int (Int32.ofInt n)) (pc + 1)
  | .bipush n => mj_cst (.int (Int8.ofInt n).toInt32) (pc + 2)
  | .sipush n => mj_cst (.int (Int16.ofInt n).toInt32) (pc + 3)
  | .lconst n => mj_cst (.long (Int64.ofNat (n : Nat))) (pc + 1)
  | .ldc x => match mj_find mj_kl (mj_on m) x with
    | some (.int v) => mj_cst (.int v) (pc + 2)
    | _ => mj_no
  | .ldc2_w x => match mj_find mj_kl (mj_on m) x with
    | some (.long v) => mj_cst (.long v) (pc + 3)
    | _ => mj_no
  | .iload i => mj_ild i (pc + 2)
  | .iload_n k => mj_ild (k : Nat) (pc + 1)
  | .lload i => mj_lld i (pc + 2)
  | .lload_n k => mj_lld (k : Nat) (pc + 1)
  | .aload i => mj_ald i (pc + 2)
  | .aload_n k => mj_ald (k : Nat) (pc + 1)
  | .istore i => mj_ist i (pc + 2)
  | .istore_n k => mj_ist (k : Nat) (pc + 1)
  | .lstore i => mj_lst i (pc + 2)
  | .lstore_n k => mj_lst (k : Nat) (pc + 1)
  | .astore i => mj_ast i (pc + 2)
  | .astore_n k => mj_ast (k : Nat) (pc + 1)
  | .iinc i n => mj_inc i (Int32.ofInt n) (pc + 3)
  | .iadd => mj_ii (fun x y => x + y) (pc + 1)
  | .isub => mj_ii (fun x y => x - y) (pc + 1)
  | .imul => mj_ii (fun x y => x * y) (pc + 1)
  | .iand => mj_ii (fun x y => x &&& y) (pc + 1)
  | .ior => mj_ii (fun x y => x ||| y) (pc + 1)
  | .ixor => mj_ii (fun x y => x ^^^ y) (pc + 1)
  | .ishl => mj_ii (fun x y => x <<< (y &&& 31)) (pc + 1)
  | .ishr => mj_ii (fun x y => x >>> (y &&& 31)) (pc + 1)
  | .iushr => mj_ii (fun x y => (x.toUInt32 >>> (y.toUInt32 &&& Int32.toUInt32 31)).toInt32) (pc + 1)
  | .idiv => mj_iz (fun x y => x / y) (pc + 1)
  | .irem => mj_iz (fun x y => x - x / y * y) (pc + 1)
  | .ineg => mj_i1 (fun x => -x) (pc + 1)
  | .ladd => mj_ll (fun x y => x + y) (pc + 1)
  | .lsub => mj_ll (fun x y => x - y) (pc + 1)
  | .lmul => mj_ll (fun x y => x * y) (pc + 1)
  | .land => mj_ll (fun x y => x &&& y) (pc + 1)
  | .lor => mj_ll (fun x y => x ||| y) (pc + 1)
  | .lxor => mj_ll (fun x y => x ^^^ y) (pc + 1)
  | .lneg => mj_l1 (fun x => -x) (pc + 1)
  | .lshl => mj_li (fun x y => x <<< (y.toInt64 &&& 63)) (pc + 1)
  | .lshr => mj_li (fun x y => x >>> (y.toInt64 &&& 63)) (pc + 1)
  | .lushr => mj_li (fun x y => (x.toUInt64 >>> (y.toInt64.toUInt64 &&& Int64.toUInt64 63)).toInt64) (pc + 1)
  | .i2l => mj_i2l (pc + 1)
  | .l2i => mj_l2i (pc + 1)
  | .lcmp => mj_lcm (pc + 1)
  | .ifCond .eq off => mj_b pc off fun t => mj_if (fun x => decide (x = 0)) t (pc + 3)
  | .ifCond .ne off => mj_b pc off fun t => mj_if (fun x => decide (¬ x = 0)) t (pc + 3)
  | .ifCond .lt off => mj_b pc off fun t => mj_if (fun x => decide (x < 0)) t (pc + 3)
  | .ifCond .ge off => mj_b pc off fun t => mj_if (fun x => decide (0 ≤ x)) t (pc + 3)
  | .ifCond .gt off => mj_b pc off fun t => mj_if (fun x => decide (0 < x)) t (pc + 3)
  | .ifCond .le off => mj_b pc off fun t => mj_if (fun x => decide (x ≤ 0)) t (pc + 3)
  | .if_icmp .eq off => mj_b pc off fun t => mj_ic (fun x y => decide (x = y)) t (pc + 3)
  | .if_icmp .ne off => mj_b pc off fun t => mj_ic (fun x y => decide (¬ x = y)) t (pc + 3)
  | .if_icmp .lt off => mj_b pc off fun t => mj_ic (fun x y => decide (x < y)) t (pc + 3)
  | .if_icmp .ge off => mj_b pc off fun t => mj_ic (fun x y => decide (y ≤ x)) t (pc + 3)
  | .if_icmp .gt off => mj_b pc off fun t => mj_ic (fun x y => decide (y < x)) t (pc + 3)
  | .if_icmp .le off => mj_b pc off fun t => mj_ic (fun x y => decide (x ≤ y)) t (pc + 3)
  | .ifnull off => mj_b pc off fun t => mj_ifn t (pc + 3)
  | .ifnonnull off => mj_b pc off fun t => mj_ifn (pc + 3) t
  | .goto off => mj_b pc off fun t => mj_go t
  | .tableswitch d lo hi offs => if mj_bs pc (d :: offs.toList) = true then mj_tsw lo hi ((pc : Int) + d).toNat (offs.toList.map fun o => ((pc : Int) + o).toNat) else mj_no
  | .dup => mj_dup (pc + 1)
  | .pop => mj_pop (pc + 1)
  | .dup_x1 => mj_dx1 (pc + 1)
  | .dup_x2 => mj_dx2 (pc + 1)
  | .dup2 => mj_d2 (pc + 1)
  | .dup2_x1 => mj_d21 (pc + 1)
  | .getfield x => match mj_find mj_fl (mj_on m) x with
    | some (ci, k) => mj_get ci k (pc + 3)
    | none => mj_no
  | .putfield x => match mj_find mj_fl (mj_on m) x with
    | some (ci, k) => if mj_fin ci k = false ∨ ((mj_y m).name = "<init>" ∧ mj_fown ci k = mj_own m) then mj_put ci k (mj_ty ci k) (pc + 3) else mj_no
    | none => mj_no
  | .new x => match mj_find mj_nl (mj_on m) x with
    | some ci => mj_nw ci (mj_N ci) (mj_def ci) (pc + 3)
    | none => mj_no
  | .newarray .int => if mj_at[mj_ti]? = some .int then mj_nwi mj_ti (pc + 2) else mj_no
  | .newarray .boolean => if mj_at[mj_tz]? = some .boolean then mj_nwi mj_tz (pc + 2) else mj_no
  | .newarray .long => if mj_at[mj_tl]? = some .long then mj_nwl mj_tl (pc + 2) else mj_no
  | .anewarray x => match mj_find mj_ql (mj_on m) x with
    | some t => mj_nwq t (pc + 3)
    | none => mj_no
  | .arraylength => mj_len (pc + 1)
  | .iaload => mj_iar .int (pc + 1)
  | .baload => mj_iar .boolean (pc + 1)
  | .laload => mj_lar (pc + 1)
  | .aaload => mj_aar (pc + 1)
  | .iastore => mj_iaw .int (pc + 1)
  | .bastore => mj_iaw .boolean (pc + 1)
  | .lastore => mj_law (pc + 1)
  | .aastore => mj_aaw (pc + 1)
  | .invokestatic x => match mj_find mj_ml (mj_on m) x with
    | some (m', kd) => if kd ≤ 1 then mj_inv m m' kd (pc + 3) else mj_no
    | none => mj_no
  | .invokevirtual x => match mj_find mj_ml (mj_on m) x with
    | some (m', kd) => if 2 ≤ kd ∧ kd ≤ 3 then mj_inv m m' kd (pc + 3) else mj_no
    | none => mj_no
  | .invokespecial x => match mj_find mj_ml (mj_on m) x with
    | some (m', kd) => if 4 ≤ kd then mj_inv m m' kd (pc + 3) else mj_no
    | none => mj_no
  | .ireturn => match mj_ret m with
    | some ty => mj_rti ty
    | none => mj_no
  | .lreturn => if mj_ret m = some .long then mj_rtl else mj_no
  | .areturn => match mj_ret m with
    | some (.object _) => mj_rta
    | some (.array _) => mj_rta
    | _ => mj_no
  | .return_ => if mj_ret m = none then mj_rtv else mj_no
  | _ => mj_no
def mj_step (m pc : Nat) : mj_O := match decode (mj_code m) pc with
  | .ok (i, len) => if mj_lok i len = true then mj_ex m i pc else mj_no
  | .error _ => mj_no
theorem mj_step_of {m pc len : Nat} {i : ClassFile.Instr} (h : decode (mj_code m) pc = .ok (i, len)) (hl : mj_lok i len = true) : mj_step m pc = mj_ex m i pc := by
  unfold mj_step
  rw [h]
  simp [hl]
theorem mj_step_inv {m pc : Nat} {L : mj_L} {st : List Value} {hp : mj_H} {r} (h : mj_step m pc L st hp = some r) : ∃ i len, decode (mj_code m) pc = .ok (i, len) ∧ mj_lok i len = true ∧ mj_ex m i pc L st hp = some r := by
  unfold mj_step at h
  cases hd : decode (mj_code m) pc with
  | error x => rw [hd] at h; simp [mj_no] at h
  | ok q =>
    obtain ⟨i, len⟩ := q
    rw [hd] at h
    by_cases hl : mj_lok i len = true
    · simp only [hl, if_true] at h
      exact ⟨i, len, rfl, hl, h⟩
    · simp [hl, mj_no] at h
def mj_run : Nat → Nat → Nat → mj_L → List Value → mj_H → Option (Option Value × mj_H)
  | 0, _, _, _, _, _ => none
  | f + 1, m, pc, L, st, hp => match mj_step m pc L st hp with
    | none => none
    | some (.inl (pc', L', st', hp')) => mj_run f m pc' L' st' hp'
    | some (.inr (.inl (m', vs, rest, n))) => if (mj_lay0 vs).length ≤ mj_mxl m' then (match mj_run f m' 0 (mj_lay (mj_mxl m') vs) [] hp with
      | none => none
      | some (r, hp') => mj_run f m n L (r.toList ++ rest) hp') else none
    | some (.inr (.inr r)) => some (r, hp)
theorem mj_run_mono : ∀ (f m pc : Nat) (L : mj_L) (st : List Value) (hp : mj_H) (x : Option Value × mj_H), mj_run f m pc L st hp = some x → mj_run (f + 1) m pc L st hp = some x := by
  intro f
  induction f with
  | zero => intro m pc L st hp x h; simp [mj_run] at h
  | succ f ih =>
    intro m pc L st hp x h
    rw [mj_run] at h ⊢
    cases hs : mj_step m pc L st hp with
    | none => simp [hs] at h
    | some q =>
      rw [hs] at h
      rcases q with ⟨pc', L', st', hp'⟩ | ⟨m', vs, rest, n⟩ | r
      · exact ih _ _ _ _ _ _ h
      · dsimp only at h ⊢
        by_cases hl : (mj_lay0 vs).length ≤ mj_mxl m'
        · rw [if_pos hl] at h ⊢
          cases hr : mj_run f m' 0 (mj_lay (mj_mxl m') vs) [] hp with
          | none => simp [hr] at h
          | some y =>
            obtain ⟨r, hp'⟩ := y
            rw [hr] at h
            rw [ih _ _ _ _ _ _ hr]
            exact ih _ _ _ _ _ _ h
        · rw [if_neg hl] at h; cases h
      · exact h
theorem mj_run_le {f g m pc : Nat} {L : mj_L} {st : List Value} {hp : mj_H} {x : Option Value × mj_H} (hfg : f ≤ g) (h : mj_run f m pc L st hp = some x) : mj_run g m pc L st hp = some x := by
  induction hfg with
  | refl => exact h
  | step _ ih => exact mj_run_mono _ _ _ _ _ _ _ ih
abbrev mj_Q : Type := Option Value → mj_H → Prop
def mj_wp (m pc : Nat) (L : mj_L) (st : List Value) (hp : mj_H) (Q : mj_Q) : Prop := ∃ (f : Nat) (r : Option Value) (hp' : mj_H), mj_run f m pc L st hp = some (r, hp') ∧ Q r hp'
def mj_call (m' : Nat) (vs : List Value) (hp : mj_H) (Q : mj_Q) : Prop := (mj_lay0 vs).length ≤ mj_mxl m' ∧ mj_wp m' 0 (mj_lay (mj_mxl m') vs) [] hp Q
def mj_wpR (m : Nat) (L : mj_L) (hp : mj_H) (Q : mj_Q) (r : mj_R) : Prop := match r with
  | none => False
  | some (.inl (pc', L', st', hp')) => mj_wp m pc' L' st' hp' Q
  | some (.inr (.inl (m', vs, rest, n))) => mj_call m' vs hp (fun r hp' => mj_wp m n L (r.toList ++ rest) hp' Q)
  | some (.inr (.inr r)) => Q r hp
theorem mj_wp_eq (m pc : Nat) (L : mj_L) (st : List Value) (hp : mj_H) (Q : mj_Q) : mj_wp m pc L st hp Q = mj_wpR m L hp Q (mj_step m pc L st hp) := by
  apply propext
  constructor
  · rintro ⟨f, r, hp', h, hq⟩
    cases f with
    | zero => simp [mj_run] at h
    | succ f =>
      rw [mj_run] at h
      cases hs : mj_step m pc L st hp with
      | none => simp [hs] at h
      | some q =>
        rw [hs] at h
        rcases q with ⟨pc', L', st', hp2⟩ | ⟨m', vs, rest, n⟩ | r'
        · exact ⟨f, r, hp', h, hq⟩
        · dsimp only at h
          by_cases hl : (mj_lay0 vs).length ≤ mj_mxl m'
          · rw [if_pos hl] at h
            cases hr : mj_run f m' 0 (mj_lay (mj_mxl m') vs) [] hp with
            | none => simp [hr] at h
            | some y =>
              obtain ⟨r1, hp1⟩ := y
              rw [hr] at h
              exact ⟨hl, f, r1, hp1, hr, f, r, hp', h, hq⟩
          · rw [if_neg hl] at h; cases h
        · cases h
          exact hq
  · intro h
    cases hs : mj_step m pc L st hp with
    | none => rw [hs] at h; exact h.elim
    | some q =>
      rw [hs] at h
      rcases q with ⟨pc', L', st', hp2⟩ | ⟨m', vs, rest, n⟩ | r'
      · obtain ⟨f, r, hp', h1, h2⟩ := h
        refine ⟨f + 1, r, hp', ?_, h2⟩
        rw [mj_run, hs]
        exact h1
      · obtain ⟨hl, f, r1, hp1, hr, f2, r, hp', h1, h2⟩ := h
        refine ⟨f + f2 + 1, r, hp', ?_, h2⟩
        rw [mj_run, hs]
        dsimp only
        rw [if_pos hl, mj_run_le (Nat.le_add_right f f2) hr]
        exact mj_run_le (Nat.le_add_left f2 f) h1
      · refine ⟨1, r', hp, ?_, h⟩
        rw [mj_run, hs]
theorem mj_wp_of {m pc : Nat} {o : mj_O} (h : mj_step m pc = o) (L : mj_L) (st : List Value) (hp : mj_H) (Q : mj_Q) : mj_wp m pc L st hp Q = mj_wpR m L hp Q (o L st hp) := by
  rw [mj_wp_eq, h]
theorem mj_wp_imp {m pc : Nat} {L : mj_L} {st : List Value} {hp : mj_H} {Q Q' : mj_Q} (h : mj_wp m pc L st hp Q) (hq : ∀ r hp', Q r hp' → Q' r hp') : mj_wp m pc L st hp Q' := by
  obtain ⟨f, r, hp', h1, h2⟩ := h
  exact ⟨f, r, hp', h1, hq r hp' h2⟩
theorem mj_call_imp {m : Nat} {vs : List Value} {hp : mj_H} {Q Q' : mj_Q} (h : mj_call m vs hp Q) (hq : ∀ r hp', Q r hp' → Q' r hp') : mj_call m vs hp Q' := ⟨h.1, mj_wp_imp h.2 hq⟩
end
section
/-! The small machine grows its heap alone, and its locals are the Statement's -/
def mj_mo (o : mj_O) : Prop := ∀ (L : mj_L) (st : List Value) (hp : mj_H) (pc' : Nat) (L' : mj_L) (st' : List Value) (hp' : mj_H), o L st hp = some (.inl (pc', L', st', hp')) → hp.2.1 ≤ hp'.2.1 ∧ hp.2.2 ≤ hp'.2.2
theorem mj_nx_eq {pc : Nat} {L : mj_L} {st : List Value} {hp : mj_H} {pc' : Nat} {L' : mj_L} {st' : List Value} {hp' : mj_H} (h : mj_nx pc L st hp = some (.inl (pc', L', st', hp'))) : pc = pc' ∧ L = L' ∧ st = st' ∧ hp = hp' := by
  simpa [mj_nx] using h
theorem mj_nx_mo {pc : Nat} {L : mj_L} {st : List Value} {hp : mj_H} {pc' : Nat} {L' : mj_L} {st' : List Value} {hp0 hp' : mj_H} (h : mj_nx pc L st hp = some (.inl (pc', L', st', hp'))) (h0 : hp0.2.1 ≤ hp.2.1 ∧ hp0.2.2 ≤ hp.2.2) : hp0.2.1 ≤ hp'.2.1 ∧ hp0.2.2 ≤ hp'.2.2 := by
  obtain ⟨-, -, -, rfl⟩ := mj_nx_eq h
  exact h0
theorem mj_rf {hp : mj_H} : hp.2.1 ≤ hp.2.1 ∧ hp.2.2 ≤ hp.2.2 := ⟨Nat.le_refl _, Nat.le_refl _⟩
theorem mj_up_mo {hp : mj_H} {a : Nat} {e : va_E} : hp.2.1 ≤ (mj_up hp a e).2.1 ∧ hp.2.2 ≤ (mj_up hp a e).2.2 := ⟨Nat.le_refl _, Nat.le_refl _⟩
theorem mj_push_mo {hp : mj_H} {e : va_E} {k : Nat} : hp.2.1 ≤ (mj_push hp e k).2.1 ∧ hp.2.2 ≤ (mj_push hp e k).2.2 := ⟨Nat.le_add_right _ _, Nat.le_add_right _ _⟩
theorem mj_mo_no : mj_mo mj_no := by
  intro L st hp pc' L' st' hp' h
  unfold mj_no at h
  (repeat' split at h) <;> first | (cases h; done) | (exact mj_nx_mo h mj_rf) | (exact mj_nx_mo h mj_up_mo) | (exact mj_nx_mo h mj_push_mo) | (simp at h; done)
theorem mj_mo_cst (v : Value) (n : Nat) : mj_mo (mj_cst v n) := by
  intro L st hp pc' L' st' hp' h
  unfold mj_cst at h
  (repeat' split at h) <;> first | (cases h; done) | (exact mj_nx_mo h mj_rf) | (exact mj_nx_mo h mj_up_mo) | (exact mj_nx_mo h mj_push_mo) | (simp at h; done)
theorem mj_mo_ild (i : Nat) (n : Nat) : mj_mo (mj_ild i n) := by
  intro L st hp pc' L' st' hp' h
  unfold mj_ild at h
  (repeat' split at h) <;> first | (cases h; done) | (exact mj_nx_mo h mj_rf) | (exact mj_nx_mo h mj_up_mo) | (exact mj_nx_mo h mj_push_mo) | (simp at h; done)
theorem mj_mo_lld (i : Nat) (n : Nat) : mj_mo (mj_lld i n) := by
  intro L st hp pc' L' st' hp' h
  unfold mj_lld at h
  (repeat' split at h) <;> first | (cases h; done) | (exact mj_nx_mo h mj_rf) | (exact mj_nx_mo h mj_up_mo) | (exact mj_nx_mo h mj_push_mo) | (simp at h; done)
theorem mj_mo_ald (i : Nat) (n : Nat) : mj_mo (mj_ald i n) := by
  intro L st hp pc' L' st' hp' h
  unfold mj_ald at h
  (repeat' split at h) <;> first | (cases h; done) | (exact mj_nx_mo h mj_rf) | (exact mj_nx_mo h mj_up_mo) | (exact mj_nx_mo h mj_push_mo) | (simp at h; done)
theorem mj_mo_ist (i : Nat) (n : Nat) : mj_mo (mj_ist i n) := by
  intro L st hp pc' L' st' hp' h
  unfold mj_ist at h
  (repeat' split at h) <;> first | (cases h; done) | (exact mj_nx_mo h mj_rf) | (exact mj_nx_mo h mj_up_mo) | (exact mj_nx_mo h mj_push_mo) | (simp at h; done)
theorem mj_mo_lst (i : Nat) (n : Nat) : mj_mo (mj_lst i n) := by
  intro L st hp pc' L' st' hp' h
  unfold mj_lst at h
  (repeat' split at h) <;> first | (cases h; done) | (exact mj_nx_mo h mj_rf) | (exact mj_nx_mo h mj_up_mo) | (exact mj_nx_mo h mj_push_mo) | (simp at h; done)
theorem mj_mo_ast (i : Nat) (n : Nat) : mj_mo (mj_ast i n) := by
  intro L st hp pc' L' st' hp' h
  unfold mj_ast at h
  (repeat' split at h) <;> first | (cases h; done) | (exact mj_nx_mo h mj_rf) | (exact mj_nx_mo h mj_up_mo) | (exact mj_nx_mo h mj_push_mo) | (simp at h; done)
theorem mj_mo_inc (i : Nat) (c : Int32) (n : Nat) : mj_mo (mj_inc i c n) := by
  intro L st hp pc' L' st' hp' h
  unfold mj_inc at h
  (repeat' split at h) <;> first | (cases h; done) | (exact mj_nx_mo h mj_rf) | (exact mj_nx_mo h mj_up_mo) | (exact mj_nx_mo h mj_push_mo) | (simp at h; done)
theorem mj_mo_ii (f : Int32 → Int32 → Int32) (n : Nat) : mj_mo (mj_ii f n) := by
  intro L st hp pc' L' st' hp' h
  unfold mj_ii at h
  (repeat' split at h) <;> first | (cases h; done) | (exact mj_nx_mo h mj_rf) | (exact mj_nx_mo h mj_up_mo) | (exact mj_nx_mo h mj_push_mo) | (simp at h; done)
theorem mj_mo_iz (f : Int32 → Int32 → Int32) (n : Nat) : mj_mo (mj_iz f n) := by
  intro L st hp pc' L' st' hp' h
  unfold mj_iz at h
  (repeat' split at h) <;> first | (cases h; done) | (exact mj_nx_mo h mj_rf) | (exact mj_nx_mo h mj_up_mo) | (exact mj_nx_mo h mj_push_mo) | (simp at h; done)
theorem mj_mo_i1 (f : Int32 → Int32) (n : Nat) : mj_mo (mj_i1 f n) := by
  intro L st hp pc' L' st' hp' h
  unfold mj_i1 at h
  (repeat' split at h) <;> first | (cases h; done) | (exact mj_nx_mo h mj_rf) | (exact mj_nx_mo h mj_up_mo) | (exact mj_nx_mo h mj_push_mo) | (simp at h; done)
theorem mj_mo_ll (f : Int64 → Int64 → Int64) (n : Nat) : mj_mo (mj_ll f n) := by
  intro L st hp pc' L' st' hp' h
  unfold mj_ll at h
  (repeat' split at h) <;> first | (cases h; done) | (exact mj_nx_mo h mj_rf) | (exact mj_nx_mo h mj_up_mo) | (exact mj_nx_mo h mj_push_mo) | (simp at h; done)
theorem mj_mo_l1 (f : Int64 → Int64) (n : Nat) : mj_mo (mj_l1 f n) := by
  intro L st hp pc' L' st' hp' h
  unfold mj_l1 at h
  (repeat' split at h) <;> first | (cases h; done) | (exact mj_nx_mo h mj_rf) | (exact mj_nx_mo h mj_up_mo) | (exact mj_nx_mo h mj_push_mo) | (simp at h; done)
theorem mj_mo_li (f : Int64 → Int32 → Int64) (n : Nat) : mj_mo (mj_li f n) := by
  intro L st hp pc' L' st' hp' h
  unfold mj_li at h
  (repeat' split at h) <;> first | (cases h; done) | (exact mj_nx_mo h mj_rf) | (exact mj_nx_mo h mj_up_mo) | (exact mj_nx_mo h mj_push_mo) | (simp at h; done)
theorem mj_mo_i2l (n : Nat) : mj_mo (mj_i2l n) := by
  intro L st hp pc' L' st' hp' h
  unfold mj_i2l at h
  (repeat' split at h) <;> first | (cases h; done) | (exact mj_nx_mo h mj_rf) | (exact mj_nx_mo h mj_up_mo) | (exact mj_nx_mo h mj_push_mo) | (simp at h; done)
theorem mj_mo_l2i (n : Nat) : mj_mo (mj_l2i n) := by
  intro L st hp pc' L' st' hp' h
  unfold mj_l2i at h
  (repeat' split at h) <;> first | (cases h; done) | (exact mj_nx_mo h mj_rf) | (exact mj_nx_mo h mj_up_mo) | (exact mj_nx_mo h mj_push_mo) | (simp at h; done)
theorem mj_mo_lcm (n : Nat) : mj_mo (mj_lcm n) := by
  intro L st hp pc' L' st' hp' h
  unfold mj_lcm at h
  (repeat' split at h) <;> first | (cases h; done) | (exact mj_nx_mo h mj_rf) | (exact mj_nx_mo h mj_up_mo) | (exact mj_nx_mo h mj_push_mo) | (simp at h; done)
theorem mj_mo_if (f : Int32 → Bool) (t : Nat) (n : Nat) : mj_mo (mj_if f t n) := by
  intro L st hp pc' L' st' hp' h
  unfold mj_if at h
  (repeat' split at h) <;> first | (cases h; done) | (exact mj_nx_mo h mj_rf) | (exact mj_nx_mo h mj_up_mo) | (exact mj_nx_mo h mj_push_mo) | (simp at h; done)
theorem mj_mo_ic (f : Int32 → Int32 → Bool) (t : Nat) (n : Nat) : mj_mo (mj_ic f t n) := by
  intro L st hp pc' L' st' hp' h
  unfold mj_ic at h
  (repeat' split at h) <;> first | (cases h; done) | (exact mj_nx_mo h mj_rf) | (exact mj_nx_mo h mj_up_mo) | (exact mj_nx_mo h mj_push_mo) | (simp at h; done)
theorem mj_mo_ifn (t : Nat) (n : Nat) : mj_mo (mj_ifn t n) := by
  intro L st hp pc' L' st' hp' h
  unfold mj_ifn at h
  (repeat' split at h) <;> first | (cases h; done) | (exact mj_nx_mo h mj_rf) | (exact mj_nx_mo h mj_up_mo) | (exact mj_nx_mo h mj_push_mo) | (simp at h; done)
theorem mj_mo_go (t : Nat) : mj_mo (mj_go t) := by
  intro L st hp pc' L' st' hp' h
  unfold mj_go at h
  (repeat' split at h) <;> first | (cases h; done) | (exact mj_nx_mo h mj_rf) | (exact mj_nx_mo h mj_up_mo) | (exact mj_nx_mo h mj_push_mo) | (simp at h; done)
theorem mj_mo_tsw (lo : Int) (hi : Int) (d : Nat) (ts : List Nat) : mj_mo (mj_tsw lo hi d ts) := by
  intro L st hp pc' L' st' hp' h
  unfold mj_tsw at h
  (repeat' split at h) <;> first | (cases h; done) | (exact mj_nx_mo h mj_rf) | (exact mj_nx_mo h mj_up_mo) | (exact mj_nx_mo h mj_push_mo) | (simp at h; done)
theorem mj_mo_dup (n : Nat) : mj_mo (mj_dup n) := by
  intro L st hp pc' L' st' hp' h
  unfold mj_dup at h
  (repeat' split at h) <;> first | (cases h; done) | (exact mj_nx_mo h mj_rf) | (exact mj_nx_mo h mj_up_mo) | (exact mj_nx_mo h mj_push_mo) | (simp at h; done)
theorem mj_mo_pop (n : Nat) : mj_mo (mj_pop n) := by
  intro L st hp pc' L' st' hp' h
  unfold mj_pop at h
  (repeat' split at h) <;> first | (cases h; done) | (exact mj_nx_mo h mj_rf) | (exact mj_nx_mo h mj_up_mo) | (exact mj_nx_mo h mj_push_mo) | (simp at h; done)
theorem mj_mo_dx1 (n : Nat) : mj_mo (mj_dx1 n) := by
  intro L st hp pc' L' st' hp' h
  unfold mj_dx1 at h
  (repeat' split at h) <;> first | (cases h; done) | (exact mj_nx_mo h mj_rf) | (exact mj_nx_mo h mj_up_mo) | (exact mj_nx_mo h mj_push_mo) | (simp at h; done)
theorem mj_mo_dx2 (n : Nat) : mj_mo (mj_dx2 n) := by
  intro L st hp pc' L' st' hp' h
  unfold mj_dx2 at h
  (repeat' split at h) <;> first | (cases h; done) | (exact mj_nx_mo h mj_rf) | (exact mj_nx_mo h mj_up_mo) | (exact mj_nx_mo h mj_push_mo) | (simp at h; done)
theorem mj_mo_d2 (n : Nat) : mj_mo (mj_d2 n) := by
  intro L st hp pc' L' st' hp' h
  unfold mj_d2 at h
  (repeat' split at h) <;> first | (cases h; done) | (exact mj_nx_mo h mj_rf) | (exact mj_nx_mo h mj_up_mo) | (exact mj_nx_mo h mj_push_mo) | (simp at h; done)
theorem mj_mo_d21 (n : Nat) : mj_mo (mj_d21 n) := by
  intro L st hp pc' L' st' hp' h
  unfold mj_d21 at h
  (repeat' split at h) <;> first | (cases h; done) | (exact mj_nx_mo h mj_rf) | (exact mj_nx_mo h mj_up_mo) | (exact mj_nx_mo h mj_push_mo) | (simp at h; done)
theorem mj_mo_get (ci : Nat) (k : Nat) (n : Nat) : mj_mo (mj_get ci k n) := by
  intro L st hp pc' L' st' hp' h
  unfold mj_get at h
  (repeat' split at h) <;> first | (cases h; done) | (exact mj_nx_mo h mj_rf) | (exact mj_nx_mo h mj_up_mo) | (exact mj_nx_mo h mj_push_mo) | (simp at h; done)
theorem mj_mo_put (ci : Nat) (k : Nat) (ty : FieldType) (n : Nat) : mj_mo (mj_put ci k ty n) := by
  intro L st hp pc' L' st' hp' h
  unfold mj_put at h
  (repeat' split at h) <;> first | (cases h; done) | (exact mj_nx_mo h mj_rf) | (exact mj_nx_mo h mj_up_mo) | (exact mj_nx_mo h mj_push_mo) | (simp at h; done)
theorem mj_mo_nw (ci : Nat) (N : Nat) (fs : List Value) (n : Nat) : mj_mo (mj_nw ci N fs n) := by
  intro L st hp pc' L' st' hp' h
  unfold mj_nw at h
  (repeat' split at h) <;> first | (cases h; done) | (exact mj_nx_mo h mj_rf) | (exact mj_nx_mo h mj_up_mo) | (exact mj_nx_mo h mj_push_mo) | (simp at h; done)
theorem mj_mo_nwi (t : Nat) (n : Nat) : mj_mo (mj_nwi t n) := by
  intro L st hp pc' L' st' hp' h
  unfold mj_nwi at h
  (repeat' split at h) <;> first | (cases h; done) | (exact mj_nx_mo h mj_rf) | (exact mj_nx_mo h mj_up_mo) | (exact mj_nx_mo h mj_push_mo) | (simp at h; done)
theorem mj_mo_nwl (t : Nat) (n : Nat) : mj_mo (mj_nwl t n) := by
  intro L st hp pc' L' st' hp' h
  unfold mj_nwl at h
  (repeat' split at h) <;> first | (cases h; done) | (exact mj_nx_mo h mj_rf) | (exact mj_nx_mo h mj_up_mo) | (exact mj_nx_mo h mj_push_mo) | (simp at h; done)
theorem mj_mo_nwq (t : Nat) (n : Nat) : mj_mo (mj_nwq t n) := by
  intro L st hp pc' L' st' hp' h
  unfold mj_nwq at h
  (repeat' split at h) <;> first | (cases h; done) | (exact mj_nx_mo h mj_rf) | (exact mj_nx_mo h mj_up_mo) | (exact mj_nx_mo h mj_push_mo) | (simp at h; done)
theorem mj_mo_len (n : Nat) : mj_mo (mj_len n) := by
  intro L st hp pc' L' st' hp' h
  unfold mj_len at h
  (repeat' split at h) <;> first | (cases h; done) | (exact mj_nx_mo h mj_rf) | (exact mj_nx_mo h mj_up_mo) | (exact mj_nx_mo h mj_push_mo) | (simp at h; done)
theorem mj_mo_iar (ty : FieldType) (n : Nat) : mj_mo (mj_iar ty n) := by
  intro L st hp pc' L' st' hp' h
  unfold mj_iar at h
  (repeat' split at h) <;> first | (cases h; done) | (exact mj_nx_mo h mj_rf) | (exact mj_nx_mo h mj_up_mo) | (exact mj_nx_mo h mj_push_mo) | (simp at h; done)
theorem mj_mo_lar (n : Nat) : mj_mo (mj_lar n) := by
  intro L st hp pc' L' st' hp' h
  unfold mj_lar at h
  (repeat' split at h) <;> first | (cases h; done) | (exact mj_nx_mo h mj_rf) | (exact mj_nx_mo h mj_up_mo) | (exact mj_nx_mo h mj_push_mo) | (simp at h; done)
theorem mj_mo_aar (n : Nat) : mj_mo (mj_aar n) := by
  intro L st hp pc' L' st' hp' h
  unfold mj_aar at h
  (repeat' split at h) <;> first | (cases h; done) | (exact mj_nx_mo h mj_rf) | (exact mj_nx_mo h mj_up_mo) | (exact mj_nx_mo h mj_push_mo) | (simp at h; done)
theorem mj_mo_iaw (ty : FieldType) (n : Nat) : mj_mo (mj_iaw ty n) := by
  intro L st hp pc' L' st' hp' h
  unfold mj_iaw at h
  (repeat' split at h) <;> first | (cases h; done) | (exact mj_nx_mo h mj_rf) | (exact mj_nx_mo h mj_up_mo) | (exact mj_nx_mo h mj_push_mo) | (simp at h; done)
theorem mj_mo_law (n : Nat) : mj_mo (mj_law n) := by
  intro L st hp pc' L' st' hp' h
  unfold mj_law at h
  (repeat' split at h) <;> first | (cases h; done) | (exact mj_nx_mo h mj_rf) | (exact mj_nx_mo h mj_up_mo) | (exact mj_nx_mo h mj_push_mo) | (simp at h; done)
theorem mj_mo_aaw (n : Nat) : mj_mo (mj_aaw n) := by
  intro L st hp pc' L' st' hp' h
  unfold mj_aaw at h
  (repeat' split at h) <;> first | (cases h; done) | (exact mj_nx_mo h mj_rf) | (exact mj_nx_mo h mj_up_mo) | (exact mj_nx_mo h mj_push_mo) | (simp at h; done)
theorem mj_mo_ivs (m' : Nat) (na : Nat) (n : Nat) : mj_mo (mj_ivs m' na n) := by
  intro L st hp pc' L' st' hp' h
  unfold mj_ivs at h
  (repeat' split at h) <;> first | (cases h; done) | (exact mj_nx_mo h mj_rf) | (exact mj_nx_mo h mj_up_mo) | (exact mj_nx_mo h mj_push_mo) | (simp at h; done)
theorem mj_mo_ivv (m' : Nat) (na : Nat) (ci : Nat) (n : Nat) : mj_mo (mj_ivv m' na ci n) := by
  intro L st hp pc' L' st' hp' h
  unfold mj_ivv at h
  (repeat' split at h) <;> first | (cases h; done) | (exact mj_nx_mo h mj_rf) | (exact mj_nx_mo h mj_up_mo) | (exact mj_nx_mo h mj_push_mo) | (simp at h; done)
theorem mj_mo_ivi (m' : Nat) (na : Nat) (n : Nat) : mj_mo (mj_ivi m' na n) := by
  intro L st hp pc' L' st' hp' h
  unfold mj_ivi at h
  (repeat' split at h) <;> first | (cases h; done) | (exact mj_nx_mo h mj_rf) | (exact mj_nx_mo h mj_up_mo) | (exact mj_nx_mo h mj_push_mo) | (simp at h; done)
theorem mj_mo_ob (n : Nat) : mj_mo (mj_ob n) := by
  intro L st hp pc' L' st' hp' h
  unfold mj_ob at h
  (repeat' split at h) <;> first | (cases h; done) | (exact mj_nx_mo h mj_rf) | (exact mj_nx_mo h mj_up_mo) | (exact mj_nx_mo h mj_push_mo) | (simp at h; done)
theorem mj_mo_rti (ty : FieldType) : mj_mo (mj_rti ty) := by
  intro L st hp pc' L' st' hp' h
  unfold mj_rti at h
  (repeat' split at h) <;> first | (cases h; done) | (exact mj_nx_mo h mj_rf) | (exact mj_nx_mo h mj_up_mo) | (exact mj_nx_mo h mj_push_mo) | (simp at h; done)
theorem mj_mo_rtl : mj_mo (mj_rtl) := by
  intro L st hp pc' L' st' hp' h
  unfold mj_rtl at h
  (repeat' split at h) <;> first | (cases h; done) | (exact mj_nx_mo h mj_rf) | (exact mj_nx_mo h mj_up_mo) | (exact mj_nx_mo h mj_push_mo) | (simp at h; done)
theorem mj_mo_rta : mj_mo (mj_rta) := by
  intro L st hp pc' L' st' hp' h
  unfold mj_rta at h
  (repeat' split at h) <;> first | (cases h; done) | (exact mj_nx_mo h mj_rf) | (exact mj_nx_mo h mj_up_mo) | (exact mj_nx_mo h mj_push_mo) | (simp at h; done)
theorem mj_mo_rtv : mj_mo (mj_rtv) := by
  intro L st hp pc' L' st' hp' h
  unfold mj_rtv at h
  (repeat' split at h) <;> first | (cases h; done) | (exact mj_nx_mo h mj_rf) | (exact mj_nx_mo h mj_up_mo) | (exact mj_nx_mo h mj_push_mo) | (simp at h; done)
theorem mj_mo_b {pc : Nat} {off : Int} {f : Nat → mj_O} (h : ∀ t, mj_mo (f t)) : mj_mo (mj_b pc off f) := by
  unfold mj_b
  split
  · exact h _
  · exact mj_mo_no
theorem mj_mo_inv (m m' kd n : Nat) : mj_mo (mj_inv m m' kd n) := by
  unfold mj_inv
  (repeat' split) <;> first | exact mj_mo_ob _ | exact mj_mo_ivs _ _ _ | exact mj_mo_ivv _ _ _ _ | exact mj_mo_ivi _ _ _ | exact mj_mo_no
theorem mj_mo_ex (m : Nat) (i : ClassFile.Instr) (pc : Nat) : mj_mo (mj_ex m i pc) := by
  cases i with
  | ifCond cond off => cases cond <;> exact mj_mo_b (fun t => mj_mo_if _ _ _)
  | if_icmp cond off => cases cond <;> exact mj_mo_b (fun t => mj_mo_ic _ _ _)
  | ifnull off => exact mj_mo_b (fun t => mj_mo_ifn _ _)
  | ifnonnull off => exact mj_mo_b (fun t => mj_mo_ifn _ _)
  | goto off => exact mj_mo_b (fun t => mj_mo_go _)
  | tableswitch d lo hi offs =>
    unfold mj_ex
    dsimp only
    split
    · exact mj_mo_tsw _ _ _ _
    · exact mj_mo_no
  | newarray ty => cases ty <;> (unfold mj_ex; dsimp only; first | exact mj_mo_no | (split <;> first | exact mj_mo_nwi _ _ | exact mj_mo_nwl _ _ | exact mj_mo_no))
  | ldc x => unfold mj_ex; dsimp only; split <;> first | exact mj_mo_cst _ _ | exact mj_mo_no
  | ldc2_w x => unfold mj_ex; dsimp only; split <;> first | exact mj_mo_cst _ _ | exact mj_mo_no
  | getfield x => unfold mj_ex; dsimp only; split <;> first | exact mj_mo_get _ _ _ | exact mj_mo_no
  | putfield x => unfold mj_ex; dsimp only; (repeat' split) <;> first | exact mj_mo_put _ _ _ _ | exact mj_mo_no
  | new x => unfold mj_ex; dsimp only; split <;> first | exact mj_mo_nw _ _ _ _ | exact mj_mo_no
  | anewarray x => unfold mj_ex; dsimp only; split <;> first | exact mj_mo_nwq _ _ | exact mj_mo_no
  | invokestatic x => unfold mj_ex; dsimp only; (repeat' split) <;> first | exact mj_mo_inv _ _ _ _ | exact mj_mo_no
  | invokevirtual x => unfold mj_ex; dsimp only; (repeat' split) <;> first | exact mj_mo_inv _ _ _ _ | exact mj_mo_no
  | invokespecial x => unfold mj_ex; dsimp only; (repeat' split) <;> first | exact mj_mo_inv _ _ _ _ | exact mj_mo_no
  | ireturn => unfold mj_ex; dsimp only; split <;> first | exact mj_mo_rti _ | exact mj_mo_no
  | lreturn => unfold mj_ex; dsimp only; split <;> first | exact mj_mo_rtl | exact mj_mo_no
  | areturn => unfold mj_ex; dsimp only; split <;> first | exact mj_mo_rta | exact mj_mo_no
  | return_ => unfold mj_ex; dsimp only; split <;> first | exact mj_mo_rtv | exact mj_mo_no
  | _ => first | exact mj_mo_no | exact mj_mo_cst _ _ | exact mj_mo_ild _ _ | exact mj_mo_lld _ _ | exact mj_mo_ald _ _ | exact mj_mo_ist _ _ | exact mj_mo_lst _ _ | exact mj_mo_ast _ _ | exact mj_mo_inc _ _ _ | exact mj_mo_ii _ _ | exact mj_mo_iz _ _ | exact mj_mo_i1 _ _ | exact mj_mo_ll _ _ | exact mj_mo_l1 _ _ | exact mj_mo_li _ _ | exact mj_mo_i2l _ | exact mj_mo_l2i _ | exact mj_mo_lcm _ | exact mj_mo_dup _ | exact mj_mo_pop _ | exact mj_mo_dx1 _ | exact mj_mo_dx2 _ | exact mj_mo_d2 _ | exact mj_mo_d21 _ | exact mj_mo_len _ | exact mj_mo_iar _ _ | exact mj_mo_lar _ | exact mj_mo_aar _ | exact mj_mo_iaw _ _ | exact mj_mo_law _ | exact mj_mo_aaw _
theorem mj_grow : ∀ (f m pc : Nat) (L : mj_L) (st : List Value) (hp : mj_H) (r : Option Value) (hp' : mj_H), mj_run f m pc L st hp = some (r, hp') → hp.2.1 ≤ hp'.2.1 ∧ hp.2.2 ≤ hp'.2.2 := by
  intro f
  induction f with
  | zero => intro m pc L st hp r hp' h; simp [mj_run] at h
  | succ f ih =>
    intro m pc L st hp r hp' h
    rw [mj_run] at h
    cases hs : mj_step m pc L st hp with
    | none => simp [hs] at h
    | some q =>
      rw [hs] at h
      rcases q with ⟨pc', L', st', hp2⟩ | ⟨m', vs, rest, n⟩ | r'
      · obtain ⟨i, len, -, -, hx⟩ := mj_step_inv hs
        have h1 := mj_mo_ex m i pc L st hp pc' L' st' hp2 hx
        have h2 := ih _ _ _ _ _ _ _ h
        exact ⟨Nat.le_trans h1.1 h2.1, Nat.le_trans h1.2 h2.2⟩
      · dsimp only at h
        by_cases hl : (mj_lay0 vs).length ≤ mj_mxl m'
        · rw [if_pos hl] at h
          cases hr : mj_run f m' 0 (mj_lay (mj_mxl m') vs) [] hp with
          | none => simp [hr] at h
          | some y =>
            obtain ⟨r1, hp1⟩ := y
            rw [hr] at h
            have h1 := ih _ _ _ _ _ _ _ hr
            have h2 := ih _ _ _ _ _ _ _ h
            exact ⟨Nat.le_trans h1.1 h2.1, Nat.le_trans h1.2 h2.2⟩
        · rw [if_neg hl] at h; cases h
      · cases h
        exact mj_rf
/-! locals -/
def mj_en : Nat → mj_L → List (Nat × Value)
  | _, [] => []
  | i, none :: L => mj_en (i + 1) L
  | i, some v :: L => (i, v) :: mj_en (i + 1) L
theorem mj_en_mem : ∀ (L : mj_L) (i : Nat) (q : Nat × Value), q ∈ mj_en i L ↔ ∃ j, q.1 = i + j ∧ L[j]? = some (some q.2) := by
  intro L
  induction L with
  | nil => intro i q; simp [mj_en]
  | cons o L ih =>
    intro i q
    have key : (∃ j, q.1 = i + 1 + j ∧ L[j]? = some (some q.2)) ↔ ∃ j, q.1 = i + (j + 1) ∧ (o :: L)[j + 1]? = some (some q.2) := by
      constructor
      · rintro ⟨j, h1, h2⟩
        exact ⟨j, by omega, by simpa using h2⟩
      · rintro ⟨j, h1, h2⟩
        exact ⟨j, by omega, by simpa using h2⟩
    cases o with
    | none =>
      rw [mj_en, ih, key]
      constructor
      · rintro ⟨j, h1, h2⟩
        exact ⟨j + 1, h1, h2⟩
      · rintro ⟨j, h1, h2⟩
        cases j with
        | zero => simp at h2
        | succ j => exact ⟨j, h1, h2⟩
    | some v =>
      rw [mj_en, List.mem_cons, ih, key]
      constructor
      · rintro (h | ⟨j, h1, h2⟩)
        · subst h
          exact ⟨0, rfl, by simp⟩
        · exact ⟨j + 1, h1, h2⟩
      · rintro ⟨j, h1, h2⟩
        cases j with
        | zero =>
          left
          obtain ⟨q1, q2⟩ := q
          simp at h1 h2
          rw [h1, h2]
        | succ j => exact Or.inr ⟨j, h1, h2⟩
def mj_hasL (ls : Array Slot) (nL : Nat) (L : mj_L) : Prop := L.length = nL ∧ ls.size = nL ∧ lv_wf ls ∧ ∀ (i : Nat) (v : Value), L[i]? = some (some v) → ls[i]? = some (.val v)
theorem mj_hasL.has {ls : Array Slot} {nL : Nat} {L : mj_L} (h : mj_hasL ls nL L) : lv_has ls nL (mj_en 0 L) := by
  refine ⟨h.2.1, h.2.2.1, fun q hq => ?_⟩
  obtain ⟨j, h1, h2⟩ := (mj_en_mem L 0 q).mp hq
  rw [Nat.zero_add] at h1
  rw [h1]
  exact h.2.2.2 j q.2 h2
theorem mj_clr_len (L : mj_L) (i : Nat) : (mj_clr L i).length = L.length := by
  unfold mj_clr
  (repeat' split) <;> simp
theorem mj_clr_at {L : mj_L} {i j : Nat} {w : Value} (h : (mj_clr L i)[j]? = some (some w)) : L[j]? = some (some w) ∧ ¬ (j + 1 = i ∧ w.category = 2) := by
  unfold mj_clr at h
  split at h
  · exact ⟨h, by omega⟩
  · rename_i k
    split at h
    · rename_i v hv
      split at h
      · rename_i hc
        by_cases hj : k = j
        · subst hj
          rw [List.getElem?_set_self (List.getElem?_eq_some_iff.mp hv).1] at h
          cases h
        · rw [List.getElem?_set_ne hj] at h
          exact ⟨h, by omega⟩
      · rename_i hc
        refine ⟨h, fun q => ?_⟩
        have hk : k = j := by omega
        subst hk
        rw [hv] at h
        cases h
        exact hc q.2
    · rename_i hv
      refine ⟨h, fun q => ?_⟩
      have hk : k = j := by omega
      subst hk
      exact hv w h
theorem mj_hasL.st1 {ls' : Array Slot} {nL : Nat} {L : mj_L} {i : Nat} {v : Value} (hn : L.length = nL) (hi : i < nL) (h : lv_has ls' nL ((i, v) :: (mj_en 0 L).filter (fun q => !(q.1 == i) && !(q.1 + 1 == i && q.2.category == 2)))) : mj_hasL ls' nL (mj_st1 L i v) := by
  refine ⟨by unfold mj_st1; rw [List.length_set, mj_clr_len]; exact hn, h.1, h.2.1, fun j w hj => ?_⟩
  unfold mj_st1 at hj
  by_cases hij : i = j
  · subst hij
    rw [List.getElem?_set_self (by rw [mj_clr_len]; omega)] at hj
    cases hj
    exact h.2.2 (i, v) List.mem_cons_self
  · rw [List.getElem?_set_ne hij] at hj
    obtain ⟨h1, h2⟩ := mj_clr_at hj
    refine h.2.2 (j, w) (List.mem_cons_of_mem _ (List.mem_filter.mpr ⟨(mj_en_mem L 0 (j, w)).mpr ⟨j, (Nat.zero_add j).symm, h1⟩, ?_⟩))
    have : ¬ j = i := fun q => hij q.symm
    by_cases q1 : j + 1 = i
    · have q2 : ¬ w.category = 2 := fun q => h2 ⟨q1, q⟩
      simp [this, q1, q2]
    · simp [this, q1]
theorem mj_hasL.st2 {ls' : Array Slot} {nL : Nat} {L : mj_L} {i : Nat} {v : Value} (hn : L.length = nL) (hi : i + 1 < nL) (h : lv_has ls' nL ((i, v) :: (mj_en 0 L).filter (fun q => !(q.1 == i) && (!(q.1 == i + 1) && !(q.1 + 1 == i && q.2.category == 2))))) : mj_hasL ls' nL (mj_st2 L i v) := by
  refine ⟨by unfold mj_st2; rw [List.length_set, List.length_set, mj_clr_len]; exact hn, h.1, h.2.1, fun j w hj => ?_⟩
  unfold mj_st2 at hj
  by_cases hij1 : i + 1 = j
  · subst hij1
    rw [List.getElem?_set_self (by rw [List.length_set, mj_clr_len]; omega)] at hj
    cases hj
  · rw [List.getElem?_set_ne hij1] at hj
    by_cases hij : i = j
    · subst hij
      rw [List.getElem?_set_self (by rw [mj_clr_len]; omega)] at hj
      cases hj
      exact h.2.2 (i, v) List.mem_cons_self
    · rw [List.getElem?_set_ne hij] at hj
      obtain ⟨h1, h2⟩ := mj_clr_at hj
      refine h.2.2 (j, w) (List.mem_cons_of_mem _ (List.mem_filter.mpr ⟨(mj_en_mem L 0 (j, w)).mpr ⟨j, (Nat.zero_add j).symm, h1⟩, ?_⟩))
      have a1 : ¬ j = i := fun q => hij q.symm
      have a2 : ¬ j = i + 1 := fun q => hij1 q.symm
      by_cases q1 : j + 1 = i
      · have q2 : ¬ w.category = 2 := fun q => h2 ⟨q1, q⟩
        simp [a1, a2, q1, q2]
      · simp [a1, a2, q1]
theorem mj_lay0_len (vs : List Value) : (mj_lay0 vs).length = (lg_sl vs).length := by
  induction vs with
  | nil => rfl
  | cons v vs ih =>
    by_cases hc : v.category = 2
    · simp only [mj_lay0, hc, if_true, lg_sl, List.flatMap_cons, List.length_append, List.length_cons] at ih ⊢
      simp only [List.length_nil]
      omega
    · simp only [mj_lay0, hc, if_false, lg_sl, List.flatMap_cons, List.length_append, List.length_cons] at ih ⊢
      simp only [List.length_nil]
      omega
theorem mj_lay0_at : ∀ (vs : List Value) (k j : Nat) (w : Value), (mj_lay0 vs)[j]? = some (some w) → (k + j, w) ∈ lv_args k vs := by
  intro vs
  induction vs with
  | nil => intro k j w h; simp [mj_lay0] at h
  | cons v vs ih =>
    intro k j w h
    by_cases hc : v.category = 2
    · simp only [mj_lay0, hc, if_true] at h
      simp only [lv_args, hc, if_true]
      match j, h with
      | 0, h =>
        simp at h
        subst h
        exact List.mem_cons_self
      | 1, h => simp at h
      | j + 2, h =>
        simp at h
        have := ih (k + 2) j w h
        rw [show k + (j + 2) = k + 2 + j by omega]
        exact List.mem_cons_of_mem _ this
    · simp only [mj_lay0, hc, if_false] at h
      simp only [lv_args, hc, if_false]
      match j, h with
      | 0, h =>
        simp at h
        subst h
        exact List.mem_cons_self
      | j + 1, h =>
        simp at h
        have := ih (k + 1) j w h
        rw [show k + (j + 1) = k + 1 + j by omega]
        exact List.mem_cons_of_mem _ this
theorem mj_lay_has {vs : List Value} {n : Nat} (hl : (mj_lay0 vs).length ≤ n) : mj_hasL ((lg_sl vs ++ List.replicate (n - (lg_sl vs).length) Slot.unset).toArray) n (mj_lay n vs) := by
  have h := lv_entry vs (n := n) (by rw [← mj_lay0_len]; exact hl)
  refine ⟨by unfold mj_lay; rw [List.length_append, List.length_replicate]; omega, h.1, h.2.1, fun j w hj => ?_⟩
  unfold mj_lay at hj
  by_cases hjl : j < (mj_lay0 vs).length
  · rw [List.getElem?_append_left hjl] at hj
    have := mj_lay0_at vs 0 j w hj
    rw [Nat.zero_add] at this
    exact h.2.2 (j, w) this
  · rw [List.getElem?_append_right (by omega)] at hj
    have := List.eq_of_mem_replicate (List.mem_of_getElem? hj)
    cases this
end
section
/-! What the small machine does, the Statement's machine does: heaps, then each instruction -/
def mj_real (ca : Nat → ClassId) (e : va_E) : va_E := match e with
  | .inl x => .inl (ca x.1, x.2)
  | .inr o => .inr o
/-- where things are: the classes' numbers and slots, the arrays' classes, the script's cell and its ints, the first address that is not old -/
abbrev mj_G : Type := va_G × (Nat → ClassId) × Nat × Nat × (Nat → Int32) × Nat
def mj_cell (G : mj_G) (H : Heap) (a : Nat) (e : va_E) : Prop := (a = G.2.2.1 ∧ e = .inl (mj_tag, G.2.2.2.1, .inl G.2.2.2.2.1)) ∨ (G.2.2.2.2.2 ≤ a ∧ (∀ x, e ≠ .inl (mj_tag, x)) ∧ va_at G.1 mj_cl (a, mj_real G.2.1 e) H)
def mj_rep (G : mj_G) (hp : mj_H) (H : Heap) : Prop := H.size = hp.2.1 ∧ G.2.2.2.2.2 ≤ hp.2.1 ∧ ∀ (a : Nat) (e : va_E), hp.1 a = some e → mj_cell G H a e
def mj_tys (ca : Nat → ClassId) : List (ClassId × FieldType) := (List.range mj_at.length).map fun t => (ca t, mj_at.getD t .int)
theorem mj_tys_at {ca : Nat → ClassId} {t : Nat} {ty : FieldType} (h : mj_at[t]? = some ty) : (mj_tys ca)[t]? = some (ca t, ty) := by
  have hlt : t < mj_at.length := (List.getElem?_eq_some_iff.mp h).1
  unfold mj_tys
  rw [List.getElem?_map, List.getElem?_range hlt]
  simp [List.getD_eq_getElem?_getD, h]
def mj_K (G : mj_G) (U : State) : Prop := va_K G.1 mj_cl (mj_tys G.2.1) U ∧ (∀ q ∈ mj_nm, va_Nw (.methodLinkNest q.1 q.2.1 q.2.2.1 q.2.2.2) U) ∧ ∀ C ∈ mj_ao, va_AO C U
theorem mj_K.warm {G : mj_G} {s U : State} (hW : s.WarmedH U.vm) (h : mj_K G s) : mj_K G U := ⟨h.1.moved hW.alike, fun q hq => va_Nw.warmM hW (h.2.1 q hq), fun C hC => va_AO.moved hW.alike (h.2.2 C hC)⟩
theorem mj_K.same {G : mj_G} {u U : State} (hv : u.vm = U.vm) (h : mj_K G u) : mj_K G U := ⟨h.1.moved (by rw [hv]; exact Vm.Alike.refl _), fun q hq => va_Nw.same rfl hv (h.2.1 q hq), fun C hC => va_AO.moved (by rw [hv]; exact Vm.Alike.refl _) (h.2.2 C hC)⟩
def mj_At (G : mj_G) (m : Nat) (p : Program) (s : State) (mi : MethodId) (args : Array Value) (meth : Method) (c : Code) : Prop :=
  p.tables.exec = Jvm.exec ∧ c.code = mj_code m ∧ c.maxLocals = mj_mxl m ∧ s.vm.findClass (mj_own m) = some mi.cls ∧ (∀ w ∈ mj_words, w.before args s = true) ∧ mj_K G s ∧ meth.name = (mj_y m).name ∧ va_X G.2.2.1 G.2.2.2.1 G.2.2.2.2.1 s s.heap ∧ G.2.2.1 < G.2.2.2.2.2
def mj_in (G : mj_G) (m : Nat) (s : State) (n0 k0 : Nat) (L : mj_L) (hp : mj_H) (H : Heap) (locs : List Loc) (cells slots : Nat) (ls : Array Slot) : Prop :=
  mj_hasL ls (mj_mxl m) L ∧ mj_rep G hp H ∧ (∀ q : Nat, q < G.2.2.2.2.2 → H[q]? = s.heap[q]?) ∧ (∀ q ∈ locs, G.2.2.2.2.2 ≤ q.base) ∧ n0 + cells = hp.2.1 ∧ k0 + slots = hp.2.2
theorem mj_P1 {D : va_G} {cl : List vw_C} {q : Nat × va_E} {H : Heap} (h : va_at D cl q H) : va_P D cl [q] H := by
  intro k x hx
  have hk : k < 1 := (List.getElem?_eq_some_iff.mp hx).1
  obtain rfl : k = 0 := by omega
  cases hx
  exact h
theorem mj_P2 {D : va_G} {cl : List vw_C} {q r : Nat × va_E} {H : Heap} (h : va_at D cl q H) (h' : va_at D cl r H) : va_P D cl [q, r] H := by
  intro k x hx
  have hk : k < 2 := (List.getElem?_eq_some_iff.mp hx).1
  match k, hx with
  | 0, hx => cases hx; exact h
  | 1, hx => cases hx; exact h'
theorem mj_cell.o {G : mj_G} {H : Heap} {a : Nat} {o : Nat × List Value} (h : mj_cell G H a (.inr o)) : G.2.2.2.2.2 ≤ a ∧ va_at G.1 mj_cl (a, .inr o) H := by
  rcases h with ⟨-, h⟩ | ⟨h1, -, h3⟩
  · cases h
  · exact ⟨h1, h3⟩
theorem mj_cell.a {G : mj_G} {H : Heap} {a t : Nat} {x : vp_A} (h : mj_cell G H a (.inl (t, x))) (ht : t < mj_at.length) : G.2.2.2.2.2 ≤ a ∧ va_at G.1 mj_cl (a, .inl (G.2.1 t, x)) H := by
  rcases h with ⟨-, h⟩ | ⟨h1, -, h3⟩
  · cases h
    exact absurd ht (by decide)
  · exact ⟨h1, h3⟩
theorem mj_cell.s {G : mj_G} {H : Heap} {a : Nat} {x : vp_A} (h : mj_cell G H a (.inl (mj_tag, x))) : a = G.2.2.1 ∧ x = (G.2.2.2.1, .inl G.2.2.2.2.1) := by
  rcases h with ⟨h1, h⟩ | ⟨-, h2, -⟩
  · cases h
    exact ⟨h1, rfl⟩
  · exact absurd rfl (h2 x)
theorem mj_rep.up {G : mj_G} {hp : mj_H} {H H' : Heap} {a : Nat} {e : va_E} (h : mj_rep G hp H) (ha : G.2.2.2.2.2 ≤ a) (hz : H'.size = H.size) (ho : ∀ q : Nat, q ≠ a → H'[q]? = H[q]?) (hb : G.2.2.1 < G.2.2.2.2.2) (he : ∀ x, e ≠ .inl (mj_tag, x)) (hc : va_at G.1 mj_cl (a, mj_real G.2.1 e) H') : mj_rep G (mj_up hp a e) H' := by
  refine ⟨hz.trans h.1, h.2.1, fun q x hq => ?_⟩
  unfold mj_up at hq
  dsimp only at hq
  by_cases hqa : q = a
  · rw [if_pos hqa] at hq
    cases hq
    subst hqa
    exact Or.inr ⟨ha, he, hc⟩
  · rw [if_neg hqa] at hq
    rcases h.2.2 q x hq with h1 | ⟨h1, h2, h3⟩
    · exact Or.inl h1
    · exact Or.inr ⟨h1, h2, h3.kept (ho q hqa)⟩
theorem mj_rep.push {G : mj_G} {hp : mj_H} {H H' : Heap} {e : va_E} {k : Nat} (h : mj_rep G hp H) (hz : H'.size = H.size + 1) (ho : ∀ q : Nat, q < H.size → H'[q]? = H[q]?) (hb : G.2.2.1 < G.2.2.2.2.2) (he : ∀ x, e ≠ .inl (mj_tag, x)) (hc : va_at G.1 mj_cl (H.size, mj_real G.2.1 e) H') : mj_rep G (mj_push hp e k) H' := by
  refine ⟨by rw [hz, h.1]; rfl, Nat.le_trans h.2.1 (Nat.le_add_right _ _), fun q x hq => ?_⟩
  unfold mj_push at hq
  dsimp only at hq
  by_cases hqa : q = hp.2.1
  · rw [if_pos hqa] at hq
    cases hq
    rw [← h.1] at hqa
    subst hqa
    exact Or.inr ⟨by rw [h.1]; exact h.2.1, he, hc⟩
  · rw [if_neg hqa] at hq
    rcases h.2.2 q x hq with h1 | ⟨h1, h2, h3⟩
    · exact Or.inl h1
    · exact Or.inr ⟨h1, h2, h3.kept (ho q h3.lt)⟩
theorem mj_lk {len n : Nat} (h : (len == n) = true) : len = n := by simpa using h
section MJS
variable {p : Program} {l : Launch} {e : Env} {R : Room} {s : State} {mi : MethodId} {args : Array Value} {below : List Frame} {meth : Method} {c : Code} {Q : State → Prop} {G : mj_G} {m n0 k0 pc pc' : Nat} {L L' : mj_L} {st st' : List Value} {hp hp' : mj_H}
def mj_Go (G : mj_G) (p : Program) (l : Launch) (e : Env) (R : Room) (s : State) (mi : MethodId) (args : Array Value) (below : List Frame) (meth : Method) (c : Code) (Q : State → Prop) (m n0 k0 pc : Nat) (L : mj_L) (st : List Value) (hp : mj_H) : Prop :=
  ∀ (H : Heap) (locs : List Loc) (cells slots : Nat) (ls : Array Slot), mj_in G m s n0 k0 L hp H locs cells slots ls → W p l e R s mi args below meth c H locs cells slots Q (F0 mi pc ls st)
theorem mj_in.up {H H' : Heap} {locs : List Loc} {cells slots : Nat} {ls : Array Slot} {a j : Nat} {x : va_E} (hI : mj_in G m s n0 k0 L hp H locs cells slots ls) (ha : G.2.2.2.2.2 ≤ a) (hz : H'.size = H.size) (ho : ∀ q : Nat, q ≠ a → H'[q]? = H[q]?) (hb : G.2.2.1 < G.2.2.2.2.2) (he : ∀ y, x ≠ .inl (mj_tag, y)) (hc : va_at G.1 mj_cl (a, mj_real G.2.1 x) H') : mj_in G m s n0 k0 L (mj_up hp a x) H' (locs ++ [⟨a, j⟩]) cells slots ls := by
  obtain ⟨h1, h2, h3, h4, h5, h6⟩ := hI
  refine ⟨h1, h2.up ha hz ho hb he hc, fun q hq => ?_, fun q hq => ?_, h5, h6⟩
  · rw [ho q (by omega)]
    exact h3 q hq
  · rcases List.mem_append.mp hq with hq | hq
    · exact h4 q hq
    · rw [List.mem_singleton.mp hq]
      exact ha
theorem mj_in.push {H H' : Heap} {locs : List Loc} {cells slots k : Nat} {ls : Array Slot} {x : va_E} (hI : mj_in G m s n0 k0 L hp H locs cells slots ls) (hz : H'.size = H.size + 1) (ho : ∀ q : Nat, q < H.size → H'[q]? = H[q]?) (hb : G.2.2.1 < G.2.2.2.2.2) (he : ∀ y, x ≠ .inl (mj_tag, y)) (hc : va_at G.1 mj_cl (H.size, mj_real G.2.1 x) H') : mj_in G m s n0 k0 L (mj_push hp x k) H' locs (cells + 1) (slots + k) ls := by
  obtain ⟨h1, h2, h3, h4, h5, h6⟩ := hI
  refine ⟨h1, h2.push hz ho hb he hc, fun q hq => ?_, h4, ?_, ?_⟩
  · rw [ho q (by have := h2.1; have := h2.2.1; omega)]
    exact h3 q hq
  · show n0 + (cells + 1) = hp.2.1 + 1
    omega
  · show k0 + (slots + k) = hp.2.2 + k
    omega
theorem mj_in.loc {H : Heap} {locs : List Loc} {cells slots : Nat} {ls ls' : Array Slot} (hI : mj_in G m s n0 k0 L hp H locs cells slots ls) (h : mj_hasL ls' (mj_mxl m) L') : mj_in G m s n0 k0 L' hp H locs cells slots ls' := ⟨h, hI.2⟩
/-- getfield -/
theorem mj_go_get (A : mj_At G m p s mi args meth c) {x ci k : Nat} (hf : mj_find mj_fl (mj_on m) x = some (ci, k)) (hd : decode (mj_code m) pc = .ok (.getfield x, 3)) (h : mj_get ci k (pc + 3) L st hp = some (.inl (pc', L', st', hp'))) (kk : mj_Go G p l e R s mi args below meth c Q m n0 k0 pc' L' st' hp') : mj_Go G p l e R s mi args below meth c Q m n0 k0 pc L st hp := by
  obtain ⟨hx, hb, hml, hown, hts, hK, hnm, hX, hbb⟩ := A
  intro H locs cells slots ls hI
  unfold mj_get at h
  split at h
  · rename_i a rest
    split at h
    · rename_i cj fs hc
      split at h
      · rename_i hcj
        subst hcj
        split at h
        · rename_i v hv
          obtain ⟨rfl, rfl, rfl, rfl⟩ := mj_nx_eq h
          obtain ⟨hk, hlink⟩ := mj_ok_fl (mj_find_mem hf)
          obtain ⟨r, hr, h1, h2, h3⟩ := mj_cl_of (mj_N_lt hk)
          obtain ⟨C, T, N⟩ := r
          obtain ⟨o1, o2, o3, o4, o5, o6⟩ := mj_ok_cl hr
          obtain ⟨f1, f2, f3, f4⟩ := h3 k
          rw [h2] at hk
          rw [f1, f2, f3] at hlink
          exact va_get (D := G.1) (ci := cj) (v := v) (C := C) (T := T) (N := N) (Ts := mj_words) hx hb hts o1 hown hK.1 (mj_P1 (hI.2.1.2.2 a _ hc).o.2) 0 rfl hr k hk (hts _ hlink) (fun _ h9 => h9) hv hd (kk _ _ _ _ _ hI)
        · exact mj_none h
      · exact mj_none h
    · exact mj_none h
  · exact mj_none h
/-- putfield -/
theorem mj_go_put (A : mj_At G m p s mi args meth c) {x ci k : Nat} (hf : mj_find mj_fl (mj_on m) x = some (ci, k)) (hfin : mj_fin ci k = false ∨ ((mj_y m).name = "<init>" ∧ mj_fown ci k = mj_own m)) (hd : decode (mj_code m) pc = .ok (.putfield x, 3)) (h : mj_put ci k (mj_ty ci k) (pc + 3) L st hp = some (.inl (pc', L', st', hp'))) (kk : mj_Go G p l e R s mi args below meth c Q m n0 k0 pc' L' st' hp') : mj_Go G p l e R s mi args below meth c Q m n0 k0 pc L st hp := by
  obtain ⟨hx, hb, hml, hown, hts, hK, hnm, hX, hbb⟩ := A
  intro H locs cells slots ls hI
  unfold mj_put at h
  split at h
  · rename_i v a rest
    split at h
    · rename_i cj fs hc
      split at h
      · rename_i hcj
        obtain ⟨rfl, hkl, hnar, hfit⟩ := hcj
        obtain ⟨rfl, rfl, rfl, rfl⟩ := mj_nx_eq h
        obtain ⟨hk, hlink⟩ := mj_ok_fl (mj_find_mem hf)
        obtain ⟨r, hr, h1, h2, h3⟩ := mj_cl_of (mj_N_lt hk)
        obtain ⟨C, T, N⟩ := r
        obtain ⟨o1, o2, o3, o4, o5, o6⟩ := mj_ok_cl hr
        obtain ⟨f1, f2, f3, f4⟩ := h3 k
        rw [h2] at hk
        rw [f1, f2, f3] at hlink
        rw [f1, f4] at hfin
        have hcl := (hI.2.1.2.2 a _ hc).o
        have hap := va_apart (own := mj_own m) (D := G.1) (tys := mj_tys G.2.1) hts o1 (mj_ty cj) o4 o6 hK.1 hr
        obtain ⟨r', e1, cell, q1, q2, q3, q4⟩ := hcl.2
        have hr' : r' = (C, T, N) := Option.some.inj (e1.symm.trans hr)
        subst hr'
        obtain ⟨hS, hfc, kC, hkC, hkind⟩ := hK.1.1 cj _ hr
        obtain ⟨cf, kf, fi, f, hi, hsl⟩ := hS k hk
        have hlay := hts _ (o1 _ (u_in_lay hk))
        have hst := (u_facts hfc hkC (u_lays hts o1 hk) hi).1
        have fin : ∀ H' : Heap, H'[a]? = some (cell.setSlot f.slot v) → H'.size = H.size → (∀ q : Nat, q ≠ a → H'[q]? = H[q]?) → W p l e R s mi args below meth c H' (locs ++ [⟨a, f.slot⟩]) cells slots Q (F0 mi (pc + 3) ls rest) := by
          intro H' e1 e2 e3
          refine kk _ _ _ _ _ (hI.up hcl.1 e2 e3 hbb (fun y hy => by cases hy) ?_)
          rw [hsl] at e1
          exact ⟨_, hr, t_OB.to (V := updV (vp_V fs) k v) ⟨_, e1, q2, q3, t_set q4 hap hk v⟩ (fun j _ => vp_updV_set hkl v j)⟩
        unfold u_lay at hlay
        by_cases hfn : (T k).2.2.2 = true
        · rw [if_pos hfn] at hlay
          obtain ⟨hin2, hdecl⟩ : (mj_y m).name = "<init>" ∧ (T k).1 = mj_own m := by
            rcases hfin with h9 | h9
            · dsimp only at h9; rw [hfn] at h9; cases h9
            · exact h9
          have hcf : mi.cls = cf := by
            obtain ⟨_, _, c', _, _, _, -, -, hf', -, -, -, hown2, -⟩ := Cond.laysFinal_spec hlay
            have e1 : c' = cf := by have := hi.symm.trans hf'; simp at this; exact this.1.symm
            rw [hdecl] at hown2
            rw [← e1]; exact Option.some.inj (hown.symm.trans hown2)
          have h6 := u_fits hfc hkC hkind (Or.inr hlay) hi (o4 k hk) hnar hfit
          exact W.putFinK hx hb hown (hts _ hlink) hi hst hcf (hnm.trans hin2) (by rw [q2]; exact h6) q1 q3 (by rw [hsl]; exact k2_hasslot (q4 k hk)) rfl rfl hd fin
        · rw [if_neg hfn] at hlay
          have h6 := u_store hfc hkC hkind hlay hi (o4 k hk) hnar hfit
          exact W.putK hx hb (f := f) ⟨hown, hts _ hlink, ⟨_, _, _, hi⟩, hst⟩ (by rw [q2]; exact h6) q1 q3 (by rw [hsl]; exact k2_hasslot (q4 k hk)) rfl rfl hd fin
      · exact mj_none h
    · exact mj_none h
  · exact mj_none h
/-- new -/
theorem mj_go_new (A : mj_At G m p s mi args meth c) {x ci : Nat} (hR : hp'.2.1 ≤ n0 + R.cells ∧ hp'.2.2 ≤ k0 + R.slots) (hf : mj_find mj_nl (mj_on m) x = some ci) (hd : decode (mj_code m) pc = .ok (.new x, 3)) (h : mj_nw ci (mj_N ci) (mj_def ci) (pc + 3) L st hp = some (.inl (pc', L', st', hp'))) (kk : mj_Go G p l e R s mi args below meth c Q m n0 k0 pc' L' st' hp') : mj_Go G p l e R s mi args below meth c Q m n0 k0 pc L st hp := by
  obtain ⟨hx, hb, hml, hown, hts, hK, hnm, hX, hbb⟩ := A
  intro H locs cells slots ls hI
  obtain ⟨hlt, hlink⟩ := mj_ok_nl (mj_find_mem hf)
  obtain ⟨r, hr, h1, h2, h3⟩ := mj_cl_of hlt
  obtain ⟨C, T, N⟩ := r
  obtain ⟨o1, o2, o3, o4, o5, o6⟩ := mj_ok_cl hr
  rw [h1] at hlink
  unfold mj_nw at h
  rw [h2] at h
  obtain ⟨rfl, rfl, rfl, rfl⟩ := mj_nx_eq h
  have hKn := hK.1.1 ci _ hr
  have g5 := hI.2.2.2.2.1
  have g6 := hI.2.2.2.2.2
  have hR1 : hp.2.1 + 1 ≤ n0 + R.cells := hR.1
  have hR2 : hp.2.2 + N ≤ k0 + R.slots := hR.2
  refine W.newcK (n := N) hx hb hown (hts _ hlink) (hts _ o2) (hts _ o3) rfl hd (by omega) (by omega) hKn.2.1 hI.2.1.1 fun H1 kC hkC e1 z1 q1 => ?_
  refine kk _ _ _ _ _ (hI.push (by rw [z1, hI.2.1.1]) (fun q hq => q1 q (by rw [← hI.2.1.1]; exact hq)) hbb (fun y hy => by cases hy) ?_)
  rw [hI.2.1.1]
  refine ⟨_, hr, (u_born (mj_ty ci) hts o1 hKn hkC e1 o4).to (fun j hj => ?_)⟩
  have hj' : j < (mj_def ci).length := by rw [o5]; exact hj
  have hj2 : j < (mj_tyl.getD ci []).length := by unfold mj_def at hj'; rwa [List.length_map] at hj'
  unfold vp_V mj_ty
  simp only [mj_def, List.getD_eq_getElem?_getD, List.getElem?_map]
  rw [List.getD_eq_getElem?_getD] at hj2
  rw [List.getElem?_eq_getElem hj2]
  rfl
/-- newarray of ints, booleans, longs -/
theorem mj_go_nwa (A : mj_At G m p s mi args meth c) {t : Nat} {ty : FieldType} {at_ : ClassFile.ArrayType} {x : Int32} {rest : List Value} {z : (Nat → Int32) ⊕ (Nat → Int64) ⊕ (Nat → UInt32) ⊕ (Nat → UInt64) ⊕ (Nat → Option Nat)} (hn : ¬ (x < 0 ∨ 65536 < x.toNatClampNeg)) (hty : newarray.typeOf at_ = ty) (hat : mj_at[t]? = some ty) (hw : Cond.arrayClass ty ∈ mj_words) (hB : componentBytes ty ≤ 8) (hta : ∀ cA : ClassId, va_RA s cA ty → s.vm.findClass ("[" ++ ty.toString) = some cA) (hz : ∀ (cA : ClassId) (N : Nat), vp_cell cA (N, z) = arrV cA N (fun _ => defaultValue ty)) (hR : (mj_push hp (.inl (t, x.toNatClampNeg, z)) x.toNatClampNeg).2.1 ≤ n0 + R.cells ∧ (mj_push hp (.inl (t, x.toNatClampNeg, z)) x.toNatClampNeg).2.2 ≤ k0 + R.slots) (hd : decode (mj_code m) pc = .ok (.newarray at_, 2))
    (kk : mj_Go G p l e R s mi args below meth c Q m n0 k0 (pc + 2) L (.ref hp.2.1 :: rest) (mj_push hp (.inl (t, x.toNatClampNeg, z)) x.toNatClampNeg)) : mj_Go G p l e R s mi args below meth c Q m n0 k0 pc L (.int x :: rest) hp := by
  obtain ⟨hx, hb, hml, hown, hts, hK, hnm, hX, hbb⟩ := A
  intro H locs cells slots ls hI
  have hn1 : ¬ x < 0 := fun q => hn (Or.inl q)
  have hn2 : x.toNatClampNeg ≤ 65536 := Nat.not_lt.mp fun q => hn (Or.inr q)
  have g5 := hI.2.2.2.2.1
  have g6 := hI.2.2.2.2.2
  have hR1 : hp.2.1 + 1 ≤ n0 + R.cells := hR.1
  have hR2 : hp.2.2 + x.toNatClampNeg ≤ k0 + R.slots := hR.2
  subst hty
  refine va_newaK hx hb (hts _ hw) rfl hd rfl hn1 rfl (Nat.le_trans (Nat.mul_le_mul hn2 hB) (by decide)) (by omega) (by omega) hI.2.1.1 fun H1 cA e1 z1 q1 hAr hNm => ?_
  have hca : cA = G.2.1 t := Option.some.inj (hNm.symm.trans (hta _ (hK.1.2 t _ (mj_tys_at hat)).2))
  subst hca
  refine kk _ _ _ _ _ (hI.push (by rw [z1, hI.2.1.1]) (fun q hq => q1 q (by rw [← hI.2.1.1]; exact hq)) hbb (fun y hy => ?_) ?_)
  · cases hy
    exact absurd (List.getElem?_eq_some_iff.mp hat).1 (by decide)
  · rw [hI.2.1.1]
    show H1[hp.2.1]? = some (vp_cell _ _)
    rw [hz]
    exact e1
/-- anewarray -/
theorem mj_go_nwq (A : mj_At G m p s mi args meth c) {x t : Nat} (hf : mj_find mj_ql (mj_on m) x = some t) (hR : hp'.2.1 ≤ n0 + R.cells ∧ hp'.2.2 ≤ k0 + R.slots) (hd : decode (mj_code m) pc = .ok (.anewarray x, 3)) (h : mj_nwq t (pc + 3) L st hp = some (.inl (pc', L', st', hp'))) (kk : mj_Go G p l e R s mi args below meth c Q m n0 k0 pc' L' st' hp') : mj_Go G p l e R s mi args below meth c Q m n0 k0 pc L st hp := by
  obtain ⟨hx, hb, hml, hown, hts, hK, hnm, hX, hbb⟩ := A
  intro H locs cells slots ls hI
  unfold mj_nwq at h
  split at h
  · rename_i v rest
    split at h
    · exact mj_none h
    · rename_i hn
      obtain ⟨rfl, rfl, rfl, rfl⟩ := mj_nx_eq h
      obtain ⟨C, hat, hao, hlink⟩ := mj_ok_ql (mj_find_mem hf)
      have hn1 : ¬ v < 0 := fun q => hn (Or.inl q)
      have hn2 : v.toNatClampNeg ≤ 65536 := Nat.not_lt.mp fun q => hn (Or.inr q)
      have g5 := hI.2.2.2.2.1
      have g6 := hI.2.2.2.2.2
      have hR1 : hp.2.1 + 1 ≤ n0 + R.cells := hR.1
      have hR2 : hp.2.2 + v.toNatClampNeg ≤ k0 + R.slots := hR.2
      refine W.anew hx hb hown (hts _ hlink) (va_AO.use (hK.2.2 C hao)) rfl hd rfl hn1 (by omega) (by omega) (by omega) fun cA kA comp f1 f2 f3 f4 => ?_
      obtain ⟨kA', comp', g1, g2, g3, g4⟩ := (hK.1.2 t _ (mj_tys_at hat)).2
      have hca : cA = G.2.1 t := Option.some.inj (f1.symm.trans g4)
      subst hca
      have hsz := hI.2.1.1
      generalize hH1 : H.push ({ cls := G.2.1 t, slots := Array.replicate v.toNatClampNeg .null, vm := .none } : Cell) = H1
      have z1 : H1.size = H.size + 1 := by rw [← hH1, Array.size_push]
      have e1 : H1[H.size]? = some (arrV (G.2.1 t) v.toNatClampNeg (fun _ => .null)) := by rw [← hH1, Array.getElem?_push_size, ← arrV_new]
      have o1 : ∀ q : Nat, q < H.size → H1[q]? = H[q]? := fun q hq => by rw [← hH1, Array.getElem?_push, if_neg (Nat.ne_of_lt hq)]
      rw [hsz]
      refine kk _ _ _ _ _ (hI.push z1 o1 hbb (fun y hy => ?_) ?_)
      · cases hy
        exact absurd (List.getElem?_eq_some_iff.mp hat).1 (by decide)
      · show H1[H.size]? = some (vp_cell _ _)
        rw [vp_cell_q]
        exact e1
  · exact mj_none h
theorem mj_tag_ge {t : Nat} {ty : FieldType} (hat : mj_at[t]? = some ty) : t < mj_at.length := (List.getElem?_eq_some_iff.mp hat).1
/-- arraylength -/
theorem mj_go_len (A : mj_At G m p s mi args meth c) (hd : decode (mj_code m) pc = .ok (.arraylength, 1)) (h : mj_len (pc + 1) L st hp = some (.inl (pc', L', st', hp'))) (kk : mj_Go G p l e R s mi args below meth c Q m n0 k0 pc' L' st' hp') : mj_Go G p l e R s mi args below meth c Q m n0 k0 pc L st hp := by
  obtain ⟨hx, hb, hml, hown, hts, hK, hnm, hX, hbb⟩ := A
  intro H locs cells slots ls hI
  unfold mj_len at h
  split at h
  · rename_i a rest
    split at h
    · rename_i t k z hc
      split at h
      · rename_i ht
        obtain ⟨rfl, rfl, rfl, rfl⟩ := mj_nx_eq h
        rcases ht with ht | ht
        · have hat : mj_at[t]? = some (mj_at[t]'ht) := List.getElem?_eq_getElem ht
          exact va_alen (D := G.1) (cl := mj_cl) hx hb hK.1 (mj_P1 ((hI.2.1.2.2 a _ hc).a ht).2) 0 t rfl (mj_tys_at hat) rfl hd (kk _ _ _ _ _ hI)
        · subst ht
          obtain ⟨rfl, hz⟩ := (hI.2.1.2.2 a _ hc).s
          cases hz
          obtain ⟨scr, x1, x2, x3, x4, x5⟩ := hX
          exact W.alen (n := Int32.ofNat G.2.2.2.1) hx hb (by rw [hI.2.2.1 _ hbb]; exact x1) x2 (by rw [x4] <;> rfl) rfl rfl hd (kk _ _ _ _ _ hI)
      · exact mj_none h
    · exact mj_none h
  · exact mj_none h
/-- iaload, baload -/
theorem mj_go_iar (A : mj_At G m p s mi args meth c) {ty : FieldType} (hd : (ty = .int ∧ decode (mj_code m) pc = .ok (.iaload, 1)) ∨ (ty = .boolean ∧ decode (mj_code m) pc = .ok (.baload, 1))) (h : mj_iar ty (pc + 1) L st hp = some (.inl (pc', L', st', hp'))) (kk : mj_Go G p l e R s mi args below meth c Q m n0 k0 pc' L' st' hp') : mj_Go G p l e R s mi args below meth c Q m n0 k0 pc L st hp := by
  obtain ⟨hx, hb, hml, hown, hts, hK, hnm, hX, hbb⟩ := A
  intro H locs cells slots ls hI
  unfold mj_iar at h
  split at h
  · rename_i i a rest
    split at h
    · rename_i t k f hc
      split at h
      · rename_i ht
        obtain ⟨ht, hin⟩ := ht
        obtain ⟨rfl, rfl, rfl, rfl⟩ := mj_nx_eq h
        rcases ht with hat | ⟨rfl, rfl⟩
        · have hP := mj_P1 ((hI.2.1.2.2 a _ hc).a (mj_tag_ge hat)).2
          rcases hd with ⟨rfl, hd⟩ | ⟨rfl, hd⟩
          · exact va_iald (D := G.1) (cl := mj_cl) hx hb hK.1 hP 0 t rfl (mj_tys_at hat) hin hd (kk _ _ _ _ _ hI)
          · exact va_zald (D := G.1) (cl := mj_cl) hx hb hK.1 hP 0 t rfl (mj_tys_at hat) hin hd (kk _ _ _ _ _ hI)
        · obtain ⟨rfl, hz⟩ := (hI.2.1.2.2 a _ hc).s
          cases hz
          rcases hd with ⟨-, hd⟩ | ⟨hq, -⟩
          · obtain ⟨scr, x1, x2, x3, x4, x5⟩ := hX
            have hlt : i.toNatClampNeg < G.2.2.2.1 := Nat.not_le.mp fun q => hin (Or.inr q)
            exact W.iald (v := .int (G.2.2.2.2.1 i.toNatClampNeg)) hx hb (by rw [hI.2.2.1 _ hbb]; exact x1) x2 x3 (by rw [x4]; exact hin) (x5 _ hlt) rfl rfl hd (kk _ _ _ _ _ hI)
          · cases hq
      · exact mj_none h
    · exact mj_none h
  · exact mj_none h
/-- laload -/
theorem mj_go_lar (A : mj_At G m p s mi args meth c) (hd : decode (mj_code m) pc = .ok (.laload, 1)) (h : mj_lar (pc + 1) L st hp = some (.inl (pc', L', st', hp'))) (kk : mj_Go G p l e R s mi args below meth c Q m n0 k0 pc' L' st' hp') : mj_Go G p l e R s mi args below meth c Q m n0 k0 pc L st hp := by
  obtain ⟨hx, hb, hml, hown, hts, hK, hnm, hX, hbb⟩ := A
  intro H locs cells slots ls hI
  unfold mj_lar at h
  split at h
  · rename_i i a rest
    split at h
    · rename_i t k f hc
      split at h
      · rename_i ht
        obtain ⟨hat, hin⟩ := ht
        obtain ⟨rfl, rfl, rfl, rfl⟩ := mj_nx_eq h
        exact va_lald (D := G.1) (cl := mj_cl) hx hb hK.1 (mj_P1 ((hI.2.1.2.2 a _ hc).a (mj_tag_ge hat)).2) 0 t rfl (mj_tys_at hat) hin hd (kk _ _ _ _ _ hI)
      · exact mj_none h
    · exact mj_none h
  · exact mj_none h
/-- aaload -/
theorem mj_go_aar (A : mj_At G m p s mi args meth c) (hd : decode (mj_code m) pc = .ok (.aaload, 1)) (h : mj_aar (pc + 1) L st hp = some (.inl (pc', L', st', hp'))) (kk : mj_Go G p l e R s mi args below meth c Q m n0 k0 pc' L' st' hp') : mj_Go G p l e R s mi args below meth c Q m n0 k0 pc L st hp := by
  obtain ⟨hx, hb, hml, hown, hts, hK, hnm, hX, hbb⟩ := A
  intro H locs cells slots ls hI
  unfold mj_aar at h
  split at h
  · rename_i i a rest
    split at h
    · rename_i t k f hc
      split at h
      · rename_i C hat
        split at h
        · rename_i hin
          obtain ⟨rfl, rfl, rfl, rfl⟩ := mj_nx_eq h
          exact va_aldq (D := G.1) (cl := mj_cl) hx hb hK.1 (mj_P1 ((hI.2.1.2.2 a _ hc).a (mj_tag_ge hat)).2) 0 t rfl (mj_tys_at hat) hin hd (kk _ _ _ _ _ hI)
        · exact mj_none h
      · exact mj_none h
    · exact mj_none h
  · exact mj_none h
theorem mj_upd_cell {cA : ClassId} {k j : Nat} {f : Nat → Int32} {x : Int32} : (vp_cell cA (k, .inl f)).setSlot j (.int x) = vp_cell cA (k, .inl (upd f j x)) := by
  rw [vp_cell_i, vp_cell_i, arrV_store]
  congr 2
  funext q
  by_cases hq : q = j
  · subst hq
    simp [updV, upd]
  · simp [updV, upd, hq]
/-- iastore, bastore -/
theorem mj_go_iaw (A : mj_At G m p s mi args meth c) {ty : FieldType} (hd : (ty = .int ∧ decode (mj_code m) pc = .ok (.iastore, 1)) ∨ (ty = .boolean ∧ decode (mj_code m) pc = .ok (.bastore, 1))) (h : mj_iaw ty (pc + 1) L st hp = some (.inl (pc', L', st', hp'))) (kk : mj_Go G p l e R s mi args below meth c Q m n0 k0 pc' L' st' hp') : mj_Go G p l e R s mi args below meth c Q m n0 k0 pc L st hp := by
  obtain ⟨hx, hb, hml, hown, hts, hK, hnm, hX, hbb⟩ := A
  intro H locs cells slots ls hI
  unfold mj_iaw at h
  split at h
  · rename_i x i a rest
    split at h
    · rename_i t k f hc
      split at h
      · rename_i ht
        obtain ⟨hat, hin, hnar⟩ := ht
        obtain ⟨rfl, rfl, rfl, rfl⟩ := mj_nx_eq h
        have hcl := (hI.2.1.2.2 a _ hc).a (mj_tag_ge hat)
        have hin' : ¬ (i < 0 ∨ (vp_cell (G.2.1 t) (k, .inl f)).slots.size ≤ i.toNatClampNeg) := by
          rw [vp_cell_i, arrV_size]
          exact hin
        have hta := (hK.1.2 t _ (mj_tys_at hat)).1 k (fun j => .int (f j))
        have fin : ∀ H' : Heap, H'[a]? = some ((vp_cell (G.2.1 t) (k, .inl f)).setSlot i.toNatClampNeg (.int x)) → H'.size = H.size → (∀ q : Nat, q ≠ a → H'[q]? = H[q]?) → W p l e R s mi args below meth c H' (locs ++ [⟨a, i.toNatClampNeg⟩]) cells slots Q (F0 mi (pc + 1) ls rest) := by
          intro H' e1 e2 e3
          refine kk _ _ _ _ _ (hI.up hcl.1 e2 e3 hbb (fun y hy => ?_) ?_)
          · cases hy
            exact absurd (mj_tag_ge hat) (by decide)
          · show H'[a]? = some (vp_cell _ _)
            rw [e1, mj_upd_cell]
        rcases hd with ⟨rfl, hd⟩ | ⟨rfl, hd⟩
        · exact W.iast hx hb hcl.2 hta (fun q => by cases q) hin' rfl rfl hd fin
        · refine W.zast hx hb hcl.2 hta (fun q => by cases q) hin' rfl rfl hd ?_
          rw [hnar]
          exact fin
      · exact mj_none h
    · exact mj_none h
  · exact mj_none h
/-- lastore -/
theorem mj_go_law (A : mj_At G m p s mi args meth c) (hd : decode (mj_code m) pc = .ok (.lastore, 1)) (h : mj_law (pc + 1) L st hp = some (.inl (pc', L', st', hp'))) (kk : mj_Go G p l e R s mi args below meth c Q m n0 k0 pc' L' st' hp') : mj_Go G p l e R s mi args below meth c Q m n0 k0 pc L st hp := by
  obtain ⟨hx, hb, hml, hown, hts, hK, hnm, hX, hbb⟩ := A
  intro H locs cells slots ls hI
  unfold mj_law at h
  split at h
  · rename_i x i a rest
    split at h
    · rename_i t k f hc
      split at h
      · rename_i ht
        obtain ⟨hat, hin⟩ := ht
        obtain ⟨rfl, rfl, rfl, rfl⟩ := mj_nx_eq h
        have hcl := (hI.2.1.2.2 a _ hc).a (mj_tag_ge hat)
        have hin' : ¬ (i < 0 ∨ (vp_cell (G.2.1 t) (k, .inr (.inl f))).slots.size ≤ i.toNatClampNeg) := by
          rw [vp_cell_l, arrV_size]
          exact hin
        have hta := (hK.1.2 t _ (mj_tys_at hat)).1 k (fun j => .long (f j))
        refine W.last hx hb hcl.2 hta (fun q => by cases q) hin' rfl rfl hd fun H' e1 e2 e3 => ?_
        refine kk _ _ _ _ _ (hI.up hcl.1 e2 e3 hbb (fun y hy => ?_) ?_)
        · cases hy
          exact absurd (mj_tag_ge hat) (by decide)
        · show H'[a]? = some (vp_cell _ _)
          rw [e1, vp_cell_l, vp_cell_l, arrV_store]
          congr 2
          funext q
          by_cases hq : q = i.toNatClampNeg
          · subst hq
            simp [updV, vp_updL]
          · simp [updV, vp_updL, hq]
      · exact mj_none h
    · exact mj_none h
  · exact mj_none h
/-- aastore -/
theorem mj_go_aaw (A : mj_At G m p s mi args meth c) (hd : decode (mj_code m) pc = .ok (.aastore, 1)) (h : mj_aaw (pc + 1) L st hp = some (.inl (pc', L', st', hp'))) (kk : mj_Go G p l e R s mi args below meth c Q m n0 k0 pc' L' st' hp') : mj_Go G p l e R s mi args below meth c Q m n0 k0 pc L st hp := by
  obtain ⟨hx, hb, hml, hown, hts, hK, hnm, hX, hbb⟩ := A
  intro H locs cells slots ls hI
  unfold mj_aaw at h
  split at h
  · rename_i v i a rest
    split at h
    · rename_i t k f ci fs hc hv
      split at h
      · rename_i ht
        obtain ⟨hat, hsome, hin⟩ := ht
        obtain ⟨rfl, rfl, rfl, rfl⟩ := mj_nx_eq h
        obtain ⟨r, hr⟩ := Option.isSome_iff_exists.mp hsome
        rw [hr, Option.map_some] at hat
        have hcl := (hI.2.1.2.2 a _ hc).a (mj_tag_ge hat)
        have hcv := (hI.2.1.2.2 v _ hv).o
        have hlt : i.toNatClampNeg < k := Nat.not_le.mp fun q => hin (Or.inr q)
        have h0 : ¬ i < 0 := fun q => hin (Or.inl q)
        obtain ⟨r', hr', cellV, g1, g2, g3, -⟩ := hcv.2
        have hcls := (hK.1.1 ci r hr).2
        obtain ⟨kA, comp, k1, k2, k3, -⟩ := (hK.1.2 t _ (mj_tys_at hat)).2
        have hcomp : comp = G.1.1 ci := Option.some.inj (k3.symm.trans hcls.1)
        subst hcomp
        obtain ⟨kC, hkC, -⟩ := hcls.2
        refine W.aast hx hb hcl.2 (fun q h => by cases h) (fun h => by cases h) k1 k2 rfl hkC ⟨h0, by show _ < (arrV _ _ _).slots.size; rw [arrV_size]; exact hlt⟩ g1 (fun q h => by rw [g3] at h; cases h) (by rw [g2]; exact hkC) (by rw [g2]; exact va_assign hcls) rfl rfl hd fun H' e1 e2 e3 => ?_
        refine kk _ _ _ _ _ (hI.up hcl.1 e2 e3 hbb (fun y hy => ?_) ?_)
        · cases hy
          exact absurd (mj_tag_ge hat) (by decide)
        · show H'[a]? = some (vp_cell _ _)
          rw [e1, vp_cell_q, vp_cell_q, arrV_store]
          congr 2
          funext q
          by_cases hq : q = i.toNatClampNeg
          · subst hq
            simp [updV, va_up, va_rf]
          · simp [updV, va_up, hq]
      · exact mj_none h
    · exact mj_none h
  · rename_i i a rest
    split at h
    · rename_i t k f hc
      split at h
      · rename_i C hat
        split at h
        · rename_i hin
          obtain ⟨rfl, rfl, rfl, rfl⟩ := mj_nx_eq h
          have hcl := (hI.2.1.2.2 a _ hc).a (mj_tag_ge hat)
          refine va_WaastN (C := C) hx hb hcl.2 ((hK.1.2 t _ (mj_tys_at hat)).1 k (fun j => va_rf (f j))) (fun h => by cases h) (by show ¬ (i < 0 ∨ (arrV _ _ _).slots.size ≤ _); rw [arrV_size]; exact hin) rfl rfl hd fun H' e1 e2 e3 => ?_
          refine kk _ _ _ _ _ (hI.up hcl.1 e2 e3 hbb (fun y hy => ?_) ?_)
          · cases hy
            exact absurd (mj_tag_ge hat) (by decide)
          · show H'[a]? = some (vp_cell _ _)
            rw [e1, vp_cell_q, vp_cell_q, arrV_store]
            congr 2
            funext q
            by_cases hq : q = i.toNatClampNeg
            · subst hq
              simp [updV, va_up, va_rf]
            · simp [updV, va_up, hq]
        · exact mj_none h
      · exact mj_none h
    · exact mj_none h
  · exact mj_none h
theorem mj_ivs_inl {m' na n : Nat} {q : Nat × mj_L × List Value × mj_H} (h : mj_ivs m' na n L st hp = some (.inl q)) : False := by
  unfold mj_ivs at h
  (repeat' split at h) <;> first | exact mj_none h | cases h
theorem mj_ivv_inl {m' na ci n : Nat} {q : Nat × mj_L × List Value × mj_H} (h : mj_ivv m' na ci n L st hp = some (.inl q)) : False := by
  unfold mj_ivv at h
  (repeat' split at h) <;> first | exact mj_none h | cases h
theorem mj_ivi_inl {m' na n : Nat} {q : Nat × mj_L × List Value × mj_H} (h : mj_ivi m' na n L st hp = some (.inl q)) : False := by
  unfold mj_ivi at h
  (repeat' split at h) <;> first | exact mj_none h | cases h
theorem mj_inv_inl {m' kd n : Nat} {q : Nat × mj_L × List Value × mj_H} (h5 : ¬ kd = 5) (h : mj_inv m m' kd n L st hp = some (.inl q)) : False := by
  unfold mj_inv at h
  rw [if_neg h5] at h
  (repeat' split at h) <;> first | exact mj_none h | exact mj_ivs_inl h | exact mj_ivv_inl h | exact mj_ivi_inl h
theorem mj_rt_inl {o : mj_O} {q : Nat × mj_L × List Value × mj_H} (ho : (∃ ty, o = mj_rti ty) ∨ o = mj_rtl ∨ o = mj_rta ∨ o = mj_rtv) (h : o L st hp = some (.inl q)) : False := by
  rcases ho with ⟨ty, rfl⟩ | rfl | rfl | rfl
  · unfold mj_rti at h
    (repeat' split at h) <;> first | exact mj_none h | cases h
  · unfold mj_rtl at h
    (repeat' split at h) <;> first | exact mj_none h | cases h
  · unfold mj_rta at h
    (repeat' split at h) <;> first | exact mj_none h | cases h
  · unfold mj_rtv at h
    (repeat' split at h) <;> first | exact mj_none h | cases h
set_option maxHeartbeats 4000000 in
/-- one instruction that is no call and no return -/
theorem mj_next (A : mj_At G m p s mi args meth c) (hR : hp'.2.1 ≤ n0 + R.cells ∧ hp'.2.2 ≤ k0 + R.slots) (hF : mj_hgt m ≤ R.frames ∧ mj_lr m ≤ R.locals) {i : ClassFile.Instr} {len : Nat} (hd : decode (mj_code m) pc = .ok (i, len)) (hl : mj_lok i len = true) (h : mj_ex m i pc L st hp = some (.inl (pc', L', st', hp'))) (kk : mj_Go G p l e R s mi args below meth c Q m n0 k0 pc' L' st' hp') : mj_Go G p l e R s mi args below meth c Q m n0 k0 pc L st hp := by
  have A0 := A
  obtain ⟨hx, hb, hml, hown, hts, hK, hnm, hX, hbb⟩ := A
  cases i with
  | aconst_null =>
    obtain rfl : len = 1 := mj_lk hl
    change mj_cst .null (pc + 1) L st hp = _ at h
    unfold mj_cst at h
    obtain ⟨rfl, rfl, rfl, rfl⟩ := mj_nx_eq h
    intro H locs cells slots ls hI
    exact lv_null hx hb hd (kk _ _ _ _ _ hI)
  | iconst n =>
    obtain rfl : len = 1 := mj_lk hl
    change mj_cst (.int (Int32.ofInt n)) (pc + 1) L st hp = _ at h
    unfold mj_cst at h
    obtain ⟨rfl, rfl, rfl, rfl⟩ := mj_nx_eq h
    intro H locs cells slots ls hI
    exact lv_iconst hx hb hd rfl (kk _ _ _ _ _ hI)
  | bipush n =>
    obtain rfl : len = 2 := mj_lk hl
    change mj_cst (.int (Int8.ofInt n).toInt32) (pc + 2) L st hp = _ at h
    unfold mj_cst at h
    obtain ⟨rfl, rfl, rfl, rfl⟩ := mj_nx_eq h
    intro H locs cells slots ls hI
    exact lv_bipush hx hb hd rfl (kk _ _ _ _ _ hI)
  | sipush n =>
    obtain rfl : len = 3 := mj_lk hl
    change mj_cst (.int (Int16.ofInt n).toInt32) (pc + 3) L st hp = _ at h
    unfold mj_cst at h
    obtain ⟨rfl, rfl, rfl, rfl⟩ := mj_nx_eq h
    intro H locs cells slots ls hI
    exact lv_sipush hx hb hd rfl (kk _ _ _ _ _ hI)
  | lconst n =>
    obtain rfl : len = 1 := mj_lk hl
    change mj_cst (.long (Int64.ofNat (n : Nat))) (pc + 1) L st hp = _ at h
    unfold mj_cst at h
    obtain ⟨rfl, rfl, rfl, rfl⟩ := mj_nx_eq h
    intro H locs cells slots ls hI
    exact lv_lconst hx hb hd rfl (kk _ _ _ _ _ hI)
  | ldc x =>
    obtain rfl : len = 2 := mj_lk hl
    unfold mj_ex at h
    dsimp only at h
    cases hf : mj_find mj_kl (mj_on m) x with
    | none => rw [hf] at h; exact mj_none h
    | some v0 =>
      rw [hf] at h
      cases v0 with
      | int v =>
        dsimp only at h
        unfold mj_cst at h
        obtain ⟨rfl, rfl, rfl, rfl⟩ := mj_nx_eq h
        intro H locs cells slots ls hI
        exact lv_ldc hx hb hown (hts _ (mj_ok_kli (mj_find_mem hf))) hd (kk _ _ _ _ _ hI)
      | _ => exact mj_none h
  | ldc2_w x =>
    obtain rfl : len = 3 := mj_lk hl
    unfold mj_ex at h
    dsimp only at h
    cases hf : mj_find mj_kl (mj_on m) x with
    | none => rw [hf] at h; exact mj_none h
    | some v0 =>
      rw [hf] at h
      cases v0 with
      | long v =>
        dsimp only at h
        unfold mj_cst at h
        obtain ⟨rfl, rfl, rfl, rfl⟩ := mj_nx_eq h
        intro H locs cells slots ls hI
        exact lv_ldc2 hx hb hown (hts _ (mj_ok_kll (mj_find_mem hf))) hd (kk _ _ _ _ _ hI)
      | _ => exact mj_none h
  | iload i =>
    obtain rfl : len = 2 := mj_lk hl
    change mj_ild i (pc + 2) L st hp = _ at h
    unfold mj_ild at h
    intro H locs cells slots ls hI
    split at h
    · rename_i x hq
      obtain ⟨rfl, rfl, rfl, rfl⟩ := mj_nx_eq h
      exact lv_iload hx hb hd (hI.1.2.2.2 _ _ hq) (kk _ _ _ _ _ hI)
    · exact mj_none h
  | iload_n k =>
    obtain rfl : len = 1 := mj_lk hl
    change mj_ild (k : Nat) (pc + 1) L st hp = _ at h
    unfold mj_ild at h
    intro H locs cells slots ls hI
    split at h
    · rename_i x hq
      obtain ⟨rfl, rfl, rfl, rfl⟩ := mj_nx_eq h
      exact lv_iload_n hx hb hd rfl (hI.1.2.2.2 _ _ hq) (kk _ _ _ _ _ hI)
    · exact mj_none h
  | lload i =>
    obtain rfl : len = 2 := mj_lk hl
    change mj_lld i (pc + 2) L st hp = _ at h
    unfold mj_lld at h
    intro H locs cells slots ls hI
    split at h
    · rename_i x hq
      obtain ⟨rfl, rfl, rfl, rfl⟩ := mj_nx_eq h
      exact lv_lload hx hb hd (hI.1.2.2.2 _ _ hq) (kk _ _ _ _ _ hI)
    · exact mj_none h
  | lload_n k =>
    obtain rfl : len = 1 := mj_lk hl
    change mj_lld (k : Nat) (pc + 1) L st hp = _ at h
    unfold mj_lld at h
    intro H locs cells slots ls hI
    split at h
    · rename_i x hq
      obtain ⟨rfl, rfl, rfl, rfl⟩ := mj_nx_eq h
      exact lv_lload_n hx hb hd rfl (hI.1.2.2.2 _ _ hq) (kk _ _ _ _ _ hI)
    · exact mj_none h
  | aload i =>
    obtain rfl : len = 2 := mj_lk hl
    change mj_ald i (pc + 2) L st hp = _ at h
    unfold mj_ald at h
    intro H locs cells slots ls hI
    split at h
    · rename_i x hq
      obtain ⟨rfl, rfl, rfl, rfl⟩ := mj_nx_eq h
      exact lv_aload hx hb hd (hI.1.2.2.2 _ _ hq) (kk _ _ _ _ _ hI)
    · rename_i hq
      obtain ⟨rfl, rfl, rfl, rfl⟩ := mj_nx_eq h
      exact lv_aloadN hx hb hd (hI.1.2.2.2 _ _ hq) (kk _ _ _ _ _ hI)
    · exact mj_none h
  | aload_n k =>
    obtain rfl : len = 1 := mj_lk hl
    change mj_ald (k : Nat) (pc + 1) L st hp = _ at h
    unfold mj_ald at h
    intro H locs cells slots ls hI
    split at h
    · rename_i x hq
      obtain ⟨rfl, rfl, rfl, rfl⟩ := mj_nx_eq h
      exact lv_aload_n hx hb hd rfl (hI.1.2.2.2 _ _ hq) (kk _ _ _ _ _ hI)
    · rename_i hq
      obtain ⟨rfl, rfl, rfl, rfl⟩ := mj_nx_eq h
      exact lv_aload_nN hx hb hd rfl (hI.1.2.2.2 _ _ hq) (kk _ _ _ _ _ hI)
    · exact mj_none h
  | istore i =>
    obtain rfl : len = 2 := mj_lk hl
    change mj_ist i (pc + 2) L st hp = _ at h
    unfold mj_ist at h
    intro H locs cells slots ls hI
    have hLn := hI.1.1
    split at h
    · rename_i x rest
      split at h
      · rename_i hlt
        obtain ⟨rfl, rfl, rfl, rfl⟩ := mj_nx_eq h
        exact lv_istore hx hb hd hI.1.has (by omega) rfl (fun ls' h' => kk _ _ _ _ _ (hI.loc (mj_hasL.st1 hLn (by omega) h')))
      · exact mj_none h
    · exact mj_none h
  | istore_n k =>
    obtain rfl : len = 1 := mj_lk hl
    change mj_ist (k : Nat) (pc + 1) L st hp = _ at h
    unfold mj_ist at h
    intro H locs cells slots ls hI
    have hLn := hI.1.1
    split at h
    · rename_i x rest
      split at h
      · rename_i hlt
        obtain ⟨rfl, rfl, rfl, rfl⟩ := mj_nx_eq h
        exact lv_istore_n hx hb hd rfl hI.1.has (by omega) rfl (fun ls' h' => kk _ _ _ _ _ (hI.loc (mj_hasL.st1 hLn (by omega) h')))
      · exact mj_none h
    · exact mj_none h
  | lstore i =>
    obtain rfl : len = 2 := mj_lk hl
    change mj_lst i (pc + 2) L st hp = _ at h
    unfold mj_lst at h
    intro H locs cells slots ls hI
    have hLn := hI.1.1
    split at h
    · rename_i x rest
      split at h
      · rename_i hlt
        obtain ⟨rfl, rfl, rfl, rfl⟩ := mj_nx_eq h
        exact lv_lstore hx hb hd hI.1.has (by omega) rfl (fun ls' h' => kk _ _ _ _ _ (hI.loc (mj_hasL.st2 hLn (by omega) h')))
      · exact mj_none h
    · exact mj_none h
  | lstore_n k =>
    obtain rfl : len = 1 := mj_lk hl
    change mj_lst (k : Nat) (pc + 1) L st hp = _ at h
    unfold mj_lst at h
    intro H locs cells slots ls hI
    have hLn := hI.1.1
    split at h
    · rename_i x rest
      split at h
      · rename_i hlt
        obtain ⟨rfl, rfl, rfl, rfl⟩ := mj_nx_eq h
        exact lv_lstore_n hx hb hd rfl hI.1.has (by omega) rfl (fun ls' h' => kk _ _ _ _ _ (hI.loc (mj_hasL.st2 hLn (by omega) h')))
      · exact mj_none h
    · exact mj_none h
  | astore i =>
    obtain rfl : len = 2 := mj_lk hl
    change mj_ast i (pc + 2) L st hp = _ at h
    unfold mj_ast at h
    intro H locs cells slots ls hI
    have hLn := hI.1.1
    split at h
    · rename_i x rest
      split at h
      · rename_i hlt
        obtain ⟨rfl, rfl, rfl, rfl⟩ := mj_nx_eq h
        exact lv_astore hx hb hd hI.1.has (by omega) rfl (fun ls' h' => kk _ _ _ _ _ (hI.loc (mj_hasL.st1 hLn (by omega) h')))
      · exact mj_none h
    · rename_i rest
      split at h
      · rename_i hlt
        obtain ⟨rfl, rfl, rfl, rfl⟩ := mj_nx_eq h
        exact lv_astoreN hx hb hd hI.1.has (by omega) rfl (fun ls' h' => kk _ _ _ _ _ (hI.loc (mj_hasL.st1 hLn (by omega) h')))
      · exact mj_none h
    · exact mj_none h
  | astore_n k =>
    obtain rfl : len = 1 := mj_lk hl
    change mj_ast (k : Nat) (pc + 1) L st hp = _ at h
    unfold mj_ast at h
    intro H locs cells slots ls hI
    have hLn := hI.1.1
    split at h
    · rename_i x rest
      split at h
      · rename_i hlt
        obtain ⟨rfl, rfl, rfl, rfl⟩ := mj_nx_eq h
        exact lv_astore_n hx hb hd rfl hI.1.has (by omega) rfl (fun ls' h' => kk _ _ _ _ _ (hI.loc (mj_hasL.st1 hLn (by omega) h')))
      · exact mj_none h
    · rename_i rest
      split at h
      · rename_i hlt
        obtain ⟨rfl, rfl, rfl, rfl⟩ := mj_nx_eq h
        exact lv_astore_nN hx hb hd rfl hI.1.has (by omega) rfl (fun ls' h' => kk _ _ _ _ _ (hI.loc (mj_hasL.st1 hLn (by omega) h')))
      · exact mj_none h
    · exact mj_none h
  | iinc i n =>
    obtain rfl : len = 3 := mj_lk hl
    change mj_inc i (Int32.ofInt n) (pc + 3) L st hp = _ at h
    unfold mj_inc at h
    intro H locs cells slots ls hI
    have hLn := hI.1.1
    split at h
    · rename_i x hq
      split at h
      · rename_i hlt
        obtain ⟨rfl, rfl, rfl, rfl⟩ := mj_nx_eq h
        obtain ⟨kq, hkq⟩ := List.getElem?_of_mem ((mj_en_mem L 0 (i, .int x)).mpr ⟨i, (Nat.zero_add i).symm, hq⟩)
        exact lv_iinc hx hb hd hI.1.has hkq rfl (by omega) rfl (fun ls' h' => kk _ _ _ _ _ (hI.loc (mj_hasL.st1 hLn (by omega) h')))
      · exact mj_none h
    · exact mj_none h
  | iadd =>
    obtain rfl : len = 1 := mj_lk hl
    change mj_ii (fun x y => x + y) (pc + 1) L st hp = _ at h
    unfold mj_ii at h
    intro H locs cells slots ls hI
    split at h
    · obtain ⟨rfl, rfl, rfl, rfl⟩ := mj_nx_eq h
      exact lv_iadd hx hb hd (kk _ _ _ _ _ hI)
    · exact mj_none h
  | isub =>
    obtain rfl : len = 1 := mj_lk hl
    change mj_ii (fun x y => x - y) (pc + 1) L st hp = _ at h
    unfold mj_ii at h
    intro H locs cells slots ls hI
    split at h
    · obtain ⟨rfl, rfl, rfl, rfl⟩ := mj_nx_eq h
      exact lv_isub hx hb hd (kk _ _ _ _ _ hI)
    · exact mj_none h
  | imul =>
    obtain rfl : len = 1 := mj_lk hl
    change mj_ii (fun x y => x * y) (pc + 1) L st hp = _ at h
    unfold mj_ii at h
    intro H locs cells slots ls hI
    split at h
    · obtain ⟨rfl, rfl, rfl, rfl⟩ := mj_nx_eq h
      exact lv_imul hx hb hd (kk _ _ _ _ _ hI)
    · exact mj_none h
  | iand =>
    obtain rfl : len = 1 := mj_lk hl
    change mj_ii (fun x y => x &&& y) (pc + 1) L st hp = _ at h
    unfold mj_ii at h
    intro H locs cells slots ls hI
    split at h
    · obtain ⟨rfl, rfl, rfl, rfl⟩ := mj_nx_eq h
      exact lv_iand hx hb hd (kk _ _ _ _ _ hI)
    · exact mj_none h
  | ior =>
    obtain rfl : len = 1 := mj_lk hl
    change mj_ii (fun x y => x ||| y) (pc + 1) L st hp = _ at h
    unfold mj_ii at h
    intro H locs cells slots ls hI
    split at h
    · obtain ⟨rfl, rfl, rfl, rfl⟩ := mj_nx_eq h
      exact lv_ior hx hb hd (kk _ _ _ _ _ hI)
    · exact mj_none h
  | ixor =>
    obtain rfl : len = 1 := mj_lk hl
    change mj_ii (fun x y => x ^^^ y) (pc + 1) L st hp = _ at h
    unfold mj_ii at h
    intro H locs cells slots ls hI
    split at h
    · obtain ⟨rfl, rfl, rfl, rfl⟩ := mj_nx_eq h
      exact lv_ixor hx hb hd (kk _ _ _ _ _ hI)
    · exact mj_none h
  | ishl =>
    obtain rfl : len = 1 := mj_lk hl
    change mj_ii (fun x y => x <<< (y &&& 31)) (pc + 1) L st hp = _ at h
    unfold mj_ii at h
    intro H locs cells slots ls hI
    split at h
    · obtain ⟨rfl, rfl, rfl, rfl⟩ := mj_nx_eq h
      exact lv_ishl hx hb hd (kk _ _ _ _ _ hI)
    · exact mj_none h
  | ishr =>
    obtain rfl : len = 1 := mj_lk hl
    change mj_ii (fun x y => x >>> (y &&& 31)) (pc + 1) L st hp = _ at h
    unfold mj_ii at h
    intro H locs cells slots ls hI
    split at h
    · obtain ⟨rfl, rfl, rfl, rfl⟩ := mj_nx_eq h
      exact lv_ishr hx hb hd (kk _ _ _ _ _ hI)
    · exact mj_none h
  | iushr =>
    obtain rfl : len = 1 := mj_lk hl
    change mj_ii (fun x y => (x.toUInt32 >>> (y.toUInt32 &&& Int32.toUInt32 31)).toInt32) (pc + 1) L st hp = _ at h
    unfold mj_ii at h
    intro H locs cells slots ls hI
    split at h
    · obtain ⟨rfl, rfl, rfl, rfl⟩ := mj_nx_eq h
      exact lv_iushr hx hb hd rfl (kk _ _ _ _ _ hI)
    · exact mj_none h
  | idiv =>
    obtain rfl : len = 1 := mj_lk hl
    change mj_iz (fun x y => x / y) (pc + 1) L st hp = _ at h
    unfold mj_iz at h
    intro H locs cells slots ls hI
    split at h
    · split at h
      · exact mj_none h
      · rename_i hne
        obtain ⟨rfl, rfl, rfl, rfl⟩ := mj_nx_eq h
        exact lv_idiv hx hb hd hne (kk _ _ _ _ _ hI)
    · exact mj_none h
  | irem =>
    obtain rfl : len = 1 := mj_lk hl
    change mj_iz (fun x y => x - x / y * y) (pc + 1) L st hp = _ at h
    unfold mj_iz at h
    intro H locs cells slots ls hI
    split at h
    · split at h
      · exact mj_none h
      · rename_i hne
        obtain ⟨rfl, rfl, rfl, rfl⟩ := mj_nx_eq h
        exact lv_irem hx hb hd hne (kk _ _ _ _ _ hI)
    · exact mj_none h
  | ineg =>
    obtain rfl : len = 1 := mj_lk hl
    change mj_i1 (fun x => -x) (pc + 1) L st hp = _ at h
    unfold mj_i1 at h
    intro H locs cells slots ls hI
    split at h
    · obtain ⟨rfl, rfl, rfl, rfl⟩ := mj_nx_eq h
      exact lv_ineg hx hb hd (kk _ _ _ _ _ hI)
    · exact mj_none h
  | ladd =>
    obtain rfl : len = 1 := mj_lk hl
    change mj_ll (fun x y => x + y) (pc + 1) L st hp = _ at h
    unfold mj_ll at h
    intro H locs cells slots ls hI
    split at h
    · obtain ⟨rfl, rfl, rfl, rfl⟩ := mj_nx_eq h
      exact lv_ladd hx hb hd (kk _ _ _ _ _ hI)
    · exact mj_none h
  | lsub =>
    obtain rfl : len = 1 := mj_lk hl
    change mj_ll (fun x y => x - y) (pc + 1) L st hp = _ at h
    unfold mj_ll at h
    intro H locs cells slots ls hI
    split at h
    · obtain ⟨rfl, rfl, rfl, rfl⟩ := mj_nx_eq h
      exact lv_lsub hx hb hd (kk _ _ _ _ _ hI)
    · exact mj_none h
  | lmul =>
    obtain rfl : len = 1 := mj_lk hl
    change mj_ll (fun x y => x * y) (pc + 1) L st hp = _ at h
    unfold mj_ll at h
    intro H locs cells slots ls hI
    split at h
    · obtain ⟨rfl, rfl, rfl, rfl⟩ := mj_nx_eq h
      exact lv_lmul hx hb hd (kk _ _ _ _ _ hI)
    · exact mj_none h
  | land =>
    obtain rfl : len = 1 := mj_lk hl
    change mj_ll (fun x y => x &&& y) (pc + 1) L st hp = _ at h
    unfold mj_ll at h
    intro H locs cells slots ls hI
    split at h
    · obtain ⟨rfl, rfl, rfl, rfl⟩ := mj_nx_eq h
      exact lv_land hx hb hd (kk _ _ _ _ _ hI)
    · exact mj_none h
  | lor =>
    obtain rfl : len = 1 := mj_lk hl
    change mj_ll (fun x y => x ||| y) (pc + 1) L st hp = _ at h
    unfold mj_ll at h
    intro H locs cells slots ls hI
    split at h
    · obtain ⟨rfl, rfl, rfl, rfl⟩ := mj_nx_eq h
      exact lv_lor hx hb hd (kk _ _ _ _ _ hI)
    · exact mj_none h
  | lxor =>
    obtain rfl : len = 1 := mj_lk hl
    change mj_ll (fun x y => x ^^^ y) (pc + 1) L st hp = _ at h
    unfold mj_ll at h
    intro H locs cells slots ls hI
    split at h
    · obtain ⟨rfl, rfl, rfl, rfl⟩ := mj_nx_eq h
      exact lv_lxor hx hb hd (kk _ _ _ _ _ hI)
    · exact mj_none h
  | lneg =>
    obtain rfl : len = 1 := mj_lk hl
    change mj_l1 (fun x => -x) (pc + 1) L st hp = _ at h
    unfold mj_l1 at h
    intro H locs cells slots ls hI
    split at h
    · obtain ⟨rfl, rfl, rfl, rfl⟩ := mj_nx_eq h
      exact lv_lneg hx hb hd (kk _ _ _ _ _ hI)
    · exact mj_none h
  | lshl =>
    obtain rfl : len = 1 := mj_lk hl
    change mj_li (fun x y => x <<< (y.toInt64 &&& 63)) (pc + 1) L st hp = _ at h
    unfold mj_li at h
    intro H locs cells slots ls hI
    split at h
    · obtain ⟨rfl, rfl, rfl, rfl⟩ := mj_nx_eq h
      exact lv_lshl hx hb hd rfl (kk _ _ _ _ _ hI)
    · exact mj_none h
  | lshr =>
    obtain rfl : len = 1 := mj_lk hl
    change mj_li (fun x y => x >>> (y.toInt64 &&& 63)) (pc + 1) L st hp = _ at h
    unfold mj_li at h
    intro H locs cells slots ls hI
    split at h
    · obtain ⟨rfl, rfl, rfl, rfl⟩ := mj_nx_eq h
      exact lv_lshr hx hb hd rfl (kk _ _ _ _ _ hI)
    · exact mj_none h
  | lushr =>
    obtain rfl : len = 1 := mj_lk hl
    change mj_li (fun x y => (x.toUInt64 >>> (y.toInt64.toUInt64 &&& Int64.toUInt64 63)).toInt64) (pc + 1) L st hp = _ at h
    unfold mj_li at h
    intro H locs cells slots ls hI
    split at h
    · obtain ⟨rfl, rfl, rfl, rfl⟩ := mj_nx_eq h
      exact lv_lushr hx hb hd rfl (kk _ _ _ _ _ hI)
    · exact mj_none h
  | i2l =>
    obtain rfl : len = 1 := mj_lk hl
    change mj_i2l (pc + 1) L st hp = _ at h
    unfold mj_i2l at h
    intro H locs cells slots ls hI
    split at h
    · obtain ⟨rfl, rfl, rfl, rfl⟩ := mj_nx_eq h
      exact lv_i2l hx hb hd rfl (kk _ _ _ _ _ hI)
    · exact mj_none h
  | l2i =>
    obtain rfl : len = 1 := mj_lk hl
    change mj_l2i (pc + 1) L st hp = _ at h
    unfold mj_l2i at h
    intro H locs cells slots ls hI
    split at h
    · obtain ⟨rfl, rfl, rfl, rfl⟩ := mj_nx_eq h
      exact lv_l2i hx hb hd rfl (kk _ _ _ _ _ hI)
    · exact mj_none h
  | lcmp =>
    obtain rfl : len = 1 := mj_lk hl
    change mj_lcm (pc + 1) L st hp = _ at h
    unfold mj_lcm at h
    intro H locs cells slots ls hI
    split at h
    · obtain ⟨rfl, rfl, rfl, rfl⟩ := mj_nx_eq h
      exact W.lcmp hx hb hd (kk _ _ _ _ _ hI)
    · exact mj_none h
  | ifCond cond off =>
    obtain rfl : len = 3 := mj_lk hl
    intro H locs cells slots ls hI
    cases cond
    case eq =>
      change mj_b pc off (fun t => mj_if (fun x => decide (x = 0)) t (pc + 3)) L st hp = _ at h
      unfold mj_b at h
      split at h
      · rename_i h0
        dsimp only at h
        have ht : (pc : Int) + off = ((((pc : Int) + off).toNat : Nat) : Int) := (Int.toNat_of_nonneg h0).symm
        unfold mj_if at h
        split at h
        · split at h
          · rename_i hc
            obtain ⟨rfl, rfl, rfl, rfl⟩ := mj_nx_eq h
            exact lv_if_eq hx hb hd ht (fun _ => kk _ _ _ _ _ hI) (fun h9 => (by first | exact absurd (of_decide_eq_true hc) h9 | exact absurd h9 (of_decide_eq_true hc)))
          · rename_i hc
            obtain ⟨rfl, rfl, rfl, rfl⟩ := mj_nx_eq h
            exact lv_if_eq hx hb hd ht (fun h9 => (by first | exact absurd (decide_eq_true h9) hc)) (fun _ => kk _ _ _ _ _ hI)
        · exact mj_none h
      · exact mj_none h
    case ne =>
      change mj_b pc off (fun t => mj_if (fun x => decide (¬ x = 0)) t (pc + 3)) L st hp = _ at h
      unfold mj_b at h
      split at h
      · rename_i h0
        dsimp only at h
        have ht : (pc : Int) + off = ((((pc : Int) + off).toNat : Nat) : Int) := (Int.toNat_of_nonneg h0).symm
        unfold mj_if at h
        split at h
        · split at h
          · rename_i hc
            obtain ⟨rfl, rfl, rfl, rfl⟩ := mj_nx_eq h
            exact lv_if_ne hx hb hd ht (fun _ => kk _ _ _ _ _ hI) (fun h9 => (by first | exact absurd (of_decide_eq_true hc) h9 | exact absurd h9 (of_decide_eq_true hc)))
          · rename_i hc
            obtain ⟨rfl, rfl, rfl, rfl⟩ := mj_nx_eq h
            exact lv_if_ne hx hb hd ht (fun h9 => (by first | exact absurd (decide_eq_true h9) hc)) (fun _ => kk _ _ _ _ _ hI)
        · exact mj_none h
      · exact mj_none h
    case lt =>
      change mj_b pc off (fun t => mj_if (fun x => decide (x < 0)) t (pc + 3)) L st hp = _ at h
      unfold mj_b at h
      split at h
      · rename_i h0
        dsimp only at h
        have ht : (pc : Int) + off = ((((pc : Int) + off).toNat : Nat) : Int) := (Int.toNat_of_nonneg h0).symm
        unfold mj_if at h
        split at h
        · split at h
          · rename_i hc
            obtain ⟨rfl, rfl, rfl, rfl⟩ := mj_nx_eq h
            exact lv_if_lt hx hb hd ht (fun _ => kk _ _ _ _ _ hI) (fun h9 => (by first | exact absurd (of_decide_eq_true hc) h9 | exact absurd h9 (of_decide_eq_true hc)))
          · rename_i hc
            obtain ⟨rfl, rfl, rfl, rfl⟩ := mj_nx_eq h
            exact lv_if_lt hx hb hd ht (fun h9 => (by first | exact absurd (decide_eq_true h9) hc)) (fun _ => kk _ _ _ _ _ hI)
        · exact mj_none h
      · exact mj_none h
    case ge =>
      change mj_b pc off (fun t => mj_if (fun x => decide (0 ≤ x)) t (pc + 3)) L st hp = _ at h
      unfold mj_b at h
      split at h
      · rename_i h0
        dsimp only at h
        have ht : (pc : Int) + off = ((((pc : Int) + off).toNat : Nat) : Int) := (Int.toNat_of_nonneg h0).symm
        unfold mj_if at h
        split at h
        · split at h
          · rename_i hc
            obtain ⟨rfl, rfl, rfl, rfl⟩ := mj_nx_eq h
            exact lv_if_ge hx hb hd ht (fun _ => kk _ _ _ _ _ hI) (fun h9 => (by first | exact absurd (of_decide_eq_true hc) h9 | exact absurd h9 (of_decide_eq_true hc)))
          · rename_i hc
            obtain ⟨rfl, rfl, rfl, rfl⟩ := mj_nx_eq h
            exact lv_if_ge hx hb hd ht (fun h9 => (by first | exact absurd (decide_eq_true h9) hc)) (fun _ => kk _ _ _ _ _ hI)
        · exact mj_none h
      · exact mj_none h
    case gt =>
      change mj_b pc off (fun t => mj_if (fun x => decide (0 < x)) t (pc + 3)) L st hp = _ at h
      unfold mj_b at h
      split at h
      · rename_i h0
        dsimp only at h
        have ht : (pc : Int) + off = ((((pc : Int) + off).toNat : Nat) : Int) := (Int.toNat_of_nonneg h0).symm
        unfold mj_if at h
        split at h
        · split at h
          · rename_i hc
            obtain ⟨rfl, rfl, rfl, rfl⟩ := mj_nx_eq h
            exact lv_if_gt hx hb hd ht (fun _ => kk _ _ _ _ _ hI) (fun h9 => (by first | exact absurd (of_decide_eq_true hc) h9 | exact absurd h9 (of_decide_eq_true hc)))
          · rename_i hc
            obtain ⟨rfl, rfl, rfl, rfl⟩ := mj_nx_eq h
            exact lv_if_gt hx hb hd ht (fun h9 => (by first | exact absurd (decide_eq_true h9) hc)) (fun _ => kk _ _ _ _ _ hI)
        · exact mj_none h
      · exact mj_none h
    case le =>
      change mj_b pc off (fun t => mj_if (fun x => decide (x ≤ 0)) t (pc + 3)) L st hp = _ at h
      unfold mj_b at h
      split at h
      · rename_i h0
        dsimp only at h
        have ht : (pc : Int) + off = ((((pc : Int) + off).toNat : Nat) : Int) := (Int.toNat_of_nonneg h0).symm
        unfold mj_if at h
        split at h
        · split at h
          · rename_i hc
            obtain ⟨rfl, rfl, rfl, rfl⟩ := mj_nx_eq h
            exact lv_if_le hx hb hd ht (fun _ => kk _ _ _ _ _ hI) (fun h9 => (by first | exact absurd (of_decide_eq_true hc) h9 | exact absurd h9 (of_decide_eq_true hc)))
          · rename_i hc
            obtain ⟨rfl, rfl, rfl, rfl⟩ := mj_nx_eq h
            exact lv_if_le hx hb hd ht (fun h9 => (by first | exact absurd (decide_eq_true h9) hc)) (fun _ => kk _ _ _ _ _ hI)
        · exact mj_none h
      · exact mj_none h
  | if_icmp cond off =>
    obtain rfl : len = 3 := mj_lk hl
    intro H locs cells slots ls hI
    cases cond
    case eq =>
      change mj_b pc off (fun t => mj_ic (fun x y => decide (x = y)) t (pc + 3)) L st hp = _ at h
      unfold mj_b at h
      split at h
      · rename_i h0
        dsimp only at h
        have ht : (pc : Int) + off = ((((pc : Int) + off).toNat : Nat) : Int) := (Int.toNat_of_nonneg h0).symm
        unfold mj_ic at h
        split at h
        · split at h
          · rename_i hc
            obtain ⟨rfl, rfl, rfl, rfl⟩ := mj_nx_eq h
            exact lv_icmp_eq hx hb hd ht (fun _ => kk _ _ _ _ _ hI) (fun h9 => (by first | exact absurd (of_decide_eq_true hc) h9 | exact absurd h9 (of_decide_eq_true hc)))
          · rename_i hc
            obtain ⟨rfl, rfl, rfl, rfl⟩ := mj_nx_eq h
            exact lv_icmp_eq hx hb hd ht (fun h9 => (by first | exact absurd (decide_eq_true h9) hc)) (fun _ => kk _ _ _ _ _ hI)
        · exact mj_none h
      · exact mj_none h
    case ne =>
      change mj_b pc off (fun t => mj_ic (fun x y => decide (¬ x = y)) t (pc + 3)) L st hp = _ at h
      unfold mj_b at h
      split at h
      · rename_i h0
        dsimp only at h
        have ht : (pc : Int) + off = ((((pc : Int) + off).toNat : Nat) : Int) := (Int.toNat_of_nonneg h0).symm
        unfold mj_ic at h
        split at h
        · split at h
          · rename_i hc
            obtain ⟨rfl, rfl, rfl, rfl⟩ := mj_nx_eq h
            exact lv_icmp_ne hx hb hd ht (fun _ => kk _ _ _ _ _ hI) (fun h9 => (by first | exact absurd (of_decide_eq_true hc) h9 | exact absurd h9 (of_decide_eq_true hc)))
          · rename_i hc
            obtain ⟨rfl, rfl, rfl, rfl⟩ := mj_nx_eq h
            exact lv_icmp_ne hx hb hd ht (fun h9 => (by first | exact absurd (decide_eq_true h9) hc)) (fun _ => kk _ _ _ _ _ hI)
        · exact mj_none h
      · exact mj_none h
    case lt =>
      change mj_b pc off (fun t => mj_ic (fun x y => decide (x < y)) t (pc + 3)) L st hp = _ at h
      unfold mj_b at h
      split at h
      · rename_i h0
        dsimp only at h
        have ht : (pc : Int) + off = ((((pc : Int) + off).toNat : Nat) : Int) := (Int.toNat_of_nonneg h0).symm
        unfold mj_ic at h
        split at h
        · split at h
          · rename_i hc
            obtain ⟨rfl, rfl, rfl, rfl⟩ := mj_nx_eq h
            exact lv_icmp_lt hx hb hd ht (fun _ => kk _ _ _ _ _ hI) (fun h9 => (by first | exact absurd (of_decide_eq_true hc) h9 | exact absurd h9 (of_decide_eq_true hc)))
          · rename_i hc
            obtain ⟨rfl, rfl, rfl, rfl⟩ := mj_nx_eq h
            exact lv_icmp_lt hx hb hd ht (fun h9 => (by first | exact absurd (decide_eq_true h9) hc)) (fun _ => kk _ _ _ _ _ hI)
        · exact mj_none h
      · exact mj_none h
    case ge =>
      change mj_b pc off (fun t => mj_ic (fun x y => decide (y ≤ x)) t (pc + 3)) L st hp = _ at h
      unfold mj_b at h
      split at h
      · rename_i h0
        dsimp only at h
        have ht : (pc : Int) + off = ((((pc : Int) + off).toNat : Nat) : Int) := (Int.toNat_of_nonneg h0).symm
        unfold mj_ic at h
        split at h
        · split at h
          · rename_i hc
            obtain ⟨rfl, rfl, rfl, rfl⟩ := mj_nx_eq h
            exact lv_icmp_ge hx hb hd ht (fun _ => kk _ _ _ _ _ hI) (fun h9 => (by first | exact absurd (of_decide_eq_true hc) h9 | exact absurd h9 (of_decide_eq_true hc)))
          · rename_i hc
            obtain ⟨rfl, rfl, rfl, rfl⟩ := mj_nx_eq h
            exact lv_icmp_ge hx hb hd ht (fun h9 => (by first | exact absurd (decide_eq_true h9) hc)) (fun _ => kk _ _ _ _ _ hI)
        · exact mj_none h
      · exact mj_none h
    case gt =>
      change mj_b pc off (fun t => mj_ic (fun x y => decide (y < x)) t (pc + 3)) L st hp = _ at h
      unfold mj_b at h
      split at h
      · rename_i h0
        dsimp only at h
        have ht : (pc : Int) + off = ((((pc : Int) + off).toNat : Nat) : Int) := (Int.toNat_of_nonneg h0).symm
        unfold mj_ic at h
        split at h
        · split at h
          · rename_i hc
            obtain ⟨rfl, rfl, rfl, rfl⟩ := mj_nx_eq h
            exact lv_icmp_gt hx hb hd ht (fun _ => kk _ _ _ _ _ hI) (fun h9 => (by first | exact absurd (of_decide_eq_true hc) h9 | exact absurd h9 (of_decide_eq_true hc)))
          · rename_i hc
            obtain ⟨rfl, rfl, rfl, rfl⟩ := mj_nx_eq h
            exact lv_icmp_gt hx hb hd ht (fun h9 => (by first | exact absurd (decide_eq_true h9) hc)) (fun _ => kk _ _ _ _ _ hI)
        · exact mj_none h
      · exact mj_none h
    case le =>
      change mj_b pc off (fun t => mj_ic (fun x y => decide (x ≤ y)) t (pc + 3)) L st hp = _ at h
      unfold mj_b at h
      split at h
      · rename_i h0
        dsimp only at h
        have ht : (pc : Int) + off = ((((pc : Int) + off).toNat : Nat) : Int) := (Int.toNat_of_nonneg h0).symm
        unfold mj_ic at h
        split at h
        · split at h
          · rename_i hc
            obtain ⟨rfl, rfl, rfl, rfl⟩ := mj_nx_eq h
            exact lv_icmp_le hx hb hd ht (fun _ => kk _ _ _ _ _ hI) (fun h9 => (by first | exact absurd (of_decide_eq_true hc) h9 | exact absurd h9 (of_decide_eq_true hc)))
          · rename_i hc
            obtain ⟨rfl, rfl, rfl, rfl⟩ := mj_nx_eq h
            exact lv_icmp_le hx hb hd ht (fun h9 => (by first | exact absurd (decide_eq_true h9) hc)) (fun _ => kk _ _ _ _ _ hI)
        · exact mj_none h
      · exact mj_none h
  | ifnull off =>
    obtain rfl : len = 3 := mj_lk hl
    change mj_b pc off (fun t => mj_ifn t (pc + 3)) L st hp = _ at h
    intro H locs cells slots ls hI
    unfold mj_b at h
    split at h
    · rename_i h0
      dsimp only at h
      have ht : (pc : Int) + off = ((((pc : Int) + off).toNat : Nat) : Int) := (Int.toNat_of_nonneg h0).symm
      unfold mj_ifn at h
      split at h
      · obtain ⟨rfl, rfl, rfl, rfl⟩ := mj_nx_eq h
        exact lv_ifnullN hx hb hd ht (kk _ _ _ _ _ hI)
      · obtain ⟨rfl, rfl, rfl, rfl⟩ := mj_nx_eq h
        exact lv_ifnull hx hb hd (kk _ _ _ _ _ hI)
      · exact mj_none h
    · exact mj_none h
  | ifnonnull off =>
    obtain rfl : len = 3 := mj_lk hl
    change mj_b pc off (fun t => mj_ifn (pc + 3) t) L st hp = _ at h
    intro H locs cells slots ls hI
    unfold mj_b at h
    split at h
    · rename_i h0
      dsimp only at h
      have ht : (pc : Int) + off = ((((pc : Int) + off).toNat : Nat) : Int) := (Int.toNat_of_nonneg h0).symm
      unfold mj_ifn at h
      split at h
      · obtain ⟨rfl, rfl, rfl, rfl⟩ := mj_nx_eq h
        exact lv_ifnonnullN hx hb hd (kk _ _ _ _ _ hI)
      · obtain ⟨rfl, rfl, rfl, rfl⟩ := mj_nx_eq h
        exact lv_ifnonnull hx hb hd ht (kk _ _ _ _ _ hI)
      · exact mj_none h
    · exact mj_none h
  | goto off =>
    obtain rfl : len = 3 := mj_lk hl
    change mj_b pc off (fun t => mj_go t) L st hp = _ at h
    intro H locs cells slots ls hI
    unfold mj_b at h
    split at h
    · rename_i h0
      dsimp only at h
      have ht : (pc : Int) + off = ((((pc : Int) + off).toNat : Nat) : Int) := (Int.toNat_of_nonneg h0).symm
      unfold mj_go at h
      obtain ⟨rfl, rfl, rfl, rfl⟩ := mj_nx_eq h
      exact lv_goto hx hb hd ht (kk _ _ _ _ _ hI)
    · exact mj_none h
  | tableswitch d lo hi offs =>
    unfold mj_ex at h
    dsimp only at h
    intro H locs cells slots ls hI
    split at h
    · rename_i hbs
      have hbs' : ∀ o ∈ d :: offs.toList, 0 ≤ (pc : Int) + o := fun o ho => by simpa using List.all_eq_true.mp hbs o ho
      unfold mj_tsw at h
      split at h
      · split at h
        · rename_i hrg
          obtain ⟨rfl, rfl, rfl, rfl⟩ := mj_nx_eq h
          exact lv_tableOut hx hb hd hrg (Int.toNat_of_nonneg (hbs' d List.mem_cons_self)).symm (kk _ _ _ _ _ hI)
        · rename_i hrg
          split at h
          · rename_i t ht
            obtain ⟨rfl, rfl, rfl, rfl⟩ := mj_nx_eq h
            rw [List.getElem?_map] at ht
            obtain ⟨off, ho1, ho2⟩ := Option.map_eq_some_iff.mp ht
            subst ho2
            have ho3 := hbs' off (List.mem_cons_of_mem _ (List.mem_of_getElem? ho1))
            exact lv_tableIn hx hb hd (fun q => hrg (Or.inl q)) (fun q => hrg (Or.inr q)) (by rw [← Array.getElem?_toList]; exact ho1) (Int.toNat_of_nonneg ho3).symm (kk _ _ _ _ _ hI)
          · exact mj_none h
      · exact mj_none h
    · exact mj_none h
  | dup =>
    obtain rfl : len = 1 := mj_lk hl
    change mj_dup (pc + 1) L st hp = _ at h
    unfold mj_dup at h
    intro H locs cells slots ls hI
    split at h
    · split at h
      · rename_i hc
        obtain ⟨rfl, rfl, rfl, rfl⟩ := mj_nx_eq h
        exact lv_dup hx hb hd hc (kk _ _ _ _ _ hI)
      · exact mj_none h
    · exact mj_none h
  | pop =>
    obtain rfl : len = 1 := mj_lk hl
    change mj_pop (pc + 1) L st hp = _ at h
    unfold mj_pop at h
    intro H locs cells slots ls hI
    split at h
    · split at h
      · rename_i hc
        obtain ⟨rfl, rfl, rfl, rfl⟩ := mj_nx_eq h
        exact lv_pop hx hb hd hc (kk _ _ _ _ _ hI)
      · exact mj_none h
    · exact mj_none h
  | dup_x1 =>
    obtain rfl : len = 1 := mj_lk hl
    change mj_dx1 (pc + 1) L st hp = _ at h
    unfold mj_dx1 at h
    intro H locs cells slots ls hI
    split at h
    · split at h
      · rename_i hc
        obtain ⟨rfl, rfl, rfl, rfl⟩ := mj_nx_eq h
        exact lv_dup_x1 hx hb hd hc.1 hc.2 (kk _ _ _ _ _ hI)
      · exact mj_none h
    · exact mj_none h
  | dup_x2 =>
    obtain rfl : len = 1 := mj_lk hl
    change mj_dx2 (pc + 1) L st hp = _ at h
    unfold mj_dx2 at h
    intro H locs cells slots ls hI
    split at h
    · split at h
      · rename_i hc
        obtain ⟨rfl, rfl, rfl, rfl⟩ := mj_nx_eq h
        exact lv_dup_x2 hx hb hd hc.1 hc.2.1 hc.2.2 (kk _ _ _ _ _ hI)
      · exact mj_none h
    · exact mj_none h
  | dup2 =>
    obtain rfl : len = 1 := mj_lk hl
    change mj_d2 (pc + 1) L st hp = _ at h
    unfold mj_d2 at h
    intro H locs cells slots ls hI
    split at h
    · rename_i v w rest
      split at h
      · rename_i hc
        obtain ⟨rfl, rfl, rfl, rfl⟩ := mj_nx_eq h
        exact lv_dup2_2 hx hb hd hc (kk _ _ _ _ _ hI)
      · rename_i hc
        split at h
        · rename_i hc2
          obtain ⟨rfl, rfl, rfl, rfl⟩ := mj_nx_eq h
          exact lv_dup2_11 hx hb hd ((lv_cat v).resolve_right hc) hc2 (kk _ _ _ _ _ hI)
        · exact mj_none h
    · split at h
      · rename_i hc
        obtain ⟨rfl, rfl, rfl, rfl⟩ := mj_nx_eq h
        exact lv_dup2_2 hx hb hd hc (kk _ _ _ _ _ hI)
      · exact mj_none h
    · exact mj_none h
  | dup2_x1 =>
    obtain rfl : len = 1 := mj_lk hl
    change mj_d21 (pc + 1) L st hp = _ at h
    unfold mj_d21 at h
    intro H locs cells slots ls hI
    split at h
    · split at h
      · rename_i hc
        obtain ⟨rfl, rfl, rfl, rfl⟩ := mj_nx_eq h
        exact lv_dup2_x1_2 hx hb hd hc.1 hc.2 (kk _ _ _ _ _ hI)
      · exact mj_none h
    · exact mj_none h
  | getfield x =>
    obtain rfl : len = 3 := mj_lk hl
    unfold mj_ex at h
    dsimp only at h
    cases hf : mj_find mj_fl (mj_on m) x with
    | none => rw [hf] at h; exact mj_none h
    | some q =>
      obtain ⟨ci, k⟩ := q
      rw [hf] at h
      exact mj_go_get A0 hf hd h kk
  | putfield x =>
    obtain rfl : len = 3 := mj_lk hl
    unfold mj_ex at h
    dsimp only at h
    cases hf : mj_find mj_fl (mj_on m) x with
    | none => rw [hf] at h; exact mj_none h
    | some q =>
      obtain ⟨ci, k⟩ := q
      rw [hf] at h
      dsimp only at h
      by_cases hfin : mj_fin ci k = false ∨ ((mj_y m).name = "<init>" ∧ mj_fown ci k = mj_own m)
      · rw [if_pos hfin] at h
        exact mj_go_put A0 hf hfin hd h kk
      · rw [if_neg hfin] at h
        exact mj_none h
  | new x =>
    obtain rfl : len = 3 := mj_lk hl
    unfold mj_ex at h
    dsimp only at h
    cases hf : mj_find mj_nl (mj_on m) x with
    | none => rw [hf] at h; exact mj_none h
    | some ci =>
      rw [hf] at h
      exact mj_go_new A0 hR hf hd h kk
  | newarray ty =>
    obtain rfl : len = 2 := mj_lk hl
    cases ty
    case boolean =>
      unfold mj_ex at h
      dsimp only at h
      split at h
      · rename_i hat
        unfold mj_nwi at h
        split at h
        · split at h
          · exact mj_none h
          · rename_i hn
            obtain ⟨rfl, rfl, rfl, rfl⟩ := mj_nx_eq h
            exact mj_go_nwa A0 (ty := .boolean) hn rfl hat (mj_ok_at hat (by decide)) (by decide) (fun _ h9 => h9) (fun _ _ => rfl) hR hd kk
        · exact mj_none h
      · exact mj_none h
    case char =>
      exact mj_none h
    case float =>
      exact mj_none h
    case double =>
      exact mj_none h
    case byte =>
      exact mj_none h
    case short =>
      exact mj_none h
    case int =>
      unfold mj_ex at h
      dsimp only at h
      split at h
      · rename_i hat
        unfold mj_nwi at h
        split at h
        · split at h
          · exact mj_none h
          · rename_i hn
            obtain ⟨rfl, rfl, rfl, rfl⟩ := mj_nx_eq h
            exact mj_go_nwa A0 (ty := .int) hn rfl hat (mj_ok_at hat (by decide)) (by decide) (fun _ h9 => h9) (fun _ _ => rfl) hR hd kk
        · exact mj_none h
      · exact mj_none h
    case long =>
      unfold mj_ex at h
      dsimp only at h
      split at h
      · rename_i hat
        unfold mj_nwl at h
        split at h
        · split at h
          · exact mj_none h
          · rename_i hn
            obtain ⟨rfl, rfl, rfl, rfl⟩ := mj_nx_eq h
            exact mj_go_nwa A0 (ty := .long) hn rfl hat (mj_ok_at hat (by decide)) (by decide) (fun _ h9 => h9) (fun _ _ => rfl) hR hd kk
        · exact mj_none h
      · exact mj_none h
  | anewarray x =>
    obtain rfl : len = 3 := mj_lk hl
    unfold mj_ex at h
    dsimp only at h
    cases hf : mj_find mj_ql (mj_on m) x with
    | none => rw [hf] at h; exact mj_none h
    | some tq =>
      rw [hf] at h
      exact mj_go_nwq A0 hf hR hd h kk
  | arraylength =>
    obtain rfl : len = 1 := mj_lk hl
    exact mj_go_len A0 hd h kk
  | iaload =>
    obtain rfl : len = 1 := mj_lk hl
    exact mj_go_iar A0 (Or.inl ⟨rfl, hd⟩) h kk
  | baload =>
    obtain rfl : len = 1 := mj_lk hl
    exact mj_go_iar A0 (Or.inr ⟨rfl, hd⟩) h kk
  | laload =>
    obtain rfl : len = 1 := mj_lk hl
    exact mj_go_lar A0 hd h kk
  | aaload =>
    obtain rfl : len = 1 := mj_lk hl
    exact mj_go_aar A0 hd h kk
  | iastore =>
    obtain rfl : len = 1 := mj_lk hl
    exact mj_go_iaw A0 (Or.inl ⟨rfl, hd⟩) h kk
  | bastore =>
    obtain rfl : len = 1 := mj_lk hl
    exact mj_go_iaw A0 (Or.inr ⟨rfl, hd⟩) h kk
  | lastore =>
    obtain rfl : len = 1 := mj_lk hl
    exact mj_go_law A0 hd h kk
  | aastore =>
    obtain rfl : len = 1 := mj_lk hl
    exact mj_go_aaw A0 hd h kk
  | invokestatic x =>
    unfold mj_ex at h
    dsimp only at h
    cases hf : mj_find mj_ml (mj_on m) x with
    | none => rw [hf] at h; exact mj_none h
    | some q =>
      obtain ⟨m', kd⟩ := q
      rw [hf] at h
      dsimp only at h
      by_cases hkd : kd ≤ 1
      · rw [if_pos hkd] at h
        exact (mj_inv_inl (by omega) h).elim
      · rw [if_neg hkd] at h
        exact mj_none h
  | invokevirtual x =>
    unfold mj_ex at h
    dsimp only at h
    cases hf : mj_find mj_ml (mj_on m) x with
    | none => rw [hf] at h; exact mj_none h
    | some q =>
      obtain ⟨m', kd⟩ := q
      rw [hf] at h
      dsimp only at h
      by_cases hkd : 2 ≤ kd ∧ kd ≤ 3
      · rw [if_pos hkd] at h
        exact (mj_inv_inl (by omega) h).elim
      · rw [if_neg hkd] at h
        exact mj_none h
  | invokespecial x =>
    obtain rfl : len = 3 := mj_lk hl
    unfold mj_ex at h
    dsimp only at h
    cases hf : mj_find mj_ml (mj_on m) x with
    | none => rw [hf] at h; exact mj_none h
    | some q =>
      obtain ⟨m', kd⟩ := q
      rw [hf] at h
      dsimp only at h
      by_cases hkd : 4 ≤ kd
      · rw [if_pos hkd] at h
        by_cases h5 : kd = 5
        · subst h5
          obtain ⟨w1, w2, w3⟩ := mj_ok_ml5 (mj_find_mem hf)
          unfold mj_inv at h
          rw [if_pos rfl] at h
          by_cases hh : 1 ≤ mj_hgt m ∧ 20 ≤ mj_lr m
          · rw [if_pos hh] at h
            unfold mj_ob at h
            split at h
            · rename_i a rest
              split at h
              · rename_i hcat
                obtain ⟨rfl, rfl, rfl, rfl⟩ := mj_nx_eq h
                intro H locs cells slots ls hI
                unfold mj_cat at hcat
                have hm0 : ∀ (z : List Value), (F0 mi pc ls z).monitorRoom = 0 := fun _ => rfl
                exact W.objInit hx hb hown (hts _ w1) (hts _ w2) (hts _ w3) rfl (by rw [hml]; exact hI.1.2.1) rfl hd (by omega) (by rw [hm0]; omega) (kk _ _ _ _ _ hI)
              · exact mj_none h
            · exact mj_none h
          · rw [if_neg hh] at h
            exact mj_none h
        · exact (mj_inv_inl h5 h).elim
      · rw [if_neg hkd] at h
        exact mj_none h
  | ireturn =>
    unfold mj_ex at h
    dsimp only at h
    cases hr9 : mj_ret m with
    | none => rw [hr9] at h; exact mj_none h
    | some ty =>
      rw [hr9] at h
      exact (mj_rt_inl (Or.inl ⟨ty, rfl⟩) h).elim
  | lreturn =>
    unfold mj_ex at h
    dsimp only at h
    by_cases hr9 : mj_ret m = some .long
    · rw [if_pos hr9] at h
      exact (mj_rt_inl (Or.inr (Or.inl rfl)) h).elim
    · rw [if_neg hr9] at h
      exact mj_none h
  | areturn =>
    unfold mj_ex at h
    dsimp only at h
    cases hr9 : mj_ret m with
    | none => rw [hr9] at h; exact mj_none h
    | some ty =>
      rw [hr9] at h
      cases ty <;> first | exact mj_none h | exact (mj_rt_inl (Or.inr (Or.inr (Or.inl rfl))) h).elim
  | return_ =>
    unfold mj_ex at h
    dsimp only at h
    by_cases hr9 : mj_ret m = none
    · rw [if_pos hr9] at h
      exact (mj_rt_inl (Or.inr (Or.inr (Or.inr rfl))) h).elim
    · rw [if_neg hr9] at h
      exact mj_none h
  | _ => exact mj_none h
end MJS
end
section
/-! Calls and returns, and the whole run -/
def mj_oi (o : mj_O) : Prop := ∀ (L : mj_L) (st : List Value) (hp : mj_H) (r : (Nat × List Value × List Value × Nat) ⊕ Option Value), o L st hp = some (.inr r) → False
theorem mj_nx_inr {pc : Nat} {L : mj_L} {st : List Value} {hp : mj_H} {r : (Nat × List Value × List Value × Nat) ⊕ Option Value} (h : mj_nx pc L st hp = some (.inr r)) : False := by
  unfold mj_nx at h
  cases h
theorem mj_oi_no : mj_oi (mj_no) := by
  intro L st hp r h
  unfold mj_no at h
  (repeat' split at h) <;> first | exact mj_none h | exact mj_nx_inr h
theorem mj_oi_cst (v : Value) (n : Nat) : mj_oi (mj_cst v n) := by
  intro L st hp r h
  unfold mj_cst at h
  (repeat' split at h) <;> first | exact mj_none h | exact mj_nx_inr h
theorem mj_oi_ild (i : Nat) (n : Nat) : mj_oi (mj_ild i n) := by
  intro L st hp r h
  unfold mj_ild at h
  (repeat' split at h) <;> first | exact mj_none h | exact mj_nx_inr h
theorem mj_oi_lld (i : Nat) (n : Nat) : mj_oi (mj_lld i n) := by
  intro L st hp r h
  unfold mj_lld at h
  (repeat' split at h) <;> first | exact mj_none h | exact mj_nx_inr h
theorem mj_oi_ald (i : Nat) (n : Nat) : mj_oi (mj_ald i n) := by
  intro L st hp r h
  unfold mj_ald at h
  (repeat' split at h) <;> first | exact mj_none h | exact mj_nx_inr h
theorem mj_oi_ist (i : Nat) (n : Nat) : mj_oi (mj_ist i n) := by
  intro L st hp r h
  unfold mj_ist at h
  (repeat' split at h) <;> first | exact mj_none h | exact mj_nx_inr h
theorem mj_oi_lst (i : Nat) (n : Nat) : mj_oi (mj_lst i n) := by
  intro L st hp r h
  unfold mj_lst at h
  (repeat' split at h) <;> first | exact mj_none h | exact mj_nx_inr h
theorem mj_oi_ast (i : Nat) (n : Nat) : mj_oi (mj_ast i n) := by
  intro L st hp r h
  unfold mj_ast at h
  (repeat' split at h) <;> first | exact mj_none h | exact mj_nx_inr h
theorem mj_oi_inc (i : Nat) (c : Int32) (n : Nat) : mj_oi (mj_inc i c n) := by
  intro L st hp r h
  unfold mj_inc at h
  (repeat' split at h) <;> first | exact mj_none h | exact mj_nx_inr h
theorem mj_oi_ii (f : Int32 → Int32 → Int32) (n : Nat) : mj_oi (mj_ii f n) := by
  intro L st hp r h
  unfold mj_ii at h
  (repeat' split at h) <;> first | exact mj_none h | exact mj_nx_inr h
theorem mj_oi_iz (f : Int32 → Int32 → Int32) (n : Nat) : mj_oi (mj_iz f n) := by
  intro L st hp r h
  unfold mj_iz at h
  (repeat' split at h) <;> first | exact mj_none h | exact mj_nx_inr h
theorem mj_oi_i1 (f : Int32 → Int32) (n : Nat) : mj_oi (mj_i1 f n) := by
  intro L st hp r h
  unfold mj_i1 at h
  (repeat' split at h) <;> first | exact mj_none h | exact mj_nx_inr h
theorem mj_oi_ll (f : Int64 → Int64 → Int64) (n : Nat) : mj_oi (mj_ll f n) := by
  intro L st hp r h
  unfold mj_ll at h
  (repeat' split at h) <;> first | exact mj_none h | exact mj_nx_inr h
theorem mj_oi_l1 (f : Int64 → Int64) (n : Nat) : mj_oi (mj_l1 f n) := by
  intro L st hp r h
  unfold mj_l1 at h
  (repeat' split at h) <;> first | exact mj_none h | exact mj_nx_inr h
theorem mj_oi_li (f : Int64 → Int32 → Int64) (n : Nat) : mj_oi (mj_li f n) := by
  intro L st hp r h
  unfold mj_li at h
  (repeat' split at h) <;> first | exact mj_none h | exact mj_nx_inr h
theorem mj_oi_i2l (n : Nat) : mj_oi (mj_i2l n) := by
  intro L st hp r h
  unfold mj_i2l at h
  (repeat' split at h) <;> first | exact mj_none h | exact mj_nx_inr h
theorem mj_oi_l2i (n : Nat) : mj_oi (mj_l2i n) := by
  intro L st hp r h
  unfold mj_l2i at h
  (repeat' split at h) <;> first | exact mj_none h | exact mj_nx_inr h
theorem mj_oi_lcm (n : Nat) : mj_oi (mj_lcm n) := by
  intro L st hp r h
  unfold mj_lcm at h
  (repeat' split at h) <;> first | exact mj_none h | exact mj_nx_inr h
theorem mj_oi_if (f : Int32 → Bool) (t : Nat) (n : Nat) : mj_oi (mj_if f t n) := by
  intro L st hp r h
  unfold mj_if at h
  (repeat' split at h) <;> first | exact mj_none h | exact mj_nx_inr h
theorem mj_oi_ic (f : Int32 → Int32 → Bool) (t : Nat) (n : Nat) : mj_oi (mj_ic f t n) := by
  intro L st hp r h
  unfold mj_ic at h
  (repeat' split at h) <;> first | exact mj_none h | exact mj_nx_inr h
theorem mj_oi_ifn (t : Nat) (n : Nat) : mj_oi (mj_ifn t n) := by
  intro L st hp r h
  unfold mj_ifn at h
  (repeat' split at h) <;> first | exact mj_none h | exact mj_nx_inr h
theorem mj_oi_go (t : Nat) : mj_oi (mj_go t) := by
  intro L st hp r h
  unfold mj_go at h
  (repeat' split at h) <;> first | exact mj_none h | exact mj_nx_inr h
theorem mj_oi_tsw (lo : Int) (hi : Int) (d : Nat) (ts : List Nat) : mj_oi (mj_tsw lo hi d ts) := by
  intro L st hp r h
  unfold mj_tsw at h
  (repeat' split at h) <;> first | exact mj_none h | exact mj_nx_inr h
theorem mj_oi_dup (n : Nat) : mj_oi (mj_dup n) := by
  intro L st hp r h
  unfold mj_dup at h
  (repeat' split at h) <;> first | exact mj_none h | exact mj_nx_inr h
theorem mj_oi_pop (n : Nat) : mj_oi (mj_pop n) := by
  intro L st hp r h
  unfold mj_pop at h
  (repeat' split at h) <;> first | exact mj_none h | exact mj_nx_inr h
theorem mj_oi_dx1 (n : Nat) : mj_oi (mj_dx1 n) := by
  intro L st hp r h
  unfold mj_dx1 at h
  (repeat' split at h) <;> first | exact mj_none h | exact mj_nx_inr h
theorem mj_oi_dx2 (n : Nat) : mj_oi (mj_dx2 n) := by
  intro L st hp r h
  unfold mj_dx2 at h
  (repeat' split at h) <;> first | exact mj_none h | exact mj_nx_inr h
theorem mj_oi_d2 (n : Nat) : mj_oi (mj_d2 n) := by
  intro L st hp r h
  unfold mj_d2 at h
  (repeat' split at h) <;> first | exact mj_none h | exact mj_nx_inr h
theorem mj_oi_d21 (n : Nat) : mj_oi (mj_d21 n) := by
  intro L st hp r h
  unfold mj_d21 at h
  (repeat' split at h) <;> first | exact mj_none h | exact mj_nx_inr h
theorem mj_oi_get (ci : Nat) (k : Nat) (n : Nat) : mj_oi (mj_get ci k n) := by
  intro L st hp r h
  unfold mj_get at h
  (repeat' split at h) <;> first | exact mj_none h | exact mj_nx_inr h
theorem mj_oi_put (ci : Nat) (k : Nat) (ty : FieldType) (n : Nat) : mj_oi (mj_put ci k ty n) := by
  intro L st hp r h
  unfold mj_put at h
  (repeat' split at h) <;> first | exact mj_none h | exact mj_nx_inr h
theorem mj_oi_nw (ci : Nat) (N : Nat) (fs : List Value) (n : Nat) : mj_oi (mj_nw ci N fs n) := by
  intro L st hp r h
  unfold mj_nw at h
  (repeat' split at h) <;> first | exact mj_none h | exact mj_nx_inr h
theorem mj_oi_nwi (t : Nat) (n : Nat) : mj_oi (mj_nwi t n) := by
  intro L st hp r h
  unfold mj_nwi at h
  (repeat' split at h) <;> first | exact mj_none h | exact mj_nx_inr h
theorem mj_oi_nwl (t : Nat) (n : Nat) : mj_oi (mj_nwl t n) := by
  intro L st hp r h
  unfold mj_nwl at h
  (repeat' split at h) <;> first | exact mj_none h | exact mj_nx_inr h
theorem mj_oi_nwq (t : Nat) (n : Nat) : mj_oi (mj_nwq t n) := by
  intro L st hp r h
  unfold mj_nwq at h
  (repeat' split at h) <;> first | exact mj_none h | exact mj_nx_inr h
theorem mj_oi_len (n : Nat) : mj_oi (mj_len n) := by
  intro L st hp r h
  unfold mj_len at h
  (repeat' split at h) <;> first | exact mj_none h | exact mj_nx_inr h
theorem mj_oi_iar (ty : FieldType) (n : Nat) : mj_oi (mj_iar ty n) := by
  intro L st hp r h
  unfold mj_iar at h
  (repeat' split at h) <;> first | exact mj_none h | exact mj_nx_inr h
theorem mj_oi_lar (n : Nat) : mj_oi (mj_lar n) := by
  intro L st hp r h
  unfold mj_lar at h
  (repeat' split at h) <;> first | exact mj_none h | exact mj_nx_inr h
theorem mj_oi_aar (n : Nat) : mj_oi (mj_aar n) := by
  intro L st hp r h
  unfold mj_aar at h
  (repeat' split at h) <;> first | exact mj_none h | exact mj_nx_inr h
theorem mj_oi_iaw (ty : FieldType) (n : Nat) : mj_oi (mj_iaw ty n) := by
  intro L st hp r h
  unfold mj_iaw at h
  (repeat' split at h) <;> first | exact mj_none h | exact mj_nx_inr h
theorem mj_oi_law (n : Nat) : mj_oi (mj_law n) := by
  intro L st hp r h
  unfold mj_law at h
  (repeat' split at h) <;> first | exact mj_none h | exact mj_nx_inr h
theorem mj_oi_aaw (n : Nat) : mj_oi (mj_aaw n) := by
  intro L st hp r h
  unfold mj_aaw at h
  (repeat' split at h) <;> first | exact mj_none h | exact mj_nx_inr h
theorem mj_oi_ob (n : Nat) : mj_oi (mj_ob n) := by
  intro L st hp r h
  unfold mj_ob at h
  (repeat' split at h) <;> first | exact mj_none h | exact mj_nx_inr h
theorem mj_oi_b {pc : Nat} {off : Int} {f : Nat → mj_O} (h : ∀ t, mj_oi (f t)) : mj_oi (mj_b pc off f) := by
  unfold mj_b
  split
  · exact h _
  · exact mj_oi_no
/-- an instruction that is no call and no return goes on -/
theorem mj_oi_ex (m : Nat) (i : ClassFile.Instr) (pc : Nat) : (∃ x, i = .invokestatic x ∨ i = .invokevirtual x ∨ i = .invokespecial x) ∨ (i = .ireturn ∨ i = .lreturn ∨ i = .areturn ∨ i = .return_) ∨ mj_oi (mj_ex m i pc) := by
  cases i with
  | invokestatic x => exact Or.inl ⟨x, Or.inl rfl⟩
  | invokevirtual x => exact Or.inl ⟨x, Or.inr (Or.inl rfl)⟩
  | invokespecial x => exact Or.inl ⟨x, Or.inr (Or.inr rfl)⟩
  | ireturn => exact Or.inr (Or.inl (Or.inl rfl))
  | lreturn => exact Or.inr (Or.inl (Or.inr (Or.inl rfl)))
  | areturn => exact Or.inr (Or.inl (Or.inr (Or.inr (Or.inl rfl))))
  | return_ => exact Or.inr (Or.inl (Or.inr (Or.inr (Or.inr rfl))))
  | ifCond cond off => exact Or.inr (Or.inr (by cases cond <;> exact mj_oi_b (fun t => mj_oi_if _ _ _)))
  | if_icmp cond off => exact Or.inr (Or.inr (by cases cond <;> exact mj_oi_b (fun t => mj_oi_ic _ _ _)))
  | ifnull off => exact Or.inr (Or.inr (mj_oi_b (fun t => mj_oi_ifn _ _)))
  | ifnonnull off => exact Or.inr (Or.inr (mj_oi_b (fun t => mj_oi_ifn _ _)))
  | goto off => exact Or.inr (Or.inr (mj_oi_b (fun t => mj_oi_go _)))
  | tableswitch d lo hi offs => exact Or.inr (Or.inr (by unfold mj_ex; dsimp only; split <;> first | exact mj_oi_tsw _ _ _ _ | exact mj_oi_no))
  | newarray ty => exact Or.inr (Or.inr (by cases ty <;> (unfold mj_ex; dsimp only; first | exact mj_oi_no | (split <;> first | exact mj_oi_nwi _ _ | exact mj_oi_nwl _ _ | exact mj_oi_no))))
  | ldc x => exact Or.inr (Or.inr (by unfold mj_ex; dsimp only; split <;> first | exact mj_oi_cst _ _ | exact mj_oi_no))
  | ldc2_w x => exact Or.inr (Or.inr (by unfold mj_ex; dsimp only; split <;> first | exact mj_oi_cst _ _ | exact mj_oi_no))
  | getfield x => exact Or.inr (Or.inr (by unfold mj_ex; dsimp only; split <;> first | exact mj_oi_get _ _ _ | exact mj_oi_no))
  | putfield x => exact Or.inr (Or.inr (by unfold mj_ex; dsimp only; (repeat' split) <;> first | exact mj_oi_put _ _ _ _ | exact mj_oi_no))
  | new x => exact Or.inr (Or.inr (by unfold mj_ex; dsimp only; split <;> first | exact mj_oi_nw _ _ _ _ | exact mj_oi_no))
  | anewarray x => exact Or.inr (Or.inr (by unfold mj_ex; dsimp only; split <;> first | exact mj_oi_nwq _ _ | exact mj_oi_no))
  | _ => exact Or.inr (Or.inr (by first | exact mj_oi_no | exact mj_oi_cst _ _ | exact mj_oi_ild _ _ | exact mj_oi_lld _ _ | exact mj_oi_ald _ _ | exact mj_oi_ist _ _ | exact mj_oi_lst _ _ | exact mj_oi_ast _ _ | exact mj_oi_inc _ _ _ | exact mj_oi_ii _ _ | exact mj_oi_iz _ _ | exact mj_oi_i1 _ _ | exact mj_oi_ll _ _ | exact mj_oi_l1 _ _ | exact mj_oi_li _ _ | exact mj_oi_i2l _ | exact mj_oi_l2i _ | exact mj_oi_lcm _ | exact mj_oi_if _ _ _ | exact mj_oi_ic _ _ _ | exact mj_oi_ifn _ _ | exact mj_oi_go _ | exact mj_oi_tsw _ _ _ _ | exact mj_oi_dup _ | exact mj_oi_pop _ | exact mj_oi_dx1 _ | exact mj_oi_dx2 _ | exact mj_oi_d2 _ | exact mj_oi_d21 _ | exact mj_oi_get _ _ _ | exact mj_oi_put _ _ _ _ | exact mj_oi_nw _ _ _ _ | exact mj_oi_nwi _ _ | exact mj_oi_nwl _ _ | exact mj_oi_nwq _ _ | exact mj_oi_len _ | exact mj_oi_iar _ _ | exact mj_oi_lar _ | exact mj_oi_aar _ | exact mj_oi_iaw _ _ | exact mj_oi_law _ | exact mj_oi_aaw _ | exact mj_oi_ob _))
def mj_ws (m : Nat) : List Cond := .code (mj_y m) (mj_code m) (mj_mxl m) (mj_ret m) :: mj_words
def mj_Pc (G : mj_G) (vs : List Value) (hp : mj_H) : Array Value → State → Prop := fun a U => a = vs.toArray ∧ mj_rep G hp U.heap ∧ mj_K G U ∧ va_X G.2.2.1 G.2.2.2.1 G.2.2.2.2.1 U U.heap
def mj_Qc (G : mj_G) (r : Option Value) (hp1 : mj_H) : Array Value → State → Outcome → State → Prop := fun _ st o t => o = .returned r ∧ mj_rep G hp1 t.heap ∧ ∀ q : Nat, q < G.2.2.2.2.2 → t.heap[q]? = st.heap[q]?
theorem mj_tk_inv : ∀ (k : Nat) (acc st vs rest : List Value), mj_tk k acc st = some (vs, rest) → ∃ As : List Value, vs = As ++ acc ∧ As.length = k ∧ st = As.reverse ++ rest := by
  intro k
  induction k with
  | zero =>
    intro acc st vs rest h
    simp only [mj_tk, Option.some.injEq, Prod.mk.injEq] at h
    obtain ⟨rfl, rfl⟩ := h
    exact ⟨[], rfl, rfl, rfl⟩
  | succ k ih =>
    intro acc st vs rest h
    cases st with
    | nil => simp [mj_tk] at h
    | cons v st =>
      rw [mj_tk] at h
      obtain ⟨As, h1, h2, h3⟩ := ih _ _ _ _ h
      refine ⟨As ++ [v], by rw [h1]; simp, by simp [h2], ?_⟩
      rw [h3]
      simp
/-- what a return's step says -/
theorem mj_ret_inv {m pc : Nat} {i : ClassFile.Instr} {L : mj_L} {st : List Value} {hp : mj_H} {q : (Nat × List Value × List Value × Nat) ⊕ Option Value} (h : mj_ex m i pc L st hp = some (.inr q)) (hi : i = .ireturn ∨ i = .lreturn ∨ i = .areturn ∨ i = .return_) :
    ((i = .ireturn ∧ ∃ (ty : FieldType) (v : Int32), mj_ret m = some ty ∧ st = [.int v] ∧ narrow ty (.int v) = .int v ∧ q = .inr (some (.int v))) ∨ (i = .lreturn ∧ ∃ v : Int64, mj_ret m = some .long ∧ st = [.long v] ∧ q = .inr (some (.long v))) ∨
      (i = .areturn ∧ ∃ (rt : FieldType) (v : Value), mj_ret m = some rt ∧ ((∃ n, rt = .object n) ∨ ∃ t, rt = .array t) ∧ (v = .null ∨ ∃ a, v = .ref a) ∧ st = [v] ∧ q = .inr (some v)) ∨ (i = .return_ ∧ mj_ret m = none ∧ st = [] ∧ q = .inr none)) ∧ ∃ v, True ∧ q = .inr v := by
  have ra : mj_rta L st hp = some (.inr q) → ∃ v : Value, (v = .null ∨ ∃ a, v = .ref a) ∧ st = [v] ∧ q = .inr (some v) := by
    intro h
    unfold mj_rta at h
    split at h
    · cases h
      exact ⟨_, Or.inr ⟨_, rfl⟩, rfl, rfl⟩
    · cases h
      exact ⟨_, Or.inl rfl, rfl, rfl⟩
    · exact mj_none h
  rcases hi with rfl | rfl | rfl | rfl
  · unfold mj_ex at h
    dsimp only at h
    cases hr : mj_ret m with
    | none => rw [hr] at h; exact mj_none h
    | some ty =>
      rw [hr] at h
      dsimp only at h
      unfold mj_rti at h
      split at h
      · split at h
        · rename_i v hn
          cases h
          exact ⟨Or.inl ⟨rfl, ty, v, rfl, rfl, hn, rfl⟩, _, trivial, rfl⟩
        · exact mj_none h
      · exact mj_none h
  · unfold mj_ex at h
    dsimp only at h
    by_cases hr : mj_ret m = some .long
    · rw [if_pos hr] at h
      unfold mj_rtl at h
      split at h
      · cases h
        exact ⟨Or.inr (Or.inl ⟨rfl, _, hr, rfl, rfl⟩), _, trivial, rfl⟩
      · exact mj_none h
    · rw [if_neg hr] at h
      exact mj_none h
  · unfold mj_ex at h
    dsimp only at h
    cases hr : mj_ret m with
    | none => rw [hr] at h; exact mj_none h
    | some ty =>
      rw [hr] at h
      cases ty with
      | object C =>
        obtain ⟨v, h1, h2, h3⟩ := ra h
        exact ⟨Or.inr (Or.inr (Or.inl ⟨rfl, _, v, rfl, Or.inl ⟨_, rfl⟩, h1, h2, h3⟩)), _, trivial, h3⟩
      | array u =>
        obtain ⟨v, h1, h2, h3⟩ := ra h
        exact ⟨Or.inr (Or.inr (Or.inl ⟨rfl, _, v, rfl, Or.inr ⟨_, rfl⟩, h1, h2, h3⟩)), _, trivial, h3⟩
      | _ => exact mj_none h
  · unfold mj_ex at h
    dsimp only at h
    by_cases hr : mj_ret m = none
    · rw [if_pos hr] at h
      unfold mj_rtv at h
      split at h
      · cases h
        exact ⟨Or.inr (Or.inr (Or.inr ⟨rfl, hr, rfl, rfl⟩)), _, trivial, rfl⟩
      · exact mj_none h
    · rw [if_neg hr] at h
      exact mj_none h
theorem mj_inv_ret {m pc : Nat} {i : ClassFile.Instr} {L : mj_L} {st : List Value} {hp : mj_H} {r : Option Value} {x : Nat} (h : mj_ex m i pc L st hp = some (.inr (.inr r))) (hi : i = .invokestatic x ∨ i = .invokevirtual x ∨ i = .invokespecial x) : False := by
  have inv : ∀ {m1 kd n1 : Nat}, mj_inv m m1 kd n1 L st hp = some (.inr (.inr r)) → False := by
    intro m1 kd n1 hv
    unfold mj_inv at hv
    split at hv
    · split at hv
      · exact mj_oi_ob _ _ _ _ _ hv
      · exact mj_none hv
    · split at hv
      · split at hv
        · unfold mj_ivs at hv
          (repeat' split at hv) <;> first | exact mj_none hv | cases hv
        · split at hv
          · unfold mj_ivv at hv
            (repeat' split at hv) <;> first | exact mj_none hv | cases hv
          · split at hv
            · unfold mj_ivi at hv
              (repeat' split at hv) <;> first | exact mj_none hv | cases hv
            · exact mj_none hv
      · exact mj_none hv
  rcases hi with rfl | rfl | rfl
  · unfold mj_ex at h
    dsimp only at h
    cases hf : mj_find mj_ml (mj_on m) x with
    | none => rw [hf] at h; exact mj_none h
    | some q =>
      obtain ⟨m1, kd⟩ := q
      rw [hf] at h
      dsimp only at h
      by_cases hkd : kd ≤ 1
      · rw [if_pos hkd] at h; exact inv h
      · rw [if_neg hkd] at h; exact mj_none h
  · unfold mj_ex at h
    dsimp only at h
    cases hf : mj_find mj_ml (mj_on m) x with
    | none => rw [hf] at h; exact mj_none h
    | some q =>
      obtain ⟨m1, kd⟩ := q
      rw [hf] at h
      dsimp only at h
      by_cases hkd : 2 ≤ kd ∧ kd ≤ 3
      · rw [if_pos hkd] at h; exact inv h
      · rw [if_neg hkd] at h; exact mj_none h
  · unfold mj_ex at h
    dsimp only at h
    cases hf : mj_find mj_ml (mj_on m) x with
    | none => rw [hf] at h; exact mj_none h
    | some q =>
      obtain ⟨m1, kd⟩ := q
      rw [hf] at h
      dsimp only at h
      by_cases hkd : 4 ≤ kd
      · rw [if_pos hkd] at h; exact inv h
      · rw [if_neg hkd] at h; exact mj_none h
/-- what a call's step says -/
theorem mj_call_inv {m pc m' n : Nat} {i : ClassFile.Instr} {L : mj_L} {st vs rest : List Value} {hp : mj_H} (h : mj_ex m i pc L st hp = some (.inr (.inl (m', vs, rest, n)))) :
    ∃ x kd, mj_find mj_ml (mj_on m) x = some (m', kd) ∧ ¬ kd = 5 ∧ (mj_hgt m' < mj_hgt m ∧ mj_lr m' + mj_mxl m' + 19 ≤ mj_lr m) ∧ n = pc + 3 ∧ mj_cat rest ≤ 8 ∧
      ((kd ≤ 1 ∧ i = .invokestatic x ∧ vs.length = mj_na m' ∧ st = vs.reverse ++ rest) ∨
       ∃ (a : Nat) (As : List Value), vs = .ref a :: As ∧ As.length = mj_na m' ∧ st = As.reverse ++ .ref a :: rest ∧ ((2 ≤ kd ∧ kd ≤ 3 ∧ i = .invokevirtual x ∧ ∃ fs, hp.1 a = some (.inr (mj_ci m', fs))) ∨ (kd = 4 ∧ i = .invokespecial x))) := by
  have inv : ∀ {m1 kd n1 : Nat}, mj_inv m m1 kd n1 L st hp = some (.inr (.inl (m', vs, rest, n))) → m1 = m' ∧ n1 = n ∧ ¬ kd = 5 ∧ (mj_hgt m' < mj_hgt m ∧ mj_lr m' + mj_mxl m' + 19 ≤ mj_lr m) ∧ mj_cat rest ≤ 8 ∧
      ((kd ≤ 1 ∧ vs.length = mj_na m' ∧ st = vs.reverse ++ rest) ∨
       ∃ (a : Nat) (As : List Value), vs = .ref a :: As ∧ As.length = mj_na m' ∧ st = As.reverse ++ .ref a :: rest ∧ ((2 ≤ kd ∧ kd ≤ 3 ∧ ∃ fs, hp.1 a = some (.inr (mj_ci m', fs))) ∨ kd = 4)) := by
    intro m1 kd n1 hv
    unfold mj_inv at hv
    split at hv
    · split at hv
      · exact (mj_oi_ob _ _ _ _ _ hv).elim
      · exact mj_none hv
    · rename_i h5
      split at hv
      · rename_i hh
        split at hv
        · rename_i hk
          unfold mj_ivs at hv
          split at hv
          · rename_i vs1 rest1 htk
            split at hv
            · rename_i hcat
              cases hv
              obtain ⟨As, e1, e2, e3⟩ := mj_tk_inv _ _ _ _ _ htk
              rw [List.append_nil] at e1
              subst e1
              exact ⟨rfl, rfl, h5, hh, hcat, Or.inl ⟨hk, e2, e3⟩⟩
            · exact mj_none hv
          · exact mj_none hv
        · rename_i hk1
          split at hv
          · rename_i hk3
            unfold mj_ivv at hv
            split at hv
            · rename_i vs1 a rest1 htk
              split at hv
              · rename_i cj fs hc
                split at hv
                · rename_i hcat
                  cases hv
                  obtain ⟨As, e1, e2, e3⟩ := mj_tk_inv _ _ _ _ _ htk
                  rw [List.append_nil] at e1
                  subst e1
                  exact ⟨rfl, rfl, h5, hh, hcat.2, Or.inr ⟨a, _, rfl, e2, e3, Or.inl ⟨by omega, hk3, fs, by rw [hc, hcat.1]⟩⟩⟩
                · exact mj_none hv
              · exact mj_none hv
            · exact mj_none hv
          · split at hv
            · rename_i hk4
              unfold mj_ivi at hv
              split at hv
              · rename_i vs1 a rest1 htk
                split at hv
                · rename_i hcat
                  cases hv
                  obtain ⟨As, e1, e2, e3⟩ := mj_tk_inv _ _ _ _ _ htk
                  rw [List.append_nil] at e1
                  subst e1
                  exact ⟨rfl, rfl, h5, hh, hcat, Or.inr ⟨a, _, rfl, e2, e3, Or.inr hk4⟩⟩
                · exact mj_none hv
              · exact mj_none hv
            · exact mj_none hv
      · exact mj_none hv
  rcases mj_oi_ex m i pc with ⟨x, rfl | rfl | rfl⟩ | (rfl | rfl | rfl | rfl) | hoi
  · unfold mj_ex at h
    dsimp only at h
    cases hf : mj_find mj_ml (mj_on m) x with
    | none => rw [hf] at h; exact mj_none h
    | some q =>
      obtain ⟨m1, kd⟩ := q
      rw [hf] at h
      dsimp only at h
      by_cases hkd : kd ≤ 1
      · rw [if_pos hkd] at h
        obtain ⟨rfl, rfl, h5, hh, hcat, hc | ⟨a, As, q1, q2, q3, q4⟩⟩ := inv h
        · exact ⟨x, kd, hf, h5, hh, rfl, hcat, Or.inl ⟨hc.1, rfl, hc.2⟩⟩
        · omega
      · rw [if_neg hkd] at h
        exact mj_none h
  · unfold mj_ex at h
    dsimp only at h
    cases hf : mj_find mj_ml (mj_on m) x with
    | none => rw [hf] at h; exact mj_none h
    | some q =>
      obtain ⟨m1, kd⟩ := q
      rw [hf] at h
      dsimp only at h
      by_cases hkd : 2 ≤ kd ∧ kd ≤ 3
      · rw [if_pos hkd] at h
        obtain ⟨rfl, rfl, h5, hh, hcat, hc | ⟨a, As, q1, q2, q3, q4⟩⟩ := inv h
        · omega
        · rcases q4 with ⟨z1, z2, z3⟩ | z
          · exact ⟨x, kd, hf, h5, hh, rfl, hcat, Or.inr ⟨a, As, q1, q2, q3, Or.inl ⟨z1, z2, rfl, z3⟩⟩⟩
          · omega
      · rw [if_neg hkd] at h
        exact mj_none h
  · unfold mj_ex at h
    dsimp only at h
    cases hf : mj_find mj_ml (mj_on m) x with
    | none => rw [hf] at h; exact mj_none h
    | some q =>
      obtain ⟨m1, kd⟩ := q
      rw [hf] at h
      dsimp only at h
      by_cases hkd : 4 ≤ kd
      · rw [if_pos hkd] at h
        obtain ⟨rfl, rfl, h5, hh, hcat, hc | ⟨a, As, q1, q2, q3, q4⟩⟩ := inv h
        · omega
        · rcases q4 with ⟨z1, z2, z3⟩ | z
          · omega
          · exact ⟨x, kd, hf, h5, hh, rfl, hcat, Or.inr ⟨a, As, q1, q2, q3, Or.inr ⟨z, rfl⟩⟩⟩
      · rw [if_neg hkd] at h
        exact mj_none h
  · obtain ⟨-, v, -, hv⟩ := mj_ret_inv h (Or.inl rfl)
    cases hv
  · obtain ⟨-, v, -, hv⟩ := mj_ret_inv h (Or.inr (Or.inl rfl))
    cases hv
  · obtain ⟨-, v, -, hv⟩ := mj_ret_inv h (Or.inr (Or.inr (Or.inl rfl)))
    cases hv
  · obtain ⟨-, v, -, hv⟩ := mj_ret_inv h (Or.inr (Or.inr (Or.inr rfl)))
    cases hv
  · exact (hoi _ _ _ _ h).elim
section MJC
variable {p : Program} {l : Launch} {e : Env} {R : Room} {s : State} {mi : MethodId} {args : Array Value} {below : List Frame} {meth : Method} {c : Code} {Q : State → Prop} {G : mj_G} {m n0 k0 pc pc' : Nat} {L L' : mj_L} {st st' : List Value} {hp hp' : mj_H}
theorem mj_back {H : Heap} {locs : List Loc} {cells slots mc ms : Nat} {ls : Array Slot} {a : Array Value} {rest st0 : List Value} {r : Option Value} {hp1 : mj_H} (hr : va_Run p l e R s mi args below meth c H locs cells slots mc ms (F0 mi pc ls st0) rest (mj_Qc G r hp1 a) (fun q => G.2.2.2.2.2 ≤ q))
    (kk : ∀ (H1 : Heap) (locs1 : List Loc), mj_rep G hp1 H1 → (∀ q : Nat, q < G.2.2.2.2.2 → H1[q]? = H[q]?) → (∀ q ∈ locs1, q ∈ locs ∨ G.2.2.2.2.2 ≤ q.base) → W p l e R s mi args below meth c H1 locs1 (cells + mc) (slots + ms) Q (F0 mi (pc + 3) ls (r.toList ++ rest))) : W p l e R s mi args below meth c H locs cells slots Q (F0 mi pc ls st0) := by
  intro T hT X
  obtain ⟨v, st₀, t, T', Lc, h0, X', hL, e1, e2, ⟨hv, hrep, hk⟩, st⟩ := hr T hT X
  cases hv
  obtain ⟨t2, a1, b1⟩ := kk T'.heap (locs ++ Lc) (by rw [e1]; exact hrep) (fun q hq => by rw [e1, hk q hq, h0]) (fun q hq => by
    rcases List.mem_append.mp hq with h | h
    · exact Or.inl h
    · exact Or.inr (hL q h)) T' rfl X'
  exact ⟨t2, st t2 a1, b1⟩
theorem mj_goodIn {m' : Nat} (h : Cond.code (mj_y m') (mj_code m') (mj_mxl m') (mj_ret m') ∈ mj_words) : GoodIn mj_words (mj_ws m') := by
  have key : ∀ w ∈ mj_words, w ∈ mj_words ∧ ((w.onTables && w.keeps) = true ∨ ∃ ty, w = .arrayClass ty) := fun w hw => ⟨hw, good_of_word (List.mem_filter.mp hw).2⟩
  intro w hw
  rcases List.mem_cons.mp hw with rfl | hw
  · exact key _ h
  · exact key w hw
theorem mj_blind {vs : List Value} {hp : mj_H} : FrameBlind (mj_Pc G vs hp) := by
  intro a U g mk h
  obtain ⟨h1, h2, h3, h4⟩ := h
  exact ⟨h1, h2, h3.same rfl, va_X.moved (Vm.Alike.refl U.vm) h4⟩
/-- a call, by the callee's contract -/
theorem mj_go_call (A : mj_At G m p s mi args meth c) (hF : mj_hgt m ≤ R.frames ∧ mj_lr m ≤ R.locals) {i : ClassFile.Instr} {len m' n mc ms : Nat} {vs rest : List Value} {r : Option Value} {hp1 : mj_H} (hd : decode (mj_code m) pc = .ok (i, len)) (hl : mj_lok i len = true) (h : mj_ex m i pc L st hp = some (.inr (.inl (m', vs, rest, n))))
    (hM : Met l (mj_y m') (mj_ws m') { frames := mj_hgt m', cells := mc, slots := ms, locals := mj_lr m' } (mj_Pc G vs hp) (mj_Qc G r hp1) mc ms (fun q => G.2.2.2.2.2 ≤ q)) (hmc : hp.2.1 + mc = hp1.2.1) (hms : hp.2.2 + ms = hp1.2.2) (hR : hp1.2.1 ≤ n0 + R.cells ∧ hp1.2.2 ≤ k0 + R.slots)
    (kk : mj_Go G p l e R s mi args below meth c Q m n0 k0 n L (r.toList ++ rest) hp1) : mj_Go G p l e R s mi args below meth c Q m n0 k0 pc L st hp := by
  obtain ⟨x, kd, hf, h5, hh, hn, hcat, hst⟩ := mj_call_inv h
  subst hn
  obtain ⟨w1, w2, w3, w4, w5, w7, w8, w9, w10, w11, w12, w13⟩ := mj_ok_ml (mj_find_mem hf) h5
  obtain ⟨hx, hb, hml, hown, hts, hK, hnm, hX, hbb⟩ := A
  intro H locs cells slots ls hI
  have g5 := hI.2.2.2.2.1
  have g6 := hI.2.2.2.2.2
  have hfit : cells + mc ≤ R.cells ∧ slots + ms ≤ R.slots := ⟨by omega, by omega⟩
  have hroom : ({ frames := mj_hgt m', cells := mc, slots := ms, locals := mj_lr m' } : Room).frames + 1 ≤ R.frames ∧ 8 + (mj_mxl m' + 11) + ({ frames := mj_hgt m', cells := mc, slots := ms, locals := mj_lr m' } : Room).locals ≤ R.locals := ⟨by show mj_hgt m' + 1 ≤ R.frames; omega, by show 8 + (mj_mxl m' + 11) + mj_lr m' ≤ R.locals; omega⟩
  have hpre : ∀ U : State, U.heap = H → s.WarmedH U.vm → mj_Pc G vs hp vs.toArray U := fun U hU hW => ⟨rfl, by rw [hU]; exact hI.2.1, hK.warm hW, va_X.moved hW.alike (by rw [hU]; exact hX.kept (hI.2.2.1 _ hbb))⟩
  have hgd := mj_goodIn w1
  have hini := hts _ w2
  have fin : ∀ (H1 : Heap) (locs1 : List Loc), mj_rep G hp1 H1 → (∀ q : Nat, q < G.2.2.2.2.2 → H1[q]? = H[q]?) → (∀ q ∈ locs1, q ∈ locs ∨ G.2.2.2.2.2 ≤ q.base) → W p l e R s mi args below meth c H1 locs1 (cells + mc) (slots + ms) Q (F0 mi (pc + 3) ls (r.toList ++ rest)) := by
    intro H1 locs1 q1 q2 q3
    refine kk _ _ _ _ _ ⟨hI.1, q1, fun q hq => (q2 q hq).trans (hI.2.2.1 q hq), fun q hq => ?_, by omega, by omega⟩
    rcases q3 q hq with q4 | q4
    · exact hI.2.2.2.1 q q4
    · exact q4
  have hcat' : (rest.map fun v => v.category).sum ≤ 8 := hcat
  rcases hst with ⟨k1, hi, hvl, hstk⟩ | ⟨a, As, rfl, hAl, hstk, hkind⟩
  · subst hi
    obtain rfl : len = 3 := mj_lk hl
    by_cases hk0 : kd = 0
    · have cb : CallB R s args (mj_own m) x (mj_y m') (mj_code m') (mj_mxl m') (mj_ret m') (mj_ws m') { frames := mj_hgt m', cells := mc, slots := ms, locals := mj_lr m' } mc ms (mj_na m') := callB_of (Ts := mj_words) _ hts hgd rfl rfl rfl hini (hts _ (w7 (Or.inl hk0))) w3 hroom
      exact mj_back (va_runS (As := vs) (rest := rest) ⟨hx, hb, hml, hown, hts⟩ hM ⟨cb, hts _ (w9 k1)⟩ ⟨mj_blind, hpre⟩ rfl hvl hI.1.2.1 hstk (lv_room hcat') hd hfit) fin
    · have hnest : va_Nw (.methodLinkNest (mj_own m) x (mj_y m') mj_host) s := hK.2.1 (mj_cn (mj_on m), x, mj_y m', mj_host) (w8 (by omega))
      have cb : va_CN R s args (mj_own m) x (mj_y m') mj_host (mj_code m') (mj_mxl m') (mj_ret m') (mj_ws m') { frames := mj_hgt m', cells := mc, slots := ms, locals := mj_lr m' } mc ms (mj_na m') := va_cnB (Ts := mj_words) _ hts hgd rfl rfl rfl hnest hini w3 hroom
      exact mj_back (va_runSN (As := vs) (rest := rest) ⟨hx, hb, hml, hown, hts⟩ hM ⟨cb, hts _ (w9 k1), trivial⟩ ⟨mj_blind, hpre⟩ rfl hvl hI.1.2.1 hstk (lv_room hcat') hd hfit) fin
  · rcases hkind with ⟨k2, k3, hi, fs, hfs⟩ | ⟨k4, hi⟩
    · subst hi
      obtain rfl : len = 3 := mj_lk hl
      obtain ⟨y1, y2, y3⟩ := w11 (by omega)
      obtain ⟨rw', hrw, z1, z2, z3⟩ := mj_cl_of y3
      have hrecv : ∃ cellB : Cell, H[a]? = some cellB ∧ cellB.vm.isStatics = false ∧ s.vm.findClass (mj_y m').cls = some cellB.cls := by
        have := va_recv hK.1 (mj_P1 (hI.2.1.2.2 a _ hfs).o.2) hrw (q0 := 0) rfl
        rw [← z1, y2] at this
        exact this
      by_cases hk0 : kd = 2
      · have cb : CallB R s args (mj_own m) x (mj_y m') (mj_code m') (mj_mxl m') (mj_ret m') (mj_ws m') { frames := mj_hgt m', cells := mc, slots := ms, locals := mj_lr m' } mc ms (mj_na m') := callB_of (Ts := mj_words) _ hts hgd rfl rfl rfl hini (hts _ (w7 (Or.inr (Or.inl hk0)))) w3 hroom
        exact mj_back (va_runV (C := (mj_y m').cls) (As := As) (rest := rest) ⟨hx, hb, hml, hown, hts⟩ hM ⟨cb, hts _ (w10 (by omega)), hts _ y1⟩ ⟨mj_blind, hrecv, hpre⟩ rfl hAl hI.1.2.1 hstk (lv_room hcat') hd hfit) fin
      · have hnest : va_Nw (.methodLinkNest (mj_own m) x (mj_y m') mj_host) s := hK.2.1 (mj_cn (mj_on m), x, mj_y m', mj_host) (w8 (by omega))
        have cb : va_CN R s args (mj_own m) x (mj_y m') mj_host (mj_code m') (mj_mxl m') (mj_ret m') (mj_ws m') { frames := mj_hgt m', cells := mc, slots := ms, locals := mj_lr m' } mc ms (mj_na m') := va_cnB (Ts := mj_words) _ hts hgd rfl rfl rfl hnest hini w3 hroom
        exact mj_back (va_runVN (C := (mj_y m').cls) (As := As) (rest := rest) ⟨hx, hb, hml, hown, hts⟩ hM ⟨cb, hts _ (w10 (by omega)), hts _ y1⟩ ⟨mj_blind, hrecv, hpre⟩ rfl hAl hI.1.2.1 hstk (lv_room hcat') hd hfit) fin
    · subst hi
      obtain rfl : len = 3 := mj_lk hl
      obtain ⟨y1, y2⟩ := w12 k4
      have cb : CallB R s args (mj_own m) x (mj_y m') (mj_code m') (mj_mxl m') none (mj_ws m') { frames := mj_hgt m', cells := mc, slots := ms, locals := mj_lr m' } mc ms (mj_na m') := callB_of (Ts := mj_words) _ hts hgd (by rw [← y2]; rfl) rfl rfl hini (hts _ (w7 (Or.inr (Or.inr k4)))) w3 hroom
      exact mj_back (va_runI (As := As) (rest := rest) ⟨hx, hb, hml, hown, hts⟩ hM ⟨cb, y1, hts _ (w10 (by omega))⟩ ⟨mj_blind, hpre⟩ rfl hAl hI.1.2.1 hstk (lv_room hcat') hd hfit) fin
/-- a return, at a method's end -/
theorem mj_end (A : mj_At G m p s mi args meth c) (hr : meth.sig.returnType = mj_ret m) (hlocks : meth.locks = false) {mc ms : Nat} {r : Option Value} {hp1 : mj_H} (hmc : n0 + mc = hp1.2.1) (hms : k0 + ms = hp1.2.2) (h : mj_step m pc L st hp1 = some (.inr (.inr r))) : mj_Go G p l e R s mi args below meth c (MQ below (mj_Qc G r hp1) args s mc ms (fun q => G.2.2.2.2.2 ≤ q)) m n0 k0 pc L st hp1 := by
  obtain ⟨i, len, hd, hl, h⟩ := mj_step_inv h
  obtain ⟨hx, hb, hml, hown, hts, hK, hnm, hX, hbb⟩ := A
  intro H locs cells slots ls hI
  obtain rfl : cells = mc := by have := hI.2.2.2.2.1; omega
  obtain rfl : slots = ms := by have := hI.2.2.2.2.2; omega
  have hq : ∀ t : State, t.heap = H → s.WarmedH t.vm → mj_Qc G r hp1 args s (.returned r) t := fun t ht _ => ⟨rfl, by rw [ht]; exact hI.2.1, fun q hq => by rw [ht]; exact hI.2.2.1 q hq⟩
  rcases mj_oi_ex m i pc with ⟨x, hi⟩ | hi | hoi
  · exfalso
    have hv := mj_inv_ret h hi
    exact hv
  · obtain ⟨hc, -⟩ := mj_ret_inv h hi
    rcases hc with ⟨rfl, ty, v, hty, rfl, hn, hq2⟩ | ⟨rfl, v, hty, rfl, hq2⟩ | ⟨rfl, rt, v, hty, hrt, hv, rfl, hq2⟩ | ⟨rfl, hty, rfl, hq2⟩
    · cases hq2
      obtain rfl : len = 1 := mj_lk hl
      exact W.zret hx hb (hr.trans hty) hn hq hI.2.2.2.1 hd hlocks
    · cases hq2
      obtain rfl : len = 1 := mj_lk hl
      exact W.lret hx hb (hr.trans hty) hq hI.2.2.2.1 hd hlocks
    · cases hq2
      obtain rfl : len = 1 := mj_lk hl
      exact W.aret hx hb (hr.trans hty) hrt hv hq hI.2.2.2.1 hd hlocks
    · cases hq2
      obtain rfl : len = 1 := mj_lk hl
      exact W.vret hx hb (hr.trans hty) hq hI.2.2.2.1 hd hlocks
  · exact (hoi _ _ _ _ h).elim
end MJC
/-- THE RUN: where the small machine comes to its end, the Statement's machine comes there -/
theorem mj_sound {l : Launch} {G : mj_G} (hbb : G.2.2.1 < G.2.2.2.2.2) : ∀ (f m pc : Nat) (L : mj_L) (st : List Value) (hp : mj_H) (r : Option Value) (hp1 : mj_H), mj_run f m pc L st hp = some (r, hp1) → ∀ {p : Program} {e : Env} {R : Room} {s : State} {mi : MethodId} {args : Array Value} {below : List Frame} {meth : Method} {c : Code} {Q : State → Prop} {n0 k0 : Nat},
    mj_At G m p s mi args meth c → hp1.2.1 ≤ n0 + R.cells ∧ hp1.2.2 ≤ k0 + R.slots → mj_hgt m ≤ R.frames ∧ mj_lr m ≤ R.locals → (∀ (pc : Nat) (L : mj_L) (st : List Value), mj_step m pc L st hp1 = some (.inr (.inr r)) → mj_Go G p l e R s mi args below meth c Q m n0 k0 pc L st hp1) → mj_Go G p l e R s mi args below meth c Q m n0 k0 pc L st hp := by
  intro f
  induction f with
  | zero => intro m pc L st hp r hp1 h; simp [mj_run] at h
  | succ f ih =>
    intro m pc L st hp r hp1 h p e R s mi args below meth c Q n0 k0 A hR hF hend
    rw [mj_run] at h
    cases hs : mj_step m pc L st hp with
    | none => simp [hs] at h
    | some q =>
      rw [hs] at h
      rcases q with ⟨pc', L', st', hp2⟩ | ⟨m', vs, rest, n⟩ | r'
      · obtain ⟨i, len, hd, hl, hx⟩ := mj_step_inv hs
        have hg := mj_grow _ _ _ _ _ _ _ _ h
        exact mj_next A ⟨Nat.le_trans hg.1 hR.1, Nat.le_trans hg.2 hR.2⟩ hF hd hl hx (ih _ _ _ _ _ _ _ h A hR hF hend)
      · dsimp only at h
        by_cases hlen : (mj_lay0 vs).length ≤ mj_mxl m'
        · rw [if_pos hlen] at h
          cases hr : mj_run f m' 0 (mj_lay (mj_mxl m') vs) [] hp with
          | none => simp [hr] at h
          | some y =>
            obtain ⟨r1, hp2⟩ := y
            rw [hr] at h
            dsimp only at h
            obtain ⟨i, len, hd, hl, hx⟩ := mj_step_inv hs
            obtain ⟨x, kd, hf, h5, hh, hn, hcat, -⟩ := mj_call_inv hx
            obtain ⟨w1, w2, w3, w4, w5, -⟩ := mj_ok_ml (mj_find_mem hf) h5
            have g1 := mj_grow _ _ _ _ _ _ _ _ hr
            have g2 := mj_grow _ _ _ _ _ _ _ _ h
            obtain ⟨mc, hmc⟩ : ∃ mc, hp.2.1 + mc = hp2.2.1 := ⟨hp2.2.1 - hp.2.1, by omega⟩
            obtain ⟨ms, hms⟩ : ∃ ms, hp.2.2 + ms = hp2.2.2 := ⟨hp2.2.2 - hp.2.2, by omega⟩
            have hM : Met l (mj_y m') (mj_ws m') { frames := mj_hgt m', cells := mc, slots := ms, locals := mj_lr m' } (mj_Pc G vs hp) (mj_Qc G r1 hp2) mc ms (fun q => G.2.2.2.2.2 ≤ q) := by
              refine va_MetF (cc := mj_code m') (maxL := mj_mxl m') (ret := mj_ret m') w4 rfl ?_
              intro p e s mi args below meth c s₁ B hml hv
              obtain ⟨rfl, hrep, hK, hX⟩ := hv
              rw [lg_entry_eq]
              have A1 : mj_At G m' p s mi vs.toArray meth c := ⟨B.exec, B.bytes, hml, by rw [w5]; exact findClass_of_methodNamed B.named, fun w hw => atoms_spec (ws := mj_ws m') B.pre w (List.mem_cons_of_mem _ hw), hK, (name_of_methodNamed B.named B.method).1, hX, hbb⟩
              exact ih m' 0 _ [] hp r1 hp2 hr A1 (n0 := hp.2.1) (k0 := hp.2.2) ⟨by show hp2.2.1 ≤ hp.2.1 + mc; omega, by show hp2.2.2 ≤ hp.2.2 + ms; omega⟩ ⟨Nat.le_refl _, Nat.le_refl _⟩ (fun pc L st hst => mj_end A1 B.returns B.notSynchronized hmc hms hst) s.heap [] 0 0 _ ⟨mj_lay_has hlen, hrep, fun _ _ => rfl, fun _ h => absurd h List.not_mem_nil, rfl, rfl⟩
            exact mj_go_call A hF hd hl hx hM hmc hms ⟨Nat.le_trans g2.1 hR.1, Nat.le_trans g2.2 hR.2⟩ (ih _ _ _ _ _ _ _ h A hR hF hend)
        · rw [if_neg hlen] at h; cases h
      · obtain ⟨rfl, rfl⟩ : r' = r ∧ hp = hp1 := by simpa using h
        exact hend _ _ _ hs
end
