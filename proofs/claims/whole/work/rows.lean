section
-- ===== PART A: goes FIRST, ahead of the names: the tables' words, and 'selects' of the private methods out of them =====
/-- a private method of a class that the tables say can be made, by its rows of tables_1 -/
def lw_okq (q : MethodName × Nat) : Prop := (q.1.cls ≠ "java/lang/invoke/MethodHandle" ∧ q.1.cls ≠ "java/lang/invoke/VarHandle") ∧ Cond.instantiable q.1.cls q.2 ∈ tables_1 ∧ Cond.privateMethod q.1 ∈ tables_1 ∧ Cond.instanceMethod q.1 ∈ tables_1
theorem lw_p0 : lw_okq (⟨"ProofLines", "isThing", "(I)Z"⟩, 5) := ⟨⟨by decide +kernel, by decide +kernel⟩, List.mem_of_getElem? (i := 9) (by decide +kernel), List.mem_of_getElem? (i := 136) (by decide +kernel), List.mem_of_getElem? (i := 137) (by decide +kernel)⟩
theorem lw_p1 : lw_okq (⟨"ProofLines$Line", "mark", "(I)V"⟩, 5) := ⟨⟨by decide +kernel, by decide +kernel⟩, List.mem_of_getElem? (i := 23) (by decide +kernel), List.mem_of_getElem? (i := 165) (by decide +kernel), List.mem_of_getElem? (i := 166) (by decide +kernel)⟩
theorem lw_p2 : lw_okq (⟨"ProofLines$Proof", "clashes", "(JJII)Z"⟩, 4) := ⟨⟨by decide +kernel, by decide +kernel⟩, List.mem_of_getElem? (i := 65) (by decide +kernel), List.mem_of_getElem? (i := 229) (by decide +kernel), List.mem_of_getElem? (i := 230) (by decide +kernel)⟩
theorem lw_p3 : lw_okq (⟨"ProofLines$Proof", "isFullAnswer", "(LProofLines$Line;)Z"⟩, 4) := ⟨⟨by decide +kernel, by decide +kernel⟩, List.mem_of_getElem? (i := 65) (by decide +kernel), List.mem_of_getElem? (i := 241) (by decide +kernel), List.mem_of_getElem? (i := 242) (by decide +kernel)⟩
theorem lw_p4 : lw_okq (⟨"ProofLines$Proof", "meetsGivens", "(LProofLines$Line;I)Z"⟩, 4) := ⟨⟨by decide +kernel, by decide +kernel⟩, List.mem_of_getElem? (i := 65) (by decide +kernel), List.mem_of_getElem? (i := 246) (by decide +kernel), List.mem_of_getElem? (i := 247) (by decide +kernel)⟩
theorem lw_p5 : lw_okq (⟨"ProofLines$Proof", "isSpare", "(I)Z"⟩, 4) := ⟨⟨by decide +kernel, by decide +kernel⟩, List.mem_of_getElem? (i := 65) (by decide +kernel), List.mem_of_getElem? (i := 259) (by decide +kernel), List.mem_of_getElem? (i := 260) (by decide +kernel)⟩
theorem lw_p6 : lw_okq (⟨"ProofLines$Proof", "dropLine", "(I)V"⟩, 4) := ⟨⟨by decide +kernel, by decide +kernel⟩, List.mem_of_getElem? (i := 65) (by decide +kernel), List.mem_of_getElem? (i := 263) (by decide +kernel), List.mem_of_getElem? (i := 264) (by decide +kernel)⟩
theorem lw_p7 : lw_okq (⟨"ProofLines$Proof", "dropLiteralsOf", "(LProofLines$Line;I)V"⟩, 4) := ⟨⟨by decide +kernel, by decide +kernel⟩, List.mem_of_getElem? (i := 65) (by decide +kernel), List.mem_of_getElem? (i := 271) (by decide +kernel), List.mem_of_getElem? (i := 272) (by decide +kernel)⟩
theorem lw_p8 : lw_okq (⟨"ProofLines$Reader", "fillLine", "(LProofLines$Proof;)Z"⟩, 4) := ⟨⟨by decide +kernel, by decide +kernel⟩, List.mem_of_getElem? (i := 46) (by decide +kernel), List.mem_of_getElem? (i := 360) (by decide +kernel), List.mem_of_getElem? (i := 361) (by decide +kernel)⟩
theorem lw_p9 : lw_okq (⟨"ProofLines$Reader", "here", "()I"⟩, 4) := ⟨⟨by decide +kernel, by decide +kernel⟩, List.mem_of_getElem? (i := 46) (by decide +kernel), List.mem_of_getElem? (i := 364) (by decide +kernel), List.mem_of_getElem? (i := 365) (by decide +kernel)⟩
theorem lw_p10 : lw_okq (⟨"ProofLines$Reader", "fillLiteral", "(LProofLines$Line;)Z"⟩, 4) := ⟨⟨by decide +kernel, by decide +kernel⟩, List.mem_of_getElem? (i := 46) (by decide +kernel), List.mem_of_getElem? (i := 373) (by decide +kernel), List.mem_of_getElem? (i := 374) (by decide +kernel)⟩
theorem lw_p11 : lw_okq (⟨"ProofLines$Reader", "passNumber", "()I"⟩, 4) := ⟨⟨by decide +kernel, by decide +kernel⟩, List.mem_of_getElem? (i := 46) (by decide +kernel), List.mem_of_getElem? (i := 377) (by decide +kernel), List.mem_of_getElem? (i := 378) (by decide +kernel)⟩
theorem lw_p12 : lw_okq (⟨"ProofLinesModel", "newLine", "(I)I"⟩, 14) := ⟨⟨by decide +kernel, by decide +kernel⟩, List.mem_of_getElem? (i := 395) (by decide +kernel), List.mem_of_getElem? (i := 448) (by decide +kernel), List.mem_of_getElem? (i := 449) (by decide +kernel)⟩
theorem lw_p13 : lw_okq (⟨"ProofLinesModel", "isLast", "(II)Z"⟩, 14) := ⟨⟨by decide +kernel, by decide +kernel⟩, List.mem_of_getElem? (i := 395) (by decide +kernel), List.mem_of_getElem? (i := 460) (by decide +kernel), List.mem_of_getElem? (i := 461) (by decide +kernel)⟩
theorem lw_p14 : lw_okq (⟨"ProofLinesModel", "isThing", "(I)Z"⟩, 14) := ⟨⟨by decide +kernel, by decide +kernel⟩, List.mem_of_getElem? (i := 395) (by decide +kernel), List.mem_of_getElem? (i := 464) (by decide +kernel), List.mem_of_getElem? (i := 465) (by decide +kernel)⟩
theorem lw_p15 : lw_okq (⟨"ProofLinesModel", "has", "(II)Z"⟩, 14) := ⟨⟨by decide +kernel, by decide +kernel⟩, List.mem_of_getElem? (i := 395) (by decide +kernel), List.mem_of_getElem? (i := 471) (by decide +kernel), List.mem_of_getElem? (i := 472) (by decide +kernel)⟩
def lw_privs_1 : List (MethodName × Nat) := [(⟨"ProofLines", "isThing", "(I)Z"⟩, 5), (⟨"ProofLines$Line", "mark", "(I)V"⟩, 5), (⟨"ProofLines$Proof", "clashes", "(JJII)Z"⟩, 4), (⟨"ProofLines$Proof", "isFullAnswer", "(LProofLines$Line;)Z"⟩, 4), (⟨"ProofLines$Proof", "meetsGivens", "(LProofLines$Line;I)Z"⟩, 4), (⟨"ProofLines$Proof", "isSpare", "(I)Z"⟩, 4), (⟨"ProofLines$Proof", "dropLine", "(I)V"⟩, 4), (⟨"ProofLines$Proof", "dropLiteralsOf", "(LProofLines$Line;I)V"⟩, 4), (⟨"ProofLines$Reader", "fillLine", "(LProofLines$Proof;)Z"⟩, 4), (⟨"ProofLines$Reader", "here", "()I"⟩, 4), (⟨"ProofLines$Reader", "fillLiteral", "(LProofLines$Line;)Z"⟩, 4), (⟨"ProofLines$Reader", "passNumber", "()I"⟩, 4), (⟨"ProofLinesModel", "newLine", "(I)I"⟩, 14), (⟨"ProofLinesModel", "isLast", "(II)Z"⟩, 14), (⟨"ProofLinesModel", "isThing", "(I)Z"⟩, 14), (⟨"ProofLinesModel", "has", "(II)Z"⟩, 14)]
theorem lw_r1 : ∀ q ∈ lw_privs_1, lw_okq q := List.forall_mem_cons.mpr ⟨lw_p0, List.forall_mem_cons.mpr ⟨lw_p1, List.forall_mem_cons.mpr ⟨lw_p2, List.forall_mem_cons.mpr ⟨lw_p3, List.forall_mem_cons.mpr ⟨lw_p4, List.forall_mem_cons.mpr ⟨lw_p5, List.forall_mem_cons.mpr ⟨lw_p6, List.forall_mem_cons.mpr ⟨lw_p7, List.forall_mem_cons.mpr ⟨lw_p8, List.forall_mem_cons.mpr ⟨lw_p9, List.forall_mem_cons.mpr ⟨lw_p10, List.forall_mem_cons.mpr ⟨lw_p11, List.forall_mem_cons.mpr ⟨lw_p12, List.forall_mem_cons.mpr ⟨lw_p13, List.forall_mem_cons.mpr ⟨lw_p14, List.forall_mem_cons.mpr ⟨lw_p15, fun _ h => absurd h List.not_mem_nil⟩⟩⟩⟩⟩⟩⟩⟩⟩⟩⟩⟩⟩⟩⟩⟩
theorem lw_p16 : lw_okq (⟨"ProofLinesModel", "add", "(II)V"⟩, 14) := ⟨⟨by decide +kernel, by decide +kernel⟩, List.mem_of_getElem? (i := 395) (by decide +kernel), List.mem_of_getElem? (i := 475) (by decide +kernel), List.mem_of_getElem? (i := 476) (by decide +kernel)⟩
theorem lw_p17 : lw_okq (⟨"ProofLinesModel", "isRight", "(I)Z"⟩, 14) := ⟨⟨by decide +kernel, by decide +kernel⟩, List.mem_of_getElem? (i := 395) (by decide +kernel), List.mem_of_getElem? (i := 499) (by decide +kernel), List.mem_of_getElem? (i := 500) (by decide +kernel)⟩
theorem lw_p18 : lw_okq (⟨"ProofLinesModel", "answers", "(I)Z"⟩, 14) := ⟨⟨by decide +kernel, by decide +kernel⟩, List.mem_of_getElem? (i := 395) (by decide +kernel), List.mem_of_getElem? (i := 503) (by decide +kernel), List.mem_of_getElem? (i := 504) (by decide +kernel)⟩
theorem lw_p19 : lw_okq (⟨"ProofLinesModel", "clashes", "(I)Z"⟩, 14) := ⟨⟨by decide +kernel, by decide +kernel⟩, List.mem_of_getElem? (i := 395) (by decide +kernel), List.mem_of_getElem? (i := 507) (by decide +kernel), List.mem_of_getElem? (i := 508) (by decide +kernel)⟩
theorem lw_p20 : lw_okq (⟨"ProofLinesModel", "leadsTo", "(I)I"⟩, 14) := ⟨⟨by decide +kernel, by decide +kernel⟩, List.mem_of_getElem? (i := 395) (by decide +kernel), List.mem_of_getElem? (i := 511) (by decide +kernel), List.mem_of_getElem? (i := 512) (by decide +kernel)⟩
theorem lw_p21 : lw_okq (⟨"ProofLinesModel", "tryWithout", "(I)V"⟩, 14) := ⟨⟨by decide +kernel, by decide +kernel⟩, List.mem_of_getElem? (i := 395) (by decide +kernel), List.mem_of_getElem? (i := 519) (by decide +kernel), List.mem_of_getElem? (i := 520) (by decide +kernel)⟩
theorem lw_p22 : lw_okq (⟨"ProofLinesModel", "copyLine", "(II)V"⟩, 14) := ⟨⟨by decide +kernel, by decide +kernel⟩, List.mem_of_getElem? (i := 395) (by decide +kernel), List.mem_of_getElem? (i := 523) (by decide +kernel), List.mem_of_getElem? (i := 524) (by decide +kernel)⟩
theorem lw_p23 : lw_okq (⟨"ProofLinesModel", "takeOut", "(I)V"⟩, 14) := ⟨⟨by decide +kernel, by decide +kernel⟩, List.mem_of_getElem? (i := 395) (by decide +kernel), List.mem_of_getElem? (i := 527) (by decide +kernel), List.mem_of_getElem? (i := 528) (by decide +kernel)⟩
theorem lw_p24 : lw_okq (⟨"ProofLinesModel", "putBack", "(I)V"⟩, 14) := ⟨⟨by decide +kernel, by decide +kernel⟩, List.mem_of_getElem? (i := 395) (by decide +kernel), List.mem_of_getElem? (i := 531) (by decide +kernel), List.mem_of_getElem? (i := 532) (by decide +kernel)⟩
theorem lw_p25 : lw_okq (⟨"ProofLinesModel", "shortenLine", "(I)V"⟩, 14) := ⟨⟨by decide +kernel, by decide +kernel⟩, List.mem_of_getElem? (i := 395) (by decide +kernel), List.mem_of_getElem? (i := 535) (by decide +kernel), List.mem_of_getElem? (i := 536) (by decide +kernel)⟩
theorem lw_p26 : lw_okq (⟨"ProofLinesModel", "removeLiteral", "(II)V"⟩, 14) := ⟨⟨by decide +kernel, by decide +kernel⟩, List.mem_of_getElem? (i := 395) (by decide +kernel), List.mem_of_getElem? (i := 539) (by decide +kernel), List.mem_of_getElem? (i := 540) (by decide +kernel)⟩
theorem lw_p27 : lw_okq (⟨"ProofLinesModel", "insertLiteral", "(III)V"⟩, 14) := ⟨⟨by decide +kernel, by decide +kernel⟩, List.mem_of_getElem? (i := 395) (by decide +kernel), List.mem_of_getElem? (i := 543) (by decide +kernel), List.mem_of_getElem? (i := 544) (by decide +kernel)⟩
theorem lw_p28 : lw_okq (⟨"ProofLinesModel", "readLine", "(I)V"⟩, 14) := ⟨⟨by decide +kernel, by decide +kernel⟩, List.mem_of_getElem? (i := 395) (by decide +kernel), List.mem_of_getElem? (i := 587) (by decide +kernel), List.mem_of_getElem? (i := 588) (by decide +kernel)⟩
theorem lw_p29 : lw_okq (⟨"ProofLinesModel", "look", "()I"⟩, 14) := ⟨⟨by decide +kernel, by decide +kernel⟩, List.mem_of_getElem? (i := 395) (by decide +kernel), List.mem_of_getElem? (i := 591) (by decide +kernel), List.mem_of_getElem? (i := 592) (by decide +kernel)⟩
theorem lw_p30 : lw_okq (⟨"ProofLinesModel", "fail", "(I)V"⟩, 14) := ⟨⟨by decide +kernel, by decide +kernel⟩, List.mem_of_getElem? (i := 395) (by decide +kernel), List.mem_of_getElem? (i := 598) (by decide +kernel), List.mem_of_getElem? (i := 599) (by decide +kernel)⟩
theorem lw_p31 : lw_okq (⟨"ProofLinesModel", "readLiteral", "(I)V"⟩, 14) := ⟨⟨by decide +kernel, by decide +kernel⟩, List.mem_of_getElem? (i := 395) (by decide +kernel), List.mem_of_getElem? (i := 602) (by decide +kernel), List.mem_of_getElem? (i := 603) (by decide +kernel)⟩
def lw_privs_2 : List (MethodName × Nat) := [(⟨"ProofLinesModel", "add", "(II)V"⟩, 14), (⟨"ProofLinesModel", "isRight", "(I)Z"⟩, 14), (⟨"ProofLinesModel", "answers", "(I)Z"⟩, 14), (⟨"ProofLinesModel", "clashes", "(I)Z"⟩, 14), (⟨"ProofLinesModel", "leadsTo", "(I)I"⟩, 14), (⟨"ProofLinesModel", "tryWithout", "(I)V"⟩, 14), (⟨"ProofLinesModel", "copyLine", "(II)V"⟩, 14), (⟨"ProofLinesModel", "takeOut", "(I)V"⟩, 14), (⟨"ProofLinesModel", "putBack", "(I)V"⟩, 14), (⟨"ProofLinesModel", "shortenLine", "(I)V"⟩, 14), (⟨"ProofLinesModel", "removeLiteral", "(II)V"⟩, 14), (⟨"ProofLinesModel", "insertLiteral", "(III)V"⟩, 14), (⟨"ProofLinesModel", "readLine", "(I)V"⟩, 14), (⟨"ProofLinesModel", "look", "()I"⟩, 14), (⟨"ProofLinesModel", "fail", "(I)V"⟩, 14), (⟨"ProofLinesModel", "readLiteral", "(I)V"⟩, 14)]
theorem lw_r2 : ∀ q ∈ lw_privs_2, lw_okq q := List.forall_mem_cons.mpr ⟨lw_p16, List.forall_mem_cons.mpr ⟨lw_p17, List.forall_mem_cons.mpr ⟨lw_p18, List.forall_mem_cons.mpr ⟨lw_p19, List.forall_mem_cons.mpr ⟨lw_p20, List.forall_mem_cons.mpr ⟨lw_p21, List.forall_mem_cons.mpr ⟨lw_p22, List.forall_mem_cons.mpr ⟨lw_p23, List.forall_mem_cons.mpr ⟨lw_p24, List.forall_mem_cons.mpr ⟨lw_p25, List.forall_mem_cons.mpr ⟨lw_p26, List.forall_mem_cons.mpr ⟨lw_p27, List.forall_mem_cons.mpr ⟨lw_p28, List.forall_mem_cons.mpr ⟨lw_p29, List.forall_mem_cons.mpr ⟨lw_p30, List.forall_mem_cons.mpr ⟨lw_p31, fun _ h => absurd h List.not_mem_nil⟩⟩⟩⟩⟩⟩⟩⟩⟩⟩⟩⟩⟩⟩⟩⟩
theorem lw_p32 : lw_okq (⟨"ProofLinesModel", "isDigit", "()Z"⟩, 14) := ⟨⟨by decide +kernel, by decide +kernel⟩, List.mem_of_getElem? (i := 395) (by decide +kernel), List.mem_of_getElem? (i := 606) (by decide +kernel), List.mem_of_getElem? (i := 607) (by decide +kernel)⟩
def lw_privs_3 : List (MethodName × Nat) := [(⟨"ProofLinesModel", "isDigit", "()Z"⟩, 14)]
theorem lw_r3 : ∀ q ∈ lw_privs_3, lw_okq q := List.forall_mem_cons.mpr ⟨lw_p32, fun _ h => absurd h List.not_mem_nil⟩
def lw_privs : List (MethodName × Nat) := lw_privs_1 ++ (lw_privs_2 ++ (lw_privs_3))
def lw_tbl : List Cond := k2_sels lw_privs ++ tables_1
theorem lw_privs_ok : ∀ q ∈ lw_privs, lw_okq q := by
  show ∀ q ∈ lw_privs_1 ++ (lw_privs_2 ++ (lw_privs_3)), lw_okq q
  exact List.forall_mem_append.mpr ⟨lw_r1, List.forall_mem_append.mpr ⟨lw_r2, lw_r3⟩⟩
end
section
/-! TABLES, written by wip/whole/gen/tables.py out of the Statement and javap's listing: classes, methods, links by pool number -/
def mj_cns : List String := ["ProofLinesLaw", "ProofLines", "ProofLines$Line", "ProofLines$Proof", "ProofLines$Reader", "ProofLinesModel", "java/lang/Long", "java/lang/Math"]
def mj_T0 : u_T := fun k => match k with
  | 0 => ("ProofLines$Line", "codes", "[I", true)
  | 1 => ("ProofLines$Line", "size", "I", false)
  | 2 => ("ProofLines$Line", "sort", "I", false)
  | 3 => ("ProofLines$Line", "trues", "J", false)
  | _ => ("ProofLines$Line", "falses", "J", false)
def mj_T1 : u_T := fun k => match k with
  | 0 => ("ProofLines$Proof", "things", "I", true)
  | 1 => ("ProofLines$Proof", "rows", "[LProofLines$Line;", true)
  | 2 => ("ProofLines$Proof", "right", "[Z", true)
  | _ => ("ProofLines$Proof", "count", "I", false)
def mj_T2 : u_T := fun k => match k with
  | 0 => ("ProofLines$Reader", "things", "I", true)
  | 1 => ("ProofLines$Reader", "units", "[I", true)
  | 2 => ("ProofLines$Reader", "size", "I", false)
  | _ => ("ProofLines$Reader", "place", "I", false)
def mj_T3 : u_T := fun k => match k with
  | 0 => ("ProofLines", "things", "I", true)
  | 1 => ("ProofLines", "collected", "LProofLines$Line;", true)
  | 2 => ("ProofLines", "reader", "LProofLines$Reader;", true)
  | 3 => ("ProofLines", "proof", "LProofLines$Proof;", false)
  | _ => ("ProofLines", "spare", "LProofLines$Proof;", false)
def mj_T4 : u_T := fun k => match k with
  | 0 => ("ProofLinesModel", "things", "I", true)
  | 1 => ("ProofLinesModel", "kind", "[I", true)
  | 2 => ("ProofLinesModel", "many", "[I", true)
  | 3 => ("ProofLinesModel", "literal", "[I", true)
  | 4 => ("ProofLinesModel", "lines", "I", false)
  | 5 => ("ProofLinesModel", "collected", "[I", true)
  | 6 => ("ProofLinesModel", "collectedMany", "I", false)
  | 7 => ("ProofLinesModel", "unread", "[I", true)
  | 8 => ("ProofLinesModel", "unreadLong", "I", false)
  | 9 => ("ProofLinesModel", "at", "I", false)
  | 10 => ("ProofLinesModel", "bad", "I", false)
  | 11 => ("ProofLinesModel", "thrown", "I", false)
  | 12 => ("ProofLinesModel", "holds", "[Z", true)
  | _ => ("ProofLinesModel", "rightThen", "[Z", true)
def mj_cl : List vw_C := [("ProofLines$Line", mj_T0, 5), ("ProofLines$Proof", mj_T1, 4), ("ProofLines$Reader", mj_T2, 4), ("ProofLines", mj_T3, 5), ("ProofLinesModel", mj_T4, 14)]
def mj_tyl : List (List FieldType) := [[(.array .int), .int, .int, .long, .long], [.int, (.array (.object "ProofLines$Line")), (.array .boolean), .int], [.int, (.array .int), .int, .int], [.int, (.object "ProofLines$Line"), (.object "ProofLines$Reader"), (.object "ProofLines$Proof"), (.object "ProofLines$Proof")], [.int, (.array .int), (.array .int), (.array .int), .int, (.array .int), .int, (.array .int), .int, .int, .int, .int, (.array .boolean), (.array .boolean)]]
def mj_at : List FieldType := [.int, .boolean, (.object "ProofLines$Line")]
abbrev mj_ti : Nat := 0
abbrev mj_tz : Nat := 1
abbrev mj_tl : Nat := 98
abbrev mj_Mrow : Type := MethodName × ByteArray × Nat × Option FieldType × Nat × Nat × Nat × Nat × Nat
def mj_m0 : mj_Mrow := (⟨"", "", ""⟩, ⟨#[]⟩, 0, none, 0, 0, 0, 0, 0)
def mj_mt0 : List mj_Mrow := [(⟨"java/lang/Long", "bitCount", "(J)I"⟩, prog_7_method_50_code, 2, (some .int), 6, 0, 0, 1, 0),
  (⟨"java/lang/Math", "max", "(II)I"⟩, prog_8_method_65_code, 2, (some .int), 7, 0, 0, 2, 0),
  (⟨"java/lang/Math", "min", "(II)I"⟩, prog_8_method_69_code, 2, (some .int), 7, 0, 0, 2, 0),
  (⟨"ProofLines", "<init>", "(I)V"⟩, prog_1_method_1_code, 2, none, 1, 3, 62, 1, 3),
  (⟨"ProofLines", "given", "()I"⟩, prog_1_method_2_code, 1, (some .int), 1, 2, 43, 0, 3),
  (⟨"ProofLines", "literal", "(IIZ)Z"⟩, prog_1_method_3_code, 5, (some .boolean), 1, 4, 83, 3, 3),
  (⟨"ProofLines", "collect", "(IZ)Z"⟩, prog_1_method_4_code, 3, (some .boolean), 1, 4, 83, 2, 3),
  (⟨"ProofLines", "learn", "()I"⟩, prog_1_method_5_code, 2, (some .int), 1, 5, 107, 0, 3),
  (⟨"ProofLines", "split", "(I)I"⟩, prog_1_method_6_code, 5, (some .int), 1, 5, 107, 1, 3),
  (⟨"ProofLines", "answer", "()I"⟩, prog_1_method_7_code, 1, (some .int), 1, 2, 43, 0, 3),
  (⟨"ProofLines", "value", "(IIZ)Z"⟩, prog_1_method_8_code, 5, (some .boolean), 1, 4, 83, 3, 3),
  (⟨"ProofLines", "check", "()I"⟩, prog_1_method_9_code, 2, (some .int), 1, 3, 83, 0, 3),
  (⟨"ProofLines", "shorten", "()I"⟩, prog_1_method_10_code, 1, (some .int), 1, 5, 126, 0, 3),
  (⟨"ProofLines", "turn", "(II)I"⟩, prog_1_method_11_code, 3, (some .int), 1, 4, 92, 2, 3),
  (⟨"ProofLines", "lines", "()I"⟩, prog_1_method_12_code, 1, (some .int), 1, 1, 20, 0, 3),
  (⟨"ProofLines", "kind", "(I)I"⟩, prog_1_method_13_code, 3, (some .int), 1, 1, 21, 1, 3),
  (⟨"ProofLines", "member", "(II)I"⟩, prog_1_method_14_code, 4, (some .int), 1, 1, 21, 2, 3),
  (⟨"ProofLines", "text", "(I)I"⟩, prog_1_method_15_code, 2, (some .int), 1, 4, 90, 1, 3),
  (⟨"ProofLines", "unit", "(I)Z"⟩, prog_1_method_16_code, 2, (some .boolean), 1, 1, 21, 1, 3),
  (⟨"ProofLines", "read", "()I"⟩, prog_1_method_17_code, 4, (some .int), 1, 7, 153, 0, 3)]
def mj_mt1 : List mj_Mrow := [(⟨"ProofLines", "isThing", "(I)Z"⟩, prog_1_method_18_code, 2, (some .boolean), 1, 0, 0, 1, 3),
  (⟨"ProofLines", "areCases", "(LProofLines$Line;LProofLines$Line;I)Z"⟩, prog_1_method_19_code, 5, (some .boolean), 1, 2, 41, 3, 3),
  (⟨"ProofLines", "codeOf", "(IZ)I"⟩, prog_1_method_20_code, 2, (some .int), 1, 0, 0, 2, 3),
  (⟨"ProofLines", "trueBit", "(I)J"⟩, prog_1_method_21_code, 1, (some .long), 1, 0, 0, 1, 3),
  (⟨"ProofLines", "falseBit", "(I)J"⟩, prog_1_method_22_code, 1, (some .long), 1, 0, 0, 1, 3),
  (⟨"ProofLines$Line", "<init>", "()V"⟩, prog_2_method_1_code, 1, none, 2, 1, 20, 0, 0),
  (⟨"ProofLines$Line", "begin", "(I)V"⟩, prog_2_method_2_code, 2, none, 2, 0, 0, 1, 0),
  (⟨"ProofLines$Line", "sort", "()I"⟩, prog_2_method_3_code, 1, (some .int), 2, 0, 0, 0, 0),
  (⟨"ProofLines$Line", "size", "()I"⟩, prog_2_method_4_code, 1, (some .int), 2, 0, 0, 0, 0),
  (⟨"ProofLines$Line", "trues", "()J"⟩, prog_2_method_5_code, 1, (some .long), 2, 0, 0, 0, 0),
  (⟨"ProofLines$Line", "falses", "()J"⟩, prog_2_method_6_code, 1, (some .long), 2, 0, 0, 0, 0),
  (⟨"ProofLines$Line", "isClause", "()Z"⟩, prog_2_method_7_code, 1, (some .boolean), 2, 0, 0, 0, 0),
  (⟨"ProofLines$Line", "isDerived", "()Z"⟩, prog_2_method_8_code, 1, (some .boolean), 2, 0, 0, 0, 0),
  (⟨"ProofLines$Line", "has", "(I)Z"⟩, prog_2_method_9_code, 2, (some .boolean), 2, 1, 20, 1, 0),
  (⟨"ProofLines$Line", "takes", "(I)Z"⟩, prog_2_method_10_code, 2, (some .boolean), 2, 2, 41, 1, 0),
  (⟨"ProofLines$Line", "add", "(I)Z"⟩, prog_2_method_11_code, 2, (some .boolean), 2, 3, 62, 1, 0),
  (⟨"ProofLines$Line", "addAllBut", "(LProofLines$Line;I)V"⟩, prog_2_method_12_code, 5, none, 2, 4, 83, 2, 0),
  (⟨"ProofLines$Line", "drop", "(I)V"⟩, prog_2_method_13_code, 4, none, 2, 1, 21, 1, 0),
  (⟨"ProofLines$Line", "codeAt", "(I)I"⟩, prog_2_method_14_code, 2, (some .int), 2, 0, 0, 1, 0),
  (⟨"ProofLines$Line", "exchange", "(II)I"⟩, prog_2_method_15_code, 8, (some .int), 2, 2, 41, 2, 0)]
def mj_mt2 : List mj_Mrow := [(⟨"ProofLines$Line", "textLength", "()I"⟩, prog_2_method_16_code, 1, (some .int), 2, 1, 21, 0, 0),
  (⟨"ProofLines$Line", "byteAt", "(I)I"⟩, prog_2_method_17_code, 5, (some .int), 2, 2, 42, 1, 0),
  (⟨"ProofLines$Line", "mark", "(I)V"⟩, prog_2_method_18_code, 2, none, 2, 1, 20, 1, 0),
  (⟨"ProofLines$Line", "widthOf", "(I)I"⟩, prog_2_method_19_code, 1, (some .int), 2, 1, 20, 1, 0),
  (⟨"ProofLines$Line", "numberOf", "(I)I"⟩, prog_2_method_20_code, 1, (some .int), 2, 0, 0, 1, 0),
  (⟨"ProofLines$Line", "byteOf", "(III)I"⟩, prog_2_method_21_code, 3, (some .int), 2, 1, 20, 3, 0),
  (⟨"ProofLines$Line", "letterOf", "(I)I"⟩, prog_2_method_22_code, 1, (some .int), 2, 0, 0, 1, 0),
  (⟨"ProofLines$Proof", "<init>", "(I)V"⟩, prog_3_method_1_code, 3, none, 3, 2, 40, 1, 1),
  (⟨"ProofLines$Proof", "count", "()I"⟩, prog_3_method_2_code, 1, (some .int), 3, 0, 0, 0, 1),
  (⟨"ProofLines$Proof", "clear", "()V"⟩, prog_3_method_3_code, 1, none, 3, 0, 0, 0, 1),
  (⟨"ProofLines$Proof", "at", "(I)LProofLines$Line;"⟩, prog_3_method_4_code, 2, (some (.object "ProofLines$Line")), 3, 0, 0, 1, 1),
  (⟨"ProofLines$Proof", "lastOf", "(II)LProofLines$Line;"⟩, prog_3_method_5_code, 4, (some (.object "ProofLines$Line")), 3, 1, 21, 2, 1),
  (⟨"ProofLines$Proof", "open", "(I)LProofLines$Line;"⟩, prog_3_method_6_code, 3, (some (.object "ProofLines$Line")), 3, 1, 21, 1, 1),
  (⟨"ProofLines$Proof", "isRight", "(II)Z"⟩, prog_3_method_7_code, 4, (some .boolean), 3, 2, 60, 2, 1),
  (⟨"ProofLines$Proof", "dropLines", "()V"⟩, prog_3_method_8_code, 2, none, 3, 4, 105, 0, 1),
  (⟨"ProofLines$Proof", "dropLiterals", "()V"⟩, prog_3_method_9_code, 2, none, 3, 3, 89, 0, 1),
  (⟨"ProofLines$Proof", "exchange", "(II)I"⟩, prog_3_method_10_code, 5, (some .int), 3, 3, 68, 2, 1),
  (⟨"ProofLines$Proof", "byteAt", "(I)I"⟩, prog_3_method_11_code, 5, (some .int), 3, 3, 66, 1, 1),
  (⟨"ProofLines$Proof", "isFullAnswer", "(LProofLines$Line;)Z"⟩, prog_3_method_12_code, 2, (some .boolean), 3, 1, 21, 1, 1),
  (⟨"ProofLines$Proof", "meetsGivens", "(LProofLines$Line;I)Z"⟩, prog_3_method_13_code, 7, (some .boolean), 3, 1, 20, 2, 1)]
def mj_mt3 : List mj_Mrow := [(⟨"ProofLines$Proof", "clashes", "(JJII)Z"⟩, prog_3_method_14_code, 20, (some .boolean), 3, 1, 21, 4, 1),
  (⟨"ProofLines$Proof", "isSpare", "(I)Z"⟩, prog_3_method_15_code, 3, (some .boolean), 3, 3, 83, 1, 1),
  (⟨"ProofLines$Proof", "dropLine", "(I)V"⟩, prog_3_method_16_code, 4, none, 3, 0, 0, 1, 1),
  (⟨"ProofLines$Proof", "dropLiteralsOf", "(LProofLines$Line;I)V"⟩, prog_3_method_17_code, 10, none, 3, 2, 60, 2, 1),
  (⟨"ProofLines$Reader", "<init>", "(I)V"⟩, prog_4_method_1_code, 2, none, 4, 1, 20, 1, 2),
  (⟨"ProofLines$Reader", "take", "(I)Z"⟩, prog_4_method_2_code, 2, (some .boolean), 4, 0, 0, 1, 2),
  (⟨"ProofLines$Reader", "forget", "()V"⟩, prog_4_method_3_code, 1, none, 4, 0, 0, 0, 2),
  (⟨"ProofLines$Reader", "place", "()I"⟩, prog_4_method_4_code, 1, (some .int), 4, 0, 0, 0, 2),
  (⟨"ProofLines$Reader", "fill", "(LProofLines$Proof;)Z"⟩, prog_4_method_5_code, 3, (some .boolean), 4, 6, 131, 1, 2),
  (⟨"ProofLines$Reader", "fillLine", "(LProofLines$Proof;)Z"⟩, prog_4_method_6_code, 5, (some .boolean), 4, 5, 107, 1, 2),
  (⟨"ProofLines$Reader", "fillLiteral", "(LProofLines$Line;)Z"⟩, prog_4_method_7_code, 5, (some .boolean), 4, 4, 83, 1, 2),
  (⟨"ProofLines$Reader", "passNumber", "()I"⟩, prog_4_method_8_code, 4, (some .int), 4, 1, 21, 0, 2),
  (⟨"ProofLines$Reader", "here", "()I"⟩, prog_4_method_9_code, 1, (some .int), 4, 0, 0, 0, 2),
  (⟨"ProofLines$Reader", "sortOf", "(I)I"⟩, prog_4_method_10_code, 2, (some .int), 4, 1, 20, 1, 2),
  (⟨"ProofLinesModel", "<init>", "(I)V"⟩, prog_6_method_1_code, 2, none, 5, 1, 20, 1, 4),
  (⟨"ProofLinesModel", "isThing", "(I)Z"⟩, prog_6_method_3_code, 2, (some .boolean), 5, 0, 0, 1, 4),
  (⟨"ProofLinesModel", "literalOf", "(IZ)I"⟩, prog_6_method_4_code, 2, (some .int), 5, 0, 0, 2, 4),
  (⟨"ProofLinesModel", "has", "(II)Z"⟩, prog_6_method_5_code, 4, (some .boolean), 5, 0, 0, 2, 4),
  (⟨"ProofLinesModel", "add", "(II)V"⟩, prog_6_method_6_code, 3, none, 5, 0, 0, 2, 4),
  (⟨"ProofLinesModel", "newLine", "(I)I"⟩, prog_6_method_7_code, 2, (some .int), 5, 0, 0, 1, 4)]
def mj_mt4 : List mj_Mrow := [(⟨"ProofLinesModel", "given", "()I"⟩, prog_6_method_8_code, 1, (some .int), 5, 1, 21, 0, 4),
  (⟨"ProofLinesModel", "answer", "()I"⟩, prog_6_method_9_code, 1, (some .int), 5, 1, 21, 0, 4),
  (⟨"ProofLinesModel", "isLast", "(II)Z"⟩, prog_6_method_10_code, 3, (some .boolean), 5, 0, 0, 2, 4),
  (⟨"ProofLinesModel", "literal", "(IIZ)Z"⟩, prog_6_method_11_code, 4, (some .boolean), 5, 1, 23, 3, 4),
  (⟨"ProofLinesModel", "value", "(IIZ)Z"⟩, prog_6_method_12_code, 4, (some .boolean), 5, 1, 23, 3, 4),
  (⟨"ProofLinesModel", "collect", "(IZ)Z"⟩, prog_6_method_13_code, 4, (some .boolean), 5, 1, 21, 2, 4),
  (⟨"ProofLinesModel", "learn", "()I"⟩, prog_6_method_14_code, 3, (some .int), 5, 1, 22, 0, 4),
  (⟨"ProofLinesModel", "split", "(I)I"⟩, prog_6_method_15_code, 9, (some .int), 5, 1, 23, 1, 4),
  (⟨"ProofLinesModel", "leadsTo", "(I)I"⟩, prog_6_method_16_code, 6, (some .int), 5, 0, 0, 1, 4),
  (⟨"ProofLinesModel", "clashes", "(I)Z"⟩, prog_6_method_17_code, 5, (some .boolean), 5, 1, 25, 1, 4),
  (⟨"ProofLinesModel", "answers", "(I)Z"⟩, prog_6_method_18_code, 5, (some .boolean), 5, 1, 23, 1, 4),
  (⟨"ProofLinesModel", "isRight", "(I)Z"⟩, prog_6_method_19_code, 3, (some .boolean), 5, 2, 49, 1, 4),
  (⟨"ProofLinesModel", "check", "()I"⟩, prog_6_method_20_code, 2, (some .int), 5, 3, 71, 0, 4),
  (⟨"ProofLinesModel", "copyLine", "(II)V"⟩, prog_6_method_21_code, 4, none, 5, 0, 0, 2, 4),
  (⟨"ProofLinesModel", "takeOut", "(I)V"⟩, prog_6_method_22_code, 3, none, 5, 1, 23, 1, 4),
  (⟨"ProofLinesModel", "putBack", "(I)V"⟩, prog_6_method_23_code, 3, none, 5, 1, 23, 1, 4),
  (⟨"ProofLinesModel", "tryWithout", "(I)V"⟩, prog_6_method_24_code, 5, none, 5, 3, 71, 1, 4),
  (⟨"ProofLinesModel", "shortenLine", "(I)V"⟩, prog_6_method_25_code, 5, none, 5, 3, 71, 1, 4),
  (⟨"ProofLinesModel", "removeLiteral", "(II)V"⟩, prog_6_method_26_code, 4, none, 5, 0, 0, 2, 4),
  (⟨"ProofLinesModel", "insertLiteral", "(III)V"⟩, prog_6_method_27_code, 5, none, 5, 0, 0, 3, 4)]
def mj_mt5 : List mj_Mrow := [(⟨"ProofLinesModel", "shorten", "()I"⟩, prog_6_method_28_code, 2, (some .int), 5, 4, 95, 0, 4),
  (⟨"ProofLinesModel", "turned", "(III)I"⟩, prog_6_method_29_code, 3, (some .int), 5, 0, 0, 3, 4),
  (⟨"ProofLinesModel", "turn", "(II)I"⟩, prog_6_method_30_code, 7, (some .int), 5, 1, 22, 2, 4),
  (⟨"ProofLinesModel", "lines", "()I"⟩, prog_6_method_31_code, 1, (some .int), 5, 0, 0, 0, 4),
  (⟨"ProofLinesModel", "kind", "(I)I"⟩, prog_6_method_32_code, 2, (some .int), 5, 0, 0, 1, 4),
  (⟨"ProofLinesModel", "member", "(II)I"⟩, prog_6_method_33_code, 3, (some .int), 5, 0, 0, 2, 4),
  (⟨"ProofLinesModel", "bytesOf", "(I)I"⟩, prog_6_method_34_code, 1, (some .int), 5, 0, 0, 1, 4),
  (⟨"ProofLinesModel", "byteOf", "(II)I"⟩, prog_6_method_35_code, 4, (some .int), 5, 0, 0, 2, 4),
  (⟨"ProofLinesModel", "text", "(I)I"⟩, prog_6_method_36_code, 6, (some .int), 5, 1, 23, 1, 4),
  (⟨"ProofLinesModel", "letterOf", "(I)I"⟩, prog_6_method_37_code, 1, (some .int), 5, 0, 0, 1, 4),
  (⟨"ProofLinesModel", "kindOf", "(I)I"⟩, prog_6_method_38_code, 1, (some .int), 5, 0, 0, 1, 4),
  (⟨"ProofLinesModel", "unit", "(I)Z"⟩, prog_6_method_39_code, 2, (some .boolean), 5, 0, 0, 1, 4),
  (⟨"ProofLinesModel", "look", "()I"⟩, prog_6_method_40_code, 1, (some .int), 5, 0, 0, 0, 4),
  (⟨"ProofLinesModel", "fail", "(I)V"⟩, prog_6_method_41_code, 2, none, 5, 0, 0, 1, 4),
  (⟨"ProofLinesModel", "isDigit", "()Z"⟩, prog_6_method_42_code, 1, (some .boolean), 5, 1, 20, 0, 4),
  (⟨"ProofLinesModel", "readLiteral", "(I)V"⟩, prog_6_method_43_code, 7, none, 5, 2, 40, 1, 4),
  (⟨"ProofLinesModel", "readLine", "(I)V"⟩, prog_6_method_44_code, 3, none, 5, 3, 66, 1, 4),
  (⟨"ProofLinesModel", "read", "()I"⟩, prog_6_method_45_code, 3, (some .int), 5, 4, 88, 0, 4),
  (⟨"ProofLinesLaw", "cell", "([II)I"⟩, method_2_code, 2, (some .int), 0, 0, 0, 2, 0),
  (⟨"ProofLinesLaw", "law", "([I)Z"⟩, code, 4, (some .boolean), 0, 8, 176, 1, 0)]
def mj_mt : List mj_Mrow := mj_mt0 ++ (mj_mt1 ++ (mj_mt2 ++ (mj_mt3 ++ (mj_mt4 ++ (mj_mt5)))))
def mj_fl : List ((Nat × Nat) × (Nat × Nat)) := [((1, 18), (3, 0)), ((1, 25), (3, 1)), ((1, 34), (3, 2)), ((1, 41), (3, 3)), ((1, 45), (3, 4)), ((2, 9), (0, 0)), ((2, 15), (0, 2)), ((2, 19), (0, 1)), ((2, 22), (0, 3)), ((2, 26), (0, 4)), ((3, 9), (1, 0)), ((3, 17), (1, 1)), ((3, 21), (1, 2)), ((3, 26), (1, 3)), ((4, 9), (2, 0)), ((4, 15), (2, 1)), ((4, 19), (2, 2)), ((4, 22), (2, 3)), ((5, 7), (4, 1)), ((5, 13), (4, 2)), ((5, 16), (4, 3)), ((5, 19), (4, 5)), ((5, 22), (4, 7)), ((5, 25), (4, 12)), ((5, 29), (4, 13)), ((5, 32), (4, 0)), ((5, 36), (4, 11)), ((5, 39), (4, 4)), ((5, 65), (4, 6)), ((5, 117), (4, 8)), ((5, 120), (4, 9)), ((5, 123), (4, 10))]
def mj_ml0 : List ((Nat × Nat) × (Nat × Nat)) := [((0, 9), (118, 0)), ((0, 15), (3, 4)), ((0, 20), (74, 4)), ((0, 21), (4, 2)), ((0, 25), (80, 2)), ((0, 26), (5, 2)), ((0, 30), (83, 2)), ((0, 31), (6, 2)), ((0, 35), (85, 2)), ((0, 36), (7, 2)), ((0, 39), (86, 2)), ((0, 40), (8, 2)), ((0, 44), (87, 2)), ((0, 45), (9, 2)), ((0, 48), (81, 2))]
def mj_ml1 : List ((Nat × Nat) × (Nat × Nat)) := [((0, 49), (10, 2)), ((0, 52), (84, 2)), ((0, 53), (11, 2)), ((0, 56), (92, 2)), ((0, 57), (12, 2)), ((0, 60), (100, 2)), ((0, 61), (13, 2)), ((0, 65), (102, 2)), ((0, 66), (14, 2)), ((0, 69), (103, 2)), ((0, 70), (15, 2)), ((0, 73), (104, 2)), ((0, 74), (16, 2)), ((0, 77), (105, 2)), ((0, 78), (17, 2))]
def mj_ml2 : List ((Nat × Nat) × (Nat × Nat)) := [((0, 81), (108, 2)), ((0, 82), (18, 2)), ((0, 86), (111, 2)), ((0, 87), (19, 2)), ((0, 90), (117, 2)), ((1, 3), (0, 5)), ((1, 9), (2, 0)), ((1, 15), (1, 0)), ((1, 24), (25, 4)), ((1, 31), (64, 4)), ((1, 40), (47, 4)), ((1, 48), (52, 2)), ((1, 52), (48, 2)), ((1, 56), (51, 2)), ((1, 60), (20, 2))]
def mj_ml3 : List ((Nat × Nat) × (Nat × Nat)) := [((1, 64), (22, 0)), ((1, 68), (35, 2)), ((1, 71), (36, 2)), ((1, 75), (26, 2)), ((1, 78), (50, 2)), ((1, 81), (21, 0)), ((1, 85), (53, 2)), ((1, 89), (54, 2)), ((1, 92), (55, 2)), ((1, 95), (56, 2)), ((1, 98), (39, 2)), ((1, 99), (27, 2)), ((1, 102), (38, 2)), ((1, 106), (57, 2)), ((1, 109), (65, 2))]
def mj_ml4 : List ((Nat × Nat) × (Nat × Nat)) := [((1, 112), (68, 2)), ((1, 116), (67, 2)), ((1, 119), (66, 2)), ((1, 122), (31, 2)), ((1, 126), (33, 2)), ((2, 3), (0, 5)), ((2, 29), (23, 1)), ((2, 33), (24, 1)), ((2, 36), (33, 2)), ((2, 40), (31, 2)), ((2, 44), (34, 2)), ((2, 47), (42, 2)), ((2, 51), (28, 2)), ((2, 54), (38, 2)), ((2, 58), (35, 2))]
def mj_ml5 : List ((Nat × Nat) × (Nat × Nat)) := [((2, 63), (0, 0)), ((2, 71), (46, 0)), ((2, 74), (43, 0)), ((2, 77), (45, 0)), ((2, 81), (44, 0)), ((3, 3), (0, 5)), ((3, 25), (25, 4)), ((3, 29), (50, 2)), ((3, 33), (27, 2)), ((3, 37), (26, 2)), ((3, 41), (32, 2)), ((3, 45), (29, 2)), ((3, 49), (30, 2)), ((3, 52), (60, 2)), ((3, 56), (58, 2))]
def mj_ml6 : List ((Nat × Nat) × (Nat × Nat)) := [((3, 60), (59, 2)), ((3, 64), (53, 2)), ((3, 68), (61, 2)), ((3, 72), (62, 2)), ((3, 75), (63, 2)), ((3, 79), (39, 2)), ((3, 83), (40, 2)), ((3, 86), (41, 2)), ((3, 90), (28, 2)), ((3, 93), (0, 0)), ((3, 99), (31, 2)), ((3, 104), (38, 2)), ((3, 107), (23, 1)), ((3, 111), (24, 1)), ((3, 114), (37, 2))]
def mj_ml7 : List ((Nat × Nat) × (Nat × Nat)) := [((4, 3), (0, 5)), ((4, 25), (49, 2)), ((4, 30), (69, 2)), ((4, 34), (72, 2)), ((4, 38), (73, 0)), ((4, 42), (52, 2)), ((4, 46), (70, 2)), ((4, 50), (71, 2)), ((4, 53), (22, 1)), ((4, 57), (35, 2)), ((4, 63), (2, 0)), ((4, 69), (46, 0)), ((5, 1), (0, 5)), ((5, 42), (79, 2)), ((5, 46), (82, 2))]
def mj_ml8 : List ((Nat × Nat) × (Nat × Nat)) := [((5, 50), (75, 2)), ((5, 54), (76, 0)), ((5, 58), (77, 2)), ((5, 61), (78, 2)), ((5, 68), (88, 2)), ((5, 71), (90, 2)), ((5, 74), (89, 2)), ((5, 77), (91, 2)), ((5, 80), (93, 2)), ((5, 83), (94, 2)), ((5, 87), (95, 2)), ((5, 90), (98, 2)), ((5, 93), (99, 2)), ((5, 97), (96, 2)), ((5, 100), (97, 2))]
def mj_ml9 : List ((Nat × Nat) × (Nat × Nat)) := [((5, 103), (101, 0)), ((5, 107), (109, 0)), ((5, 110), (106, 0)), ((5, 113), (107, 0)), ((5, 126), (112, 2)), ((5, 130), (114, 2)), ((5, 134), (113, 2)), ((5, 137), (110, 0)), ((5, 140), (115, 2)), ((5, 143), (116, 2))]
def mj_ml : List ((Nat × Nat) × (Nat × Nat)) := mj_ml0 ++ (mj_ml1 ++ (mj_ml2 ++ (mj_ml3 ++ (mj_ml4 ++ (mj_ml5 ++ (mj_ml6 ++ (mj_ml7 ++ (mj_ml8 ++ (mj_ml9)))))))))
def mj_nl : List ((Nat × Nat) × Nat) := [((0, 7), 3), ((0, 18), 4), ((1, 22), 0), ((1, 29), 2), ((1, 38), 1), ((3, 15), 0)]
def mj_ql : List ((Nat × Nat) × Nat) := [((3, 15), 2)]
def mj_kl : List ((Nat × Nat) × Value) := [((2, 61), .long (-1)), ((2, 69), .long (-512)), ((3, 102), .long (-1)), ((6, 314), .long (6148914691236517205)), ((6, 316), .long (3689348814741910323)), ((6, 318), .long (1085102592571150095))]
def mj_host : String := "ProofLines"
def mj_nm : List (String × Nat × MethodName × String) := [("ProofLines$Line", 29, ⟨"ProofLines", "trueBit", "(I)J"⟩, "ProofLines"), ("ProofLines$Line", 33, ⟨"ProofLines", "falseBit", "(I)J"⟩, "ProofLines"), ("ProofLines$Proof", 107, ⟨"ProofLines", "trueBit", "(I)J"⟩, "ProofLines"), ("ProofLines$Proof", 111, ⟨"ProofLines", "falseBit", "(I)J"⟩, "ProofLines"), ("ProofLines$Reader", 53, ⟨"ProofLines", "codeOf", "(IZ)I"⟩, "ProofLines")]
def mj_ao : List String := ["ProofLines$Line"]
end
section
/-! What the tables say, read off the rows (the rows are part 02's) -/
def mj_cn (o : Nat) : String := mj_cns.getD o ""
def mj_y (m : Nat) : MethodName := (mj_mt.getD m mj_m0).1
def mj_code (m : Nat) : ByteArray := (mj_mt.getD m mj_m0).2.1
def mj_mxl (m : Nat) : Nat := (mj_mt.getD m mj_m0).2.2.1
def mj_ret (m : Nat) : Option FieldType := (mj_mt.getD m mj_m0).2.2.2.1
def mj_on (m : Nat) : Nat := (mj_mt.getD m mj_m0).2.2.2.2.1
def mj_hgt (m : Nat) : Nat := (mj_mt.getD m mj_m0).2.2.2.2.2.1
def mj_lr (m : Nat) : Nat := (mj_mt.getD m mj_m0).2.2.2.2.2.2.1
def mj_na (m : Nat) : Nat := (mj_mt.getD m mj_m0).2.2.2.2.2.2.2.1
def mj_ci (m : Nat) : Nat := (mj_mt.getD m mj_m0).2.2.2.2.2.2.2.2
def mj_own (m : Nat) : String := mj_cn (mj_on m)
def mj_fin (ci k : Nat) : Bool := match mj_cl[ci]? with
  | some r => (r.2.1 k).2.2.2
  | none => true
def mj_fown (ci k : Nat) : String := match mj_cl[ci]? with
  | some r => (r.2.1 k).1
  | none => ""
def mj_fnm (ci k : Nat) : String := match mj_cl[ci]? with
  | some r => (r.2.1 k).2.1
  | none => ""
def mj_fds (ci k : Nat) : String := match mj_cl[ci]? with
  | some r => (r.2.1 k).2.2.1
  | none => ""
def mj_N (ci : Nat) : Nat := match mj_cl[ci]? with
  | some r => r.2.2
  | none => 0
def mj_cnm (ci : Nat) : String := match mj_cl[ci]? with
  | some r => r.1
  | none => ""
def mj_ty (ci k : Nat) : FieldType := (mj_tyl.getD ci []).getD k .int
def mj_def (ci : Nat) : List Value := (mj_tyl.getD ci []).map defaultValue
def mj_words : List Cond := lw_tbl.filter goodWord
/-- a word by its place -/
def mj_wd (i : Nat) (w : Cond) : Bool := decide (lw_tbl[i]? = some w) && goodWord w
theorem mj_wd_in {i : Nat} {w : Cond} (h : mj_wd i w = true) : w ∈ mj_words := by
  unfold mj_wd at h
  simp only [Bool.and_eq_true, decide_eq_true_eq] at h
  exact List.mem_filter.mpr ⟨List.mem_of_getElem? h.1, h.2⟩
def mj_all2 {α : Type} (f : α → List Nat → Bool) : List α → List (List Nat) → Bool
  | [], _ => true
  | _ :: _, [] => false
  | a :: l, x :: xs => f a x && mj_all2 f l xs
theorem mj_all2_in {α : Type} {f : α → List Nat → Bool} : ∀ {l : List α} {xs : List (List Nat)}, mj_all2 f l xs = true → ∀ a ∈ l, ∃ x, f a x = true := by
  intro l
  induction l with
  | nil => intro xs _ a ha; cases ha
  | cons b l ih =>
    intro xs h a ha
    cases xs with
    | nil => simp [mj_all2] at h
    | cons x xs =>
      simp only [mj_all2, Bool.and_eq_true] at h
      rcases List.mem_cons.mp ha with rfl | ha
      · exact ⟨x, h.1⟩
      · exact ih h.2 a ha
theorem mj_find_mem {α : Type} {t : List ((Nat × Nat) × α)} {o i : Nat} {x : α} (h : (t.find? (fun r => r.1.1 == o && r.1.2 == i)).map (fun r => r.2) = some x) : ((o, i), x) ∈ t := by
  cases hf : t.find? (fun r => r.1.1 == o && r.1.2 == i) with
  | none => rw [hf] at h; cases h
  | some r =>
    rw [hf] at h
    have h1 := List.find?_some hf
    have h2 := List.mem_of_find?_eq_some hf
    simp only [Bool.and_eq_true, beq_iff_eq] at h1
    obtain ⟨⟨a, b⟩, c⟩ := r
    simp only [Option.map_some, Option.some.injEq] at h
    obtain ⟨rfl, rfl⟩ := h1
    subst h
    exact h2
/-- a class's row: its fields' words, its making, its types -/
def mj_clb (r : vw_C × List FieldType) (x : List Nat) : Bool :=
  mj_all2 (fun w y => mj_wd (y.getD 0 0) w) (u_ws r.1.1 r.1.2.1 r.1.2.2) ((x.drop 2).map fun i => [i]) && mj_wd (x.getD 0 0) (.instantiable r.1.1 r.1.2.2) && mj_wd (x.getD 1 0) (.initialized r.1.1) &&
  (List.range r.1.2.2).all (fun k => decide (parseFieldDescriptor (r.1.2.1 k).2.2.1 = some (r.2.getD k .int))) && decide (r.2.length = r.1.2.2) &&
  (List.range r.1.2.2).all (fun a => (List.range r.1.2.2).all (fun b => a == b || decide ((r.1.2.1 a).2.1 ≠ (r.1.2.1 b).2.1)))
def mj_flb (r : (Nat × Nat) × (Nat × Nat)) (x : List Nat) : Bool := decide (r.2.2 < mj_N r.2.1) && mj_wd (x.getD 0 0) (.fieldLink (mj_cn r.1.1) r.1.2 (mj_fown r.2.1 r.2.2) (mj_fnm r.2.1 r.2.2) (mj_fds r.2.1 r.2.2))
def mj_nlb (r : (Nat × Nat) × Nat) (x : List Nat) : Bool := decide (r.2 < mj_cl.length) && mj_wd (x.getD 0 0) (.classLink (mj_cn r.1.1) r.1.2 (mj_cnm r.2))
def mj_qlb (r : (Nat × Nat) × Nat) (x : List Nat) : Bool := match mj_at[r.2]? with
  | some (.object C) => decide (C ∈ mj_ao) && decide (r.2 < mj_at.length) && mj_wd (x.getD 0 0) (.classLink (mj_cn r.1.1) r.1.2 C)
  | _ => false
def mj_klb (r : (Nat × Nat) × Value) (x : List Nat) : Bool := match r.2 with
  | .int v => mj_wd (x.getD 0 0) (.constant (mj_cn r.1.1) r.1.2 v)
  | .long v => mj_wd (x.getD 0 0) (.constantLong (mj_cn r.1.1) r.1.2 v)
  | _ => false
/-- a call's row: places of: link, static or instance, selects, code, initialized -/
def mj_mlb (r : (Nat × Nat) × (Nat × Nat)) (x : List Nat) : Bool :=
  if r.2.2 = 5 then mj_wd (x.getD 0 0) (.methodLink (mj_cn r.1.1) r.1.2 Lib.objectInit) && mj_wd (x.getD 1 0) (.instanceMethod Lib.objectInit) && mj_wd (x.getD 3 0) (.code Lib.objectInit ⟨#[0xb1]⟩ 1 none)
  else mj_wd (x.getD 3 0) (.code (mj_y r.2.1) (mj_code r.2.1) (mj_mxl r.2.1) (mj_ret r.2.1)) && mj_wd (x.getD 4 0) (.initialized (mj_y r.2.1).cls) &&
    decide ((mj_y r.2.1).cls ≠ "java/lang/invoke/MethodHandle" ∧ (mj_y r.2.1).cls ≠ "java/lang/invoke/VarHandle" ∧ (parseMethodDescriptor (mj_y r.2.1).desc).map (fun d => d.parameters.length) = some (mj_na r.2.1)) &&
    plainFor (mj_y r.2.1) && decide (mj_own r.2.1 = (mj_y r.2.1).cls) &&
    (if r.2.2 = 0 ∨ r.2.2 = 2 ∨ r.2.2 = 4 then mj_wd (x.getD 0 0) (.methodLink (mj_cn r.1.1) r.1.2 (mj_y r.2.1)) else decide ((mj_cn r.1.1, r.1.2, mj_y r.2.1, mj_host) ∈ mj_nm)) &&
    (if r.2.2 ≤ 1 then mj_wd (x.getD 1 0) (.static (mj_y r.2.1)) else mj_wd (x.getD 1 0) (.instanceMethod (mj_y r.2.1))) &&
    (if r.2.2 = 2 ∨ r.2.2 = 3 then mj_wd (x.getD 2 0) (.selects (mj_y r.2.1).cls (mj_y r.2.1) (mj_y r.2.1)) && decide (mj_cnm (mj_ci r.2.1) = (mj_y r.2.1).cls ∧ mj_ci r.2.1 < mj_cl.length) else true) &&
    (if r.2.2 = 4 then decide ((mj_y r.2.1).name = "<init>" ∧ mj_ret r.2.1 = none) else decide (r.2.2 < 4))
def mj_atb (ty : FieldType) (x : List Nat) : Bool := match ty with
  | .object _ => true
  | .array _ => true
  | ty => mj_wd (x.getD 0 0) (.arrayClass ty)
end
section
/-! CHECKS of the tables, each row by the places of its words in lw_tbl (written by wip/whole/gen/tables.py) -/
theorem mj_ck_len : mj_cl.length = mj_tyl.length := by decide
theorem mj_ck_cl : mj_all2 mj_clb (mj_cl.zip mj_tyl) [[56, 36, 66, 68, 70, 72, 74], [98, 38, 110, 112, 114, 116], [79, 37, 88, 90, 92, 94], [42, 34, 125, 127, 129, 131, 133], [428, 39, 447, 449, 451, 453, 455, 457, 459, 461, 463, 465, 467, 469, 471, 473]] = true := by decide +kernel
theorem mj_ck_fl : mj_all2 mj_flb mj_fl [[120], [121], [122], [123], [124], [61], [63], [62], [64], [65], [106], [107], [108], [109], [84], [85], [86], [87], [434], [435], [436], [438], [440], [445], [446], [433], [444], [437], [439], [441], [442], [443]] = true := by decide +kernel
theorem mj_ck_nl : mj_all2 mj_nlb mj_nl [[41], [427], [55], [78], [97], [103]] = true := by decide +kernel
theorem mj_ck_ql : mj_all2 mj_qlb mj_ql [[103]] = true := by decide +kernel
theorem mj_ck_kl : mj_all2 mj_klb mj_kl [[314], [355], [266], [270], [271], [272]] = true := by decide +kernel
theorem mj_ck_ml0 : mj_all2 mj_mlb mj_ml0 [[424, 425, 0, 426, 33], [43, 44, 0, 45, 34], [429, 430, 0, 431, 39], [136, 137, 138, 139, 34], [476, 477, 478, 479, 39], [152, 153, 154, 155, 34], [488, 489, 490, 491, 39], [201, 202, 203, 204, 34], [515, 516, 517, 518, 39], [205, 206, 207, 208, 34], [519, 520, 521, 522, 39], [223, 224, 225, 226, 34], [523, 524, 525, 526, 39], [233, 234, 235, 236, 34], [484, 485, 486, 487, 39]] = true := by decide +kernel
theorem mj_ck_ml1 : mj_all2 mj_mlb mj_ml1 [[237, 238, 239, 240, 34], [511, 512, 513, 514, 39], [241, 242, 243, 244, 34], [527, 528, 529, 530, 39], [282, 283, 284, 285, 34], [547, 548, 549, 550, 39], [315, 316, 317, 318, 34], [579, 580, 581, 582, 39], [328, 329, 330, 331, 34], [586, 587, 588, 589, 39], [332, 333, 334, 335, 34], [590, 591, 592, 593, 39], [337, 338, 339, 340, 34], [594, 595, 596, 597, 39], [342, 343, 344, 345, 34]] = true := by decide +kernel
theorem mj_ck_ml2 : mj_all2 mj_mlb mj_ml2 [[598, 599, 600, 601, 39], [372, 373, 374, 375, 34], [611, 612, 613, 614, 39], [380, 381, 382, 383, 34], [615, 616, 617, 618, 39], [46, 47, 0, 48, 0], [49, 50, 0, 51, 35], [52, 53, 0, 54, 35], [57, 58, 0, 59, 36], [80, 81, 0, 82, 37], [99, 100, 0, 101, 38], [140, 141, 142, 143, 38], [148, 149, 150, 151, 38], [156, 157, 158, 159, 38], [168, 170, 0, 171, 34]] = true := by decide +kernel
theorem mj_ck_ml3 : mj_all2 mj_mlb mj_ml3 [[172, 173, 0, 174, 34], [175, 176, 177, 178, 36], [209, 210, 211, 212, 36], [222, 145, 146, 147, 36], [227, 161, 162, 163, 38], [228, 229, 0, 230, 34], [245, 246, 247, 248, 38], [286, 287, 288, 289, 38], [299, 300, 301, 302, 38], [319, 320, 321, 322, 38], [327, 324, 325, 326, 36], [336, 165, 166, 167, 36], [341, 218, 219, 220, 36], [346, 347, 348, 349, 38], [376, 377, 378, 379, 37]] = true := by decide +kernel
theorem mj_ck_ml4 : mj_all2 mj_mlb mj_ml4 [[384, 385, 386, 387, 37], [416, 417, 418, 419, 37], [420, 421, 422, 423, 37], [231, 194, 195, 196, 36], [232, 184, 185, 186, 36], [60, 47, 0, 48, 0], [0, 188, 0, 189, 34], [0, 191, 0, 192, 34], [183, 184, 185, 186, 36], [193, 194, 195, 196, 36], [179, 180, 181, 182, 36], [197, 199, 1, 200, 36], [213, 214, 215, 216, 36], [217, 218, 219, 220, 36], [221, 176, 177, 178, 36]] = true := by decide +kernel
theorem mj_ck_ml5 : mj_all2 mj_mlb mj_ml5 [[354, 268, 0, 269, 40], [360, 361, 0, 362, 36], [363, 364, 0, 365, 36], [369, 370, 0, 371, 36], [366, 367, 0, 368, 36], [102, 47, 0, 48, 0], [105, 58, 0, 59, 36], [160, 161, 162, 163, 38], [164, 165, 166, 167, 36], [144, 145, 146, 147, 36], [249, 250, 251, 252, 36], [253, 254, 255, 256, 36], [257, 258, 259, 260, 36], [261, 263, 2, 264, 38], [273, 275, 3, 276, 38]] = true := by decide +kernel
theorem mj_ck_ml6 : mj_all2 mj_mlb mj_ml6 [[278, 280, 4, 281, 38], [290, 246, 247, 248, 38], [291, 293, 5, 294, 38], [295, 297, 6, 298, 38], [303, 305, 7, 306, 38], [323, 324, 325, 326, 36], [350, 351, 352, 353, 36], [356, 357, 358, 359, 36], [277, 214, 215, 216, 36], [267, 268, 0, 269, 40], [265, 194, 195, 196, 36], [307, 218, 219, 220, 36], [0, 188, 0, 189, 34], [0, 191, 0, 192, 34], [310, 311, 312, 313, 36]] = true := by decide +kernel
theorem mj_ck_ml7 : mj_all2 mj_mlb mj_ml7 [[83, 47, 0, 48, 0], [388, 389, 390, 391, 38], [392, 394, 8, 395, 37], [396, 398, 9, 399, 37], [400, 401, 0, 402, 37], [404, 141, 142, 143, 38], [405, 407, 10, 408, 37], [409, 411, 11, 412, 37], [0, 173, 0, 174, 34], [415, 176, 177, 178, 36], [413, 50, 0, 51, 35], [403, 361, 0, 362, 36], [432, 47, 0, 48, 0], [480, 482, 12, 483, 39], [492, 494, 13, 495, 39]] = true := by decide +kernel
theorem mj_ck_ml8 : mj_all2 mj_mlb mj_ml8 [[496, 498, 14, 499, 39], [500, 501, 0, 502, 39], [503, 505, 15, 506, 39], [507, 509, 16, 510, 39], [543, 545, 20, 546, 39], [535, 537, 18, 538, 39], [539, 541, 19, 542, 39], [531, 533, 17, 534, 39], [555, 557, 22, 558, 39], [559, 561, 23, 562, 39], [563, 565, 24, 566, 39], [571, 573, 26, 574, 39], [575, 577, 27, 578, 39], [551, 553, 21, 554, 39], [567, 569, 25, 570, 39]] = true := by decide +kernel
theorem mj_ck_ml9 : mj_all2 mj_mlb mj_ml9 [[583, 584, 0, 585, 39], [602, 603, 0, 604, 39], [605, 606, 0, 607, 39], [608, 609, 0, 610, 39], [623, 625, 29, 626, 39], [638, 640, 32, 641, 39], [630, 632, 30, 633, 39], [627, 628, 0, 629, 39], [634, 636, 31, 637, 39], [619, 621, 28, 622, 39]] = true := by decide +kernel
theorem mj_ck_ml : ∀ a ∈ mj_ml, ∃ x, mj_mlb a x = true := by
  intro a ha
  unfold mj_ml at ha
  simp only [List.mem_append] at ha
  rcases ha with ha | ha | ha | ha | ha | ha | ha | ha | ha | ha
  · exact mj_all2_in mj_ck_ml0 a ha
  · exact mj_all2_in mj_ck_ml1 a ha
  · exact mj_all2_in mj_ck_ml2 a ha
  · exact mj_all2_in mj_ck_ml3 a ha
  · exact mj_all2_in mj_ck_ml4 a ha
  · exact mj_all2_in mj_ck_ml5 a ha
  · exact mj_all2_in mj_ck_ml6 a ha
  · exact mj_all2_in mj_ck_ml7 a ha
  · exact mj_all2_in mj_ck_ml8 a ha
  · exact mj_all2_in mj_ck_ml9 a ha
theorem mj_ck_at : mj_all2 mj_atb mj_at [[77], [119], [0]] = true := by decide +kernel
end
section
/-! The rows are sound: each by the check that a program has run over its table -/
theorem mj_ok_fl {o x ci k : Nat} (h : ((o, x), (ci, k)) ∈ mj_fl) : k < mj_N ci ∧ Cond.fieldLink (mj_cn o) x (mj_fown ci k) (mj_fnm ci k) (mj_fds ci k) ∈ mj_words := by
  obtain ⟨ix, hx⟩ := mj_all2_in mj_ck_fl _ h
  simp only [mj_flb, Bool.and_eq_true, decide_eq_true_eq] at hx
  exact ⟨hx.1, mj_wd_in hx.2⟩
theorem mj_ok_nl {o x ci : Nat} (h : ((o, x), ci) ∈ mj_nl) : ci < mj_cl.length ∧ Cond.classLink (mj_cn o) x (mj_cnm ci) ∈ mj_words := by
  obtain ⟨ix, hx⟩ := mj_all2_in mj_ck_nl _ h
  simp only [mj_nlb, Bool.and_eq_true, decide_eq_true_eq] at hx
  exact ⟨hx.1, mj_wd_in hx.2⟩
theorem mj_ok_ql {o x t : Nat} (h : ((o, x), t) ∈ mj_ql) : ∃ C, mj_at[t]? = some (.object C) ∧ C ∈ mj_ao ∧ Cond.classLink (mj_cn o) x C ∈ mj_words := by
  obtain ⟨ix, hx⟩ := mj_all2_in mj_ck_ql _ h
  unfold mj_qlb at hx
  dsimp only at hx
  split at hx
  · rename_i C hC
    simp only [Bool.and_eq_true, decide_eq_true_eq] at hx
    exact ⟨C, hC, hx.1.1, mj_wd_in hx.2⟩
  · cases hx
theorem mj_ok_kli {o x : Nat} {v : Int32} (h : ((o, x), Value.int v) ∈ mj_kl) : Cond.constant (mj_cn o) x v ∈ mj_words := by
  obtain ⟨ix, hx⟩ := mj_all2_in mj_ck_kl _ h
  exact mj_wd_in hx
theorem mj_ok_kll {o x : Nat} {v : Int64} (h : ((o, x), Value.long v) ∈ mj_kl) : Cond.constantLong (mj_cn o) x v ∈ mj_words := by
  obtain ⟨ix, hx⟩ := mj_all2_in mj_ck_kl _ h
  exact mj_wd_in hx
theorem mj_ok_cl {ci : Nat} {r : vw_C} (h : mj_cl[ci]? = some r) : (∀ w ∈ u_ws r.1 r.2.1 r.2.2, w ∈ mj_words) ∧ Cond.instantiable r.1 r.2.2 ∈ mj_words ∧ Cond.initialized r.1 ∈ mj_words ∧ (∀ k, k < r.2.2 → parseFieldDescriptor (r.2.1 k).2.2.1 = some (mj_ty ci k)) ∧ (mj_def ci).length = r.2.2 ∧ (∀ a, a < r.2.2 → ∀ b, b < r.2.2 → a ≠ b → (r.2.1 a).2.1 ≠ (r.2.1 b).2.1) := by
  have hlen : mj_cl.length = mj_tyl.length := mj_ck_len
  have hlt : ci < mj_cl.length := (List.getElem?_eq_some_iff.mp h).1
  have ht : mj_tyl[ci]? = some (mj_tyl.getD ci []) := by
    rw [List.getD_eq_getElem?_getD, List.getElem?_eq_getElem (by omega)]
    rfl
  have hm : (r, mj_tyl.getD ci []) ∈ mj_cl.zip mj_tyl := by
    refine List.mem_of_getElem? (i := ci) ?_
    rw [List.getElem?_zip_eq_some]
    exact ⟨h, ht⟩
  obtain ⟨ix, hx⟩ := mj_all2_in mj_ck_cl _ hm
  simp only [mj_clb, Bool.and_eq_true, decide_eq_true_eq, List.all_eq_true, List.mem_range] at hx
  obtain ⟨⟨⟨⟨⟨h1, h2⟩, h3⟩, h4⟩, h5⟩, h6⟩ := hx
  refine ⟨fun w hw => ?_, mj_wd_in h2, mj_wd_in h3, fun k hk => h4 k hk, by unfold mj_def; rw [List.length_map]; exact h5, fun a ha b hb hne => ?_⟩
  · obtain ⟨y, hy⟩ := mj_all2_in h1 w hw
    exact mj_wd_in hy
  · have := h6 a ha b hb
    simpa [hne] using this
theorem mj_cl_of {ci : Nat} (h : ci < mj_cl.length) : ∃ r, mj_cl[ci]? = some r ∧ mj_cnm ci = r.1 ∧ mj_N ci = r.2.2 ∧ (∀ k, mj_fown ci k = (r.2.1 k).1 ∧ mj_fnm ci k = (r.2.1 k).2.1 ∧ mj_fds ci k = (r.2.1 k).2.2.1 ∧ mj_fin ci k = (r.2.1 k).2.2.2) := by
  refine ⟨mj_cl[ci], List.getElem?_eq_getElem h, ?_, ?_, fun k => ⟨?_, ?_, ?_, ?_⟩⟩
  · unfold mj_cnm; rw [List.getElem?_eq_getElem h]
  · unfold mj_N; rw [List.getElem?_eq_getElem h]
  · unfold mj_fown; rw [List.getElem?_eq_getElem h]
  · unfold mj_fnm; rw [List.getElem?_eq_getElem h]
  · unfold mj_fds; rw [List.getElem?_eq_getElem h]
  · unfold mj_fin; rw [List.getElem?_eq_getElem h]
theorem mj_N_lt {ci k : Nat} (h : k < mj_N ci) : ci < mj_cl.length := by
  unfold mj_N at h
  cases hc : mj_cl[ci]? with
  | none => rw [hc] at h; exact absurd h (Nat.not_lt_zero _)
  | some r => exact (List.getElem?_eq_some_iff.mp hc).1
theorem mj_ok_at {t : Nat} {ty : FieldType} (h : mj_at[t]? = some ty) (hp : ty = .int ∨ ty = .boolean ∨ ty = .long) : Cond.arrayClass ty ∈ mj_words := by
  obtain ⟨ix, hx⟩ := mj_all2_in mj_ck_at ty (List.mem_of_getElem? h)
  rcases hp with rfl | rfl | rfl <;> exact mj_wd_in hx
theorem mj_ok_ml5 {o x m' : Nat} (h : ((o, x), (m', 5)) ∈ mj_ml) : Cond.methodLink (mj_cn o) x Lib.objectInit ∈ mj_words ∧ Cond.instanceMethod Lib.objectInit ∈ mj_words ∧ Cond.code Lib.objectInit ⟨#[0xb1]⟩ 1 none ∈ mj_words := by
  obtain ⟨ix, hx⟩ := mj_ck_ml _ h
  unfold mj_mlb at hx
  rw [if_pos rfl] at hx
  simp only [Bool.and_eq_true] at hx
  exact ⟨mj_wd_in hx.1.1, mj_wd_in hx.1.2, mj_wd_in hx.2⟩
theorem mj_ok_ml {o x m' kd : Nat} (h : ((o, x), (m', kd)) ∈ mj_ml) (h5 : ¬ kd = 5) : Cond.code (mj_y m') (mj_code m') (mj_mxl m') (mj_ret m') ∈ mj_words ∧ Cond.initialized (mj_y m').cls ∈ mj_words ∧ ((mj_y m').cls ≠ "java/lang/invoke/MethodHandle" ∧ (mj_y m').cls ≠ "java/lang/invoke/VarHandle" ∧ (parseMethodDescriptor (mj_y m').desc).map (fun d => d.parameters.length) = some (mj_na m')) ∧ plainFor (mj_y m') = true ∧ mj_own m' = (mj_y m').cls ∧
    (kd = 0 ∨ kd = 2 ∨ kd = 4 → Cond.methodLink (mj_cn o) x (mj_y m') ∈ mj_words) ∧ (¬ (kd = 0 ∨ kd = 2 ∨ kd = 4) → (mj_cn o, x, mj_y m', mj_host) ∈ mj_nm) ∧ (kd ≤ 1 → Cond.static (mj_y m') ∈ mj_words) ∧ (¬ kd ≤ 1 → Cond.instanceMethod (mj_y m') ∈ mj_words) ∧
    (kd = 2 ∨ kd = 3 → Cond.selects (mj_y m').cls (mj_y m') (mj_y m') ∈ mj_words ∧ mj_cnm (mj_ci m') = (mj_y m').cls ∧ mj_ci m' < mj_cl.length) ∧ (kd = 4 → (mj_y m').name = "<init>" ∧ mj_ret m' = none) ∧ kd ≤ 4 := by
  obtain ⟨ix, hx⟩ := mj_ck_ml _ h
  unfold mj_mlb at hx
  dsimp only at hx
  rw [if_neg h5] at hx
  simp only [Bool.and_eq_true, decide_eq_true_eq] at hx
  obtain ⟨⟨⟨⟨⟨⟨⟨⟨a1, a2⟩, a3⟩, a4⟩, a5⟩, a7⟩, a8⟩, a9⟩, a10⟩ := hx
  refine ⟨mj_wd_in a1, mj_wd_in a2, a3, a4, a5, fun q => ?_, fun q => ?_, fun q => ?_, fun q => ?_, fun q => ?_, fun q => ?_, ?_⟩
  · rw [if_pos q] at a7; exact mj_wd_in a7
  · rw [if_neg q] at a7; simpa using a7
  · rw [if_pos q] at a8; exact mj_wd_in a8
  · rw [if_neg q] at a8; exact mj_wd_in a8
  · rw [if_pos q] at a9
    simp only [Bool.and_eq_true, decide_eq_true_eq] at a9
    exact ⟨mj_wd_in a9.1, a9.2.1, a9.2.2⟩
  · rw [if_pos q] at a10; simpa using a10
  · by_cases q : kd = 4
    · omega
    · rw [if_neg q] at a10
      simp only [decide_eq_true_eq] at a10
      omega
end
section
/-! A small machine over named cells: one step of a method's code as a function, runs by fuel, and what holds behind a run (mj_wp). Part 04 shows that the machine of the Statement does the same. -/
abbrev mj_H : Type := (Nat → Option va_E) × Nat × Nat
abbrev mj_L : Type := List (Option Value)
abbrev mj_R : Type := Option ((Nat × mj_L × List Value × mj_H) ⊕ ((Nat × List Value × List Value × Nat) ⊕ Option Value))
/-- the tag of the script's cell -/
abbrev mj_tag : Nat := 99
abbrev mj_O : Type := mj_L → List Value → mj_H → mj_R
def mj_up (hp : mj_H) (a : Nat) (e : va_E) : mj_H := (fun q => if q = a then some e else hp.1 q, hp.2)
def mj_push (hp : mj_H) (e : va_E) (k : Nat) : mj_H := (fun q => if q = hp.2.1 then some e else hp.1 q, hp.2.1 + 1, hp.2.2 + k)
def mj_nx (pc : Nat) (L : mj_L) (st : List Value) (hp : mj_H) : mj_R := some (.inl (pc, L, st, hp))
def mj_clr (L : mj_L) (i : Nat) : mj_L := match i with
  | 0 => L
  | j + 1 => match L[j]? with
    | some (some v) => if v.category = 2 then L.set j none else L
    | _ => L
def mj_st1 (L : mj_L) (i : Nat) (v : Value) : mj_L := (mj_clr L i).set i (some v)
def mj_st2 (L : mj_L) (i : Nat) (v : Value) : mj_L := ((mj_clr L i).set i (some v)).set (i + 1) none
def mj_no : mj_O := fun _ _ _ => none
theorem mj_none {P : Prop} {r : (Nat × mj_L × List Value × mj_H) ⊕ ((Nat × List Value × List Value × Nat) ⊕ Option Value)} (h : (none : mj_R) = some r) : P := by cases h
def mj_cst (v : Value) (n : Nat) : mj_O := fun L st hp => mj_nx n L (v :: st) hp
def mj_ild (i n : Nat) : mj_O := fun L st hp => match L[i]? with
  | some (some (.int x)) => mj_nx n L (.int x :: st) hp
  | _ => none
def mj_lld (i n : Nat) : mj_O := fun L st hp => match L[i]? with
  | some (some (.long x)) => mj_nx n L (.long x :: st) hp
  | _ => none
def mj_ald (i n : Nat) : mj_O := fun L st hp => match L[i]? with
  | some (some (.ref x)) => mj_nx n L (.ref x :: st) hp
  | some (some .null) => mj_nx n L (.null :: st) hp
  | _ => none
def mj_ist (i n : Nat) : mj_O := fun L st hp => match st with
  | .int x :: st => if i < L.length then mj_nx n (mj_st1 L i (.int x)) st hp else none
  | _ => none
def mj_lst (i n : Nat) : mj_O := fun L st hp => match st with
  | .long x :: st => if i + 1 < L.length then mj_nx n (mj_st2 L i (.long x)) st hp else none
  | _ => none
def mj_ast (i n : Nat) : mj_O := fun L st hp => match st with
  | .ref x :: st => if i < L.length then mj_nx n (mj_st1 L i (.ref x)) st hp else none
  | .null :: st => if i < L.length then mj_nx n (mj_st1 L i .null) st hp else none
  | _ => none
def mj_inc (i : Nat) (c : Int32) (n : Nat) : mj_O := fun L st hp => match L[i]? with
  | some (some (.int x)) => if i < L.length then mj_nx n (mj_st1 L i (.int (x + c))) st hp else none
  | _ => none
def mj_ii (f : Int32 → Int32 → Int32) (n : Nat) : mj_O := fun L st hp => match st with
  | .int y :: .int x :: st => mj_nx n L (.int (f x y) :: st) hp
  | _ => none
def mj_iz (f : Int32 → Int32 → Int32) (n : Nat) : mj_O := fun L st hp => match st with
  | .int y :: .int x :: st => if y = 0 then none else mj_nx n L (.int (f x y) :: st) hp
  | _ => none
def mj_i1 (f : Int32 → Int32) (n : Nat) : mj_O := fun L st hp => match st with
  | .int x :: st => mj_nx n L (.int (f x) :: st) hp
  | _ => none
def mj_ll (f : Int64 → Int64 → Int64) (n : Nat) : mj_O := fun L st hp => match st with
  | .long y :: .long x :: st => mj_nx n L (.long (f x y) :: st) hp
  | _ => none
def mj_l1 (f : Int64 → Int64) (n : Nat) : mj_O := fun L st hp => match st with
  | .long x :: st => mj_nx n L (.long (f x) :: st) hp
  | _ => none
def mj_li (f : Int64 → Int32 → Int64) (n : Nat) : mj_O := fun L st hp => match st with
  | .int y :: .long x :: st => mj_nx n L (.long (f x y) :: st) hp
  | _ => none
def mj_i2l (n : Nat) : mj_O := fun L st hp => match st with
  | .int x :: st => mj_nx n L (.long x.toInt64 :: st) hp
  | _ => none
def mj_l2i (n : Nat) : mj_O := fun L st hp => match st with
  | .long x :: st => mj_nx n L (.int x.toInt32 :: st) hp
  | _ => none
def mj_lcm (n : Nat) : mj_O := fun L st hp => match st with
  | .long y :: .long x :: st => mj_nx n L (.int (lg_cmp x y) :: st) hp
  | _ => none
def mj_if (f : Int32 → Bool) (t n : Nat) : mj_O := fun L st hp => match st with
  | .int x :: st => if f x = true then mj_nx t L st hp else mj_nx n L st hp
  | _ => none
def mj_ic (f : Int32 → Int32 → Bool) (t n : Nat) : mj_O := fun L st hp => match st with
  | .int y :: .int x :: st => if f x y = true then mj_nx t L st hp else mj_nx n L st hp
  | _ => none
def mj_ifn (t n : Nat) : mj_O := fun L st hp => match st with
  | .null :: st => mj_nx t L st hp
  | .ref _ :: st => mj_nx n L st hp
  | _ => none
def mj_go (t : Nat) : mj_O := fun L st hp => mj_nx t L st hp
def mj_tsw (lo hi : Int) (d : Nat) (ts : List Nat) : mj_O := fun L st hp => match st with
  | .int x :: st => if x.toInt < lo ∨ hi < x.toInt then mj_nx d L st hp else match ts[(x.toInt - lo).toNat]? with
    | some t => mj_nx t L st hp
    | none => none
  | _ => none
def mj_dup (n : Nat) : mj_O := fun L st hp => match st with
  | v :: st => if v.category = 1 then mj_nx n L (v :: v :: st) hp else none
  | _ => none
def mj_pop (n : Nat) : mj_O := fun L st hp => match st with
  | v :: st => if v.category = 1 then mj_nx n L st hp else none
  | _ => none
def mj_dx1 (n : Nat) : mj_O := fun L st hp => match st with
  | v :: w :: st => if v.category = 1 ∧ w.category = 1 then mj_nx n L (v :: w :: v :: st) hp else none
  | _ => none
def mj_dx2 (n : Nat) : mj_O := fun L st hp => match st with
  | v :: w :: u :: st => if v.category = 1 ∧ w.category = 1 ∧ u.category = 1 then mj_nx n L (v :: w :: u :: v :: st) hp else none
  | _ => none
def mj_d2 (n : Nat) : mj_O := fun L st hp => match st with
  | v :: w :: st => if v.category = 2 then mj_nx n L (v :: v :: w :: st) hp else if w.category = 1 then mj_nx n L (v :: w :: v :: w :: st) hp else none
  | v :: st => if v.category = 2 then mj_nx n L (v :: v :: st) hp else none
  | _ => none
def mj_d21 (n : Nat) : mj_O := fun L st hp => match st with
  | v :: w :: st => if v.category = 2 ∧ w.category = 1 then mj_nx n L (v :: w :: v :: st) hp else none
  | _ => none
def mj_get (ci k n : Nat) : mj_O := fun L st hp => match st with
  | .ref a :: st => match hp.1 a with
    | some (.inr (cj, fs)) => if cj = ci then match fs[k]? with
      | some v => mj_nx n L (v :: st) hp
      | none => none
      else none
    | _ => none
  | _ => none
def mj_put (ci k : Nat) (ty : FieldType) (n : Nat) : mj_O := fun L st hp => match st with
  | v :: .ref a :: st => match hp.1 a with
    | some (.inr (cj, fs)) => if cj = ci ∧ k < fs.length ∧ narrow ty v = v ∧ fits ty v = true then mj_nx n L st (mj_up hp a (.inr (ci, fs.set k v))) else none
    | _ => none
  | _ => none
def mj_nw (ci N : Nat) (fs : List Value) (n : Nat) : mj_O := fun L st hp => mj_nx n L (.ref hp.2.1 :: st) (mj_push hp (.inr (ci, fs)) N)
def mj_nwi (t n : Nat) : mj_O := fun L st hp => match st with
  | .int x :: st => if x < 0 ∨ 65536 < x.toNatClampNeg then none else mj_nx n L (.ref hp.2.1 :: st) (mj_push hp (.inl (t, x.toNatClampNeg, .inl (fun _ => 0))) x.toNatClampNeg)
  | _ => none
def mj_nwl (t n : Nat) : mj_O := fun L st hp => match st with
  | .int x :: st => if x < 0 ∨ 65536 < x.toNatClampNeg then none else mj_nx n L (.ref hp.2.1 :: st) (mj_push hp (.inl (t, x.toNatClampNeg, .inr (.inl (fun _ => 0)))) x.toNatClampNeg)
  | _ => none
def mj_nwq (t n : Nat) : mj_O := fun L st hp => match st with
  | .int x :: st => if x < 0 ∨ 65536 < x.toNatClampNeg then none else mj_nx n L (.ref hp.2.1 :: st) (mj_push hp (.inl (t, x.toNatClampNeg, .inr (.inr (.inr (.inr (fun _ => none)))))) x.toNatClampNeg)
  | _ => none
def mj_len (n : Nat) : mj_O := fun L st hp => match st with
  | .ref a :: st => match hp.1 a with
    | some (.inl (t, k, _)) => if t < mj_at.length ∨ t = mj_tag then mj_nx n L (.int (Int32.ofNat k) :: st) hp else none
    | _ => none
  | _ => none
def mj_iar (ty : FieldType) (n : Nat) : mj_O := fun L st hp => match st with
  | .int i :: .ref a :: st => match hp.1 a with
    | some (.inl (t, k, .inl f)) => if (mj_at[t]? = some ty ∨ (t = mj_tag ∧ ty = .int)) ∧ ¬ (i < 0 ∨ k ≤ i.toNatClampNeg) then mj_nx n L (.int (f i.toNatClampNeg) :: st) hp else none
    | _ => none
  | _ => none
def mj_lar (n : Nat) : mj_O := fun L st hp => match st with
  | .int i :: .ref a :: st => match hp.1 a with
    | some (.inl (t, k, .inr (.inl f))) => if mj_at[t]? = some .long ∧ ¬ (i < 0 ∨ k ≤ i.toNatClampNeg) then mj_nx n L (.long (f i.toNatClampNeg) :: st) hp else none
    | _ => none
  | _ => none
def mj_aar (n : Nat) : mj_O := fun L st hp => match st with
  | .int i :: .ref a :: st => match hp.1 a with
    | some (.inl (t, k, .inr (.inr (.inr (.inr f))))) => match mj_at[t]? with
      | some (.object _) => if ¬ (i < 0 ∨ k ≤ i.toNatClampNeg) then mj_nx n L (va_rf (f i.toNatClampNeg) :: st) hp else none
      | _ => none
    | _ => none
  | _ => none
def mj_iaw (ty : FieldType) (n : Nat) : mj_O := fun L st hp => match st with
  | .int x :: .int i :: .ref a :: st => match hp.1 a with
    | some (.inl (t, k, .inl f)) => if mj_at[t]? = some ty ∧ ¬ (i < 0 ∨ k ≤ i.toNatClampNeg) ∧ narrow ty (.int x) = .int x then mj_nx n L st (mj_up hp a (.inl (t, k, .inl (upd f i.toNatClampNeg x)))) else none
    | _ => none
  | _ => none
def mj_law (n : Nat) : mj_O := fun L st hp => match st with
  | .long x :: .int i :: .ref a :: st => match hp.1 a with
    | some (.inl (t, k, .inr (.inl f))) => if mj_at[t]? = some .long ∧ ¬ (i < 0 ∨ k ≤ i.toNatClampNeg) then mj_nx n L st (mj_up hp a (.inl (t, k, .inr (.inl (vp_updL f i.toNatClampNeg x))))) else none
    | _ => none
  | _ => none
/-- a reference comes into an array of its own class; or null -/
def mj_aaw (n : Nat) : mj_O := fun L st hp => match st with
  | .ref v :: .int i :: .ref a :: st => match hp.1 a, hp.1 v with
    | some (.inl (t, k, .inr (.inr (.inr (.inr f))))), some (.inr (ci, _)) => if mj_at[t]? = (mj_cl[ci]?).map (fun r => .object r.1) ∧ mj_cl[ci]?.isSome = true ∧ ¬ (i < 0 ∨ k ≤ i.toNatClampNeg) then mj_nx n L st (mj_up hp a (.inl (t, k, .inr (.inr (.inr (.inr (va_up f i.toNatClampNeg (some v)))))))) else none
    | _, _ => none
  | .null :: .int i :: .ref a :: st => match hp.1 a with
    | some (.inl (t, k, .inr (.inr (.inr (.inr f))))) => match mj_at[t]? with
      | some (.object _) => if ¬ (i < 0 ∨ k ≤ i.toNatClampNeg) then mj_nx n L st (mj_up hp a (.inl (t, k, .inr (.inr (.inr (.inr (va_up f i.toNatClampNeg none))))))) else none
      | _ => none
    | _ => none
  | _ => none
def mj_tk : Nat → List Value → List Value → Option (List Value × List Value)
  | 0, acc, st => some (acc, st)
  | _ + 1, _, [] => none
  | k + 1, acc, v :: st => mj_tk k (v :: acc) st
def mj_cat (st : List Value) : Nat := (st.map fun v => v.category).sum
def mj_ivs (m' na n : Nat) : mj_O := fun _ st _ => match mj_tk na [] st with
  | some (vs, rest) => if mj_cat rest ≤ 8 then some (.inr (.inl (m', vs, rest, n))) else none
  | none => none
def mj_ivv (m' na ci n : Nat) : mj_O := fun _ st hp => match mj_tk na [] st with
  | some (vs, .ref a :: rest) => match hp.1 a with
    | some (.inr (cj, _)) => if cj = ci ∧ mj_cat rest ≤ 8 then some (.inr (.inl (m', .ref a :: vs, rest, n))) else none
    | _ => none
  | _ => none
def mj_ivi (m' na n : Nat) : mj_O := fun _ st _ => match mj_tk na [] st with
  | some (vs, .ref a :: rest) => if mj_cat rest ≤ 8 then some (.inr (.inl (m', .ref a :: vs, rest, n))) else none
  | _ => none
/-- Object's constructor -/
def mj_ob (n : Nat) : mj_O := fun L st hp => match st with
  | .ref _ :: st => if mj_cat st ≤ 8 then mj_nx n L st hp else none
  | _ => none
def mj_rti (ty : FieldType) : mj_O := fun _ st _ => match st with
  | [.int v] => if narrow ty (.int v) = .int v then some (.inr (.inr (some (.int v)))) else none
  | _ => none
def mj_rtl : mj_O := fun _ st _ => match st with
  | [.long v] => some (.inr (.inr (some (.long v))))
  | _ => none
def mj_rta : mj_O := fun _ st _ => match st with
  | [.ref a] => some (.inr (.inr (some (.ref a))))
  | [.null] => some (.inr (.inr (some .null)))
  | _ => none
def mj_rtv : mj_O := fun _ st _ => match st with
  | [] => some (.inr (.inr none))
  | _ => none
/-- the locals with which a method begins -/
def mj_lay0 : List Value → mj_L
  | [] => []
  | v :: vs => if v.category = 2 then some v :: none :: mj_lay0 vs else some v :: mj_lay0 vs
def mj_lay (n : Nat) (vs : List Value) : mj_L := mj_lay0 vs ++ List.replicate (n - (mj_lay0 vs).length) none
def mj_find {α : Type} (t : List ((Nat × Nat) × α)) (o i : Nat) : Option α := (t.find? (fun r => r.1.1 == o && r.1.2 == i)).map (fun r => r.2)
def mj_b (pc : Nat) (off : Int) (f : Nat → mj_O) : mj_O := if 0 ≤ (pc : Int) + off then f ((pc : Int) + off).toNat else mj_no
def mj_bs (pc : Nat) (offs : List Int) : Bool := offs.all (fun off => decide (0 ≤ (pc : Int) + off))
/-- the length that each instruction has -/
def mj_ln : ClassFile.Instr → Nat
  | .bipush _ => 2
  | .sipush _ => 3
  | .ldc _ => 2
  | .ldc2_w _ => 3
  | .iload _ => 2
  | .lload _ => 2
  | .aload _ => 2
  | .istore _ => 2
  | .lstore _ => 2
  | .astore _ => 2
  | .iinc _ _ => 3
  | .ifCond _ _ => 3
  | .if_icmp _ _ => 3
  | .ifnull _ => 3
  | .ifnonnull _ => 3
  | .goto _ => 3
  | .getfield _ => 3
  | .putfield _ => 3
  | .new _ => 3
  | .newarray _ => 2
  | .anewarray _ => 3
  | .invokestatic _ => 3
  | .invokevirtual _ => 3
  | .invokespecial _ => 3
  | _ => 1
def mj_lok : ClassFile.Instr → Nat → Bool
  | .tableswitch _ _ _ _, _ => true
  | i, n => n == mj_ln i
/-- a call by its row: kinds 0 static, 1 static of a nest mate, 2 virtual, 3 virtual of a nest mate, 4 constructor, 5 Object's constructor -/
def mj_inv (m m' kd n : Nat) : mj_O := if kd = 5 then (if 1 ≤ mj_hgt m ∧ 20 ≤ mj_lr m then mj_ob n else mj_no) else if mj_hgt m' < mj_hgt m ∧ mj_lr m' + mj_mxl m' + 19 ≤ mj_lr m then (if kd ≤ 1 then mj_ivs m' (mj_na m') n else if kd ≤ 3 then mj_ivv m' (mj_na m') (mj_ci m') n else if kd = 4 then mj_ivi m' (mj_na m') n else mj_no) else mj_no
def mj_ex (m : Nat) (i : ClassFile.Instr) (pc : Nat) : mj_O := match i with
  | .aconst_null => mj_cst .null (pc + 1)
  | .iconst n => mj_cst (.int (Int32.ofInt n)) (pc + 1)
  | .bipush n => mj_cst (.int (Int8.ofInt n).toInt32) (pc + 2)
  | .sipush n => mj_cst (.int (Int16.ofInt n).toInt32) (pc + 3)
  | .lconst n => mj_cst (.long (Int64.ofNat (n : Nat))) (pc + 1)
  | .ldc x => match mj_find mj_kl (mj_on m) x with
    | some (.int v) => mj_cst (.int v) (pc + 2)
    | _ => mj_no
  | .ldc2_w x => match mj_find mj_kl (mj_on m) x with
    | some (.long v) => mj_cst (.long v) (pc + 3)
    | _ => mj_no
  | .iload i => mj_ild i (pc + 2)
  | .iload_n k => mj_ild (k : Nat) (pc + 1)
  | .lload i => mj_lld i (pc + 2)
  | .lload_n k => mj_lld (k : Nat) (pc + 1)
  | .aload i => mj_ald i (pc + 2)
  | .aload_n k => mj_ald (k : Nat) (pc + 1)
  | .istore i => mj_ist i (pc + 2)
  | .istore_n k => mj_ist (k : Nat) (pc + 1)
  | .lstore i => mj_lst i (pc + 2)
  | .lstore_n k => mj_lst (k : Nat) (pc + 1)
  | .astore i => mj_ast i (pc + 2)
  | .astore_n k => mj_ast (k : Nat) (pc + 1)
  | .iinc i n => mj_inc i (Int32.ofInt n) (pc + 3)
  | .iadd => mj_ii (fun x y => x + y) (pc + 1)
  | .isub => mj_ii (fun x y => x - y) (pc + 1)
  | .imul => mj_ii (fun x y => x * y) (pc + 1)
  | .iand => mj_ii (fun x y => x &&& y) (pc + 1)
  | .ior => mj_ii (fun x y => x ||| y) (pc + 1)
  | .ixor => mj_ii (fun x y => x ^^^ y) (pc + 1)
  | .ishl => mj_ii (fun x y => x <<< (y &&& 31)) (pc + 1)
  | .ishr => mj_ii (fun x y => x >>> (y &&& 31)) (pc + 1)
  | .iushr => mj_ii (fun x y => (x.toUInt32 >>> (y.toUInt32 &&& Int32.toUInt32 31)).toInt32) (pc + 1)
  | .idiv => mj_iz (fun x y => x / y) (pc + 1)
  | .irem => mj_iz (fun x y => x - x / y * y) (pc + 1)
  | .ineg => mj_i1 (fun x => -x) (pc + 1)
  | .ladd => mj_ll (fun x y => x + y) (pc + 1)
  | .lsub => mj_ll (fun x y => x - y) (pc + 1)
  | .lmul => mj_ll (fun x y => x * y) (pc + 1)
  | .land => mj_ll (fun x y => x &&& y) (pc + 1)
  | .lor => mj_ll (fun x y => x ||| y) (pc + 1)
  | .lxor => mj_ll (fun x y => x ^^^ y) (pc + 1)
  | .lneg => mj_l1 (fun x => -x) (pc + 1)
  | .lshl => mj_li (fun x y => x <<< (y.toInt64 &&& 63)) (pc + 1)
  | .lshr => mj_li (fun x y => x >>> (y.toInt64 &&& 63)) (pc + 1)
  | .lushr => mj_li (fun x y => (x.toUInt64 >>> (y.toInt64.toUInt64 &&& Int64.toUInt64 63)).toInt64) (pc + 1)
  | .i2l => mj_i2l (pc + 1)
  | .l2i => mj_l2i (pc + 1)
  | .lcmp => mj_lcm (pc + 1)
  | .ifCond .eq off => mj_b pc off fun t => mj_if (fun x => decide (x = 0)) t (pc + 3)
  | .ifCond .ne off => mj_b pc off fun t => mj_if (fun x => decide (¬ x = 0)) t (pc + 3)
  | .ifCond .lt off => mj_b pc off fun t => mj_if (fun x => decide (x < 0)) t (pc + 3)
  | .ifCond .ge off => mj_b pc off fun t => mj_if (fun x => decide (0 ≤ x)) t (pc + 3)
  | .ifCond .gt off => mj_b pc off fun t => mj_if (fun x => decide (0 < x)) t (pc + 3)
  | .ifCond .le off => mj_b pc off fun t => mj_if (fun x => decide (x ≤ 0)) t (pc + 3)
  | .if_icmp .eq off => mj_b pc off fun t => mj_ic (fun x y => decide (x = y)) t (pc + 3)
  | .if_icmp .ne off => mj_b pc off fun t => mj_ic (fun x y => decide (¬ x = y)) t (pc + 3)
  | .if_icmp .lt off => mj_b pc off fun t => mj_ic (fun x y => decide (x < y)) t (pc + 3)
  | .if_icmp .ge off => mj_b pc off fun t => mj_ic (fun x y => decide (y ≤ x)) t (pc + 3)
  | .if_icmp .gt off => mj_b pc off fun t => mj_ic (fun x y => decide (y < x)) t (pc + 3)
  | .if_icmp .le off => mj_b pc off fun t => mj_ic (fun x y => decide (x ≤ y)) t (pc + 3)
  | .ifnull off => mj_b pc off fun t => mj_ifn t (pc + 3)
  | .ifnonnull off => mj_b pc off fun t => mj_ifn (pc + 3) t
  | .goto off => mj_b pc off fun t => mj_go t
  | .tableswitch d lo hi offs => if mj_bs pc (d :: offs.toList) = true then mj_tsw lo hi ((pc : Int) + d).toNat (offs.toList.map fun o => ((pc : Int) + o).toNat) else mj_no
  | .dup => mj_dup (pc + 1)
  | .pop => mj_pop (pc + 1)
  | .dup_x1 => mj_dx1 (pc + 1)
  | .dup_x2 => mj_dx2 (pc + 1)
  | .dup2 => mj_d2 (pc + 1)
  | .dup2_x1 => mj_d21 (pc + 1)
  | .getfield x => match mj_find mj_fl (mj_on m) x with
    | some (ci, k) => mj_get ci k (pc + 3)
    | none => mj_no
  | .putfield x => match mj_find mj_fl (mj_on m) x with
    | some (ci, k) => if mj_fin ci k = false ∨ ((mj_y m).name = "<init>" ∧ mj_fown ci k = mj_own m) then mj_put ci k (mj_ty ci k) (pc + 3) else mj_no
    | none => mj_no
  | .new x => match mj_find mj_nl (mj_on m) x with
    | some ci => mj_nw ci (mj_N ci) (mj_def ci) (pc + 3)
    | none => mj_no
  | .newarray .int => if mj_at[mj_ti]? = some .int then mj_nwi mj_ti (pc + 2) else mj_no
  | .newarray .boolean => if mj_at[mj_tz]? = some .boolean then mj_nwi mj_tz (pc + 2) else mj_no
  | .newarray .long => if mj_at[mj_tl]? = some .long then mj_nwl mj_tl (pc + 2) else mj_no
  | .anewarray x => match mj_find mj_ql (mj_on m) x with
    | some t => mj_nwq t (pc + 3)
    | none => mj_no
  | .arraylength => mj_len (pc + 1)
  | .iaload => mj_iar .int (pc + 1)
  | .baload => mj_iar .boolean (pc + 1)
  | .laload => mj_lar (pc + 1)
  | .aaload => mj_aar (pc + 1)
  | .iastore => mj_iaw .int (pc + 1)
  | .bastore => mj_iaw .boolean (pc + 1)
  | .lastore => mj_law (pc + 1)
  | .aastore => mj_aaw (pc + 1)
  | .invokestatic x => match mj_find mj_ml (mj_on m) x with
    | some (m', kd) => if kd ≤ 1 then mj_inv m m' kd (pc + 3) else mj_no
    | none => mj_no
  | .invokevirtual x => match mj_find mj_ml (mj_on m) x with
    | some (m', kd) => if 2 ≤ kd ∧ kd ≤ 3 then mj_inv m m' kd (pc + 3) else mj_no
    | none => mj_no
  | .invokespecial x => match mj_find mj_ml (mj_on m) x with
    | some (m', kd) => if 4 ≤ kd then mj_inv m m' kd (pc + 3) else mj_no
    | none => mj_no
  | .ireturn => match mj_ret m with
    | some ty => mj_rti ty
    | none => mj_no
  | .lreturn => if mj_ret m = some .long then mj_rtl else mj_no
  | .areturn => match mj_ret m with
    | some (.object _) => mj_rta
    | some (.array _) => mj_rta
    | _ => mj_no
  | .return_ => if mj_ret m = none then mj_rtv else mj_no
  | _ => mj_no
def mj_step (m pc : Nat) : mj_O := match decode (mj_code m) pc with
  | .ok (i, len) => if mj_lok i len = true then mj_ex m i pc else mj_no
  | .error _ => mj_no
theorem mj_step_of {m pc len : Nat} {i : ClassFile.Instr} (h : decode (mj_code m) pc = .ok (i, len)) (hl : mj_lok i len = true) : mj_step m pc = mj_ex m i pc := by
  unfold mj_step
  rw [h]
  simp [hl]
theorem mj_step_inv {m pc : Nat} {L : mj_L} {st : List Value} {hp : mj_H} {r} (h : mj_step m pc L st hp = some r) : ∃ i len, decode (mj_code m) pc = .ok (i, len) ∧ mj_lok i len = true ∧ mj_ex m i pc L st hp = some r := by
  unfold mj_step at h
  cases hd : decode (mj_code m) pc with
  | error x => rw [hd] at h; simp [mj_no] at h
  | ok q =>
    obtain ⟨i, len⟩ := q
    rw [hd] at h
    by_cases hl : mj_lok i len = true
    · simp only [hl, if_true] at h
      exact ⟨i, len, rfl, hl, h⟩
    · simp [hl, mj_no] at h
def mj_run : Nat → Nat → Nat → mj_L → List Value → mj_H → Option (Option Value × mj_H)
  | 0, _, _, _, _, _ => none
  | f + 1, m, pc, L, st, hp => match mj_step m pc L st hp with
    | none => none
    | some (.inl (pc', L', st', hp')) => mj_run f m pc' L' st' hp'
    | some (.inr (.inl (m', vs, rest, n))) => if (mj_lay0 vs).length ≤ mj_mxl m' then (match mj_run f m' 0 (mj_lay (mj_mxl m') vs) [] hp with
      | none => none
      | some (r, hp') => mj_run f m n L (r.toList ++ rest) hp') else none
    | some (.inr (.inr r)) => some (r, hp)
theorem mj_run_mono : ∀ (f m pc : Nat) (L : mj_L) (st : List Value) (hp : mj_H) (x : Option Value × mj_H), mj_run f m pc L st hp = some x → mj_run (f + 1) m pc L st hp = some x := by
  intro f
  induction f with
  | zero => intro m pc L st hp x h; simp [mj_run] at h
  | succ f ih =>
    intro m pc L st hp x h
    rw [mj_run] at h ⊢
    cases hs : mj_step m pc L st hp with
    | none => simp [hs] at h
    | some q =>
      rw [hs] at h
      rcases q with ⟨pc', L', st', hp'⟩ | ⟨m', vs, rest, n⟩ | r
      · exact ih _ _ _ _ _ _ h
      · dsimp only at h ⊢
        by_cases hl : (mj_lay0 vs).length ≤ mj_mxl m'
        · rw [if_pos hl] at h ⊢
          cases hr : mj_run f m' 0 (mj_lay (mj_mxl m') vs) [] hp with
          | none => simp [hr] at h
          | some y =>
            obtain ⟨r, hp'⟩ := y
            rw [hr] at h
            rw [ih _ _ _ _ _ _ hr]
            exact ih _ _ _ _ _ _ h
        · rw [if_neg hl] at h; cases h
      · exact h
theorem mj_run_le {f g m pc : Nat} {L : mj_L} {st : List Value} {hp : mj_H} {x : Option Value × mj_H} (hfg : f ≤ g) (h : mj_run f m pc L st hp = some x) : mj_run g m pc L st hp = some x := by
  induction hfg with
  | refl => exact h
  | step _ ih => exact mj_run_mono _ _ _ _ _ _ _ ih
abbrev mj_Q : Type := Option Value → mj_H → Prop
def mj_wp (m pc : Nat) (L : mj_L) (st : List Value) (hp : mj_H) (Q : mj_Q) : Prop := ∃ (f : Nat) (r : Option Value) (hp' : mj_H), mj_run f m pc L st hp = some (r, hp') ∧ Q r hp'
def mj_call (m' : Nat) (vs : List Value) (hp : mj_H) (Q : mj_Q) : Prop := (mj_lay0 vs).length ≤ mj_mxl m' ∧ mj_wp m' 0 (mj_lay (mj_mxl m') vs) [] hp Q
def mj_wpR (m : Nat) (L : mj_L) (hp : mj_H) (Q : mj_Q) (r : mj_R) : Prop := match r with
  | none => False
  | some (.inl (pc', L', st', hp')) => mj_wp m pc' L' st' hp' Q
  | some (.inr (.inl (m', vs, rest, n))) => mj_call m' vs hp (fun r hp' => mj_wp m n L (r.toList ++ rest) hp' Q)
  | some (.inr (.inr r)) => Q r hp
theorem mj_wp_eq (m pc : Nat) (L : mj_L) (st : List Value) (hp : mj_H) (Q : mj_Q) : mj_wp m pc L st hp Q = mj_wpR m L hp Q (mj_step m pc L st hp) := by
  apply propext
  constructor
  · rintro ⟨f, r, hp', h, hq⟩
    cases f with
    | zero => simp [mj_run] at h
    | succ f =>
      rw [mj_run] at h
      cases hs : mj_step m pc L st hp with
      | none => simp [hs] at h
      | some q =>
        rw [hs] at h
        rcases q with ⟨pc', L', st', hp2⟩ | ⟨m', vs, rest, n⟩ | r'
        · exact ⟨f, r, hp', h, hq⟩
        · dsimp only at h
          by_cases hl : (mj_lay0 vs).length ≤ mj_mxl m'
          · rw [if_pos hl] at h
            cases hr : mj_run f m' 0 (mj_lay (mj_mxl m') vs) [] hp with
            | none => simp [hr] at h
            | some y =>
              obtain ⟨r1, hp1⟩ := y
              rw [hr] at h
              exact ⟨hl, f, r1, hp1, hr, f, r, hp', h, hq⟩
          · rw [if_neg hl] at h; cases h
        · cases h
          exact hq
  · intro h
    cases hs : mj_step m pc L st hp with
    | none => rw [hs] at h; exact h.elim
    | some q =>
      rw [hs] at h
      rcases q with ⟨pc', L', st', hp2⟩ | ⟨m', vs, rest, n⟩ | r'
      · obtain ⟨f, r, hp', h1, h2⟩ := h
        refine ⟨f + 1, r, hp', ?_, h2⟩
        rw [mj_run, hs]
        exact h1
      · obtain ⟨hl, f, r1, hp1, hr, f2, r, hp', h1, h2⟩ := h
        refine ⟨f + f2 + 1, r, hp', ?_, h2⟩
        rw [mj_run, hs]
        dsimp only
        rw [if_pos hl, mj_run_le (Nat.le_add_right f f2) hr]
        exact mj_run_le (Nat.le_add_left f2 f) h1
      · refine ⟨1, r', hp, ?_, h⟩
        rw [mj_run, hs]
theorem mj_wp_of {m pc : Nat} {o : mj_O} (h : mj_step m pc = o) (L : mj_L) (st : List Value) (hp : mj_H) (Q : mj_Q) : mj_wp m pc L st hp Q = mj_wpR m L hp Q (o L st hp) := by
  rw [mj_wp_eq, h]
theorem mj_wp_imp {m pc : Nat} {L : mj_L} {st : List Value} {hp : mj_H} {Q Q' : mj_Q} (h : mj_wp m pc L st hp Q) (hq : ∀ r hp', Q r hp' → Q' r hp') : mj_wp m pc L st hp Q' := by
  obtain ⟨f, r, hp', h1, h2⟩ := h
  exact ⟨f, r, hp', h1, hq r hp' h2⟩
theorem mj_call_imp {m : Nat} {vs : List Value} {hp : mj_H} {Q Q' : mj_Q} (h : mj_call m vs hp Q) (hq : ∀ r hp', Q r hp' → Q' r hp') : mj_call m vs hp Q' := ⟨h.1, mj_wp_imp h.2 hq⟩
end
