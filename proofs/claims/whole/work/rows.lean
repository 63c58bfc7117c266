section
-- ===== PART A: goes FIRST, ahead of the names: the tables' words, and 'selects' of the private methods out of them =====
/-- a private method of a class that the tables say can be made, by its rows of tables_1 -/
def lw_okq (q : MethodName × Nat) : Prop := (q.1.cls ≠ "java/lang/invoke/MethodHandle" ∧ q.1.cls ≠ "java/lang/invoke/VarHandle") ∧ Cond.instantiable q.1.cls q.2 ∈ tables_1 ∧ Cond.privateMethod q.1 ∈ tables_1 ∧ Cond.instanceMethod q.1 ∈ tables_1
theorem lw_p0 : lw_okq (⟨"CallRows", "programOf", "(I)LCallRows$Program;"⟩, 12) := ⟨⟨by decide +kernel, by decide +kernel⟩, List.mem_of_getElem? (i := 11) (by decide +kernel), List.mem_of_getElem? (i := 114) (by decide +kernel), List.mem_of_getElem? (i := 115) (by decide +kernel)⟩
theorem lw_p1 : lw_okq (⟨"CallRows", "directlyWithin", "(LCallRows$Program;I)LCallRows$Program;"⟩, 12) := ⟨⟨by decide +kernel, by decide +kernel⟩, List.mem_of_getElem? (i := 11) (by decide +kernel), List.mem_of_getElem? (i := 121) (by decide +kernel), List.mem_of_getElem? (i := 122) (by decide +kernel)⟩
theorem lw_p2 : lw_okq (⟨"CallRows", "newCell", "(LCallRows$Program;J)I"⟩, 12) := ⟨⟨by decide +kernel, by decide +kernel⟩, List.mem_of_getElem? (i := 11) (by decide +kernel), List.mem_of_getElem? (i := 167) (by decide +kernel), List.mem_of_getElem? (i := 168) (by decide +kernel)⟩
theorem lw_p3 : lw_okq (⟨"CallRows", "placeOf", "(I)I"⟩, 12) := ⟨⟨by decide +kernel, by decide +kernel⟩, List.mem_of_getElem? (i := 11) (by decide +kernel), List.mem_of_getElem? (i := 171) (by decide +kernel), List.mem_of_getElem? (i := 172) (by decide +kernel)⟩
theorem lw_p4 : lw_okq (⟨"CallRows", "found", "(LCallRows$Program;I)LCallRows$Program;"⟩, 12) := ⟨⟨by decide +kernel, by decide +kernel⟩, List.mem_of_getElem? (i := 11) (by decide +kernel), List.mem_of_getElem? (i := 186) (by decide +kernel), List.mem_of_getElem? (i := 187) (by decide +kernel)⟩
theorem lw_p5 : lw_okq (⟨"CallRows", "commonAround", "(LCallRows$Program;I)LCallRows$Program;"⟩, 12) := ⟨⟨by decide +kernel, by decide +kernel⟩, List.mem_of_getElem? (i := 11) (by decide +kernel), List.mem_of_getElem? (i := 197) (by decide +kernel), List.mem_of_getElem? (i := 198) (by decide +kernel)⟩
theorem lw_p6 : lw_okq (⟨"CallRows", "holderOf", "(I)LCallRows$Level;"⟩, 12) := ⟨⟨by decide +kernel, by decide +kernel⟩, List.mem_of_getElem? (i := 11) (by decide +kernel), List.mem_of_getElem? (i := 216) (by decide +kernel), List.mem_of_getElem? (i := 217) (by decide +kernel)⟩
theorem lw_p7 : lw_okq (⟨"CallRows", "dataOf", "(LCallRows$Program;)LCallRows$Level;"⟩, 12) := ⟨⟨by decide +kernel, by decide +kernel⟩, List.mem_of_getElem? (i := 11) (by decide +kernel), List.mem_of_getElem? (i := 223) (by decide +kernel), List.mem_of_getElem? (i := 224) (by decide +kernel)⟩
theorem lw_p8 : lw_okq (⟨"CallRows", "bytesOf", "(I)I"⟩, 12) := ⟨⟨by decide +kernel, by decide +kernel⟩, List.mem_of_getElem? (i := 11) (by decide +kernel), List.mem_of_getElem? (i := 227) (by decide +kernel), List.mem_of_getElem? (i := 228) (by decide +kernel)⟩
theorem lw_p9 : lw_okq (⟨"CallRows", "giveFirstValues", "(LCallRows$Program;)V"⟩, 12) := ⟨⟨by decide +kernel, by decide +kernel⟩, List.mem_of_getElem? (i := 11) (by decide +kernel), List.mem_of_getElem? (i := 257) (by decide +kernel), List.mem_of_getElem? (i := 258) (by decide +kernel)⟩
theorem lw_p10 : lw_okq (⟨"CallRows", "unusedBits", "(I)I"⟩, 12) := ⟨⟨by decide +kernel, by decide +kernel⟩, List.mem_of_getElem? (i := 11) (by decide +kernel), List.mem_of_getElem? (i := 266) (by decide +kernel), List.mem_of_getElem? (i := 267) (by decide +kernel)⟩
theorem lw_p11 : lw_okq (⟨"CallRows", "anyActiveOf", "(LCallRows$Program;)Z"⟩, 12) := ⟨⟨by decide +kernel, by decide +kernel⟩, List.mem_of_getElem? (i := 11) (by decide +kernel), List.mem_of_getElem? (i := 278) (by decide +kernel), List.mem_of_getElem? (i := 279) (by decide +kernel)⟩
theorem lw_p12 : lw_okq (⟨"CallRows", "makeFresh", "(LCallRows$Program;)I"⟩, 12) := ⟨⟨by decide +kernel, by decide +kernel⟩, List.mem_of_getElem? (i := 11) (by decide +kernel), List.mem_of_getElem? (i := 282) (by decide +kernel), List.mem_of_getElem? (i := 283) (by decide +kernel)⟩
theorem lw_p13 : lw_okq (⟨"java/lang/Throwable", "fillInStackTrace", "(I)Ljava/lang/Throwable;"⟩, 6) := ⟨⟨by decide +kernel, by decide +kernel⟩, List.mem_of_getElem? (i := 349) (by decide +kernel), List.mem_of_getElem? (i := 347) (by decide +kernel), List.mem_of_getElem? (i := 348) (by decide +kernel)⟩
theorem lw_p14 : lw_okq (⟨"CallRowsModel", "directly", "(II)I"⟩, 29) := ⟨⟨by decide +kernel, by decide +kernel⟩, List.mem_of_getElem? (i := 379) (by decide +kernel), List.mem_of_getElem? (i := 487) (by decide +kernel), List.mem_of_getElem? (i := 488) (by decide +kernel)⟩
theorem lw_p15 : lw_okq (⟨"CallRowsModel", "isProgram", "(I)Z"⟩, 29) := ⟨⟨by decide +kernel, by decide +kernel⟩, List.mem_of_getElem? (i := 379) (by decide +kernel), List.mem_of_getElem? (i := 495) (by decide +kernel), List.mem_of_getElem? (i := 496) (by decide +kernel)⟩
def lw_privs_1 : List (MethodName × Nat) := [(⟨"CallRows", "programOf", "(I)LCallRows$Program;"⟩, 12), (⟨"CallRows", "directlyWithin", "(LCallRows$Program;I)LCallRows$Program;"⟩, 12), (⟨"CallRows", "newCell", "(LCallRows$Program;J)I"⟩, 12), (⟨"CallRows", "placeOf", "(I)I"⟩, 12), (⟨"CallRows", "found", "(LCallRows$Program;I)LCallRows$Program;"⟩, 12), (⟨"CallRows", "commonAround", "(LCallRows$Program;I)LCallRows$Program;"⟩, 12), (⟨"CallRows", "holderOf", "(I)LCallRows$Level;"⟩, 12), (⟨"CallRows", "dataOf", "(LCallRows$Program;)LCallRows$Level;"⟩, 12), (⟨"CallRows", "bytesOf", "(I)I"⟩, 12), (⟨"CallRows", "giveFirstValues", "(LCallRows$Program;)V"⟩, 12), (⟨"CallRows", "unusedBits", "(I)I"⟩, 12), (⟨"CallRows", "anyActiveOf", "(LCallRows$Program;)Z"⟩, 12), (⟨"CallRows", "makeFresh", "(LCallRows$Program;)I"⟩, 12), (⟨"java/lang/Throwable", "fillInStackTrace", "(I)Ljava/lang/Throwable;"⟩, 6), (⟨"CallRowsModel", "directly", "(II)I"⟩, 29), (⟨"CallRowsModel", "isProgram", "(I)Z"⟩, 29)]
theorem lw_r1 : ∀ q ∈ lw_privs_1, lw_okq q := List.forall_mem_cons.mpr ⟨lw_p0, List.forall_mem_cons.mpr ⟨lw_p1, List.forall_mem_cons.mpr ⟨lw_p2, List.forall_mem_cons.mpr ⟨lw_p3, List.forall_mem_cons.mpr ⟨lw_p4, List.forall_mem_cons.mpr ⟨lw_p5, List.forall_mem_cons.mpr ⟨lw_p6, List.forall_mem_cons.mpr ⟨lw_p7, List.forall_mem_cons.mpr ⟨lw_p8, List.forall_mem_cons.mpr ⟨lw_p9, List.forall_mem_cons.mpr ⟨lw_p10, List.forall_mem_cons.mpr ⟨lw_p11, List.forall_mem_cons.mpr ⟨lw_p12, List.forall_mem_cons.mpr ⟨lw_p13, List.forall_mem_cons.mpr ⟨lw_p14, List.forall_mem_cons.mpr ⟨lw_p15, fun _ h => absurd h List.not_mem_nil⟩⟩⟩⟩⟩⟩⟩⟩⟩⟩⟩⟩⟩⟩⟩⟩
theorem lw_p16 : lw_okq (⟨"CallRowsModel", "place", "(I)I"⟩, 29) := ⟨⟨by decide +kernel, by decide +kernel⟩, List.mem_of_getElem? (i := 379) (by decide +kernel), List.mem_of_getElem? (i := 511) (by decide +kernel), List.mem_of_getElem? (i := 512) (by decide +kernel)⟩
theorem lw_p17 : lw_okq (⟨"CallRowsModel", "running", "()I"⟩, 29) := ⟨⟨by decide +kernel, by decide +kernel⟩, List.mem_of_getElem? (i := 379) (by decide +kernel), List.mem_of_getElem? (i := 515) (by decide +kernel), List.mem_of_getElem? (i := 516) (by decide +kernel)⟩
theorem lw_p18 : lw_okq (⟨"CallRowsModel", "is", "(II)Z"⟩, 29) := ⟨⟨by decide +kernel, by decide +kernel⟩, List.mem_of_getElem? (i := 379) (by decide +kernel), List.mem_of_getElem? (i := 520) (by decide +kernel), List.mem_of_getElem? (i := 521) (by decide +kernel)⟩
theorem lw_p19 : lw_okq (⟨"CallRowsModel", "liesIn", "(II)Z"⟩, 29) := ⟨⟨by decide +kernel, by decide +kernel⟩, List.mem_of_getElem? (i := 379) (by decide +kernel), List.mem_of_getElem? (i := 524) (by decide +kernel), List.mem_of_getElem? (i := 525) (by decide +kernel)⟩
theorem lw_p20 : lw_okq (⟨"CallRowsModel", "bytesOf", "(I)I"⟩, 29) := ⟨⟨by decide +kernel, by decide +kernel⟩, List.mem_of_getElem? (i := 379) (by decide +kernel), List.mem_of_getElem? (i := 528) (by decide +kernel), List.mem_of_getElem? (i := 529) (by decide +kernel)⟩
theorem lw_p21 : lw_okq (⟨"CallRowsModel", "store", "(IIJ)V"⟩, 29) := ⟨⟨by decide +kernel, by decide +kernel⟩, List.mem_of_getElem? (i := 379) (by decide +kernel), List.mem_of_getElem? (i := 532) (by decide +kernel), List.mem_of_getElem? (i := 533) (by decide +kernel)⟩
theorem lw_p22 : lw_okq (⟨"CallRowsModel", "unprepare", "()V"⟩, 29) := ⟨⟨by decide +kernel, by decide +kernel⟩, List.mem_of_getElem? (i := 379) (by decide +kernel), List.mem_of_getElem? (i := 547) (by decide +kernel), List.mem_of_getElem? (i := 548) (by decide +kernel)⟩
theorem lw_p23 : lw_okq (⟨"CallRowsModel", "isFrom", "(II)Z"⟩, 29) := ⟨⟨by decide +kernel, by decide +kernel⟩, List.mem_of_getElem? (i := 379) (by decide +kernel), List.mem_of_getElem? (i := 551) (by decide +kernel), List.mem_of_getElem? (i := 552) (by decide +kernel)⟩
theorem lw_p24 : lw_okq (⟨"CallRowsModel", "find", "(II)I"⟩, 29) := ⟨⟨by decide +kernel, by decide +kernel⟩, List.mem_of_getElem? (i := 379) (by decide +kernel), List.mem_of_getElem? (i := 555) (by decide +kernel), List.mem_of_getElem? (i := 556) (by decide +kernel)⟩
theorem lw_p25 : lw_okq (⟨"CallRowsModel", "copy", "(J)I"⟩, 29) := ⟨⟨by decide +kernel, by decide +kernel⟩, List.mem_of_getElem? (i := 379) (by decide +kernel), List.mem_of_getElem? (i := 563) (by decide +kernel), List.mem_of_getElem? (i := 564) (by decide +kernel)⟩
theorem lw_p26 : lw_okq (⟨"CallRowsModel", "refusal", "()I"⟩, 29) := ⟨⟨by decide +kernel, by decide +kernel⟩, List.mem_of_getElem? (i := 379) (by decide +kernel), List.mem_of_getElem? (i := 571) (by decide +kernel), List.mem_of_getElem? (i := 572) (by decide +kernel)⟩
def lw_privs_2 : List (MethodName × Nat) := [(⟨"CallRowsModel", "place", "(I)I"⟩, 29), (⟨"CallRowsModel", "running", "()I"⟩, 29), (⟨"CallRowsModel", "is", "(II)Z"⟩, 29), (⟨"CallRowsModel", "liesIn", "(II)Z"⟩, 29), (⟨"CallRowsModel", "bytesOf", "(I)I"⟩, 29), (⟨"CallRowsModel", "store", "(IIJ)V"⟩, 29), (⟨"CallRowsModel", "unprepare", "()V"⟩, 29), (⟨"CallRowsModel", "isFrom", "(II)Z"⟩, 29), (⟨"CallRowsModel", "find", "(II)I"⟩, 29), (⟨"CallRowsModel", "copy", "(J)I"⟩, 29), (⟨"CallRowsModel", "refusal", "()I"⟩, 29)]
theorem lw_r2 : ∀ q ∈ lw_privs_2, lw_okq q := List.forall_mem_cons.mpr ⟨lw_p16, List.forall_mem_cons.mpr ⟨lw_p17, List.forall_mem_cons.mpr ⟨lw_p18, List.forall_mem_cons.mpr ⟨lw_p19, List.forall_mem_cons.mpr ⟨lw_p20, List.forall_mem_cons.mpr ⟨lw_p21, List.forall_mem_cons.mpr ⟨lw_p22, List.forall_mem_cons.mpr ⟨lw_p23, List.forall_mem_cons.mpr ⟨lw_p24, List.forall_mem_cons.mpr ⟨lw_p25, List.forall_mem_cons.mpr ⟨lw_p26, fun _ h => absurd h List.not_mem_nil⟩⟩⟩⟩⟩⟩⟩⟩⟩⟩⟩
def lw_privs : List (MethodName × Nat) := lw_privs_1 ++ (lw_privs_2)
def lw_tbl : List Cond := k2_sels lw_privs ++ tables_1
theorem lw_privs_ok : ∀ q ∈ lw_privs, lw_okq q := by
  show ∀ q ∈ lw_privs_1 ++ (lw_privs_2), lw_okq q
  exact List.forall_mem_append.mpr ⟨lw_r1, lw_r2⟩
/-- the words that every method of mine takes: all good ones of the tables -/
def gU : List Cond := lw_tbl.filter goodWord
theorem gU_of {w : Cond} (i : Nat) (h : tables_1[i]? = some w) (hg : goodWord w = true) : w ∈ gU := List.mem_filter.mpr ⟨List.mem_append_right _ (List.mem_of_getElem? h), hg⟩
theorem gU_sel {q : MethodName × Nat} (i : Nat) (h : lw_privs[i]? = some q) (hg : goodWord (Cond.selects q.1.cls q.1 q.1) = true) : Cond.selects q.1.cls q.1 q.1 ∈ gU := List.mem_filter.mpr ⟨List.mem_append_left _ (List.mem_map.mpr ⟨q, List.mem_of_getElem? h, rfl⟩), hg⟩
theorem gU_good {cx cy : Cond} (h : cy ∈ gU) : GoodIn (cx :: gU) (cy :: gU) := by
  intro w hw
  have hw : w ∈ gU := by
    rcases List.mem_cons.mp hw with rfl | hw
    · exact h
    · exact hw
  exact ⟨List.mem_cons_of_mem _ hw, good_of_word (List.mem_filter.mp hw).2⟩
theorem gU_tbl : ∀ w ∈ gU, w ∈ lw_tbl := fun _ h => (List.mem_filter.mp h).1
theorem gU_goodT {cy : Cond} (h : cy ∈ gU) : GoodIn gU (cy :: gU) := by
  intro w hw
  have hw : w ∈ gU := by
    rcases List.mem_cons.mp hw with rfl | hw
    · exact h
    · exact hw
  exact ⟨hw, good_of_word (List.mem_filter.mp hw).2⟩
end
section
theorem uw_0 : (Jvm.Cond.initialized "CallRowsLaw") ∈ gU := gU_of 0 (by decide +kernel) rfl
theorem uw_1 : (Jvm.Cond.initialized "CallRows") ∈ gU := gU_of 1 (by decide +kernel) rfl
theorem uw_2 : (Jvm.Cond.initialized "CallRows$Level") ∈ gU := gU_of 2 (by decide +kernel) rfl
theorem uw_3 : (Jvm.Cond.initialized "java/lang/Math") ∈ gU := gU_of 3 (by decide +kernel) rfl
theorem uw_4 : (Jvm.Cond.initialized "CallRowsModel") ∈ gU := gU_of 4 (by decide +kernel) rfl
theorem uw_5 : (Jvm.Cond.initialized "CallRows$Program") ∈ gU := gU_of 5 (by decide +kernel) rfl
theorem uw_10 : (Jvm.Cond.classLink "CallRowsLaw" (8 : Nat) "CallRows") ∈ gU := gU_of 10 (by decide +kernel) rfl
theorem uw_11 : (Jvm.Cond.instantiable "CallRows" (12 : Nat)) ∈ gU := gU_of 11 (by decide +kernel) rfl
theorem uw_12 : (Jvm.Cond.methodLink "CallRowsLaw" (21 : Nat) ({ cls := "CallRows", name := "<init>", desc := "(I)V" } : Jvm.MethodName)) ∈ gU := gU_of 12 (by decide +kernel) rfl
theorem uw_13 : (Jvm.Cond.instanceMethod ({ cls := "CallRows", name := "<init>", desc := "(I)V" } : Jvm.MethodName)) ∈ gU := gU_of 13 (by decide +kernel) rfl
theorem uw_14 : (Jvm.Cond.code ({ cls := "CallRows", name := "<init>", desc := "(I)V" } : Jvm.MethodName) prog_1_method_1_code (3 : Nat) (Option.none : Option Jvm.ClassFile.FieldType)) ∈ gU := gU_of 14 (by decide +kernel) rfl
theorem uw_15 : (Jvm.Cond.methodLink "CallRows" (1 : Nat) ({ cls := "java/lang/Object", name := "<init>", desc := "()V" } : Jvm.MethodName)) ∈ gU := gU_of 15 (by decide +kernel) rfl
theorem uw_16 : (Jvm.Cond.instanceMethod ({ cls := "java/lang/Object", name := "<init>", desc := "()V" } : Jvm.MethodName)) ∈ gU := gU_of 16 (by decide +kernel) rfl
theorem uw_17 : (Jvm.Cond.code ({ cls := "java/lang/Object", name := "<init>", desc := "()V" } : Jvm.MethodName) object_method_1_code (1 : Nat) (Option.none : Option Jvm.ClassFile.FieldType)) ∈ gU := gU_of 17 (by decide +kernel) rfl
theorem uw_18 : (Jvm.Cond.classLink "CallRows" (9 : Nat) "CallRows$Program") ∈ gU := gU_of 18 (by decide +kernel) rfl
theorem uw_20 : (Jvm.Cond.classLink "CallRows" (26 : Nat) "CallRows$Level") ∈ gU := gU_of 20 (by decide +kernel) rfl
theorem uw_21 : (Jvm.Cond.instantiable "CallRows$Level" (9 : Nat)) ∈ gU := gU_of 21 (by decide +kernel) rfl
theorem uw_22 : (Jvm.Cond.methodLink "CallRows" (28 : Nat) ({ cls := "CallRows$Level", name := "<init>", desc := "(LCallRows$Level;)V" } : Jvm.MethodName)) ∈ gU := gU_of 22 (by decide +kernel) rfl
theorem uw_23 : (Jvm.Cond.instanceMethod ({ cls := "CallRows$Level", name := "<init>", desc := "(LCallRows$Level;)V" } : Jvm.MethodName)) ∈ gU := gU_of 23 (by decide +kernel) rfl
theorem uw_24 : (Jvm.Cond.code ({ cls := "CallRows$Level", name := "<init>", desc := "(LCallRows$Level;)V" } : Jvm.MethodName) prog_2_method_1_code (2 : Nat) (Option.none : Option Jvm.ClassFile.FieldType)) ∈ gU := gU_of 24 (by decide +kernel) rfl
theorem uw_25 : (Jvm.Cond.methodLink "CallRows$Level" (3 : Nat) ({ cls := "java/lang/Object", name := "<init>", desc := "()V" } : Jvm.MethodName)) ∈ gU := gU_of 25 (by decide +kernel) rfl
theorem uw_26 : (Jvm.Cond.classLink "CallRows$Level" (9 : Nat) "CallRows$Level") ∈ gU := gU_of 26 (by decide +kernel) rfl
theorem uw_28 : (Jvm.Cond.fieldLink "CallRows$Level" (26 : Nat) "CallRows$Level" "below" "LCallRows$Level;") ∈ gU := gU_of 28 (by decide +kernel) rfl
theorem uw_29 : (Jvm.Cond.fieldLink "CallRows" (168 : Nat) "CallRows$Level" "below" "LCallRows$Level;") ∈ gU := gU_of 29 (by decide +kernel) rfl
theorem uw_30 : (Jvm.Cond.fieldLink "CallRows" (211 : Nat) "CallRows$Level" "above" "LCallRows$Level;") ∈ gU := gU_of 30 (by decide +kernel) rfl
theorem uw_31 : (Jvm.Cond.fieldLink "CallRows$Level" (30 : Nat) "CallRows$Level" "program" "LCallRows$Program;") ∈ gU := gU_of 31 (by decide +kernel) rfl
theorem uw_32 : (Jvm.Cond.fieldLink "CallRows" (89 : Nat) "CallRows$Level" "program" "LCallRows$Program;") ∈ gU := gU_of 32 (by decide +kernel) rfl
theorem uw_33 : (Jvm.Cond.fieldLink "CallRows" (150 : Nat) "CallRows$Level" "earlier" "LCallRows$Level;") ∈ gU := gU_of 33 (by decide +kernel) rfl
theorem uw_34 : (Jvm.Cond.fieldLink "CallRows$Level" (34 : Nat) "CallRows$Level" "arguments" "I") ∈ gU := gU_of 34 (by decide +kernel) rfl
theorem uw_35 : (Jvm.Cond.fieldLink "CallRows" (121 : Nat) "CallRows$Level" "arguments" "I") ∈ gU := gU_of 35 (by decide +kernel) rfl
theorem uw_36 : (Jvm.Cond.fieldLink "CallRows$Level" (11 : Nat) "CallRows$Level" "holders" "[LCallRows$Level;") ∈ gU := gU_of 36 (by decide +kernel) rfl
theorem uw_37 : (Jvm.Cond.fieldLink "CallRows" (214 : Nat) "CallRows$Level" "holders" "[LCallRows$Level;") ∈ gU := gU_of 37 (by decide +kernel) rfl
theorem uw_38 : (Jvm.Cond.fieldLink "CallRows$Level" (15 : Nat) "CallRows$Level" "places" "[I") ∈ gU := gU_of 38 (by decide +kernel) rfl
theorem uw_39 : (Jvm.Cond.fieldLink "CallRows" (226 : Nat) "CallRows$Level" "places" "[I") ∈ gU := gU_of 39 (by decide +kernel) rfl
theorem uw_40 : (Jvm.Cond.fieldLink "CallRows$Level" (19 : Nat) "CallRows$Level" "bytes" "[I") ∈ gU := gU_of 40 (by decide +kernel) rfl
theorem uw_41 : (Jvm.Cond.fieldLink "CallRows" (229 : Nat) "CallRows$Level" "bytes" "[I") ∈ gU := gU_of 41 (by decide +kernel) rfl
theorem uw_42 : (Jvm.Cond.fieldLink "CallRows$Level" (22 : Nat) "CallRows$Level" "values" "[J") ∈ gU := gU_of 42 (by decide +kernel) rfl
theorem uw_43 : (Jvm.Cond.fieldLink "CallRows" (165 : Nat) "CallRows$Level" "values" "[J") ∈ gU := gU_of 43 (by decide +kernel) rfl
theorem uw_44 : (Jvm.Cond.laysFinal "CallRows$Level" "CallRows$Level" "below" "LCallRows$Level;") ∈ gU := gU_of 44 (by decide +kernel) rfl
theorem uw_46 : (Jvm.Cond.lays "CallRows$Level" "CallRows$Level" "above" "LCallRows$Level;") ∈ gU := gU_of 46 (by decide +kernel) rfl
theorem uw_48 : (Jvm.Cond.lays "CallRows$Level" "CallRows$Level" "program" "LCallRows$Program;") ∈ gU := gU_of 48 (by decide +kernel) rfl
theorem uw_50 : (Jvm.Cond.lays "CallRows$Level" "CallRows$Level" "earlier" "LCallRows$Level;") ∈ gU := gU_of 50 (by decide +kernel) rfl
theorem uw_52 : (Jvm.Cond.lays "CallRows$Level" "CallRows$Level" "arguments" "I") ∈ gU := gU_of 52 (by decide +kernel) rfl
theorem uw_54 : (Jvm.Cond.laysFinal "CallRows$Level" "CallRows$Level" "holders" "[LCallRows$Level;") ∈ gU := gU_of 54 (by decide +kernel) rfl
theorem uw_56 : (Jvm.Cond.laysFinal "CallRows$Level" "CallRows$Level" "places" "[I") ∈ gU := gU_of 56 (by decide +kernel) rfl
theorem uw_58 : (Jvm.Cond.laysFinal "CallRows$Level" "CallRows$Level" "bytes" "[I") ∈ gU := gU_of 58 (by decide +kernel) rfl
theorem uw_60 : (Jvm.Cond.laysFinal "CallRows$Level" "CallRows$Level" "values" "[J") ∈ gU := gU_of 60 (by decide +kernel) rfl
theorem uw_63 : (Jvm.Cond.arrayClass Jvm.ClassFile.FieldType.long) ∈ gU := gU_of 63 (by decide +kernel) rfl
theorem uw_64 : (Jvm.Cond.arrayClass Jvm.ClassFile.FieldType.int) ∈ gU := gU_of 64 (by decide +kernel) rfl
theorem uw_65 : (Jvm.Cond.constant "CallRows" (38 : Nat) (65536 : Int32)) ∈ gU := gU_of 65 (by decide +kernel) rfl
theorem uw_66 : (Jvm.Cond.methodLink "CallRows" (39 : Nat) ({ cls := "java/lang/Math", name := "min", desc := "(II)I" } : Jvm.MethodName)) ∈ gU := gU_of 66 (by decide +kernel) rfl
theorem uw_67 : (Jvm.Cond.static ({ cls := "java/lang/Math", name := "min", desc := "(II)I" } : Jvm.MethodName)) ∈ gU := gU_of 67 (by decide +kernel) rfl
theorem uw_68 : (Jvm.Cond.code ({ cls := "java/lang/Math", name := "min", desc := "(II)I" } : Jvm.MethodName) prog_8_method_69_code (2 : Nat) (Option.some Jvm.ClassFile.FieldType.int)) ∈ gU := gU_of 68 (by decide +kernel) rfl
theorem uw_69 : (Jvm.Cond.methodLink "CallRows" (45 : Nat) ({ cls := "java/lang/Math", name := "max", desc := "(II)I" } : Jvm.MethodName)) ∈ gU := gU_of 69 (by decide +kernel) rfl
theorem uw_70 : (Jvm.Cond.static ({ cls := "java/lang/Math", name := "max", desc := "(II)I" } : Jvm.MethodName)) ∈ gU := gU_of 70 (by decide +kernel) rfl
theorem uw_71 : (Jvm.Cond.code ({ cls := "java/lang/Math", name := "max", desc := "(II)I" } : Jvm.MethodName) prog_8_method_65_code (2 : Nat) (Option.some Jvm.ClassFile.FieldType.int)) ∈ gU := gU_of 71 (by decide +kernel) rfl
theorem uw_72 : (Jvm.Cond.fieldLink "CallRows" (48 : Nat) "CallRows" "depth" "I") ∈ gU := gU_of 72 (by decide +kernel) rfl
theorem uw_73 : (Jvm.Cond.fieldLink "CallRows" (11 : Nat) "CallRows" "programs" "[LCallRows$Program;") ∈ gU := gU_of 73 (by decide +kernel) rfl
theorem uw_74 : (Jvm.Cond.fieldLink "CallRows" (67 : Nat) "CallRows" "programCount" "I") ∈ gU := gU_of 74 (by decide +kernel) rfl
theorem uw_75 : (Jvm.Cond.fieldLink "CallRows" (15 : Nat) "CallRows" "owners" "[LCallRows$Program;") ∈ gU := gU_of 75 (by decide +kernel) rfl
theorem uw_76 : (Jvm.Cond.fieldLink "CallRows" (18 : Nat) "CallRows" "firstValues" "[J") ∈ gU := gU_of 76 (by decide +kernel) rfl
theorem uw_77 : (Jvm.Cond.fieldLink "CallRows" (193 : Nat) "CallRows" "cellCount" "I") ∈ gU := gU_of 77 (by decide +kernel) rfl
theorem uw_78 : (Jvm.Cond.fieldLink "CallRows" (22 : Nat) "CallRows" "externals" "[I") ∈ gU := gU_of 78 (by decide +kernel) rfl
theorem uw_79 : (Jvm.Cond.fieldLink "CallRows" (31 : Nat) "CallRows" "bottom" "LCallRows$Level;") ∈ gU := gU_of 79 (by decide +kernel) rfl
theorem uw_80 : (Jvm.Cond.fieldLink "CallRows" (35 : Nat) "CallRows" "top" "LCallRows$Level;") ∈ gU := gU_of 80 (by decide +kernel) rfl
theorem uw_81 : (Jvm.Cond.fieldLink "CallRows" (60 : Nat) "CallRows" "active" "I") ∈ gU := gU_of 81 (by decide +kernel) rfl
theorem uw_82 : (Jvm.Cond.fieldLink "CallRows" (86 : Nat) "CallRows" "prepared" "LCallRows$Level;") ∈ gU := gU_of 82 (by decide +kernel) rfl
theorem uw_83 : (Jvm.Cond.fieldLink "CallRows" (175 : Nat) "CallRows" "latestReturn" "J") ∈ gU := gU_of 83 (by decide +kernel) rfl
theorem uw_84 : (Jvm.Cond.laysFinal "CallRows" "CallRows" "depth" "I") ∈ gU := gU_of 84 (by decide +kernel) rfl
theorem uw_86 : (Jvm.Cond.laysFinal "CallRows" "CallRows" "programs" "[LCallRows$Program;") ∈ gU := gU_of 86 (by decide +kernel) rfl
theorem uw_88 : (Jvm.Cond.lays "CallRows" "CallRows" "programCount" "I") ∈ gU := gU_of 88 (by decide +kernel) rfl
theorem uw_90 : (Jvm.Cond.laysFinal "CallRows" "CallRows" "owners" "[LCallRows$Program;") ∈ gU := gU_of 90 (by decide +kernel) rfl
theorem uw_92 : (Jvm.Cond.laysFinal "CallRows" "CallRows" "firstValues" "[J") ∈ gU := gU_of 92 (by decide +kernel) rfl
theorem uw_94 : (Jvm.Cond.lays "CallRows" "CallRows" "cellCount" "I") ∈ gU := gU_of 94 (by decide +kernel) rfl
theorem uw_96 : (Jvm.Cond.laysFinal "CallRows" "CallRows" "externals" "[I") ∈ gU := gU_of 96 (by decide +kernel) rfl
theorem uw_98 : (Jvm.Cond.laysFinal "CallRows" "CallRows" "bottom" "LCallRows$Level;") ∈ gU := gU_of 98 (by decide +kernel) rfl
theorem uw_100 : (Jvm.Cond.lays "CallRows" "CallRows" "top" "LCallRows$Level;") ∈ gU := gU_of 100 (by decide +kernel) rfl
theorem uw_102 : (Jvm.Cond.lays "CallRows" "CallRows" "active" "I") ∈ gU := gU_of 102 (by decide +kernel) rfl
theorem uw_104 : (Jvm.Cond.lays "CallRows" "CallRows" "prepared" "LCallRows$Level;") ∈ gU := gU_of 104 (by decide +kernel) rfl
theorem uw_106 : (Jvm.Cond.lays "CallRows" "CallRows" "latestReturn" "J") ∈ gU := gU_of 106 (by decide +kernel) rfl
theorem uw_109 : (Jvm.Cond.methodLink "CallRowsLaw" (27 : Nat) ({ cls := "CallRows", name := "program", desc := "(III)I" } : Jvm.MethodName)) ∈ gU := gU_of 109 (by decide +kernel) rfl
theorem uw_110 : (Jvm.Cond.instanceMethod ({ cls := "CallRows", name := "program", desc := "(III)I" } : Jvm.MethodName)) ∈ gU := gU_of 110 (by decide +kernel) rfl
theorem uw_111 : (Jvm.Cond.selects "CallRows" ({ cls := "CallRows", name := "program", desc := "(III)I" } : Jvm.MethodName) ({ cls := "CallRows", name := "program", desc := "(III)I" } : Jvm.MethodName)) ∈ gU := gU_of 111 (by decide +kernel) rfl
theorem uw_112 : (Jvm.Cond.code ({ cls := "CallRows", name := "program", desc := "(III)I" } : Jvm.MethodName) prog_1_method_2_code (6 : Nat) (Option.some Jvm.ClassFile.FieldType.int)) ∈ gU := gU_of 112 (by decide +kernel) rfl
theorem uw_113 : (Jvm.Cond.methodLink "CallRows" (52 : Nat) ({ cls := "CallRows", name := "programOf", desc := "(I)LCallRows$Program;" } : Jvm.MethodName)) ∈ gU := gU_of 113 (by decide +kernel) rfl
theorem uw_115 : (Jvm.Cond.instanceMethod ({ cls := "CallRows", name := "programOf", desc := "(I)LCallRows$Program;" } : Jvm.MethodName)) ∈ gU := gU_of 115 (by decide +kernel) rfl
theorem uw_116 : (Jvm.Cond.code ({ cls := "CallRows", name := "programOf", desc := "(I)LCallRows$Program;" } : Jvm.MethodName) prog_1_method_18_code (2 : Nat) (Option.some (Jvm.ClassFile.FieldType.object "CallRows$Program"))) ∈ gU := gU_of 116 (by decide +kernel) rfl
theorem uw_117 : (Jvm.Cond.methodLink "CallRows" (56 : Nat) ({ cls := "CallRows", name := "isName", desc := "(I)Z" } : Jvm.MethodName)) ∈ gU := gU_of 117 (by decide +kernel) rfl
theorem uw_118 : (Jvm.Cond.static ({ cls := "CallRows", name := "isName", desc := "(I)Z" } : Jvm.MethodName)) ∈ gU := gU_of 118 (by decide +kernel) rfl
theorem uw_119 : (Jvm.Cond.code ({ cls := "CallRows", name := "isName", desc := "(I)Z" } : Jvm.MethodName) prog_1_method_16_code (1 : Nat) (Option.some Jvm.ClassFile.FieldType.boolean)) ∈ gU := gU_of 119 (by decide +kernel) rfl
theorem uw_120 : (Jvm.Cond.methodLink "CallRows" (63 : Nat) ({ cls := "CallRows", name := "directlyWithin", desc := "(LCallRows$Program;I)LCallRows$Program;" } : Jvm.MethodName)) ∈ gU := gU_of 120 (by decide +kernel) rfl
theorem uw_122 : (Jvm.Cond.instanceMethod ({ cls := "CallRows", name := "directlyWithin", desc := "(LCallRows$Program;I)LCallRows$Program;" } : Jvm.MethodName)) ∈ gU := gU_of 122 (by decide +kernel) rfl
theorem uw_123 : (Jvm.Cond.code ({ cls := "CallRows", name := "directlyWithin", desc := "(LCallRows$Program;I)LCallRows$Program;" } : Jvm.MethodName) prog_1_method_21_code (5 : Nat) (Option.some (Jvm.ClassFile.FieldType.object "CallRows$Program"))) ∈ gU := gU_of 123 (by decide +kernel) rfl
theorem uw_124 : (Jvm.Cond.instantiable "CallRows$Program" (9 : Nat)) ∈ gU := gU_of 124 (by decide +kernel) rfl
theorem uw_125 : (Jvm.Cond.methodLink "CallRows" (70 : Nat) ({ cls := "CallRows$Program", name := "<init>", desc := "(LCallRows$Program;III)V" } : Jvm.MethodName)) ∈ gU := gU_of 125 (by decide +kernel) rfl
theorem uw_126 : (Jvm.Cond.instanceMethod ({ cls := "CallRows$Program", name := "<init>", desc := "(LCallRows$Program;III)V" } : Jvm.MethodName)) ∈ gU := gU_of 126 (by decide +kernel) rfl
theorem uw_127 : (Jvm.Cond.code ({ cls := "CallRows$Program", name := "<init>", desc := "(LCallRows$Program;III)V" } : Jvm.MethodName) prog_3_method_1_code (5 : Nat) (Option.none : Option Jvm.ClassFile.FieldType)) ∈ gU := gU_of 127 (by decide +kernel) rfl
theorem uw_128 : (Jvm.Cond.methodLink "CallRows$Program" (3 : Nat) ({ cls := "java/lang/Object", name := "<init>", desc := "()V" } : Jvm.MethodName)) ∈ gU := gU_of 128 (by decide +kernel) rfl
theorem uw_129 : (Jvm.Cond.fieldLink "CallRows$Program" (18 : Nat) "CallRows$Program" "outer" "LCallRows$Program;") ∈ gU := gU_of 129 (by decide +kernel) rfl
theorem uw_130 : (Jvm.Cond.fieldLink "CallRows" (202 : Nat) "CallRows$Program" "outer" "LCallRows$Program;") ∈ gU := gU_of 130 (by decide +kernel) rfl
theorem uw_131 : (Jvm.Cond.fieldLink "CallRows$Program" (22 : Nat) "CallRows$Program" "number" "I") ∈ gU := gU_of 131 (by decide +kernel) rfl
theorem uw_132 : (Jvm.Cond.fieldLink "CallRows" (114 : Nat) "CallRows$Program" "number" "I") ∈ gU := gU_of 132 (by decide +kernel) rfl
theorem uw_133 : (Jvm.Cond.fieldLink "CallRows$Program" (26 : Nat) "CallRows$Program" "name" "I") ∈ gU := gU_of 133 (by decide +kernel) rfl
theorem uw_134 : (Jvm.Cond.fieldLink "CallRows" (205 : Nat) "CallRows$Program" "name" "I") ∈ gU := gU_of 134 (by decide +kernel) rfl
theorem uw_135 : (Jvm.Cond.fieldLink "CallRows$Program" (29 : Nat) "CallRows$Program" "marks" "I") ∈ gU := gU_of 135 (by decide +kernel) rfl
theorem uw_136 : (Jvm.Cond.fieldLink "CallRows$Program" (9 : Nat) "CallRows$Program" "formalHow" "[I") ∈ gU := gU_of 136 (by decide +kernel) rfl
theorem uw_137 : (Jvm.Cond.fieldLink "CallRows" (80 : Nat) "CallRows$Program" "formalHow" "[I") ∈ gU := gU_of 137 (by decide +kernel) rfl
theorem uw_138 : (Jvm.Cond.fieldLink "CallRows$Program" (15 : Nat) "CallRows$Program" "formalBytes" "[I") ∈ gU := gU_of 138 (by decide +kernel) rfl
theorem uw_139 : (Jvm.Cond.fieldLink "CallRows" (83 : Nat) "CallRows$Program" "formalBytes" "[I") ∈ gU := gU_of 139 (by decide +kernel) rfl
theorem uw_140 : (Jvm.Cond.fieldLink "CallRows" (77 : Nat) "CallRows$Program" "formals" "I") ∈ gU := gU_of 140 (by decide +kernel) rfl
theorem uw_141 : (Jvm.Cond.fieldLink "CallRows" (171 : Nat) "CallRows$Program" "hasData" "Z") ∈ gU := gU_of 141 (by decide +kernel) rfl
theorem uw_142 : (Jvm.Cond.fieldLink "CallRows" (100 : Nat) "CallRows$Program" "latest" "LCallRows$Level;") ∈ gU := gU_of 142 (by decide +kernel) rfl
theorem uw_143 : (Jvm.Cond.laysFinal "CallRows$Program" "CallRows$Program" "outer" "LCallRows$Program;") ∈ gU := gU_of 143 (by decide +kernel) rfl
theorem uw_145 : (Jvm.Cond.laysFinal "CallRows$Program" "CallRows$Program" "number" "I") ∈ gU := gU_of 145 (by decide +kernel) rfl
theorem uw_147 : (Jvm.Cond.laysFinal "CallRows$Program" "CallRows$Program" "name" "I") ∈ gU := gU_of 147 (by decide +kernel) rfl
theorem uw_149 : (Jvm.Cond.laysFinal "CallRows$Program" "CallRows$Program" "marks" "I") ∈ gU := gU_of 149 (by decide +kernel) rfl
theorem uw_151 : (Jvm.Cond.laysFinal "CallRows$Program" "CallRows$Program" "formalHow" "[I") ∈ gU := gU_of 151 (by decide +kernel) rfl
theorem uw_153 : (Jvm.Cond.laysFinal "CallRows$Program" "CallRows$Program" "formalBytes" "[I") ∈ gU := gU_of 153 (by decide +kernel) rfl
theorem uw_155 : (Jvm.Cond.lays "CallRows$Program" "CallRows$Program" "formals" "I") ∈ gU := gU_of 155 (by decide +kernel) rfl
theorem uw_157 : (Jvm.Cond.lays "CallRows$Program" "CallRows$Program" "hasData" "Z") ∈ gU := gU_of 157 (by decide +kernel) rfl
theorem uw_159 : (Jvm.Cond.lays "CallRows$Program" "CallRows$Program" "latest" "LCallRows$Level;") ∈ gU := gU_of 159 (by decide +kernel) rfl
theorem uw_162 : (Jvm.Cond.methodLink "CallRowsLaw" (34 : Nat) ({ cls := "CallRows", name := "cell", desc := "(IJ)I" } : Jvm.MethodName)) ∈ gU := gU_of 162 (by decide +kernel) rfl
theorem uw_163 : (Jvm.Cond.instanceMethod ({ cls := "CallRows", name := "cell", desc := "(IJ)I" } : Jvm.MethodName)) ∈ gU := gU_of 163 (by decide +kernel) rfl
theorem uw_164 : (Jvm.Cond.selects "CallRows" ({ cls := "CallRows", name := "cell", desc := "(IJ)I" } : Jvm.MethodName) ({ cls := "CallRows", name := "cell", desc := "(IJ)I" } : Jvm.MethodName)) ∈ gU := gU_of 164 (by decide +kernel) rfl
theorem uw_165 : (Jvm.Cond.code ({ cls := "CallRows", name := "cell", desc := "(IJ)I" } : Jvm.MethodName) prog_1_method_3_code (5 : Nat) (Option.some Jvm.ClassFile.FieldType.int)) ∈ gU := gU_of 165 (by decide +kernel) rfl
theorem uw_166 : (Jvm.Cond.methodLink "CallRows" (73 : Nat) ({ cls := "CallRows", name := "newCell", desc := "(LCallRows$Program;J)I" } : Jvm.MethodName)) ∈ gU := gU_of 166 (by decide +kernel) rfl
theorem uw_168 : (Jvm.Cond.instanceMethod ({ cls := "CallRows", name := "newCell", desc := "(LCallRows$Program;J)I" } : Jvm.MethodName)) ∈ gU := gU_of 168 (by decide +kernel) rfl
theorem uw_169 : (Jvm.Cond.code ({ cls := "CallRows", name := "newCell", desc := "(LCallRows$Program;J)I" } : Jvm.MethodName) prog_1_method_19_code (4 : Nat) (Option.some Jvm.ClassFile.FieldType.int)) ∈ gU := gU_of 169 (by decide +kernel) rfl
theorem uw_170 : (Jvm.Cond.methodLink "CallRows" (124 : Nat) ({ cls := "CallRows", name := "placeOf", desc := "(I)I" } : Jvm.MethodName)) ∈ gU := gU_of 170 (by decide +kernel) rfl
theorem uw_172 : (Jvm.Cond.instanceMethod ({ cls := "CallRows", name := "placeOf", desc := "(I)I" } : Jvm.MethodName)) ∈ gU := gU_of 172 (by decide +kernel) rfl
theorem uw_173 : (Jvm.Cond.code ({ cls := "CallRows", name := "placeOf", desc := "(I)I" } : Jvm.MethodName) prog_1_method_27_code (2 : Nat) (Option.some Jvm.ClassFile.FieldType.int)) ∈ gU := gU_of 173 (by decide +kernel) rfl
theorem uw_174 : (Jvm.Cond.methodLink "CallRowsLaw" (38 : Nat) ({ cls := "CallRows", name := "formal", desc := "(III)I" } : Jvm.MethodName)) ∈ gU := gU_of 174 (by decide +kernel) rfl
theorem uw_175 : (Jvm.Cond.instanceMethod ({ cls := "CallRows", name := "formal", desc := "(III)I" } : Jvm.MethodName)) ∈ gU := gU_of 175 (by decide +kernel) rfl
theorem uw_176 : (Jvm.Cond.selects "CallRows" ({ cls := "CallRows", name := "formal", desc := "(III)I" } : Jvm.MethodName) ({ cls := "CallRows", name := "formal", desc := "(III)I" } : Jvm.MethodName)) ∈ gU := gU_of 176 (by decide +kernel) rfl
theorem uw_177 : (Jvm.Cond.code ({ cls := "CallRows", name := "formal", desc := "(III)I" } : Jvm.MethodName) prog_1_method_4_code (5 : Nat) (Option.some Jvm.ClassFile.FieldType.int)) ∈ gU := gU_of 177 (by decide +kernel) rfl
theorem uw_178 : (Jvm.Cond.methodLink "CallRowsLaw" (42 : Nat) ({ cls := "CallRows", name := "call", desc := "(II)I" } : Jvm.MethodName)) ∈ gU := gU_of 178 (by decide +kernel) rfl
theorem uw_179 : (Jvm.Cond.instanceMethod ({ cls := "CallRows", name := "call", desc := "(II)I" } : Jvm.MethodName)) ∈ gU := gU_of 179 (by decide +kernel) rfl
theorem uw_180 : (Jvm.Cond.selects "CallRows" ({ cls := "CallRows", name := "call", desc := "(II)I" } : Jvm.MethodName) ({ cls := "CallRows", name := "call", desc := "(II)I" } : Jvm.MethodName)) ∈ gU := gU_of 180 (by decide +kernel) rfl
theorem uw_181 : (Jvm.Cond.code ({ cls := "CallRows", name := "call", desc := "(II)I" } : Jvm.MethodName) prog_1_method_5_code (4 : Nat) (Option.some Jvm.ClassFile.FieldType.int)) ∈ gU := gU_of 181 (by decide +kernel) rfl
theorem uw_182 : (Jvm.Cond.methodLink "CallRows" (93 : Nat) ({ cls := "CallRows", name := "numberOf", desc := "(LCallRows$Program;)I" } : Jvm.MethodName)) ∈ gU := gU_of 182 (by decide +kernel) rfl
theorem uw_183 : (Jvm.Cond.static ({ cls := "CallRows", name := "numberOf", desc := "(LCallRows$Program;)I" } : Jvm.MethodName)) ∈ gU := gU_of 183 (by decide +kernel) rfl
theorem uw_184 : (Jvm.Cond.code ({ cls := "CallRows", name := "numberOf", desc := "(LCallRows$Program;)I" } : Jvm.MethodName) prog_1_method_17_code (1 : Nat) (Option.some Jvm.ClassFile.FieldType.int)) ∈ gU := gU_of 184 (by decide +kernel) rfl
theorem uw_185 : (Jvm.Cond.methodLink "CallRows" (97 : Nat) ({ cls := "CallRows", name := "found", desc := "(LCallRows$Program;I)LCallRows$Program;" } : Jvm.MethodName)) ∈ gU := gU_of 185 (by decide +kernel) rfl
theorem uw_187 : (Jvm.Cond.instanceMethod ({ cls := "CallRows", name := "found", desc := "(LCallRows$Program;I)LCallRows$Program;" } : Jvm.MethodName)) ∈ gU := gU_of 187 (by decide +kernel) rfl
theorem uw_188 : (Jvm.Cond.code ({ cls := "CallRows", name := "found", desc := "(LCallRows$Program;I)LCallRows$Program;" } : Jvm.MethodName) prog_1_method_20_code (4 : Nat) (Option.some (Jvm.ClassFile.FieldType.object "CallRows$Program"))) ∈ gU := gU_of 188 (by decide +kernel) rfl
theorem uw_189 : (Jvm.Cond.methodLink "CallRows" (196 : Nat) ({ cls := "CallRows", name := "recursiveAround", desc := "(LCallRows$Program;I)LCallRows$Program;" } : Jvm.MethodName)) ∈ gU := gU_of 189 (by decide +kernel) rfl
theorem uw_190 : (Jvm.Cond.static ({ cls := "CallRows", name := "recursiveAround", desc := "(LCallRows$Program;I)LCallRows$Program;" } : Jvm.MethodName)) ∈ gU := gU_of 190 (by decide +kernel) rfl
theorem uw_191 : (Jvm.Cond.code ({ cls := "CallRows", name := "recursiveAround", desc := "(LCallRows$Program;I)LCallRows$Program;" } : Jvm.MethodName) prog_1_method_22_code (3 : Nat) (Option.some (Jvm.ClassFile.FieldType.object "CallRows$Program"))) ∈ gU := gU_of 191 (by decide +kernel) rfl
theorem uw_192 : (Jvm.Cond.methodLink "CallRows" (103 : Nat) ({ cls := "CallRows$Program", name := "has", desc := "(I)Z" } : Jvm.MethodName)) ∈ gU := gU_of 192 (by decide +kernel) rfl
theorem uw_193 : (Jvm.Cond.instanceMethod ({ cls := "CallRows$Program", name := "has", desc := "(I)Z" } : Jvm.MethodName)) ∈ gU := gU_of 193 (by decide +kernel) rfl
theorem uw_194 : (Jvm.Cond.selects "CallRows$Program" ({ cls := "CallRows$Program", name := "has", desc := "(I)Z" } : Jvm.MethodName) ({ cls := "CallRows$Program", name := "has", desc := "(I)Z" } : Jvm.MethodName)) ∈ gU := gU_of 194 (by decide +kernel) rfl
theorem uw_195 : (Jvm.Cond.code ({ cls := "CallRows$Program", name := "has", desc := "(I)Z" } : Jvm.MethodName) prog_3_method_2_code (2 : Nat) (Option.some Jvm.ClassFile.FieldType.boolean)) ∈ gU := gU_of 195 (by decide +kernel) rfl
theorem uw_196 : (Jvm.Cond.methodLink "CallRows" (199 : Nat) ({ cls := "CallRows", name := "commonAround", desc := "(LCallRows$Program;I)LCallRows$Program;" } : Jvm.MethodName)) ∈ gU := gU_of 196 (by decide +kernel) rfl
theorem uw_198 : (Jvm.Cond.instanceMethod ({ cls := "CallRows", name := "commonAround", desc := "(LCallRows$Program;I)LCallRows$Program;" } : Jvm.MethodName)) ∈ gU := gU_of 198 (by decide +kernel) rfl
theorem uw_199 : (Jvm.Cond.code ({ cls := "CallRows", name := "commonAround", desc := "(LCallRows$Program;I)LCallRows$Program;" } : Jvm.MethodName) prog_1_method_23_code (5 : Nat) (Option.some (Jvm.ClassFile.FieldType.object "CallRows$Program"))) ∈ gU := gU_of 199 (by decide +kernel) rfl
theorem uw_200 : (Jvm.Cond.methodLink "CallRows" (208 : Nat) ({ cls := "CallRows$Program", name := "isOrLiesIn", desc := "(LCallRows$Program;)Z" } : Jvm.MethodName)) ∈ gU := gU_of 200 (by decide +kernel) rfl
theorem uw_201 : (Jvm.Cond.instanceMethod ({ cls := "CallRows$Program", name := "isOrLiesIn", desc := "(LCallRows$Program;)Z" } : Jvm.MethodName)) ∈ gU := gU_of 201 (by decide +kernel) rfl
theorem uw_202 : (Jvm.Cond.selects "CallRows$Program" ({ cls := "CallRows$Program", name := "isOrLiesIn", desc := "(LCallRows$Program;)Z" } : Jvm.MethodName) ({ cls := "CallRows$Program", name := "isOrLiesIn", desc := "(LCallRows$Program;)Z" } : Jvm.MethodName)) ∈ gU := gU_of 202 (by decide +kernel) rfl
theorem uw_203 : (Jvm.Cond.code ({ cls := "CallRows$Program", name := "isOrLiesIn", desc := "(LCallRows$Program;)Z" } : Jvm.MethodName) prog_3_method_4_code (3 : Nat) (Option.some Jvm.ClassFile.FieldType.boolean)) ∈ gU := gU_of 203 (by decide +kernel) rfl
theorem uw_204 : (Jvm.Cond.methodLink "CallRows" (106 : Nat) ({ cls := "CallRows", name := "levelAbove", desc := "(LCallRows$Level;)LCallRows$Level;" } : Jvm.MethodName)) ∈ gU := gU_of 204 (by decide +kernel) rfl
theorem uw_205 : (Jvm.Cond.static ({ cls := "CallRows", name := "levelAbove", desc := "(LCallRows$Level;)LCallRows$Level;" } : Jvm.MethodName)) ∈ gU := gU_of 205 (by decide +kernel) rfl
theorem uw_206 : (Jvm.Cond.code ({ cls := "CallRows", name := "levelAbove", desc := "(LCallRows$Level;)LCallRows$Level;" } : Jvm.MethodName) prog_1_method_24_code (1 : Nat) (Option.some (Jvm.ClassFile.FieldType.object "CallRows$Level"))) ∈ gU := gU_of 206 (by decide +kernel) rfl
theorem uw_207 : (Jvm.Cond.methodLink "CallRows" (110 : Nat) ({ cls := "CallRows$Level", name := "begin", desc := "(LCallRows$Program;)V" } : Jvm.MethodName)) ∈ gU := gU_of 207 (by decide +kernel) rfl
theorem uw_208 : (Jvm.Cond.instanceMethod ({ cls := "CallRows$Level", name := "begin", desc := "(LCallRows$Program;)V" } : Jvm.MethodName)) ∈ gU := gU_of 208 (by decide +kernel) rfl
theorem uw_209 : (Jvm.Cond.selects "CallRows$Level" ({ cls := "CallRows$Level", name := "begin", desc := "(LCallRows$Program;)V" } : Jvm.MethodName) ({ cls := "CallRows$Level", name := "begin", desc := "(LCallRows$Program;)V" } : Jvm.MethodName)) ∈ gU := gU_of 209 (by decide +kernel) rfl
theorem uw_210 : (Jvm.Cond.code ({ cls := "CallRows$Level", name := "begin", desc := "(LCallRows$Program;)V" } : Jvm.MethodName) prog_2_method_2_code (3 : Nat) (Option.none : Option Jvm.ClassFile.FieldType)) ∈ gU := gU_of 210 (by decide +kernel) rfl
theorem uw_211 : (Jvm.Cond.methodLink "CallRowsLaw" (47 : Nat) ({ cls := "CallRows", name := "actual", desc := "(II)I" } : Jvm.MethodName)) ∈ gU := gU_of 211 (by decide +kernel) rfl
theorem uw_212 : (Jvm.Cond.instanceMethod ({ cls := "CallRows", name := "actual", desc := "(II)I" } : Jvm.MethodName)) ∈ gU := gU_of 212 (by decide +kernel) rfl
theorem uw_213 : (Jvm.Cond.selects "CallRows" ({ cls := "CallRows", name := "actual", desc := "(II)I" } : Jvm.MethodName) ({ cls := "CallRows", name := "actual", desc := "(II)I" } : Jvm.MethodName)) ∈ gU := gU_of 213 (by decide +kernel) rfl
theorem uw_214 : (Jvm.Cond.code ({ cls := "CallRows", name := "actual", desc := "(II)I" } : Jvm.MethodName) prog_1_method_6_code (5 : Nat) (Option.some Jvm.ClassFile.FieldType.int)) ∈ gU := gU_of 214 (by decide +kernel) rfl
theorem uw_215 : (Jvm.Cond.methodLink "CallRows" (117 : Nat) ({ cls := "CallRows", name := "holderOf", desc := "(I)LCallRows$Level;" } : Jvm.MethodName)) ∈ gU := gU_of 215 (by decide +kernel) rfl
theorem uw_217 : (Jvm.Cond.instanceMethod ({ cls := "CallRows", name := "holderOf", desc := "(I)LCallRows$Level;" } : Jvm.MethodName)) ∈ gU := gU_of 217 (by decide +kernel) rfl
theorem uw_218 : (Jvm.Cond.code ({ cls := "CallRows", name := "holderOf", desc := "(I)LCallRows$Level;" } : Jvm.MethodName) prog_1_method_25_code (4 : Nat) (Option.some (Jvm.ClassFile.FieldType.object "CallRows$Level"))) ∈ gU := gU_of 218 (by decide +kernel) rfl
theorem uw_219 : (Jvm.Cond.methodLink "CallRows" (218 : Nat) ({ cls := "CallRows", name := "seesCellsOf", desc := "(LCallRows$Program;LCallRows$Program;)Z" } : Jvm.MethodName)) ∈ gU := gU_of 219 (by decide +kernel) rfl
theorem uw_220 : (Jvm.Cond.static ({ cls := "CallRows", name := "seesCellsOf", desc := "(LCallRows$Program;LCallRows$Program;)Z" } : Jvm.MethodName)) ∈ gU := gU_of 220 (by decide +kernel) rfl
theorem uw_221 : (Jvm.Cond.code ({ cls := "CallRows", name := "seesCellsOf", desc := "(LCallRows$Program;LCallRows$Program;)Z" } : Jvm.MethodName) prog_1_method_26_code (2 : Nat) (Option.some Jvm.ClassFile.FieldType.boolean)) ∈ gU := gU_of 221 (by decide +kernel) rfl
theorem uw_222 : (Jvm.Cond.methodLink "CallRows" (222 : Nat) ({ cls := "CallRows", name := "dataOf", desc := "(LCallRows$Program;)LCallRows$Level;" } : Jvm.MethodName)) ∈ gU := gU_of 222 (by decide +kernel) rfl
theorem uw_224 : (Jvm.Cond.instanceMethod ({ cls := "CallRows", name := "dataOf", desc := "(LCallRows$Program;)LCallRows$Level;" } : Jvm.MethodName)) ∈ gU := gU_of 224 (by decide +kernel) rfl
theorem uw_225 : (Jvm.Cond.code ({ cls := "CallRows", name := "dataOf", desc := "(LCallRows$Program;)LCallRows$Level;" } : Jvm.MethodName) prog_1_method_30_code (2 : Nat) (Option.some (Jvm.ClassFile.FieldType.object "CallRows$Level"))) ∈ gU := gU_of 225 (by decide +kernel) rfl
theorem uw_226 : (Jvm.Cond.methodLink "CallRows" (128 : Nat) ({ cls := "CallRows", name := "bytesOf", desc := "(I)I" } : Jvm.MethodName)) ∈ gU := gU_of 226 (by decide +kernel) rfl
theorem uw_228 : (Jvm.Cond.instanceMethod ({ cls := "CallRows", name := "bytesOf", desc := "(I)I" } : Jvm.MethodName)) ∈ gU := gU_of 228 (by decide +kernel) rfl
theorem uw_229 : (Jvm.Cond.code ({ cls := "CallRows", name := "bytesOf", desc := "(I)I" } : Jvm.MethodName) prog_1_method_28_code (3 : Nat) (Option.some Jvm.ClassFile.FieldType.int)) ∈ gU := gU_of 229 (by decide +kernel) rfl
theorem uw_230 : (Jvm.Cond.methodLink "CallRows" (131 : Nat) ({ cls := "CallRows$Level", name := "share", desc := "(ILCallRows$Level;II)V" } : Jvm.MethodName)) ∈ gU := gU_of 230 (by decide +kernel) rfl
theorem uw_231 : (Jvm.Cond.instanceMethod ({ cls := "CallRows$Level", name := "share", desc := "(ILCallRows$Level;II)V" } : Jvm.MethodName)) ∈ gU := gU_of 231 (by decide +kernel) rfl
theorem uw_232 : (Jvm.Cond.selects "CallRows$Level" ({ cls := "CallRows$Level", name := "share", desc := "(ILCallRows$Level;II)V" } : Jvm.MethodName) ({ cls := "CallRows$Level", name := "share", desc := "(ILCallRows$Level;II)V" } : Jvm.MethodName)) ∈ gU := gU_of 232 (by decide +kernel) rfl
theorem uw_233 : (Jvm.Cond.code ({ cls := "CallRows$Level", name := "share", desc := "(ILCallRows$Level;II)V" } : Jvm.MethodName) prog_2_method_3_code (5 : Nat) (Option.none : Option Jvm.ClassFile.FieldType)) ∈ gU := gU_of 233 (by decide +kernel) rfl
theorem uw_234 : (Jvm.Cond.methodLink "CallRows" (135 : Nat) ({ cls := "CallRows$Level", name := "copy", desc := "(I)V" } : Jvm.MethodName)) ∈ gU := gU_of 234 (by decide +kernel) rfl
theorem uw_235 : (Jvm.Cond.instanceMethod ({ cls := "CallRows$Level", name := "copy", desc := "(I)V" } : Jvm.MethodName)) ∈ gU := gU_of 235 (by decide +kernel) rfl
theorem uw_236 : (Jvm.Cond.selects "CallRows$Level" ({ cls := "CallRows$Level", name := "copy", desc := "(I)V" } : Jvm.MethodName) ({ cls := "CallRows$Level", name := "copy", desc := "(I)V" } : Jvm.MethodName)) ∈ gU := gU_of 236 (by decide +kernel) rfl
theorem uw_237 : (Jvm.Cond.code ({ cls := "CallRows$Level", name := "copy", desc := "(I)V" } : Jvm.MethodName) prog_2_method_4_code (3 : Nat) (Option.none : Option Jvm.ClassFile.FieldType)) ∈ gU := gU_of 237 (by decide +kernel) rfl
theorem uw_238 : (Jvm.Cond.methodLink "CallRowsLaw" (51 : Nat) ({ cls := "CallRows", name := "enter", desc := "()I" } : Jvm.MethodName)) ∈ gU := gU_of 238 (by decide +kernel) rfl
theorem uw_239 : (Jvm.Cond.instanceMethod ({ cls := "CallRows", name := "enter", desc := "()I" } : Jvm.MethodName)) ∈ gU := gU_of 239 (by decide +kernel) rfl
theorem uw_240 : (Jvm.Cond.selects "CallRows" ({ cls := "CallRows", name := "enter", desc := "()I" } : Jvm.MethodName) ({ cls := "CallRows", name := "enter", desc := "()I" } : Jvm.MethodName)) ∈ gU := gU_of 240 (by decide +kernel) rfl
theorem uw_241 : (Jvm.Cond.code ({ cls := "CallRows", name := "enter", desc := "()I" } : Jvm.MethodName) prog_1_method_7_code (3 : Nat) (Option.some Jvm.ClassFile.FieldType.int)) ∈ gU := gU_of 241 (by decide +kernel) rfl
theorem uw_242 : (Jvm.Cond.methodLink "CallRows" (139 : Nat) ({ cls := "CallRows", name := "argumentsFit", desc := "(LCallRows$Level;LCallRows$Program;)Z" } : Jvm.MethodName)) ∈ gU := gU_of 242 (by decide +kernel) rfl
theorem uw_243 : (Jvm.Cond.static ({ cls := "CallRows", name := "argumentsFit", desc := "(LCallRows$Level;LCallRows$Program;)Z" } : Jvm.MethodName)) ∈ gU := gU_of 243 (by decide +kernel) rfl
theorem uw_244 : (Jvm.Cond.code ({ cls := "CallRows", name := "argumentsFit", desc := "(LCallRows$Level;LCallRows$Program;)Z" } : Jvm.MethodName) prog_1_method_32_code (3 : Nat) (Option.some Jvm.ClassFile.FieldType.boolean)) ∈ gU := gU_of 244 (by decide +kernel) rfl
theorem uw_245 : (Jvm.Cond.methodLink "CallRows" (143 : Nat) ({ cls := "CallRows", name := "bytesSuffice", desc := "(LCallRows$Level;LCallRows$Program;)Z" } : Jvm.MethodName)) ∈ gU := gU_of 245 (by decide +kernel) rfl
theorem uw_246 : (Jvm.Cond.static ({ cls := "CallRows", name := "bytesSuffice", desc := "(LCallRows$Level;LCallRows$Program;)Z" } : Jvm.MethodName)) ∈ gU := gU_of 246 (by decide +kernel) rfl
theorem uw_247 : (Jvm.Cond.code ({ cls := "CallRows", name := "bytesSuffice", desc := "(LCallRows$Level;LCallRows$Program;)Z" } : Jvm.MethodName) prog_1_method_33_code (3 : Nat) (Option.some Jvm.ClassFile.FieldType.boolean)) ∈ gU := gU_of 247 (by decide +kernel) rfl
theorem uw_248 : (Jvm.Cond.methodLink "CallRows" (146 : Nat) ({ cls := "CallRows", name := "copyValues", desc := "(LCallRows$Level;LCallRows$Program;)V" } : Jvm.MethodName)) ∈ gU := gU_of 248 (by decide +kernel) rfl
theorem uw_249 : (Jvm.Cond.static ({ cls := "CallRows", name := "copyValues", desc := "(LCallRows$Level;LCallRows$Program;)V" } : Jvm.MethodName)) ∈ gU := gU_of 249 (by decide +kernel) rfl
theorem uw_250 : (Jvm.Cond.code ({ cls := "CallRows", name := "copyValues", desc := "(LCallRows$Level;LCallRows$Program;)V" } : Jvm.MethodName) prog_1_method_34_code (3 : Nat) (Option.none : Option Jvm.ClassFile.FieldType)) ∈ gU := gU_of 250 (by decide +kernel) rfl
theorem uw_251 : (Jvm.Cond.methodLink "CallRows" (153 : Nat) ({ cls := "CallRows$Program", name := "keepsData", desc := "()Z" } : Jvm.MethodName)) ∈ gU := gU_of 251 (by decide +kernel) rfl
theorem uw_252 : (Jvm.Cond.instanceMethod ({ cls := "CallRows$Program", name := "keepsData", desc := "()Z" } : Jvm.MethodName)) ∈ gU := gU_of 252 (by decide +kernel) rfl
theorem uw_253 : (Jvm.Cond.selects "CallRows$Program" ({ cls := "CallRows$Program", name := "keepsData", desc := "()Z" } : Jvm.MethodName) ({ cls := "CallRows$Program", name := "keepsData", desc := "()Z" } : Jvm.MethodName)) ∈ gU := gU_of 253 (by decide +kernel) rfl
theorem uw_254 : (Jvm.Cond.code ({ cls := "CallRows$Program", name := "keepsData", desc := "()Z" } : Jvm.MethodName) prog_3_method_3_code (1 : Nat) (Option.some Jvm.ClassFile.FieldType.boolean)) ∈ gU := gU_of 254 (by decide +kernel) rfl
theorem uw_255 : (Jvm.Cond.methodLink "CallRows$Program" (32 : Nat) ({ cls := "CallRows$Program", name := "has", desc := "(I)Z" } : Jvm.MethodName)) ∈ gU := gU_of 255 (by decide +kernel) rfl
theorem uw_256 : (Jvm.Cond.methodLink "CallRows" (157 : Nat) ({ cls := "CallRows", name := "giveFirstValues", desc := "(LCallRows$Program;)V" } : Jvm.MethodName)) ∈ gU := gU_of 256 (by decide +kernel) rfl
theorem uw_258 : (Jvm.Cond.instanceMethod ({ cls := "CallRows", name := "giveFirstValues", desc := "(LCallRows$Program;)V" } : Jvm.MethodName)) ∈ gU := gU_of 258 (by decide +kernel) rfl
theorem uw_259 : (Jvm.Cond.code ({ cls := "CallRows", name := "giveFirstValues", desc := "(LCallRows$Program;)V" } : Jvm.MethodName) prog_1_method_31_code (4 : Nat) (Option.none : Option Jvm.ClassFile.FieldType)) ∈ gU := gU_of 259 (by decide +kernel) rfl
theorem uw_260 : (Jvm.Cond.methodLink "CallRowsLaw" (56 : Nat) ({ cls := "CallRows", name := "set", desc := "(IJ)I" } : Jvm.MethodName)) ∈ gU := gU_of 260 (by decide +kernel) rfl
theorem uw_261 : (Jvm.Cond.instanceMethod ({ cls := "CallRows", name := "set", desc := "(IJ)I" } : Jvm.MethodName)) ∈ gU := gU_of 261 (by decide +kernel) rfl
theorem uw_262 : (Jvm.Cond.selects "CallRows" ({ cls := "CallRows", name := "set", desc := "(IJ)I" } : Jvm.MethodName) ({ cls := "CallRows", name := "set", desc := "(IJ)I" } : Jvm.MethodName)) ∈ gU := gU_of 262 (by decide +kernel) rfl
theorem uw_263 : (Jvm.Cond.code ({ cls := "CallRows", name := "set", desc := "(IJ)I" } : Jvm.MethodName) prog_1_method_8_code (8 : Nat) (Option.some Jvm.ClassFile.FieldType.int)) ∈ gU := gU_of 263 (by decide +kernel) rfl
theorem uw_264 : (Jvm.Cond.constantLong "CallRows" (160 : Nat) (-1 : Int64)) ∈ gU := gU_of 264 (by decide +kernel) rfl
theorem uw_265 : (Jvm.Cond.methodLink "CallRows" (162 : Nat) ({ cls := "CallRows", name := "unusedBits", desc := "(I)I" } : Jvm.MethodName)) ∈ gU := gU_of 265 (by decide +kernel) rfl
theorem uw_267 : (Jvm.Cond.instanceMethod ({ cls := "CallRows", name := "unusedBits", desc := "(I)I" } : Jvm.MethodName)) ∈ gU := gU_of 267 (by decide +kernel) rfl
theorem uw_268 : (Jvm.Cond.code ({ cls := "CallRows", name := "unusedBits", desc := "(I)I" } : Jvm.MethodName) prog_1_method_29_code (2 : Nat) (Option.some Jvm.ClassFile.FieldType.int)) ∈ gU := gU_of 268 (by decide +kernel) rfl
theorem uw_269 : (Jvm.Cond.methodLink "CallRowsLaw" (60 : Nat) ({ cls := "CallRows", name := "leave", desc := "(J)I" } : Jvm.MethodName)) ∈ gU := gU_of 269 (by decide +kernel) rfl
theorem uw_270 : (Jvm.Cond.instanceMethod ({ cls := "CallRows", name := "leave", desc := "(J)I" } : Jvm.MethodName)) ∈ gU := gU_of 270 (by decide +kernel) rfl
theorem uw_271 : (Jvm.Cond.selects "CallRows" ({ cls := "CallRows", name := "leave", desc := "(J)I" } : Jvm.MethodName) ({ cls := "CallRows", name := "leave", desc := "(J)I" } : Jvm.MethodName)) ∈ gU := gU_of 271 (by decide +kernel) rfl
theorem uw_272 : (Jvm.Cond.code ({ cls := "CallRows", name := "leave", desc := "(J)I" } : Jvm.MethodName) prog_1_method_9_code (5 : Nat) (Option.some Jvm.ClassFile.FieldType.int)) ∈ gU := gU_of 272 (by decide +kernel) rfl
theorem uw_273 : (Jvm.Cond.methodLink "CallRowsLaw" (72 : Nat) ({ cls := "CallRows", name := "cancel", desc := "(II)I" } : Jvm.MethodName)) ∈ gU := gU_of 273 (by decide +kernel) rfl
theorem uw_274 : (Jvm.Cond.instanceMethod ({ cls := "CallRows", name := "cancel", desc := "(II)I" } : Jvm.MethodName)) ∈ gU := gU_of 274 (by decide +kernel) rfl
theorem uw_275 : (Jvm.Cond.selects "CallRows" ({ cls := "CallRows", name := "cancel", desc := "(II)I" } : Jvm.MethodName) ({ cls := "CallRows", name := "cancel", desc := "(II)I" } : Jvm.MethodName)) ∈ gU := gU_of 275 (by decide +kernel) rfl
theorem uw_276 : (Jvm.Cond.code ({ cls := "CallRows", name := "cancel", desc := "(II)I" } : Jvm.MethodName) prog_1_method_11_code (4 : Nat) (Option.some Jvm.ClassFile.FieldType.int)) ∈ gU := gU_of 276 (by decide +kernel) rfl
theorem uw_277 : (Jvm.Cond.methodLink "CallRows" (186 : Nat) ({ cls := "CallRows", name := "anyActiveOf", desc := "(LCallRows$Program;)Z" } : Jvm.MethodName)) ∈ gU := gU_of 277 (by decide +kernel) rfl
theorem uw_279 : (Jvm.Cond.instanceMethod ({ cls := "CallRows", name := "anyActiveOf", desc := "(LCallRows$Program;)Z" } : Jvm.MethodName)) ∈ gU := gU_of 279 (by decide +kernel) rfl
theorem uw_280 : (Jvm.Cond.code ({ cls := "CallRows", name := "anyActiveOf", desc := "(LCallRows$Program;)Z" } : Jvm.MethodName) prog_1_method_35_code (4 : Nat) (Option.some Jvm.ClassFile.FieldType.boolean)) ∈ gU := gU_of 280 (by decide +kernel) rfl
theorem uw_281 : (Jvm.Cond.methodLink "CallRows" (190 : Nat) ({ cls := "CallRows", name := "makeFresh", desc := "(LCallRows$Program;)I" } : Jvm.MethodName)) ∈ gU := gU_of 281 (by decide +kernel) rfl
theorem uw_283 : (Jvm.Cond.instanceMethod ({ cls := "CallRows", name := "makeFresh", desc := "(LCallRows$Program;)I" } : Jvm.MethodName)) ∈ gU := gU_of 283 (by decide +kernel) rfl
theorem uw_284 : (Jvm.Cond.code ({ cls := "CallRows", name := "makeFresh", desc := "(LCallRows$Program;)I" } : Jvm.MethodName) prog_1_method_36_code (5 : Nat) (Option.some Jvm.ClassFile.FieldType.int)) ∈ gU := gU_of 284 (by decide +kernel) rfl
theorem uw_285 : (Jvm.Cond.methodLink "CallRowsLaw" (76 : Nat) ({ cls := "CallRows", name := "shared", desc := "(I)I" } : Jvm.MethodName)) ∈ gU := gU_of 285 (by decide +kernel) rfl
theorem uw_286 : (Jvm.Cond.instanceMethod ({ cls := "CallRows", name := "shared", desc := "(I)I" } : Jvm.MethodName)) ∈ gU := gU_of 286 (by decide +kernel) rfl
theorem uw_287 : (Jvm.Cond.selects "CallRows" ({ cls := "CallRows", name := "shared", desc := "(I)I" } : Jvm.MethodName) ({ cls := "CallRows", name := "shared", desc := "(I)I" } : Jvm.MethodName)) ∈ gU := gU_of 287 (by decide +kernel) rfl
theorem uw_288 : (Jvm.Cond.code ({ cls := "CallRows", name := "shared", desc := "(I)I" } : Jvm.MethodName) prog_1_method_12_code (2 : Nat) (Option.some Jvm.ClassFile.FieldType.int)) ∈ gU := gU_of 288 (by decide +kernel) rfl
theorem uw_289 : (Jvm.Cond.methodLink "CallRowsLaw" (81 : Nat) ({ cls := "CallRows", name := "state", desc := "(I)I" } : Jvm.MethodName)) ∈ gU := gU_of 289 (by decide +kernel) rfl
theorem uw_290 : (Jvm.Cond.instanceMethod ({ cls := "CallRows", name := "state", desc := "(I)I" } : Jvm.MethodName)) ∈ gU := gU_of 290 (by decide +kernel) rfl
theorem uw_291 : (Jvm.Cond.selects "CallRows" ({ cls := "CallRows", name := "state", desc := "(I)I" } : Jvm.MethodName) ({ cls := "CallRows", name := "state", desc := "(I)I" } : Jvm.MethodName)) ∈ gU := gU_of 291 (by decide +kernel) rfl
theorem uw_292 : (Jvm.Cond.code ({ cls := "CallRows", name := "state", desc := "(I)I" } : Jvm.MethodName) prog_1_method_13_code (3 : Nat) (Option.some Jvm.ClassFile.FieldType.int)) ∈ gU := gU_of 292 (by decide +kernel) rfl
theorem uw_293 : (Jvm.Cond.methodLink "CallRowsLaw" (85 : Nat) ({ cls := "CallRows", name := "returned", desc := "()J" } : Jvm.MethodName)) ∈ gU := gU_of 293 (by decide +kernel) rfl
theorem uw_294 : (Jvm.Cond.instanceMethod ({ cls := "CallRows", name := "returned", desc := "()J" } : Jvm.MethodName)) ∈ gU := gU_of 294 (by decide +kernel) rfl
theorem uw_295 : (Jvm.Cond.selects "CallRows" ({ cls := "CallRows", name := "returned", desc := "()J" } : Jvm.MethodName) ({ cls := "CallRows", name := "returned", desc := "()J" } : Jvm.MethodName)) ∈ gU := gU_of 295 (by decide +kernel) rfl
theorem uw_296 : (Jvm.Cond.code ({ cls := "CallRows", name := "returned", desc := "()J" } : Jvm.MethodName) prog_1_method_14_code (1 : Nat) (Option.some Jvm.ClassFile.FieldType.long)) ∈ gU := gU_of 296 (by decide +kernel) rfl
theorem uw_297 : (Jvm.Cond.methodLink "CallRowsLaw" (90 : Nat) ({ cls := "CallRows", name := "count", desc := "(I)I" } : Jvm.MethodName)) ∈ gU := gU_of 297 (by decide +kernel) rfl
theorem uw_298 : (Jvm.Cond.instanceMethod ({ cls := "CallRows", name := "count", desc := "(I)I" } : Jvm.MethodName)) ∈ gU := gU_of 298 (by decide +kernel) rfl
theorem uw_299 : (Jvm.Cond.selects "CallRows" ({ cls := "CallRows", name := "count", desc := "(I)I" } : Jvm.MethodName) ({ cls := "CallRows", name := "count", desc := "(I)I" } : Jvm.MethodName)) ∈ gU := gU_of 299 (by decide +kernel) rfl
theorem uw_300 : (Jvm.Cond.code ({ cls := "CallRows", name := "count", desc := "(I)I" } : Jvm.MethodName) prog_1_method_15_code (2 : Nat) (Option.some Jvm.ClassFile.FieldType.int)) ∈ gU := gU_of 300 (by decide +kernel) rfl
theorem uw_301 : (Jvm.Cond.methodLink "CallRowsLaw" (15 : Nat) ({ cls := "CallRowsLaw", name := "cell", desc := "([II)I" } : Jvm.MethodName)) ∈ gU := gU_of 301 (by decide +kernel) rfl
theorem uw_302 : (Jvm.Cond.static ({ cls := "CallRowsLaw", name := "cell", desc := "([II)I" } : Jvm.MethodName)) ∈ gU := gU_of 302 (by decide +kernel) rfl
theorem uw_303 : (Jvm.Cond.code ({ cls := "CallRowsLaw", name := "cell", desc := "([II)I" } : Jvm.MethodName) method_2_code (2 : Nat) (Option.some Jvm.ClassFile.FieldType.int)) ∈ gU := gU_of 303 (by decide +kernel) rfl
theorem uw_304 : (Jvm.Cond.methodLink "CallRowsLaw" (65 : Nat) ({ cls := "CallRowsLaw", name := "get", desc := "(LCallRows;I[J)I" } : Jvm.MethodName)) ∈ gU := gU_of 304 (by decide +kernel) rfl
theorem uw_305 : (Jvm.Cond.static ({ cls := "CallRowsLaw", name := "get", desc := "(LCallRows;I[J)I" } : Jvm.MethodName)) ∈ gU := gU_of 305 (by decide +kernel) rfl
theorem uw_308 : (Jvm.Cond.methodLink "CallRowsLaw" (7 : Nat) ({ cls := "CallRows", name := "get", desc := "(I)J" } : Jvm.MethodName)) ∈ gU := gU_of 308 (by decide +kernel) rfl
theorem uw_309 : (Jvm.Cond.instanceMethod ({ cls := "CallRows", name := "get", desc := "(I)J" } : Jvm.MethodName)) ∈ gU := gU_of 309 (by decide +kernel) rfl
theorem uw_310 : (Jvm.Cond.selects "CallRows" ({ cls := "CallRows", name := "get", desc := "(I)J" } : Jvm.MethodName) ({ cls := "CallRows", name := "get", desc := "(I)J" } : Jvm.MethodName)) ∈ gU := gU_of 310 (by decide +kernel) rfl
theorem uw_311 : (Jvm.Cond.code ({ cls := "CallRows", name := "get", desc := "(I)J" } : Jvm.MethodName) prog_1_method_10_code (4 : Nat) (Option.some Jvm.ClassFile.FieldType.long)) ∈ gU := gU_of 311 (by decide +kernel) rfl
theorem uw_377 : (Jvm.Cond.arrayClass Jvm.ClassFile.FieldType.byte) ∈ gU := gU_of 377 (by decide +kernel) rfl
theorem uw_378 : (Jvm.Cond.classLink "CallRowsLaw" (24 : Nat) "CallRowsModel") ∈ gU := gU_of 378 (by decide +kernel) rfl
theorem uw_379 : (Jvm.Cond.instantiable "CallRowsModel" (29 : Nat)) ∈ gU := gU_of 379 (by decide +kernel) rfl
theorem uw_380 : (Jvm.Cond.methodLink "CallRowsLaw" (26 : Nat) ({ cls := "CallRowsModel", name := "<init>", desc := "(I)V" } : Jvm.MethodName)) ∈ gU := gU_of 380 (by decide +kernel) rfl
theorem uw_381 : (Jvm.Cond.instanceMethod ({ cls := "CallRowsModel", name := "<init>", desc := "(I)V" } : Jvm.MethodName)) ∈ gU := gU_of 381 (by decide +kernel) rfl
theorem uw_382 : (Jvm.Cond.code ({ cls := "CallRowsModel", name := "<init>", desc := "(I)V" } : Jvm.MethodName) prog_5_method_1_code (2 : Nat) (Option.none : Option Jvm.ClassFile.FieldType)) ∈ gU := gU_of 382 (by decide +kernel) rfl
theorem uw_383 : (Jvm.Cond.methodLink "CallRowsModel" (1 : Nat) ({ cls := "java/lang/Object", name := "<init>", desc := "()V" } : Jvm.MethodName)) ∈ gU := gU_of 383 (by decide +kernel) rfl
theorem uw_384 : (Jvm.Cond.constant "CallRowsModel" (48 : Nat) (60000 : Int32)) ∈ gU := gU_of 384 (by decide +kernel) rfl
theorem uw_385 : (Jvm.Cond.constant "CallRowsModel" (74 : Nat) (65536 : Int32)) ∈ gU := gU_of 385 (by decide +kernel) rfl
theorem uw_386 : (Jvm.Cond.fieldLink "CallRowsModel" (78 : Nat) "CallRowsModel" "code" "I") ∈ gU := gU_of 386 (by decide +kernel) rfl
theorem uw_387 : (Jvm.Cond.fieldLink "CallRowsModel" (75 : Nat) "CallRowsModel" "depth" "I") ∈ gU := gU_of 387 (by decide +kernel) rfl
theorem uw_388 : (Jvm.Cond.fieldLink "CallRowsModel" (7 : Nat) "CallRowsModel" "within" "[I") ∈ gU := gU_of 388 (by decide +kernel) rfl
theorem uw_389 : (Jvm.Cond.fieldLink "CallRowsModel" (13 : Nat) "CallRowsModel" "names" "[I") ∈ gU := gU_of 389 (by decide +kernel) rfl
theorem uw_390 : (Jvm.Cond.fieldLink "CallRowsModel" (16 : Nat) "CallRowsModel" "marks" "[I") ∈ gU := gU_of 390 (by decide +kernel) rfl
theorem uw_391 : (Jvm.Cond.fieldLink "CallRowsModel" (19 : Nat) "CallRowsModel" "manyFormals" "[I") ∈ gU := gU_of 391 (by decide +kernel) rfl
theorem uw_392 : (Jvm.Cond.fieldLink "CallRowsModel" (22 : Nat) "CallRowsModel" "activeTimes" "[I") ∈ gU := gU_of 392 (by decide +kernel) rfl
theorem uw_393 : (Jvm.Cond.fieldLink "CallRowsModel" (25 : Nat) "CallRowsModel" "data" "[Z") ∈ gU := gU_of 393 (by decide +kernel) rfl
theorem uw_394 : (Jvm.Cond.fieldLink "CallRowsModel" (81 : Nat) "CallRowsModel" "programs" "I") ∈ gU := gU_of 394 (by decide +kernel) rfl
theorem uw_395 : (Jvm.Cond.fieldLink "CallRowsModel" (29 : Nat) "CallRowsModel" "owner" "[I") ∈ gU := gU_of 395 (by decide +kernel) rfl
theorem uw_396 : (Jvm.Cond.fieldLink "CallRowsModel" (32 : Nat) "CallRowsModel" "rank" "[I") ∈ gU := gU_of 396 (by decide +kernel) rfl
theorem uw_397 : (Jvm.Cond.fieldLink "CallRowsModel" (35 : Nat) "CallRowsModel" "external" "[I") ∈ gU := gU_of 397 (by decide +kernel) rfl
theorem uw_398 : (Jvm.Cond.fieldLink "CallRowsModel" (38 : Nat) "CallRowsModel" "first" "[J") ∈ gU := gU_of 398 (by decide +kernel) rfl
theorem uw_399 : (Jvm.Cond.fieldLink "CallRowsModel" (98 : Nat) "CallRowsModel" "cells" "I") ∈ gU := gU_of 399 (by decide +kernel) rfl
theorem uw_400 : (Jvm.Cond.fieldLink "CallRowsModel" (42 : Nat) "CallRowsModel" "how" "[I") ∈ gU := gU_of 400 (by decide +kernel) rfl
theorem uw_401 : (Jvm.Cond.fieldLink "CallRowsModel" (45 : Nat) "CallRowsModel" "bytes" "[I") ∈ gU := gU_of 401 (by decide +kernel) rfl
theorem uw_402 : (Jvm.Cond.fieldLink "CallRowsModel" (49 : Nat) "CallRowsModel" "memory" "[J") ∈ gU := gU_of 402 (by decide +kernel) rfl
theorem uw_403 : (Jvm.Cond.fieldLink "CallRowsModel" (52 : Nat) "CallRowsModel" "used" "I") ∈ gU := gU_of 403 (by decide +kernel) rfl
theorem uw_404 : (Jvm.Cond.fieldLink "CallRowsModel" (56 : Nat) "CallRowsModel" "callOf" "[I") ∈ gU := gU_of 404 (by decide +kernel) rfl
theorem uw_405 : (Jvm.Cond.fieldLink "CallRowsModel" (59 : Nat) "CallRowsModel" "baseOf" "[I") ∈ gU := gU_of 405 (by decide +kernel) rfl
theorem uw_406 : (Jvm.Cond.fieldLink "CallRowsModel" (62 : Nat) "CallRowsModel" "usedAhead" "[I") ∈ gU := gU_of 406 (by decide +kernel) rfl
theorem uw_407 : (Jvm.Cond.fieldLink "CallRowsModel" (65 : Nat) "CallRowsModel" "placeOf" "[I") ∈ gU := gU_of 407 (by decide +kernel) rfl
theorem uw_408 : (Jvm.Cond.fieldLink "CallRowsModel" (84 : Nat) "CallRowsModel" "active" "I") ∈ gU := gU_of 408 (by decide +kernel) rfl
theorem uw_409 : (Jvm.Cond.fieldLink "CallRowsModel" (129 : Nat) "CallRowsModel" "prepared" "I") ∈ gU := gU_of 409 (by decide +kernel) rfl
theorem uw_410 : (Jvm.Cond.fieldLink "CallRowsModel" (135 : Nat) "CallRowsModel" "arguments" "I") ∈ gU := gU_of 410 (by decide +kernel) rfl
theorem uw_411 : (Jvm.Cond.fieldLink "CallRowsModel" (132 : Nat) "CallRowsModel" "preparedAhead" "I") ∈ gU := gU_of 411 (by decide +kernel) rfl
theorem uw_412 : (Jvm.Cond.fieldLink "CallRowsModel" (68 : Nat) "CallRowsModel" "argument" "[I") ∈ gU := gU_of 412 (by decide +kernel) rfl
theorem uw_413 : (Jvm.Cond.fieldLink "CallRowsModel" (71 : Nat) "CallRowsModel" "argumentBytes" "[I") ∈ gU := gU_of 413 (by decide +kernel) rfl
theorem uw_414 : (Jvm.Cond.fieldLink "CallRowsModel" (154 : Nat) "CallRowsModel" "returns" "J") ∈ gU := gU_of 414 (by decide +kernel) rfl
theorem uw_415 : (Jvm.Cond.lays "CallRowsModel" "CallRowsModel" "code" "I") ∈ gU := gU_of 415 (by decide +kernel) rfl
theorem uw_417 : (Jvm.Cond.laysFinal "CallRowsModel" "CallRowsModel" "depth" "I") ∈ gU := gU_of 417 (by decide +kernel) rfl
theorem uw_419 : (Jvm.Cond.laysFinal "CallRowsModel" "CallRowsModel" "within" "[I") ∈ gU := gU_of 419 (by decide +kernel) rfl
theorem uw_421 : (Jvm.Cond.laysFinal "CallRowsModel" "CallRowsModel" "names" "[I") ∈ gU := gU_of 421 (by decide +kernel) rfl
theorem uw_423 : (Jvm.Cond.laysFinal "CallRowsModel" "CallRowsModel" "marks" "[I") ∈ gU := gU_of 423 (by decide +kernel) rfl
theorem uw_425 : (Jvm.Cond.laysFinal "CallRowsModel" "CallRowsModel" "manyFormals" "[I") ∈ gU := gU_of 425 (by decide +kernel) rfl
theorem uw_427 : (Jvm.Cond.laysFinal "CallRowsModel" "CallRowsModel" "activeTimes" "[I") ∈ gU := gU_of 427 (by decide +kernel) rfl
theorem uw_429 : (Jvm.Cond.laysFinal "CallRowsModel" "CallRowsModel" "data" "[Z") ∈ gU := gU_of 429 (by decide +kernel) rfl
theorem uw_431 : (Jvm.Cond.lays "CallRowsModel" "CallRowsModel" "programs" "I") ∈ gU := gU_of 431 (by decide +kernel) rfl
theorem uw_433 : (Jvm.Cond.laysFinal "CallRowsModel" "CallRowsModel" "owner" "[I") ∈ gU := gU_of 433 (by decide +kernel) rfl
theorem uw_435 : (Jvm.Cond.laysFinal "CallRowsModel" "CallRowsModel" "rank" "[I") ∈ gU := gU_of 435 (by decide +kernel) rfl
theorem uw_437 : (Jvm.Cond.laysFinal "CallRowsModel" "CallRowsModel" "external" "[I") ∈ gU := gU_of 437 (by decide +kernel) rfl
theorem uw_439 : (Jvm.Cond.laysFinal "CallRowsModel" "CallRowsModel" "first" "[J") ∈ gU := gU_of 439 (by decide +kernel) rfl
theorem uw_441 : (Jvm.Cond.lays "CallRowsModel" "CallRowsModel" "cells" "I") ∈ gU := gU_of 441 (by decide +kernel) rfl
theorem uw_443 : (Jvm.Cond.laysFinal "CallRowsModel" "CallRowsModel" "how" "[I") ∈ gU := gU_of 443 (by decide +kernel) rfl
theorem uw_445 : (Jvm.Cond.laysFinal "CallRowsModel" "CallRowsModel" "bytes" "[I") ∈ gU := gU_of 445 (by decide +kernel) rfl
theorem uw_447 : (Jvm.Cond.laysFinal "CallRowsModel" "CallRowsModel" "memory" "[J") ∈ gU := gU_of 447 (by decide +kernel) rfl
theorem uw_449 : (Jvm.Cond.lays "CallRowsModel" "CallRowsModel" "used" "I") ∈ gU := gU_of 449 (by decide +kernel) rfl
theorem uw_451 : (Jvm.Cond.laysFinal "CallRowsModel" "CallRowsModel" "callOf" "[I") ∈ gU := gU_of 451 (by decide +kernel) rfl
theorem uw_453 : (Jvm.Cond.laysFinal "CallRowsModel" "CallRowsModel" "baseOf" "[I") ∈ gU := gU_of 453 (by decide +kernel) rfl
theorem uw_455 : (Jvm.Cond.laysFinal "CallRowsModel" "CallRowsModel" "usedAhead" "[I") ∈ gU := gU_of 455 (by decide +kernel) rfl
theorem uw_457 : (Jvm.Cond.laysFinal "CallRowsModel" "CallRowsModel" "placeOf" "[I") ∈ gU := gU_of 457 (by decide +kernel) rfl
theorem uw_459 : (Jvm.Cond.lays "CallRowsModel" "CallRowsModel" "active" "I") ∈ gU := gU_of 459 (by decide +kernel) rfl
theorem uw_461 : (Jvm.Cond.lays "CallRowsModel" "CallRowsModel" "prepared" "I") ∈ gU := gU_of 461 (by decide +kernel) rfl
theorem uw_463 : (Jvm.Cond.lays "CallRowsModel" "CallRowsModel" "arguments" "I") ∈ gU := gU_of 463 (by decide +kernel) rfl
theorem uw_465 : (Jvm.Cond.lays "CallRowsModel" "CallRowsModel" "preparedAhead" "I") ∈ gU := gU_of 465 (by decide +kernel) rfl
theorem uw_467 : (Jvm.Cond.laysFinal "CallRowsModel" "CallRowsModel" "argument" "[I") ∈ gU := gU_of 467 (by decide +kernel) rfl
theorem uw_469 : (Jvm.Cond.laysFinal "CallRowsModel" "CallRowsModel" "argumentBytes" "[I") ∈ gU := gU_of 469 (by decide +kernel) rfl
theorem uw_471 : (Jvm.Cond.lays "CallRowsModel" "CallRowsModel" "returns" "J") ∈ gU := gU_of 471 (by decide +kernel) rfl
theorem uw_474 : (Jvm.Cond.arrayClass Jvm.ClassFile.FieldType.boolean) ∈ gU := gU_of 474 (by decide +kernel) rfl
theorem uw_475 : (Jvm.Cond.methodLink "CallRowsLaw" (69 : Nat) ({ cls := "CallRowsModel", name := "thrown", desc := "()I" } : Jvm.MethodName)) ∈ gU := gU_of 475 (by decide +kernel) rfl
theorem uw_476 : (Jvm.Cond.instanceMethod ({ cls := "CallRowsModel", name := "thrown", desc := "()I" } : Jvm.MethodName)) ∈ gU := gU_of 476 (by decide +kernel) rfl
theorem uw_477 : (Jvm.Cond.selects "CallRowsModel" ({ cls := "CallRowsModel", name := "thrown", desc := "()I" } : Jvm.MethodName) ({ cls := "CallRowsModel", name := "thrown", desc := "()I" } : Jvm.MethodName)) ∈ gU := gU_of 477 (by decide +kernel) rfl
theorem uw_478 : (Jvm.Cond.code ({ cls := "CallRowsModel", name := "thrown", desc := "()I" } : Jvm.MethodName) prog_5_method_2_code (1 : Nat) (Option.some Jvm.ClassFile.FieldType.int)) ∈ gU := gU_of 478 (by decide +kernel) rfl
theorem uw_479 : (Jvm.Cond.methodLink "CallRowsLaw" (31 : Nat) ({ cls := "CallRowsModel", name := "program", desc := "(III)I" } : Jvm.MethodName)) ∈ gU := gU_of 479 (by decide +kernel) rfl
theorem uw_480 : (Jvm.Cond.instanceMethod ({ cls := "CallRowsModel", name := "program", desc := "(III)I" } : Jvm.MethodName)) ∈ gU := gU_of 480 (by decide +kernel) rfl
theorem uw_481 : (Jvm.Cond.selects "CallRowsModel" ({ cls := "CallRowsModel", name := "program", desc := "(III)I" } : Jvm.MethodName) ({ cls := "CallRowsModel", name := "program", desc := "(III)I" } : Jvm.MethodName)) ∈ gU := gU_of 481 (by decide +kernel) rfl
theorem uw_482 : (Jvm.Cond.code ({ cls := "CallRowsModel", name := "program", desc := "(III)I" } : Jvm.MethodName) prog_5_method_7_code (4 : Nat) (Option.some Jvm.ClassFile.FieldType.int)) ∈ gU := gU_of 482 (by decide +kernel) rfl
theorem uw_483 : (Jvm.Cond.methodLink "CallRowsModel" (87 : Nat) ({ cls := "CallRowsModel", name := "isName", desc := "(I)Z" } : Jvm.MethodName)) ∈ gU := gU_of 483 (by decide +kernel) rfl
theorem uw_484 : (Jvm.Cond.static ({ cls := "CallRowsModel", name := "isName", desc := "(I)Z" } : Jvm.MethodName)) ∈ gU := gU_of 484 (by decide +kernel) rfl
theorem uw_485 : (Jvm.Cond.code ({ cls := "CallRowsModel", name := "isName", desc := "(I)Z" } : Jvm.MethodName) prog_5_method_6_code (1 : Nat) (Option.some Jvm.ClassFile.FieldType.boolean)) ∈ gU := gU_of 485 (by decide +kernel) rfl
theorem uw_486 : (Jvm.Cond.methodLink "CallRowsModel" (91 : Nat) ({ cls := "CallRowsModel", name := "directly", desc := "(II)I" } : Jvm.MethodName)) ∈ gU := gU_of 486 (by decide +kernel) rfl
theorem uw_488 : (Jvm.Cond.instanceMethod ({ cls := "CallRowsModel", name := "directly", desc := "(II)I" } : Jvm.MethodName)) ∈ gU := gU_of 488 (by decide +kernel) rfl
theorem uw_489 : (Jvm.Cond.code ({ cls := "CallRowsModel", name := "directly", desc := "(II)I" } : Jvm.MethodName) prog_5_method_11_code (5 : Nat) (Option.some Jvm.ClassFile.FieldType.int)) ∈ gU := gU_of 489 (by decide +kernel) rfl
theorem uw_490 : (Jvm.Cond.methodLink "CallRowsLaw" (37 : Nat) ({ cls := "CallRowsModel", name := "cell", desc := "(IJ)I" } : Jvm.MethodName)) ∈ gU := gU_of 490 (by decide +kernel) rfl
theorem uw_491 : (Jvm.Cond.instanceMethod ({ cls := "CallRowsModel", name := "cell", desc := "(IJ)I" } : Jvm.MethodName)) ∈ gU := gU_of 491 (by decide +kernel) rfl
theorem uw_492 : (Jvm.Cond.selects "CallRowsModel" ({ cls := "CallRowsModel", name := "cell", desc := "(IJ)I" } : Jvm.MethodName) ({ cls := "CallRowsModel", name := "cell", desc := "(IJ)I" } : Jvm.MethodName)) ∈ gU := gU_of 492 (by decide +kernel) rfl
theorem uw_493 : (Jvm.Cond.code ({ cls := "CallRowsModel", name := "cell", desc := "(IJ)I" } : Jvm.MethodName) prog_5_method_8_code (6 : Nat) (Option.some Jvm.ClassFile.FieldType.int)) ∈ gU := gU_of 493 (by decide +kernel) rfl
theorem uw_494 : (Jvm.Cond.methodLink "CallRowsModel" (95 : Nat) ({ cls := "CallRowsModel", name := "isProgram", desc := "(I)Z" } : Jvm.MethodName)) ∈ gU := gU_of 494 (by decide +kernel) rfl
theorem uw_496 : (Jvm.Cond.instanceMethod ({ cls := "CallRowsModel", name := "isProgram", desc := "(I)Z" } : Jvm.MethodName)) ∈ gU := gU_of 496 (by decide +kernel) rfl
theorem uw_497 : (Jvm.Cond.code ({ cls := "CallRowsModel", name := "isProgram", desc := "(I)Z" } : Jvm.MethodName) prog_5_method_3_code (2 : Nat) (Option.some Jvm.ClassFile.FieldType.boolean)) ∈ gU := gU_of 497 (by decide +kernel) rfl
theorem uw_498 : (Jvm.Cond.methodLink "CallRowsLaw" (41 : Nat) ({ cls := "CallRowsModel", name := "formal", desc := "(III)I" } : Jvm.MethodName)) ∈ gU := gU_of 498 (by decide +kernel) rfl
theorem uw_499 : (Jvm.Cond.instanceMethod ({ cls := "CallRowsModel", name := "formal", desc := "(III)I" } : Jvm.MethodName)) ∈ gU := gU_of 499 (by decide +kernel) rfl
theorem uw_500 : (Jvm.Cond.selects "CallRowsModel" ({ cls := "CallRowsModel", name := "formal", desc := "(III)I" } : Jvm.MethodName) ({ cls := "CallRowsModel", name := "formal", desc := "(III)I" } : Jvm.MethodName)) ∈ gU := gU_of 500 (by decide +kernel) rfl
theorem uw_501 : (Jvm.Cond.code ({ cls := "CallRowsModel", name := "formal", desc := "(III)I" } : Jvm.MethodName) prog_5_method_9_code (5 : Nat) (Option.some Jvm.ClassFile.FieldType.int)) ∈ gU := gU_of 501 (by decide +kernel) rfl
theorem uw_502 : (Jvm.Cond.methodLink "CallRowsLaw" (80 : Nat) ({ cls := "CallRowsModel", name := "shared", desc := "(I)I" } : Jvm.MethodName)) ∈ gU := gU_of 502 (by decide +kernel) rfl
theorem uw_503 : (Jvm.Cond.instanceMethod ({ cls := "CallRowsModel", name := "shared", desc := "(I)I" } : Jvm.MethodName)) ∈ gU := gU_of 503 (by decide +kernel) rfl
theorem uw_504 : (Jvm.Cond.selects "CallRowsModel" ({ cls := "CallRowsModel", name := "shared", desc := "(I)I" } : Jvm.MethodName) ({ cls := "CallRowsModel", name := "shared", desc := "(I)I" } : Jvm.MethodName)) ∈ gU := gU_of 504 (by decide +kernel) rfl
theorem uw_505 : (Jvm.Cond.code ({ cls := "CallRowsModel", name := "shared", desc := "(I)I" } : Jvm.MethodName) prog_5_method_10_code (3 : Nat) (Option.some Jvm.ClassFile.FieldType.int)) ∈ gU := gU_of 505 (by decide +kernel) rfl
theorem uw_506 : (Jvm.Cond.methodLink "CallRowsLaw" (59 : Nat) ({ cls := "CallRowsModel", name := "set", desc := "(IJ)I" } : Jvm.MethodName)) ∈ gU := gU_of 506 (by decide +kernel) rfl
theorem uw_507 : (Jvm.Cond.instanceMethod ({ cls := "CallRowsModel", name := "set", desc := "(IJ)I" } : Jvm.MethodName)) ∈ gU := gU_of 507 (by decide +kernel) rfl
theorem uw_508 : (Jvm.Cond.selects "CallRowsModel" ({ cls := "CallRowsModel", name := "set", desc := "(IJ)I" } : Jvm.MethodName) ({ cls := "CallRowsModel", name := "set", desc := "(IJ)I" } : Jvm.MethodName)) ∈ gU := gU_of 508 (by decide +kernel) rfl
theorem uw_509 : (Jvm.Cond.code ({ cls := "CallRowsModel", name := "set", desc := "(IJ)I" } : Jvm.MethodName) prog_5_method_19_code (5 : Nat) (Option.some Jvm.ClassFile.FieldType.int)) ∈ gU := gU_of 509 (by decide +kernel) rfl
theorem uw_510 : (Jvm.Cond.methodLink "CallRowsModel" (114 : Nat) ({ cls := "CallRowsModel", name := "place", desc := "(I)I" } : Jvm.MethodName)) ∈ gU := gU_of 510 (by decide +kernel) rfl
theorem uw_512 : (Jvm.Cond.instanceMethod ({ cls := "CallRowsModel", name := "place", desc := "(I)I" } : Jvm.MethodName)) ∈ gU := gU_of 512 (by decide +kernel) rfl
theorem uw_513 : (Jvm.Cond.code ({ cls := "CallRowsModel", name := "place", desc := "(I)I" } : Jvm.MethodName) prog_5_method_14_code (7 : Nat) (Option.some Jvm.ClassFile.FieldType.int)) ∈ gU := gU_of 513 (by decide +kernel) rfl
theorem uw_514 : (Jvm.Cond.methodLink "CallRowsModel" (108 : Nat) ({ cls := "CallRowsModel", name := "running", desc := "()I" } : Jvm.MethodName)) ∈ gU := gU_of 514 (by decide +kernel) rfl
theorem uw_516 : (Jvm.Cond.instanceMethod ({ cls := "CallRowsModel", name := "running", desc := "()I" } : Jvm.MethodName)) ∈ gU := gU_of 516 (by decide +kernel) rfl
theorem uw_517 : (Jvm.Cond.code ({ cls := "CallRowsModel", name := "running", desc := "()I" } : Jvm.MethodName) prog_5_method_5_code (1 : Nat) (Option.some Jvm.ClassFile.FieldType.int)) ∈ gU := gU_of 517 (by decide +kernel) rfl
theorem uw_518 : (Jvm.Cond.constantLong "CallRowsModel" (112 : Nat) (-1 : Int64)) ∈ gU := gU_of 518 (by decide +kernel) rfl
theorem uw_519 : (Jvm.Cond.methodLink "CallRowsModel" (101 : Nat) ({ cls := "CallRowsModel", name := "is", desc := "(II)Z" } : Jvm.MethodName)) ∈ gU := gU_of 519 (by decide +kernel) rfl
theorem uw_521 : (Jvm.Cond.instanceMethod ({ cls := "CallRowsModel", name := "is", desc := "(II)Z" } : Jvm.MethodName)) ∈ gU := gU_of 521 (by decide +kernel) rfl
theorem uw_522 : (Jvm.Cond.code ({ cls := "CallRowsModel", name := "is", desc := "(II)Z" } : Jvm.MethodName) prog_5_method_4_code (3 : Nat) (Option.some Jvm.ClassFile.FieldType.boolean)) ∈ gU := gU_of 522 (by decide +kernel) rfl
theorem uw_523 : (Jvm.Cond.methodLink "CallRowsModel" (105 : Nat) ({ cls := "CallRowsModel", name := "liesIn", desc := "(II)Z" } : Jvm.MethodName)) ∈ gU := gU_of 523 (by decide +kernel) rfl
theorem uw_525 : (Jvm.Cond.instanceMethod ({ cls := "CallRowsModel", name := "liesIn", desc := "(II)Z" } : Jvm.MethodName)) ∈ gU := gU_of 525 (by decide +kernel) rfl
theorem uw_526 : (Jvm.Cond.code ({ cls := "CallRowsModel", name := "liesIn", desc := "(II)Z" } : Jvm.MethodName) prog_5_method_12_code (4 : Nat) (Option.some Jvm.ClassFile.FieldType.boolean)) ∈ gU := gU_of 526 (by decide +kernel) rfl
theorem uw_527 : (Jvm.Cond.methodLink "CallRowsModel" (118 : Nat) ({ cls := "CallRowsModel", name := "bytesOf", desc := "(I)I" } : Jvm.MethodName)) ∈ gU := gU_of 527 (by decide +kernel) rfl
theorem uw_529 : (Jvm.Cond.instanceMethod ({ cls := "CallRowsModel", name := "bytesOf", desc := "(I)I" } : Jvm.MethodName)) ∈ gU := gU_of 529 (by decide +kernel) rfl
theorem uw_530 : (Jvm.Cond.code ({ cls := "CallRowsModel", name := "bytesOf", desc := "(I)I" } : Jvm.MethodName) prog_5_method_15_code (2 : Nat) (Option.some Jvm.ClassFile.FieldType.int)) ∈ gU := gU_of 530 (by decide +kernel) rfl
theorem uw_531 : (Jvm.Cond.methodLink "CallRowsModel" (121 : Nat) ({ cls := "CallRowsModel", name := "store", desc := "(IIJ)V" } : Jvm.MethodName)) ∈ gU := gU_of 531 (by decide +kernel) rfl
theorem uw_533 : (Jvm.Cond.instanceMethod ({ cls := "CallRowsModel", name := "store", desc := "(IIJ)V" } : Jvm.MethodName)) ∈ gU := gU_of 533 (by decide +kernel) rfl
theorem uw_534 : (Jvm.Cond.code ({ cls := "CallRowsModel", name := "store", desc := "(IIJ)V" } : Jvm.MethodName) prog_5_method_17_code (7 : Nat) (Option.none : Option Jvm.ClassFile.FieldType)) ∈ gU := gU_of 534 (by decide +kernel) rfl
theorem uw_535 : (Jvm.Cond.methodLink "CallRowsLaw" (68 : Nat) ({ cls := "CallRowsModel", name := "get", desc := "(I)J" } : Jvm.MethodName)) ∈ gU := gU_of 535 (by decide +kernel) rfl
theorem uw_536 : (Jvm.Cond.instanceMethod ({ cls := "CallRowsModel", name := "get", desc := "(I)J" } : Jvm.MethodName)) ∈ gU := gU_of 536 (by decide +kernel) rfl
theorem uw_537 : (Jvm.Cond.selects "CallRowsModel" ({ cls := "CallRowsModel", name := "get", desc := "(I)J" } : Jvm.MethodName) ({ cls := "CallRowsModel", name := "get", desc := "(I)J" } : Jvm.MethodName)) ∈ gU := gU_of 537 (by decide +kernel) rfl
theorem uw_538 : (Jvm.Cond.code ({ cls := "CallRowsModel", name := "get", desc := "(I)J" } : Jvm.MethodName) prog_5_method_20_code (3 : Nat) (Option.some Jvm.ClassFile.FieldType.long)) ∈ gU := gU_of 538 (by decide +kernel) rfl
theorem uw_539 : (Jvm.Cond.methodLink "CallRowsModel" (125 : Nat) ({ cls := "CallRowsModel", name := "signed", desc := "(JI)J" } : Jvm.MethodName)) ∈ gU := gU_of 539 (by decide +kernel) rfl
theorem uw_540 : (Jvm.Cond.static ({ cls := "CallRowsModel", name := "signed", desc := "(JI)J" } : Jvm.MethodName)) ∈ gU := gU_of 540 (by decide +kernel) rfl
theorem uw_541 : (Jvm.Cond.code ({ cls := "CallRowsModel", name := "signed", desc := "(JI)J" } : Jvm.MethodName) prog_5_method_16_code (3 : Nat) (Option.some Jvm.ClassFile.FieldType.long)) ∈ gU := gU_of 541 (by decide +kernel) rfl
theorem uw_542 : (Jvm.Cond.methodLink "CallRowsLaw" (46 : Nat) ({ cls := "CallRowsModel", name := "call", desc := "(II)I" } : Jvm.MethodName)) ∈ gU := gU_of 542 (by decide +kernel) rfl
theorem uw_543 : (Jvm.Cond.instanceMethod ({ cls := "CallRowsModel", name := "call", desc := "(II)I" } : Jvm.MethodName)) ∈ gU := gU_of 543 (by decide +kernel) rfl
theorem uw_544 : (Jvm.Cond.selects "CallRowsModel" ({ cls := "CallRowsModel", name := "call", desc := "(II)I" } : Jvm.MethodName) ({ cls := "CallRowsModel", name := "call", desc := "(II)I" } : Jvm.MethodName)) ∈ gU := gU_of 544 (by decide +kernel) rfl
theorem uw_545 : (Jvm.Cond.code ({ cls := "CallRowsModel", name := "call", desc := "(II)I" } : Jvm.MethodName) prog_5_method_23_code (4 : Nat) (Option.some Jvm.ClassFile.FieldType.int)) ∈ gU := gU_of 545 (by decide +kernel) rfl
theorem uw_546 : (Jvm.Cond.methodLink "CallRowsModel" (138 : Nat) ({ cls := "CallRowsModel", name := "unprepare", desc := "()V" } : Jvm.MethodName)) ∈ gU := gU_of 546 (by decide +kernel) rfl
theorem uw_548 : (Jvm.Cond.instanceMethod ({ cls := "CallRowsModel", name := "unprepare", desc := "()V" } : Jvm.MethodName)) ∈ gU := gU_of 548 (by decide +kernel) rfl
theorem uw_549 : (Jvm.Cond.code ({ cls := "CallRowsModel", name := "unprepare", desc := "()V" } : Jvm.MethodName) prog_5_method_21_code (1 : Nat) (Option.none : Option Jvm.ClassFile.FieldType)) ∈ gU := gU_of 549 (by decide +kernel) rfl
theorem uw_550 : (Jvm.Cond.methodLink "CallRowsModel" (141 : Nat) ({ cls := "CallRowsModel", name := "isFrom", desc := "(II)Z" } : Jvm.MethodName)) ∈ gU := gU_of 550 (by decide +kernel) rfl
theorem uw_552 : (Jvm.Cond.instanceMethod ({ cls := "CallRowsModel", name := "isFrom", desc := "(II)Z" } : Jvm.MethodName)) ∈ gU := gU_of 552 (by decide +kernel) rfl
theorem uw_553 : (Jvm.Cond.code ({ cls := "CallRowsModel", name := "isFrom", desc := "(II)Z" } : Jvm.MethodName) prog_5_method_22_code (3 : Nat) (Option.some Jvm.ClassFile.FieldType.boolean)) ∈ gU := gU_of 553 (by decide +kernel) rfl
theorem uw_554 : (Jvm.Cond.methodLink "CallRowsModel" (144 : Nat) ({ cls := "CallRowsModel", name := "find", desc := "(II)I" } : Jvm.MethodName)) ∈ gU := gU_of 554 (by decide +kernel) rfl
theorem uw_556 : (Jvm.Cond.instanceMethod ({ cls := "CallRowsModel", name := "find", desc := "(II)I" } : Jvm.MethodName)) ∈ gU := gU_of 556 (by decide +kernel) rfl
theorem uw_557 : (Jvm.Cond.code ({ cls := "CallRowsModel", name := "find", desc := "(II)I" } : Jvm.MethodName) prog_5_method_13_code (6 : Nat) (Option.some Jvm.ClassFile.FieldType.int)) ∈ gU := gU_of 557 (by decide +kernel) rfl
theorem uw_558 : (Jvm.Cond.methodLink "CallRowsLaw" (50 : Nat) ({ cls := "CallRowsModel", name := "actual", desc := "(II)I" } : Jvm.MethodName)) ∈ gU := gU_of 558 (by decide +kernel) rfl
theorem uw_559 : (Jvm.Cond.instanceMethod ({ cls := "CallRowsModel", name := "actual", desc := "(II)I" } : Jvm.MethodName)) ∈ gU := gU_of 559 (by decide +kernel) rfl
theorem uw_560 : (Jvm.Cond.selects "CallRowsModel" ({ cls := "CallRowsModel", name := "actual", desc := "(II)I" } : Jvm.MethodName) ({ cls := "CallRowsModel", name := "actual", desc := "(II)I" } : Jvm.MethodName)) ∈ gU := gU_of 560 (by decide +kernel) rfl
theorem uw_561 : (Jvm.Cond.code ({ cls := "CallRowsModel", name := "actual", desc := "(II)I" } : Jvm.MethodName) prog_5_method_24_code (4 : Nat) (Option.some Jvm.ClassFile.FieldType.int)) ∈ gU := gU_of 561 (by decide +kernel) rfl
theorem uw_562 : (Jvm.Cond.methodLink "CallRowsModel" (147 : Nat) ({ cls := "CallRowsModel", name := "copy", desc := "(J)I" } : Jvm.MethodName)) ∈ gU := gU_of 562 (by decide +kernel) rfl
theorem uw_564 : (Jvm.Cond.instanceMethod ({ cls := "CallRowsModel", name := "copy", desc := "(J)I" } : Jvm.MethodName)) ∈ gU := gU_of 564 (by decide +kernel) rfl
theorem uw_565 : (Jvm.Cond.code ({ cls := "CallRowsModel", name := "copy", desc := "(J)I" } : Jvm.MethodName) prog_5_method_18_code (3 : Nat) (Option.some Jvm.ClassFile.FieldType.int)) ∈ gU := gU_of 565 (by decide +kernel) rfl
theorem uw_566 : (Jvm.Cond.methodLink "CallRowsLaw" (55 : Nat) ({ cls := "CallRowsModel", name := "enter", desc := "()I" } : Jvm.MethodName)) ∈ gU := gU_of 566 (by decide +kernel) rfl
theorem uw_567 : (Jvm.Cond.instanceMethod ({ cls := "CallRowsModel", name := "enter", desc := "()I" } : Jvm.MethodName)) ∈ gU := gU_of 567 (by decide +kernel) rfl
theorem uw_568 : (Jvm.Cond.selects "CallRowsModel" ({ cls := "CallRowsModel", name := "enter", desc := "()I" } : Jvm.MethodName) ({ cls := "CallRowsModel", name := "enter", desc := "()I" } : Jvm.MethodName)) ∈ gU := gU_of 568 (by decide +kernel) rfl
theorem uw_569 : (Jvm.Cond.code ({ cls := "CallRowsModel", name := "enter", desc := "()I" } : Jvm.MethodName) prog_5_method_26_code (6 : Nat) (Option.some Jvm.ClassFile.FieldType.int)) ∈ gU := gU_of 569 (by decide +kernel) rfl
theorem uw_570 : (Jvm.Cond.methodLink "CallRowsModel" (151 : Nat) ({ cls := "CallRowsModel", name := "refusal", desc := "()I" } : Jvm.MethodName)) ∈ gU := gU_of 570 (by decide +kernel) rfl
theorem uw_572 : (Jvm.Cond.instanceMethod ({ cls := "CallRowsModel", name := "refusal", desc := "()I" } : Jvm.MethodName)) ∈ gU := gU_of 572 (by decide +kernel) rfl
theorem uw_573 : (Jvm.Cond.code ({ cls := "CallRowsModel", name := "refusal", desc := "()I" } : Jvm.MethodName) prog_5_method_25_code (4 : Nat) (Option.some Jvm.ClassFile.FieldType.int)) ∈ gU := gU_of 573 (by decide +kernel) rfl
theorem uw_574 : (Jvm.Cond.methodLink "CallRowsLaw" (64 : Nat) ({ cls := "CallRowsModel", name := "leave", desc := "(J)I" } : Jvm.MethodName)) ∈ gU := gU_of 574 (by decide +kernel) rfl
theorem uw_575 : (Jvm.Cond.instanceMethod ({ cls := "CallRowsModel", name := "leave", desc := "(J)I" } : Jvm.MethodName)) ∈ gU := gU_of 575 (by decide +kernel) rfl
theorem uw_576 : (Jvm.Cond.selects "CallRowsModel" ({ cls := "CallRowsModel", name := "leave", desc := "(J)I" } : Jvm.MethodName) ({ cls := "CallRowsModel", name := "leave", desc := "(J)I" } : Jvm.MethodName)) ∈ gU := gU_of 576 (by decide +kernel) rfl
theorem uw_577 : (Jvm.Cond.code ({ cls := "CallRowsModel", name := "leave", desc := "(J)I" } : Jvm.MethodName) prog_5_method_27_code (4 : Nat) (Option.some Jvm.ClassFile.FieldType.int)) ∈ gU := gU_of 577 (by decide +kernel) rfl
theorem uw_578 : (Jvm.Cond.methodLink "CallRowsLaw" (75 : Nat) ({ cls := "CallRowsModel", name := "cancel", desc := "(II)I" } : Jvm.MethodName)) ∈ gU := gU_of 578 (by decide +kernel) rfl
theorem uw_579 : (Jvm.Cond.instanceMethod ({ cls := "CallRowsModel", name := "cancel", desc := "(II)I" } : Jvm.MethodName)) ∈ gU := gU_of 579 (by decide +kernel) rfl
theorem uw_580 : (Jvm.Cond.selects "CallRowsModel" ({ cls := "CallRowsModel", name := "cancel", desc := "(II)I" } : Jvm.MethodName) ({ cls := "CallRowsModel", name := "cancel", desc := "(II)I" } : Jvm.MethodName)) ∈ gU := gU_of 580 (by decide +kernel) rfl
theorem uw_581 : (Jvm.Cond.code ({ cls := "CallRowsModel", name := "cancel", desc := "(II)I" } : Jvm.MethodName) prog_5_method_28_code (7 : Nat) (Option.some Jvm.ClassFile.FieldType.int)) ∈ gU := gU_of 581 (by decide +kernel) rfl
theorem uw_582 : (Jvm.Cond.methodLink "CallRowsLaw" (84 : Nat) ({ cls := "CallRowsModel", name := "state", desc := "(I)I" } : Jvm.MethodName)) ∈ gU := gU_of 582 (by decide +kernel) rfl
theorem uw_583 : (Jvm.Cond.instanceMethod ({ cls := "CallRowsModel", name := "state", desc := "(I)I" } : Jvm.MethodName)) ∈ gU := gU_of 583 (by decide +kernel) rfl
theorem uw_584 : (Jvm.Cond.selects "CallRowsModel" ({ cls := "CallRowsModel", name := "state", desc := "(I)I" } : Jvm.MethodName) ({ cls := "CallRowsModel", name := "state", desc := "(I)I" } : Jvm.MethodName)) ∈ gU := gU_of 584 (by decide +kernel) rfl
theorem uw_585 : (Jvm.Cond.code ({ cls := "CallRowsModel", name := "state", desc := "(I)I" } : Jvm.MethodName) prog_5_method_29_code (2 : Nat) (Option.some Jvm.ClassFile.FieldType.int)) ∈ gU := gU_of 585 (by decide +kernel) rfl
theorem uw_586 : (Jvm.Cond.methodLink "CallRowsLaw" (89 : Nat) ({ cls := "CallRowsModel", name := "returned", desc := "()J" } : Jvm.MethodName)) ∈ gU := gU_of 586 (by decide +kernel) rfl
theorem uw_587 : (Jvm.Cond.instanceMethod ({ cls := "CallRowsModel", name := "returned", desc := "()J" } : Jvm.MethodName)) ∈ gU := gU_of 587 (by decide +kernel) rfl
theorem uw_588 : (Jvm.Cond.selects "CallRowsModel" ({ cls := "CallRowsModel", name := "returned", desc := "()J" } : Jvm.MethodName) ({ cls := "CallRowsModel", name := "returned", desc := "()J" } : Jvm.MethodName)) ∈ gU := gU_of 588 (by decide +kernel) rfl
theorem uw_589 : (Jvm.Cond.code ({ cls := "CallRowsModel", name := "returned", desc := "()J" } : Jvm.MethodName) prog_5_method_30_code (1 : Nat) (Option.some Jvm.ClassFile.FieldType.long)) ∈ gU := gU_of 589 (by decide +kernel) rfl
theorem uw_590 : (Jvm.Cond.methodLink "CallRowsLaw" (93 : Nat) ({ cls := "CallRowsModel", name := "count", desc := "(I)I" } : Jvm.MethodName)) ∈ gU := gU_of 590 (by decide +kernel) rfl
theorem uw_591 : (Jvm.Cond.instanceMethod ({ cls := "CallRowsModel", name := "count", desc := "(I)I" } : Jvm.MethodName)) ∈ gU := gU_of 591 (by decide +kernel) rfl
theorem uw_592 : (Jvm.Cond.selects "CallRowsModel" ({ cls := "CallRowsModel", name := "count", desc := "(I)I" } : Jvm.MethodName) ({ cls := "CallRowsModel", name := "count", desc := "(I)I" } : Jvm.MethodName)) ∈ gU := gU_of 592 (by decide +kernel) rfl
theorem uw_593 : (Jvm.Cond.code ({ cls := "CallRowsModel", name := "count", desc := "(I)I" } : Jvm.MethodName) prog_5_method_31_code (2 : Nat) (Option.some Jvm.ClassFile.FieldType.int)) ∈ gU := gU_of 593 (by decide +kernel) rfl
theorem uw_594 : (Jvm.Cond.constantLong "CallRowsLaw" (32 : Nat) (4294967295 : Int64)) ∈ gU := gU_of 594 (by decide +kernel) rfl
theorem us_R_programOf : Cond.selects "CallRows" ⟨"CallRows", "programOf", "(I)LCallRows$Program;"⟩ ⟨"CallRows", "programOf", "(I)LCallRows$Program;"⟩ ∈ gU := gU_sel (q := (⟨"CallRows", "programOf", "(I)LCallRows$Program;"⟩, 12)) 0 (by decide +kernel) rfl
theorem us_R_directlyWithin : Cond.selects "CallRows" ⟨"CallRows", "directlyWithin", "(LCallRows$Program;I)LCallRows$Program;"⟩ ⟨"CallRows", "directlyWithin", "(LCallRows$Program;I)LCallRows$Program;"⟩ ∈ gU := gU_sel (q := (⟨"CallRows", "directlyWithin", "(LCallRows$Program;I)LCallRows$Program;"⟩, 12)) 1 (by decide +kernel) rfl
theorem us_R_newCell : Cond.selects "CallRows" ⟨"CallRows", "newCell", "(LCallRows$Program;J)I"⟩ ⟨"CallRows", "newCell", "(LCallRows$Program;J)I"⟩ ∈ gU := gU_sel (q := (⟨"CallRows", "newCell", "(LCallRows$Program;J)I"⟩, 12)) 2 (by decide +kernel) rfl
theorem us_R_placeOf : Cond.selects "CallRows" ⟨"CallRows", "placeOf", "(I)I"⟩ ⟨"CallRows", "placeOf", "(I)I"⟩ ∈ gU := gU_sel (q := (⟨"CallRows", "placeOf", "(I)I"⟩, 12)) 3 (by decide +kernel) rfl
theorem us_R_found : Cond.selects "CallRows" ⟨"CallRows", "found", "(LCallRows$Program;I)LCallRows$Program;"⟩ ⟨"CallRows", "found", "(LCallRows$Program;I)LCallRows$Program;"⟩ ∈ gU := gU_sel (q := (⟨"CallRows", "found", "(LCallRows$Program;I)LCallRows$Program;"⟩, 12)) 4 (by decide +kernel) rfl
theorem us_R_commonAround : Cond.selects "CallRows" ⟨"CallRows", "commonAround", "(LCallRows$Program;I)LCallRows$Program;"⟩ ⟨"CallRows", "commonAround", "(LCallRows$Program;I)LCallRows$Program;"⟩ ∈ gU := gU_sel (q := (⟨"CallRows", "commonAround", "(LCallRows$Program;I)LCallRows$Program;"⟩, 12)) 5 (by decide +kernel) rfl
theorem us_R_holderOf : Cond.selects "CallRows" ⟨"CallRows", "holderOf", "(I)LCallRows$Level;"⟩ ⟨"CallRows", "holderOf", "(I)LCallRows$Level;"⟩ ∈ gU := gU_sel (q := (⟨"CallRows", "holderOf", "(I)LCallRows$Level;"⟩, 12)) 6 (by decide +kernel) rfl
theorem us_R_dataOf : Cond.selects "CallRows" ⟨"CallRows", "dataOf", "(LCallRows$Program;)LCallRows$Level;"⟩ ⟨"CallRows", "dataOf", "(LCallRows$Program;)LCallRows$Level;"⟩ ∈ gU := gU_sel (q := (⟨"CallRows", "dataOf", "(LCallRows$Program;)LCallRows$Level;"⟩, 12)) 7 (by decide +kernel) rfl
theorem us_R_bytesOf : Cond.selects "CallRows" ⟨"CallRows", "bytesOf", "(I)I"⟩ ⟨"CallRows", "bytesOf", "(I)I"⟩ ∈ gU := gU_sel (q := (⟨"CallRows", "bytesOf", "(I)I"⟩, 12)) 8 (by decide +kernel) rfl
theorem us_R_giveFirstValues : Cond.selects "CallRows" ⟨"CallRows", "giveFirstValues", "(LCallRows$Program;)V"⟩ ⟨"CallRows", "giveFirstValues", "(LCallRows$Program;)V"⟩ ∈ gU := gU_sel (q := (⟨"CallRows", "giveFirstValues", "(LCallRows$Program;)V"⟩, 12)) 9 (by decide +kernel) rfl
theorem us_R_unusedBits : Cond.selects "CallRows" ⟨"CallRows", "unusedBits", "(I)I"⟩ ⟨"CallRows", "unusedBits", "(I)I"⟩ ∈ gU := gU_sel (q := (⟨"CallRows", "unusedBits", "(I)I"⟩, 12)) 10 (by decide +kernel) rfl
theorem us_R_anyActiveOf : Cond.selects "CallRows" ⟨"CallRows", "anyActiveOf", "(LCallRows$Program;)Z"⟩ ⟨"CallRows", "anyActiveOf", "(LCallRows$Program;)Z"⟩ ∈ gU := gU_sel (q := (⟨"CallRows", "anyActiveOf", "(LCallRows$Program;)Z"⟩, 12)) 11 (by decide +kernel) rfl
theorem us_R_makeFresh : Cond.selects "CallRows" ⟨"CallRows", "makeFresh", "(LCallRows$Program;)I"⟩ ⟨"CallRows", "makeFresh", "(LCallRows$Program;)I"⟩ ∈ gU := gU_sel (q := (⟨"CallRows", "makeFresh", "(LCallRows$Program;)I"⟩, 12)) 12 (by decide +kernel) rfl
theorem us_M_directly : Cond.selects "CallRowsModel" ⟨"CallRowsModel", "directly", "(II)I"⟩ ⟨"CallRowsModel", "directly", "(II)I"⟩ ∈ gU := gU_sel (q := (⟨"CallRowsModel", "directly", "(II)I"⟩, 29)) 14 (by decide +kernel) rfl
theorem us_M_isProgram : Cond.selects "CallRowsModel" ⟨"CallRowsModel", "isProgram", "(I)Z"⟩ ⟨"CallRowsModel", "isProgram", "(I)Z"⟩ ∈ gU := gU_sel (q := (⟨"CallRowsModel", "isProgram", "(I)Z"⟩, 29)) 15 (by decide +kernel) rfl
theorem us_M_place : Cond.selects "CallRowsModel" ⟨"CallRowsModel", "place", "(I)I"⟩ ⟨"CallRowsModel", "place", "(I)I"⟩ ∈ gU := gU_sel (q := (⟨"CallRowsModel", "place", "(I)I"⟩, 29)) 16 (by decide +kernel) rfl
theorem us_M_running : Cond.selects "CallRowsModel" ⟨"CallRowsModel", "running", "()I"⟩ ⟨"CallRowsModel", "running", "()I"⟩ ∈ gU := gU_sel (q := (⟨"CallRowsModel", "running", "()I"⟩, 29)) 17 (by decide +kernel) rfl
theorem us_M_is : Cond.selects "CallRowsModel" ⟨"CallRowsModel", "is", "(II)Z"⟩ ⟨"CallRowsModel", "is", "(II)Z"⟩ ∈ gU := gU_sel (q := (⟨"CallRowsModel", "is", "(II)Z"⟩, 29)) 18 (by decide +kernel) rfl
theorem us_M_liesIn : Cond.selects "CallRowsModel" ⟨"CallRowsModel", "liesIn", "(II)Z"⟩ ⟨"CallRowsModel", "liesIn", "(II)Z"⟩ ∈ gU := gU_sel (q := (⟨"CallRowsModel", "liesIn", "(II)Z"⟩, 29)) 19 (by decide +kernel) rfl
theorem us_M_bytesOf : Cond.selects "CallRowsModel" ⟨"CallRowsModel", "bytesOf", "(I)I"⟩ ⟨"CallRowsModel", "bytesOf", "(I)I"⟩ ∈ gU := gU_sel (q := (⟨"CallRowsModel", "bytesOf", "(I)I"⟩, 29)) 20 (by decide +kernel) rfl
theorem us_M_store : Cond.selects "CallRowsModel" ⟨"CallRowsModel", "store", "(IIJ)V"⟩ ⟨"CallRowsModel", "store", "(IIJ)V"⟩ ∈ gU := gU_sel (q := (⟨"CallRowsModel", "store", "(IIJ)V"⟩, 29)) 21 (by decide +kernel) rfl
theorem us_M_unprepare : Cond.selects "CallRowsModel" ⟨"CallRowsModel", "unprepare", "()V"⟩ ⟨"CallRowsModel", "unprepare", "()V"⟩ ∈ gU := gU_sel (q := (⟨"CallRowsModel", "unprepare", "()V"⟩, 29)) 22 (by decide +kernel) rfl
theorem us_M_isFrom : Cond.selects "CallRowsModel" ⟨"CallRowsModel", "isFrom", "(II)Z"⟩ ⟨"CallRowsModel", "isFrom", "(II)Z"⟩ ∈ gU := gU_sel (q := (⟨"CallRowsModel", "isFrom", "(II)Z"⟩, 29)) 23 (by decide +kernel) rfl
theorem us_M_find : Cond.selects "CallRowsModel" ⟨"CallRowsModel", "find", "(II)I"⟩ ⟨"CallRowsModel", "find", "(II)I"⟩ ∈ gU := gU_sel (q := (⟨"CallRowsModel", "find", "(II)I"⟩, 29)) 24 (by decide +kernel) rfl
theorem us_M_copy : Cond.selects "CallRowsModel" ⟨"CallRowsModel", "copy", "(J)I"⟩ ⟨"CallRowsModel", "copy", "(J)I"⟩ ∈ gU := gU_sel (q := (⟨"CallRowsModel", "copy", "(J)I"⟩, 29)) 25 (by decide +kernel) rfl
theorem us_M_refusal : Cond.selects "CallRowsModel" ⟨"CallRowsModel", "refusal", "()I"⟩ ⟨"CallRowsModel", "refusal", "()I"⟩ ∈ gU := gU_sel (q := (⟨"CallRowsModel", "refusal", "()I"⟩, 29)) 26 (by decide +kernel) rfl
end
section
def TfL : u_T := fun k => match k with
  | 0 => ("CallRows$Level", "below", "LCallRows$Level;", true)
  | 1 => ("CallRows$Level", "above", "LCallRows$Level;", false)
  | 2 => ("CallRows$Level", "program", "LCallRows$Program;", false)
  | 3 => ("CallRows$Level", "earlier", "LCallRows$Level;", false)
  | 4 => ("CallRows$Level", "arguments", "I", false)
  | 5 => ("CallRows$Level", "holders", "[LCallRows$Level;", true)
  | 6 => ("CallRows$Level", "places", "[I", true)
  | 7 => ("CallRows$Level", "bytes", "[I", true)
  | _ => ("CallRows$Level", "values", "[J", true)
def tyL : Nat → FieldType := fun k => match k with
  | 0 => .object "CallRows$Level"
  | 1 => .object "CallRows$Level"
  | 2 => .object "CallRows$Program"
  | 3 => .object "CallRows$Level"
  | 4 => .int
  | 5 => .array (.object "CallRows$Level")
  | 6 => .array .int
  | 7 => .array .int
  | _ => .array .long
theorem iw_L : ∀ w ∈ u_ws "CallRows$Level" TfL 9, w ∈ gU := by
  intro w hw
  obtain ⟨k, hk, rfl⟩ := List.mem_map.mp hw
  have hk := List.mem_range.mp hk
  match k, hk with
  | 0, _ => exact uw_44
  | 1, _ => exact uw_46
  | 2, _ => exact uw_48
  | 3, _ => exact uw_50
  | 4, _ => exact uw_52
  | 5, _ => exact uw_54
  | 6, _ => exact uw_56
  | 7, _ => exact uw_58
  | 8, _ => exact uw_60
  | k + 9, h => exact absurd h (by omega)
def TfP : u_T := fun k => match k with
  | 0 => ("CallRows$Program", "outer", "LCallRows$Program;", true)
  | 1 => ("CallRows$Program", "number", "I", true)
  | 2 => ("CallRows$Program", "name", "I", true)
  | 3 => ("CallRows$Program", "marks", "I", true)
  | 4 => ("CallRows$Program", "formalHow", "[I", true)
  | 5 => ("CallRows$Program", "formalBytes", "[I", true)
  | 6 => ("CallRows$Program", "formals", "I", false)
  | 7 => ("CallRows$Program", "hasData", "Z", false)
  | _ => ("CallRows$Program", "latest", "LCallRows$Level;", false)
def tyP : Nat → FieldType := fun k => match k with
  | 0 => .object "CallRows$Program"
  | 1 => .int
  | 2 => .int
  | 3 => .int
  | 4 => .array .int
  | 5 => .array .int
  | 6 => .int
  | 7 => .boolean
  | _ => .object "CallRows$Level"
theorem iw_P : ∀ w ∈ u_ws "CallRows$Program" TfP 9, w ∈ gU := by
  intro w hw
  obtain ⟨k, hk, rfl⟩ := List.mem_map.mp hw
  have hk := List.mem_range.mp hk
  match k, hk with
  | 0, _ => exact uw_143
  | 1, _ => exact uw_145
  | 2, _ => exact uw_147
  | 3, _ => exact uw_149
  | 4, _ => exact uw_151
  | 5, _ => exact uw_153
  | 6, _ => exact uw_155
  | 7, _ => exact uw_157
  | 8, _ => exact uw_159
  | k + 9, h => exact absurd h (by omega)
def TfR : u_T := fun k => match k with
  | 0 => ("CallRows", "depth", "I", true)
  | 1 => ("CallRows", "programs", "[LCallRows$Program;", true)
  | 2 => ("CallRows", "programCount", "I", false)
  | 3 => ("CallRows", "owners", "[LCallRows$Program;", true)
  | 4 => ("CallRows", "firstValues", "[J", true)
  | 5 => ("CallRows", "cellCount", "I", false)
  | 6 => ("CallRows", "externals", "[I", true)
  | 7 => ("CallRows", "bottom", "LCallRows$Level;", true)
  | 8 => ("CallRows", "top", "LCallRows$Level;", false)
  | 9 => ("CallRows", "active", "I", false)
  | 10 => ("CallRows", "prepared", "LCallRows$Level;", false)
  | _ => ("CallRows", "latestReturn", "J", false)
def tyR : Nat → FieldType := fun k => match k with
  | 0 => .int
  | 1 => .array (.object "CallRows$Program")
  | 2 => .int
  | 3 => .array (.object "CallRows$Program")
  | 4 => .array .long
  | 5 => .int
  | 6 => .array .int
  | 7 => .object "CallRows$Level"
  | 8 => .object "CallRows$Level"
  | 9 => .int
  | 10 => .object "CallRows$Level"
  | _ => .long
theorem iw_R : ∀ w ∈ u_ws "CallRows" TfR 12, w ∈ gU := by
  intro w hw
  obtain ⟨k, hk, rfl⟩ := List.mem_map.mp hw
  have hk := List.mem_range.mp hk
  match k, hk with
  | 0, _ => exact uw_84
  | 1, _ => exact uw_86
  | 2, _ => exact uw_88
  | 3, _ => exact uw_90
  | 4, _ => exact uw_92
  | 5, _ => exact uw_94
  | 6, _ => exact uw_96
  | 7, _ => exact uw_98
  | 8, _ => exact uw_100
  | 9, _ => exact uw_102
  | 10, _ => exact uw_104
  | 11, _ => exact uw_106
  | k + 12, h => exact absurd h (by omega)
def TfM : u_T := fun k => match k with
  | 0 => ("CallRowsModel", "code", "I", false)
  | 1 => ("CallRowsModel", "depth", "I", true)
  | 2 => ("CallRowsModel", "within", "[I", true)
  | 3 => ("CallRowsModel", "names", "[I", true)
  | 4 => ("CallRowsModel", "marks", "[I", true)
  | 5 => ("CallRowsModel", "manyFormals", "[I", true)
  | 6 => ("CallRowsModel", "activeTimes", "[I", true)
  | 7 => ("CallRowsModel", "data", "[Z", true)
  | 8 => ("CallRowsModel", "programs", "I", false)
  | 9 => ("CallRowsModel", "owner", "[I", true)
  | 10 => ("CallRowsModel", "rank", "[I", true)
  | 11 => ("CallRowsModel", "external", "[I", true)
  | 12 => ("CallRowsModel", "first", "[J", true)
  | 13 => ("CallRowsModel", "cells", "I", false)
  | 14 => ("CallRowsModel", "how", "[I", true)
  | 15 => ("CallRowsModel", "bytes", "[I", true)
  | 16 => ("CallRowsModel", "memory", "[J", true)
  | 17 => ("CallRowsModel", "used", "I", false)
  | 18 => ("CallRowsModel", "callOf", "[I", true)
  | 19 => ("CallRowsModel", "baseOf", "[I", true)
  | 20 => ("CallRowsModel", "usedAhead", "[I", true)
  | 21 => ("CallRowsModel", "placeOf", "[I", true)
  | 22 => ("CallRowsModel", "active", "I", false)
  | 23 => ("CallRowsModel", "prepared", "I", false)
  | 24 => ("CallRowsModel", "arguments", "I", false)
  | 25 => ("CallRowsModel", "preparedAhead", "I", false)
  | 26 => ("CallRowsModel", "argument", "[I", true)
  | 27 => ("CallRowsModel", "argumentBytes", "[I", true)
  | _ => ("CallRowsModel", "returns", "J", false)
def tyM : Nat → FieldType := fun k => match k with
  | 0 => .int
  | 1 => .int
  | 2 => .array .int
  | 3 => .array .int
  | 4 => .array .int
  | 5 => .array .int
  | 6 => .array .int
  | 7 => .array .boolean
  | 8 => .int
  | 9 => .array .int
  | 10 => .array .int
  | 11 => .array .int
  | 12 => .array .long
  | 13 => .int
  | 14 => .array .int
  | 15 => .array .int
  | 16 => .array .long
  | 17 => .int
  | 18 => .array .int
  | 19 => .array .int
  | 20 => .array .int
  | 21 => .array .int
  | 22 => .int
  | 23 => .int
  | 24 => .int
  | 25 => .int
  | 26 => .array .int
  | 27 => .array .int
  | _ => .long
theorem iw_M : ∀ w ∈ u_ws "CallRowsModel" TfM 29, w ∈ gU := by
  intro w hw
  obtain ⟨k, hk, rfl⟩ := List.mem_map.mp hw
  have hk := List.mem_range.mp hk
  match k, hk with
  | 0, _ => exact uw_415
  | 1, _ => exact uw_417
  | 2, _ => exact uw_419
  | 3, _ => exact uw_421
  | 4, _ => exact uw_423
  | 5, _ => exact uw_425
  | 6, _ => exact uw_427
  | 7, _ => exact uw_429
  | 8, _ => exact uw_431
  | 9, _ => exact uw_433
  | 10, _ => exact uw_435
  | 11, _ => exact uw_437
  | 12, _ => exact uw_439
  | 13, _ => exact uw_441
  | 14, _ => exact uw_443
  | 15, _ => exact uw_445
  | 16, _ => exact uw_447
  | 17, _ => exact uw_449
  | 18, _ => exact uw_451
  | 19, _ => exact uw_453
  | 20, _ => exact uw_455
  | 21, _ => exact uw_457
  | 22, _ => exact uw_459
  | 23, _ => exact uw_461
  | 24, _ => exact uw_463
  | 25, _ => exact uw_465
  | 26, _ => exact uw_467
  | 27, _ => exact uw_469
  | 28, _ => exact uw_471
  | k + 29, h => exact absurd h (by omega)
abbrev gk_cl : List vw_C := [("CallRows$Level", TfL, 9), ("CallRows$Program", TfP, 9), ("CallRows", TfR, 12), ("CallRowsModel", TfM, 29)]
abbrev gk_kinds : List (List Nat) := [[2, 2, 2, 2, 0, 2, 2, 2, 2], [2, 0, 0, 0, 2, 2, 0, 0, 2], [0, 2, 0, 2, 2, 0, 2, 2, 2, 0, 2, 1], [0, 0, 2, 2, 2, 2, 2, 2, 0, 2, 2, 2, 2, 0, 2, 2, 2, 0, 2, 2, 2, 2, 0, 0, 0, 0, 2, 2, 1]]
abbrev gk_tys (T : Nat → ClassId) : List (ClassId × FieldType) := [(T 0, .int), (T 1, .long), (T 2, .boolean), (T 3, .object "CallRows$Program"), (T 4, .object "CallRows$Level")]
/-! roles of arrays: 0 R.programs, 1 R.owners, 2 R.firstValues, 3 R.externals, 4 P.formalHow, 5 P.formalBytes, 6 L.holders, 7 L.places, 8 L.bytes, 9 L.values, 10 M.within, 11 M.names, 12 M.marks, 13 M.manyFormals, 14 M.activeTimes, 15 M.data, 16 M.owner, 17 M.rank, 18 M.external, 19 M.first, 20 M.how, 21 M.bytes, 22 M.memory, 23 M.callOf, 24 M.baseOf, 25 M.usedAhead, 26 M.placeOf, 27 M.argument, 28 M.argumentBytes, 29 W.out -/
def gk_role : Nat → Nat := fun r => match r with
  | 0 => 3
  | 1 => 3
  | 2 => 1
  | 3 => 0
  | 4 => 0
  | 5 => 0
  | 6 => 4
  | 7 => 0
  | 8 => 0
  | 9 => 1
  | 10 => 0
  | 11 => 0
  | 12 => 0
  | 13 => 0
  | 14 => 0
  | 15 => 2
  | 16 => 0
  | 17 => 0
  | 18 => 0
  | 19 => 1
  | 20 => 0
  | 21 => 0
  | 22 => 1
  | 23 => 0
  | 24 => 0
  | 25 => 0
  | 26 => 0
  | 27 => 0
  | 28 => 0
  | 29 => 1
  | _ => 0
def gk_rep : Nat → Nat := fun r => match r with
  | 0 => 2
  | 1 => 2
  | 2 => 1
  | 3 => 0
  | 4 => 0
  | 5 => 0
  | 6 => 2
  | 7 => 0
  | 8 => 0
  | 9 => 1
  | 10 => 0
  | 11 => 0
  | 12 => 0
  | 13 => 0
  | 14 => 0
  | 15 => 0
  | 16 => 0
  | 17 => 0
  | 18 => 0
  | 19 => 1
  | 20 => 0
  | 21 => 0
  | 22 => 1
  | 23 => 0
  | 24 => 0
  | 25 => 0
  | 26 => 0
  | 27 => 0
  | 28 => 0
  | 29 => 1
  | _ => 0
abbrev cR_init : ByteArray := prog_1_method_1_code
def yR_init : MethodName := ⟨"CallRows", "<init>", "(I)V"⟩
abbrev kR_init : Cond := .code yR_init cR_init 3 (none)
theorem uc_R_init : kR_init ∈ gU := uw_14
abbrev cL_init : ByteArray := prog_2_method_1_code
def yL_init : MethodName := ⟨"CallRows$Level", "<init>", "(LCallRows$Level;)V"⟩
abbrev kL_init : Cond := .code yL_init cL_init 2 (none)
theorem uc_L_init : kL_init ∈ gU := uw_24
abbrev cR_program : ByteArray := prog_1_method_2_code
def yR_program : MethodName := ⟨"CallRows", "program", "(III)I"⟩
abbrev kR_program : Cond := .code yR_program cR_program 6 (some .int)
theorem uc_R_program : kR_program ∈ gU := uw_112
abbrev cR_programOf : ByteArray := prog_1_method_18_code
def yR_programOf : MethodName := ⟨"CallRows", "programOf", "(I)LCallRows$Program;"⟩
abbrev kR_programOf : Cond := .code yR_programOf cR_programOf 2 (some (.object "CallRows$Program"))
theorem uc_R_programOf : kR_programOf ∈ gU := uw_116
abbrev cR_isName : ByteArray := prog_1_method_16_code
def yR_isName : MethodName := ⟨"CallRows", "isName", "(I)Z"⟩
abbrev kR_isName : Cond := .code yR_isName cR_isName 1 (some .boolean)
theorem uc_R_isName : kR_isName ∈ gU := uw_119
abbrev cR_directlyWithin : ByteArray := prog_1_method_21_code
def yR_directlyWithin : MethodName := ⟨"CallRows", "directlyWithin", "(LCallRows$Program;I)LCallRows$Program;"⟩
abbrev kR_directlyWithin : Cond := .code yR_directlyWithin cR_directlyWithin 5 (some (.object "CallRows$Program"))
theorem uc_R_directlyWithin : kR_directlyWithin ∈ gU := uw_123
abbrev cP_init : ByteArray := prog_3_method_1_code
def yP_init : MethodName := ⟨"CallRows$Program", "<init>", "(LCallRows$Program;III)V"⟩
abbrev kP_init : Cond := .code yP_init cP_init 5 (none)
theorem uc_P_init : kP_init ∈ gU := uw_127
abbrev cR_cell : ByteArray := prog_1_method_3_code
def yR_cell : MethodName := ⟨"CallRows", "cell", "(IJ)I"⟩
abbrev kR_cell : Cond := .code yR_cell cR_cell 5 (some .int)
theorem uc_R_cell : kR_cell ∈ gU := uw_165
abbrev cR_newCell : ByteArray := prog_1_method_19_code
def yR_newCell : MethodName := ⟨"CallRows", "newCell", "(LCallRows$Program;J)I"⟩
abbrev kR_newCell : Cond := .code yR_newCell cR_newCell 4 (some .int)
theorem uc_R_newCell : kR_newCell ∈ gU := uw_169
abbrev cR_placeOf : ByteArray := prog_1_method_27_code
def yR_placeOf : MethodName := ⟨"CallRows", "placeOf", "(I)I"⟩
abbrev kR_placeOf : Cond := .code yR_placeOf cR_placeOf 2 (some .int)
theorem uc_R_placeOf : kR_placeOf ∈ gU := uw_173
abbrev cR_formal : ByteArray := prog_1_method_4_code
def yR_formal : MethodName := ⟨"CallRows", "formal", "(III)I"⟩
abbrev kR_formal : Cond := .code yR_formal cR_formal 5 (some .int)
theorem uc_R_formal : kR_formal ∈ gU := uw_177
abbrev cR_call : ByteArray := prog_1_method_5_code
def yR_call : MethodName := ⟨"CallRows", "call", "(II)I"⟩
abbrev kR_call : Cond := .code yR_call cR_call 4 (some .int)
theorem uc_R_call : kR_call ∈ gU := uw_181
abbrev cR_numberOf : ByteArray := prog_1_method_17_code
def yR_numberOf : MethodName := ⟨"CallRows", "numberOf", "(LCallRows$Program;)I"⟩
abbrev kR_numberOf : Cond := .code yR_numberOf cR_numberOf 1 (some .int)
theorem uc_R_numberOf : kR_numberOf ∈ gU := uw_184
abbrev cR_found : ByteArray := prog_1_method_20_code
def yR_found : MethodName := ⟨"CallRows", "found", "(LCallRows$Program;I)LCallRows$Program;"⟩
abbrev kR_found : Cond := .code yR_found cR_found 4 (some (.object "CallRows$Program"))
theorem uc_R_found : kR_found ∈ gU := uw_188
abbrev cR_recursiveAround : ByteArray := prog_1_method_22_code
def yR_recursiveAround : MethodName := ⟨"CallRows", "recursiveAround", "(LCallRows$Program;I)LCallRows$Program;"⟩
abbrev kR_recursiveAround : Cond := .code yR_recursiveAround cR_recursiveAround 3 (some (.object "CallRows$Program"))
theorem uc_R_recursiveAround : kR_recursiveAround ∈ gU := uw_191
abbrev cP_has : ByteArray := prog_3_method_2_code
def yP_has : MethodName := ⟨"CallRows$Program", "has", "(I)Z"⟩
abbrev kP_has : Cond := .code yP_has cP_has 2 (some .boolean)
theorem uc_P_has : kP_has ∈ gU := uw_195
abbrev cR_commonAround : ByteArray := prog_1_method_23_code
def yR_commonAround : MethodName := ⟨"CallRows", "commonAround", "(LCallRows$Program;I)LCallRows$Program;"⟩
abbrev kR_commonAround : Cond := .code yR_commonAround cR_commonAround 5 (some (.object "CallRows$Program"))
theorem uc_R_commonAround : kR_commonAround ∈ gU := uw_199
abbrev cP_isOrLiesIn : ByteArray := prog_3_method_4_code
def yP_isOrLiesIn : MethodName := ⟨"CallRows$Program", "isOrLiesIn", "(LCallRows$Program;)Z"⟩
abbrev kP_isOrLiesIn : Cond := .code yP_isOrLiesIn cP_isOrLiesIn 3 (some .boolean)
theorem uc_P_isOrLiesIn : kP_isOrLiesIn ∈ gU := uw_203
abbrev cR_levelAbove : ByteArray := prog_1_method_24_code
def yR_levelAbove : MethodName := ⟨"CallRows", "levelAbove", "(LCallRows$Level;)LCallRows$Level;"⟩
abbrev kR_levelAbove : Cond := .code yR_levelAbove cR_levelAbove 1 (some (.object "CallRows$Level"))
theorem uc_R_levelAbove : kR_levelAbove ∈ gU := uw_206
abbrev cL_begin : ByteArray := prog_2_method_2_code
def yL_begin : MethodName := ⟨"CallRows$Level", "begin", "(LCallRows$Program;)V"⟩
abbrev kL_begin : Cond := .code yL_begin cL_begin 3 (none)
theorem uc_L_begin : kL_begin ∈ gU := uw_210
abbrev cR_actual : ByteArray := prog_1_method_6_code
def yR_actual : MethodName := ⟨"CallRows", "actual", "(II)I"⟩
abbrev kR_actual : Cond := .code yR_actual cR_actual 5 (some .int)
theorem uc_R_actual : kR_actual ∈ gU := uw_214
abbrev cR_holderOf : ByteArray := prog_1_method_25_code
def yR_holderOf : MethodName := ⟨"CallRows", "holderOf", "(I)LCallRows$Level;"⟩
abbrev kR_holderOf : Cond := .code yR_holderOf cR_holderOf 4 (some (.object "CallRows$Level"))
theorem uc_R_holderOf : kR_holderOf ∈ gU := uw_218
abbrev cR_seesCellsOf : ByteArray := prog_1_method_26_code
def yR_seesCellsOf : MethodName := ⟨"CallRows", "seesCellsOf", "(LCallRows$Program;LCallRows$Program;)Z"⟩
abbrev kR_seesCellsOf : Cond := .code yR_seesCellsOf cR_seesCellsOf 2 (some .boolean)
theorem uc_R_seesCellsOf : kR_seesCellsOf ∈ gU := uw_221
abbrev cR_dataOf : ByteArray := prog_1_method_30_code
def yR_dataOf : MethodName := ⟨"CallRows", "dataOf", "(LCallRows$Program;)LCallRows$Level;"⟩
abbrev kR_dataOf : Cond := .code yR_dataOf cR_dataOf 2 (some (.object "CallRows$Level"))
theorem uc_R_dataOf : kR_dataOf ∈ gU := uw_225
abbrev cR_bytesOf : ByteArray := prog_1_method_28_code
def yR_bytesOf : MethodName := ⟨"CallRows", "bytesOf", "(I)I"⟩
abbrev kR_bytesOf : Cond := .code yR_bytesOf cR_bytesOf 3 (some .int)
theorem uc_R_bytesOf : kR_bytesOf ∈ gU := uw_229
abbrev cL_share : ByteArray := prog_2_method_3_code
def yL_share : MethodName := ⟨"CallRows$Level", "share", "(ILCallRows$Level;II)V"⟩
abbrev kL_share : Cond := .code yL_share cL_share 5 (none)
theorem uc_L_share : kL_share ∈ gU := uw_233
abbrev cL_copy : ByteArray := prog_2_method_4_code
def yL_copy : MethodName := ⟨"CallRows$Level", "copy", "(I)V"⟩
abbrev kL_copy : Cond := .code yL_copy cL_copy 3 (none)
theorem uc_L_copy : kL_copy ∈ gU := uw_237
abbrev cR_enter : ByteArray := prog_1_method_7_code
def yR_enter : MethodName := ⟨"CallRows", "enter", "()I"⟩
abbrev kR_enter : Cond := .code yR_enter cR_enter 3 (some .int)
theorem uc_R_enter : kR_enter ∈ gU := uw_241
abbrev cR_argumentsFit : ByteArray := prog_1_method_32_code
def yR_argumentsFit : MethodName := ⟨"CallRows", "argumentsFit", "(LCallRows$Level;LCallRows$Program;)Z"⟩
abbrev kR_argumentsFit : Cond := .code yR_argumentsFit cR_argumentsFit 3 (some .boolean)
theorem uc_R_argumentsFit : kR_argumentsFit ∈ gU := uw_244
abbrev cR_bytesSuffice : ByteArray := prog_1_method_33_code
def yR_bytesSuffice : MethodName := ⟨"CallRows", "bytesSuffice", "(LCallRows$Level;LCallRows$Program;)Z"⟩
abbrev kR_bytesSuffice : Cond := .code yR_bytesSuffice cR_bytesSuffice 3 (some .boolean)
theorem uc_R_bytesSuffice : kR_bytesSuffice ∈ gU := uw_247
abbrev cR_copyValues : ByteArray := prog_1_method_34_code
def yR_copyValues : MethodName := ⟨"CallRows", "copyValues", "(LCallRows$Level;LCallRows$Program;)V"⟩
abbrev kR_copyValues : Cond := .code yR_copyValues cR_copyValues 3 (none)
theorem uc_R_copyValues : kR_copyValues ∈ gU := uw_250
abbrev cP_keepsData : ByteArray := prog_3_method_3_code
def yP_keepsData : MethodName := ⟨"CallRows$Program", "keepsData", "()Z"⟩
abbrev kP_keepsData : Cond := .code yP_keepsData cP_keepsData 1 (some .boolean)
theorem uc_P_keepsData : kP_keepsData ∈ gU := uw_254
abbrev cR_giveFirstValues : ByteArray := prog_1_method_31_code
def yR_giveFirstValues : MethodName := ⟨"CallRows", "giveFirstValues", "(LCallRows$Program;)V"⟩
abbrev kR_giveFirstValues : Cond := .code yR_giveFirstValues cR_giveFirstValues 4 (none)
theorem uc_R_giveFirstValues : kR_giveFirstValues ∈ gU := uw_259
abbrev cR_set : ByteArray := prog_1_method_8_code
def yR_set : MethodName := ⟨"CallRows", "set", "(IJ)I"⟩
abbrev kR_set : Cond := .code yR_set cR_set 8 (some .int)
theorem uc_R_set : kR_set ∈ gU := uw_263
abbrev cR_unusedBits : ByteArray := prog_1_method_29_code
def yR_unusedBits : MethodName := ⟨"CallRows", "unusedBits", "(I)I"⟩
abbrev kR_unusedBits : Cond := .code yR_unusedBits cR_unusedBits 2 (some .int)
theorem uc_R_unusedBits : kR_unusedBits ∈ gU := uw_268
abbrev cR_leave : ByteArray := prog_1_method_9_code
def yR_leave : MethodName := ⟨"CallRows", "leave", "(J)I"⟩
abbrev kR_leave : Cond := .code yR_leave cR_leave 5 (some .int)
theorem uc_R_leave : kR_leave ∈ gU := uw_272
abbrev cR_cancel : ByteArray := prog_1_method_11_code
def yR_cancel : MethodName := ⟨"CallRows", "cancel", "(II)I"⟩
abbrev kR_cancel : Cond := .code yR_cancel cR_cancel 4 (some .int)
theorem uc_R_cancel : kR_cancel ∈ gU := uw_276
abbrev cR_anyActiveOf : ByteArray := prog_1_method_35_code
def yR_anyActiveOf : MethodName := ⟨"CallRows", "anyActiveOf", "(LCallRows$Program;)Z"⟩
abbrev kR_anyActiveOf : Cond := .code yR_anyActiveOf cR_anyActiveOf 4 (some .boolean)
theorem uc_R_anyActiveOf : kR_anyActiveOf ∈ gU := uw_280
abbrev cR_makeFresh : ByteArray := prog_1_method_36_code
def yR_makeFresh : MethodName := ⟨"CallRows", "makeFresh", "(LCallRows$Program;)I"⟩
abbrev kR_makeFresh : Cond := .code yR_makeFresh cR_makeFresh 5 (some .int)
theorem uc_R_makeFresh : kR_makeFresh ∈ gU := uw_284
abbrev cR_shared : ByteArray := prog_1_method_12_code
def yR_shared : MethodName := ⟨"CallRows", "shared", "(I)I"⟩
abbrev kR_shared : Cond := .code yR_shared cR_shared 2 (some .int)
theorem uc_R_shared : kR_shared ∈ gU := uw_288
abbrev cR_state : ByteArray := prog_1_method_13_code
def yR_state : MethodName := ⟨"CallRows", "state", "(I)I"⟩
abbrev kR_state : Cond := .code yR_state cR_state 3 (some .int)
theorem uc_R_state : kR_state ∈ gU := uw_292
abbrev cR_returned : ByteArray := prog_1_method_14_code
def yR_returned : MethodName := ⟨"CallRows", "returned", "()J"⟩
abbrev kR_returned : Cond := .code yR_returned cR_returned 1 (some .long)
theorem uc_R_returned : kR_returned ∈ gU := uw_296
abbrev cR_count : ByteArray := prog_1_method_15_code
def yR_count : MethodName := ⟨"CallRows", "count", "(I)I"⟩
abbrev kR_count : Cond := .code yR_count cR_count 2 (some .int)
theorem uc_R_count : kR_count ∈ gU := uw_300
abbrev cW_cell : ByteArray := method_2_code
def yW_cell : MethodName := ⟨"CallRowsLaw", "cell", "([II)I"⟩
abbrev kW_cell : Cond := .code yW_cell cW_cell 2 (some .int)
theorem uc_W_cell : kW_cell ∈ gU := uw_303
abbrev cW_get : ByteArray := method_3_code
def yW_get : MethodName := ⟨"CallRowsLaw", "get", "(LCallRows;I[J)I"⟩
abbrev cR_get : ByteArray := prog_1_method_10_code
def yR_get : MethodName := ⟨"CallRows", "get", "(I)J"⟩
abbrev kR_get : Cond := .code yR_get cR_get 4 (some .long)
theorem uc_R_get : kR_get ∈ gU := uw_311
abbrev cM_init : ByteArray := prog_5_method_1_code
def yM_init : MethodName := ⟨"CallRowsModel", "<init>", "(I)V"⟩
abbrev kM_init : Cond := .code yM_init cM_init 2 (none)
theorem uc_M_init : kM_init ∈ gU := uw_382
abbrev cM_thrown : ByteArray := prog_5_method_2_code
def yM_thrown : MethodName := ⟨"CallRowsModel", "thrown", "()I"⟩
abbrev kM_thrown : Cond := .code yM_thrown cM_thrown 1 (some .int)
theorem uc_M_thrown : kM_thrown ∈ gU := uw_478
abbrev cM_program : ByteArray := prog_5_method_7_code
def yM_program : MethodName := ⟨"CallRowsModel", "program", "(III)I"⟩
abbrev kM_program : Cond := .code yM_program cM_program 4 (some .int)
theorem uc_M_program : kM_program ∈ gU := uw_482
abbrev cM_isName : ByteArray := prog_5_method_6_code
def yM_isName : MethodName := ⟨"CallRowsModel", "isName", "(I)Z"⟩
abbrev kM_isName : Cond := .code yM_isName cM_isName 1 (some .boolean)
theorem uc_M_isName : kM_isName ∈ gU := uw_485
abbrev cM_directly : ByteArray := prog_5_method_11_code
def yM_directly : MethodName := ⟨"CallRowsModel", "directly", "(II)I"⟩
abbrev kM_directly : Cond := .code yM_directly cM_directly 5 (some .int)
theorem uc_M_directly : kM_directly ∈ gU := uw_489
abbrev cM_cell : ByteArray := prog_5_method_8_code
def yM_cell : MethodName := ⟨"CallRowsModel", "cell", "(IJ)I"⟩
abbrev kM_cell : Cond := .code yM_cell cM_cell 6 (some .int)
theorem uc_M_cell : kM_cell ∈ gU := uw_493
abbrev cM_isProgram : ByteArray := prog_5_method_3_code
def yM_isProgram : MethodName := ⟨"CallRowsModel", "isProgram", "(I)Z"⟩
abbrev kM_isProgram : Cond := .code yM_isProgram cM_isProgram 2 (some .boolean)
theorem uc_M_isProgram : kM_isProgram ∈ gU := uw_497
abbrev cM_formal : ByteArray := prog_5_method_9_code
def yM_formal : MethodName := ⟨"CallRowsModel", "formal", "(III)I"⟩
abbrev kM_formal : Cond := .code yM_formal cM_formal 5 (some .int)
theorem uc_M_formal : kM_formal ∈ gU := uw_501
abbrev cM_shared : ByteArray := prog_5_method_10_code
def yM_shared : MethodName := ⟨"CallRowsModel", "shared", "(I)I"⟩
abbrev kM_shared : Cond := .code yM_shared cM_shared 3 (some .int)
theorem uc_M_shared : kM_shared ∈ gU := uw_505
abbrev cM_set : ByteArray := prog_5_method_19_code
def yM_set : MethodName := ⟨"CallRowsModel", "set", "(IJ)I"⟩
abbrev kM_set : Cond := .code yM_set cM_set 5 (some .int)
theorem uc_M_set : kM_set ∈ gU := uw_509
abbrev cM_place : ByteArray := prog_5_method_14_code
def yM_place : MethodName := ⟨"CallRowsModel", "place", "(I)I"⟩
abbrev kM_place : Cond := .code yM_place cM_place 7 (some .int)
theorem uc_M_place : kM_place ∈ gU := uw_513
abbrev cM_running : ByteArray := prog_5_method_5_code
def yM_running : MethodName := ⟨"CallRowsModel", "running", "()I"⟩
abbrev kM_running : Cond := .code yM_running cM_running 1 (some .int)
theorem uc_M_running : kM_running ∈ gU := uw_517
abbrev cM_is : ByteArray := prog_5_method_4_code
def yM_is : MethodName := ⟨"CallRowsModel", "is", "(II)Z"⟩
abbrev kM_is : Cond := .code yM_is cM_is 3 (some .boolean)
theorem uc_M_is : kM_is ∈ gU := uw_522
abbrev cM_liesIn : ByteArray := prog_5_method_12_code
def yM_liesIn : MethodName := ⟨"CallRowsModel", "liesIn", "(II)Z"⟩
abbrev kM_liesIn : Cond := .code yM_liesIn cM_liesIn 4 (some .boolean)
theorem uc_M_liesIn : kM_liesIn ∈ gU := uw_526
abbrev cM_bytesOf : ByteArray := prog_5_method_15_code
def yM_bytesOf : MethodName := ⟨"CallRowsModel", "bytesOf", "(I)I"⟩
abbrev kM_bytesOf : Cond := .code yM_bytesOf cM_bytesOf 2 (some .int)
theorem uc_M_bytesOf : kM_bytesOf ∈ gU := uw_530
abbrev cM_store : ByteArray := prog_5_method_17_code
def yM_store : MethodName := ⟨"CallRowsModel", "store", "(IIJ)V"⟩
abbrev kM_store : Cond := .code yM_store cM_store 7 (none)
theorem uc_M_store : kM_store ∈ gU := uw_534
abbrev cM_get : ByteArray := prog_5_method_20_code
def yM_get : MethodName := ⟨"CallRowsModel", "get", "(I)J"⟩
abbrev kM_get : Cond := .code yM_get cM_get 3 (some .long)
theorem uc_M_get : kM_get ∈ gU := uw_538
abbrev cM_signed : ByteArray := prog_5_method_16_code
def yM_signed : MethodName := ⟨"CallRowsModel", "signed", "(JI)J"⟩
abbrev kM_signed : Cond := .code yM_signed cM_signed 3 (some .long)
theorem uc_M_signed : kM_signed ∈ gU := uw_541
abbrev cM_call : ByteArray := prog_5_method_23_code
def yM_call : MethodName := ⟨"CallRowsModel", "call", "(II)I"⟩
abbrev kM_call : Cond := .code yM_call cM_call 4 (some .int)
theorem uc_M_call : kM_call ∈ gU := uw_545
abbrev cM_unprepare : ByteArray := prog_5_method_21_code
def yM_unprepare : MethodName := ⟨"CallRowsModel", "unprepare", "()V"⟩
abbrev kM_unprepare : Cond := .code yM_unprepare cM_unprepare 1 (none)
theorem uc_M_unprepare : kM_unprepare ∈ gU := uw_549
abbrev cM_isFrom : ByteArray := prog_5_method_22_code
def yM_isFrom : MethodName := ⟨"CallRowsModel", "isFrom", "(II)Z"⟩
abbrev kM_isFrom : Cond := .code yM_isFrom cM_isFrom 3 (some .boolean)
theorem uc_M_isFrom : kM_isFrom ∈ gU := uw_553
abbrev cM_find : ByteArray := prog_5_method_13_code
def yM_find : MethodName := ⟨"CallRowsModel", "find", "(II)I"⟩
abbrev kM_find : Cond := .code yM_find cM_find 6 (some .int)
theorem uc_M_find : kM_find ∈ gU := uw_557
abbrev cM_actual : ByteArray := prog_5_method_24_code
def yM_actual : MethodName := ⟨"CallRowsModel", "actual", "(II)I"⟩
abbrev kM_actual : Cond := .code yM_actual cM_actual 4 (some .int)
theorem uc_M_actual : kM_actual ∈ gU := uw_561
abbrev cM_copy : ByteArray := prog_5_method_18_code
def yM_copy : MethodName := ⟨"CallRowsModel", "copy", "(J)I"⟩
abbrev kM_copy : Cond := .code yM_copy cM_copy 3 (some .int)
theorem uc_M_copy : kM_copy ∈ gU := uw_565
abbrev cM_enter : ByteArray := prog_5_method_26_code
def yM_enter : MethodName := ⟨"CallRowsModel", "enter", "()I"⟩
abbrev kM_enter : Cond := .code yM_enter cM_enter 6 (some .int)
theorem uc_M_enter : kM_enter ∈ gU := uw_569
abbrev cM_refusal : ByteArray := prog_5_method_25_code
def yM_refusal : MethodName := ⟨"CallRowsModel", "refusal", "()I"⟩
abbrev kM_refusal : Cond := .code yM_refusal cM_refusal 4 (some .int)
theorem uc_M_refusal : kM_refusal ∈ gU := uw_573
abbrev cM_leave : ByteArray := prog_5_method_27_code
def yM_leave : MethodName := ⟨"CallRowsModel", "leave", "(J)I"⟩
abbrev kM_leave : Cond := .code yM_leave cM_leave 4 (some .int)
theorem uc_M_leave : kM_leave ∈ gU := uw_577
abbrev cM_cancel : ByteArray := prog_5_method_28_code
def yM_cancel : MethodName := ⟨"CallRowsModel", "cancel", "(II)I"⟩
abbrev kM_cancel : Cond := .code yM_cancel cM_cancel 7 (some .int)
theorem uc_M_cancel : kM_cancel ∈ gU := uw_581
abbrev cM_state : ByteArray := prog_5_method_29_code
def yM_state : MethodName := ⟨"CallRowsModel", "state", "(I)I"⟩
abbrev kM_state : Cond := .code yM_state cM_state 2 (some .int)
theorem uc_M_state : kM_state ∈ gU := uw_585
abbrev cM_returned : ByteArray := prog_5_method_30_code
def yM_returned : MethodName := ⟨"CallRowsModel", "returned", "()J"⟩
abbrev kM_returned : Cond := .code yM_returned cM_returned 1 (some .long)
theorem uc_M_returned : kM_returned ∈ gU := uw_589
abbrev cM_count : ByteArray := prog_5_method_31_code
def yM_count : MethodName := ⟨"CallRowsModel", "count", "(I)I"⟩
abbrev kM_count : Cond := .code yM_count cM_count 2 (some .int)
theorem uc_M_count : kM_count ∈ gU := uw_593
end
section
theorem dL_init_0 : decode cL_init 0 = .ok (.aload_n 0, 1) := by decide +kernel
theorem dL_init_1 : decode cL_init 1 = .ok (.invokespecial 3, 3) := by decide +kernel
theorem dL_init_4 : decode cL_init 4 = .ok (.aload_n 0, 1) := by decide +kernel
theorem dL_init_5 : decode cL_init 5 = .ok (.bipush 16, 2) := by decide +kernel
theorem dL_init_7 : decode cL_init 7 = .ok (.anewarray 9, 3) := by decide +kernel
theorem dL_init_10 : decode cL_init 10 = .ok (.putfield 11, 3) := by decide +kernel
theorem dL_init_13 : decode cL_init 13 = .ok (.aload_n 0, 1) := by decide +kernel
theorem dL_init_14 : decode cL_init 14 = .ok (.bipush 16, 2) := by decide +kernel
theorem dL_init_16 : decode cL_init 16 = .ok (.newarray .int, 2) := by decide +kernel
theorem dL_init_18 : decode cL_init 18 = .ok (.putfield 15, 3) := by decide +kernel
theorem dL_init_21 : decode cL_init 21 = .ok (.aload_n 0, 1) := by decide +kernel
theorem dL_init_22 : decode cL_init 22 = .ok (.bipush 16, 2) := by decide +kernel
theorem dL_init_24 : decode cL_init 24 = .ok (.newarray .int, 2) := by decide +kernel
theorem dL_init_26 : decode cL_init 26 = .ok (.putfield 19, 3) := by decide +kernel
theorem dL_init_29 : decode cL_init 29 = .ok (.aload_n 0, 1) := by decide +kernel
theorem dL_init_30 : decode cL_init 30 = .ok (.sipush 216, 3) := by decide +kernel
theorem dL_init_33 : decode cL_init 33 = .ok (.newarray .long, 2) := by decide +kernel
theorem dL_init_35 : decode cL_init 35 = .ok (.putfield 22, 3) := by decide +kernel
theorem dL_init_38 : decode cL_init 38 = .ok (.aload_n 0, 1) := by decide +kernel
theorem dL_init_39 : decode cL_init 39 = .ok (.aload_n 1, 1) := by decide +kernel
theorem dL_init_40 : decode cL_init 40 = .ok (.putfield 26, 3) := by decide +kernel
theorem dL_init_43 : decode cL_init 43 = .ok (.return_, 1) := by decide +kernel
theorem dL_begin_0 : decode cL_begin 0 = .ok (.aload_n 0, 1) := by decide +kernel
theorem dL_begin_1 : decode cL_begin 1 = .ok (.aload_n 1, 1) := by decide +kernel
theorem dL_begin_2 : decode cL_begin 2 = .ok (.putfield 30, 3) := by decide +kernel
theorem dL_begin_5 : decode cL_begin 5 = .ok (.aload_n 0, 1) := by decide +kernel
theorem dL_begin_6 : decode cL_begin 6 = .ok (.iconst 0, 1) := by decide +kernel
theorem dL_begin_7 : decode cL_begin 7 = .ok (.putfield 34, 3) := by decide +kernel
theorem dL_begin_10 : decode cL_begin 10 = .ok (.iconst 0, 1) := by decide +kernel
theorem dL_begin_11 : decode cL_begin 11 = .ok (.istore_n 2, 1) := by decide +kernel
theorem dL_begin_12 : decode cL_begin 12 = .ok (.iload_n 2, 1) := by decide +kernel
theorem dL_begin_13 : decode cL_begin 13 = .ok (.bipush 16, 2) := by decide +kernel
theorem dL_begin_15 : decode cL_begin 15 = .ok (.if_icmp .ge 16, 3) := by decide +kernel
theorem dL_begin_18 : decode cL_begin 18 = .ok (.aload_n 0, 1) := by decide +kernel
theorem dL_begin_19 : decode cL_begin 19 = .ok (.getfield 11, 3) := by decide +kernel
theorem dL_begin_22 : decode cL_begin 22 = .ok (.iload_n 2, 1) := by decide +kernel
theorem dL_begin_23 : decode cL_begin 23 = .ok (.aconst_null, 1) := by decide +kernel
theorem dL_begin_24 : decode cL_begin 24 = .ok (.aastore, 1) := by decide +kernel
theorem dL_begin_25 : decode cL_begin 25 = .ok (.iinc 2 1, 3) := by decide +kernel
theorem dL_begin_28 : decode cL_begin 28 = .ok (.goto (-16), 3) := by decide +kernel
theorem dL_begin_31 : decode cL_begin 31 = .ok (.return_, 1) := by decide +kernel
theorem dL_share_0 : decode cL_share 0 = .ok (.aload_n 0, 1) := by decide +kernel
theorem dL_share_1 : decode cL_share 1 = .ok (.getfield 11, 3) := by decide +kernel
theorem dL_share_4 : decode cL_share 4 = .ok (.iload_n 1, 1) := by decide +kernel
theorem dL_share_5 : decode cL_share 5 = .ok (.aload_n 2, 1) := by decide +kernel
theorem dL_share_6 : decode cL_share 6 = .ok (.aastore, 1) := by decide +kernel
theorem dL_share_7 : decode cL_share 7 = .ok (.aload_n 0, 1) := by decide +kernel
theorem dL_share_8 : decode cL_share 8 = .ok (.getfield 15, 3) := by decide +kernel
theorem dL_share_11 : decode cL_share 11 = .ok (.iload_n 1, 1) := by decide +kernel
theorem dL_share_12 : decode cL_share 12 = .ok (.iload_n 3, 1) := by decide +kernel
theorem dL_share_13 : decode cL_share 13 = .ok (.iastore, 1) := by decide +kernel
theorem dL_share_14 : decode cL_share 14 = .ok (.aload_n 0, 1) := by decide +kernel
theorem dL_share_15 : decode cL_share 15 = .ok (.getfield 19, 3) := by decide +kernel
theorem dL_share_18 : decode cL_share 18 = .ok (.iload_n 1, 1) := by decide +kernel
theorem dL_share_19 : decode cL_share 19 = .ok (.iload 4, 2) := by decide +kernel
theorem dL_share_21 : decode cL_share 21 = .ok (.iastore, 1) := by decide +kernel
theorem dL_share_22 : decode cL_share 22 = .ok (.return_, 1) := by decide +kernel
theorem dL_copy_0 : decode cL_copy 0 = .ok (.aload_n 0, 1) := by decide +kernel
theorem dL_copy_1 : decode cL_copy 1 = .ok (.getfield 11, 3) := by decide +kernel
theorem dL_copy_4 : decode cL_copy 4 = .ok (.iload_n 1, 1) := by decide +kernel
theorem dL_copy_5 : decode cL_copy 5 = .ok (.aaload, 1) := by decide +kernel
theorem dL_copy_6 : decode cL_copy 6 = .ok (.astore_n 2, 1) := by decide +kernel
theorem dL_copy_7 : decode cL_copy 7 = .ok (.aload_n 2, 1) := by decide +kernel
theorem dL_copy_8 : decode cL_copy 8 = .ok (.ifnull 34, 3) := by decide +kernel
theorem dL_copy_11 : decode cL_copy 11 = .ok (.aload_n 0, 1) := by decide +kernel
theorem dL_copy_12 : decode cL_copy 12 = .ok (.getfield 22, 3) := by decide +kernel
theorem dL_copy_15 : decode cL_copy 15 = .ok (.iload_n 1, 1) := by decide +kernel
theorem dL_copy_16 : decode cL_copy 16 = .ok (.aload_n 2, 1) := by decide +kernel
theorem dL_copy_17 : decode cL_copy 17 = .ok (.getfield 22, 3) := by decide +kernel
theorem dL_copy_20 : decode cL_copy 20 = .ok (.aload_n 0, 1) := by decide +kernel
theorem dL_copy_21 : decode cL_copy 21 = .ok (.getfield 15, 3) := by decide +kernel
theorem dL_copy_24 : decode cL_copy 24 = .ok (.iload_n 1, 1) := by decide +kernel
theorem dL_copy_25 : decode cL_copy 25 = .ok (.iaload, 1) := by decide +kernel
theorem dL_copy_26 : decode cL_copy 26 = .ok (.laload, 1) := by decide +kernel
theorem dL_copy_27 : decode cL_copy 27 = .ok (.lastore, 1) := by decide +kernel
theorem dL_copy_28 : decode cL_copy 28 = .ok (.aload_n 0, 1) := by decide +kernel
theorem dL_copy_29 : decode cL_copy 29 = .ok (.getfield 11, 3) := by decide +kernel
theorem dL_copy_32 : decode cL_copy 32 = .ok (.iload_n 1, 1) := by decide +kernel
theorem dL_copy_33 : decode cL_copy 33 = .ok (.aload_n 0, 1) := by decide +kernel
theorem dL_copy_34 : decode cL_copy 34 = .ok (.aastore, 1) := by decide +kernel
theorem dL_copy_35 : decode cL_copy 35 = .ok (.aload_n 0, 1) := by decide +kernel
theorem dL_copy_36 : decode cL_copy 36 = .ok (.getfield 15, 3) := by decide +kernel
theorem dL_copy_39 : decode cL_copy 39 = .ok (.iload_n 1, 1) := by decide +kernel
theorem dL_copy_40 : decode cL_copy 40 = .ok (.iload_n 1, 1) := by decide +kernel
theorem dL_copy_41 : decode cL_copy 41 = .ok (.iastore, 1) := by decide +kernel
theorem dL_copy_42 : decode cL_copy 42 = .ok (.return_, 1) := by decide +kernel
theorem dP_init_0 : decode cP_init 0 = .ok (.aload_n 0, 1) := by decide +kernel
theorem dP_init_1 : decode cP_init 1 = .ok (.invokespecial 3, 3) := by decide +kernel
theorem dP_init_4 : decode cP_init 4 = .ok (.aload_n 0, 1) := by decide +kernel
theorem dP_init_5 : decode cP_init 5 = .ok (.bipush 16, 2) := by decide +kernel
theorem dP_init_7 : decode cP_init 7 = .ok (.newarray .int, 2) := by decide +kernel
theorem dP_init_9 : decode cP_init 9 = .ok (.putfield 9, 3) := by decide +kernel
theorem dP_init_12 : decode cP_init 12 = .ok (.aload_n 0, 1) := by decide +kernel
theorem dP_init_13 : decode cP_init 13 = .ok (.bipush 16, 2) := by decide +kernel
theorem dP_init_15 : decode cP_init 15 = .ok (.newarray .int, 2) := by decide +kernel
theorem dP_init_17 : decode cP_init 17 = .ok (.putfield 15, 3) := by decide +kernel
theorem dP_init_20 : decode cP_init 20 = .ok (.aload_n 0, 1) := by decide +kernel
theorem dP_init_21 : decode cP_init 21 = .ok (.aload_n 1, 1) := by decide +kernel
theorem dP_init_22 : decode cP_init 22 = .ok (.putfield 18, 3) := by decide +kernel
theorem dP_init_25 : decode cP_init 25 = .ok (.aload_n 0, 1) := by decide +kernel
theorem dP_init_26 : decode cP_init 26 = .ok (.iload_n 2, 1) := by decide +kernel
theorem dP_init_27 : decode cP_init 27 = .ok (.putfield 22, 3) := by decide +kernel
theorem dP_init_30 : decode cP_init 30 = .ok (.aload_n 0, 1) := by decide +kernel
theorem dP_init_31 : decode cP_init 31 = .ok (.iload_n 3, 1) := by decide +kernel
theorem dP_init_32 : decode cP_init 32 = .ok (.putfield 26, 3) := by decide +kernel
theorem dP_init_35 : decode cP_init 35 = .ok (.aload_n 0, 1) := by decide +kernel
theorem dP_init_36 : decode cP_init 36 = .ok (.iload 4, 2) := by decide +kernel
theorem dP_init_38 : decode cP_init 38 = .ok (.putfield 29, 3) := by decide +kernel
theorem dP_init_41 : decode cP_init 41 = .ok (.return_, 1) := by decide +kernel
theorem dP_has_0 : decode cP_has 0 = .ok (.aload_n 0, 1) := by decide +kernel
theorem dP_has_1 : decode cP_has 1 = .ok (.getfield 29, 3) := by decide +kernel
theorem dP_has_4 : decode cP_has 4 = .ok (.iload_n 1, 1) := by decide +kernel
theorem dP_has_5 : decode cP_has 5 = .ok (.iand, 1) := by decide +kernel
theorem dP_has_6 : decode cP_has 6 = .ok (.ifCond .eq 7, 3) := by decide +kernel
theorem dP_has_9 : decode cP_has 9 = .ok (.iconst 1, 1) := by decide +kernel
theorem dP_has_10 : decode cP_has 10 = .ok (.goto 4, 3) := by decide +kernel
theorem dP_has_13 : decode cP_has 13 = .ok (.iconst 0, 1) := by decide +kernel
theorem dP_has_14 : decode cP_has 14 = .ok (.ireturn, 1) := by decide +kernel
theorem dP_isOrLiesIn_0 : decode cP_isOrLiesIn 0 = .ok (.aload_n 0, 1) := by decide +kernel
theorem dP_isOrLiesIn_1 : decode cP_isOrLiesIn 1 = .ok (.astore_n 2, 1) := by decide +kernel
theorem dP_isOrLiesIn_2 : decode cP_isOrLiesIn 2 = .ok (.aload_n 2, 1) := by decide +kernel
theorem dP_isOrLiesIn_3 : decode cP_isOrLiesIn 3 = .ok (.ifnull 18, 3) := by decide +kernel
theorem dP_isOrLiesIn_6 : decode cP_isOrLiesIn 6 = .ok (.aload_n 2, 1) := by decide +kernel
theorem dP_isOrLiesIn_7 : decode cP_isOrLiesIn 7 = .ok (.aload_n 1, 1) := by decide +kernel
theorem dP_isOrLiesIn_8 : decode cP_isOrLiesIn 8 = .ok (.if_acmp .ne 5, 3) := by decide +kernel
theorem dP_isOrLiesIn_11 : decode cP_isOrLiesIn 11 = .ok (.iconst 1, 1) := by decide +kernel
theorem dP_isOrLiesIn_12 : decode cP_isOrLiesIn 12 = .ok (.ireturn, 1) := by decide +kernel
theorem dP_isOrLiesIn_13 : decode cP_isOrLiesIn 13 = .ok (.aload_n 2, 1) := by decide +kernel
theorem dP_isOrLiesIn_14 : decode cP_isOrLiesIn 14 = .ok (.getfield 18, 3) := by decide +kernel
theorem dP_isOrLiesIn_17 : decode cP_isOrLiesIn 17 = .ok (.astore_n 2, 1) := by decide +kernel
theorem dP_isOrLiesIn_18 : decode cP_isOrLiesIn 18 = .ok (.goto (-16), 3) := by decide +kernel
theorem dP_isOrLiesIn_21 : decode cP_isOrLiesIn 21 = .ok (.iconst 0, 1) := by decide +kernel
theorem dP_isOrLiesIn_22 : decode cP_isOrLiesIn 22 = .ok (.ireturn, 1) := by decide +kernel
theorem dP_keepsData_0 : decode cP_keepsData 0 = .ok (.aload_n 0, 1) := by decide +kernel
theorem dP_keepsData_1 : decode cP_keepsData 1 = .ok (.iconst 1, 1) := by decide +kernel
theorem dP_keepsData_2 : decode cP_keepsData 2 = .ok (.invokevirtual 32, 3) := by decide +kernel
theorem dP_keepsData_5 : decode cP_keepsData 5 = .ok (.ifCond .ne 15, 3) := by decide +kernel
theorem dP_keepsData_8 : decode cP_keepsData 8 = .ok (.aload_n 0, 1) := by decide +kernel
theorem dP_keepsData_9 : decode cP_keepsData 9 = .ok (.iconst 4, 1) := by decide +kernel
theorem dP_keepsData_10 : decode cP_keepsData 10 = .ok (.invokevirtual 32, 3) := by decide +kernel
theorem dP_keepsData_13 : decode cP_keepsData 13 = .ok (.ifCond .ne 7, 3) := by decide +kernel
theorem dP_keepsData_16 : decode cP_keepsData 16 = .ok (.iconst 1, 1) := by decide +kernel
theorem dP_keepsData_17 : decode cP_keepsData 17 = .ok (.goto 4, 3) := by decide +kernel
theorem dP_keepsData_20 : decode cP_keepsData 20 = .ok (.iconst 0, 1) := by decide +kernel
theorem dP_keepsData_21 : decode cP_keepsData 21 = .ok (.ireturn, 1) := by decide +kernel
theorem dR_init_0 : decode cR_init 0 = .ok (.aload_n 0, 1) := by decide +kernel
theorem dR_init_1 : decode cR_init 1 = .ok (.invokespecial 1, 3) := by decide +kernel
theorem dR_init_4 : decode cR_init 4 = .ok (.aload_n 0, 1) := by decide +kernel
theorem dR_init_5 : decode cR_init 5 = .ok (.bipush 61, 2) := by decide +kernel
theorem dR_init_7 : decode cR_init 7 = .ok (.anewarray 9, 3) := by decide +kernel
theorem dR_init_10 : decode cR_init 10 = .ok (.putfield 11, 3) := by decide +kernel
theorem dR_init_13 : decode cR_init 13 = .ok (.aload_n 0, 1) := by decide +kernel
theorem dR_init_14 : decode cR_init 14 = .ok (.sipush 200, 3) := by decide +kernel
theorem dR_init_17 : decode cR_init 17 = .ok (.anewarray 9, 3) := by decide +kernel
theorem dR_init_20 : decode cR_init 20 = .ok (.putfield 15, 3) := by decide +kernel
theorem dR_init_23 : decode cR_init 23 = .ok (.aload_n 0, 1) := by decide +kernel
theorem dR_init_24 : decode cR_init 24 = .ok (.sipush 200, 3) := by decide +kernel
theorem dR_init_27 : decode cR_init 27 = .ok (.newarray .long, 2) := by decide +kernel
theorem dR_init_29 : decode cR_init 29 = .ok (.putfield 18, 3) := by decide +kernel
theorem dR_init_32 : decode cR_init 32 = .ok (.aload_n 0, 1) := by decide +kernel
theorem dR_init_33 : decode cR_init 33 = .ok (.bipush 100, 2) := by decide +kernel
theorem dR_init_35 : decode cR_init 35 = .ok (.newarray .int, 2) := by decide +kernel
theorem dR_init_37 : decode cR_init 37 = .ok (.putfield 22, 3) := by decide +kernel
theorem dR_init_40 : decode cR_init 40 = .ok (.aload_n 0, 1) := by decide +kernel
theorem dR_init_41 : decode cR_init 41 = .ok (.new 26, 3) := by decide +kernel
theorem dR_init_44 : decode cR_init 44 = .ok (.dup, 1) := by decide +kernel
theorem dR_init_45 : decode cR_init 45 = .ok (.aconst_null, 1) := by decide +kernel
theorem dR_init_46 : decode cR_init 46 = .ok (.invokespecial 28, 3) := by decide +kernel
theorem dR_init_49 : decode cR_init 49 = .ok (.putfield 31, 3) := by decide +kernel
theorem dR_init_52 : decode cR_init 52 = .ok (.aload_n 0, 1) := by decide +kernel
theorem dR_init_53 : decode cR_init 53 = .ok (.aload_n 0, 1) := by decide +kernel
theorem dR_init_54 : decode cR_init 54 = .ok (.getfield 31, 3) := by decide +kernel
theorem dR_init_57 : decode cR_init 57 = .ok (.putfield 35, 3) := by decide +kernel
theorem dR_init_60 : decode cR_init 60 = .ok (.aload_n 0, 1) := by decide +kernel
theorem dR_init_61 : decode cR_init 61 = .ok (.iconst 0, 1) := by decide +kernel
theorem dR_init_62 : decode cR_init 62 = .ok (.iload_n 1, 1) := by decide +kernel
theorem dR_init_63 : decode cR_init 63 = .ok (.ldc 38, 2) := by decide +kernel
theorem dR_init_65 : decode cR_init 65 = .ok (.invokestatic 39, 3) := by decide +kernel
theorem dR_init_68 : decode cR_init 68 = .ok (.invokestatic 45, 3) := by decide +kernel
theorem dR_init_71 : decode cR_init 71 = .ok (.putfield 48, 3) := by decide +kernel
theorem dR_init_74 : decode cR_init 74 = .ok (.iconst 0, 1) := by decide +kernel
theorem dR_init_75 : decode cR_init 75 = .ok (.istore_n 2, 1) := by decide +kernel
theorem dR_init_76 : decode cR_init 76 = .ok (.iload_n 2, 1) := by decide +kernel
theorem dR_init_77 : decode cR_init 77 = .ok (.bipush 100, 2) := by decide +kernel
theorem dR_init_79 : decode cR_init 79 = .ok (.if_icmp .ge 16, 3) := by decide +kernel
theorem dR_init_82 : decode cR_init 82 = .ok (.aload_n 0, 1) := by decide +kernel
theorem dR_init_83 : decode cR_init 83 = .ok (.getfield 22, 3) := by decide +kernel
theorem dR_init_86 : decode cR_init 86 = .ok (.iload_n 2, 1) := by decide +kernel
theorem dR_init_87 : decode cR_init 87 = .ok (.iconst (-1), 1) := by decide +kernel
theorem dR_init_88 : decode cR_init 88 = .ok (.iastore, 1) := by decide +kernel
theorem dR_init_89 : decode cR_init 89 = .ok (.iinc 2 1, 3) := by decide +kernel
theorem dR_init_92 : decode cR_init 92 = .ok (.goto (-16), 3) := by decide +kernel
theorem dR_init_95 : decode cR_init 95 = .ok (.return_, 1) := by decide +kernel
theorem dR_program_0 : decode cR_program 0 = .ok (.iload_n 1, 1) := by decide +kernel
theorem dR_program_1 : decode cR_program 1 = .ok (.ifCond .eq 11, 3) := by decide +kernel
theorem dR_program_4 : decode cR_program 4 = .ok (.aload_n 0, 1) := by decide +kernel
theorem dR_program_5 : decode cR_program 5 = .ok (.iload_n 1, 1) := by decide +kernel
theorem dR_program_6 : decode cR_program 6 = .ok (.invokevirtual 52, 3) := by decide +kernel
theorem dR_program_9 : decode cR_program 9 = .ok (.ifnull 7, 3) := by decide +kernel
theorem dR_program_12 : decode cR_program 12 = .ok (.iconst 1, 1) := by decide +kernel
theorem dR_program_13 : decode cR_program 13 = .ok (.goto 4, 3) := by decide +kernel
theorem dR_program_16 : decode cR_program 16 = .ok (.iconst 0, 1) := by decide +kernel
theorem dR_program_17 : decode cR_program 17 = .ok (.istore 4, 2) := by decide +kernel
theorem dR_program_19 : decode cR_program 19 = .ok (.iload 4, 2) := by decide +kernel
theorem dR_program_21 : decode cR_program 21 = .ok (.ifCond .eq 20, 3) := by decide +kernel
theorem dR_program_24 : decode cR_program 24 = .ok (.iload_n 2, 1) := by decide +kernel
theorem dR_program_25 : decode cR_program 25 = .ok (.invokestatic 56, 3) := by decide +kernel
theorem dR_program_28 : decode cR_program 28 = .ok (.ifCond .eq 13, 3) := by decide +kernel
theorem dR_program_31 : decode cR_program 31 = .ok (.iload_n 3, 1) := by decide +kernel
theorem dR_program_32 : decode cR_program 32 = .ok (.ifCond .lt 9, 3) := by decide +kernel
theorem dR_program_35 : decode cR_program 35 = .ok (.iload_n 3, 1) := by decide +kernel
theorem dR_program_36 : decode cR_program 36 = .ok (.bipush 15, 2) := by decide +kernel
theorem dR_program_38 : decode cR_program 38 = .ok (.if_icmp .le 6, 3) := by decide +kernel
theorem dR_program_41 : decode cR_program 41 = .ok (.bipush (-2), 2) := by decide +kernel
theorem dR_program_43 : decode cR_program 43 = .ok (.ireturn, 1) := by decide +kernel
theorem dR_program_44 : decode cR_program 44 = .ok (.aload_n 0, 1) := by decide +kernel
theorem dR_program_45 : decode cR_program 45 = .ok (.getfield 60, 3) := by decide +kernel
theorem dR_program_48 : decode cR_program 48 = .ok (.ifCond .le 6, 3) := by decide +kernel
theorem dR_program_51 : decode cR_program 51 = .ok (.bipush (-4), 2) := by decide +kernel
theorem dR_program_53 : decode cR_program 53 = .ok (.ireturn, 1) := by decide +kernel
theorem dR_program_54 : decode cR_program 54 = .ok (.aload_n 0, 1) := by decide +kernel
theorem dR_program_55 : decode cR_program 55 = .ok (.iload_n 1, 1) := by decide +kernel
theorem dR_program_56 : decode cR_program 56 = .ok (.invokevirtual 52, 3) := by decide +kernel
theorem dR_program_59 : decode cR_program 59 = .ok (.astore 5, 2) := by decide +kernel
theorem dR_program_61 : decode cR_program 61 = .ok (.aload_n 0, 1) := by decide +kernel
theorem dR_program_62 : decode cR_program 62 = .ok (.aload 5, 2) := by decide +kernel
theorem dR_program_64 : decode cR_program 64 = .ok (.iload_n 2, 1) := by decide +kernel
theorem dR_program_65 : decode cR_program 65 = .ok (.invokevirtual 63, 3) := by decide +kernel
theorem dR_program_68 : decode cR_program 68 = .ok (.ifnull 6, 3) := by decide +kernel
theorem dR_program_71 : decode cR_program 71 = .ok (.bipush (-3), 2) := by decide +kernel
theorem dR_program_73 : decode cR_program 73 = .ok (.ireturn, 1) := by decide +kernel
theorem dR_program_74 : decode cR_program 74 = .ok (.aload_n 0, 1) := by decide +kernel
theorem dR_program_75 : decode cR_program 75 = .ok (.getfield 67, 3) := by decide +kernel
theorem dR_program_78 : decode cR_program 78 = .ok (.bipush 60, 2) := by decide +kernel
theorem dR_program_80 : decode cR_program 80 = .ok (.if_icmp .lt 5, 3) := by decide +kernel
theorem dR_program_83 : decode cR_program 83 = .ok (.iconst (-1), 1) := by decide +kernel
theorem dR_program_84 : decode cR_program 84 = .ok (.ireturn, 1) := by decide +kernel
theorem dR_program_85 : decode cR_program 85 = .ok (.aload_n 0, 1) := by decide +kernel
theorem dR_program_86 : decode cR_program 86 = .ok (.dup, 1) := by decide +kernel
theorem dR_program_87 : decode cR_program 87 = .ok (.getfield 67, 3) := by decide +kernel
theorem dR_program_90 : decode cR_program 90 = .ok (.iconst 1, 1) := by decide +kernel
theorem dR_program_91 : decode cR_program 91 = .ok (.iadd, 1) := by decide +kernel
theorem dR_program_92 : decode cR_program 92 = .ok (.putfield 67, 3) := by decide +kernel
theorem dR_program_95 : decode cR_program 95 = .ok (.aload_n 0, 1) := by decide +kernel
theorem dR_program_96 : decode cR_program 96 = .ok (.getfield 11, 3) := by decide +kernel
theorem dR_program_99 : decode cR_program 99 = .ok (.aload_n 0, 1) := by decide +kernel
theorem dR_program_100 : decode cR_program 100 = .ok (.getfield 67, 3) := by decide +kernel
theorem dR_program_103 : decode cR_program 103 = .ok (.new 9, 3) := by decide +kernel
theorem dR_program_106 : decode cR_program 106 = .ok (.dup, 1) := by decide +kernel
theorem dR_program_107 : decode cR_program 107 = .ok (.aload 5, 2) := by decide +kernel
theorem dR_program_109 : decode cR_program 109 = .ok (.aload_n 0, 1) := by decide +kernel
theorem dR_program_110 : decode cR_program 110 = .ok (.getfield 67, 3) := by decide +kernel
theorem dR_program_113 : decode cR_program 113 = .ok (.iload_n 2, 1) := by decide +kernel
theorem dR_program_114 : decode cR_program 114 = .ok (.iload_n 3, 1) := by decide +kernel
theorem dR_program_115 : decode cR_program 115 = .ok (.invokespecial 70, 3) := by decide +kernel
theorem dR_program_118 : decode cR_program 118 = .ok (.aastore, 1) := by decide +kernel
theorem dR_program_119 : decode cR_program 119 = .ok (.aload_n 0, 1) := by decide +kernel
theorem dR_program_120 : decode cR_program 120 = .ok (.getfield 67, 3) := by decide +kernel
theorem dR_program_123 : decode cR_program 123 = .ok (.ireturn, 1) := by decide +kernel
theorem dR_programOf_0 : decode cR_programOf 0 = .ok (.iload_n 1, 1) := by decide +kernel
theorem dR_programOf_1 : decode cR_programOf 1 = .ok (.iconst 1, 1) := by decide +kernel
theorem dR_programOf_2 : decode cR_programOf 2 = .ok (.if_icmp .lt 20, 3) := by decide +kernel
theorem dR_programOf_5 : decode cR_programOf 5 = .ok (.iload_n 1, 1) := by decide +kernel
theorem dR_programOf_6 : decode cR_programOf 6 = .ok (.aload_n 0, 1) := by decide +kernel
theorem dR_programOf_7 : decode cR_programOf 7 = .ok (.getfield 67, 3) := by decide +kernel
theorem dR_programOf_10 : decode cR_programOf 10 = .ok (.if_icmp .gt 12, 3) := by decide +kernel
theorem dR_programOf_13 : decode cR_programOf 13 = .ok (.aload_n 0, 1) := by decide +kernel
theorem dR_programOf_14 : decode cR_programOf 14 = .ok (.getfield 11, 3) := by decide +kernel
theorem dR_programOf_17 : decode cR_programOf 17 = .ok (.iload_n 1, 1) := by decide +kernel
theorem dR_programOf_18 : decode cR_programOf 18 = .ok (.aaload, 1) := by decide +kernel
theorem dR_programOf_19 : decode cR_programOf 19 = .ok (.goto 4, 3) := by decide +kernel
theorem dR_programOf_22 : decode cR_programOf 22 = .ok (.aconst_null, 1) := by decide +kernel
theorem dR_programOf_23 : decode cR_programOf 23 = .ok (.areturn, 1) := by decide +kernel
theorem dR_isName_0 : decode cR_isName 0 = .ok (.iload_n 0, 1) := by decide +kernel
theorem dR_isName_1 : decode cR_isName 1 = .ok (.ifCond .lt 13, 3) := by decide +kernel
theorem dR_isName_4 : decode cR_isName 4 = .ok (.iload_n 0, 1) := by decide +kernel
theorem dR_isName_5 : decode cR_isName 5 = .ok (.bipush 100, 2) := by decide +kernel
theorem dR_isName_7 : decode cR_isName 7 = .ok (.if_icmp .ge 7, 3) := by decide +kernel
theorem dR_isName_10 : decode cR_isName 10 = .ok (.iconst 1, 1) := by decide +kernel
theorem dR_isName_11 : decode cR_isName 11 = .ok (.goto 4, 3) := by decide +kernel
theorem dR_isName_14 : decode cR_isName 14 = .ok (.iconst 0, 1) := by decide +kernel
theorem dR_isName_15 : decode cR_isName 15 = .ok (.ireturn, 1) := by decide +kernel
theorem dR_directlyWithin_0 : decode cR_directlyWithin 0 = .ok (.iconst 1, 1) := by decide +kernel
theorem dR_directlyWithin_1 : decode cR_directlyWithin 1 = .ok (.istore_n 3, 1) := by decide +kernel
theorem dR_directlyWithin_2 : decode cR_directlyWithin 2 = .ok (.iload_n 3, 1) := by decide +kernel
theorem dR_directlyWithin_3 : decode cR_directlyWithin 3 = .ok (.aload_n 0, 1) := by decide +kernel
theorem dR_directlyWithin_4 : decode cR_directlyWithin 4 = .ok (.getfield 67, 3) := by decide +kernel
theorem dR_directlyWithin_7 : decode cR_directlyWithin 7 = .ok (.if_icmp .gt 43, 3) := by decide +kernel
theorem dR_directlyWithin_10 : decode cR_directlyWithin 10 = .ok (.aload_n 0, 1) := by decide +kernel
theorem dR_directlyWithin_11 : decode cR_directlyWithin 11 = .ok (.getfield 11, 3) := by decide +kernel
theorem dR_directlyWithin_14 : decode cR_directlyWithin 14 = .ok (.iload_n 3, 1) := by decide +kernel
theorem dR_directlyWithin_15 : decode cR_directlyWithin 15 = .ok (.aaload, 1) := by decide +kernel
theorem dR_directlyWithin_16 : decode cR_directlyWithin 16 = .ok (.astore 4, 2) := by decide +kernel
theorem dR_directlyWithin_18 : decode cR_directlyWithin 18 = .ok (.aload 4, 2) := by decide +kernel
theorem dR_directlyWithin_20 : decode cR_directlyWithin 20 = .ok (.ifnull 24, 3) := by decide +kernel
theorem dR_directlyWithin_23 : decode cR_directlyWithin 23 = .ok (.aload 4, 2) := by decide +kernel
theorem dR_directlyWithin_25 : decode cR_directlyWithin 25 = .ok (.getfield 202, 3) := by decide +kernel
theorem dR_directlyWithin_28 : decode cR_directlyWithin 28 = .ok (.aload_n 1, 1) := by decide +kernel
theorem dR_directlyWithin_29 : decode cR_directlyWithin 29 = .ok (.if_acmp .ne 15, 3) := by decide +kernel
theorem dR_directlyWithin_32 : decode cR_directlyWithin 32 = .ok (.aload 4, 2) := by decide +kernel
theorem dR_directlyWithin_34 : decode cR_directlyWithin 34 = .ok (.getfield 205, 3) := by decide +kernel
theorem dR_directlyWithin_37 : decode cR_directlyWithin 37 = .ok (.iload_n 2, 1) := by decide +kernel
theorem dR_directlyWithin_38 : decode cR_directlyWithin 38 = .ok (.if_icmp .ne 6, 3) := by decide +kernel
theorem dR_directlyWithin_41 : decode cR_directlyWithin 41 = .ok (.aload 4, 2) := by decide +kernel
theorem dR_directlyWithin_43 : decode cR_directlyWithin 43 = .ok (.areturn, 1) := by decide +kernel
theorem dR_directlyWithin_44 : decode cR_directlyWithin 44 = .ok (.iinc 3 1, 3) := by decide +kernel
theorem dR_directlyWithin_47 : decode cR_directlyWithin 47 = .ok (.goto (-45), 3) := by decide +kernel
theorem dR_directlyWithin_50 : decode cR_directlyWithin 50 = .ok (.aconst_null, 1) := by decide +kernel
theorem dR_directlyWithin_51 : decode cR_directlyWithin 51 = .ok (.areturn, 1) := by decide +kernel
theorem dR_cell_0 : decode cR_cell 0 = .ok (.aload_n 0, 1) := by decide +kernel
theorem dR_cell_1 : decode cR_cell 1 = .ok (.iload_n 1, 1) := by decide +kernel
theorem dR_cell_2 : decode cR_cell 2 = .ok (.invokevirtual 52, 3) := by decide +kernel
theorem dR_cell_5 : decode cR_cell 5 = .ok (.astore 4, 2) := by decide +kernel
theorem dR_cell_7 : decode cR_cell 7 = .ok (.aload 4, 2) := by decide +kernel
theorem dR_cell_9 : decode cR_cell 9 = .ok (.ifnonnull 6, 3) := by decide +kernel
theorem dR_cell_12 : decode cR_cell 12 = .ok (.bipush (-2), 2) := by decide +kernel
theorem dR_cell_14 : decode cR_cell 14 = .ok (.ireturn, 1) := by decide +kernel
theorem dR_cell_15 : decode cR_cell 15 = .ok (.aload_n 0, 1) := by decide +kernel
theorem dR_cell_16 : decode cR_cell 16 = .ok (.getfield 60, 3) := by decide +kernel
theorem dR_cell_19 : decode cR_cell 19 = .ok (.ifCond .le 6, 3) := by decide +kernel
theorem dR_cell_22 : decode cR_cell 22 = .ok (.bipush (-4), 2) := by decide +kernel
theorem dR_cell_24 : decode cR_cell 24 = .ok (.ireturn, 1) := by decide +kernel
theorem dR_cell_25 : decode cR_cell 25 = .ok (.aload_n 0, 1) := by decide +kernel
theorem dR_cell_26 : decode cR_cell 26 = .ok (.aload 4, 2) := by decide +kernel
theorem dR_cell_28 : decode cR_cell 28 = .ok (.lload_n 2, 1) := by decide +kernel
theorem dR_cell_29 : decode cR_cell 29 = .ok (.invokevirtual 73, 3) := by decide +kernel
theorem dR_cell_32 : decode cR_cell 32 = .ok (.ireturn, 1) := by decide +kernel
theorem dR_newCell_0 : decode cR_newCell 0 = .ok (.aload_n 0, 1) := by decide +kernel
theorem dR_newCell_1 : decode cR_newCell 1 = .ok (.getfield 193, 3) := by decide +kernel
theorem dR_newCell_4 : decode cR_newCell 4 = .ok (.sipush 200, 3) := by decide +kernel
theorem dR_newCell_7 : decode cR_newCell 7 = .ok (.if_icmp .lt 5, 3) := by decide +kernel
theorem dR_newCell_10 : decode cR_newCell 10 = .ok (.iconst (-1), 1) := by decide +kernel
theorem dR_newCell_11 : decode cR_newCell 11 = .ok (.ireturn, 1) := by decide +kernel
theorem dR_newCell_12 : decode cR_newCell 12 = .ok (.aload_n 0, 1) := by decide +kernel
theorem dR_newCell_13 : decode cR_newCell 13 = .ok (.getfield 15, 3) := by decide +kernel
theorem dR_newCell_16 : decode cR_newCell 16 = .ok (.aload_n 0, 1) := by decide +kernel
theorem dR_newCell_17 : decode cR_newCell 17 = .ok (.getfield 193, 3) := by decide +kernel
theorem dR_newCell_20 : decode cR_newCell 20 = .ok (.aload_n 1, 1) := by decide +kernel
theorem dR_newCell_21 : decode cR_newCell 21 = .ok (.aastore, 1) := by decide +kernel
theorem dR_newCell_22 : decode cR_newCell 22 = .ok (.aload_n 0, 1) := by decide +kernel
theorem dR_newCell_23 : decode cR_newCell 23 = .ok (.getfield 18, 3) := by decide +kernel
theorem dR_newCell_26 : decode cR_newCell 26 = .ok (.aload_n 0, 1) := by decide +kernel
theorem dR_newCell_27 : decode cR_newCell 27 = .ok (.getfield 193, 3) := by decide +kernel
theorem dR_newCell_30 : decode cR_newCell 30 = .ok (.lload_n 2, 1) := by decide +kernel
theorem dR_newCell_31 : decode cR_newCell 31 = .ok (.lastore, 1) := by decide +kernel
theorem dR_newCell_32 : decode cR_newCell 32 = .ok (.aload_n 0, 1) := by decide +kernel
theorem dR_newCell_33 : decode cR_newCell 33 = .ok (.getfield 31, 3) := by decide +kernel
theorem dR_newCell_36 : decode cR_newCell 36 = .ok (.getfield 165, 3) := by decide +kernel
theorem dR_newCell_39 : decode cR_newCell 39 = .ok (.aload_n 0, 1) := by decide +kernel
theorem dR_newCell_40 : decode cR_newCell 40 = .ok (.aload_n 0, 1) := by decide +kernel
theorem dR_newCell_41 : decode cR_newCell 41 = .ok (.getfield 193, 3) := by decide +kernel
theorem dR_newCell_44 : decode cR_newCell 44 = .ok (.invokevirtual 124, 3) := by decide +kernel
theorem dR_newCell_47 : decode cR_newCell 47 = .ok (.lload_n 2, 1) := by decide +kernel
theorem dR_newCell_48 : decode cR_newCell 48 = .ok (.lastore, 1) := by decide +kernel
theorem dR_newCell_49 : decode cR_newCell 49 = .ok (.aload_n 0, 1) := by decide +kernel
theorem dR_newCell_50 : decode cR_newCell 50 = .ok (.dup, 1) := by decide +kernel
theorem dR_newCell_51 : decode cR_newCell 51 = .ok (.getfield 193, 3) := by decide +kernel
theorem dR_newCell_54 : decode cR_newCell 54 = .ok (.iconst 1, 1) := by decide +kernel
theorem dR_newCell_55 : decode cR_newCell 55 = .ok (.iadd, 1) := by decide +kernel
theorem dR_newCell_56 : decode cR_newCell 56 = .ok (.putfield 193, 3) := by decide +kernel
theorem dR_newCell_59 : decode cR_newCell 59 = .ok (.aload_n 0, 1) := by decide +kernel
theorem dR_newCell_60 : decode cR_newCell 60 = .ok (.getfield 193, 3) := by decide +kernel
theorem dR_newCell_63 : decode cR_newCell 63 = .ok (.iconst 1, 1) := by decide +kernel
theorem dR_newCell_64 : decode cR_newCell 64 = .ok (.isub, 1) := by decide +kernel
theorem dR_newCell_65 : decode cR_newCell 65 = .ok (.ireturn, 1) := by decide +kernel
theorem dR_placeOf_0 : decode cR_placeOf 0 = .ok (.iload_n 1, 1) := by decide +kernel
theorem dR_placeOf_1 : decode cR_placeOf 1 = .ok (.ifCond .ge 17, 3) := by decide +kernel
theorem dR_placeOf_4 : decode cR_placeOf 4 = .ok (.aload_n 0, 1) := by decide +kernel
theorem dR_placeOf_5 : decode cR_placeOf 5 = .ok (.getfield 35, 3) := by decide +kernel
theorem dR_placeOf_8 : decode cR_placeOf 8 = .ok (.getfield 226, 3) := by decide +kernel
theorem dR_placeOf_11 : decode cR_placeOf 11 = .ok (.iconst (-1), 1) := by decide +kernel
theorem dR_placeOf_12 : decode cR_placeOf 12 = .ok (.iload_n 1, 1) := by decide +kernel
theorem dR_placeOf_13 : decode cR_placeOf 13 = .ok (.isub, 1) := by decide +kernel
theorem dR_placeOf_14 : decode cR_placeOf 14 = .ok (.iaload, 1) := by decide +kernel
theorem dR_placeOf_15 : decode cR_placeOf 15 = .ok (.goto 7, 3) := by decide +kernel
theorem dR_placeOf_18 : decode cR_placeOf 18 = .ok (.bipush 16, 2) := by decide +kernel
theorem dR_placeOf_20 : decode cR_placeOf 20 = .ok (.iload_n 1, 1) := by decide +kernel
theorem dR_placeOf_21 : decode cR_placeOf 21 = .ok (.iadd, 1) := by decide +kernel
theorem dR_placeOf_22 : decode cR_placeOf 22 = .ok (.ireturn, 1) := by decide +kernel
theorem dR_formal_0 : decode cR_formal 0 = .ok (.aload_n 0, 1) := by decide +kernel
theorem dR_formal_1 : decode cR_formal 1 = .ok (.iload_n 1, 1) := by decide +kernel
theorem dR_formal_2 : decode cR_formal 2 = .ok (.invokevirtual 52, 3) := by decide +kernel
theorem dR_formal_5 : decode cR_formal 5 = .ok (.astore 4, 2) := by decide +kernel
theorem dR_formal_7 : decode cR_formal 7 = .ok (.aload 4, 2) := by decide +kernel
theorem dR_formal_9 : decode cR_formal 9 = .ok (.ifnull 23, 3) := by decide +kernel
theorem dR_formal_12 : decode cR_formal 12 = .ok (.iload_n 2, 1) := by decide +kernel
theorem dR_formal_13 : decode cR_formal 13 = .ok (.ifCond .lt 19, 3) := by decide +kernel
theorem dR_formal_16 : decode cR_formal 16 = .ok (.iload_n 2, 1) := by decide +kernel
theorem dR_formal_17 : decode cR_formal 17 = .ok (.iconst 3, 1) := by decide +kernel
theorem dR_formal_18 : decode cR_formal 18 = .ok (.if_icmp .gt 14, 3) := by decide +kernel
theorem dR_formal_21 : decode cR_formal 21 = .ok (.iload_n 3, 1) := by decide +kernel
theorem dR_formal_22 : decode cR_formal 22 = .ok (.iconst 1, 1) := by decide +kernel
theorem dR_formal_23 : decode cR_formal 23 = .ok (.if_icmp .lt 9, 3) := by decide +kernel
theorem dR_formal_26 : decode cR_formal 26 = .ok (.iload_n 3, 1) := by decide +kernel
theorem dR_formal_27 : decode cR_formal 27 = .ok (.bipush 8, 2) := by decide +kernel
theorem dR_formal_29 : decode cR_formal 29 = .ok (.if_icmp .le 6, 3) := by decide +kernel
theorem dR_formal_32 : decode cR_formal 32 = .ok (.bipush (-2), 2) := by decide +kernel
theorem dR_formal_34 : decode cR_formal 34 = .ok (.ireturn, 1) := by decide +kernel
theorem dR_formal_35 : decode cR_formal 35 = .ok (.aload_n 0, 1) := by decide +kernel
theorem dR_formal_36 : decode cR_formal 36 = .ok (.getfield 60, 3) := by decide +kernel
theorem dR_formal_39 : decode cR_formal 39 = .ok (.ifCond .le 6, 3) := by decide +kernel
theorem dR_formal_42 : decode cR_formal 42 = .ok (.bipush (-4), 2) := by decide +kernel
theorem dR_formal_44 : decode cR_formal 44 = .ok (.ireturn, 1) := by decide +kernel
theorem dR_formal_45 : decode cR_formal 45 = .ok (.aload 4, 2) := by decide +kernel
theorem dR_formal_47 : decode cR_formal 47 = .ok (.getfield 77, 3) := by decide +kernel
theorem dR_formal_50 : decode cR_formal 50 = .ok (.bipush 16, 2) := by decide +kernel
theorem dR_formal_52 : decode cR_formal 52 = .ok (.if_icmp .lt 5, 3) := by decide +kernel
theorem dR_formal_55 : decode cR_formal 55 = .ok (.iconst (-1), 1) := by decide +kernel
theorem dR_formal_56 : decode cR_formal 56 = .ok (.ireturn, 1) := by decide +kernel
theorem dR_formal_57 : decode cR_formal 57 = .ok (.aload 4, 2) := by decide +kernel
theorem dR_formal_59 : decode cR_formal 59 = .ok (.getfield 80, 3) := by decide +kernel
theorem dR_formal_62 : decode cR_formal 62 = .ok (.aload 4, 2) := by decide +kernel
theorem dR_formal_64 : decode cR_formal 64 = .ok (.getfield 77, 3) := by decide +kernel
theorem dR_formal_67 : decode cR_formal 67 = .ok (.iload_n 2, 1) := by decide +kernel
theorem dR_formal_68 : decode cR_formal 68 = .ok (.iastore, 1) := by decide +kernel
theorem dR_formal_69 : decode cR_formal 69 = .ok (.aload 4, 2) := by decide +kernel
theorem dR_formal_71 : decode cR_formal 71 = .ok (.getfield 83, 3) := by decide +kernel
theorem dR_formal_74 : decode cR_formal 74 = .ok (.aload 4, 2) := by decide +kernel
theorem dR_formal_76 : decode cR_formal 76 = .ok (.getfield 77, 3) := by decide +kernel
theorem dR_formal_79 : decode cR_formal 79 = .ok (.iload_n 3, 1) := by decide +kernel
theorem dR_formal_80 : decode cR_formal 80 = .ok (.iastore, 1) := by decide +kernel
theorem dR_formal_81 : decode cR_formal 81 = .ok (.aload 4, 2) := by decide +kernel
theorem dR_formal_83 : decode cR_formal 83 = .ok (.dup, 1) := by decide +kernel
theorem dR_formal_84 : decode cR_formal 84 = .ok (.getfield 77, 3) := by decide +kernel
theorem dR_formal_87 : decode cR_formal 87 = .ok (.iconst 1, 1) := by decide +kernel
theorem dR_formal_88 : decode cR_formal 88 = .ok (.iadd, 1) := by decide +kernel
theorem dR_formal_89 : decode cR_formal 89 = .ok (.putfield 77, 3) := by decide +kernel
theorem dR_formal_92 : decode cR_formal 92 = .ok (.aload 4, 2) := by decide +kernel
theorem dR_formal_94 : decode cR_formal 94 = .ok (.getfield 77, 3) := by decide +kernel
theorem dR_formal_97 : decode cR_formal 97 = .ok (.iconst 1, 1) := by decide +kernel
theorem dR_formal_98 : decode cR_formal 98 = .ok (.isub, 1) := by decide +kernel
theorem dR_formal_99 : decode cR_formal 99 = .ok (.ireturn, 1) := by decide +kernel
theorem dR_call_0 : decode cR_call 0 = .ok (.aload_n 0, 1) := by decide +kernel
theorem dR_call_1 : decode cR_call 1 = .ok (.aconst_null, 1) := by decide +kernel
theorem dR_call_2 : decode cR_call 2 = .ok (.putfield 86, 3) := by decide +kernel
theorem dR_call_5 : decode cR_call 5 = .ok (.iload_n 1, 1) := by decide +kernel
theorem dR_call_6 : decode cR_call 6 = .ok (.aload_n 0, 1) := by decide +kernel
theorem dR_call_7 : decode cR_call 7 = .ok (.getfield 35, 3) := by decide +kernel
theorem dR_call_10 : decode cR_call 10 = .ok (.getfield 89, 3) := by decide +kernel
theorem dR_call_13 : decode cR_call 13 = .ok (.invokestatic 93, 3) := by decide +kernel
theorem dR_call_16 : decode cR_call 16 = .ok (.if_icmp .ne 10, 3) := by decide +kernel
theorem dR_call_19 : decode cR_call 19 = .ok (.iload_n 2, 1) := by decide +kernel
theorem dR_call_20 : decode cR_call 20 = .ok (.invokestatic 56, 3) := by decide +kernel
theorem dR_call_23 : decode cR_call 23 = .ok (.ifCond .ne 6, 3) := by decide +kernel
theorem dR_call_26 : decode cR_call 26 = .ok (.bipush (-2), 2) := by decide +kernel
theorem dR_call_28 : decode cR_call 28 = .ok (.ireturn, 1) := by decide +kernel
theorem dR_call_29 : decode cR_call 29 = .ok (.aload_n 0, 1) := by decide +kernel
theorem dR_call_30 : decode cR_call 30 = .ok (.aload_n 0, 1) := by decide +kernel
theorem dR_call_31 : decode cR_call 31 = .ok (.getfield 35, 3) := by decide +kernel
theorem dR_call_34 : decode cR_call 34 = .ok (.getfield 89, 3) := by decide +kernel
theorem dR_call_37 : decode cR_call 37 = .ok (.iload_n 2, 1) := by decide +kernel
theorem dR_call_38 : decode cR_call 38 = .ok (.invokevirtual 97, 3) := by decide +kernel
theorem dR_call_41 : decode cR_call 41 = .ok (.astore_n 3, 1) := by decide +kernel
theorem dR_call_42 : decode cR_call 42 = .ok (.aload_n 3, 1) := by decide +kernel
theorem dR_call_43 : decode cR_call 43 = .ok (.ifnonnull 6, 3) := by decide +kernel
theorem dR_call_46 : decode cR_call 46 = .ok (.bipush (-3), 2) := by decide +kernel
theorem dR_call_48 : decode cR_call 48 = .ok (.ireturn, 1) := by decide +kernel
theorem dR_call_49 : decode cR_call 49 = .ok (.aload_n 3, 1) := by decide +kernel
theorem dR_call_50 : decode cR_call 50 = .ok (.getfield 100, 3) := by decide +kernel
theorem dR_call_53 : decode cR_call 53 = .ok (.ifnull 14, 3) := by decide +kernel
theorem dR_call_56 : decode cR_call 56 = .ok (.aload_n 3, 1) := by decide +kernel
theorem dR_call_57 : decode cR_call 57 = .ok (.iconst 4, 1) := by decide +kernel
theorem dR_call_58 : decode cR_call 58 = .ok (.invokevirtual 103, 3) := by decide +kernel
theorem dR_call_61 : decode cR_call 61 = .ok (.ifCond .ne 6, 3) := by decide +kernel
theorem dR_call_64 : decode cR_call 64 = .ok (.bipush (-5), 2) := by decide +kernel
theorem dR_call_66 : decode cR_call 66 = .ok (.ireturn, 1) := by decide +kernel
theorem dR_call_67 : decode cR_call 67 = .ok (.aload_n 0, 1) := by decide +kernel
theorem dR_call_68 : decode cR_call 68 = .ok (.getfield 60, 3) := by decide +kernel
theorem dR_call_71 : decode cR_call 71 = .ok (.aload_n 0, 1) := by decide +kernel
theorem dR_call_72 : decode cR_call 72 = .ok (.getfield 48, 3) := by decide +kernel
theorem dR_call_75 : decode cR_call 75 = .ok (.if_icmp .ge 13, 3) := by decide +kernel
theorem dR_call_78 : decode cR_call 78 = .ok (.aload_n 0, 1) := by decide +kernel
theorem dR_call_79 : decode cR_call 79 = .ok (.getfield 60, 3) := by decide +kernel
theorem dR_call_82 : decode cR_call 82 = .ok (.sipush 256, 3) := by decide +kernel
theorem dR_call_85 : decode cR_call 85 = .ok (.if_icmp .lt 6, 3) := by decide +kernel
theorem dR_call_88 : decode cR_call 88 = .ok (.bipush (-6), 2) := by decide +kernel
theorem dR_call_90 : decode cR_call 90 = .ok (.ireturn, 1) := by decide +kernel
theorem dR_call_91 : decode cR_call 91 = .ok (.aload_n 0, 1) := by decide +kernel
theorem dR_call_92 : decode cR_call 92 = .ok (.aload_n 0, 1) := by decide +kernel
theorem dR_call_93 : decode cR_call 93 = .ok (.getfield 35, 3) := by decide +kernel
theorem dR_call_96 : decode cR_call 96 = .ok (.invokestatic 106, 3) := by decide +kernel
theorem dR_call_99 : decode cR_call 99 = .ok (.putfield 86, 3) := by decide +kernel
theorem dR_call_102 : decode cR_call 102 = .ok (.aload_n 0, 1) := by decide +kernel
theorem dR_call_103 : decode cR_call 103 = .ok (.getfield 86, 3) := by decide +kernel
theorem dR_call_106 : decode cR_call 106 = .ok (.aload_n 3, 1) := by decide +kernel
theorem dR_call_107 : decode cR_call 107 = .ok (.invokevirtual 110, 3) := by decide +kernel
theorem dR_call_110 : decode cR_call 110 = .ok (.aload_n 3, 1) := by decide +kernel
theorem dR_call_111 : decode cR_call 111 = .ok (.getfield 114, 3) := by decide +kernel
theorem dR_call_114 : decode cR_call 114 = .ok (.ireturn, 1) := by decide +kernel
theorem dR_numberOf_0 : decode cR_numberOf 0 = .ok (.aload_n 0, 1) := by decide +kernel
theorem dR_numberOf_1 : decode cR_numberOf 1 = .ok (.ifnonnull 7, 3) := by decide +kernel
theorem dR_numberOf_4 : decode cR_numberOf 4 = .ok (.iconst 0, 1) := by decide +kernel
theorem dR_numberOf_5 : decode cR_numberOf 5 = .ok (.goto 7, 3) := by decide +kernel
theorem dR_numberOf_8 : decode cR_numberOf 8 = .ok (.aload_n 0, 1) := by decide +kernel
theorem dR_numberOf_9 : decode cR_numberOf 9 = .ok (.getfield 114, 3) := by decide +kernel
theorem dR_numberOf_12 : decode cR_numberOf 12 = .ok (.ireturn, 1) := by decide +kernel
theorem dR_found_0 : decode cR_found 0 = .ok (.aconst_null, 1) := by decide +kernel
theorem dR_found_1 : decode cR_found 1 = .ok (.astore_n 3, 1) := by decide +kernel
theorem dR_found_2 : decode cR_found 2 = .ok (.aload_n 1, 1) := by decide +kernel
theorem dR_found_3 : decode cR_found 3 = .ok (.ifnull 31, 3) := by decide +kernel
theorem dR_found_6 : decode cR_found 6 = .ok (.aload_n 0, 1) := by decide +kernel
theorem dR_found_7 : decode cR_found 7 = .ok (.aload_n 1, 1) := by decide +kernel
theorem dR_found_8 : decode cR_found 8 = .ok (.iload_n 2, 1) := by decide +kernel
theorem dR_found_9 : decode cR_found 9 = .ok (.invokevirtual 63, 3) := by decide +kernel
theorem dR_found_12 : decode cR_found 12 = .ok (.astore_n 3, 1) := by decide +kernel
theorem dR_found_13 : decode cR_found 13 = .ok (.aload_n 3, 1) := by decide +kernel
theorem dR_found_14 : decode cR_found 14 = .ok (.ifnonnull 9, 3) := by decide +kernel
theorem dR_found_17 : decode cR_found 17 = .ok (.aload_n 1, 1) := by decide +kernel
theorem dR_found_18 : decode cR_found 18 = .ok (.iload_n 2, 1) := by decide +kernel
theorem dR_found_19 : decode cR_found 19 = .ok (.invokestatic 196, 3) := by decide +kernel
theorem dR_found_22 : decode cR_found 22 = .ok (.astore_n 3, 1) := by decide +kernel
theorem dR_found_23 : decode cR_found 23 = .ok (.aload_n 3, 1) := by decide +kernel
theorem dR_found_24 : decode cR_found 24 = .ok (.ifnonnull 10, 3) := by decide +kernel
theorem dR_found_27 : decode cR_found 27 = .ok (.aload_n 0, 1) := by decide +kernel
theorem dR_found_28 : decode cR_found 28 = .ok (.aload_n 1, 1) := by decide +kernel
theorem dR_found_29 : decode cR_found 29 = .ok (.iload_n 2, 1) := by decide +kernel
theorem dR_found_30 : decode cR_found 30 = .ok (.invokevirtual 199, 3) := by decide +kernel
theorem dR_found_33 : decode cR_found 33 = .ok (.astore_n 3, 1) := by decide +kernel
theorem dR_found_34 : decode cR_found 34 = .ok (.aload_n 3, 1) := by decide +kernel
theorem dR_found_35 : decode cR_found 35 = .ok (.ifnull 7, 3) := by decide +kernel
theorem dR_found_38 : decode cR_found 38 = .ok (.aload_n 3, 1) := by decide +kernel
theorem dR_found_39 : decode cR_found 39 = .ok (.goto 9, 3) := by decide +kernel
theorem dR_found_42 : decode cR_found 42 = .ok (.aload_n 0, 1) := by decide +kernel
theorem dR_found_43 : decode cR_found 43 = .ok (.aconst_null, 1) := by decide +kernel
theorem dR_found_44 : decode cR_found 44 = .ok (.iload_n 2, 1) := by decide +kernel
theorem dR_found_45 : decode cR_found 45 = .ok (.invokevirtual 63, 3) := by decide +kernel
theorem dR_found_48 : decode cR_found 48 = .ok (.areturn, 1) := by decide +kernel
theorem dR_recursiveAround_0 : decode cR_recursiveAround 0 = .ok (.aload_n 0, 1) := by decide +kernel
theorem dR_recursiveAround_1 : decode cR_recursiveAround 1 = .ok (.astore_n 2, 1) := by decide +kernel
theorem dR_recursiveAround_2 : decode cR_recursiveAround 2 = .ok (.aload_n 2, 1) := by decide +kernel
theorem dR_recursiveAround_3 : decode cR_recursiveAround 3 = .ok (.ifnull 29, 3) := by decide +kernel
theorem dR_recursiveAround_6 : decode cR_recursiveAround 6 = .ok (.aload_n 2, 1) := by decide +kernel
theorem dR_recursiveAround_7 : decode cR_recursiveAround 7 = .ok (.iconst 4, 1) := by decide +kernel
theorem dR_recursiveAround_8 : decode cR_recursiveAround 8 = .ok (.invokevirtual 103, 3) := by decide +kernel
theorem dR_recursiveAround_11 : decode cR_recursiveAround 11 = .ok (.ifCond .eq 13, 3) := by decide +kernel
theorem dR_recursiveAround_14 : decode cR_recursiveAround 14 = .ok (.aload_n 2, 1) := by decide +kernel
theorem dR_recursiveAround_15 : decode cR_recursiveAround 15 = .ok (.getfield 205, 3) := by decide +kernel
theorem dR_recursiveAround_18 : decode cR_recursiveAround 18 = .ok (.iload_n 1, 1) := by decide +kernel
theorem dR_recursiveAround_19 : decode cR_recursiveAround 19 = .ok (.if_icmp .ne 5, 3) := by decide +kernel
theorem dR_recursiveAround_22 : decode cR_recursiveAround 22 = .ok (.aload_n 2, 1) := by decide +kernel
theorem dR_recursiveAround_23 : decode cR_recursiveAround 23 = .ok (.areturn, 1) := by decide +kernel
theorem dR_recursiveAround_24 : decode cR_recursiveAround 24 = .ok (.aload_n 2, 1) := by decide +kernel
theorem dR_recursiveAround_25 : decode cR_recursiveAround 25 = .ok (.getfield 202, 3) := by decide +kernel
theorem dR_recursiveAround_28 : decode cR_recursiveAround 28 = .ok (.astore_n 2, 1) := by decide +kernel
theorem dR_recursiveAround_29 : decode cR_recursiveAround 29 = .ok (.goto (-27), 3) := by decide +kernel
theorem dR_recursiveAround_32 : decode cR_recursiveAround 32 = .ok (.aconst_null, 1) := by decide +kernel
theorem dR_recursiveAround_33 : decode cR_recursiveAround 33 = .ok (.areturn, 1) := by decide +kernel
theorem dR_commonAround_0 : decode cR_commonAround 0 = .ok (.aload_n 1, 1) := by decide +kernel
theorem dR_commonAround_1 : decode cR_commonAround 1 = .ok (.getfield 202, 3) := by decide +kernel
theorem dR_commonAround_4 : decode cR_commonAround 4 = .ok (.astore_n 3, 1) := by decide +kernel
theorem dR_commonAround_5 : decode cR_commonAround 5 = .ok (.aload_n 3, 1) := by decide +kernel
theorem dR_commonAround_6 : decode cR_commonAround 6 = .ok (.ifnull 45, 3) := by decide +kernel
theorem dR_commonAround_9 : decode cR_commonAround 9 = .ok (.aload_n 0, 1) := by decide +kernel
theorem dR_commonAround_10 : decode cR_commonAround 10 = .ok (.aload_n 3, 1) := by decide +kernel
theorem dR_commonAround_11 : decode cR_commonAround 11 = .ok (.iload_n 2, 1) := by decide +kernel
theorem dR_commonAround_12 : decode cR_commonAround 12 = .ok (.invokevirtual 63, 3) := by decide +kernel
theorem dR_commonAround_15 : decode cR_commonAround 15 = .ok (.astore 4, 2) := by decide +kernel
theorem dR_commonAround_17 : decode cR_commonAround 17 = .ok (.aload 4, 2) := by decide +kernel
theorem dR_commonAround_19 : decode cR_commonAround 19 = .ok (.ifnull 24, 3) := by decide +kernel
theorem dR_commonAround_22 : decode cR_commonAround 22 = .ok (.aload 4, 2) := by decide +kernel
theorem dR_commonAround_24 : decode cR_commonAround 24 = .ok (.iconst 2, 1) := by decide +kernel
theorem dR_commonAround_25 : decode cR_commonAround 25 = .ok (.invokevirtual 103, 3) := by decide +kernel
theorem dR_commonAround_28 : decode cR_commonAround 28 = .ok (.ifCond .eq 15, 3) := by decide +kernel
theorem dR_commonAround_31 : decode cR_commonAround 31 = .ok (.aload_n 1, 1) := by decide +kernel
theorem dR_commonAround_32 : decode cR_commonAround 32 = .ok (.aload 4, 2) := by decide +kernel
theorem dR_commonAround_34 : decode cR_commonAround 34 = .ok (.invokevirtual 208, 3) := by decide +kernel
theorem dR_commonAround_37 : decode cR_commonAround 37 = .ok (.ifCond .ne 6, 3) := by decide +kernel
theorem dR_commonAround_40 : decode cR_commonAround 40 = .ok (.aload 4, 2) := by decide +kernel
theorem dR_commonAround_42 : decode cR_commonAround 42 = .ok (.areturn, 1) := by decide +kernel
theorem dR_commonAround_43 : decode cR_commonAround 43 = .ok (.aload_n 3, 1) := by decide +kernel
theorem dR_commonAround_44 : decode cR_commonAround 44 = .ok (.getfield 202, 3) := by decide +kernel
theorem dR_commonAround_47 : decode cR_commonAround 47 = .ok (.astore_n 3, 1) := by decide +kernel
theorem dR_commonAround_48 : decode cR_commonAround 48 = .ok (.goto (-43), 3) := by decide +kernel
theorem dR_commonAround_51 : decode cR_commonAround 51 = .ok (.aconst_null, 1) := by decide +kernel
theorem dR_commonAround_52 : decode cR_commonAround 52 = .ok (.areturn, 1) := by decide +kernel
theorem dR_levelAbove_0 : decode cR_levelAbove 0 = .ok (.aload_n 0, 1) := by decide +kernel
theorem dR_levelAbove_1 : decode cR_levelAbove 1 = .ok (.getfield 211, 3) := by decide +kernel
theorem dR_levelAbove_4 : decode cR_levelAbove 4 = .ok (.ifnonnull 15, 3) := by decide +kernel
theorem dR_levelAbove_7 : decode cR_levelAbove 7 = .ok (.aload_n 0, 1) := by decide +kernel
theorem dR_levelAbove_8 : decode cR_levelAbove 8 = .ok (.new 26, 3) := by decide +kernel
theorem dR_levelAbove_11 : decode cR_levelAbove 11 = .ok (.dup, 1) := by decide +kernel
theorem dR_levelAbove_12 : decode cR_levelAbove 12 = .ok (.aload_n 0, 1) := by decide +kernel
theorem dR_levelAbove_13 : decode cR_levelAbove 13 = .ok (.invokespecial 28, 3) := by decide +kernel
theorem dR_levelAbove_16 : decode cR_levelAbove 16 = .ok (.putfield 211, 3) := by decide +kernel
theorem dR_levelAbove_19 : decode cR_levelAbove 19 = .ok (.aload_n 0, 1) := by decide +kernel
theorem dR_levelAbove_20 : decode cR_levelAbove 20 = .ok (.getfield 211, 3) := by decide +kernel
theorem dR_levelAbove_23 : decode cR_levelAbove 23 = .ok (.areturn, 1) := by decide +kernel
theorem dR_actual_0 : decode cR_actual 0 = .ok (.aload_n 0, 1) := by decide +kernel
theorem dR_actual_1 : decode cR_actual 1 = .ok (.getfield 86, 3) := by decide +kernel
theorem dR_actual_4 : decode cR_actual 4 = .ok (.ifnonnull 6, 3) := by decide +kernel
theorem dR_actual_7 : decode cR_actual 7 = .ok (.bipush (-4), 2) := by decide +kernel
theorem dR_actual_9 : decode cR_actual 9 = .ok (.ireturn, 1) := by decide +kernel
theorem dR_actual_10 : decode cR_actual 10 = .ok (.iload_n 2, 1) := by decide +kernel
theorem dR_actual_11 : decode cR_actual 11 = .ok (.ifCond .lt 8, 3) := by decide +kernel
theorem dR_actual_14 : decode cR_actual 14 = .ok (.iload_n 2, 1) := by decide +kernel
theorem dR_actual_15 : decode cR_actual 15 = .ok (.iconst 2, 1) := by decide +kernel
theorem dR_actual_16 : decode cR_actual 16 = .ok (.if_icmp .le 6, 3) := by decide +kernel
theorem dR_actual_19 : decode cR_actual 19 = .ok (.bipush (-2), 2) := by decide +kernel
theorem dR_actual_21 : decode cR_actual 21 = .ok (.ireturn, 1) := by decide +kernel
theorem dR_actual_22 : decode cR_actual 22 = .ok (.iload_n 2, 1) := by decide +kernel
theorem dR_actual_23 : decode cR_actual 23 = .ok (.iconst 2, 1) := by decide +kernel
theorem dR_actual_24 : decode cR_actual 24 = .ok (.if_icmp .ne 7, 3) := by decide +kernel
theorem dR_actual_27 : decode cR_actual 27 = .ok (.aconst_null, 1) := by decide +kernel
theorem dR_actual_28 : decode cR_actual 28 = .ok (.goto 8, 3) := by decide +kernel
theorem dR_actual_31 : decode cR_actual 31 = .ok (.aload_n 0, 1) := by decide +kernel
theorem dR_actual_32 : decode cR_actual 32 = .ok (.iload_n 1, 1) := by decide +kernel
theorem dR_actual_33 : decode cR_actual 33 = .ok (.invokevirtual 117, 3) := by decide +kernel
theorem dR_actual_36 : decode cR_actual 36 = .ok (.astore_n 3, 1) := by decide +kernel
theorem dR_actual_37 : decode cR_actual 37 = .ok (.iload_n 2, 1) := by decide +kernel
theorem dR_actual_38 : decode cR_actual 38 = .ok (.iconst 2, 1) := by decide +kernel
theorem dR_actual_39 : decode cR_actual 39 = .ok (.if_icmp .eq 10, 3) := by decide +kernel
theorem dR_actual_42 : decode cR_actual 42 = .ok (.aload_n 3, 1) := by decide +kernel
theorem dR_actual_43 : decode cR_actual 43 = .ok (.ifnonnull 6, 3) := by decide +kernel
theorem dR_actual_46 : decode cR_actual 46 = .ok (.bipush (-2), 2) := by decide +kernel
theorem dR_actual_48 : decode cR_actual 48 = .ok (.ireturn, 1) := by decide +kernel
theorem dR_actual_49 : decode cR_actual 49 = .ok (.aload_n 0, 1) := by decide +kernel
theorem dR_actual_50 : decode cR_actual 50 = .ok (.getfield 86, 3) := by decide +kernel
theorem dR_actual_53 : decode cR_actual 53 = .ok (.getfield 121, 3) := by decide +kernel
theorem dR_actual_56 : decode cR_actual 56 = .ok (.istore 4, 2) := by decide +kernel
theorem dR_actual_58 : decode cR_actual 58 = .ok (.iload 4, 2) := by decide +kernel
theorem dR_actual_60 : decode cR_actual 60 = .ok (.bipush 16, 2) := by decide +kernel
theorem dR_actual_62 : decode cR_actual 62 = .ok (.if_icmp .lt 5, 3) := by decide +kernel
theorem dR_actual_65 : decode cR_actual 65 = .ok (.iconst (-1), 1) := by decide +kernel
theorem dR_actual_66 : decode cR_actual 66 = .ok (.ireturn, 1) := by decide +kernel
theorem dR_actual_67 : decode cR_actual 67 = .ok (.aload_n 3, 1) := by decide +kernel
theorem dR_actual_68 : decode cR_actual 68 = .ok (.ifnull 23, 3) := by decide +kernel
theorem dR_actual_71 : decode cR_actual 71 = .ok (.aload_n 0, 1) := by decide +kernel
theorem dR_actual_72 : decode cR_actual 72 = .ok (.getfield 86, 3) := by decide +kernel
theorem dR_actual_75 : decode cR_actual 75 = .ok (.iload 4, 2) := by decide +kernel
theorem dR_actual_77 : decode cR_actual 77 = .ok (.aload_n 3, 1) := by decide +kernel
theorem dR_actual_78 : decode cR_actual 78 = .ok (.aload_n 0, 1) := by decide +kernel
theorem dR_actual_79 : decode cR_actual 79 = .ok (.iload_n 1, 1) := by decide +kernel
theorem dR_actual_80 : decode cR_actual 80 = .ok (.invokevirtual 124, 3) := by decide +kernel
theorem dR_actual_83 : decode cR_actual 83 = .ok (.aload_n 0, 1) := by decide +kernel
theorem dR_actual_84 : decode cR_actual 84 = .ok (.iload_n 1, 1) := by decide +kernel
theorem dR_actual_85 : decode cR_actual 85 = .ok (.invokevirtual 128, 3) := by decide +kernel
theorem dR_actual_88 : decode cR_actual 88 = .ok (.invokevirtual 131, 3) := by decide +kernel
theorem dR_actual_91 : decode cR_actual 91 = .ok (.iload_n 2, 1) := by decide +kernel
theorem dR_actual_92 : decode cR_actual 92 = .ok (.iconst 1, 1) := by decide +kernel
theorem dR_actual_93 : decode cR_actual 93 = .ok (.if_icmp .ne 12, 3) := by decide +kernel
theorem dR_actual_96 : decode cR_actual 96 = .ok (.aload_n 0, 1) := by decide +kernel
theorem dR_actual_97 : decode cR_actual 97 = .ok (.getfield 86, 3) := by decide +kernel
theorem dR_actual_100 : decode cR_actual 100 = .ok (.iload 4, 2) := by decide +kernel
theorem dR_actual_102 : decode cR_actual 102 = .ok (.invokevirtual 135, 3) := by decide +kernel
theorem dR_actual_105 : decode cR_actual 105 = .ok (.aload_n 0, 1) := by decide +kernel
theorem dR_actual_106 : decode cR_actual 106 = .ok (.getfield 86, 3) := by decide +kernel
theorem dR_actual_109 : decode cR_actual 109 = .ok (.dup, 1) := by decide +kernel
theorem dR_actual_110 : decode cR_actual 110 = .ok (.getfield 121, 3) := by decide +kernel
theorem dR_actual_113 : decode cR_actual 113 = .ok (.iconst 1, 1) := by decide +kernel
theorem dR_actual_114 : decode cR_actual 114 = .ok (.iadd, 1) := by decide +kernel
theorem dR_actual_115 : decode cR_actual 115 = .ok (.putfield 121, 3) := by decide +kernel
theorem dR_actual_118 : decode cR_actual 118 = .ok (.iload 4, 2) := by decide +kernel
theorem dR_actual_120 : decode cR_actual 120 = .ok (.ireturn, 1) := by decide +kernel
theorem dR_holderOf_0 : decode cR_holderOf 0 = .ok (.aload_n 0, 1) := by decide +kernel
theorem dR_holderOf_1 : decode cR_holderOf 1 = .ok (.getfield 35, 3) := by decide +kernel
theorem dR_holderOf_4 : decode cR_holderOf 4 = .ok (.getfield 89, 3) := by decide +kernel
theorem dR_holderOf_7 : decode cR_holderOf 7 = .ok (.astore_n 2, 1) := by decide +kernel
theorem dR_holderOf_8 : decode cR_holderOf 8 = .ok (.iload_n 1, 1) := by decide +kernel
theorem dR_holderOf_9 : decode cR_holderOf 9 = .ok (.ifCond .ge 33, 3) := by decide +kernel
theorem dR_holderOf_12 : decode cR_holderOf 12 = .ok (.iconst (-1), 1) := by decide +kernel
theorem dR_holderOf_13 : decode cR_holderOf 13 = .ok (.iload_n 1, 1) := by decide +kernel
theorem dR_holderOf_14 : decode cR_holderOf 14 = .ok (.isub, 1) := by decide +kernel
theorem dR_holderOf_15 : decode cR_holderOf 15 = .ok (.istore_n 3, 1) := by decide +kernel
theorem dR_holderOf_16 : decode cR_holderOf 16 = .ok (.aload_n 2, 1) := by decide +kernel
theorem dR_holderOf_17 : decode cR_holderOf 17 = .ok (.ifnull 23, 3) := by decide +kernel
theorem dR_holderOf_20 : decode cR_holderOf 20 = .ok (.iload_n 3, 1) := by decide +kernel
theorem dR_holderOf_21 : decode cR_holderOf 21 = .ok (.aload_n 2, 1) := by decide +kernel
theorem dR_holderOf_22 : decode cR_holderOf 22 = .ok (.getfield 77, 3) := by decide +kernel
theorem dR_holderOf_25 : decode cR_holderOf 25 = .ok (.if_icmp .ge 15, 3) := by decide +kernel
theorem dR_holderOf_28 : decode cR_holderOf 28 = .ok (.aload_n 0, 1) := by decide +kernel
theorem dR_holderOf_29 : decode cR_holderOf 29 = .ok (.getfield 35, 3) := by decide +kernel
theorem dR_holderOf_32 : decode cR_holderOf 32 = .ok (.getfield 214, 3) := by decide +kernel
theorem dR_holderOf_35 : decode cR_holderOf 35 = .ok (.iload_n 3, 1) := by decide +kernel
theorem dR_holderOf_36 : decode cR_holderOf 36 = .ok (.aaload, 1) := by decide +kernel
theorem dR_holderOf_37 : decode cR_holderOf 37 = .ok (.goto 4, 3) := by decide +kernel
theorem dR_holderOf_40 : decode cR_holderOf 40 = .ok (.aconst_null, 1) := by decide +kernel
theorem dR_holderOf_41 : decode cR_holderOf 41 = .ok (.areturn, 1) := by decide +kernel
theorem dR_holderOf_42 : decode cR_holderOf 42 = .ok (.iload_n 1, 1) := by decide +kernel
theorem dR_holderOf_43 : decode cR_holderOf 43 = .ok (.aload_n 0, 1) := by decide +kernel
theorem dR_holderOf_44 : decode cR_holderOf 44 = .ok (.getfield 193, 3) := by decide +kernel
theorem dR_holderOf_47 : decode cR_holderOf 47 = .ok (.if_icmp .lt 5, 3) := by decide +kernel
theorem dR_holderOf_50 : decode cR_holderOf 50 = .ok (.aconst_null, 1) := by decide +kernel
theorem dR_holderOf_51 : decode cR_holderOf 51 = .ok (.areturn, 1) := by decide +kernel
theorem dR_holderOf_52 : decode cR_holderOf 52 = .ok (.aload_n 0, 1) := by decide +kernel
theorem dR_holderOf_53 : decode cR_holderOf 53 = .ok (.getfield 15, 3) := by decide +kernel
theorem dR_holderOf_56 : decode cR_holderOf 56 = .ok (.iload_n 1, 1) := by decide +kernel
theorem dR_holderOf_57 : decode cR_holderOf 57 = .ok (.aaload, 1) := by decide +kernel
theorem dR_holderOf_58 : decode cR_holderOf 58 = .ok (.astore_n 3, 1) := by decide +kernel
theorem dR_holderOf_59 : decode cR_holderOf 59 = .ok (.aload_n 3, 1) := by decide +kernel
theorem dR_holderOf_60 : decode cR_holderOf 60 = .ok (.ifnonnull 8, 3) := by decide +kernel
theorem dR_holderOf_63 : decode cR_holderOf 63 = .ok (.aload_n 0, 1) := by decide +kernel
theorem dR_holderOf_64 : decode cR_holderOf 64 = .ok (.getfield 31, 3) := by decide +kernel
theorem dR_holderOf_67 : decode cR_holderOf 67 = .ok (.areturn, 1) := by decide +kernel
theorem dR_holderOf_68 : decode cR_holderOf 68 = .ok (.aload_n 2, 1) := by decide +kernel
theorem dR_holderOf_69 : decode cR_holderOf 69 = .ok (.ifnull 19, 3) := by decide +kernel
theorem dR_holderOf_72 : decode cR_holderOf 72 = .ok (.aload_n 2, 1) := by decide +kernel
theorem dR_holderOf_73 : decode cR_holderOf 73 = .ok (.aload_n 3, 1) := by decide +kernel
theorem dR_holderOf_74 : decode cR_holderOf 74 = .ok (.invokestatic 218, 3) := by decide +kernel
theorem dR_holderOf_77 : decode cR_holderOf 77 = .ok (.ifCond .eq 11, 3) := by decide +kernel
theorem dR_holderOf_80 : decode cR_holderOf 80 = .ok (.aload_n 0, 1) := by decide +kernel
theorem dR_holderOf_81 : decode cR_holderOf 81 = .ok (.aload_n 3, 1) := by decide +kernel
theorem dR_holderOf_82 : decode cR_holderOf 82 = .ok (.invokevirtual 222, 3) := by decide +kernel
theorem dR_holderOf_85 : decode cR_holderOf 85 = .ok (.goto 4, 3) := by decide +kernel
theorem dR_holderOf_88 : decode cR_holderOf 88 = .ok (.aconst_null, 1) := by decide +kernel
theorem dR_holderOf_89 : decode cR_holderOf 89 = .ok (.areturn, 1) := by decide +kernel
theorem dR_seesCellsOf_0 : decode cR_seesCellsOf 0 = .ok (.aload_n 0, 1) := by decide +kernel
theorem dR_seesCellsOf_1 : decode cR_seesCellsOf 1 = .ok (.aload_n 1, 1) := by decide +kernel
theorem dR_seesCellsOf_2 : decode cR_seesCellsOf 2 = .ok (.if_acmp .eq 20, 3) := by decide +kernel
theorem dR_seesCellsOf_5 : decode cR_seesCellsOf 5 = .ok (.aload_n 1, 1) := by decide +kernel
theorem dR_seesCellsOf_6 : decode cR_seesCellsOf 6 = .ok (.bipush 8, 2) := by decide +kernel
theorem dR_seesCellsOf_8 : decode cR_seesCellsOf 8 = .ok (.invokevirtual 103, 3) := by decide +kernel
theorem dR_seesCellsOf_11 : decode cR_seesCellsOf 11 = .ok (.ifCond .eq 15, 3) := by decide +kernel
theorem dR_seesCellsOf_14 : decode cR_seesCellsOf 14 = .ok (.aload_n 0, 1) := by decide +kernel
theorem dR_seesCellsOf_15 : decode cR_seesCellsOf 15 = .ok (.aload_n 1, 1) := by decide +kernel
theorem dR_seesCellsOf_16 : decode cR_seesCellsOf 16 = .ok (.invokevirtual 208, 3) := by decide +kernel
theorem dR_seesCellsOf_19 : decode cR_seesCellsOf 19 = .ok (.ifCond .eq 7, 3) := by decide +kernel
theorem dR_seesCellsOf_22 : decode cR_seesCellsOf 22 = .ok (.iconst 1, 1) := by decide +kernel
theorem dR_seesCellsOf_23 : decode cR_seesCellsOf 23 = .ok (.goto 4, 3) := by decide +kernel
theorem dR_seesCellsOf_26 : decode cR_seesCellsOf 26 = .ok (.iconst 0, 1) := by decide +kernel
theorem dR_seesCellsOf_27 : decode cR_seesCellsOf 27 = .ok (.ireturn, 1) := by decide +kernel
theorem dR_dataOf_0 : decode cR_dataOf 0 = .ok (.aload_n 1, 1) := by decide +kernel
theorem dR_dataOf_1 : decode cR_dataOf 1 = .ok (.iconst 4, 1) := by decide +kernel
theorem dR_dataOf_2 : decode cR_dataOf 2 = .ok (.invokevirtual 103, 3) := by decide +kernel
theorem dR_dataOf_5 : decode cR_dataOf 5 = .ok (.ifCond .eq 17, 3) := by decide +kernel
theorem dR_dataOf_8 : decode cR_dataOf 8 = .ok (.aload_n 1, 1) := by decide +kernel
theorem dR_dataOf_9 : decode cR_dataOf 9 = .ok (.getfield 100, 3) := by decide +kernel
theorem dR_dataOf_12 : decode cR_dataOf 12 = .ok (.ifnull 10, 3) := by decide +kernel
theorem dR_dataOf_15 : decode cR_dataOf 15 = .ok (.aload_n 1, 1) := by decide +kernel
theorem dR_dataOf_16 : decode cR_dataOf 16 = .ok (.getfield 100, 3) := by decide +kernel
theorem dR_dataOf_19 : decode cR_dataOf 19 = .ok (.goto 7, 3) := by decide +kernel
theorem dR_dataOf_22 : decode cR_dataOf 22 = .ok (.aload_n 0, 1) := by decide +kernel
theorem dR_dataOf_23 : decode cR_dataOf 23 = .ok (.getfield 31, 3) := by decide +kernel
theorem dR_dataOf_26 : decode cR_dataOf 26 = .ok (.areturn, 1) := by decide +kernel
theorem dR_bytesOf_0 : decode cR_bytesOf 0 = .ok (.aload_n 0, 1) := by decide +kernel
theorem dR_bytesOf_1 : decode cR_bytesOf 1 = .ok (.getfield 35, 3) := by decide +kernel
theorem dR_bytesOf_4 : decode cR_bytesOf 4 = .ok (.getfield 89, 3) := by decide +kernel
theorem dR_bytesOf_7 : decode cR_bytesOf 7 = .ok (.astore_n 2, 1) := by decide +kernel
theorem dR_bytesOf_8 : decode cR_bytesOf 8 = .ok (.iload_n 1, 1) := by decide +kernel
theorem dR_bytesOf_9 : decode cR_bytesOf 9 = .ok (.ifCond .ge 18, 3) := by decide +kernel
theorem dR_bytesOf_12 : decode cR_bytesOf 12 = .ok (.aload_n 2, 1) := by decide +kernel
theorem dR_bytesOf_13 : decode cR_bytesOf 13 = .ok (.ifnull 14, 3) := by decide +kernel
theorem dR_bytesOf_16 : decode cR_bytesOf 16 = .ok (.aload_n 2, 1) := by decide +kernel
theorem dR_bytesOf_17 : decode cR_bytesOf 17 = .ok (.getfield 83, 3) := by decide +kernel
theorem dR_bytesOf_20 : decode cR_bytesOf 20 = .ok (.iconst (-1), 1) := by decide +kernel
theorem dR_bytesOf_21 : decode cR_bytesOf 21 = .ok (.iload_n 1, 1) := by decide +kernel
theorem dR_bytesOf_22 : decode cR_bytesOf 22 = .ok (.isub, 1) := by decide +kernel
theorem dR_bytesOf_23 : decode cR_bytesOf 23 = .ok (.iaload, 1) := by decide +kernel
theorem dR_bytesOf_24 : decode cR_bytesOf 24 = .ok (.goto 5, 3) := by decide +kernel
theorem dR_bytesOf_27 : decode cR_bytesOf 27 = .ok (.bipush 8, 2) := by decide +kernel
theorem dR_bytesOf_29 : decode cR_bytesOf 29 = .ok (.ireturn, 1) := by decide +kernel
theorem dR_enter_0 : decode cR_enter 0 = .ok (.aload_n 0, 1) := by decide +kernel
theorem dR_enter_1 : decode cR_enter 1 = .ok (.getfield 86, 3) := by decide +kernel
theorem dR_enter_4 : decode cR_enter 4 = .ok (.astore_n 1, 1) := by decide +kernel
theorem dR_enter_5 : decode cR_enter 5 = .ok (.aload_n 1, 1) := by decide +kernel
theorem dR_enter_6 : decode cR_enter 6 = .ok (.ifnull 10, 3) := by decide +kernel
theorem dR_enter_9 : decode cR_enter 9 = .ok (.aload_n 1, 1) := by decide +kernel
theorem dR_enter_10 : decode cR_enter 10 = .ok (.getfield 89, 3) := by decide +kernel
theorem dR_enter_13 : decode cR_enter 13 = .ok (.ifnonnull 6, 3) := by decide +kernel
theorem dR_enter_16 : decode cR_enter 16 = .ok (.bipush (-4), 2) := by decide +kernel
theorem dR_enter_18 : decode cR_enter 18 = .ok (.ireturn, 1) := by decide +kernel
theorem dR_enter_19 : decode cR_enter 19 = .ok (.aload_n 0, 1) := by decide +kernel
theorem dR_enter_20 : decode cR_enter 20 = .ok (.aconst_null, 1) := by decide +kernel
theorem dR_enter_21 : decode cR_enter 21 = .ok (.putfield 86, 3) := by decide +kernel
theorem dR_enter_24 : decode cR_enter 24 = .ok (.aload_n 1, 1) := by decide +kernel
theorem dR_enter_25 : decode cR_enter 25 = .ok (.getfield 89, 3) := by decide +kernel
theorem dR_enter_28 : decode cR_enter 28 = .ok (.astore_n 2, 1) := by decide +kernel
theorem dR_enter_29 : decode cR_enter 29 = .ok (.aload_n 1, 1) := by decide +kernel
theorem dR_enter_30 : decode cR_enter 30 = .ok (.aload_n 2, 1) := by decide +kernel
theorem dR_enter_31 : decode cR_enter 31 = .ok (.invokestatic 139, 3) := by decide +kernel
theorem dR_enter_34 : decode cR_enter 34 = .ok (.ifCond .ne 6, 3) := by decide +kernel
theorem dR_enter_37 : decode cR_enter 37 = .ok (.bipush (-7), 2) := by decide +kernel
theorem dR_enter_39 : decode cR_enter 39 = .ok (.ireturn, 1) := by decide +kernel
theorem dR_enter_40 : decode cR_enter 40 = .ok (.aload_n 1, 1) := by decide +kernel
theorem dR_enter_41 : decode cR_enter 41 = .ok (.aload_n 2, 1) := by decide +kernel
theorem dR_enter_42 : decode cR_enter 42 = .ok (.invokestatic 143, 3) := by decide +kernel
theorem dR_enter_45 : decode cR_enter 45 = .ok (.ifCond .ne 6, 3) := by decide +kernel
theorem dR_enter_48 : decode cR_enter 48 = .ok (.bipush (-8), 2) := by decide +kernel
theorem dR_enter_50 : decode cR_enter 50 = .ok (.ireturn, 1) := by decide +kernel
theorem dR_enter_51 : decode cR_enter 51 = .ok (.aload_n 1, 1) := by decide +kernel
theorem dR_enter_52 : decode cR_enter 52 = .ok (.aload_n 2, 1) := by decide +kernel
theorem dR_enter_53 : decode cR_enter 53 = .ok (.invokestatic 146, 3) := by decide +kernel
theorem dR_enter_56 : decode cR_enter 56 = .ok (.aload_n 1, 1) := by decide +kernel
theorem dR_enter_57 : decode cR_enter 57 = .ok (.aload_n 2, 1) := by decide +kernel
theorem dR_enter_58 : decode cR_enter 58 = .ok (.getfield 100, 3) := by decide +kernel
theorem dR_enter_61 : decode cR_enter 61 = .ok (.putfield 150, 3) := by decide +kernel
theorem dR_enter_64 : decode cR_enter 64 = .ok (.aload_n 2, 1) := by decide +kernel
theorem dR_enter_65 : decode cR_enter 65 = .ok (.aload_n 1, 1) := by decide +kernel
theorem dR_enter_66 : decode cR_enter 66 = .ok (.putfield 100, 3) := by decide +kernel
theorem dR_enter_69 : decode cR_enter 69 = .ok (.aload_n 0, 1) := by decide +kernel
theorem dR_enter_70 : decode cR_enter 70 = .ok (.aload_n 1, 1) := by decide +kernel
theorem dR_enter_71 : decode cR_enter 71 = .ok (.putfield 35, 3) := by decide +kernel
theorem dR_enter_74 : decode cR_enter 74 = .ok (.aload_n 0, 1) := by decide +kernel
theorem dR_enter_75 : decode cR_enter 75 = .ok (.dup, 1) := by decide +kernel
theorem dR_enter_76 : decode cR_enter 76 = .ok (.getfield 60, 3) := by decide +kernel
theorem dR_enter_79 : decode cR_enter 79 = .ok (.iconst 1, 1) := by decide +kernel
theorem dR_enter_80 : decode cR_enter 80 = .ok (.iadd, 1) := by decide +kernel
theorem dR_enter_81 : decode cR_enter 81 = .ok (.putfield 60, 3) := by decide +kernel
theorem dR_enter_84 : decode cR_enter 84 = .ok (.aload_n 2, 1) := by decide +kernel
theorem dR_enter_85 : decode cR_enter 85 = .ok (.invokevirtual 153, 3) := by decide +kernel
theorem dR_enter_88 : decode cR_enter 88 = .ok (.ifCond .ne 8, 3) := by decide +kernel
theorem dR_enter_91 : decode cR_enter 91 = .ok (.aload_n 0, 1) := by decide +kernel
theorem dR_enter_92 : decode cR_enter 92 = .ok (.aload_n 2, 1) := by decide +kernel
theorem dR_enter_93 : decode cR_enter 93 = .ok (.invokevirtual 157, 3) := by decide +kernel
theorem dR_enter_96 : decode cR_enter 96 = .ok (.iconst 1, 1) := by decide +kernel
theorem dR_enter_97 : decode cR_enter 97 = .ok (.ireturn, 1) := by decide +kernel
theorem dR_argumentsFit_0 : decode cR_argumentsFit 0 = .ok (.aload_n 0, 1) := by decide +kernel
theorem dR_argumentsFit_1 : decode cR_argumentsFit 1 = .ok (.getfield 121, 3) := by decide +kernel
theorem dR_argumentsFit_4 : decode cR_argumentsFit 4 = .ok (.aload_n 1, 1) := by decide +kernel
theorem dR_argumentsFit_5 : decode cR_argumentsFit 5 = .ok (.getfield 77, 3) := by decide +kernel
theorem dR_argumentsFit_8 : decode cR_argumentsFit 8 = .ok (.if_icmp .le 5, 3) := by decide +kernel
theorem dR_argumentsFit_11 : decode cR_argumentsFit 11 = .ok (.iconst 0, 1) := by decide +kernel
theorem dR_argumentsFit_12 : decode cR_argumentsFit 12 = .ok (.ireturn, 1) := by decide +kernel
theorem dR_argumentsFit_13 : decode cR_argumentsFit 13 = .ok (.iconst 0, 1) := by decide +kernel
theorem dR_argumentsFit_14 : decode cR_argumentsFit 14 = .ok (.istore_n 2, 1) := by decide +kernel
theorem dR_argumentsFit_15 : decode cR_argumentsFit 15 = .ok (.iload_n 2, 1) := by decide +kernel
theorem dR_argumentsFit_16 : decode cR_argumentsFit 16 = .ok (.aload_n 1, 1) := by decide +kernel
theorem dR_argumentsFit_17 : decode cR_argumentsFit 17 = .ok (.getfield 77, 3) := by decide +kernel
theorem dR_argumentsFit_20 : decode cR_argumentsFit 20 = .ok (.if_icmp .ge 31, 3) := by decide +kernel
theorem dR_argumentsFit_23 : decode cR_argumentsFit 23 = .ok (.aload_n 0, 1) := by decide +kernel
theorem dR_argumentsFit_24 : decode cR_argumentsFit 24 = .ok (.getfield 214, 3) := by decide +kernel
theorem dR_argumentsFit_27 : decode cR_argumentsFit 27 = .ok (.iload_n 2, 1) := by decide +kernel
theorem dR_argumentsFit_28 : decode cR_argumentsFit 28 = .ok (.aaload, 1) := by decide +kernel
theorem dR_argumentsFit_29 : decode cR_argumentsFit 29 = .ok (.ifnonnull 16, 3) := by decide +kernel
theorem dR_argumentsFit_32 : decode cR_argumentsFit 32 = .ok (.aload_n 1, 1) := by decide +kernel
theorem dR_argumentsFit_33 : decode cR_argumentsFit 33 = .ok (.getfield 80, 3) := by decide +kernel
theorem dR_argumentsFit_36 : decode cR_argumentsFit 36 = .ok (.iload_n 2, 1) := by decide +kernel
theorem dR_argumentsFit_37 : decode cR_argumentsFit 37 = .ok (.iaload, 1) := by decide +kernel
theorem dR_argumentsFit_38 : decode cR_argumentsFit 38 = .ok (.iconst 2, 1) := by decide +kernel
theorem dR_argumentsFit_39 : decode cR_argumentsFit 39 = .ok (.iand, 1) := by decide +kernel
theorem dR_argumentsFit_40 : decode cR_argumentsFit 40 = .ok (.ifCond .ne 5, 3) := by decide +kernel
theorem dR_argumentsFit_43 : decode cR_argumentsFit 43 = .ok (.iconst 0, 1) := by decide +kernel
theorem dR_argumentsFit_44 : decode cR_argumentsFit 44 = .ok (.ireturn, 1) := by decide +kernel
theorem dR_argumentsFit_45 : decode cR_argumentsFit 45 = .ok (.iinc 2 1, 3) := by decide +kernel
theorem dR_argumentsFit_48 : decode cR_argumentsFit 48 = .ok (.goto (-33), 3) := by decide +kernel
theorem dR_argumentsFit_51 : decode cR_argumentsFit 51 = .ok (.iconst 1, 1) := by decide +kernel
theorem dR_argumentsFit_52 : decode cR_argumentsFit 52 = .ok (.ireturn, 1) := by decide +kernel
theorem dR_bytesSuffice_0 : decode cR_bytesSuffice 0 = .ok (.iconst 0, 1) := by decide +kernel
theorem dR_bytesSuffice_1 : decode cR_bytesSuffice 1 = .ok (.istore_n 2, 1) := by decide +kernel
theorem dR_bytesSuffice_2 : decode cR_bytesSuffice 2 = .ok (.iload_n 2, 1) := by decide +kernel
theorem dR_bytesSuffice_3 : decode cR_bytesSuffice 3 = .ok (.aload_n 1, 1) := by decide +kernel
theorem dR_bytesSuffice_4 : decode cR_bytesSuffice 4 = .ok (.getfield 77, 3) := by decide +kernel
theorem dR_bytesSuffice_7 : decode cR_bytesSuffice 7 = .ok (.if_icmp .ge 35, 3) := by decide +kernel
theorem dR_bytesSuffice_10 : decode cR_bytesSuffice 10 = .ok (.aload_n 0, 1) := by decide +kernel
theorem dR_bytesSuffice_11 : decode cR_bytesSuffice 11 = .ok (.getfield 214, 3) := by decide +kernel
theorem dR_bytesSuffice_14 : decode cR_bytesSuffice 14 = .ok (.iload_n 2, 1) := by decide +kernel
theorem dR_bytesSuffice_15 : decode cR_bytesSuffice 15 = .ok (.aaload, 1) := by decide +kernel
theorem dR_bytesSuffice_16 : decode cR_bytesSuffice 16 = .ok (.ifnull 20, 3) := by decide +kernel
theorem dR_bytesSuffice_19 : decode cR_bytesSuffice 19 = .ok (.aload_n 0, 1) := by decide +kernel
theorem dR_bytesSuffice_20 : decode cR_bytesSuffice 20 = .ok (.getfield 229, 3) := by decide +kernel
theorem dR_bytesSuffice_23 : decode cR_bytesSuffice 23 = .ok (.iload_n 2, 1) := by decide +kernel
theorem dR_bytesSuffice_24 : decode cR_bytesSuffice 24 = .ok (.iaload, 1) := by decide +kernel
theorem dR_bytesSuffice_25 : decode cR_bytesSuffice 25 = .ok (.aload_n 1, 1) := by decide +kernel
theorem dR_bytesSuffice_26 : decode cR_bytesSuffice 26 = .ok (.getfield 83, 3) := by decide +kernel
theorem dR_bytesSuffice_29 : decode cR_bytesSuffice 29 = .ok (.iload_n 2, 1) := by decide +kernel
theorem dR_bytesSuffice_30 : decode cR_bytesSuffice 30 = .ok (.iaload, 1) := by decide +kernel
theorem dR_bytesSuffice_31 : decode cR_bytesSuffice 31 = .ok (.if_icmp .ge 5, 3) := by decide +kernel
theorem dR_bytesSuffice_34 : decode cR_bytesSuffice 34 = .ok (.iconst 0, 1) := by decide +kernel
theorem dR_bytesSuffice_35 : decode cR_bytesSuffice 35 = .ok (.ireturn, 1) := by decide +kernel
theorem dR_bytesSuffice_36 : decode cR_bytesSuffice 36 = .ok (.iinc 2 1, 3) := by decide +kernel
theorem dR_bytesSuffice_39 : decode cR_bytesSuffice 39 = .ok (.goto (-37), 3) := by decide +kernel
theorem dR_bytesSuffice_42 : decode cR_bytesSuffice 42 = .ok (.iconst 1, 1) := by decide +kernel
theorem dR_bytesSuffice_43 : decode cR_bytesSuffice 43 = .ok (.ireturn, 1) := by decide +kernel
theorem dR_copyValues_0 : decode cR_copyValues 0 = .ok (.iconst 0, 1) := by decide +kernel
theorem dR_copyValues_1 : decode cR_copyValues 1 = .ok (.istore_n 2, 1) := by decide +kernel
theorem dR_copyValues_2 : decode cR_copyValues 2 = .ok (.iload_n 2, 1) := by decide +kernel
theorem dR_copyValues_3 : decode cR_copyValues 3 = .ok (.aload_n 1, 1) := by decide +kernel
theorem dR_copyValues_4 : decode cR_copyValues 4 = .ok (.getfield 77, 3) := by decide +kernel
theorem dR_copyValues_7 : decode cR_copyValues 7 = .ok (.if_icmp .ge 25, 3) := by decide +kernel
theorem dR_copyValues_10 : decode cR_copyValues 10 = .ok (.aload_n 1, 1) := by decide +kernel
theorem dR_copyValues_11 : decode cR_copyValues 11 = .ok (.getfield 80, 3) := by decide +kernel
theorem dR_copyValues_14 : decode cR_copyValues 14 = .ok (.iload_n 2, 1) := by decide +kernel
theorem dR_copyValues_15 : decode cR_copyValues 15 = .ok (.iaload, 1) := by decide +kernel
theorem dR_copyValues_16 : decode cR_copyValues 16 = .ok (.iconst 1, 1) := by decide +kernel
theorem dR_copyValues_17 : decode cR_copyValues 17 = .ok (.iand, 1) := by decide +kernel
theorem dR_copyValues_18 : decode cR_copyValues 18 = .ok (.ifCond .eq 8, 3) := by decide +kernel
theorem dR_copyValues_21 : decode cR_copyValues 21 = .ok (.aload_n 0, 1) := by decide +kernel
theorem dR_copyValues_22 : decode cR_copyValues 22 = .ok (.iload_n 2, 1) := by decide +kernel
theorem dR_copyValues_23 : decode cR_copyValues 23 = .ok (.invokevirtual 135, 3) := by decide +kernel
theorem dR_copyValues_26 : decode cR_copyValues 26 = .ok (.iinc 2 1, 3) := by decide +kernel
theorem dR_copyValues_29 : decode cR_copyValues 29 = .ok (.goto (-27), 3) := by decide +kernel
theorem dR_copyValues_32 : decode cR_copyValues 32 = .ok (.return_, 1) := by decide +kernel
theorem dR_giveFirstValues_0 : decode cR_giveFirstValues 0 = .ok (.aload_n 0, 1) := by decide +kernel
theorem dR_giveFirstValues_1 : decode cR_giveFirstValues 1 = .ok (.aload_n 1, 1) := by decide +kernel
theorem dR_giveFirstValues_2 : decode cR_giveFirstValues 2 = .ok (.invokevirtual 222, 3) := by decide +kernel
theorem dR_giveFirstValues_5 : decode cR_giveFirstValues 5 = .ok (.astore_n 2, 1) := by decide +kernel
theorem dR_giveFirstValues_6 : decode cR_giveFirstValues 6 = .ok (.iconst 0, 1) := by decide +kernel
theorem dR_giveFirstValues_7 : decode cR_giveFirstValues 7 = .ok (.istore_n 3, 1) := by decide +kernel
theorem dR_giveFirstValues_8 : decode cR_giveFirstValues 8 = .ok (.iload_n 3, 1) := by decide +kernel
theorem dR_giveFirstValues_9 : decode cR_giveFirstValues 9 = .ok (.aload_n 0, 1) := by decide +kernel
theorem dR_giveFirstValues_10 : decode cR_giveFirstValues 10 = .ok (.getfield 193, 3) := by decide +kernel
theorem dR_giveFirstValues_13 : decode cR_giveFirstValues 13 = .ok (.if_icmp .ge 35, 3) := by decide +kernel
theorem dR_giveFirstValues_16 : decode cR_giveFirstValues 16 = .ok (.aload_n 0, 1) := by decide +kernel
theorem dR_giveFirstValues_17 : decode cR_giveFirstValues 17 = .ok (.getfield 15, 3) := by decide +kernel
theorem dR_giveFirstValues_20 : decode cR_giveFirstValues 20 = .ok (.iload_n 3, 1) := by decide +kernel
theorem dR_giveFirstValues_21 : decode cR_giveFirstValues 21 = .ok (.aaload, 1) := by decide +kernel
theorem dR_giveFirstValues_22 : decode cR_giveFirstValues 22 = .ok (.aload_n 1, 1) := by decide +kernel
theorem dR_giveFirstValues_23 : decode cR_giveFirstValues 23 = .ok (.if_acmp .ne 19, 3) := by decide +kernel
theorem dR_giveFirstValues_26 : decode cR_giveFirstValues 26 = .ok (.aload_n 2, 1) := by decide +kernel
theorem dR_giveFirstValues_27 : decode cR_giveFirstValues 27 = .ok (.getfield 165, 3) := by decide +kernel
theorem dR_giveFirstValues_30 : decode cR_giveFirstValues 30 = .ok (.aload_n 0, 1) := by decide +kernel
theorem dR_giveFirstValues_31 : decode cR_giveFirstValues 31 = .ok (.iload_n 3, 1) := by decide +kernel
theorem dR_giveFirstValues_32 : decode cR_giveFirstValues 32 = .ok (.invokevirtual 124, 3) := by decide +kernel
theorem dR_giveFirstValues_35 : decode cR_giveFirstValues 35 = .ok (.aload_n 0, 1) := by decide +kernel
theorem dR_giveFirstValues_36 : decode cR_giveFirstValues 36 = .ok (.getfield 18, 3) := by decide +kernel
theorem dR_giveFirstValues_39 : decode cR_giveFirstValues 39 = .ok (.iload_n 3, 1) := by decide +kernel
theorem dR_giveFirstValues_40 : decode cR_giveFirstValues 40 = .ok (.laload, 1) := by decide +kernel
theorem dR_giveFirstValues_41 : decode cR_giveFirstValues 41 = .ok (.lastore, 1) := by decide +kernel
theorem dR_giveFirstValues_42 : decode cR_giveFirstValues 42 = .ok (.iinc 3 1, 3) := by decide +kernel
theorem dR_giveFirstValues_45 : decode cR_giveFirstValues 45 = .ok (.goto (-37), 3) := by decide +kernel
theorem dR_giveFirstValues_48 : decode cR_giveFirstValues 48 = .ok (.return_, 1) := by decide +kernel
theorem dR_set_0 : decode cR_set 0 = .ok (.aload_n 0, 1) := by decide +kernel
theorem dR_set_1 : decode cR_set 1 = .ok (.iload_n 1, 1) := by decide +kernel
theorem dR_set_2 : decode cR_set 2 = .ok (.invokevirtual 117, 3) := by decide +kernel
theorem dR_set_5 : decode cR_set 5 = .ok (.astore 4, 2) := by decide +kernel
theorem dR_set_7 : decode cR_set 7 = .ok (.aload 4, 2) := by decide +kernel
theorem dR_set_9 : decode cR_set 9 = .ok (.ifnonnull 6, 3) := by decide +kernel
theorem dR_set_12 : decode cR_set 12 = .ok (.bipush (-2), 2) := by decide +kernel
theorem dR_set_14 : decode cR_set 14 = .ok (.ireturn, 1) := by decide +kernel
theorem dR_set_15 : decode cR_set 15 = .ok (.ldc2_w 160, 3) := by decide +kernel
theorem dR_set_18 : decode cR_set 18 = .ok (.aload_n 0, 1) := by decide +kernel
theorem dR_set_19 : decode cR_set 19 = .ok (.iload_n 1, 1) := by decide +kernel
theorem dR_set_20 : decode cR_set 20 = .ok (.invokevirtual 162, 3) := by decide +kernel
theorem dR_set_23 : decode cR_set 23 = .ok (.lushr, 1) := by decide +kernel
theorem dR_set_24 : decode cR_set 24 = .ok (.lstore 5, 2) := by decide +kernel
theorem dR_set_26 : decode cR_set 26 = .ok (.aload_n 0, 1) := by decide +kernel
theorem dR_set_27 : decode cR_set 27 = .ok (.iload_n 1, 1) := by decide +kernel
theorem dR_set_28 : decode cR_set 28 = .ok (.invokevirtual 124, 3) := by decide +kernel
theorem dR_set_31 : decode cR_set 31 = .ok (.istore 7, 2) := by decide +kernel
theorem dR_set_33 : decode cR_set 33 = .ok (.aload 4, 2) := by decide +kernel
theorem dR_set_35 : decode cR_set 35 = .ok (.getfield 165, 3) := by decide +kernel
theorem dR_set_38 : decode cR_set 38 = .ok (.iload 7, 2) := by decide +kernel
theorem dR_set_40 : decode cR_set 40 = .ok (.aload 4, 2) := by decide +kernel
theorem dR_set_42 : decode cR_set 42 = .ok (.getfield 165, 3) := by decide +kernel
theorem dR_set_45 : decode cR_set 45 = .ok (.iload 7, 2) := by decide +kernel
theorem dR_set_47 : decode cR_set 47 = .ok (.laload, 1) := by decide +kernel
theorem dR_set_48 : decode cR_set 48 = .ok (.lload 5, 2) := by decide +kernel
theorem dR_set_50 : decode cR_set 50 = .ok (.ldc2_w 160, 3) := by decide +kernel
theorem dR_set_53 : decode cR_set 53 = .ok (.lxor, 1) := by decide +kernel
theorem dR_set_54 : decode cR_set 54 = .ok (.land, 1) := by decide +kernel
theorem dR_set_55 : decode cR_set 55 = .ok (.lload_n 2, 1) := by decide +kernel
theorem dR_set_56 : decode cR_set 56 = .ok (.lload 5, 2) := by decide +kernel
theorem dR_set_58 : decode cR_set 58 = .ok (.land, 1) := by decide +kernel
theorem dR_set_59 : decode cR_set 59 = .ok (.lor, 1) := by decide +kernel
theorem dR_set_60 : decode cR_set 60 = .ok (.lastore, 1) := by decide +kernel
theorem dR_set_61 : decode cR_set 61 = .ok (.iconst 1, 1) := by decide +kernel
theorem dR_set_62 : decode cR_set 62 = .ok (.ireturn, 1) := by decide +kernel
theorem dR_unusedBits_0 : decode cR_unusedBits 0 = .ok (.bipush 8, 2) := by decide +kernel
theorem dR_unusedBits_2 : decode cR_unusedBits 2 = .ok (.bipush 8, 2) := by decide +kernel
theorem dR_unusedBits_4 : decode cR_unusedBits 4 = .ok (.aload_n 0, 1) := by decide +kernel
theorem dR_unusedBits_5 : decode cR_unusedBits 5 = .ok (.iload_n 1, 1) := by decide +kernel
theorem dR_unusedBits_6 : decode cR_unusedBits 6 = .ok (.invokevirtual 128, 3) := by decide +kernel
theorem dR_unusedBits_9 : decode cR_unusedBits 9 = .ok (.isub, 1) := by decide +kernel
theorem dR_unusedBits_10 : decode cR_unusedBits 10 = .ok (.imul, 1) := by decide +kernel
theorem dR_unusedBits_11 : decode cR_unusedBits 11 = .ok (.ireturn, 1) := by decide +kernel
theorem dR_leave_0 : decode cR_leave 0 = .ok (.aload_n 0, 1) := by decide +kernel
theorem dR_leave_1 : decode cR_leave 1 = .ok (.getfield 35, 3) := by decide +kernel
theorem dR_leave_4 : decode cR_leave 4 = .ok (.getfield 89, 3) := by decide +kernel
theorem dR_leave_7 : decode cR_leave 7 = .ok (.astore_n 3, 1) := by decide +kernel
theorem dR_leave_8 : decode cR_leave 8 = .ok (.aload_n 0, 1) := by decide +kernel
theorem dR_leave_9 : decode cR_leave 9 = .ok (.getfield 35, 3) := by decide +kernel
theorem dR_leave_12 : decode cR_leave 12 = .ok (.getfield 168, 3) := by decide +kernel
theorem dR_leave_15 : decode cR_leave 15 = .ok (.astore 4, 2) := by decide +kernel
theorem dR_leave_17 : decode cR_leave 17 = .ok (.aload_n 3, 1) := by decide +kernel
theorem dR_leave_18 : decode cR_leave 18 = .ok (.ifnull 8, 3) := by decide +kernel
theorem dR_leave_21 : decode cR_leave 21 = .ok (.aload 4, 2) := by decide +kernel
theorem dR_leave_23 : decode cR_leave 23 = .ok (.ifnonnull 6, 3) := by decide +kernel
theorem dR_leave_26 : decode cR_leave 26 = .ok (.bipush (-4), 2) := by decide +kernel
theorem dR_leave_28 : decode cR_leave 28 = .ok (.ireturn, 1) := by decide +kernel
theorem dR_leave_29 : decode cR_leave 29 = .ok (.aload_n 3, 1) := by decide +kernel
theorem dR_leave_30 : decode cR_leave 30 = .ok (.aload_n 0, 1) := by decide +kernel
theorem dR_leave_31 : decode cR_leave 31 = .ok (.getfield 35, 3) := by decide +kernel
theorem dR_leave_34 : decode cR_leave 34 = .ok (.getfield 150, 3) := by decide +kernel
theorem dR_leave_37 : decode cR_leave 37 = .ok (.putfield 100, 3) := by decide +kernel
theorem dR_leave_40 : decode cR_leave 40 = .ok (.aload_n 3, 1) := by decide +kernel
theorem dR_leave_41 : decode cR_leave 41 = .ok (.aload_n 3, 1) := by decide +kernel
theorem dR_leave_42 : decode cR_leave 42 = .ok (.invokevirtual 153, 3) := by decide +kernel
theorem dR_leave_45 : decode cR_leave 45 = .ok (.putfield 171, 3) := by decide +kernel
theorem dR_leave_48 : decode cR_leave 48 = .ok (.aload_n 0, 1) := by decide +kernel
theorem dR_leave_49 : decode cR_leave 49 = .ok (.aload 4, 2) := by decide +kernel
theorem dR_leave_51 : decode cR_leave 51 = .ok (.putfield 35, 3) := by decide +kernel
theorem dR_leave_54 : decode cR_leave 54 = .ok (.aload_n 0, 1) := by decide +kernel
theorem dR_leave_55 : decode cR_leave 55 = .ok (.dup, 1) := by decide +kernel
theorem dR_leave_56 : decode cR_leave 56 = .ok (.getfield 60, 3) := by decide +kernel
theorem dR_leave_59 : decode cR_leave 59 = .ok (.iconst 1, 1) := by decide +kernel
theorem dR_leave_60 : decode cR_leave 60 = .ok (.isub, 1) := by decide +kernel
theorem dR_leave_61 : decode cR_leave 61 = .ok (.putfield 60, 3) := by decide +kernel
theorem dR_leave_64 : decode cR_leave 64 = .ok (.aload_n 0, 1) := by decide +kernel
theorem dR_leave_65 : decode cR_leave 65 = .ok (.aconst_null, 1) := by decide +kernel
theorem dR_leave_66 : decode cR_leave 66 = .ok (.putfield 86, 3) := by decide +kernel
theorem dR_leave_69 : decode cR_leave 69 = .ok (.aload_n 0, 1) := by decide +kernel
theorem dR_leave_70 : decode cR_leave 70 = .ok (.lload_n 1, 1) := by decide +kernel
theorem dR_leave_71 : decode cR_leave 71 = .ok (.putfield 175, 3) := by decide +kernel
theorem dR_leave_74 : decode cR_leave 74 = .ok (.aload_n 0, 1) := by decide +kernel
theorem dR_leave_75 : decode cR_leave 75 = .ok (.getfield 35, 3) := by decide +kernel
theorem dR_leave_78 : decode cR_leave 78 = .ok (.getfield 89, 3) := by decide +kernel
theorem dR_leave_81 : decode cR_leave 81 = .ok (.invokestatic 93, 3) := by decide +kernel
theorem dR_leave_84 : decode cR_leave 84 = .ok (.ireturn, 1) := by decide +kernel
theorem dR_cancel_0 : decode cR_cancel 0 = .ok (.iload_n 1, 1) := by decide +kernel
theorem dR_cancel_1 : decode cR_cancel 1 = .ok (.aload_n 0, 1) := by decide +kernel
theorem dR_cancel_2 : decode cR_cancel 2 = .ok (.getfield 35, 3) := by decide +kernel
theorem dR_cancel_5 : decode cR_cancel 5 = .ok (.getfield 89, 3) := by decide +kernel
theorem dR_cancel_8 : decode cR_cancel 8 = .ok (.invokestatic 93, 3) := by decide +kernel
theorem dR_cancel_11 : decode cR_cancel 11 = .ok (.if_icmp .ne 10, 3) := by decide +kernel
theorem dR_cancel_14 : decode cR_cancel 14 = .ok (.iload_n 2, 1) := by decide +kernel
theorem dR_cancel_15 : decode cR_cancel 15 = .ok (.invokestatic 56, 3) := by decide +kernel
theorem dR_cancel_18 : decode cR_cancel 18 = .ok (.ifCond .ne 6, 3) := by decide +kernel
theorem dR_cancel_21 : decode cR_cancel 21 = .ok (.bipush (-2), 2) := by decide +kernel
theorem dR_cancel_23 : decode cR_cancel 23 = .ok (.ireturn, 1) := by decide +kernel
theorem dR_cancel_24 : decode cR_cancel 24 = .ok (.aload_n 0, 1) := by decide +kernel
theorem dR_cancel_25 : decode cR_cancel 25 = .ok (.aload_n 0, 1) := by decide +kernel
theorem dR_cancel_26 : decode cR_cancel 26 = .ok (.getfield 35, 3) := by decide +kernel
theorem dR_cancel_29 : decode cR_cancel 29 = .ok (.getfield 89, 3) := by decide +kernel
theorem dR_cancel_32 : decode cR_cancel 32 = .ok (.iload_n 2, 1) := by decide +kernel
theorem dR_cancel_33 : decode cR_cancel 33 = .ok (.invokevirtual 97, 3) := by decide +kernel
theorem dR_cancel_36 : decode cR_cancel 36 = .ok (.astore_n 3, 1) := by decide +kernel
theorem dR_cancel_37 : decode cR_cancel 37 = .ok (.aload_n 3, 1) := by decide +kernel
theorem dR_cancel_38 : decode cR_cancel 38 = .ok (.ifnonnull 6, 3) := by decide +kernel
theorem dR_cancel_41 : decode cR_cancel 41 = .ok (.bipush (-3), 2) := by decide +kernel
theorem dR_cancel_43 : decode cR_cancel 43 = .ok (.ireturn, 1) := by decide +kernel
theorem dR_cancel_44 : decode cR_cancel 44 = .ok (.aload_n 0, 1) := by decide +kernel
theorem dR_cancel_45 : decode cR_cancel 45 = .ok (.aload_n 3, 1) := by decide +kernel
theorem dR_cancel_46 : decode cR_cancel 46 = .ok (.invokevirtual 186, 3) := by decide +kernel
theorem dR_cancel_49 : decode cR_cancel 49 = .ok (.ifCond .eq 6, 3) := by decide +kernel
theorem dR_cancel_52 : decode cR_cancel 52 = .ok (.bipush (-5), 2) := by decide +kernel
theorem dR_cancel_54 : decode cR_cancel 54 = .ok (.ireturn, 1) := by decide +kernel
theorem dR_cancel_55 : decode cR_cancel 55 = .ok (.aload_n 0, 1) := by decide +kernel
theorem dR_cancel_56 : decode cR_cancel 56 = .ok (.aload_n 3, 1) := by decide +kernel
theorem dR_cancel_57 : decode cR_cancel 57 = .ok (.invokevirtual 190, 3) := by decide +kernel
theorem dR_cancel_60 : decode cR_cancel 60 = .ok (.ireturn, 1) := by decide +kernel
theorem dR_anyActiveOf_0 : decode cR_anyActiveOf 0 = .ok (.iconst 1, 1) := by decide +kernel
theorem dR_anyActiveOf_1 : decode cR_anyActiveOf 1 = .ok (.istore_n 2, 1) := by decide +kernel
theorem dR_anyActiveOf_2 : decode cR_anyActiveOf 2 = .ok (.iload_n 2, 1) := by decide +kernel
theorem dR_anyActiveOf_3 : decode cR_anyActiveOf 3 = .ok (.aload_n 0, 1) := by decide +kernel
theorem dR_anyActiveOf_4 : decode cR_anyActiveOf 4 = .ok (.getfield 67, 3) := by decide +kernel
theorem dR_anyActiveOf_7 : decode cR_anyActiveOf 7 = .ok (.if_icmp .gt 37, 3) := by decide +kernel
theorem dR_anyActiveOf_10 : decode cR_anyActiveOf 10 = .ok (.aload_n 0, 1) := by decide +kernel
theorem dR_anyActiveOf_11 : decode cR_anyActiveOf 11 = .ok (.getfield 11, 3) := by decide +kernel
theorem dR_anyActiveOf_14 : decode cR_anyActiveOf 14 = .ok (.iload_n 2, 1) := by decide +kernel
theorem dR_anyActiveOf_15 : decode cR_anyActiveOf 15 = .ok (.aaload, 1) := by decide +kernel
theorem dR_anyActiveOf_16 : decode cR_anyActiveOf 16 = .ok (.astore_n 3, 1) := by decide +kernel
theorem dR_anyActiveOf_17 : decode cR_anyActiveOf 17 = .ok (.aload_n 3, 1) := by decide +kernel
theorem dR_anyActiveOf_18 : decode cR_anyActiveOf 18 = .ok (.ifnull 20, 3) := by decide +kernel
theorem dR_anyActiveOf_21 : decode cR_anyActiveOf 21 = .ok (.aload_n 3, 1) := by decide +kernel
theorem dR_anyActiveOf_22 : decode cR_anyActiveOf 22 = .ok (.getfield 100, 3) := by decide +kernel
theorem dR_anyActiveOf_25 : decode cR_anyActiveOf 25 = .ok (.ifnull 13, 3) := by decide +kernel
theorem dR_anyActiveOf_28 : decode cR_anyActiveOf 28 = .ok (.aload_n 3, 1) := by decide +kernel
theorem dR_anyActiveOf_29 : decode cR_anyActiveOf 29 = .ok (.aload_n 1, 1) := by decide +kernel
theorem dR_anyActiveOf_30 : decode cR_anyActiveOf 30 = .ok (.invokevirtual 208, 3) := by decide +kernel
theorem dR_anyActiveOf_33 : decode cR_anyActiveOf 33 = .ok (.ifCond .eq 5, 3) := by decide +kernel
theorem dR_anyActiveOf_36 : decode cR_anyActiveOf 36 = .ok (.iconst 1, 1) := by decide +kernel
theorem dR_anyActiveOf_37 : decode cR_anyActiveOf 37 = .ok (.ireturn, 1) := by decide +kernel
theorem dR_anyActiveOf_38 : decode cR_anyActiveOf 38 = .ok (.iinc 2 1, 3) := by decide +kernel
theorem dR_anyActiveOf_41 : decode cR_anyActiveOf 41 = .ok (.goto (-39), 3) := by decide +kernel
theorem dR_anyActiveOf_44 : decode cR_anyActiveOf 44 = .ok (.iconst 0, 1) := by decide +kernel
theorem dR_anyActiveOf_45 : decode cR_anyActiveOf 45 = .ok (.ireturn, 1) := by decide +kernel
theorem dR_makeFresh_0 : decode cR_makeFresh 0 = .ok (.iconst 0, 1) := by decide +kernel
theorem dR_makeFresh_1 : decode cR_makeFresh 1 = .ok (.istore_n 2, 1) := by decide +kernel
theorem dR_makeFresh_2 : decode cR_makeFresh 2 = .ok (.iconst 1, 1) := by decide +kernel
theorem dR_makeFresh_3 : decode cR_makeFresh 3 = .ok (.istore_n 3, 1) := by decide +kernel
theorem dR_makeFresh_4 : decode cR_makeFresh 4 = .ok (.iload_n 3, 1) := by decide +kernel
theorem dR_makeFresh_5 : decode cR_makeFresh 5 = .ok (.aload_n 0, 1) := by decide +kernel
theorem dR_makeFresh_6 : decode cR_makeFresh 6 = .ok (.getfield 67, 3) := by decide +kernel
theorem dR_makeFresh_9 : decode cR_makeFresh 9 = .ok (.if_icmp .gt 59, 3) := by decide +kernel
theorem dR_makeFresh_12 : decode cR_makeFresh 12 = .ok (.aload_n 0, 1) := by decide +kernel
theorem dR_makeFresh_13 : decode cR_makeFresh 13 = .ok (.getfield 11, 3) := by decide +kernel
theorem dR_makeFresh_16 : decode cR_makeFresh 16 = .ok (.iload_n 3, 1) := by decide +kernel
theorem dR_makeFresh_17 : decode cR_makeFresh 17 = .ok (.aaload, 1) := by decide +kernel
theorem dR_makeFresh_18 : decode cR_makeFresh 18 = .ok (.astore 4, 2) := by decide +kernel
theorem dR_makeFresh_20 : decode cR_makeFresh 20 = .ok (.aload 4, 2) := by decide +kernel
theorem dR_makeFresh_22 : decode cR_makeFresh 22 = .ok (.ifnull 40, 3) := by decide +kernel
theorem dR_makeFresh_25 : decode cR_makeFresh 25 = .ok (.aload 4, 2) := by decide +kernel
theorem dR_makeFresh_27 : decode cR_makeFresh 27 = .ok (.aload_n 1, 1) := by decide +kernel
theorem dR_makeFresh_28 : decode cR_makeFresh 28 = .ok (.invokevirtual 208, 3) := by decide +kernel
theorem dR_makeFresh_31 : decode cR_makeFresh 31 = .ok (.ifCond .eq 31, 3) := by decide +kernel
theorem dR_makeFresh_34 : decode cR_makeFresh 34 = .ok (.iload_n 2, 1) := by decide +kernel
theorem dR_makeFresh_35 : decode cR_makeFresh 35 = .ok (.aload 4, 2) := by decide +kernel
theorem dR_makeFresh_37 : decode cR_makeFresh 37 = .ok (.getfield 171, 3) := by decide +kernel
theorem dR_makeFresh_40 : decode cR_makeFresh 40 = .ok (.ifCond .eq 7, 3) := by decide +kernel
theorem dR_makeFresh_43 : decode cR_makeFresh 43 = .ok (.iconst 1, 1) := by decide +kernel
theorem dR_makeFresh_44 : decode cR_makeFresh 44 = .ok (.goto 4, 3) := by decide +kernel
theorem dR_makeFresh_47 : decode cR_makeFresh 47 = .ok (.iconst 0, 1) := by decide +kernel
theorem dR_makeFresh_48 : decode cR_makeFresh 48 = .ok (.iadd, 1) := by decide +kernel
theorem dR_makeFresh_49 : decode cR_makeFresh 49 = .ok (.istore_n 2, 1) := by decide +kernel
theorem dR_makeFresh_50 : decode cR_makeFresh 50 = .ok (.aload 4, 2) := by decide +kernel
theorem dR_makeFresh_52 : decode cR_makeFresh 52 = .ok (.iconst 0, 1) := by decide +kernel
theorem dR_makeFresh_53 : decode cR_makeFresh 53 = .ok (.putfield 171, 3) := by decide +kernel
theorem dR_makeFresh_56 : decode cR_makeFresh 56 = .ok (.aload_n 0, 1) := by decide +kernel
theorem dR_makeFresh_57 : decode cR_makeFresh 57 = .ok (.aload 4, 2) := by decide +kernel
theorem dR_makeFresh_59 : decode cR_makeFresh 59 = .ok (.invokevirtual 157, 3) := by decide +kernel
theorem dR_makeFresh_62 : decode cR_makeFresh 62 = .ok (.iinc 3 1, 3) := by decide +kernel
theorem dR_makeFresh_65 : decode cR_makeFresh 65 = .ok (.goto (-61), 3) := by decide +kernel
theorem dR_makeFresh_68 : decode cR_makeFresh 68 = .ok (.iload_n 2, 1) := by decide +kernel
theorem dR_makeFresh_69 : decode cR_makeFresh 69 = .ok (.ireturn, 1) := by decide +kernel
theorem dR_shared_0 : decode cR_shared 0 = .ok (.iload_n 1, 1) := by decide +kernel
theorem dR_shared_1 : decode cR_shared 1 = .ok (.invokestatic 56, 3) := by decide +kernel
theorem dR_shared_4 : decode cR_shared 4 = .ok (.ifCond .ne 6, 3) := by decide +kernel
theorem dR_shared_7 : decode cR_shared 7 = .ok (.bipush (-2), 2) := by decide +kernel
theorem dR_shared_9 : decode cR_shared 9 = .ok (.ireturn, 1) := by decide +kernel
theorem dR_shared_10 : decode cR_shared 10 = .ok (.aload_n 0, 1) := by decide +kernel
theorem dR_shared_11 : decode cR_shared 11 = .ok (.getfield 22, 3) := by decide +kernel
theorem dR_shared_14 : decode cR_shared 14 = .ok (.iload_n 1, 1) := by decide +kernel
theorem dR_shared_15 : decode cR_shared 15 = .ok (.iaload, 1) := by decide +kernel
theorem dR_shared_16 : decode cR_shared 16 = .ok (.iconst (-1), 1) := by decide +kernel
theorem dR_shared_17 : decode cR_shared 17 = .ok (.if_icmp .ne 15, 3) := by decide +kernel
theorem dR_shared_20 : decode cR_shared 20 = .ok (.aload_n 0, 1) := by decide +kernel
theorem dR_shared_21 : decode cR_shared 21 = .ok (.getfield 22, 3) := by decide +kernel
theorem dR_shared_24 : decode cR_shared 24 = .ok (.iload_n 1, 1) := by decide +kernel
theorem dR_shared_25 : decode cR_shared 25 = .ok (.aload_n 0, 1) := by decide +kernel
theorem dR_shared_26 : decode cR_shared 26 = .ok (.aconst_null, 1) := by decide +kernel
theorem dR_shared_27 : decode cR_shared 27 = .ok (.lconst 0, 1) := by decide +kernel
theorem dR_shared_28 : decode cR_shared 28 = .ok (.invokevirtual 73, 3) := by decide +kernel
theorem dR_shared_31 : decode cR_shared 31 = .ok (.iastore, 1) := by decide +kernel
theorem dR_shared_32 : decode cR_shared 32 = .ok (.aload_n 0, 1) := by decide +kernel
theorem dR_shared_33 : decode cR_shared 33 = .ok (.getfield 22, 3) := by decide +kernel
theorem dR_shared_36 : decode cR_shared 36 = .ok (.iload_n 1, 1) := by decide +kernel
theorem dR_shared_37 : decode cR_shared 37 = .ok (.iaload, 1) := by decide +kernel
theorem dR_shared_38 : decode cR_shared 38 = .ok (.ireturn, 1) := by decide +kernel
theorem dR_state_0 : decode cR_state 0 = .ok (.aload_n 0, 1) := by decide +kernel
theorem dR_state_1 : decode cR_state 1 = .ok (.iload_n 1, 1) := by decide +kernel
theorem dR_state_2 : decode cR_state 2 = .ok (.invokevirtual 52, 3) := by decide +kernel
theorem dR_state_5 : decode cR_state 5 = .ok (.astore_n 2, 1) := by decide +kernel
theorem dR_state_6 : decode cR_state 6 = .ok (.aload_n 2, 1) := by decide +kernel
theorem dR_state_7 : decode cR_state 7 = .ok (.ifnonnull 5, 3) := by decide +kernel
theorem dR_state_10 : decode cR_state 10 = .ok (.iconst (-1), 1) := by decide +kernel
theorem dR_state_11 : decode cR_state 11 = .ok (.ireturn, 1) := by decide +kernel
theorem dR_state_12 : decode cR_state 12 = .ok (.aload_n 2, 1) := by decide +kernel
theorem dR_state_13 : decode cR_state 13 = .ok (.getfield 100, 3) := by decide +kernel
theorem dR_state_16 : decode cR_state 16 = .ok (.ifnull 5, 3) := by decide +kernel
theorem dR_state_19 : decode cR_state 19 = .ok (.iconst 2, 1) := by decide +kernel
theorem dR_state_20 : decode cR_state 20 = .ok (.ireturn, 1) := by decide +kernel
theorem dR_state_21 : decode cR_state 21 = .ok (.aload_n 2, 1) := by decide +kernel
theorem dR_state_22 : decode cR_state 22 = .ok (.getfield 171, 3) := by decide +kernel
theorem dR_state_25 : decode cR_state 25 = .ok (.ifCond .eq 7, 3) := by decide +kernel
theorem dR_state_28 : decode cR_state 28 = .ok (.iconst 1, 1) := by decide +kernel
theorem dR_state_29 : decode cR_state 29 = .ok (.goto 4, 3) := by decide +kernel
theorem dR_state_32 : decode cR_state 32 = .ok (.iconst 0, 1) := by decide +kernel
theorem dR_state_33 : decode cR_state 33 = .ok (.ireturn, 1) := by decide +kernel
theorem dR_returned_0 : decode cR_returned 0 = .ok (.aload_n 0, 1) := by decide +kernel
theorem dR_returned_1 : decode cR_returned 1 = .ok (.getfield 175, 3) := by decide +kernel
theorem dR_returned_4 : decode cR_returned 4 = .ok (.lreturn, 1) := by decide +kernel
theorem dR_count_0 : decode cR_count 0 = .ok (.iload_n 1, 1) := by decide +kernel
theorem dR_count_1 : decode cR_count 1 = .ok (.tableswitch 135 0 6 #[43, 48, 53, 58, 69, 91, 110], 43) := by decide +kernel
theorem dR_count_44 : decode cR_count 44 = .ok (.aload_n 0, 1) := by decide +kernel
theorem dR_count_45 : decode cR_count 45 = .ok (.getfield 67, 3) := by decide +kernel
theorem dR_count_48 : decode cR_count 48 = .ok (.ireturn, 1) := by decide +kernel
theorem dR_count_49 : decode cR_count 49 = .ok (.aload_n 0, 1) := by decide +kernel
theorem dR_count_50 : decode cR_count 50 = .ok (.getfield 193, 3) := by decide +kernel
theorem dR_count_53 : decode cR_count 53 = .ok (.ireturn, 1) := by decide +kernel
theorem dR_count_54 : decode cR_count 54 = .ok (.aload_n 0, 1) := by decide +kernel
theorem dR_count_55 : decode cR_count 55 = .ok (.getfield 60, 3) := by decide +kernel
theorem dR_count_58 : decode cR_count 58 = .ok (.ireturn, 1) := by decide +kernel
theorem dR_count_59 : decode cR_count 59 = .ok (.aload_n 0, 1) := by decide +kernel
theorem dR_count_60 : decode cR_count 60 = .ok (.getfield 35, 3) := by decide +kernel
theorem dR_count_63 : decode cR_count 63 = .ok (.getfield 89, 3) := by decide +kernel
theorem dR_count_66 : decode cR_count 66 = .ok (.invokestatic 93, 3) := by decide +kernel
theorem dR_count_69 : decode cR_count 69 = .ok (.ireturn, 1) := by decide +kernel
theorem dR_count_70 : decode cR_count 70 = .ok (.aload_n 0, 1) := by decide +kernel
theorem dR_count_71 : decode cR_count 71 = .ok (.getfield 86, 3) := by decide +kernel
theorem dR_count_74 : decode cR_count 74 = .ok (.ifnonnull 7, 3) := by decide +kernel
theorem dR_count_77 : decode cR_count 77 = .ok (.iconst 0, 1) := by decide +kernel
theorem dR_count_78 : decode cR_count 78 = .ok (.goto 13, 3) := by decide +kernel
theorem dR_count_81 : decode cR_count 81 = .ok (.aload_n 0, 1) := by decide +kernel
theorem dR_count_82 : decode cR_count 82 = .ok (.getfield 86, 3) := by decide +kernel
theorem dR_count_85 : decode cR_count 85 = .ok (.getfield 89, 3) := by decide +kernel
theorem dR_count_88 : decode cR_count 88 = .ok (.invokestatic 93, 3) := by decide +kernel
theorem dR_count_91 : decode cR_count 91 = .ok (.ireturn, 1) := by decide +kernel
theorem dR_count_92 : decode cR_count 92 = .ok (.aload_n 0, 1) := by decide +kernel
theorem dR_count_93 : decode cR_count 93 = .ok (.getfield 86, 3) := by decide +kernel
theorem dR_count_96 : decode cR_count 96 = .ok (.ifnonnull 7, 3) := by decide +kernel
theorem dR_count_99 : decode cR_count 99 = .ok (.iconst 0, 1) := by decide +kernel
theorem dR_count_100 : decode cR_count 100 = .ok (.goto 10, 3) := by decide +kernel
theorem dR_count_103 : decode cR_count 103 = .ok (.aload_n 0, 1) := by decide +kernel
theorem dR_count_104 : decode cR_count 104 = .ok (.getfield 86, 3) := by decide +kernel
theorem dR_count_107 : decode cR_count 107 = .ok (.getfield 121, 3) := by decide +kernel
theorem dR_count_110 : decode cR_count 110 = .ok (.ireturn, 1) := by decide +kernel
theorem dR_count_111 : decode cR_count 111 = .ok (.aload_n 0, 1) := by decide +kernel
theorem dR_count_112 : decode cR_count 112 = .ok (.getfield 35, 3) := by decide +kernel
theorem dR_count_115 : decode cR_count 115 = .ok (.getfield 89, 3) := by decide +kernel
theorem dR_count_118 : decode cR_count 118 = .ok (.ifnonnull 7, 3) := by decide +kernel
theorem dR_count_121 : decode cR_count 121 = .ok (.iconst 0, 1) := by decide +kernel
theorem dR_count_122 : decode cR_count 122 = .ok (.goto 13, 3) := by decide +kernel
theorem dR_count_125 : decode cR_count 125 = .ok (.aload_n 0, 1) := by decide +kernel
theorem dR_count_126 : decode cR_count 126 = .ok (.getfield 35, 3) := by decide +kernel
theorem dR_count_129 : decode cR_count 129 = .ok (.getfield 89, 3) := by decide +kernel
theorem dR_count_132 : decode cR_count 132 = .ok (.getfield 77, 3) := by decide +kernel
theorem dR_count_135 : decode cR_count 135 = .ok (.ireturn, 1) := by decide +kernel
theorem dR_count_136 : decode cR_count 136 = .ok (.iconst (-1), 1) := by decide +kernel
theorem dR_count_137 : decode cR_count 137 = .ok (.ireturn, 1) := by decide +kernel
theorem dR_get_0 : decode cR_get 0 = .ok (.aload_n 0, 1) := by decide +kernel
theorem dR_get_1 : decode cR_get 1 = .ok (.iload_n 1, 1) := by decide +kernel
theorem dR_get_2 : decode cR_get 2 = .ok (.invokevirtual 117, 3) := by decide +kernel
theorem dR_get_5 : decode cR_get 5 = .ok (.astore_n 2, 1) := by decide +kernel
theorem dR_get_6 : decode cR_get 6 = .ok (.aload_n 2, 1) := by decide +kernel
theorem dR_get_7 : decode cR_get 7 = .ok (.ifnonnull 13, 3) := by decide +kernel
theorem dR_get_10 : decode cR_get 10 = .ok (.new 179, 3) := by decide +kernel
theorem dR_get_13 : decode cR_get 13 = .ok (.dup, 1) := by decide +kernel
theorem dR_get_14 : decode cR_get 14 = .ok (.ldc 181, 2) := by decide +kernel
theorem dR_get_16 : decode cR_get 16 = .ok (.invokespecial 183, 3) := by decide +kernel
theorem dR_get_19 : decode cR_get 19 = .ok (.athrow, 1) := by decide +kernel
theorem dR_get_20 : decode cR_get 20 = .ok (.aload_n 0, 1) := by decide +kernel
theorem dR_get_21 : decode cR_get 21 = .ok (.iload_n 1, 1) := by decide +kernel
theorem dR_get_22 : decode cR_get 22 = .ok (.invokevirtual 162, 3) := by decide +kernel
theorem dR_get_25 : decode cR_get 25 = .ok (.istore_n 3, 1) := by decide +kernel
theorem dR_get_26 : decode cR_get 26 = .ok (.aload_n 2, 1) := by decide +kernel
theorem dR_get_27 : decode cR_get 27 = .ok (.getfield 165, 3) := by decide +kernel
theorem dR_get_30 : decode cR_get 30 = .ok (.aload_n 0, 1) := by decide +kernel
theorem dR_get_31 : decode cR_get 31 = .ok (.iload_n 1, 1) := by decide +kernel
theorem dR_get_32 : decode cR_get 32 = .ok (.invokevirtual 124, 3) := by decide +kernel
theorem dR_get_35 : decode cR_get 35 = .ok (.laload, 1) := by decide +kernel
theorem dR_get_36 : decode cR_get 36 = .ok (.iload_n 3, 1) := by decide +kernel
theorem dR_get_37 : decode cR_get 37 = .ok (.lshl, 1) := by decide +kernel
theorem dR_get_38 : decode cR_get 38 = .ok (.iload_n 3, 1) := by decide +kernel
theorem dR_get_39 : decode cR_get 39 = .ok (.lshr, 1) := by decide +kernel
theorem dR_get_40 : decode cR_get 40 = .ok (.lreturn, 1) := by decide +kernel
end
section
theorem dM_init_0 : decode cM_init 0 = .ok (.aload_n 0, 1) := by decide +kernel
theorem dM_init_1 : decode cM_init 1 = .ok (.invokespecial 1, 3) := by decide +kernel
theorem dM_init_4 : decode cM_init 4 = .ok (.aload_n 0, 1) := by decide +kernel
theorem dM_init_5 : decode cM_init 5 = .ok (.bipush 61, 2) := by decide +kernel
theorem dM_init_7 : decode cM_init 7 = .ok (.newarray .int, 2) := by decide +kernel
theorem dM_init_9 : decode cM_init 9 = .ok (.putfield 7, 3) := by decide +kernel
theorem dM_init_12 : decode cM_init 12 = .ok (.aload_n 0, 1) := by decide +kernel
theorem dM_init_13 : decode cM_init 13 = .ok (.bipush 61, 2) := by decide +kernel
theorem dM_init_15 : decode cM_init 15 = .ok (.newarray .int, 2) := by decide +kernel
theorem dM_init_17 : decode cM_init 17 = .ok (.putfield 13, 3) := by decide +kernel
theorem dM_init_20 : decode cM_init 20 = .ok (.aload_n 0, 1) := by decide +kernel
theorem dM_init_21 : decode cM_init 21 = .ok (.bipush 61, 2) := by decide +kernel
theorem dM_init_23 : decode cM_init 23 = .ok (.newarray .int, 2) := by decide +kernel
theorem dM_init_25 : decode cM_init 25 = .ok (.putfield 16, 3) := by decide +kernel
theorem dM_init_28 : decode cM_init 28 = .ok (.aload_n 0, 1) := by decide +kernel
theorem dM_init_29 : decode cM_init 29 = .ok (.bipush 61, 2) := by decide +kernel
theorem dM_init_31 : decode cM_init 31 = .ok (.newarray .int, 2) := by decide +kernel
theorem dM_init_33 : decode cM_init 33 = .ok (.putfield 19, 3) := by decide +kernel
theorem dM_init_36 : decode cM_init 36 = .ok (.aload_n 0, 1) := by decide +kernel
theorem dM_init_37 : decode cM_init 37 = .ok (.bipush 61, 2) := by decide +kernel
theorem dM_init_39 : decode cM_init 39 = .ok (.newarray .int, 2) := by decide +kernel
theorem dM_init_41 : decode cM_init 41 = .ok (.putfield 22, 3) := by decide +kernel
theorem dM_init_44 : decode cM_init 44 = .ok (.aload_n 0, 1) := by decide +kernel
theorem dM_init_45 : decode cM_init 45 = .ok (.bipush 61, 2) := by decide +kernel
theorem dM_init_47 : decode cM_init 47 = .ok (.newarray .boolean, 2) := by decide +kernel
theorem dM_init_49 : decode cM_init 49 = .ok (.putfield 25, 3) := by decide +kernel
theorem dM_init_52 : decode cM_init 52 = .ok (.aload_n 0, 1) := by decide +kernel
theorem dM_init_53 : decode cM_init 53 = .ok (.sipush 200, 3) := by decide +kernel
theorem dM_init_56 : decode cM_init 56 = .ok (.newarray .int, 2) := by decide +kernel
theorem dM_init_58 : decode cM_init 58 = .ok (.putfield 29, 3) := by decide +kernel
theorem dM_init_61 : decode cM_init 61 = .ok (.aload_n 0, 1) := by decide +kernel
theorem dM_init_62 : decode cM_init 62 = .ok (.sipush 200, 3) := by decide +kernel
theorem dM_init_65 : decode cM_init 65 = .ok (.newarray .int, 2) := by decide +kernel
theorem dM_init_67 : decode cM_init 67 = .ok (.putfield 32, 3) := by decide +kernel
theorem dM_init_70 : decode cM_init 70 = .ok (.aload_n 0, 1) := by decide +kernel
theorem dM_init_71 : decode cM_init 71 = .ok (.sipush 200, 3) := by decide +kernel
theorem dM_init_74 : decode cM_init 74 = .ok (.newarray .int, 2) := by decide +kernel
theorem dM_init_76 : decode cM_init 76 = .ok (.putfield 35, 3) := by decide +kernel
theorem dM_init_79 : decode cM_init 79 = .ok (.aload_n 0, 1) := by decide +kernel
theorem dM_init_80 : decode cM_init 80 = .ok (.sipush 200, 3) := by decide +kernel
theorem dM_init_83 : decode cM_init 83 = .ok (.newarray .long, 2) := by decide +kernel
theorem dM_init_85 : decode cM_init 85 = .ok (.putfield 38, 3) := by decide +kernel
theorem dM_init_88 : decode cM_init 88 = .ok (.aload_n 0, 1) := by decide +kernel
theorem dM_init_89 : decode cM_init 89 = .ok (.sipush 976, 3) := by decide +kernel
theorem dM_init_92 : decode cM_init 92 = .ok (.newarray .int, 2) := by decide +kernel
theorem dM_init_94 : decode cM_init 94 = .ok (.putfield 42, 3) := by decide +kernel
theorem dM_init_97 : decode cM_init 97 = .ok (.aload_n 0, 1) := by decide +kernel
theorem dM_init_98 : decode cM_init 98 = .ok (.sipush 976, 3) := by decide +kernel
theorem dM_init_101 : decode cM_init 101 = .ok (.newarray .int, 2) := by decide +kernel
theorem dM_init_103 : decode cM_init 103 = .ok (.putfield 45, 3) := by decide +kernel
theorem dM_init_106 : decode cM_init 106 = .ok (.aload_n 0, 1) := by decide +kernel
theorem dM_init_107 : decode cM_init 107 = .ok (.ldc 48, 2) := by decide +kernel
theorem dM_init_109 : decode cM_init 109 = .ok (.newarray .long, 2) := by decide +kernel
theorem dM_init_111 : decode cM_init 111 = .ok (.putfield 49, 3) := by decide +kernel
theorem dM_init_114 : decode cM_init 114 = .ok (.aload_n 0, 1) := by decide +kernel
theorem dM_init_115 : decode cM_init 115 = .ok (.sipush 200, 3) := by decide +kernel
theorem dM_init_118 : decode cM_init 118 = .ok (.putfield 52, 3) := by decide +kernel
theorem dM_init_121 : decode cM_init 121 = .ok (.aload_n 0, 1) := by decide +kernel
theorem dM_init_122 : decode cM_init 122 = .ok (.sipush 600, 3) := by decide +kernel
theorem dM_init_125 : decode cM_init 125 = .ok (.newarray .int, 2) := by decide +kernel
theorem dM_init_127 : decode cM_init 127 = .ok (.putfield 56, 3) := by decide +kernel
theorem dM_init_130 : decode cM_init 130 = .ok (.aload_n 0, 1) := by decide +kernel
theorem dM_init_131 : decode cM_init 131 = .ok (.sipush 600, 3) := by decide +kernel
theorem dM_init_134 : decode cM_init 134 = .ok (.newarray .int, 2) := by decide +kernel
theorem dM_init_136 : decode cM_init 136 = .ok (.putfield 59, 3) := by decide +kernel
theorem dM_init_139 : decode cM_init 139 = .ok (.aload_n 0, 1) := by decide +kernel
theorem dM_init_140 : decode cM_init 140 = .ok (.sipush 600, 3) := by decide +kernel
theorem dM_init_143 : decode cM_init 143 = .ok (.newarray .int, 2) := by decide +kernel
theorem dM_init_145 : decode cM_init 145 = .ok (.putfield 62, 3) := by decide +kernel
theorem dM_init_148 : decode cM_init 148 = .ok (.aload_n 0, 1) := by decide +kernel
theorem dM_init_149 : decode cM_init 149 = .ok (.sipush 9600, 3) := by decide +kernel
theorem dM_init_152 : decode cM_init 152 = .ok (.newarray .int, 2) := by decide +kernel
theorem dM_init_154 : decode cM_init 154 = .ok (.putfield 65, 3) := by decide +kernel
theorem dM_init_157 : decode cM_init 157 = .ok (.aload_n 0, 1) := by decide +kernel
theorem dM_init_158 : decode cM_init 158 = .ok (.bipush 16, 2) := by decide +kernel
theorem dM_init_160 : decode cM_init 160 = .ok (.newarray .int, 2) := by decide +kernel
theorem dM_init_162 : decode cM_init 162 = .ok (.putfield 68, 3) := by decide +kernel
theorem dM_init_165 : decode cM_init 165 = .ok (.aload_n 0, 1) := by decide +kernel
theorem dM_init_166 : decode cM_init 166 = .ok (.bipush 16, 2) := by decide +kernel
theorem dM_init_168 : decode cM_init 168 = .ok (.newarray .int, 2) := by decide +kernel
theorem dM_init_170 : decode cM_init 170 = .ok (.putfield 71, 3) := by decide +kernel
theorem dM_init_173 : decode cM_init 173 = .ok (.aload_n 0, 1) := by decide +kernel
theorem dM_init_174 : decode cM_init 174 = .ok (.iload_n 1, 1) := by decide +kernel
theorem dM_init_175 : decode cM_init 175 = .ok (.ifCond .ge 7, 3) := by decide +kernel
theorem dM_init_178 : decode cM_init 178 = .ok (.iconst 0, 1) := by decide +kernel
theorem dM_init_179 : decode cM_init 179 = .ok (.goto 15, 3) := by decide +kernel
theorem dM_init_182 : decode cM_init 182 = .ok (.iload_n 1, 1) := by decide +kernel
theorem dM_init_183 : decode cM_init 183 = .ok (.ldc 74, 2) := by decide +kernel
theorem dM_init_185 : decode cM_init 185 = .ok (.if_icmp .le 8, 3) := by decide +kernel
theorem dM_init_188 : decode cM_init 188 = .ok (.ldc 74, 2) := by decide +kernel
theorem dM_init_190 : decode cM_init 190 = .ok (.goto 4, 3) := by decide +kernel
theorem dM_init_193 : decode cM_init 193 = .ok (.iload_n 1, 1) := by decide +kernel
theorem dM_init_194 : decode cM_init 194 = .ok (.putfield 75, 3) := by decide +kernel
theorem dM_init_197 : decode cM_init 197 = .ok (.return_, 1) := by decide +kernel
theorem dM_thrown_0 : decode cM_thrown 0 = .ok (.aload_n 0, 1) := by decide +kernel
theorem dM_thrown_1 : decode cM_thrown 1 = .ok (.getfield 78, 3) := by decide +kernel
theorem dM_thrown_4 : decode cM_thrown 4 = .ok (.ireturn, 1) := by decide +kernel
theorem dM_program_0 : decode cM_program 0 = .ok (.aload_n 0, 1) := by decide +kernel
theorem dM_program_1 : decode cM_program 1 = .ok (.iconst 0, 1) := by decide +kernel
theorem dM_program_2 : decode cM_program 2 = .ok (.putfield 78, 3) := by decide +kernel
theorem dM_program_5 : decode cM_program 5 = .ok (.iload_n 1, 1) := by decide +kernel
theorem dM_program_6 : decode cM_program 6 = .ok (.ifCond .lt 28, 3) := by decide +kernel
theorem dM_program_9 : decode cM_program 9 = .ok (.iload_n 1, 1) := by decide +kernel
theorem dM_program_10 : decode cM_program 10 = .ok (.aload_n 0, 1) := by decide +kernel
theorem dM_program_11 : decode cM_program 11 = .ok (.getfield 81, 3) := by decide +kernel
theorem dM_program_14 : decode cM_program 14 = .ok (.if_icmp .gt 20, 3) := by decide +kernel
theorem dM_program_17 : decode cM_program 17 = .ok (.iload_n 2, 1) := by decide +kernel
theorem dM_program_18 : decode cM_program 18 = .ok (.invokestatic 87, 3) := by decide +kernel
theorem dM_program_21 : decode cM_program 21 = .ok (.ifCond .eq 13, 3) := by decide +kernel
theorem dM_program_24 : decode cM_program 24 = .ok (.iload_n 3, 1) := by decide +kernel
theorem dM_program_25 : decode cM_program 25 = .ok (.ifCond .lt 9, 3) := by decide +kernel
theorem dM_program_28 : decode cM_program 28 = .ok (.iload_n 3, 1) := by decide +kernel
theorem dM_program_29 : decode cM_program 29 = .ok (.bipush 15, 2) := by decide +kernel
theorem dM_program_31 : decode cM_program 31 = .ok (.if_icmp .le 6, 3) := by decide +kernel
theorem dM_program_34 : decode cM_program 34 = .ok (.bipush (-2), 2) := by decide +kernel
theorem dM_program_36 : decode cM_program 36 = .ok (.ireturn, 1) := by decide +kernel
theorem dM_program_37 : decode cM_program 37 = .ok (.aload_n 0, 1) := by decide +kernel
theorem dM_program_38 : decode cM_program 38 = .ok (.getfield 84, 3) := by decide +kernel
theorem dM_program_41 : decode cM_program 41 = .ok (.ifCond .le 6, 3) := by decide +kernel
theorem dM_program_44 : decode cM_program 44 = .ok (.bipush (-4), 2) := by decide +kernel
theorem dM_program_46 : decode cM_program 46 = .ok (.ireturn, 1) := by decide +kernel
theorem dM_program_47 : decode cM_program 47 = .ok (.aload_n 0, 1) := by decide +kernel
theorem dM_program_48 : decode cM_program 48 = .ok (.iload_n 1, 1) := by decide +kernel
theorem dM_program_49 : decode cM_program 49 = .ok (.iload_n 2, 1) := by decide +kernel
theorem dM_program_50 : decode cM_program 50 = .ok (.invokevirtual 91, 3) := by decide +kernel
theorem dM_program_53 : decode cM_program 53 = .ok (.ifCond .eq 6, 3) := by decide +kernel
theorem dM_program_56 : decode cM_program 56 = .ok (.bipush (-3), 2) := by decide +kernel
theorem dM_program_58 : decode cM_program 58 = .ok (.ireturn, 1) := by decide +kernel
theorem dM_program_59 : decode cM_program 59 = .ok (.aload_n 0, 1) := by decide +kernel
theorem dM_program_60 : decode cM_program 60 = .ok (.getfield 81, 3) := by decide +kernel
theorem dM_program_63 : decode cM_program 63 = .ok (.bipush 60, 2) := by decide +kernel
theorem dM_program_65 : decode cM_program 65 = .ok (.if_icmp .ne 5, 3) := by decide +kernel
theorem dM_program_68 : decode cM_program 68 = .ok (.iconst (-1), 1) := by decide +kernel
theorem dM_program_69 : decode cM_program 69 = .ok (.ireturn, 1) := by decide +kernel
theorem dM_program_70 : decode cM_program 70 = .ok (.aload_n 0, 1) := by decide +kernel
theorem dM_program_71 : decode cM_program 71 = .ok (.dup, 1) := by decide +kernel
theorem dM_program_72 : decode cM_program 72 = .ok (.getfield 81, 3) := by decide +kernel
theorem dM_program_75 : decode cM_program 75 = .ok (.iconst 1, 1) := by decide +kernel
theorem dM_program_76 : decode cM_program 76 = .ok (.iadd, 1) := by decide +kernel
theorem dM_program_77 : decode cM_program 77 = .ok (.putfield 81, 3) := by decide +kernel
theorem dM_program_80 : decode cM_program 80 = .ok (.aload_n 0, 1) := by decide +kernel
theorem dM_program_81 : decode cM_program 81 = .ok (.getfield 7, 3) := by decide +kernel
theorem dM_program_84 : decode cM_program 84 = .ok (.aload_n 0, 1) := by decide +kernel
theorem dM_program_85 : decode cM_program 85 = .ok (.getfield 81, 3) := by decide +kernel
theorem dM_program_88 : decode cM_program 88 = .ok (.iload_n 1, 1) := by decide +kernel
theorem dM_program_89 : decode cM_program 89 = .ok (.iastore, 1) := by decide +kernel
theorem dM_program_90 : decode cM_program 90 = .ok (.aload_n 0, 1) := by decide +kernel
theorem dM_program_91 : decode cM_program 91 = .ok (.getfield 13, 3) := by decide +kernel
theorem dM_program_94 : decode cM_program 94 = .ok (.aload_n 0, 1) := by decide +kernel
theorem dM_program_95 : decode cM_program 95 = .ok (.getfield 81, 3) := by decide +kernel
theorem dM_program_98 : decode cM_program 98 = .ok (.iload_n 2, 1) := by decide +kernel
theorem dM_program_99 : decode cM_program 99 = .ok (.iastore, 1) := by decide +kernel
theorem dM_program_100 : decode cM_program 100 = .ok (.aload_n 0, 1) := by decide +kernel
theorem dM_program_101 : decode cM_program 101 = .ok (.getfield 16, 3) := by decide +kernel
theorem dM_program_104 : decode cM_program 104 = .ok (.aload_n 0, 1) := by decide +kernel
theorem dM_program_105 : decode cM_program 105 = .ok (.getfield 81, 3) := by decide +kernel
theorem dM_program_108 : decode cM_program 108 = .ok (.iload_n 3, 1) := by decide +kernel
theorem dM_program_109 : decode cM_program 109 = .ok (.iastore, 1) := by decide +kernel
theorem dM_program_110 : decode cM_program 110 = .ok (.aload_n 0, 1) := by decide +kernel
theorem dM_program_111 : decode cM_program 111 = .ok (.getfield 81, 3) := by decide +kernel
theorem dM_program_114 : decode cM_program 114 = .ok (.ireturn, 1) := by decide +kernel
theorem dM_isName_0 : decode cM_isName 0 = .ok (.iload_n 0, 1) := by decide +kernel
theorem dM_isName_1 : decode cM_isName 1 = .ok (.ifCond .lt 13, 3) := by decide +kernel
theorem dM_isName_4 : decode cM_isName 4 = .ok (.iload_n 0, 1) := by decide +kernel
theorem dM_isName_5 : decode cM_isName 5 = .ok (.bipush 100, 2) := by decide +kernel
theorem dM_isName_7 : decode cM_isName 7 = .ok (.if_icmp .ge 7, 3) := by decide +kernel
theorem dM_isName_10 : decode cM_isName 10 = .ok (.iconst 1, 1) := by decide +kernel
theorem dM_isName_11 : decode cM_isName 11 = .ok (.goto 4, 3) := by decide +kernel
theorem dM_isName_14 : decode cM_isName 14 = .ok (.iconst 0, 1) := by decide +kernel
theorem dM_isName_15 : decode cM_isName 15 = .ok (.ireturn, 1) := by decide +kernel
theorem dM_directly_0 : decode cM_directly 0 = .ok (.iconst 0, 1) := by decide +kernel
theorem dM_directly_1 : decode cM_directly 1 = .ok (.istore_n 3, 1) := by decide +kernel
theorem dM_directly_2 : decode cM_directly 2 = .ok (.iconst 1, 1) := by decide +kernel
theorem dM_directly_3 : decode cM_directly 3 = .ok (.istore 4, 2) := by decide +kernel
theorem dM_directly_5 : decode cM_directly 5 = .ok (.iload 4, 2) := by decide +kernel
theorem dM_directly_7 : decode cM_directly 7 = .ok (.aload_n 0, 1) := by decide +kernel
theorem dM_directly_8 : decode cM_directly 8 = .ok (.getfield 81, 3) := by decide +kernel
theorem dM_directly_11 : decode cM_directly 11 = .ok (.if_icmp .gt 38, 3) := by decide +kernel
theorem dM_directly_14 : decode cM_directly 14 = .ok (.aload_n 0, 1) := by decide +kernel
theorem dM_directly_15 : decode cM_directly 15 = .ok (.getfield 7, 3) := by decide +kernel
theorem dM_directly_18 : decode cM_directly 18 = .ok (.iload 4, 2) := by decide +kernel
theorem dM_directly_20 : decode cM_directly 20 = .ok (.iaload, 1) := by decide +kernel
theorem dM_directly_21 : decode cM_directly 21 = .ok (.iload_n 1, 1) := by decide +kernel
theorem dM_directly_22 : decode cM_directly 22 = .ok (.if_icmp .ne 19, 3) := by decide +kernel
theorem dM_directly_25 : decode cM_directly 25 = .ok (.aload_n 0, 1) := by decide +kernel
theorem dM_directly_26 : decode cM_directly 26 = .ok (.getfield 13, 3) := by decide +kernel
theorem dM_directly_29 : decode cM_directly 29 = .ok (.iload 4, 2) := by decide +kernel
theorem dM_directly_31 : decode cM_directly 31 = .ok (.iaload, 1) := by decide +kernel
theorem dM_directly_32 : decode cM_directly 32 = .ok (.iload_n 2, 1) := by decide +kernel
theorem dM_directly_33 : decode cM_directly 33 = .ok (.if_icmp .ne 8, 3) := by decide +kernel
theorem dM_directly_36 : decode cM_directly 36 = .ok (.iload 4, 2) := by decide +kernel
theorem dM_directly_38 : decode cM_directly 38 = .ok (.goto 4, 3) := by decide +kernel
theorem dM_directly_41 : decode cM_directly 41 = .ok (.iload_n 3, 1) := by decide +kernel
theorem dM_directly_42 : decode cM_directly 42 = .ok (.istore_n 3, 1) := by decide +kernel
theorem dM_directly_43 : decode cM_directly 43 = .ok (.iinc 4 1, 3) := by decide +kernel
theorem dM_directly_46 : decode cM_directly 46 = .ok (.goto (-41), 3) := by decide +kernel
theorem dM_directly_49 : decode cM_directly 49 = .ok (.iload_n 3, 1) := by decide +kernel
theorem dM_directly_50 : decode cM_directly 50 = .ok (.ireturn, 1) := by decide +kernel
theorem dM_cell_0 : decode cM_cell 0 = .ok (.aload_n 0, 1) := by decide +kernel
theorem dM_cell_1 : decode cM_cell 1 = .ok (.iconst 0, 1) := by decide +kernel
theorem dM_cell_2 : decode cM_cell 2 = .ok (.putfield 78, 3) := by decide +kernel
theorem dM_cell_5 : decode cM_cell 5 = .ok (.aload_n 0, 1) := by decide +kernel
theorem dM_cell_6 : decode cM_cell 6 = .ok (.iload_n 1, 1) := by decide +kernel
theorem dM_cell_7 : decode cM_cell 7 = .ok (.invokevirtual 95, 3) := by decide +kernel
theorem dM_cell_10 : decode cM_cell 10 = .ok (.ifCond .ne 6, 3) := by decide +kernel
theorem dM_cell_13 : decode cM_cell 13 = .ok (.bipush (-2), 2) := by decide +kernel
theorem dM_cell_15 : decode cM_cell 15 = .ok (.ireturn, 1) := by decide +kernel
theorem dM_cell_16 : decode cM_cell 16 = .ok (.aload_n 0, 1) := by decide +kernel
theorem dM_cell_17 : decode cM_cell 17 = .ok (.getfield 84, 3) := by decide +kernel
theorem dM_cell_20 : decode cM_cell 20 = .ok (.ifCond .le 6, 3) := by decide +kernel
theorem dM_cell_23 : decode cM_cell 23 = .ok (.bipush (-4), 2) := by decide +kernel
theorem dM_cell_25 : decode cM_cell 25 = .ok (.ireturn, 1) := by decide +kernel
theorem dM_cell_26 : decode cM_cell 26 = .ok (.aload_n 0, 1) := by decide +kernel
theorem dM_cell_27 : decode cM_cell 27 = .ok (.getfield 98, 3) := by decide +kernel
theorem dM_cell_30 : decode cM_cell 30 = .ok (.sipush 200, 3) := by decide +kernel
theorem dM_cell_33 : decode cM_cell 33 = .ok (.if_icmp .ne 5, 3) := by decide +kernel
theorem dM_cell_36 : decode cM_cell 36 = .ok (.iconst (-1), 1) := by decide +kernel
theorem dM_cell_37 : decode cM_cell 37 = .ok (.ireturn, 1) := by decide +kernel
theorem dM_cell_38 : decode cM_cell 38 = .ok (.iconst 0, 1) := by decide +kernel
theorem dM_cell_39 : decode cM_cell 39 = .ok (.istore 4, 2) := by decide +kernel
theorem dM_cell_41 : decode cM_cell 41 = .ok (.iconst 0, 1) := by decide +kernel
theorem dM_cell_42 : decode cM_cell 42 = .ok (.istore 5, 2) := by decide +kernel
theorem dM_cell_44 : decode cM_cell 44 = .ok (.iload 5, 2) := by decide +kernel
theorem dM_cell_46 : decode cM_cell 46 = .ok (.aload_n 0, 1) := by decide +kernel
theorem dM_cell_47 : decode cM_cell 47 = .ok (.getfield 98, 3) := by decide +kernel
theorem dM_cell_50 : decode cM_cell 50 = .ok (.if_icmp .ge 30, 3) := by decide +kernel
theorem dM_cell_53 : decode cM_cell 53 = .ok (.iload 4, 2) := by decide +kernel
theorem dM_cell_55 : decode cM_cell 55 = .ok (.aload_n 0, 1) := by decide +kernel
theorem dM_cell_56 : decode cM_cell 56 = .ok (.getfield 29, 3) := by decide +kernel
theorem dM_cell_59 : decode cM_cell 59 = .ok (.iload 5, 2) := by decide +kernel
theorem dM_cell_61 : decode cM_cell 61 = .ok (.iaload, 1) := by decide +kernel
theorem dM_cell_62 : decode cM_cell 62 = .ok (.iload_n 1, 1) := by decide +kernel
theorem dM_cell_63 : decode cM_cell 63 = .ok (.if_icmp .ne 7, 3) := by decide +kernel
theorem dM_cell_66 : decode cM_cell 66 = .ok (.iconst 1, 1) := by decide +kernel
theorem dM_cell_67 : decode cM_cell 67 = .ok (.goto 4, 3) := by decide +kernel
theorem dM_cell_70 : decode cM_cell 70 = .ok (.iconst 0, 1) := by decide +kernel
theorem dM_cell_71 : decode cM_cell 71 = .ok (.iadd, 1) := by decide +kernel
theorem dM_cell_72 : decode cM_cell 72 = .ok (.istore 4, 2) := by decide +kernel
theorem dM_cell_74 : decode cM_cell 74 = .ok (.iinc 5 1, 3) := by decide +kernel
theorem dM_cell_77 : decode cM_cell 77 = .ok (.goto (-33), 3) := by decide +kernel
theorem dM_cell_80 : decode cM_cell 80 = .ok (.aload_n 0, 1) := by decide +kernel
theorem dM_cell_81 : decode cM_cell 81 = .ok (.getfield 29, 3) := by decide +kernel
theorem dM_cell_84 : decode cM_cell 84 = .ok (.aload_n 0, 1) := by decide +kernel
theorem dM_cell_85 : decode cM_cell 85 = .ok (.getfield 98, 3) := by decide +kernel
theorem dM_cell_88 : decode cM_cell 88 = .ok (.iload_n 1, 1) := by decide +kernel
theorem dM_cell_89 : decode cM_cell 89 = .ok (.iastore, 1) := by decide +kernel
theorem dM_cell_90 : decode cM_cell 90 = .ok (.aload_n 0, 1) := by decide +kernel
theorem dM_cell_91 : decode cM_cell 91 = .ok (.getfield 32, 3) := by decide +kernel
theorem dM_cell_94 : decode cM_cell 94 = .ok (.aload_n 0, 1) := by decide +kernel
theorem dM_cell_95 : decode cM_cell 95 = .ok (.getfield 98, 3) := by decide +kernel
theorem dM_cell_98 : decode cM_cell 98 = .ok (.iload 4, 2) := by decide +kernel
theorem dM_cell_100 : decode cM_cell 100 = .ok (.iastore, 1) := by decide +kernel
theorem dM_cell_101 : decode cM_cell 101 = .ok (.aload_n 0, 1) := by decide +kernel
theorem dM_cell_102 : decode cM_cell 102 = .ok (.getfield 38, 3) := by decide +kernel
theorem dM_cell_105 : decode cM_cell 105 = .ok (.aload_n 0, 1) := by decide +kernel
theorem dM_cell_106 : decode cM_cell 106 = .ok (.getfield 98, 3) := by decide +kernel
theorem dM_cell_109 : decode cM_cell 109 = .ok (.lload_n 2, 1) := by decide +kernel
theorem dM_cell_110 : decode cM_cell 110 = .ok (.lastore, 1) := by decide +kernel
theorem dM_cell_111 : decode cM_cell 111 = .ok (.aload_n 0, 1) := by decide +kernel
theorem dM_cell_112 : decode cM_cell 112 = .ok (.getfield 49, 3) := by decide +kernel
theorem dM_cell_115 : decode cM_cell 115 = .ok (.aload_n 0, 1) := by decide +kernel
theorem dM_cell_116 : decode cM_cell 116 = .ok (.getfield 98, 3) := by decide +kernel
theorem dM_cell_119 : decode cM_cell 119 = .ok (.lload_n 2, 1) := by decide +kernel
theorem dM_cell_120 : decode cM_cell 120 = .ok (.lastore, 1) := by decide +kernel
theorem dM_cell_121 : decode cM_cell 121 = .ok (.aload_n 0, 1) := by decide +kernel
theorem dM_cell_122 : decode cM_cell 122 = .ok (.dup, 1) := by decide +kernel
theorem dM_cell_123 : decode cM_cell 123 = .ok (.getfield 98, 3) := by decide +kernel
theorem dM_cell_126 : decode cM_cell 126 = .ok (.iconst 1, 1) := by decide +kernel
theorem dM_cell_127 : decode cM_cell 127 = .ok (.iadd, 1) := by decide +kernel
theorem dM_cell_128 : decode cM_cell 128 = .ok (.putfield 98, 3) := by decide +kernel
theorem dM_cell_131 : decode cM_cell 131 = .ok (.aload_n 0, 1) := by decide +kernel
theorem dM_cell_132 : decode cM_cell 132 = .ok (.getfield 98, 3) := by decide +kernel
theorem dM_cell_135 : decode cM_cell 135 = .ok (.iconst 1, 1) := by decide +kernel
theorem dM_cell_136 : decode cM_cell 136 = .ok (.isub, 1) := by decide +kernel
theorem dM_cell_137 : decode cM_cell 137 = .ok (.ireturn, 1) := by decide +kernel
theorem dM_isProgram_0 : decode cM_isProgram 0 = .ok (.iload_n 1, 1) := by decide +kernel
theorem dM_isProgram_1 : decode cM_isProgram 1 = .ok (.ifCond .le 15, 3) := by decide +kernel
theorem dM_isProgram_4 : decode cM_isProgram 4 = .ok (.iload_n 1, 1) := by decide +kernel
theorem dM_isProgram_5 : decode cM_isProgram 5 = .ok (.aload_n 0, 1) := by decide +kernel
theorem dM_isProgram_6 : decode cM_isProgram 6 = .ok (.getfield 81, 3) := by decide +kernel
theorem dM_isProgram_9 : decode cM_isProgram 9 = .ok (.if_icmp .gt 7, 3) := by decide +kernel
theorem dM_isProgram_12 : decode cM_isProgram 12 = .ok (.iconst 1, 1) := by decide +kernel
theorem dM_isProgram_13 : decode cM_isProgram 13 = .ok (.goto 4, 3) := by decide +kernel
theorem dM_isProgram_16 : decode cM_isProgram 16 = .ok (.iconst 0, 1) := by decide +kernel
theorem dM_isProgram_17 : decode cM_isProgram 17 = .ok (.ireturn, 1) := by decide +kernel
theorem dM_formal_0 : decode cM_formal 0 = .ok (.aload_n 0, 1) := by decide +kernel
theorem dM_formal_1 : decode cM_formal 1 = .ok (.iconst 0, 1) := by decide +kernel
theorem dM_formal_2 : decode cM_formal 2 = .ok (.putfield 78, 3) := by decide +kernel
theorem dM_formal_5 : decode cM_formal 5 = .ok (.aload_n 0, 1) := by decide +kernel
theorem dM_formal_6 : decode cM_formal 6 = .ok (.iload_n 1, 1) := by decide +kernel
theorem dM_formal_7 : decode cM_formal 7 = .ok (.invokevirtual 95, 3) := by decide +kernel
theorem dM_formal_10 : decode cM_formal 10 = .ok (.ifCond .eq 23, 3) := by decide +kernel
theorem dM_formal_13 : decode cM_formal 13 = .ok (.iload_n 2, 1) := by decide +kernel
theorem dM_formal_14 : decode cM_formal 14 = .ok (.ifCond .lt 19, 3) := by decide +kernel
theorem dM_formal_17 : decode cM_formal 17 = .ok (.iload_n 2, 1) := by decide +kernel
theorem dM_formal_18 : decode cM_formal 18 = .ok (.iconst 3, 1) := by decide +kernel
theorem dM_formal_19 : decode cM_formal 19 = .ok (.if_icmp .gt 14, 3) := by decide +kernel
theorem dM_formal_22 : decode cM_formal 22 = .ok (.iload_n 3, 1) := by decide +kernel
theorem dM_formal_23 : decode cM_formal 23 = .ok (.iconst 1, 1) := by decide +kernel
theorem dM_formal_24 : decode cM_formal 24 = .ok (.if_icmp .lt 9, 3) := by decide +kernel
theorem dM_formal_27 : decode cM_formal 27 = .ok (.iload_n 3, 1) := by decide +kernel
theorem dM_formal_28 : decode cM_formal 28 = .ok (.bipush 8, 2) := by decide +kernel
theorem dM_formal_30 : decode cM_formal 30 = .ok (.if_icmp .le 6, 3) := by decide +kernel
theorem dM_formal_33 : decode cM_formal 33 = .ok (.bipush (-2), 2) := by decide +kernel
theorem dM_formal_35 : decode cM_formal 35 = .ok (.ireturn, 1) := by decide +kernel
theorem dM_formal_36 : decode cM_formal 36 = .ok (.aload_n 0, 1) := by decide +kernel
theorem dM_formal_37 : decode cM_formal 37 = .ok (.getfield 84, 3) := by decide +kernel
theorem dM_formal_40 : decode cM_formal 40 = .ok (.ifCond .le 6, 3) := by decide +kernel
theorem dM_formal_43 : decode cM_formal 43 = .ok (.bipush (-4), 2) := by decide +kernel
theorem dM_formal_45 : decode cM_formal 45 = .ok (.ireturn, 1) := by decide +kernel
theorem dM_formal_46 : decode cM_formal 46 = .ok (.aload_n 0, 1) := by decide +kernel
theorem dM_formal_47 : decode cM_formal 47 = .ok (.getfield 19, 3) := by decide +kernel
theorem dM_formal_50 : decode cM_formal 50 = .ok (.iload_n 1, 1) := by decide +kernel
theorem dM_formal_51 : decode cM_formal 51 = .ok (.iaload, 1) := by decide +kernel
theorem dM_formal_52 : decode cM_formal 52 = .ok (.bipush 16, 2) := by decide +kernel
theorem dM_formal_54 : decode cM_formal 54 = .ok (.if_icmp .ne 5, 3) := by decide +kernel
theorem dM_formal_57 : decode cM_formal 57 = .ok (.iconst (-1), 1) := by decide +kernel
theorem dM_formal_58 : decode cM_formal 58 = .ok (.ireturn, 1) := by decide +kernel
theorem dM_formal_59 : decode cM_formal 59 = .ok (.bipush 16, 2) := by decide +kernel
theorem dM_formal_61 : decode cM_formal 61 = .ok (.iload_n 1, 1) := by decide +kernel
theorem dM_formal_62 : decode cM_formal 62 = .ok (.iconst 1, 1) := by decide +kernel
theorem dM_formal_63 : decode cM_formal 63 = .ok (.isub, 1) := by decide +kernel
theorem dM_formal_64 : decode cM_formal 64 = .ok (.imul, 1) := by decide +kernel
theorem dM_formal_65 : decode cM_formal 65 = .ok (.aload_n 0, 1) := by decide +kernel
theorem dM_formal_66 : decode cM_formal 66 = .ok (.getfield 19, 3) := by decide +kernel
theorem dM_formal_69 : decode cM_formal 69 = .ok (.iload_n 1, 1) := by decide +kernel
theorem dM_formal_70 : decode cM_formal 70 = .ok (.iaload, 1) := by decide +kernel
theorem dM_formal_71 : decode cM_formal 71 = .ok (.iadd, 1) := by decide +kernel
theorem dM_formal_72 : decode cM_formal 72 = .ok (.istore 4, 2) := by decide +kernel
theorem dM_formal_74 : decode cM_formal 74 = .ok (.aload_n 0, 1) := by decide +kernel
theorem dM_formal_75 : decode cM_formal 75 = .ok (.getfield 42, 3) := by decide +kernel
theorem dM_formal_78 : decode cM_formal 78 = .ok (.iload 4, 2) := by decide +kernel
theorem dM_formal_80 : decode cM_formal 80 = .ok (.iload_n 2, 1) := by decide +kernel
theorem dM_formal_81 : decode cM_formal 81 = .ok (.iastore, 1) := by decide +kernel
theorem dM_formal_82 : decode cM_formal 82 = .ok (.aload_n 0, 1) := by decide +kernel
theorem dM_formal_83 : decode cM_formal 83 = .ok (.getfield 45, 3) := by decide +kernel
theorem dM_formal_86 : decode cM_formal 86 = .ok (.iload 4, 2) := by decide +kernel
theorem dM_formal_88 : decode cM_formal 88 = .ok (.iload_n 3, 1) := by decide +kernel
theorem dM_formal_89 : decode cM_formal 89 = .ok (.iastore, 1) := by decide +kernel
theorem dM_formal_90 : decode cM_formal 90 = .ok (.aload_n 0, 1) := by decide +kernel
theorem dM_formal_91 : decode cM_formal 91 = .ok (.getfield 19, 3) := by decide +kernel
theorem dM_formal_94 : decode cM_formal 94 = .ok (.iload_n 1, 1) := by decide +kernel
theorem dM_formal_95 : decode cM_formal 95 = .ok (.dup2, 1) := by decide +kernel
theorem dM_formal_96 : decode cM_formal 96 = .ok (.iaload, 1) := by decide +kernel
theorem dM_formal_97 : decode cM_formal 97 = .ok (.iconst 1, 1) := by decide +kernel
theorem dM_formal_98 : decode cM_formal 98 = .ok (.iadd, 1) := by decide +kernel
theorem dM_formal_99 : decode cM_formal 99 = .ok (.iastore, 1) := by decide +kernel
theorem dM_formal_100 : decode cM_formal 100 = .ok (.aload_n 0, 1) := by decide +kernel
theorem dM_formal_101 : decode cM_formal 101 = .ok (.getfield 19, 3) := by decide +kernel
theorem dM_formal_104 : decode cM_formal 104 = .ok (.iload_n 1, 1) := by decide +kernel
theorem dM_formal_105 : decode cM_formal 105 = .ok (.iaload, 1) := by decide +kernel
theorem dM_formal_106 : decode cM_formal 106 = .ok (.iconst 1, 1) := by decide +kernel
theorem dM_formal_107 : decode cM_formal 107 = .ok (.isub, 1) := by decide +kernel
theorem dM_formal_108 : decode cM_formal 108 = .ok (.ireturn, 1) := by decide +kernel
theorem dM_shared_0 : decode cM_shared 0 = .ok (.aload_n 0, 1) := by decide +kernel
theorem dM_shared_1 : decode cM_shared 1 = .ok (.iconst 0, 1) := by decide +kernel
theorem dM_shared_2 : decode cM_shared 2 = .ok (.putfield 78, 3) := by decide +kernel
theorem dM_shared_5 : decode cM_shared 5 = .ok (.iload_n 1, 1) := by decide +kernel
theorem dM_shared_6 : decode cM_shared 6 = .ok (.invokestatic 87, 3) := by decide +kernel
theorem dM_shared_9 : decode cM_shared 9 = .ok (.ifCond .ne 6, 3) := by decide +kernel
theorem dM_shared_12 : decode cM_shared 12 = .ok (.bipush (-2), 2) := by decide +kernel
theorem dM_shared_14 : decode cM_shared 14 = .ok (.ireturn, 1) := by decide +kernel
theorem dM_shared_15 : decode cM_shared 15 = .ok (.iconst 0, 1) := by decide +kernel
theorem dM_shared_16 : decode cM_shared 16 = .ok (.istore_n 2, 1) := by decide +kernel
theorem dM_shared_17 : decode cM_shared 17 = .ok (.iload_n 2, 1) := by decide +kernel
theorem dM_shared_18 : decode cM_shared 18 = .ok (.aload_n 0, 1) := by decide +kernel
theorem dM_shared_19 : decode cM_shared 19 = .ok (.getfield 98, 3) := by decide +kernel
theorem dM_shared_22 : decode cM_shared 22 = .ok (.if_icmp .ge 30, 3) := by decide +kernel
theorem dM_shared_25 : decode cM_shared 25 = .ok (.aload_n 0, 1) := by decide +kernel
theorem dM_shared_26 : decode cM_shared 26 = .ok (.getfield 29, 3) := by decide +kernel
theorem dM_shared_29 : decode cM_shared 29 = .ok (.iload_n 2, 1) := by decide +kernel
theorem dM_shared_30 : decode cM_shared 30 = .ok (.iaload, 1) := by decide +kernel
theorem dM_shared_31 : decode cM_shared 31 = .ok (.ifCond .ne 15, 3) := by decide +kernel
theorem dM_shared_34 : decode cM_shared 34 = .ok (.aload_n 0, 1) := by decide +kernel
theorem dM_shared_35 : decode cM_shared 35 = .ok (.getfield 35, 3) := by decide +kernel
theorem dM_shared_38 : decode cM_shared 38 = .ok (.iload_n 2, 1) := by decide +kernel
theorem dM_shared_39 : decode cM_shared 39 = .ok (.iaload, 1) := by decide +kernel
theorem dM_shared_40 : decode cM_shared 40 = .ok (.iload_n 1, 1) := by decide +kernel
theorem dM_shared_41 : decode cM_shared 41 = .ok (.if_icmp .ne 5, 3) := by decide +kernel
theorem dM_shared_44 : decode cM_shared 44 = .ok (.iload_n 2, 1) := by decide +kernel
theorem dM_shared_45 : decode cM_shared 45 = .ok (.ireturn, 1) := by decide +kernel
theorem dM_shared_46 : decode cM_shared 46 = .ok (.iinc 2 1, 3) := by decide +kernel
theorem dM_shared_49 : decode cM_shared 49 = .ok (.goto (-32), 3) := by decide +kernel
theorem dM_shared_52 : decode cM_shared 52 = .ok (.aload_n 0, 1) := by decide +kernel
theorem dM_shared_53 : decode cM_shared 53 = .ok (.getfield 98, 3) := by decide +kernel
theorem dM_shared_56 : decode cM_shared 56 = .ok (.sipush 200, 3) := by decide +kernel
theorem dM_shared_59 : decode cM_shared 59 = .ok (.if_icmp .ne 5, 3) := by decide +kernel
theorem dM_shared_62 : decode cM_shared 62 = .ok (.iconst (-1), 1) := by decide +kernel
theorem dM_shared_63 : decode cM_shared 63 = .ok (.ireturn, 1) := by decide +kernel
theorem dM_shared_64 : decode cM_shared 64 = .ok (.aload_n 0, 1) := by decide +kernel
theorem dM_shared_65 : decode cM_shared 65 = .ok (.getfield 29, 3) := by decide +kernel
theorem dM_shared_68 : decode cM_shared 68 = .ok (.aload_n 0, 1) := by decide +kernel
theorem dM_shared_69 : decode cM_shared 69 = .ok (.getfield 98, 3) := by decide +kernel
theorem dM_shared_72 : decode cM_shared 72 = .ok (.iconst 0, 1) := by decide +kernel
theorem dM_shared_73 : decode cM_shared 73 = .ok (.iastore, 1) := by decide +kernel
theorem dM_shared_74 : decode cM_shared 74 = .ok (.aload_n 0, 1) := by decide +kernel
theorem dM_shared_75 : decode cM_shared 75 = .ok (.getfield 35, 3) := by decide +kernel
theorem dM_shared_78 : decode cM_shared 78 = .ok (.aload_n 0, 1) := by decide +kernel
theorem dM_shared_79 : decode cM_shared 79 = .ok (.getfield 98, 3) := by decide +kernel
theorem dM_shared_82 : decode cM_shared 82 = .ok (.iload_n 1, 1) := by decide +kernel
theorem dM_shared_83 : decode cM_shared 83 = .ok (.iastore, 1) := by decide +kernel
theorem dM_shared_84 : decode cM_shared 84 = .ok (.aload_n 0, 1) := by decide +kernel
theorem dM_shared_85 : decode cM_shared 85 = .ok (.getfield 49, 3) := by decide +kernel
theorem dM_shared_88 : decode cM_shared 88 = .ok (.aload_n 0, 1) := by decide +kernel
theorem dM_shared_89 : decode cM_shared 89 = .ok (.getfield 98, 3) := by decide +kernel
theorem dM_shared_92 : decode cM_shared 92 = .ok (.lconst 0, 1) := by decide +kernel
theorem dM_shared_93 : decode cM_shared 93 = .ok (.lastore, 1) := by decide +kernel
theorem dM_shared_94 : decode cM_shared 94 = .ok (.aload_n 0, 1) := by decide +kernel
theorem dM_shared_95 : decode cM_shared 95 = .ok (.dup, 1) := by decide +kernel
theorem dM_shared_96 : decode cM_shared 96 = .ok (.getfield 98, 3) := by decide +kernel
theorem dM_shared_99 : decode cM_shared 99 = .ok (.iconst 1, 1) := by decide +kernel
theorem dM_shared_100 : decode cM_shared 100 = .ok (.iadd, 1) := by decide +kernel
theorem dM_shared_101 : decode cM_shared 101 = .ok (.putfield 98, 3) := by decide +kernel
theorem dM_shared_104 : decode cM_shared 104 = .ok (.aload_n 0, 1) := by decide +kernel
theorem dM_shared_105 : decode cM_shared 105 = .ok (.getfield 98, 3) := by decide +kernel
theorem dM_shared_108 : decode cM_shared 108 = .ok (.iconst 1, 1) := by decide +kernel
theorem dM_shared_109 : decode cM_shared 109 = .ok (.isub, 1) := by decide +kernel
theorem dM_shared_110 : decode cM_shared 110 = .ok (.ireturn, 1) := by decide +kernel
theorem dM_set_0 : decode cM_set 0 = .ok (.aload_n 0, 1) := by decide +kernel
theorem dM_set_1 : decode cM_set 1 = .ok (.iconst 0, 1) := by decide +kernel
theorem dM_set_2 : decode cM_set 2 = .ok (.putfield 78, 3) := by decide +kernel
theorem dM_set_5 : decode cM_set 5 = .ok (.aload_n 0, 1) := by decide +kernel
theorem dM_set_6 : decode cM_set 6 = .ok (.iload_n 1, 1) := by decide +kernel
theorem dM_set_7 : decode cM_set 7 = .ok (.invokevirtual 114, 3) := by decide +kernel
theorem dM_set_10 : decode cM_set 10 = .ok (.istore 4, 2) := by decide +kernel
theorem dM_set_12 : decode cM_set 12 = .ok (.iload 4, 2) := by decide +kernel
theorem dM_set_14 : decode cM_set 14 = .ok (.iconst (-1), 1) := by decide +kernel
theorem dM_set_15 : decode cM_set 15 = .ok (.if_icmp .ne 6, 3) := by decide +kernel
theorem dM_set_18 : decode cM_set 18 = .ok (.bipush (-2), 2) := by decide +kernel
theorem dM_set_20 : decode cM_set 20 = .ok (.ireturn, 1) := by decide +kernel
theorem dM_set_21 : decode cM_set 21 = .ok (.aload_n 0, 1) := by decide +kernel
theorem dM_set_22 : decode cM_set 22 = .ok (.iload 4, 2) := by decide +kernel
theorem dM_set_24 : decode cM_set 24 = .ok (.aload_n 0, 1) := by decide +kernel
theorem dM_set_25 : decode cM_set 25 = .ok (.iload_n 1, 1) := by decide +kernel
theorem dM_set_26 : decode cM_set 26 = .ok (.invokevirtual 118, 3) := by decide +kernel
theorem dM_set_29 : decode cM_set 29 = .ok (.lload_n 2, 1) := by decide +kernel
theorem dM_set_30 : decode cM_set 30 = .ok (.invokevirtual 121, 3) := by decide +kernel
theorem dM_set_33 : decode cM_set 33 = .ok (.iconst 1, 1) := by decide +kernel
theorem dM_set_34 : decode cM_set 34 = .ok (.ireturn, 1) := by decide +kernel
theorem dM_place_0 : decode cM_place 0 = .ok (.aload_n 0, 1) := by decide +kernel
theorem dM_place_1 : decode cM_place 1 = .ok (.invokevirtual 108, 3) := by decide +kernel
theorem dM_place_4 : decode cM_place 4 = .ok (.istore_n 2, 1) := by decide +kernel
theorem dM_place_5 : decode cM_place 5 = .ok (.iload_n 1, 1) := by decide +kernel
theorem dM_place_6 : decode cM_place 6 = .ok (.ifCond .ge 48, 3) := by decide +kernel
theorem dM_place_9 : decode cM_place 9 = .ok (.ldc2_w 112, 3) := by decide +kernel
theorem dM_place_12 : decode cM_place 12 = .ok (.iload_n 1, 1) := by decide +kernel
theorem dM_place_13 : decode cM_place 13 = .ok (.i2l, 1) := by decide +kernel
theorem dM_place_14 : decode cM_place 14 = .ok (.lsub, 1) := by decide +kernel
theorem dM_place_15 : decode cM_place 15 = .ok (.lstore_n 3, 1) := by decide +kernel
theorem dM_place_16 : decode cM_place 16 = .ok (.iload_n 2, 1) := by decide +kernel
theorem dM_place_17 : decode cM_place 17 = .ok (.ifCond .eq 15, 3) := by decide +kernel
theorem dM_place_20 : decode cM_place 20 = .ok (.lload_n 3, 1) := by decide +kernel
theorem dM_place_21 : decode cM_place 21 = .ok (.aload_n 0, 1) := by decide +kernel
theorem dM_place_22 : decode cM_place 22 = .ok (.getfield 19, 3) := by decide +kernel
theorem dM_place_25 : decode cM_place 25 = .ok (.iload_n 2, 1) := by decide +kernel
theorem dM_place_26 : decode cM_place 26 = .ok (.iaload, 1) := by decide +kernel
theorem dM_place_27 : decode cM_place 27 = .ok (.i2l, 1) := by decide +kernel
theorem dM_place_28 : decode cM_place 28 = .ok (.lcmp, 1) := by decide +kernel
theorem dM_place_29 : decode cM_place 29 = .ok (.ifCond .lt 7, 3) := by decide +kernel
theorem dM_place_32 : decode cM_place 32 = .ok (.iconst (-1), 1) := by decide +kernel
theorem dM_place_33 : decode cM_place 33 = .ok (.goto 20, 3) := by decide +kernel
theorem dM_place_36 : decode cM_place 36 = .ok (.aload_n 0, 1) := by decide +kernel
theorem dM_place_37 : decode cM_place 37 = .ok (.getfield 65, 3) := by decide +kernel
theorem dM_place_40 : decode cM_place 40 = .ok (.bipush 16, 2) := by decide +kernel
theorem dM_place_42 : decode cM_place 42 = .ok (.aload_n 0, 1) := by decide +kernel
theorem dM_place_43 : decode cM_place 43 = .ok (.getfield 84, 3) := by decide +kernel
theorem dM_place_46 : decode cM_place 46 = .ok (.iconst 1, 1) := by decide +kernel
theorem dM_place_47 : decode cM_place 47 = .ok (.isub, 1) := by decide +kernel
theorem dM_place_48 : decode cM_place 48 = .ok (.imul, 1) := by decide +kernel
theorem dM_place_49 : decode cM_place 49 = .ok (.lload_n 3, 1) := by decide +kernel
theorem dM_place_50 : decode cM_place 50 = .ok (.l2i, 1) := by decide +kernel
theorem dM_place_51 : decode cM_place 51 = .ok (.iadd, 1) := by decide +kernel
theorem dM_place_52 : decode cM_place 52 = .ok (.iaload, 1) := by decide +kernel
theorem dM_place_53 : decode cM_place 53 = .ok (.ireturn, 1) := by decide +kernel
theorem dM_place_54 : decode cM_place 54 = .ok (.iload_n 1, 1) := by decide +kernel
theorem dM_place_55 : decode cM_place 55 = .ok (.aload_n 0, 1) := by decide +kernel
theorem dM_place_56 : decode cM_place 56 = .ok (.getfield 98, 3) := by decide +kernel
theorem dM_place_59 : decode cM_place 59 = .ok (.if_icmp .lt 5, 3) := by decide +kernel
theorem dM_place_62 : decode cM_place 62 = .ok (.iconst (-1), 1) := by decide +kernel
theorem dM_place_63 : decode cM_place 63 = .ok (.ireturn, 1) := by decide +kernel
theorem dM_place_64 : decode cM_place 64 = .ok (.aload_n 0, 1) := by decide +kernel
theorem dM_place_65 : decode cM_place 65 = .ok (.getfield 29, 3) := by decide +kernel
theorem dM_place_68 : decode cM_place 68 = .ok (.iload_n 1, 1) := by decide +kernel
theorem dM_place_69 : decode cM_place 69 = .ok (.iaload, 1) := by decide +kernel
theorem dM_place_70 : decode cM_place 70 = .ok (.istore_n 3, 1) := by decide +kernel
theorem dM_place_71 : decode cM_place 71 = .ok (.iload_n 3, 1) := by decide +kernel
theorem dM_place_72 : decode cM_place 72 = .ok (.ifCond .ne 5, 3) := by decide +kernel
theorem dM_place_75 : decode cM_place 75 = .ok (.iload_n 1, 1) := by decide +kernel
theorem dM_place_76 : decode cM_place 76 = .ok (.ireturn, 1) := by decide +kernel
theorem dM_place_77 : decode cM_place 77 = .ok (.iload_n 2, 1) := by decide +kernel
theorem dM_place_78 : decode cM_place 78 = .ok (.ifCond .eq 31, 3) := by decide +kernel
theorem dM_place_81 : decode cM_place 81 = .ok (.iload_n 3, 1) := by decide +kernel
theorem dM_place_82 : decode cM_place 82 = .ok (.iload_n 2, 1) := by decide +kernel
theorem dM_place_83 : decode cM_place 83 = .ok (.if_icmp .eq 22, 3) := by decide +kernel
theorem dM_place_86 : decode cM_place 86 = .ok (.aload_n 0, 1) := by decide +kernel
theorem dM_place_87 : decode cM_place 87 = .ok (.iload_n 3, 1) := by decide +kernel
theorem dM_place_88 : decode cM_place 88 = .ok (.bipush 8, 2) := by decide +kernel
theorem dM_place_90 : decode cM_place 90 = .ok (.invokevirtual 101, 3) := by decide +kernel
theorem dM_place_93 : decode cM_place 93 = .ok (.ifCond .eq 16, 3) := by decide +kernel
theorem dM_place_96 : decode cM_place 96 = .ok (.aload_n 0, 1) := by decide +kernel
theorem dM_place_97 : decode cM_place 97 = .ok (.iload_n 2, 1) := by decide +kernel
theorem dM_place_98 : decode cM_place 98 = .ok (.iload_n 3, 1) := by decide +kernel
theorem dM_place_99 : decode cM_place 99 = .ok (.invokevirtual 105, 3) := by decide +kernel
theorem dM_place_102 : decode cM_place 102 = .ok (.ifCond .eq 7, 3) := by decide +kernel
theorem dM_place_105 : decode cM_place 105 = .ok (.iconst 1, 1) := by decide +kernel
theorem dM_place_106 : decode cM_place 106 = .ok (.goto 4, 3) := by decide +kernel
theorem dM_place_109 : decode cM_place 109 = .ok (.iconst 0, 1) := by decide +kernel
theorem dM_place_110 : decode cM_place 110 = .ok (.istore 4, 2) := by decide +kernel
theorem dM_place_112 : decode cM_place 112 = .ok (.iload 4, 2) := by decide +kernel
theorem dM_place_114 : decode cM_place 114 = .ok (.ifCond .ne 5, 3) := by decide +kernel
theorem dM_place_117 : decode cM_place 117 = .ok (.iconst (-1), 1) := by decide +kernel
theorem dM_place_118 : decode cM_place 118 = .ok (.ireturn, 1) := by decide +kernel
theorem dM_place_119 : decode cM_place 119 = .ok (.aload_n 0, 1) := by decide +kernel
theorem dM_place_120 : decode cM_place 120 = .ok (.iload_n 3, 1) := by decide +kernel
theorem dM_place_121 : decode cM_place 121 = .ok (.iconst 4, 1) := by decide +kernel
theorem dM_place_122 : decode cM_place 122 = .ok (.invokevirtual 101, 3) := by decide +kernel
theorem dM_place_125 : decode cM_place 125 = .ok (.ifCond .ne 5, 3) := by decide +kernel
theorem dM_place_128 : decode cM_place 128 = .ok (.iload_n 1, 1) := by decide +kernel
theorem dM_place_129 : decode cM_place 129 = .ok (.ireturn, 1) := by decide +kernel
theorem dM_place_130 : decode cM_place 130 = .ok (.iconst (-1), 1) := by decide +kernel
theorem dM_place_131 : decode cM_place 131 = .ok (.istore 5, 2) := by decide +kernel
theorem dM_place_133 : decode cM_place 133 = .ok (.iconst 0, 1) := by decide +kernel
theorem dM_place_134 : decode cM_place 134 = .ok (.istore 6, 2) := by decide +kernel
theorem dM_place_136 : decode cM_place 136 = .ok (.iload 6, 2) := by decide +kernel
theorem dM_place_138 : decode cM_place 138 = .ok (.aload_n 0, 1) := by decide +kernel
theorem dM_place_139 : decode cM_place 139 = .ok (.getfield 84, 3) := by decide +kernel
theorem dM_place_142 : decode cM_place 142 = .ok (.if_icmp .ge 34, 3) := by decide +kernel
theorem dM_place_145 : decode cM_place 145 = .ok (.aload_n 0, 1) := by decide +kernel
theorem dM_place_146 : decode cM_place 146 = .ok (.getfield 56, 3) := by decide +kernel
theorem dM_place_149 : decode cM_place 149 = .ok (.iload 6, 2) := by decide +kernel
theorem dM_place_151 : decode cM_place 151 = .ok (.iaload, 1) := by decide +kernel
theorem dM_place_152 : decode cM_place 152 = .ok (.iload_n 3, 1) := by decide +kernel
theorem dM_place_153 : decode cM_place 153 = .ok (.if_icmp .ne 13, 3) := by decide +kernel
theorem dM_place_156 : decode cM_place 156 = .ok (.aload_n 0, 1) := by decide +kernel
theorem dM_place_157 : decode cM_place 157 = .ok (.getfield 59, 3) := by decide +kernel
theorem dM_place_160 : decode cM_place 160 = .ok (.iload 6, 2) := by decide +kernel
theorem dM_place_162 : decode cM_place 162 = .ok (.iaload, 1) := by decide +kernel
theorem dM_place_163 : decode cM_place 163 = .ok (.goto 5, 3) := by decide +kernel
theorem dM_place_166 : decode cM_place 166 = .ok (.iload 5, 2) := by decide +kernel
theorem dM_place_168 : decode cM_place 168 = .ok (.istore 5, 2) := by decide +kernel
theorem dM_place_170 : decode cM_place 170 = .ok (.iinc 6 1, 3) := by decide +kernel
theorem dM_place_173 : decode cM_place 173 = .ok (.goto (-37), 3) := by decide +kernel
theorem dM_place_176 : decode cM_place 176 = .ok (.iload 5, 2) := by decide +kernel
theorem dM_place_178 : decode cM_place 178 = .ok (.iconst (-1), 1) := by decide +kernel
theorem dM_place_179 : decode cM_place 179 = .ok (.if_icmp .ne 7, 3) := by decide +kernel
theorem dM_place_182 : decode cM_place 182 = .ok (.iload_n 1, 1) := by decide +kernel
theorem dM_place_183 : decode cM_place 183 = .ok (.goto 12, 3) := by decide +kernel
theorem dM_place_186 : decode cM_place 186 = .ok (.iload 5, 2) := by decide +kernel
theorem dM_place_188 : decode cM_place 188 = .ok (.aload_n 0, 1) := by decide +kernel
theorem dM_place_189 : decode cM_place 189 = .ok (.getfield 32, 3) := by decide +kernel
theorem dM_place_192 : decode cM_place 192 = .ok (.iload_n 1, 1) := by decide +kernel
theorem dM_place_193 : decode cM_place 193 = .ok (.iaload, 1) := by decide +kernel
theorem dM_place_194 : decode cM_place 194 = .ok (.iadd, 1) := by decide +kernel
theorem dM_place_195 : decode cM_place 195 = .ok (.ireturn, 1) := by decide +kernel
theorem dM_running_0 : decode cM_running 0 = .ok (.aload_n 0, 1) := by decide +kernel
theorem dM_running_1 : decode cM_running 1 = .ok (.getfield 84, 3) := by decide +kernel
theorem dM_running_4 : decode cM_running 4 = .ok (.ifCond .ne 7, 3) := by decide +kernel
theorem dM_running_7 : decode cM_running 7 = .ok (.iconst 0, 1) := by decide +kernel
theorem dM_running_8 : decode cM_running 8 = .ok (.goto 14, 3) := by decide +kernel
theorem dM_running_11 : decode cM_running 11 = .ok (.aload_n 0, 1) := by decide +kernel
theorem dM_running_12 : decode cM_running 12 = .ok (.getfield 56, 3) := by decide +kernel
theorem dM_running_15 : decode cM_running 15 = .ok (.aload_n 0, 1) := by decide +kernel
theorem dM_running_16 : decode cM_running 16 = .ok (.getfield 84, 3) := by decide +kernel
theorem dM_running_19 : decode cM_running 19 = .ok (.iconst 1, 1) := by decide +kernel
theorem dM_running_20 : decode cM_running 20 = .ok (.isub, 1) := by decide +kernel
theorem dM_running_21 : decode cM_running 21 = .ok (.iaload, 1) := by decide +kernel
theorem dM_running_22 : decode cM_running 22 = .ok (.ireturn, 1) := by decide +kernel
theorem dM_is_0 : decode cM_is 0 = .ok (.aload_n 0, 1) := by decide +kernel
theorem dM_is_1 : decode cM_is 1 = .ok (.getfield 16, 3) := by decide +kernel
theorem dM_is_4 : decode cM_is 4 = .ok (.iload_n 1, 1) := by decide +kernel
theorem dM_is_5 : decode cM_is 5 = .ok (.iaload, 1) := by decide +kernel
theorem dM_is_6 : decode cM_is 6 = .ok (.iload_n 2, 1) := by decide +kernel
theorem dM_is_7 : decode cM_is 7 = .ok (.iand, 1) := by decide +kernel
theorem dM_is_8 : decode cM_is 8 = .ok (.ifCond .eq 7, 3) := by decide +kernel
theorem dM_is_11 : decode cM_is 11 = .ok (.iconst 1, 1) := by decide +kernel
theorem dM_is_12 : decode cM_is 12 = .ok (.goto 4, 3) := by decide +kernel
theorem dM_is_15 : decode cM_is 15 = .ok (.iconst 0, 1) := by decide +kernel
theorem dM_is_16 : decode cM_is 16 = .ok (.ireturn, 1) := by decide +kernel
theorem dM_liesIn_0 : decode cM_liesIn 0 = .ok (.iload_n 1, 1) := by decide +kernel
theorem dM_liesIn_1 : decode cM_liesIn 1 = .ok (.istore_n 3, 1) := by decide +kernel
theorem dM_liesIn_2 : decode cM_liesIn 2 = .ok (.iload_n 3, 1) := by decide +kernel
theorem dM_liesIn_3 : decode cM_liesIn 3 = .ok (.ifCond .eq 18, 3) := by decide +kernel
theorem dM_liesIn_6 : decode cM_liesIn 6 = .ok (.iload_n 3, 1) := by decide +kernel
theorem dM_liesIn_7 : decode cM_liesIn 7 = .ok (.iload_n 2, 1) := by decide +kernel
theorem dM_liesIn_8 : decode cM_liesIn 8 = .ok (.if_icmp .eq 13, 3) := by decide +kernel
theorem dM_liesIn_11 : decode cM_liesIn 11 = .ok (.aload_n 0, 1) := by decide +kernel
theorem dM_liesIn_12 : decode cM_liesIn 12 = .ok (.getfield 7, 3) := by decide +kernel
theorem dM_liesIn_15 : decode cM_liesIn 15 = .ok (.iload_n 3, 1) := by decide +kernel
theorem dM_liesIn_16 : decode cM_liesIn 16 = .ok (.iaload, 1) := by decide +kernel
theorem dM_liesIn_17 : decode cM_liesIn 17 = .ok (.istore_n 3, 1) := by decide +kernel
theorem dM_liesIn_18 : decode cM_liesIn 18 = .ok (.goto (-16), 3) := by decide +kernel
theorem dM_liesIn_21 : decode cM_liesIn 21 = .ok (.iload_n 3, 1) := by decide +kernel
theorem dM_liesIn_22 : decode cM_liesIn 22 = .ok (.iload_n 2, 1) := by decide +kernel
theorem dM_liesIn_23 : decode cM_liesIn 23 = .ok (.if_icmp .ne 11, 3) := by decide +kernel
theorem dM_liesIn_26 : decode cM_liesIn 26 = .ok (.iload_n 2, 1) := by decide +kernel
theorem dM_liesIn_27 : decode cM_liesIn 27 = .ok (.ifCond .eq 7, 3) := by decide +kernel
theorem dM_liesIn_30 : decode cM_liesIn 30 = .ok (.iconst 1, 1) := by decide +kernel
theorem dM_liesIn_31 : decode cM_liesIn 31 = .ok (.goto 4, 3) := by decide +kernel
theorem dM_liesIn_34 : decode cM_liesIn 34 = .ok (.iconst 0, 1) := by decide +kernel
theorem dM_liesIn_35 : decode cM_liesIn 35 = .ok (.ireturn, 1) := by decide +kernel
theorem dM_bytesOf_0 : decode cM_bytesOf 0 = .ok (.iload_n 1, 1) := by decide +kernel
theorem dM_bytesOf_1 : decode cM_bytesOf 1 = .ok (.ifCond .lt 8, 3) := by decide +kernel
theorem dM_bytesOf_4 : decode cM_bytesOf 4 = .ok (.bipush 8, 2) := by decide +kernel
theorem dM_bytesOf_6 : decode cM_bytesOf 6 = .ok (.goto 21, 3) := by decide +kernel
theorem dM_bytesOf_9 : decode cM_bytesOf 9 = .ok (.aload_n 0, 1) := by decide +kernel
theorem dM_bytesOf_10 : decode cM_bytesOf 10 = .ok (.getfield 45, 3) := by decide +kernel
theorem dM_bytesOf_13 : decode cM_bytesOf 13 = .ok (.bipush 16, 2) := by decide +kernel
theorem dM_bytesOf_15 : decode cM_bytesOf 15 = .ok (.aload_n 0, 1) := by decide +kernel
theorem dM_bytesOf_16 : decode cM_bytesOf 16 = .ok (.invokevirtual 108, 3) := by decide +kernel
theorem dM_bytesOf_19 : decode cM_bytesOf 19 = .ok (.iconst 1, 1) := by decide +kernel
theorem dM_bytesOf_20 : decode cM_bytesOf 20 = .ok (.isub, 1) := by decide +kernel
theorem dM_bytesOf_21 : decode cM_bytesOf 21 = .ok (.imul, 1) := by decide +kernel
theorem dM_bytesOf_22 : decode cM_bytesOf 22 = .ok (.iconst (-1), 1) := by decide +kernel
theorem dM_bytesOf_23 : decode cM_bytesOf 23 = .ok (.iload_n 1, 1) := by decide +kernel
theorem dM_bytesOf_24 : decode cM_bytesOf 24 = .ok (.isub, 1) := by decide +kernel
theorem dM_bytesOf_25 : decode cM_bytesOf 25 = .ok (.iadd, 1) := by decide +kernel
theorem dM_bytesOf_26 : decode cM_bytesOf 26 = .ok (.iaload, 1) := by decide +kernel
theorem dM_bytesOf_27 : decode cM_bytesOf 27 = .ok (.ireturn, 1) := by decide +kernel
theorem dM_store_0 : decode cM_store 0 = .ok (.iload_n 2, 1) := by decide +kernel
theorem dM_store_1 : decode cM_store 1 = .ok (.bipush 8, 2) := by decide +kernel
theorem dM_store_3 : decode cM_store 3 = .ok (.if_icmp .ne 9, 3) := by decide +kernel
theorem dM_store_6 : decode cM_store 6 = .ok (.ldc2_w 112, 3) := by decide +kernel
theorem dM_store_9 : decode cM_store 9 = .ok (.goto 11, 3) := by decide +kernel
theorem dM_store_12 : decode cM_store 12 = .ok (.lconst 1, 1) := by decide +kernel
theorem dM_store_13 : decode cM_store 13 = .ok (.bipush 8, 2) := by decide +kernel
theorem dM_store_15 : decode cM_store 15 = .ok (.iload_n 2, 1) := by decide +kernel
theorem dM_store_16 : decode cM_store 16 = .ok (.imul, 1) := by decide +kernel
theorem dM_store_17 : decode cM_store 17 = .ok (.lshl, 1) := by decide +kernel
theorem dM_store_18 : decode cM_store 18 = .ok (.lconst 1, 1) := by decide +kernel
theorem dM_store_19 : decode cM_store 19 = .ok (.lsub, 1) := by decide +kernel
theorem dM_store_20 : decode cM_store 20 = .ok (.lstore 5, 2) := by decide +kernel
theorem dM_store_22 : decode cM_store 22 = .ok (.aload_n 0, 1) := by decide +kernel
theorem dM_store_23 : decode cM_store 23 = .ok (.getfield 49, 3) := by decide +kernel
theorem dM_store_26 : decode cM_store 26 = .ok (.iload_n 1, 1) := by decide +kernel
theorem dM_store_27 : decode cM_store 27 = .ok (.aload_n 0, 1) := by decide +kernel
theorem dM_store_28 : decode cM_store 28 = .ok (.getfield 49, 3) := by decide +kernel
theorem dM_store_31 : decode cM_store 31 = .ok (.iload_n 1, 1) := by decide +kernel
theorem dM_store_32 : decode cM_store 32 = .ok (.laload, 1) := by decide +kernel
theorem dM_store_33 : decode cM_store 33 = .ok (.lload 5, 2) := by decide +kernel
theorem dM_store_35 : decode cM_store 35 = .ok (.ldc2_w 112, 3) := by decide +kernel
theorem dM_store_38 : decode cM_store 38 = .ok (.lxor, 1) := by decide +kernel
theorem dM_store_39 : decode cM_store 39 = .ok (.land, 1) := by decide +kernel
theorem dM_store_40 : decode cM_store 40 = .ok (.lload_n 3, 1) := by decide +kernel
theorem dM_store_41 : decode cM_store 41 = .ok (.lload 5, 2) := by decide +kernel
theorem dM_store_43 : decode cM_store 43 = .ok (.land, 1) := by decide +kernel
theorem dM_store_44 : decode cM_store 44 = .ok (.lor, 1) := by decide +kernel
theorem dM_store_45 : decode cM_store 45 = .ok (.lastore, 1) := by decide +kernel
theorem dM_store_46 : decode cM_store 46 = .ok (.return_, 1) := by decide +kernel
theorem dM_get_0 : decode cM_get 0 = .ok (.aload_n 0, 1) := by decide +kernel
theorem dM_get_1 : decode cM_get 1 = .ok (.iload_n 1, 1) := by decide +kernel
theorem dM_get_2 : decode cM_get 2 = .ok (.invokevirtual 114, 3) := by decide +kernel
theorem dM_get_5 : decode cM_get 5 = .ok (.istore_n 2, 1) := by decide +kernel
theorem dM_get_6 : decode cM_get 6 = .ok (.aload_n 0, 1) := by decide +kernel
theorem dM_get_7 : decode cM_get 7 = .ok (.iload_n 2, 1) := by decide +kernel
theorem dM_get_8 : decode cM_get 8 = .ok (.iconst (-1), 1) := by decide +kernel
theorem dM_get_9 : decode cM_get 9 = .ok (.if_icmp .ne 7, 3) := by decide +kernel
theorem dM_get_12 : decode cM_get 12 = .ok (.iconst 1, 1) := by decide +kernel
theorem dM_get_13 : decode cM_get 13 = .ok (.goto 4, 3) := by decide +kernel
theorem dM_get_16 : decode cM_get 16 = .ok (.iconst 0, 1) := by decide +kernel
theorem dM_get_17 : decode cM_get 17 = .ok (.putfield 78, 3) := by decide +kernel
theorem dM_get_20 : decode cM_get 20 = .ok (.iload_n 2, 1) := by decide +kernel
theorem dM_get_21 : decode cM_get 21 = .ok (.iconst (-1), 1) := by decide +kernel
theorem dM_get_22 : decode cM_get 22 = .ok (.if_icmp .ne 7, 3) := by decide +kernel
theorem dM_get_25 : decode cM_get 25 = .ok (.lconst 0, 1) := by decide +kernel
theorem dM_get_26 : decode cM_get 26 = .ok (.goto 17, 3) := by decide +kernel
theorem dM_get_29 : decode cM_get 29 = .ok (.aload_n 0, 1) := by decide +kernel
theorem dM_get_30 : decode cM_get 30 = .ok (.getfield 49, 3) := by decide +kernel
theorem dM_get_33 : decode cM_get 33 = .ok (.iload_n 2, 1) := by decide +kernel
theorem dM_get_34 : decode cM_get 34 = .ok (.laload, 1) := by decide +kernel
theorem dM_get_35 : decode cM_get 35 = .ok (.aload_n 0, 1) := by decide +kernel
theorem dM_get_36 : decode cM_get 36 = .ok (.iload_n 1, 1) := by decide +kernel
theorem dM_get_37 : decode cM_get 37 = .ok (.invokevirtual 118, 3) := by decide +kernel
theorem dM_get_40 : decode cM_get 40 = .ok (.invokestatic 125, 3) := by decide +kernel
theorem dM_get_43 : decode cM_get 43 = .ok (.lreturn, 1) := by decide +kernel
theorem dM_signed_0 : decode cM_signed 0 = .ok (.lload_n 0, 1) := by decide +kernel
theorem dM_signed_1 : decode cM_signed 1 = .ok (.bipush 64, 2) := by decide +kernel
theorem dM_signed_3 : decode cM_signed 3 = .ok (.bipush 8, 2) := by decide +kernel
theorem dM_signed_5 : decode cM_signed 5 = .ok (.iload_n 2, 1) := by decide +kernel
theorem dM_signed_6 : decode cM_signed 6 = .ok (.imul, 1) := by decide +kernel
theorem dM_signed_7 : decode cM_signed 7 = .ok (.isub, 1) := by decide +kernel
theorem dM_signed_8 : decode cM_signed 8 = .ok (.lshl, 1) := by decide +kernel
theorem dM_signed_9 : decode cM_signed 9 = .ok (.bipush 64, 2) := by decide +kernel
theorem dM_signed_11 : decode cM_signed 11 = .ok (.bipush 8, 2) := by decide +kernel
theorem dM_signed_13 : decode cM_signed 13 = .ok (.iload_n 2, 1) := by decide +kernel
theorem dM_signed_14 : decode cM_signed 14 = .ok (.imul, 1) := by decide +kernel
theorem dM_signed_15 : decode cM_signed 15 = .ok (.isub, 1) := by decide +kernel
theorem dM_signed_16 : decode cM_signed 16 = .ok (.lshr, 1) := by decide +kernel
theorem dM_signed_17 : decode cM_signed 17 = .ok (.lreturn, 1) := by decide +kernel
theorem dM_call_0 : decode cM_call 0 = .ok (.aload_n 0, 1) := by decide +kernel
theorem dM_call_1 : decode cM_call 1 = .ok (.iconst 0, 1) := by decide +kernel
theorem dM_call_2 : decode cM_call 2 = .ok (.putfield 78, 3) := by decide +kernel
theorem dM_call_5 : decode cM_call 5 = .ok (.aload_n 0, 1) := by decide +kernel
theorem dM_call_6 : decode cM_call 6 = .ok (.invokevirtual 138, 3) := by decide +kernel
theorem dM_call_9 : decode cM_call 9 = .ok (.aload_n 0, 1) := by decide +kernel
theorem dM_call_10 : decode cM_call 10 = .ok (.iload_n 1, 1) := by decide +kernel
theorem dM_call_11 : decode cM_call 11 = .ok (.iload_n 2, 1) := by decide +kernel
theorem dM_call_12 : decode cM_call 12 = .ok (.invokevirtual 141, 3) := by decide +kernel
theorem dM_call_15 : decode cM_call 15 = .ok (.ifCond .ne 6, 3) := by decide +kernel
theorem dM_call_18 : decode cM_call 18 = .ok (.bipush (-2), 2) := by decide +kernel
theorem dM_call_20 : decode cM_call 20 = .ok (.ireturn, 1) := by decide +kernel
theorem dM_call_21 : decode cM_call 21 = .ok (.aload_n 0, 1) := by decide +kernel
theorem dM_call_22 : decode cM_call 22 = .ok (.iload_n 1, 1) := by decide +kernel
theorem dM_call_23 : decode cM_call 23 = .ok (.iload_n 2, 1) := by decide +kernel
theorem dM_call_24 : decode cM_call 24 = .ok (.invokevirtual 144, 3) := by decide +kernel
theorem dM_call_27 : decode cM_call 27 = .ok (.istore_n 3, 1) := by decide +kernel
theorem dM_call_28 : decode cM_call 28 = .ok (.iload_n 3, 1) := by decide +kernel
theorem dM_call_29 : decode cM_call 29 = .ok (.ifCond .ne 6, 3) := by decide +kernel
theorem dM_call_32 : decode cM_call 32 = .ok (.bipush (-3), 2) := by decide +kernel
theorem dM_call_34 : decode cM_call 34 = .ok (.ireturn, 1) := by decide +kernel
theorem dM_call_35 : decode cM_call 35 = .ok (.aload_n 0, 1) := by decide +kernel
theorem dM_call_36 : decode cM_call 36 = .ok (.getfield 22, 3) := by decide +kernel
theorem dM_call_39 : decode cM_call 39 = .ok (.iload_n 3, 1) := by decide +kernel
theorem dM_call_40 : decode cM_call 40 = .ok (.iaload, 1) := by decide +kernel
theorem dM_call_41 : decode cM_call 41 = .ok (.ifCond .le 15, 3) := by decide +kernel
theorem dM_call_44 : decode cM_call 44 = .ok (.aload_n 0, 1) := by decide +kernel
theorem dM_call_45 : decode cM_call 45 = .ok (.iload_n 3, 1) := by decide +kernel
theorem dM_call_46 : decode cM_call 46 = .ok (.iconst 4, 1) := by decide +kernel
theorem dM_call_47 : decode cM_call 47 = .ok (.invokevirtual 101, 3) := by decide +kernel
theorem dM_call_50 : decode cM_call 50 = .ok (.ifCond .ne 6, 3) := by decide +kernel
theorem dM_call_53 : decode cM_call 53 = .ok (.bipush (-5), 2) := by decide +kernel
theorem dM_call_55 : decode cM_call 55 = .ok (.ireturn, 1) := by decide +kernel
theorem dM_call_56 : decode cM_call 56 = .ok (.aload_n 0, 1) := by decide +kernel
theorem dM_call_57 : decode cM_call 57 = .ok (.getfield 84, 3) := by decide +kernel
theorem dM_call_60 : decode cM_call 60 = .ok (.aload_n 0, 1) := by decide +kernel
theorem dM_call_61 : decode cM_call 61 = .ok (.getfield 75, 3) := by decide +kernel
theorem dM_call_64 : decode cM_call 64 = .ok (.if_icmp .lt 6, 3) := by decide +kernel
theorem dM_call_67 : decode cM_call 67 = .ok (.bipush (-6), 2) := by decide +kernel
theorem dM_call_69 : decode cM_call 69 = .ok (.ireturn, 1) := by decide +kernel
theorem dM_call_70 : decode cM_call 70 = .ok (.aload_n 0, 1) := by decide +kernel
theorem dM_call_71 : decode cM_call 71 = .ok (.iload_n 3, 1) := by decide +kernel
theorem dM_call_72 : decode cM_call 72 = .ok (.putfield 129, 3) := by decide +kernel
theorem dM_call_75 : decode cM_call 75 = .ok (.aload_n 0, 1) := by decide +kernel
theorem dM_call_76 : decode cM_call 76 = .ok (.aload_n 0, 1) := by decide +kernel
theorem dM_call_77 : decode cM_call 77 = .ok (.getfield 52, 3) := by decide +kernel
theorem dM_call_80 : decode cM_call 80 = .ok (.putfield 132, 3) := by decide +kernel
theorem dM_call_83 : decode cM_call 83 = .ok (.iload_n 3, 1) := by decide +kernel
theorem dM_call_84 : decode cM_call 84 = .ok (.ireturn, 1) := by decide +kernel
theorem dM_unprepare_0 : decode cM_unprepare 0 = .ok (.aload_n 0, 1) := by decide +kernel
theorem dM_unprepare_1 : decode cM_unprepare 1 = .ok (.getfield 129, 3) := by decide +kernel
theorem dM_unprepare_4 : decode cM_unprepare 4 = .ok (.ifCond .eq 11, 3) := by decide +kernel
theorem dM_unprepare_7 : decode cM_unprepare 7 = .ok (.aload_n 0, 1) := by decide +kernel
theorem dM_unprepare_8 : decode cM_unprepare 8 = .ok (.aload_n 0, 1) := by decide +kernel
theorem dM_unprepare_9 : decode cM_unprepare 9 = .ok (.getfield 132, 3) := by decide +kernel
theorem dM_unprepare_12 : decode cM_unprepare 12 = .ok (.putfield 52, 3) := by decide +kernel
theorem dM_unprepare_15 : decode cM_unprepare 15 = .ok (.aload_n 0, 1) := by decide +kernel
theorem dM_unprepare_16 : decode cM_unprepare 16 = .ok (.iconst 0, 1) := by decide +kernel
theorem dM_unprepare_17 : decode cM_unprepare 17 = .ok (.putfield 129, 3) := by decide +kernel
theorem dM_unprepare_20 : decode cM_unprepare 20 = .ok (.aload_n 0, 1) := by decide +kernel
theorem dM_unprepare_21 : decode cM_unprepare 21 = .ok (.iconst 0, 1) := by decide +kernel
theorem dM_unprepare_22 : decode cM_unprepare 22 = .ok (.putfield 135, 3) := by decide +kernel
theorem dM_unprepare_25 : decode cM_unprepare 25 = .ok (.return_, 1) := by decide +kernel
theorem dM_isFrom_0 : decode cM_isFrom 0 = .ok (.iload_n 1, 1) := by decide +kernel
theorem dM_isFrom_1 : decode cM_isFrom 1 = .ok (.aload_n 0, 1) := by decide +kernel
theorem dM_isFrom_2 : decode cM_isFrom 2 = .ok (.invokevirtual 108, 3) := by decide +kernel
theorem dM_isFrom_5 : decode cM_isFrom 5 = .ok (.if_icmp .ne 14, 3) := by decide +kernel
theorem dM_isFrom_8 : decode cM_isFrom 8 = .ok (.iload_n 2, 1) := by decide +kernel
theorem dM_isFrom_9 : decode cM_isFrom 9 = .ok (.invokestatic 87, 3) := by decide +kernel
theorem dM_isFrom_12 : decode cM_isFrom 12 = .ok (.ifCond .eq 7, 3) := by decide +kernel
theorem dM_isFrom_15 : decode cM_isFrom 15 = .ok (.iconst 1, 1) := by decide +kernel
theorem dM_isFrom_16 : decode cM_isFrom 16 = .ok (.goto 4, 3) := by decide +kernel
theorem dM_isFrom_19 : decode cM_isFrom 19 = .ok (.iconst 0, 1) := by decide +kernel
theorem dM_isFrom_20 : decode cM_isFrom 20 = .ok (.ireturn, 1) := by decide +kernel
theorem dM_find_0 : decode cM_find 0 = .ok (.iload_n 1, 1) := by decide +kernel
theorem dM_find_1 : decode cM_find 1 = .ok (.ifCond .ne 10, 3) := by decide +kernel
theorem dM_find_4 : decode cM_find 4 = .ok (.aload_n 0, 1) := by decide +kernel
theorem dM_find_5 : decode cM_find 5 = .ok (.iconst 0, 1) := by decide +kernel
theorem dM_find_6 : decode cM_find 6 = .ok (.iload_n 2, 1) := by decide +kernel
theorem dM_find_7 : decode cM_find 7 = .ok (.invokevirtual 91, 3) := by decide +kernel
theorem dM_find_10 : decode cM_find 10 = .ok (.ireturn, 1) := by decide +kernel
theorem dM_find_11 : decode cM_find 11 = .ok (.aload_n 0, 1) := by decide +kernel
theorem dM_find_12 : decode cM_find 12 = .ok (.iload_n 1, 1) := by decide +kernel
theorem dM_find_13 : decode cM_find 13 = .ok (.iload_n 2, 1) := by decide +kernel
theorem dM_find_14 : decode cM_find 14 = .ok (.invokevirtual 91, 3) := by decide +kernel
theorem dM_find_17 : decode cM_find 17 = .ok (.istore_n 3, 1) := by decide +kernel
theorem dM_find_18 : decode cM_find 18 = .ok (.iload_n 3, 1) := by decide +kernel
theorem dM_find_19 : decode cM_find 19 = .ok (.ifCond .eq 5, 3) := by decide +kernel
theorem dM_find_22 : decode cM_find 22 = .ok (.iload_n 3, 1) := by decide +kernel
theorem dM_find_23 : decode cM_find 23 = .ok (.ireturn, 1) := by decide +kernel
theorem dM_find_24 : decode cM_find 24 = .ok (.iload_n 1, 1) := by decide +kernel
theorem dM_find_25 : decode cM_find 25 = .ok (.istore 4, 2) := by decide +kernel
theorem dM_find_27 : decode cM_find 27 = .ok (.iload 4, 2) := by decide +kernel
theorem dM_find_29 : decode cM_find 29 = .ok (.ifCond .eq 39, 3) := by decide +kernel
theorem dM_find_32 : decode cM_find 32 = .ok (.aload_n 0, 1) := by decide +kernel
theorem dM_find_33 : decode cM_find 33 = .ok (.iload 4, 2) := by decide +kernel
theorem dM_find_35 : decode cM_find 35 = .ok (.iconst 4, 1) := by decide +kernel
theorem dM_find_36 : decode cM_find 36 = .ok (.invokevirtual 101, 3) := by decide +kernel
theorem dM_find_39 : decode cM_find 39 = .ok (.ifCond .eq 17, 3) := by decide +kernel
theorem dM_find_42 : decode cM_find 42 = .ok (.aload_n 0, 1) := by decide +kernel
theorem dM_find_43 : decode cM_find 43 = .ok (.getfield 13, 3) := by decide +kernel
theorem dM_find_46 : decode cM_find 46 = .ok (.iload 4, 2) := by decide +kernel
theorem dM_find_48 : decode cM_find 48 = .ok (.iaload, 1) := by decide +kernel
theorem dM_find_49 : decode cM_find 49 = .ok (.iload_n 2, 1) := by decide +kernel
theorem dM_find_50 : decode cM_find 50 = .ok (.if_icmp .ne 6, 3) := by decide +kernel
theorem dM_find_53 : decode cM_find 53 = .ok (.iload 4, 2) := by decide +kernel
theorem dM_find_55 : decode cM_find 55 = .ok (.ireturn, 1) := by decide +kernel
theorem dM_find_56 : decode cM_find 56 = .ok (.aload_n 0, 1) := by decide +kernel
theorem dM_find_57 : decode cM_find 57 = .ok (.getfield 7, 3) := by decide +kernel
theorem dM_find_60 : decode cM_find 60 = .ok (.iload 4, 2) := by decide +kernel
theorem dM_find_62 : decode cM_find 62 = .ok (.iaload, 1) := by decide +kernel
theorem dM_find_63 : decode cM_find 63 = .ok (.istore 4, 2) := by decide +kernel
theorem dM_find_65 : decode cM_find 65 = .ok (.goto (-38), 3) := by decide +kernel
theorem dM_find_68 : decode cM_find 68 = .ok (.aload_n 0, 1) := by decide +kernel
theorem dM_find_69 : decode cM_find 69 = .ok (.getfield 7, 3) := by decide +kernel
theorem dM_find_72 : decode cM_find 72 = .ok (.iload_n 1, 1) := by decide +kernel
theorem dM_find_73 : decode cM_find 73 = .ok (.iaload, 1) := by decide +kernel
theorem dM_find_74 : decode cM_find 74 = .ok (.istore 4, 2) := by decide +kernel
theorem dM_find_76 : decode cM_find 76 = .ok (.iload 4, 2) := by decide +kernel
theorem dM_find_78 : decode cM_find 78 = .ok (.ifCond .eq 52, 3) := by decide +kernel
theorem dM_find_81 : decode cM_find 81 = .ok (.aload_n 0, 1) := by decide +kernel
theorem dM_find_82 : decode cM_find 82 = .ok (.iload 4, 2) := by decide +kernel
theorem dM_find_84 : decode cM_find 84 = .ok (.iload_n 2, 1) := by decide +kernel
theorem dM_find_85 : decode cM_find 85 = .ok (.invokevirtual 91, 3) := by decide +kernel
theorem dM_find_88 : decode cM_find 88 = .ok (.istore 5, 2) := by decide +kernel
theorem dM_find_90 : decode cM_find 90 = .ok (.iload 5, 2) := by decide +kernel
theorem dM_find_92 : decode cM_find 92 = .ok (.ifCond .eq 26, 3) := by decide +kernel
theorem dM_find_95 : decode cM_find 95 = .ok (.aload_n 0, 1) := by decide +kernel
theorem dM_find_96 : decode cM_find 96 = .ok (.iload 5, 2) := by decide +kernel
theorem dM_find_98 : decode cM_find 98 = .ok (.iconst 2, 1) := by decide +kernel
theorem dM_find_99 : decode cM_find 99 = .ok (.invokevirtual 101, 3) := by decide +kernel
theorem dM_find_102 : decode cM_find 102 = .ok (.ifCond .eq 16, 3) := by decide +kernel
theorem dM_find_105 : decode cM_find 105 = .ok (.aload_n 0, 1) := by decide +kernel
theorem dM_find_106 : decode cM_find 106 = .ok (.iload_n 1, 1) := by decide +kernel
theorem dM_find_107 : decode cM_find 107 = .ok (.iload 5, 2) := by decide +kernel
theorem dM_find_109 : decode cM_find 109 = .ok (.invokevirtual 105, 3) := by decide +kernel
theorem dM_find_112 : decode cM_find 112 = .ok (.ifCond .ne 6, 3) := by decide +kernel
theorem dM_find_115 : decode cM_find 115 = .ok (.iload 5, 2) := by decide +kernel
theorem dM_find_117 : decode cM_find 117 = .ok (.ireturn, 1) := by decide +kernel
theorem dM_find_118 : decode cM_find 118 = .ok (.aload_n 0, 1) := by decide +kernel
theorem dM_find_119 : decode cM_find 119 = .ok (.getfield 7, 3) := by decide +kernel
theorem dM_find_122 : decode cM_find 122 = .ok (.iload 4, 2) := by decide +kernel
theorem dM_find_124 : decode cM_find 124 = .ok (.iaload, 1) := by decide +kernel
theorem dM_find_125 : decode cM_find 125 = .ok (.istore 4, 2) := by decide +kernel
theorem dM_find_127 : decode cM_find 127 = .ok (.goto (-51), 3) := by decide +kernel
theorem dM_find_130 : decode cM_find 130 = .ok (.aload_n 0, 1) := by decide +kernel
theorem dM_find_131 : decode cM_find 131 = .ok (.iconst 0, 1) := by decide +kernel
theorem dM_find_132 : decode cM_find 132 = .ok (.iload_n 2, 1) := by decide +kernel
theorem dM_find_133 : decode cM_find 133 = .ok (.invokevirtual 91, 3) := by decide +kernel
theorem dM_find_136 : decode cM_find 136 = .ok (.ireturn, 1) := by decide +kernel
theorem dM_actual_0 : decode cM_actual 0 = .ok (.aload_n 0, 1) := by decide +kernel
theorem dM_actual_1 : decode cM_actual 1 = .ok (.iconst 0, 1) := by decide +kernel
theorem dM_actual_2 : decode cM_actual 2 = .ok (.putfield 78, 3) := by decide +kernel
theorem dM_actual_5 : decode cM_actual 5 = .ok (.aload_n 0, 1) := by decide +kernel
theorem dM_actual_6 : decode cM_actual 6 = .ok (.getfield 129, 3) := by decide +kernel
theorem dM_actual_9 : decode cM_actual 9 = .ok (.ifCond .ne 6, 3) := by decide +kernel
theorem dM_actual_12 : decode cM_actual 12 = .ok (.bipush (-4), 2) := by decide +kernel
theorem dM_actual_14 : decode cM_actual 14 = .ok (.ireturn, 1) := by decide +kernel
theorem dM_actual_15 : decode cM_actual 15 = .ok (.iload_n 2, 1) := by decide +kernel
theorem dM_actual_16 : decode cM_actual 16 = .ok (.iconst 2, 1) := by decide +kernel
theorem dM_actual_17 : decode cM_actual 17 = .ok (.if_icmp .ne 7, 3) := by decide +kernel
theorem dM_actual_20 : decode cM_actual 20 = .ok (.iconst (-1), 1) := by decide +kernel
theorem dM_actual_21 : decode cM_actual 21 = .ok (.goto 8, 3) := by decide +kernel
theorem dM_actual_24 : decode cM_actual 24 = .ok (.aload_n 0, 1) := by decide +kernel
theorem dM_actual_25 : decode cM_actual 25 = .ok (.iload_n 1, 1) := by decide +kernel
theorem dM_actual_26 : decode cM_actual 26 = .ok (.invokevirtual 114, 3) := by decide +kernel
theorem dM_actual_29 : decode cM_actual 29 = .ok (.istore_n 3, 1) := by decide +kernel
theorem dM_actual_30 : decode cM_actual 30 = .ok (.iload_n 2, 1) := by decide +kernel
theorem dM_actual_31 : decode cM_actual 31 = .ok (.ifCond .lt 18, 3) := by decide +kernel
theorem dM_actual_34 : decode cM_actual 34 = .ok (.iload_n 2, 1) := by decide +kernel
theorem dM_actual_35 : decode cM_actual 35 = .ok (.iconst 2, 1) := by decide +kernel
theorem dM_actual_36 : decode cM_actual 36 = .ok (.if_icmp .gt 13, 3) := by decide +kernel
theorem dM_actual_39 : decode cM_actual 39 = .ok (.iload_n 2, 1) := by decide +kernel
theorem dM_actual_40 : decode cM_actual 40 = .ok (.iconst 2, 1) := by decide +kernel
theorem dM_actual_41 : decode cM_actual 41 = .ok (.if_icmp .eq 11, 3) := by decide +kernel
theorem dM_actual_44 : decode cM_actual 44 = .ok (.iload_n 3, 1) := by decide +kernel
theorem dM_actual_45 : decode cM_actual 45 = .ok (.iconst (-1), 1) := by decide +kernel
theorem dM_actual_46 : decode cM_actual 46 = .ok (.if_icmp .ne 6, 3) := by decide +kernel
theorem dM_actual_49 : decode cM_actual 49 = .ok (.bipush (-2), 2) := by decide +kernel
theorem dM_actual_51 : decode cM_actual 51 = .ok (.ireturn, 1) := by decide +kernel
theorem dM_actual_52 : decode cM_actual 52 = .ok (.aload_n 0, 1) := by decide +kernel
theorem dM_actual_53 : decode cM_actual 53 = .ok (.getfield 135, 3) := by decide +kernel
theorem dM_actual_56 : decode cM_actual 56 = .ok (.bipush 16, 2) := by decide +kernel
theorem dM_actual_58 : decode cM_actual 58 = .ok (.if_icmp .ne 5, 3) := by decide +kernel
theorem dM_actual_61 : decode cM_actual 61 = .ok (.iconst (-1), 1) := by decide +kernel
theorem dM_actual_62 : decode cM_actual 62 = .ok (.ireturn, 1) := by decide +kernel
theorem dM_actual_63 : decode cM_actual 63 = .ok (.aload_n 0, 1) := by decide +kernel
theorem dM_actual_64 : decode cM_actual 64 = .ok (.getfield 68, 3) := by decide +kernel
theorem dM_actual_67 : decode cM_actual 67 = .ok (.aload_n 0, 1) := by decide +kernel
theorem dM_actual_68 : decode cM_actual 68 = .ok (.getfield 135, 3) := by decide +kernel
theorem dM_actual_71 : decode cM_actual 71 = .ok (.iload_n 2, 1) := by decide +kernel
theorem dM_actual_72 : decode cM_actual 72 = .ok (.ifCond .ne 7, 3) := by decide +kernel
theorem dM_actual_75 : decode cM_actual 75 = .ok (.iload_n 3, 1) := by decide +kernel
theorem dM_actual_76 : decode cM_actual 76 = .ok (.goto 22, 3) := by decide +kernel
theorem dM_actual_79 : decode cM_actual 79 = .ok (.iload_n 2, 1) := by decide +kernel
theorem dM_actual_80 : decode cM_actual 80 = .ok (.iconst 1, 1) := by decide +kernel
theorem dM_actual_81 : decode cM_actual 81 = .ok (.if_icmp .ne 16, 3) := by decide +kernel
theorem dM_actual_84 : decode cM_actual 84 = .ok (.aload_n 0, 1) := by decide +kernel
theorem dM_actual_85 : decode cM_actual 85 = .ok (.aload_n 0, 1) := by decide +kernel
theorem dM_actual_86 : decode cM_actual 86 = .ok (.getfield 49, 3) := by decide +kernel
theorem dM_actual_89 : decode cM_actual 89 = .ok (.iload_n 3, 1) := by decide +kernel
theorem dM_actual_90 : decode cM_actual 90 = .ok (.laload, 1) := by decide +kernel
theorem dM_actual_91 : decode cM_actual 91 = .ok (.invokevirtual 147, 3) := by decide +kernel
theorem dM_actual_94 : decode cM_actual 94 = .ok (.goto 4, 3) := by decide +kernel
theorem dM_actual_97 : decode cM_actual 97 = .ok (.iconst (-1), 1) := by decide +kernel
theorem dM_actual_98 : decode cM_actual 98 = .ok (.iastore, 1) := by decide +kernel
theorem dM_actual_99 : decode cM_actual 99 = .ok (.aload_n 0, 1) := by decide +kernel
theorem dM_actual_100 : decode cM_actual 100 = .ok (.getfield 71, 3) := by decide +kernel
theorem dM_actual_103 : decode cM_actual 103 = .ok (.aload_n 0, 1) := by decide +kernel
theorem dM_actual_104 : decode cM_actual 104 = .ok (.getfield 135, 3) := by decide +kernel
theorem dM_actual_107 : decode cM_actual 107 = .ok (.iload_n 2, 1) := by decide +kernel
theorem dM_actual_108 : decode cM_actual 108 = .ok (.iconst 2, 1) := by decide +kernel
theorem dM_actual_109 : decode cM_actual 109 = .ok (.if_icmp .ne 7, 3) := by decide +kernel
theorem dM_actual_112 : decode cM_actual 112 = .ok (.iconst 0, 1) := by decide +kernel
theorem dM_actual_113 : decode cM_actual 113 = .ok (.goto 8, 3) := by decide +kernel
theorem dM_actual_116 : decode cM_actual 116 = .ok (.aload_n 0, 1) := by decide +kernel
theorem dM_actual_117 : decode cM_actual 117 = .ok (.iload_n 1, 1) := by decide +kernel
theorem dM_actual_118 : decode cM_actual 118 = .ok (.invokevirtual 118, 3) := by decide +kernel
theorem dM_actual_121 : decode cM_actual 121 = .ok (.iastore, 1) := by decide +kernel
theorem dM_actual_122 : decode cM_actual 122 = .ok (.aload_n 0, 1) := by decide +kernel
theorem dM_actual_123 : decode cM_actual 123 = .ok (.dup, 1) := by decide +kernel
theorem dM_actual_124 : decode cM_actual 124 = .ok (.getfield 135, 3) := by decide +kernel
theorem dM_actual_127 : decode cM_actual 127 = .ok (.iconst 1, 1) := by decide +kernel
theorem dM_actual_128 : decode cM_actual 128 = .ok (.iadd, 1) := by decide +kernel
theorem dM_actual_129 : decode cM_actual 129 = .ok (.putfield 135, 3) := by decide +kernel
theorem dM_actual_132 : decode cM_actual 132 = .ok (.aload_n 0, 1) := by decide +kernel
theorem dM_actual_133 : decode cM_actual 133 = .ok (.getfield 135, 3) := by decide +kernel
theorem dM_actual_136 : decode cM_actual 136 = .ok (.iconst 1, 1) := by decide +kernel
theorem dM_actual_137 : decode cM_actual 137 = .ok (.isub, 1) := by decide +kernel
theorem dM_actual_138 : decode cM_actual 138 = .ok (.ireturn, 1) := by decide +kernel
theorem dM_copy_0 : decode cM_copy 0 = .ok (.aload_n 0, 1) := by decide +kernel
theorem dM_copy_1 : decode cM_copy 1 = .ok (.getfield 49, 3) := by decide +kernel
theorem dM_copy_4 : decode cM_copy 4 = .ok (.aload_n 0, 1) := by decide +kernel
theorem dM_copy_5 : decode cM_copy 5 = .ok (.getfield 52, 3) := by decide +kernel
theorem dM_copy_8 : decode cM_copy 8 = .ok (.lload_n 1, 1) := by decide +kernel
theorem dM_copy_9 : decode cM_copy 9 = .ok (.lastore, 1) := by decide +kernel
theorem dM_copy_10 : decode cM_copy 10 = .ok (.aload_n 0, 1) := by decide +kernel
theorem dM_copy_11 : decode cM_copy 11 = .ok (.dup, 1) := by decide +kernel
theorem dM_copy_12 : decode cM_copy 12 = .ok (.getfield 52, 3) := by decide +kernel
theorem dM_copy_15 : decode cM_copy 15 = .ok (.iconst 1, 1) := by decide +kernel
theorem dM_copy_16 : decode cM_copy 16 = .ok (.iadd, 1) := by decide +kernel
theorem dM_copy_17 : decode cM_copy 17 = .ok (.putfield 52, 3) := by decide +kernel
theorem dM_copy_20 : decode cM_copy 20 = .ok (.aload_n 0, 1) := by decide +kernel
theorem dM_copy_21 : decode cM_copy 21 = .ok (.getfield 52, 3) := by decide +kernel
theorem dM_copy_24 : decode cM_copy 24 = .ok (.iconst 1, 1) := by decide +kernel
theorem dM_copy_25 : decode cM_copy 25 = .ok (.isub, 1) := by decide +kernel
theorem dM_copy_26 : decode cM_copy 26 = .ok (.ireturn, 1) := by decide +kernel
theorem dM_enter_0 : decode cM_enter 0 = .ok (.aload_n 0, 1) := by decide +kernel
theorem dM_enter_1 : decode cM_enter 1 = .ok (.iconst 0, 1) := by decide +kernel
theorem dM_enter_2 : decode cM_enter 2 = .ok (.putfield 78, 3) := by decide +kernel
theorem dM_enter_5 : decode cM_enter 5 = .ok (.aload_n 0, 1) := by decide +kernel
theorem dM_enter_6 : decode cM_enter 6 = .ok (.invokevirtual 151, 3) := by decide +kernel
theorem dM_enter_9 : decode cM_enter 9 = .ok (.istore_n 1, 1) := by decide +kernel
theorem dM_enter_10 : decode cM_enter 10 = .ok (.iload_n 1, 1) := by decide +kernel
theorem dM_enter_11 : decode cM_enter 11 = .ok (.iconst 1, 1) := by decide +kernel
theorem dM_enter_12 : decode cM_enter 12 = .ok (.if_icmp .eq 9, 3) := by decide +kernel
theorem dM_enter_15 : decode cM_enter 15 = .ok (.aload_n 0, 1) := by decide +kernel
theorem dM_enter_16 : decode cM_enter 16 = .ok (.invokevirtual 138, 3) := by decide +kernel
theorem dM_enter_19 : decode cM_enter 19 = .ok (.iload_n 1, 1) := by decide +kernel
theorem dM_enter_20 : decode cM_enter 20 = .ok (.ireturn, 1) := by decide +kernel
theorem dM_enter_21 : decode cM_enter 21 = .ok (.aload_n 0, 1) := by decide +kernel
theorem dM_enter_22 : decode cM_enter 22 = .ok (.getfield 129, 3) := by decide +kernel
theorem dM_enter_25 : decode cM_enter 25 = .ok (.istore_n 2, 1) := by decide +kernel
theorem dM_enter_26 : decode cM_enter 26 = .ok (.aload_n 0, 1) := by decide +kernel
theorem dM_enter_27 : decode cM_enter 27 = .ok (.getfield 56, 3) := by decide +kernel
theorem dM_enter_30 : decode cM_enter 30 = .ok (.aload_n 0, 1) := by decide +kernel
theorem dM_enter_31 : decode cM_enter 31 = .ok (.getfield 84, 3) := by decide +kernel
theorem dM_enter_34 : decode cM_enter 34 = .ok (.iload_n 2, 1) := by decide +kernel
theorem dM_enter_35 : decode cM_enter 35 = .ok (.iastore, 1) := by decide +kernel
theorem dM_enter_36 : decode cM_enter 36 = .ok (.aload_n 0, 1) := by decide +kernel
theorem dM_enter_37 : decode cM_enter 37 = .ok (.getfield 62, 3) := by decide +kernel
theorem dM_enter_40 : decode cM_enter 40 = .ok (.aload_n 0, 1) := by decide +kernel
theorem dM_enter_41 : decode cM_enter 41 = .ok (.getfield 84, 3) := by decide +kernel
theorem dM_enter_44 : decode cM_enter 44 = .ok (.aload_n 0, 1) := by decide +kernel
theorem dM_enter_45 : decode cM_enter 45 = .ok (.getfield 132, 3) := by decide +kernel
theorem dM_enter_48 : decode cM_enter 48 = .ok (.iastore, 1) := by decide +kernel
theorem dM_enter_49 : decode cM_enter 49 = .ok (.iconst 0, 1) := by decide +kernel
theorem dM_enter_50 : decode cM_enter 50 = .ok (.istore_n 3, 1) := by decide +kernel
theorem dM_enter_51 : decode cM_enter 51 = .ok (.iload_n 3, 1) := by decide +kernel
theorem dM_enter_52 : decode cM_enter 52 = .ok (.aload_n 0, 1) := by decide +kernel
theorem dM_enter_53 : decode cM_enter 53 = .ok (.getfield 19, 3) := by decide +kernel
theorem dM_enter_56 : decode cM_enter 56 = .ok (.iload_n 2, 1) := by decide +kernel
theorem dM_enter_57 : decode cM_enter 57 = .ok (.iaload, 1) := by decide +kernel
theorem dM_enter_58 : decode cM_enter 58 = .ok (.if_icmp .ge 117, 3) := by decide +kernel
theorem dM_enter_61 : decode cM_enter 61 = .ok (.iload_n 3, 1) := by decide +kernel
theorem dM_enter_62 : decode cM_enter 62 = .ok (.aload_n 0, 1) := by decide +kernel
theorem dM_enter_63 : decode cM_enter 63 = .ok (.getfield 135, 3) := by decide +kernel
theorem dM_enter_66 : decode cM_enter 66 = .ok (.if_icmp .ge 17, 3) := by decide +kernel
theorem dM_enter_69 : decode cM_enter 69 = .ok (.aload_n 0, 1) := by decide +kernel
theorem dM_enter_70 : decode cM_enter 70 = .ok (.getfield 68, 3) := by decide +kernel
theorem dM_enter_73 : decode cM_enter 73 = .ok (.iload_n 3, 1) := by decide +kernel
theorem dM_enter_74 : decode cM_enter 74 = .ok (.iaload, 1) := by decide +kernel
theorem dM_enter_75 : decode cM_enter 75 = .ok (.iconst (-1), 1) := by decide +kernel
theorem dM_enter_76 : decode cM_enter 76 = .ok (.if_icmp .eq 7, 3) := by decide +kernel
theorem dM_enter_79 : decode cM_enter 79 = .ok (.iconst 1, 1) := by decide +kernel
theorem dM_enter_80 : decode cM_enter 80 = .ok (.goto 4, 3) := by decide +kernel
theorem dM_enter_83 : decode cM_enter 83 = .ok (.iconst 0, 1) := by decide +kernel
theorem dM_enter_84 : decode cM_enter 84 = .ok (.istore 4, 2) := by decide +kernel
theorem dM_enter_86 : decode cM_enter 86 = .ok (.iload 4, 2) := by decide +kernel
theorem dM_enter_88 : decode cM_enter 88 = .ok (.ifCond .eq 26, 3) := by decide +kernel
theorem dM_enter_91 : decode cM_enter 91 = .ok (.aload_n 0, 1) := by decide +kernel
theorem dM_enter_92 : decode cM_enter 92 = .ok (.getfield 42, 3) := by decide +kernel
theorem dM_enter_95 : decode cM_enter 95 = .ok (.bipush 16, 2) := by decide +kernel
theorem dM_enter_97 : decode cM_enter 97 = .ok (.iload_n 2, 1) := by decide +kernel
theorem dM_enter_98 : decode cM_enter 98 = .ok (.iconst 1, 1) := by decide +kernel
theorem dM_enter_99 : decode cM_enter 99 = .ok (.isub, 1) := by decide +kernel
theorem dM_enter_100 : decode cM_enter 100 = .ok (.imul, 1) := by decide +kernel
theorem dM_enter_101 : decode cM_enter 101 = .ok (.iload_n 3, 1) := by decide +kernel
theorem dM_enter_102 : decode cM_enter 102 = .ok (.iadd, 1) := by decide +kernel
theorem dM_enter_103 : decode cM_enter 103 = .ok (.iaload, 1) := by decide +kernel
theorem dM_enter_104 : decode cM_enter 104 = .ok (.iconst 2, 1) := by decide +kernel
theorem dM_enter_105 : decode cM_enter 105 = .ok (.irem, 1) := by decide +kernel
theorem dM_enter_106 : decode cM_enter 106 = .ok (.iconst 1, 1) := by decide +kernel
theorem dM_enter_107 : decode cM_enter 107 = .ok (.if_icmp .ne 7, 3) := by decide +kernel
theorem dM_enter_110 : decode cM_enter 110 = .ok (.iconst 1, 1) := by decide +kernel
theorem dM_enter_111 : decode cM_enter 111 = .ok (.goto 4, 3) := by decide +kernel
theorem dM_enter_114 : decode cM_enter 114 = .ok (.iconst 0, 1) := by decide +kernel
theorem dM_enter_115 : decode cM_enter 115 = .ok (.istore 5, 2) := by decide +kernel
theorem dM_enter_117 : decode cM_enter 117 = .ok (.aload_n 0, 1) := by decide +kernel
theorem dM_enter_118 : decode cM_enter 118 = .ok (.getfield 65, 3) := by decide +kernel
theorem dM_enter_121 : decode cM_enter 121 = .ok (.bipush 16, 2) := by decide +kernel
theorem dM_enter_123 : decode cM_enter 123 = .ok (.aload_n 0, 1) := by decide +kernel
theorem dM_enter_124 : decode cM_enter 124 = .ok (.getfield 84, 3) := by decide +kernel
theorem dM_enter_127 : decode cM_enter 127 = .ok (.imul, 1) := by decide +kernel
theorem dM_enter_128 : decode cM_enter 128 = .ok (.iload_n 3, 1) := by decide +kernel
theorem dM_enter_129 : decode cM_enter 129 = .ok (.iadd, 1) := by decide +kernel
theorem dM_enter_130 : decode cM_enter 130 = .ok (.iload 4, 2) := by decide +kernel
theorem dM_enter_132 : decode cM_enter 132 = .ok (.ifCond .ne 7, 3) := by decide +kernel
theorem dM_enter_135 : decode cM_enter 135 = .ok (.iconst (-1), 1) := by decide +kernel
theorem dM_enter_136 : decode cM_enter 136 = .ok (.goto 32, 3) := by decide +kernel
theorem dM_enter_139 : decode cM_enter 139 = .ok (.iload 5, 2) := by decide +kernel
theorem dM_enter_141 : decode cM_enter 141 = .ok (.ifCond .eq 21, 3) := by decide +kernel
theorem dM_enter_144 : decode cM_enter 144 = .ok (.aload_n 0, 1) := by decide +kernel
theorem dM_enter_145 : decode cM_enter 145 = .ok (.aload_n 0, 1) := by decide +kernel
theorem dM_enter_146 : decode cM_enter 146 = .ok (.getfield 49, 3) := by decide +kernel
theorem dM_enter_149 : decode cM_enter 149 = .ok (.aload_n 0, 1) := by decide +kernel
theorem dM_enter_150 : decode cM_enter 150 = .ok (.getfield 68, 3) := by decide +kernel
theorem dM_enter_153 : decode cM_enter 153 = .ok (.iload_n 3, 1) := by decide +kernel
theorem dM_enter_154 : decode cM_enter 154 = .ok (.iaload, 1) := by decide +kernel
theorem dM_enter_155 : decode cM_enter 155 = .ok (.laload, 1) := by decide +kernel
theorem dM_enter_156 : decode cM_enter 156 = .ok (.invokevirtual 147, 3) := by decide +kernel
theorem dM_enter_159 : decode cM_enter 159 = .ok (.goto 9, 3) := by decide +kernel
theorem dM_enter_162 : decode cM_enter 162 = .ok (.aload_n 0, 1) := by decide +kernel
theorem dM_enter_163 : decode cM_enter 163 = .ok (.getfield 68, 3) := by decide +kernel
theorem dM_enter_166 : decode cM_enter 166 = .ok (.iload_n 3, 1) := by decide +kernel
theorem dM_enter_167 : decode cM_enter 167 = .ok (.iaload, 1) := by decide +kernel
theorem dM_enter_168 : decode cM_enter 168 = .ok (.iastore, 1) := by decide +kernel
theorem dM_enter_169 : decode cM_enter 169 = .ok (.iinc 3 1, 3) := by decide +kernel
theorem dM_enter_172 : decode cM_enter 172 = .ok (.goto (-121), 3) := by decide +kernel
theorem dM_enter_175 : decode cM_enter 175 = .ok (.aload_n 0, 1) := by decide +kernel
theorem dM_enter_176 : decode cM_enter 176 = .ok (.getfield 59, 3) := by decide +kernel
theorem dM_enter_179 : decode cM_enter 179 = .ok (.aload_n 0, 1) := by decide +kernel
theorem dM_enter_180 : decode cM_enter 180 = .ok (.getfield 84, 3) := by decide +kernel
theorem dM_enter_183 : decode cM_enter 183 = .ok (.aload_n 0, 1) := by decide +kernel
theorem dM_enter_184 : decode cM_enter 184 = .ok (.getfield 52, 3) := by decide +kernel
theorem dM_enter_187 : decode cM_enter 187 = .ok (.iastore, 1) := by decide +kernel
theorem dM_enter_188 : decode cM_enter 188 = .ok (.aload_n 0, 1) := by decide +kernel
theorem dM_enter_189 : decode cM_enter 189 = .ok (.iload_n 2, 1) := by decide +kernel
theorem dM_enter_190 : decode cM_enter 190 = .ok (.iconst 4, 1) := by decide +kernel
theorem dM_enter_191 : decode cM_enter 191 = .ok (.invokevirtual 101, 3) := by decide +kernel
theorem dM_enter_194 : decode cM_enter 194 = .ok (.istore_n 3, 1) := by decide +kernel
theorem dM_enter_195 : decode cM_enter 195 = .ok (.iconst 0, 1) := by decide +kernel
theorem dM_enter_196 : decode cM_enter 196 = .ok (.istore 4, 2) := by decide +kernel
theorem dM_enter_198 : decode cM_enter 198 = .ok (.iconst 0, 1) := by decide +kernel
theorem dM_enter_199 : decode cM_enter 199 = .ok (.istore 5, 2) := by decide +kernel
theorem dM_enter_201 : decode cM_enter 201 = .ok (.iload 5, 2) := by decide +kernel
theorem dM_enter_203 : decode cM_enter 203 = .ok (.aload_n 0, 1) := by decide +kernel
theorem dM_enter_204 : decode cM_enter 204 = .ok (.getfield 98, 3) := by decide +kernel
theorem dM_enter_207 : decode cM_enter 207 = .ok (.if_icmp .ge 75, 3) := by decide +kernel
theorem dM_enter_210 : decode cM_enter 210 = .ok (.aload_n 0, 1) := by decide +kernel
theorem dM_enter_211 : decode cM_enter 211 = .ok (.getfield 29, 3) := by decide +kernel
theorem dM_enter_214 : decode cM_enter 214 = .ok (.iload 5, 2) := by decide +kernel
theorem dM_enter_216 : decode cM_enter 216 = .ok (.iaload, 1) := by decide +kernel
theorem dM_enter_217 : decode cM_enter 217 = .ok (.iload_n 2, 1) := by decide +kernel
theorem dM_enter_218 : decode cM_enter 218 = .ok (.if_icmp .eq 6, 3) := by decide +kernel
theorem dM_enter_221 : decode cM_enter 221 = .ok (.goto 55, 3) := by decide +kernel
theorem dM_enter_224 : decode cM_enter 224 = .ok (.iload_n 3, 1) := by decide +kernel
theorem dM_enter_225 : decode cM_enter 225 = .ok (.ifCond .eq 28, 3) := by decide +kernel
theorem dM_enter_228 : decode cM_enter 228 = .ok (.aload_n 0, 1) := by decide +kernel
theorem dM_enter_229 : decode cM_enter 229 = .ok (.getfield 49, 3) := by decide +kernel
theorem dM_enter_232 : decode cM_enter 232 = .ok (.aload_n 0, 1) := by decide +kernel
theorem dM_enter_233 : decode cM_enter 233 = .ok (.getfield 52, 3) := by decide +kernel
theorem dM_enter_236 : decode cM_enter 236 = .ok (.iload 4, 2) := by decide +kernel
theorem dM_enter_238 : decode cM_enter 238 = .ok (.iadd, 1) := by decide +kernel
theorem dM_enter_239 : decode cM_enter 239 = .ok (.aload_n 0, 1) := by decide +kernel
theorem dM_enter_240 : decode cM_enter 240 = .ok (.getfield 38, 3) := by decide +kernel
theorem dM_enter_243 : decode cM_enter 243 = .ok (.iload 5, 2) := by decide +kernel
theorem dM_enter_245 : decode cM_enter 245 = .ok (.laload, 1) := by decide +kernel
theorem dM_enter_246 : decode cM_enter 246 = .ok (.lastore, 1) := by decide +kernel
theorem dM_enter_247 : decode cM_enter 247 = .ok (.iinc 4 1, 3) := by decide +kernel
theorem dM_enter_250 : decode cM_enter 250 = .ok (.goto 26, 3) := by decide +kernel
theorem dM_enter_253 : decode cM_enter 253 = .ok (.aload_n 0, 1) := by decide +kernel
theorem dM_enter_254 : decode cM_enter 254 = .ok (.iload_n 2, 1) := by decide +kernel
theorem dM_enter_255 : decode cM_enter 255 = .ok (.iconst 1, 1) := by decide +kernel
theorem dM_enter_256 : decode cM_enter 256 = .ok (.invokevirtual 101, 3) := by decide +kernel
theorem dM_enter_259 : decode cM_enter 259 = .ok (.ifCond .eq 17, 3) := by decide +kernel
theorem dM_enter_262 : decode cM_enter 262 = .ok (.aload_n 0, 1) := by decide +kernel
theorem dM_enter_263 : decode cM_enter 263 = .ok (.getfield 49, 3) := by decide +kernel
theorem dM_enter_266 : decode cM_enter 266 = .ok (.iload 5, 2) := by decide +kernel
theorem dM_enter_268 : decode cM_enter 268 = .ok (.aload_n 0, 1) := by decide +kernel
theorem dM_enter_269 : decode cM_enter 269 = .ok (.getfield 38, 3) := by decide +kernel
theorem dM_enter_272 : decode cM_enter 272 = .ok (.iload 5, 2) := by decide +kernel
theorem dM_enter_274 : decode cM_enter 274 = .ok (.laload, 1) := by decide +kernel
theorem dM_enter_275 : decode cM_enter 275 = .ok (.lastore, 1) := by decide +kernel
theorem dM_enter_276 : decode cM_enter 276 = .ok (.iinc 5 1, 3) := by decide +kernel
theorem dM_enter_279 : decode cM_enter 279 = .ok (.goto (-78), 3) := by decide +kernel
theorem dM_enter_282 : decode cM_enter 282 = .ok (.aload_n 0, 1) := by decide +kernel
theorem dM_enter_283 : decode cM_enter 283 = .ok (.dup, 1) := by decide +kernel
theorem dM_enter_284 : decode cM_enter 284 = .ok (.getfield 52, 3) := by decide +kernel
theorem dM_enter_287 : decode cM_enter 287 = .ok (.iload 4, 2) := by decide +kernel
theorem dM_enter_289 : decode cM_enter 289 = .ok (.iadd, 1) := by decide +kernel
theorem dM_enter_290 : decode cM_enter 290 = .ok (.putfield 52, 3) := by decide +kernel
theorem dM_enter_293 : decode cM_enter 293 = .ok (.aload_n 0, 1) := by decide +kernel
theorem dM_enter_294 : decode cM_enter 294 = .ok (.getfield 22, 3) := by decide +kernel
theorem dM_enter_297 : decode cM_enter 297 = .ok (.iload_n 2, 1) := by decide +kernel
theorem dM_enter_298 : decode cM_enter 298 = .ok (.dup2, 1) := by decide +kernel
theorem dM_enter_299 : decode cM_enter 299 = .ok (.iaload, 1) := by decide +kernel
theorem dM_enter_300 : decode cM_enter 300 = .ok (.iconst 1, 1) := by decide +kernel
theorem dM_enter_301 : decode cM_enter 301 = .ok (.iadd, 1) := by decide +kernel
theorem dM_enter_302 : decode cM_enter 302 = .ok (.iastore, 1) := by decide +kernel
theorem dM_enter_303 : decode cM_enter 303 = .ok (.aload_n 0, 1) := by decide +kernel
theorem dM_enter_304 : decode cM_enter 304 = .ok (.getfield 25, 3) := by decide +kernel
theorem dM_enter_307 : decode cM_enter 307 = .ok (.iload_n 2, 1) := by decide +kernel
theorem dM_enter_308 : decode cM_enter 308 = .ok (.iconst 1, 1) := by decide +kernel
theorem dM_enter_309 : decode cM_enter 309 = .ok (.bastore, 1) := by decide +kernel
theorem dM_enter_310 : decode cM_enter 310 = .ok (.aload_n 0, 1) := by decide +kernel
theorem dM_enter_311 : decode cM_enter 311 = .ok (.dup, 1) := by decide +kernel
theorem dM_enter_312 : decode cM_enter 312 = .ok (.getfield 84, 3) := by decide +kernel
theorem dM_enter_315 : decode cM_enter 315 = .ok (.iconst 1, 1) := by decide +kernel
theorem dM_enter_316 : decode cM_enter 316 = .ok (.iadd, 1) := by decide +kernel
theorem dM_enter_317 : decode cM_enter 317 = .ok (.putfield 84, 3) := by decide +kernel
theorem dM_enter_320 : decode cM_enter 320 = .ok (.aload_n 0, 1) := by decide +kernel
theorem dM_enter_321 : decode cM_enter 321 = .ok (.iconst 0, 1) := by decide +kernel
theorem dM_enter_322 : decode cM_enter 322 = .ok (.putfield 129, 3) := by decide +kernel
theorem dM_enter_325 : decode cM_enter 325 = .ok (.aload_n 0, 1) := by decide +kernel
theorem dM_enter_326 : decode cM_enter 326 = .ok (.iconst 0, 1) := by decide +kernel
theorem dM_enter_327 : decode cM_enter 327 = .ok (.putfield 135, 3) := by decide +kernel
theorem dM_enter_330 : decode cM_enter 330 = .ok (.iconst 1, 1) := by decide +kernel
theorem dM_enter_331 : decode cM_enter 331 = .ok (.ireturn, 1) := by decide +kernel
theorem dM_refusal_0 : decode cM_refusal 0 = .ok (.aload_n 0, 1) := by decide +kernel
theorem dM_refusal_1 : decode cM_refusal 1 = .ok (.getfield 129, 3) := by decide +kernel
theorem dM_refusal_4 : decode cM_refusal 4 = .ok (.istore_n 1, 1) := by decide +kernel
theorem dM_refusal_5 : decode cM_refusal 5 = .ok (.iload_n 1, 1) := by decide +kernel
theorem dM_refusal_6 : decode cM_refusal 6 = .ok (.ifCond .ne 6, 3) := by decide +kernel
theorem dM_refusal_9 : decode cM_refusal 9 = .ok (.bipush (-4), 2) := by decide +kernel
theorem dM_refusal_11 : decode cM_refusal 11 = .ok (.ireturn, 1) := by decide +kernel
theorem dM_refusal_12 : decode cM_refusal 12 = .ok (.aload_n 0, 1) := by decide +kernel
theorem dM_refusal_13 : decode cM_refusal 13 = .ok (.getfield 135, 3) := by decide +kernel
theorem dM_refusal_16 : decode cM_refusal 16 = .ok (.aload_n 0, 1) := by decide +kernel
theorem dM_refusal_17 : decode cM_refusal 17 = .ok (.getfield 19, 3) := by decide +kernel
theorem dM_refusal_20 : decode cM_refusal 20 = .ok (.iload_n 1, 1) := by decide +kernel
theorem dM_refusal_21 : decode cM_refusal 21 = .ok (.iaload, 1) := by decide +kernel
theorem dM_refusal_22 : decode cM_refusal 22 = .ok (.if_icmp .le 7, 3) := by decide +kernel
theorem dM_refusal_25 : decode cM_refusal 25 = .ok (.iconst 1, 1) := by decide +kernel
theorem dM_refusal_26 : decode cM_refusal 26 = .ok (.goto 4, 3) := by decide +kernel
theorem dM_refusal_29 : decode cM_refusal 29 = .ok (.iconst 0, 1) := by decide +kernel
theorem dM_refusal_30 : decode cM_refusal 30 = .ok (.istore_n 2, 1) := by decide +kernel
theorem dM_refusal_31 : decode cM_refusal 31 = .ok (.iconst 0, 1) := by decide +kernel
theorem dM_refusal_32 : decode cM_refusal 32 = .ok (.istore_n 3, 1) := by decide +kernel
theorem dM_refusal_33 : decode cM_refusal 33 = .ok (.iload_n 3, 1) := by decide +kernel
theorem dM_refusal_34 : decode cM_refusal 34 = .ok (.aload_n 0, 1) := by decide +kernel
theorem dM_refusal_35 : decode cM_refusal 35 = .ok (.getfield 19, 3) := by decide +kernel
theorem dM_refusal_38 : decode cM_refusal 38 = .ok (.iload_n 1, 1) := by decide +kernel
theorem dM_refusal_39 : decode cM_refusal 39 = .ok (.iaload, 1) := by decide +kernel
theorem dM_refusal_40 : decode cM_refusal 40 = .ok (.if_icmp .ge 54, 3) := by decide +kernel
theorem dM_refusal_43 : decode cM_refusal 43 = .ok (.iload_n 2, 1) := by decide +kernel
theorem dM_refusal_44 : decode cM_refusal 44 = .ok (.ifCond .ne 38, 3) := by decide +kernel
theorem dM_refusal_47 : decode cM_refusal 47 = .ok (.iload_n 3, 1) := by decide +kernel
theorem dM_refusal_48 : decode cM_refusal 48 = .ok (.aload_n 0, 1) := by decide +kernel
theorem dM_refusal_49 : decode cM_refusal 49 = .ok (.getfield 135, 3) := by decide +kernel
theorem dM_refusal_52 : decode cM_refusal 52 = .ok (.if_icmp .ge 13, 3) := by decide +kernel
theorem dM_refusal_55 : decode cM_refusal 55 = .ok (.aload_n 0, 1) := by decide +kernel
theorem dM_refusal_56 : decode cM_refusal 56 = .ok (.getfield 68, 3) := by decide +kernel
theorem dM_refusal_59 : decode cM_refusal 59 = .ok (.iload_n 3, 1) := by decide +kernel
theorem dM_refusal_60 : decode cM_refusal 60 = .ok (.iaload, 1) := by decide +kernel
theorem dM_refusal_61 : decode cM_refusal 61 = .ok (.iconst (-1), 1) := by decide +kernel
theorem dM_refusal_62 : decode cM_refusal 62 = .ok (.if_icmp .ne 24, 3) := by decide +kernel
theorem dM_refusal_65 : decode cM_refusal 65 = .ok (.aload_n 0, 1) := by decide +kernel
theorem dM_refusal_66 : decode cM_refusal 66 = .ok (.getfield 42, 3) := by decide +kernel
theorem dM_refusal_69 : decode cM_refusal 69 = .ok (.bipush 16, 2) := by decide +kernel
theorem dM_refusal_71 : decode cM_refusal 71 = .ok (.iload_n 1, 1) := by decide +kernel
theorem dM_refusal_72 : decode cM_refusal 72 = .ok (.iconst 1, 1) := by decide +kernel
theorem dM_refusal_73 : decode cM_refusal 73 = .ok (.isub, 1) := by decide +kernel
theorem dM_refusal_74 : decode cM_refusal 74 = .ok (.imul, 1) := by decide +kernel
theorem dM_refusal_75 : decode cM_refusal 75 = .ok (.iload_n 3, 1) := by decide +kernel
theorem dM_refusal_76 : decode cM_refusal 76 = .ok (.iadd, 1) := by decide +kernel
theorem dM_refusal_77 : decode cM_refusal 77 = .ok (.iaload, 1) := by decide +kernel
theorem dM_refusal_78 : decode cM_refusal 78 = .ok (.iconst 2, 1) := by decide +kernel
theorem dM_refusal_79 : decode cM_refusal 79 = .ok (.if_icmp .ge 7, 3) := by decide +kernel
theorem dM_refusal_82 : decode cM_refusal 82 = .ok (.iconst 1, 1) := by decide +kernel
theorem dM_refusal_83 : decode cM_refusal 83 = .ok (.goto 4, 3) := by decide +kernel
theorem dM_refusal_86 : decode cM_refusal 86 = .ok (.iconst 0, 1) := by decide +kernel
theorem dM_refusal_87 : decode cM_refusal 87 = .ok (.istore_n 2, 1) := by decide +kernel
theorem dM_refusal_88 : decode cM_refusal 88 = .ok (.iinc 3 1, 3) := by decide +kernel
theorem dM_refusal_91 : decode cM_refusal 91 = .ok (.goto (-58), 3) := by decide +kernel
theorem dM_refusal_94 : decode cM_refusal 94 = .ok (.iload_n 2, 1) := by decide +kernel
theorem dM_refusal_95 : decode cM_refusal 95 = .ok (.ifCond .eq 6, 3) := by decide +kernel
theorem dM_refusal_98 : decode cM_refusal 98 = .ok (.bipush (-7), 2) := by decide +kernel
theorem dM_refusal_100 : decode cM_refusal 100 = .ok (.ireturn, 1) := by decide +kernel
theorem dM_refusal_101 : decode cM_refusal 101 = .ok (.iconst 0, 1) := by decide +kernel
theorem dM_refusal_102 : decode cM_refusal 102 = .ok (.istore_n 3, 1) := by decide +kernel
theorem dM_refusal_103 : decode cM_refusal 103 = .ok (.iload_n 3, 1) := by decide +kernel
theorem dM_refusal_104 : decode cM_refusal 104 = .ok (.aload_n 0, 1) := by decide +kernel
theorem dM_refusal_105 : decode cM_refusal 105 = .ok (.getfield 135, 3) := by decide +kernel
theorem dM_refusal_108 : decode cM_refusal 108 = .ok (.if_icmp .ge 44, 3) := by decide +kernel
theorem dM_refusal_111 : decode cM_refusal 111 = .ok (.aload_n 0, 1) := by decide +kernel
theorem dM_refusal_112 : decode cM_refusal 112 = .ok (.getfield 68, 3) := by decide +kernel
theorem dM_refusal_115 : decode cM_refusal 115 = .ok (.iload_n 3, 1) := by decide +kernel
theorem dM_refusal_116 : decode cM_refusal 116 = .ok (.iaload, 1) := by decide +kernel
theorem dM_refusal_117 : decode cM_refusal 117 = .ok (.iconst (-1), 1) := by decide +kernel
theorem dM_refusal_118 : decode cM_refusal 118 = .ok (.if_icmp .eq 28, 3) := by decide +kernel
theorem dM_refusal_121 : decode cM_refusal 121 = .ok (.aload_n 0, 1) := by decide +kernel
theorem dM_refusal_122 : decode cM_refusal 122 = .ok (.getfield 71, 3) := by decide +kernel
theorem dM_refusal_125 : decode cM_refusal 125 = .ok (.iload_n 3, 1) := by decide +kernel
theorem dM_refusal_126 : decode cM_refusal 126 = .ok (.iaload, 1) := by decide +kernel
theorem dM_refusal_127 : decode cM_refusal 127 = .ok (.aload_n 0, 1) := by decide +kernel
theorem dM_refusal_128 : decode cM_refusal 128 = .ok (.getfield 45, 3) := by decide +kernel
theorem dM_refusal_131 : decode cM_refusal 131 = .ok (.bipush 16, 2) := by decide +kernel
theorem dM_refusal_133 : decode cM_refusal 133 = .ok (.iload_n 1, 1) := by decide +kernel
theorem dM_refusal_134 : decode cM_refusal 134 = .ok (.iconst 1, 1) := by decide +kernel
theorem dM_refusal_135 : decode cM_refusal 135 = .ok (.isub, 1) := by decide +kernel
theorem dM_refusal_136 : decode cM_refusal 136 = .ok (.imul, 1) := by decide +kernel
theorem dM_refusal_137 : decode cM_refusal 137 = .ok (.iload_n 3, 1) := by decide +kernel
theorem dM_refusal_138 : decode cM_refusal 138 = .ok (.iadd, 1) := by decide +kernel
theorem dM_refusal_139 : decode cM_refusal 139 = .ok (.iaload, 1) := by decide +kernel
theorem dM_refusal_140 : decode cM_refusal 140 = .ok (.if_icmp .ge 6, 3) := by decide +kernel
theorem dM_refusal_143 : decode cM_refusal 143 = .ok (.bipush (-8), 2) := by decide +kernel
theorem dM_refusal_145 : decode cM_refusal 145 = .ok (.ireturn, 1) := by decide +kernel
theorem dM_refusal_146 : decode cM_refusal 146 = .ok (.iinc 3 1, 3) := by decide +kernel
theorem dM_refusal_149 : decode cM_refusal 149 = .ok (.goto (-46), 3) := by decide +kernel
theorem dM_refusal_152 : decode cM_refusal 152 = .ok (.iconst 1, 1) := by decide +kernel
theorem dM_refusal_153 : decode cM_refusal 153 = .ok (.ireturn, 1) := by decide +kernel
theorem dM_leave_0 : decode cM_leave 0 = .ok (.aload_n 0, 1) := by decide +kernel
theorem dM_leave_1 : decode cM_leave 1 = .ok (.iconst 0, 1) := by decide +kernel
theorem dM_leave_2 : decode cM_leave 2 = .ok (.putfield 78, 3) := by decide +kernel
theorem dM_leave_5 : decode cM_leave 5 = .ok (.aload_n 0, 1) := by decide +kernel
theorem dM_leave_6 : decode cM_leave 6 = .ok (.getfield 84, 3) := by decide +kernel
theorem dM_leave_9 : decode cM_leave 9 = .ok (.ifCond .ne 6, 3) := by decide +kernel
theorem dM_leave_12 : decode cM_leave 12 = .ok (.bipush (-4), 2) := by decide +kernel
theorem dM_leave_14 : decode cM_leave 14 = .ok (.ireturn, 1) := by decide +kernel
theorem dM_leave_15 : decode cM_leave 15 = .ok (.aload_n 0, 1) := by decide +kernel
theorem dM_leave_16 : decode cM_leave 16 = .ok (.invokevirtual 138, 3) := by decide +kernel
theorem dM_leave_19 : decode cM_leave 19 = .ok (.aload_n 0, 1) := by decide +kernel
theorem dM_leave_20 : decode cM_leave 20 = .ok (.invokevirtual 108, 3) := by decide +kernel
theorem dM_leave_23 : decode cM_leave 23 = .ok (.istore_n 3, 1) := by decide +kernel
theorem dM_leave_24 : decode cM_leave 24 = .ok (.aload_n 0, 1) := by decide +kernel
theorem dM_leave_25 : decode cM_leave 25 = .ok (.dup, 1) := by decide +kernel
theorem dM_leave_26 : decode cM_leave 26 = .ok (.getfield 84, 3) := by decide +kernel
theorem dM_leave_29 : decode cM_leave 29 = .ok (.iconst 1, 1) := by decide +kernel
theorem dM_leave_30 : decode cM_leave 30 = .ok (.isub, 1) := by decide +kernel
theorem dM_leave_31 : decode cM_leave 31 = .ok (.putfield 84, 3) := by decide +kernel
theorem dM_leave_34 : decode cM_leave 34 = .ok (.aload_n 0, 1) := by decide +kernel
theorem dM_leave_35 : decode cM_leave 35 = .ok (.aload_n 0, 1) := by decide +kernel
theorem dM_leave_36 : decode cM_leave 36 = .ok (.getfield 62, 3) := by decide +kernel
theorem dM_leave_39 : decode cM_leave 39 = .ok (.aload_n 0, 1) := by decide +kernel
theorem dM_leave_40 : decode cM_leave 40 = .ok (.getfield 84, 3) := by decide +kernel
theorem dM_leave_43 : decode cM_leave 43 = .ok (.iaload, 1) := by decide +kernel
theorem dM_leave_44 : decode cM_leave 44 = .ok (.putfield 52, 3) := by decide +kernel
theorem dM_leave_47 : decode cM_leave 47 = .ok (.aload_n 0, 1) := by decide +kernel
theorem dM_leave_48 : decode cM_leave 48 = .ok (.getfield 22, 3) := by decide +kernel
theorem dM_leave_51 : decode cM_leave 51 = .ok (.iload_n 3, 1) := by decide +kernel
theorem dM_leave_52 : decode cM_leave 52 = .ok (.dup2, 1) := by decide +kernel
theorem dM_leave_53 : decode cM_leave 53 = .ok (.iaload, 1) := by decide +kernel
theorem dM_leave_54 : decode cM_leave 54 = .ok (.iconst 1, 1) := by decide +kernel
theorem dM_leave_55 : decode cM_leave 55 = .ok (.isub, 1) := by decide +kernel
theorem dM_leave_56 : decode cM_leave 56 = .ok (.iastore, 1) := by decide +kernel
theorem dM_leave_57 : decode cM_leave 57 = .ok (.aload_n 0, 1) := by decide +kernel
theorem dM_leave_58 : decode cM_leave 58 = .ok (.getfield 25, 3) := by decide +kernel
theorem dM_leave_61 : decode cM_leave 61 = .ok (.iload_n 3, 1) := by decide +kernel
theorem dM_leave_62 : decode cM_leave 62 = .ok (.aload_n 0, 1) := by decide +kernel
theorem dM_leave_63 : decode cM_leave 63 = .ok (.getfield 25, 3) := by decide +kernel
theorem dM_leave_66 : decode cM_leave 66 = .ok (.iload_n 3, 1) := by decide +kernel
theorem dM_leave_67 : decode cM_leave 67 = .ok (.baload, 1) := by decide +kernel
theorem dM_leave_68 : decode cM_leave 68 = .ok (.ifCond .eq 25, 3) := by decide +kernel
theorem dM_leave_71 : decode cM_leave 71 = .ok (.aload_n 0, 1) := by decide +kernel
theorem dM_leave_72 : decode cM_leave 72 = .ok (.iload_n 3, 1) := by decide +kernel
theorem dM_leave_73 : decode cM_leave 73 = .ok (.iconst 1, 1) := by decide +kernel
theorem dM_leave_74 : decode cM_leave 74 = .ok (.invokevirtual 101, 3) := by decide +kernel
theorem dM_leave_77 : decode cM_leave 77 = .ok (.ifCond .ne 16, 3) := by decide +kernel
theorem dM_leave_80 : decode cM_leave 80 = .ok (.aload_n 0, 1) := by decide +kernel
theorem dM_leave_81 : decode cM_leave 81 = .ok (.iload_n 3, 1) := by decide +kernel
theorem dM_leave_82 : decode cM_leave 82 = .ok (.iconst 4, 1) := by decide +kernel
theorem dM_leave_83 : decode cM_leave 83 = .ok (.invokevirtual 101, 3) := by decide +kernel
theorem dM_leave_86 : decode cM_leave 86 = .ok (.ifCond .ne 7, 3) := by decide +kernel
theorem dM_leave_89 : decode cM_leave 89 = .ok (.iconst 1, 1) := by decide +kernel
theorem dM_leave_90 : decode cM_leave 90 = .ok (.goto 4, 3) := by decide +kernel
theorem dM_leave_93 : decode cM_leave 93 = .ok (.iconst 0, 1) := by decide +kernel
theorem dM_leave_94 : decode cM_leave 94 = .ok (.bastore, 1) := by decide +kernel
theorem dM_leave_95 : decode cM_leave 95 = .ok (.aload_n 0, 1) := by decide +kernel
theorem dM_leave_96 : decode cM_leave 96 = .ok (.lload_n 1, 1) := by decide +kernel
theorem dM_leave_97 : decode cM_leave 97 = .ok (.putfield 154, 3) := by decide +kernel
theorem dM_leave_100 : decode cM_leave 100 = .ok (.aload_n 0, 1) := by decide +kernel
theorem dM_leave_101 : decode cM_leave 101 = .ok (.invokevirtual 108, 3) := by decide +kernel
theorem dM_leave_104 : decode cM_leave 104 = .ok (.ireturn, 1) := by decide +kernel
theorem dM_cancel_0 : decode cM_cancel 0 = .ok (.aload_n 0, 1) := by decide +kernel
theorem dM_cancel_1 : decode cM_cancel 1 = .ok (.iconst 0, 1) := by decide +kernel
theorem dM_cancel_2 : decode cM_cancel 2 = .ok (.putfield 78, 3) := by decide +kernel
theorem dM_cancel_5 : decode cM_cancel 5 = .ok (.aload_n 0, 1) := by decide +kernel
theorem dM_cancel_6 : decode cM_cancel 6 = .ok (.iload_n 1, 1) := by decide +kernel
theorem dM_cancel_7 : decode cM_cancel 7 = .ok (.iload_n 2, 1) := by decide +kernel
theorem dM_cancel_8 : decode cM_cancel 8 = .ok (.invokevirtual 141, 3) := by decide +kernel
theorem dM_cancel_11 : decode cM_cancel 11 = .ok (.ifCond .ne 6, 3) := by decide +kernel
theorem dM_cancel_14 : decode cM_cancel 14 = .ok (.bipush (-2), 2) := by decide +kernel
theorem dM_cancel_16 : decode cM_cancel 16 = .ok (.ireturn, 1) := by decide +kernel
theorem dM_cancel_17 : decode cM_cancel 17 = .ok (.aload_n 0, 1) := by decide +kernel
theorem dM_cancel_18 : decode cM_cancel 18 = .ok (.iload_n 1, 1) := by decide +kernel
theorem dM_cancel_19 : decode cM_cancel 19 = .ok (.iload_n 2, 1) := by decide +kernel
theorem dM_cancel_20 : decode cM_cancel 20 = .ok (.invokevirtual 144, 3) := by decide +kernel
theorem dM_cancel_23 : decode cM_cancel 23 = .ok (.istore_n 3, 1) := by decide +kernel
theorem dM_cancel_24 : decode cM_cancel 24 = .ok (.iload_n 3, 1) := by decide +kernel
theorem dM_cancel_25 : decode cM_cancel 25 = .ok (.ifCond .ne 6, 3) := by decide +kernel
theorem dM_cancel_28 : decode cM_cancel 28 = .ok (.bipush (-3), 2) := by decide +kernel
theorem dM_cancel_30 : decode cM_cancel 30 = .ok (.ireturn, 1) := by decide +kernel
theorem dM_cancel_31 : decode cM_cancel 31 = .ok (.iconst 1, 1) := by decide +kernel
theorem dM_cancel_32 : decode cM_cancel 32 = .ok (.istore 4, 2) := by decide +kernel
theorem dM_cancel_34 : decode cM_cancel 34 = .ok (.iload 4, 2) := by decide +kernel
theorem dM_cancel_36 : decode cM_cancel 36 = .ok (.aload_n 0, 1) := by decide +kernel
theorem dM_cancel_37 : decode cM_cancel 37 = .ok (.getfield 81, 3) := by decide +kernel
theorem dM_cancel_40 : decode cM_cancel 40 = .ok (.if_icmp .gt 32, 3) := by decide +kernel
theorem dM_cancel_43 : decode cM_cancel 43 = .ok (.aload_n 0, 1) := by decide +kernel
theorem dM_cancel_44 : decode cM_cancel 44 = .ok (.iload 4, 2) := by decide +kernel
theorem dM_cancel_46 : decode cM_cancel 46 = .ok (.iload_n 3, 1) := by decide +kernel
theorem dM_cancel_47 : decode cM_cancel 47 = .ok (.invokevirtual 105, 3) := by decide +kernel
theorem dM_cancel_50 : decode cM_cancel 50 = .ok (.ifCond .eq 16, 3) := by decide +kernel
theorem dM_cancel_53 : decode cM_cancel 53 = .ok (.aload_n 0, 1) := by decide +kernel
theorem dM_cancel_54 : decode cM_cancel 54 = .ok (.getfield 22, 3) := by decide +kernel
theorem dM_cancel_57 : decode cM_cancel 57 = .ok (.iload 4, 2) := by decide +kernel
theorem dM_cancel_59 : decode cM_cancel 59 = .ok (.iaload, 1) := by decide +kernel
theorem dM_cancel_60 : decode cM_cancel 60 = .ok (.ifCond .le 6, 3) := by decide +kernel
theorem dM_cancel_63 : decode cM_cancel 63 = .ok (.bipush (-5), 2) := by decide +kernel
theorem dM_cancel_65 : decode cM_cancel 65 = .ok (.ireturn, 1) := by decide +kernel
theorem dM_cancel_66 : decode cM_cancel 66 = .ok (.iinc 4 1, 3) := by decide +kernel
theorem dM_cancel_69 : decode cM_cancel 69 = .ok (.goto (-35), 3) := by decide +kernel
theorem dM_cancel_72 : decode cM_cancel 72 = .ok (.iconst 0, 1) := by decide +kernel
theorem dM_cancel_73 : decode cM_cancel 73 = .ok (.istore 4, 2) := by decide +kernel
theorem dM_cancel_75 : decode cM_cancel 75 = .ok (.iconst 1, 1) := by decide +kernel
theorem dM_cancel_76 : decode cM_cancel 76 = .ok (.istore 5, 2) := by decide +kernel
theorem dM_cancel_78 : decode cM_cancel 78 = .ok (.iload 5, 2) := by decide +kernel
theorem dM_cancel_80 : decode cM_cancel 80 = .ok (.aload_n 0, 1) := by decide +kernel
theorem dM_cancel_81 : decode cM_cancel 81 = .ok (.getfield 81, 3) := by decide +kernel
theorem dM_cancel_84 : decode cM_cancel 84 = .ok (.if_icmp .gt 104, 3) := by decide +kernel
theorem dM_cancel_87 : decode cM_cancel 87 = .ok (.aload_n 0, 1) := by decide +kernel
theorem dM_cancel_88 : decode cM_cancel 88 = .ok (.iload 5, 2) := by decide +kernel
theorem dM_cancel_90 : decode cM_cancel 90 = .ok (.iload_n 3, 1) := by decide +kernel
theorem dM_cancel_91 : decode cM_cancel 91 = .ok (.invokevirtual 105, 3) := by decide +kernel
theorem dM_cancel_94 : decode cM_cancel 94 = .ok (.ifCond .ne 6, 3) := by decide +kernel
theorem dM_cancel_97 : decode cM_cancel 97 = .ok (.goto 85, 3) := by decide +kernel
theorem dM_cancel_100 : decode cM_cancel 100 = .ok (.iload 4, 2) := by decide +kernel
theorem dM_cancel_102 : decode cM_cancel 102 = .ok (.aload_n 0, 1) := by decide +kernel
theorem dM_cancel_103 : decode cM_cancel 103 = .ok (.getfield 25, 3) := by decide +kernel
theorem dM_cancel_106 : decode cM_cancel 106 = .ok (.iload 5, 2) := by decide +kernel
theorem dM_cancel_108 : decode cM_cancel 108 = .ok (.baload, 1) := by decide +kernel
theorem dM_cancel_109 : decode cM_cancel 109 = .ok (.ifCond .eq 7, 3) := by decide +kernel
theorem dM_cancel_112 : decode cM_cancel 112 = .ok (.iconst 1, 1) := by decide +kernel
theorem dM_cancel_113 : decode cM_cancel 113 = .ok (.goto 4, 3) := by decide +kernel
theorem dM_cancel_116 : decode cM_cancel 116 = .ok (.iconst 0, 1) := by decide +kernel
theorem dM_cancel_117 : decode cM_cancel 117 = .ok (.iadd, 1) := by decide +kernel
theorem dM_cancel_118 : decode cM_cancel 118 = .ok (.istore 4, 2) := by decide +kernel
theorem dM_cancel_120 : decode cM_cancel 120 = .ok (.aload_n 0, 1) := by decide +kernel
theorem dM_cancel_121 : decode cM_cancel 121 = .ok (.getfield 25, 3) := by decide +kernel
theorem dM_cancel_124 : decode cM_cancel 124 = .ok (.iload 5, 2) := by decide +kernel
theorem dM_cancel_126 : decode cM_cancel 126 = .ok (.iconst 0, 1) := by decide +kernel
theorem dM_cancel_127 : decode cM_cancel 127 = .ok (.bastore, 1) := by decide +kernel
theorem dM_cancel_128 : decode cM_cancel 128 = .ok (.iconst 0, 1) := by decide +kernel
theorem dM_cancel_129 : decode cM_cancel 129 = .ok (.istore 6, 2) := by decide +kernel
theorem dM_cancel_131 : decode cM_cancel 131 = .ok (.iload 6, 2) := by decide +kernel
theorem dM_cancel_133 : decode cM_cancel 133 = .ok (.aload_n 0, 1) := by decide +kernel
theorem dM_cancel_134 : decode cM_cancel 134 = .ok (.getfield 98, 3) := by decide +kernel
theorem dM_cancel_137 : decode cM_cancel 137 = .ok (.if_icmp .ge 45, 3) := by decide +kernel
theorem dM_cancel_140 : decode cM_cancel 140 = .ok (.aload_n 0, 1) := by decide +kernel
theorem dM_cancel_141 : decode cM_cancel 141 = .ok (.getfield 49, 3) := by decide +kernel
theorem dM_cancel_144 : decode cM_cancel 144 = .ok (.iload 6, 2) := by decide +kernel
theorem dM_cancel_146 : decode cM_cancel 146 = .ok (.aload_n 0, 1) := by decide +kernel
theorem dM_cancel_147 : decode cM_cancel 147 = .ok (.getfield 29, 3) := by decide +kernel
theorem dM_cancel_150 : decode cM_cancel 150 = .ok (.iload 6, 2) := by decide +kernel
theorem dM_cancel_152 : decode cM_cancel 152 = .ok (.iaload, 1) := by decide +kernel
theorem dM_cancel_153 : decode cM_cancel 153 = .ok (.iload 5, 2) := by decide +kernel
theorem dM_cancel_155 : decode cM_cancel 155 = .ok (.if_icmp .ne 13, 3) := by decide +kernel
theorem dM_cancel_158 : decode cM_cancel 158 = .ok (.aload_n 0, 1) := by decide +kernel
theorem dM_cancel_159 : decode cM_cancel 159 = .ok (.getfield 38, 3) := by decide +kernel
theorem dM_cancel_162 : decode cM_cancel 162 = .ok (.iload 6, 2) := by decide +kernel
theorem dM_cancel_164 : decode cM_cancel 164 = .ok (.laload, 1) := by decide +kernel
theorem dM_cancel_165 : decode cM_cancel 165 = .ok (.goto 10, 3) := by decide +kernel
theorem dM_cancel_168 : decode cM_cancel 168 = .ok (.aload_n 0, 1) := by decide +kernel
theorem dM_cancel_169 : decode cM_cancel 169 = .ok (.getfield 49, 3) := by decide +kernel
theorem dM_cancel_172 : decode cM_cancel 172 = .ok (.iload 6, 2) := by decide +kernel
theorem dM_cancel_174 : decode cM_cancel 174 = .ok (.laload, 1) := by decide +kernel
theorem dM_cancel_175 : decode cM_cancel 175 = .ok (.lastore, 1) := by decide +kernel
theorem dM_cancel_176 : decode cM_cancel 176 = .ok (.iinc 6 1, 3) := by decide +kernel
theorem dM_cancel_179 : decode cM_cancel 179 = .ok (.goto (-48), 3) := by decide +kernel
theorem dM_cancel_182 : decode cM_cancel 182 = .ok (.iinc 5 1, 3) := by decide +kernel
theorem dM_cancel_185 : decode cM_cancel 185 = .ok (.goto (-107), 3) := by decide +kernel
theorem dM_cancel_188 : decode cM_cancel 188 = .ok (.iload 4, 2) := by decide +kernel
theorem dM_cancel_190 : decode cM_cancel 190 = .ok (.ireturn, 1) := by decide +kernel
theorem dM_state_0 : decode cM_state 0 = .ok (.aload_n 0, 1) := by decide +kernel
theorem dM_state_1 : decode cM_state 1 = .ok (.iconst 0, 1) := by decide +kernel
theorem dM_state_2 : decode cM_state 2 = .ok (.putfield 78, 3) := by decide +kernel
theorem dM_state_5 : decode cM_state 5 = .ok (.aload_n 0, 1) := by decide +kernel
theorem dM_state_6 : decode cM_state 6 = .ok (.iload_n 1, 1) := by decide +kernel
theorem dM_state_7 : decode cM_state 7 = .ok (.invokevirtual 95, 3) := by decide +kernel
theorem dM_state_10 : decode cM_state 10 = .ok (.ifCond .ne 7, 3) := by decide +kernel
theorem dM_state_13 : decode cM_state 13 = .ok (.iconst (-1), 1) := by decide +kernel
theorem dM_state_14 : decode cM_state 14 = .ok (.goto 30, 3) := by decide +kernel
theorem dM_state_17 : decode cM_state 17 = .ok (.aload_n 0, 1) := by decide +kernel
theorem dM_state_18 : decode cM_state 18 = .ok (.getfield 22, 3) := by decide +kernel
theorem dM_state_21 : decode cM_state 21 = .ok (.iload_n 1, 1) := by decide +kernel
theorem dM_state_22 : decode cM_state 22 = .ok (.iaload, 1) := by decide +kernel
theorem dM_state_23 : decode cM_state 23 = .ok (.ifCond .le 7, 3) := by decide +kernel
theorem dM_state_26 : decode cM_state 26 = .ok (.iconst 2, 1) := by decide +kernel
theorem dM_state_27 : decode cM_state 27 = .ok (.goto 17, 3) := by decide +kernel
theorem dM_state_30 : decode cM_state 30 = .ok (.aload_n 0, 1) := by decide +kernel
theorem dM_state_31 : decode cM_state 31 = .ok (.getfield 25, 3) := by decide +kernel
theorem dM_state_34 : decode cM_state 34 = .ok (.iload_n 1, 1) := by decide +kernel
theorem dM_state_35 : decode cM_state 35 = .ok (.baload, 1) := by decide +kernel
theorem dM_state_36 : decode cM_state 36 = .ok (.ifCond .eq 7, 3) := by decide +kernel
theorem dM_state_39 : decode cM_state 39 = .ok (.iconst 1, 1) := by decide +kernel
theorem dM_state_40 : decode cM_state 40 = .ok (.goto 4, 3) := by decide +kernel
theorem dM_state_43 : decode cM_state 43 = .ok (.iconst 0, 1) := by decide +kernel
theorem dM_state_44 : decode cM_state 44 = .ok (.ireturn, 1) := by decide +kernel
theorem dM_returned_0 : decode cM_returned 0 = .ok (.aload_n 0, 1) := by decide +kernel
theorem dM_returned_1 : decode cM_returned 1 = .ok (.iconst 0, 1) := by decide +kernel
theorem dM_returned_2 : decode cM_returned 2 = .ok (.putfield 78, 3) := by decide +kernel
theorem dM_returned_5 : decode cM_returned 5 = .ok (.aload_n 0, 1) := by decide +kernel
theorem dM_returned_6 : decode cM_returned 6 = .ok (.getfield 154, 3) := by decide +kernel
theorem dM_returned_9 : decode cM_returned 9 = .ok (.lreturn, 1) := by decide +kernel
theorem dM_count_0 : decode cM_count 0 = .ok (.aload_n 0, 1) := by decide +kernel
theorem dM_count_1 : decode cM_count 1 = .ok (.iconst 0, 1) := by decide +kernel
theorem dM_count_2 : decode cM_count 2 = .ok (.putfield 78, 3) := by decide +kernel
theorem dM_count_5 : decode cM_count 5 = .ok (.iload_n 1, 1) := by decide +kernel
theorem dM_count_6 : decode cM_count 6 = .ok (.tableswitch 93 0 6 #[42, 47, 52, 57, 62, 67, 72], 42) := by decide +kernel
theorem dM_count_48 : decode cM_count 48 = .ok (.aload_n 0, 1) := by decide +kernel
theorem dM_count_49 : decode cM_count 49 = .ok (.getfield 81, 3) := by decide +kernel
theorem dM_count_52 : decode cM_count 52 = .ok (.ireturn, 1) := by decide +kernel
theorem dM_count_53 : decode cM_count 53 = .ok (.aload_n 0, 1) := by decide +kernel
theorem dM_count_54 : decode cM_count 54 = .ok (.getfield 98, 3) := by decide +kernel
theorem dM_count_57 : decode cM_count 57 = .ok (.ireturn, 1) := by decide +kernel
theorem dM_count_58 : decode cM_count 58 = .ok (.aload_n 0, 1) := by decide +kernel
theorem dM_count_59 : decode cM_count 59 = .ok (.getfield 84, 3) := by decide +kernel
theorem dM_count_62 : decode cM_count 62 = .ok (.ireturn, 1) := by decide +kernel
theorem dM_count_63 : decode cM_count 63 = .ok (.aload_n 0, 1) := by decide +kernel
theorem dM_count_64 : decode cM_count 64 = .ok (.invokevirtual 108, 3) := by decide +kernel
theorem dM_count_67 : decode cM_count 67 = .ok (.ireturn, 1) := by decide +kernel
theorem dM_count_68 : decode cM_count 68 = .ok (.aload_n 0, 1) := by decide +kernel
theorem dM_count_69 : decode cM_count 69 = .ok (.getfield 129, 3) := by decide +kernel
theorem dM_count_72 : decode cM_count 72 = .ok (.ireturn, 1) := by decide +kernel
theorem dM_count_73 : decode cM_count 73 = .ok (.aload_n 0, 1) := by decide +kernel
theorem dM_count_74 : decode cM_count 74 = .ok (.getfield 135, 3) := by decide +kernel
theorem dM_count_77 : decode cM_count 77 = .ok (.ireturn, 1) := by decide +kernel
theorem dM_count_78 : decode cM_count 78 = .ok (.aload_n 0, 1) := by decide +kernel
theorem dM_count_79 : decode cM_count 79 = .ok (.invokevirtual 108, 3) := by decide +kernel
theorem dM_count_82 : decode cM_count 82 = .ok (.ifCond .ne 7, 3) := by decide +kernel
theorem dM_count_85 : decode cM_count 85 = .ok (.iconst 0, 1) := by decide +kernel
theorem dM_count_86 : decode cM_count 86 = .ok (.goto 12, 3) := by decide +kernel
theorem dM_count_89 : decode cM_count 89 = .ok (.aload_n 0, 1) := by decide +kernel
theorem dM_count_90 : decode cM_count 90 = .ok (.getfield 19, 3) := by decide +kernel
theorem dM_count_93 : decode cM_count 93 = .ok (.aload_n 0, 1) := by decide +kernel
theorem dM_count_94 : decode cM_count 94 = .ok (.invokevirtual 108, 3) := by decide +kernel
theorem dM_count_97 : decode cM_count 97 = .ok (.iaload, 1) := by decide +kernel
theorem dM_count_98 : decode cM_count 98 = .ok (.ireturn, 1) := by decide +kernel
theorem dM_count_99 : decode cM_count 99 = .ok (.iconst (-1), 1) := by decide +kernel
theorem dM_count_100 : decode cM_count 100 = .ok (.ireturn, 1) := by decide +kernel
end
section
theorem dW_cell_0 : decode cW_cell 0 = .ok (.iload_n 1, 1) := by decide +kernel
theorem dW_cell_1 : decode cW_cell 1 = .ok (.aload_n 0, 1) := by decide +kernel
theorem dW_cell_2 : decode cW_cell 2 = .ok (.arraylength, 1) := by decide +kernel
theorem dW_cell_3 : decode cW_cell 3 = .ok (.if_icmp .ge 9, 3) := by decide +kernel
theorem dW_cell_6 : decode cW_cell 6 = .ok (.aload_n 0, 1) := by decide +kernel
theorem dW_cell_7 : decode cW_cell 7 = .ok (.iload_n 1, 1) := by decide +kernel
theorem dW_cell_8 : decode cW_cell 8 = .ok (.iaload, 1) := by decide +kernel
theorem dW_cell_9 : decode cW_cell 9 = .ok (.goto 4, 3) := by decide +kernel
theorem dW_cell_12 : decode cW_cell 12 = .ok (.iconst 0, 1) := by decide +kernel
theorem dW_cell_13 : decode cW_cell 13 = .ok (.ireturn, 1) := by decide +kernel
theorem dW_get_0 : decode cW_get 0 = .ok (.aload_n 2, 1) := by decide +kernel
theorem dW_get_1 : decode cW_get 1 = .ok (.iconst 0, 1) := by decide +kernel
theorem dW_get_2 : decode cW_get 2 = .ok (.aload_n 0, 1) := by decide +kernel
theorem dW_get_3 : decode cW_get 3 = .ok (.iload_n 1, 1) := by decide +kernel
theorem dW_get_4 : decode cW_get 4 = .ok (.invokevirtual 7, 3) := by decide +kernel
theorem dW_get_7 : decode cW_get 7 = .ok (.lastore, 1) := by decide +kernel
theorem dW_get_8 : decode cW_get 8 = .ok (.goto 6, 3) := by decide +kernel
theorem dW_get_11 : decode cW_get 11 = .ok (.astore_n 3, 1) := by decide +kernel
theorem dW_get_12 : decode cW_get 12 = .ok (.iconst 1, 1) := by decide +kernel
theorem dW_get_13 : decode cW_get 13 = .ok (.ireturn, 1) := by decide +kernel
theorem dW_get_14 : decode cW_get 14 = .ok (.iconst 0, 1) := by decide +kernel
theorem dW_get_15 : decode cW_get 15 = .ok (.ireturn, 1) := by decide +kernel
theorem dW_law_0 : decode code 0 = .ok (.new 8, 3) := by decide +kernel
theorem dW_law_3 : decode code 3 = .ok (.dup, 1) := by decide +kernel
theorem dW_law_4 : decode code 4 = .ok (.aload_n 0, 1) := by decide +kernel
theorem dW_law_5 : decode code 5 = .ok (.iconst 0, 1) := by decide +kernel
theorem dW_law_6 : decode code 6 = .ok (.invokestatic 15, 3) := by decide +kernel
theorem dW_law_9 : decode code 9 = .ok (.invokespecial 21, 3) := by decide +kernel
theorem dW_law_12 : decode code 12 = .ok (.astore_n 1, 1) := by decide +kernel
theorem dW_law_13 : decode code 13 = .ok (.new 24, 3) := by decide +kernel
theorem dW_law_16 : decode code 16 = .ok (.dup, 1) := by decide +kernel
theorem dW_law_17 : decode code 17 = .ok (.aload_n 0, 1) := by decide +kernel
theorem dW_law_18 : decode code 18 = .ok (.iconst 0, 1) := by decide +kernel
theorem dW_law_19 : decode code 19 = .ok (.invokestatic 15, 3) := by decide +kernel
theorem dW_law_22 : decode code 22 = .ok (.invokespecial 26, 3) := by decide +kernel
theorem dW_law_25 : decode code 25 = .ok (.astore_n 2, 1) := by decide +kernel
theorem dW_law_26 : decode code 26 = .ok (.iconst 1, 1) := by decide +kernel
theorem dW_law_27 : decode code 27 = .ok (.newarray .long, 2) := by decide +kernel
theorem dW_law_29 : decode code 29 = .ok (.astore_n 3, 1) := by decide +kernel
theorem dW_law_30 : decode code 30 = .ok (.iconst 1, 1) := by decide +kernel
theorem dW_law_31 : decode code 31 = .ok (.istore 4, 2) := by decide +kernel
theorem dW_law_33 : decode code 33 = .ok (.iload 4, 2) := by decide +kernel
theorem dW_law_35 : decode code 35 = .ok (.aload_n 0, 1) := by decide +kernel
theorem dW_law_36 : decode code 36 = .ok (.arraylength, 1) := by decide +kernel
theorem dW_law_37 : decode code 37 = .ok (.iconst 4, 1) := by decide +kernel
theorem dW_law_38 : decode code 38 = .ok (.isub, 1) := by decide +kernel
theorem dW_law_39 : decode code 39 = .ok (.if_icmp .gt 648, 3) := by decide +kernel
theorem dW_law_42 : decode code 42 = .ok (.aload_n 0, 1) := by decide +kernel
theorem dW_law_43 : decode code 43 = .ok (.iload 4, 2) := by decide +kernel
theorem dW_law_45 : decode code 45 = .ok (.iaload, 1) := by decide +kernel
theorem dW_law_46 : decode code 46 = .ok (.bipush 15, 2) := by decide +kernel
theorem dW_law_48 : decode code 48 = .ok (.iand, 1) := by decide +kernel
theorem dW_law_49 : decode code 49 = .ok (.tableswitch 632 0 13 #[71, 120, 189, 238, 275, 312, 325, 394, 451, 506, 543, 568, 593, 607], 71) := by decide +kernel
theorem dW_law_120 : decode code 120 = .ok (.aload_n 1, 1) := by decide +kernel
theorem dW_law_121 : decode code 121 = .ok (.aload_n 0, 1) := by decide +kernel
theorem dW_law_122 : decode code 122 = .ok (.iload 4, 2) := by decide +kernel
theorem dW_law_124 : decode code 124 = .ok (.iconst 1, 1) := by decide +kernel
theorem dW_law_125 : decode code 125 = .ok (.iadd, 1) := by decide +kernel
theorem dW_law_126 : decode code 126 = .ok (.iaload, 1) := by decide +kernel
theorem dW_law_127 : decode code 127 = .ok (.aload_n 0, 1) := by decide +kernel
theorem dW_law_128 : decode code 128 = .ok (.iload 4, 2) := by decide +kernel
theorem dW_law_130 : decode code 130 = .ok (.iconst 2, 1) := by decide +kernel
theorem dW_law_131 : decode code 131 = .ok (.iadd, 1) := by decide +kernel
theorem dW_law_132 : decode code 132 = .ok (.iaload, 1) := by decide +kernel
theorem dW_law_133 : decode code 133 = .ok (.aload_n 0, 1) := by decide +kernel
theorem dW_law_134 : decode code 134 = .ok (.iload 4, 2) := by decide +kernel
theorem dW_law_136 : decode code 136 = .ok (.iconst 3, 1) := by decide +kernel
theorem dW_law_137 : decode code 137 = .ok (.iadd, 1) := by decide +kernel
theorem dW_law_138 : decode code 138 = .ok (.iaload, 1) := by decide +kernel
theorem dW_law_139 : decode code 139 = .ok (.invokevirtual 27, 3) := by decide +kernel
theorem dW_law_142 : decode code 142 = .ok (.aload_n 2, 1) := by decide +kernel
theorem dW_law_143 : decode code 143 = .ok (.aload_n 0, 1) := by decide +kernel
theorem dW_law_144 : decode code 144 = .ok (.iload 4, 2) := by decide +kernel
theorem dW_law_146 : decode code 146 = .ok (.iconst 1, 1) := by decide +kernel
theorem dW_law_147 : decode code 147 = .ok (.iadd, 1) := by decide +kernel
theorem dW_law_148 : decode code 148 = .ok (.iaload, 1) := by decide +kernel
theorem dW_law_149 : decode code 149 = .ok (.aload_n 0, 1) := by decide +kernel
theorem dW_law_150 : decode code 150 = .ok (.iload 4, 2) := by decide +kernel
theorem dW_law_152 : decode code 152 = .ok (.iconst 2, 1) := by decide +kernel
theorem dW_law_153 : decode code 153 = .ok (.iadd, 1) := by decide +kernel
theorem dW_law_154 : decode code 154 = .ok (.iaload, 1) := by decide +kernel
theorem dW_law_155 : decode code 155 = .ok (.aload_n 0, 1) := by decide +kernel
theorem dW_law_156 : decode code 156 = .ok (.iload 4, 2) := by decide +kernel
theorem dW_law_158 : decode code 158 = .ok (.iconst 3, 1) := by decide +kernel
theorem dW_law_159 : decode code 159 = .ok (.iadd, 1) := by decide +kernel
theorem dW_law_160 : decode code 160 = .ok (.iaload, 1) := by decide +kernel
theorem dW_law_161 : decode code 161 = .ok (.invokevirtual 31, 3) := by decide +kernel
theorem dW_law_164 : decode code 164 = .ok (.if_icmp .eq 517, 3) := by decide +kernel
theorem dW_law_167 : decode code 167 = .ok (.iconst 0, 1) := by decide +kernel
theorem dW_law_168 : decode code 168 = .ok (.ireturn, 1) := by decide +kernel
theorem dW_law_169 : decode code 169 = .ok (.aload_n 1, 1) := by decide +kernel
theorem dW_law_170 : decode code 170 = .ok (.aload_n 0, 1) := by decide +kernel
theorem dW_law_171 : decode code 171 = .ok (.iload 4, 2) := by decide +kernel
theorem dW_law_173 : decode code 173 = .ok (.iconst 1, 1) := by decide +kernel
theorem dW_law_174 : decode code 174 = .ok (.iadd, 1) := by decide +kernel
theorem dW_law_175 : decode code 175 = .ok (.iaload, 1) := by decide +kernel
theorem dW_law_176 : decode code 176 = .ok (.aload_n 0, 1) := by decide +kernel
theorem dW_law_177 : decode code 177 = .ok (.iload 4, 2) := by decide +kernel
theorem dW_law_179 : decode code 179 = .ok (.iconst 2, 1) := by decide +kernel
theorem dW_law_180 : decode code 180 = .ok (.iadd, 1) := by decide +kernel
theorem dW_law_181 : decode code 181 = .ok (.iaload, 1) := by decide +kernel
theorem dW_law_182 : decode code 182 = .ok (.i2l, 1) := by decide +kernel
theorem dW_law_183 : decode code 183 = .ok (.bipush 32, 2) := by decide +kernel
theorem dW_law_185 : decode code 185 = .ok (.lshl, 1) := by decide +kernel
theorem dW_law_186 : decode code 186 = .ok (.aload_n 0, 1) := by decide +kernel
theorem dW_law_187 : decode code 187 = .ok (.iload 4, 2) := by decide +kernel
theorem dW_law_189 : decode code 189 = .ok (.iconst 3, 1) := by decide +kernel
theorem dW_law_190 : decode code 190 = .ok (.iadd, 1) := by decide +kernel
theorem dW_law_191 : decode code 191 = .ok (.iaload, 1) := by decide +kernel
theorem dW_law_192 : decode code 192 = .ok (.i2l, 1) := by decide +kernel
theorem dW_law_193 : decode code 193 = .ok (.ldc2_w 32, 3) := by decide +kernel
theorem dW_law_196 : decode code 196 = .ok (.land, 1) := by decide +kernel
theorem dW_law_197 : decode code 197 = .ok (.lor, 1) := by decide +kernel
theorem dW_law_198 : decode code 198 = .ok (.invokevirtual 34, 3) := by decide +kernel
theorem dW_law_201 : decode code 201 = .ok (.aload_n 2, 1) := by decide +kernel
theorem dW_law_202 : decode code 202 = .ok (.aload_n 0, 1) := by decide +kernel
theorem dW_law_203 : decode code 203 = .ok (.iload 4, 2) := by decide +kernel
theorem dW_law_205 : decode code 205 = .ok (.iconst 1, 1) := by decide +kernel
theorem dW_law_206 : decode code 206 = .ok (.iadd, 1) := by decide +kernel
theorem dW_law_207 : decode code 207 = .ok (.iaload, 1) := by decide +kernel
theorem dW_law_208 : decode code 208 = .ok (.aload_n 0, 1) := by decide +kernel
theorem dW_law_209 : decode code 209 = .ok (.iload 4, 2) := by decide +kernel
theorem dW_law_211 : decode code 211 = .ok (.iconst 2, 1) := by decide +kernel
theorem dW_law_212 : decode code 212 = .ok (.iadd, 1) := by decide +kernel
theorem dW_law_213 : decode code 213 = .ok (.iaload, 1) := by decide +kernel
theorem dW_law_214 : decode code 214 = .ok (.i2l, 1) := by decide +kernel
theorem dW_law_215 : decode code 215 = .ok (.bipush 32, 2) := by decide +kernel
theorem dW_law_217 : decode code 217 = .ok (.lshl, 1) := by decide +kernel
theorem dW_law_218 : decode code 218 = .ok (.aload_n 0, 1) := by decide +kernel
theorem dW_law_219 : decode code 219 = .ok (.iload 4, 2) := by decide +kernel
theorem dW_law_221 : decode code 221 = .ok (.iconst 3, 1) := by decide +kernel
theorem dW_law_222 : decode code 222 = .ok (.iadd, 1) := by decide +kernel
theorem dW_law_223 : decode code 223 = .ok (.iaload, 1) := by decide +kernel
theorem dW_law_224 : decode code 224 = .ok (.i2l, 1) := by decide +kernel
theorem dW_law_225 : decode code 225 = .ok (.ldc2_w 32, 3) := by decide +kernel
theorem dW_law_228 : decode code 228 = .ok (.land, 1) := by decide +kernel
theorem dW_law_229 : decode code 229 = .ok (.lor, 1) := by decide +kernel
theorem dW_law_230 : decode code 230 = .ok (.invokevirtual 37, 3) := by decide +kernel
theorem dW_law_233 : decode code 233 = .ok (.if_icmp .eq 448, 3) := by decide +kernel
theorem dW_law_236 : decode code 236 = .ok (.iconst 0, 1) := by decide +kernel
theorem dW_law_237 : decode code 237 = .ok (.ireturn, 1) := by decide +kernel
theorem dW_law_238 : decode code 238 = .ok (.aload_n 1, 1) := by decide +kernel
theorem dW_law_239 : decode code 239 = .ok (.aload_n 0, 1) := by decide +kernel
theorem dW_law_240 : decode code 240 = .ok (.iload 4, 2) := by decide +kernel
theorem dW_law_242 : decode code 242 = .ok (.iconst 1, 1) := by decide +kernel
theorem dW_law_243 : decode code 243 = .ok (.iadd, 1) := by decide +kernel
theorem dW_law_244 : decode code 244 = .ok (.iaload, 1) := by decide +kernel
theorem dW_law_245 : decode code 245 = .ok (.aload_n 0, 1) := by decide +kernel
theorem dW_law_246 : decode code 246 = .ok (.iload 4, 2) := by decide +kernel
theorem dW_law_248 : decode code 248 = .ok (.iconst 2, 1) := by decide +kernel
theorem dW_law_249 : decode code 249 = .ok (.iadd, 1) := by decide +kernel
theorem dW_law_250 : decode code 250 = .ok (.iaload, 1) := by decide +kernel
theorem dW_law_251 : decode code 251 = .ok (.aload_n 0, 1) := by decide +kernel
theorem dW_law_252 : decode code 252 = .ok (.iload 4, 2) := by decide +kernel
theorem dW_law_254 : decode code 254 = .ok (.iconst 3, 1) := by decide +kernel
theorem dW_law_255 : decode code 255 = .ok (.iadd, 1) := by decide +kernel
theorem dW_law_256 : decode code 256 = .ok (.iaload, 1) := by decide +kernel
theorem dW_law_257 : decode code 257 = .ok (.invokevirtual 38, 3) := by decide +kernel
theorem dW_law_260 : decode code 260 = .ok (.aload_n 2, 1) := by decide +kernel
theorem dW_law_261 : decode code 261 = .ok (.aload_n 0, 1) := by decide +kernel
theorem dW_law_262 : decode code 262 = .ok (.iload 4, 2) := by decide +kernel
theorem dW_law_264 : decode code 264 = .ok (.iconst 1, 1) := by decide +kernel
theorem dW_law_265 : decode code 265 = .ok (.iadd, 1) := by decide +kernel
theorem dW_law_266 : decode code 266 = .ok (.iaload, 1) := by decide +kernel
theorem dW_law_267 : decode code 267 = .ok (.aload_n 0, 1) := by decide +kernel
theorem dW_law_268 : decode code 268 = .ok (.iload 4, 2) := by decide +kernel
theorem dW_law_270 : decode code 270 = .ok (.iconst 2, 1) := by decide +kernel
theorem dW_law_271 : decode code 271 = .ok (.iadd, 1) := by decide +kernel
theorem dW_law_272 : decode code 272 = .ok (.iaload, 1) := by decide +kernel
theorem dW_law_273 : decode code 273 = .ok (.aload_n 0, 1) := by decide +kernel
theorem dW_law_274 : decode code 274 = .ok (.iload 4, 2) := by decide +kernel
theorem dW_law_276 : decode code 276 = .ok (.iconst 3, 1) := by decide +kernel
theorem dW_law_277 : decode code 277 = .ok (.iadd, 1) := by decide +kernel
theorem dW_law_278 : decode code 278 = .ok (.iaload, 1) := by decide +kernel
theorem dW_law_279 : decode code 279 = .ok (.invokevirtual 41, 3) := by decide +kernel
theorem dW_law_282 : decode code 282 = .ok (.if_icmp .eq 399, 3) := by decide +kernel
theorem dW_law_285 : decode code 285 = .ok (.iconst 0, 1) := by decide +kernel
theorem dW_law_286 : decode code 286 = .ok (.ireturn, 1) := by decide +kernel
theorem dW_law_287 : decode code 287 = .ok (.aload_n 1, 1) := by decide +kernel
theorem dW_law_288 : decode code 288 = .ok (.aload_n 0, 1) := by decide +kernel
theorem dW_law_289 : decode code 289 = .ok (.iload 4, 2) := by decide +kernel
theorem dW_law_291 : decode code 291 = .ok (.iconst 1, 1) := by decide +kernel
theorem dW_law_292 : decode code 292 = .ok (.iadd, 1) := by decide +kernel
theorem dW_law_293 : decode code 293 = .ok (.iaload, 1) := by decide +kernel
theorem dW_law_294 : decode code 294 = .ok (.aload_n 0, 1) := by decide +kernel
theorem dW_law_295 : decode code 295 = .ok (.iload 4, 2) := by decide +kernel
theorem dW_law_297 : decode code 297 = .ok (.iconst 2, 1) := by decide +kernel
theorem dW_law_298 : decode code 298 = .ok (.iadd, 1) := by decide +kernel
theorem dW_law_299 : decode code 299 = .ok (.iaload, 1) := by decide +kernel
theorem dW_law_300 : decode code 300 = .ok (.invokevirtual 42, 3) := by decide +kernel
theorem dW_law_303 : decode code 303 = .ok (.aload_n 2, 1) := by decide +kernel
theorem dW_law_304 : decode code 304 = .ok (.aload_n 0, 1) := by decide +kernel
theorem dW_law_305 : decode code 305 = .ok (.iload 4, 2) := by decide +kernel
theorem dW_law_307 : decode code 307 = .ok (.iconst 1, 1) := by decide +kernel
theorem dW_law_308 : decode code 308 = .ok (.iadd, 1) := by decide +kernel
theorem dW_law_309 : decode code 309 = .ok (.iaload, 1) := by decide +kernel
theorem dW_law_310 : decode code 310 = .ok (.aload_n 0, 1) := by decide +kernel
theorem dW_law_311 : decode code 311 = .ok (.iload 4, 2) := by decide +kernel
theorem dW_law_313 : decode code 313 = .ok (.iconst 2, 1) := by decide +kernel
theorem dW_law_314 : decode code 314 = .ok (.iadd, 1) := by decide +kernel
theorem dW_law_315 : decode code 315 = .ok (.iaload, 1) := by decide +kernel
theorem dW_law_316 : decode code 316 = .ok (.invokevirtual 46, 3) := by decide +kernel
theorem dW_law_319 : decode code 319 = .ok (.if_icmp .eq 362, 3) := by decide +kernel
theorem dW_law_322 : decode code 322 = .ok (.iconst 0, 1) := by decide +kernel
theorem dW_law_323 : decode code 323 = .ok (.ireturn, 1) := by decide +kernel
theorem dW_law_324 : decode code 324 = .ok (.aload_n 1, 1) := by decide +kernel
theorem dW_law_325 : decode code 325 = .ok (.aload_n 0, 1) := by decide +kernel
theorem dW_law_326 : decode code 326 = .ok (.iload 4, 2) := by decide +kernel
theorem dW_law_328 : decode code 328 = .ok (.iconst 1, 1) := by decide +kernel
theorem dW_law_329 : decode code 329 = .ok (.iadd, 1) := by decide +kernel
theorem dW_law_330 : decode code 330 = .ok (.iaload, 1) := by decide +kernel
theorem dW_law_331 : decode code 331 = .ok (.aload_n 0, 1) := by decide +kernel
theorem dW_law_332 : decode code 332 = .ok (.iload 4, 2) := by decide +kernel
theorem dW_law_334 : decode code 334 = .ok (.iconst 2, 1) := by decide +kernel
theorem dW_law_335 : decode code 335 = .ok (.iadd, 1) := by decide +kernel
theorem dW_law_336 : decode code 336 = .ok (.iaload, 1) := by decide +kernel
theorem dW_law_337 : decode code 337 = .ok (.invokevirtual 47, 3) := by decide +kernel
theorem dW_law_340 : decode code 340 = .ok (.aload_n 2, 1) := by decide +kernel
theorem dW_law_341 : decode code 341 = .ok (.aload_n 0, 1) := by decide +kernel
theorem dW_law_342 : decode code 342 = .ok (.iload 4, 2) := by decide +kernel
theorem dW_law_344 : decode code 344 = .ok (.iconst 1, 1) := by decide +kernel
theorem dW_law_345 : decode code 345 = .ok (.iadd, 1) := by decide +kernel
theorem dW_law_346 : decode code 346 = .ok (.iaload, 1) := by decide +kernel
theorem dW_law_347 : decode code 347 = .ok (.aload_n 0, 1) := by decide +kernel
theorem dW_law_348 : decode code 348 = .ok (.iload 4, 2) := by decide +kernel
theorem dW_law_350 : decode code 350 = .ok (.iconst 2, 1) := by decide +kernel
theorem dW_law_351 : decode code 351 = .ok (.iadd, 1) := by decide +kernel
theorem dW_law_352 : decode code 352 = .ok (.iaload, 1) := by decide +kernel
theorem dW_law_353 : decode code 353 = .ok (.invokevirtual 50, 3) := by decide +kernel
theorem dW_law_356 : decode code 356 = .ok (.if_icmp .eq 325, 3) := by decide +kernel
theorem dW_law_359 : decode code 359 = .ok (.iconst 0, 1) := by decide +kernel
theorem dW_law_360 : decode code 360 = .ok (.ireturn, 1) := by decide +kernel
theorem dW_law_361 : decode code 361 = .ok (.aload_n 1, 1) := by decide +kernel
theorem dW_law_362 : decode code 362 = .ok (.invokevirtual 51, 3) := by decide +kernel
theorem dW_law_365 : decode code 365 = .ok (.aload_n 2, 1) := by decide +kernel
theorem dW_law_366 : decode code 366 = .ok (.invokevirtual 55, 3) := by decide +kernel
theorem dW_law_369 : decode code 369 = .ok (.if_icmp .eq 312, 3) := by decide +kernel
theorem dW_law_372 : decode code 372 = .ok (.iconst 0, 1) := by decide +kernel
theorem dW_law_373 : decode code 373 = .ok (.ireturn, 1) := by decide +kernel
theorem dW_law_374 : decode code 374 = .ok (.aload_n 1, 1) := by decide +kernel
theorem dW_law_375 : decode code 375 = .ok (.aload_n 0, 1) := by decide +kernel
theorem dW_law_376 : decode code 376 = .ok (.iload 4, 2) := by decide +kernel
theorem dW_law_378 : decode code 378 = .ok (.iconst 1, 1) := by decide +kernel
theorem dW_law_379 : decode code 379 = .ok (.iadd, 1) := by decide +kernel
theorem dW_law_380 : decode code 380 = .ok (.iaload, 1) := by decide +kernel
theorem dW_law_381 : decode code 381 = .ok (.aload_n 0, 1) := by decide +kernel
theorem dW_law_382 : decode code 382 = .ok (.iload 4, 2) := by decide +kernel
theorem dW_law_384 : decode code 384 = .ok (.iconst 2, 1) := by decide +kernel
theorem dW_law_385 : decode code 385 = .ok (.iadd, 1) := by decide +kernel
theorem dW_law_386 : decode code 386 = .ok (.iaload, 1) := by decide +kernel
theorem dW_law_387 : decode code 387 = .ok (.i2l, 1) := by decide +kernel
theorem dW_law_388 : decode code 388 = .ok (.bipush 32, 2) := by decide +kernel
theorem dW_law_390 : decode code 390 = .ok (.lshl, 1) := by decide +kernel
theorem dW_law_391 : decode code 391 = .ok (.aload_n 0, 1) := by decide +kernel
theorem dW_law_392 : decode code 392 = .ok (.iload 4, 2) := by decide +kernel
theorem dW_law_394 : decode code 394 = .ok (.iconst 3, 1) := by decide +kernel
theorem dW_law_395 : decode code 395 = .ok (.iadd, 1) := by decide +kernel
theorem dW_law_396 : decode code 396 = .ok (.iaload, 1) := by decide +kernel
theorem dW_law_397 : decode code 397 = .ok (.i2l, 1) := by decide +kernel
theorem dW_law_398 : decode code 398 = .ok (.ldc2_w 32, 3) := by decide +kernel
theorem dW_law_401 : decode code 401 = .ok (.land, 1) := by decide +kernel
theorem dW_law_402 : decode code 402 = .ok (.lor, 1) := by decide +kernel
theorem dW_law_403 : decode code 403 = .ok (.invokevirtual 56, 3) := by decide +kernel
theorem dW_law_406 : decode code 406 = .ok (.aload_n 2, 1) := by decide +kernel
theorem dW_law_407 : decode code 407 = .ok (.aload_n 0, 1) := by decide +kernel
theorem dW_law_408 : decode code 408 = .ok (.iload 4, 2) := by decide +kernel
theorem dW_law_410 : decode code 410 = .ok (.iconst 1, 1) := by decide +kernel
theorem dW_law_411 : decode code 411 = .ok (.iadd, 1) := by decide +kernel
theorem dW_law_412 : decode code 412 = .ok (.iaload, 1) := by decide +kernel
theorem dW_law_413 : decode code 413 = .ok (.aload_n 0, 1) := by decide +kernel
theorem dW_law_414 : decode code 414 = .ok (.iload 4, 2) := by decide +kernel
theorem dW_law_416 : decode code 416 = .ok (.iconst 2, 1) := by decide +kernel
theorem dW_law_417 : decode code 417 = .ok (.iadd, 1) := by decide +kernel
theorem dW_law_418 : decode code 418 = .ok (.iaload, 1) := by decide +kernel
theorem dW_law_419 : decode code 419 = .ok (.i2l, 1) := by decide +kernel
theorem dW_law_420 : decode code 420 = .ok (.bipush 32, 2) := by decide +kernel
theorem dW_law_422 : decode code 422 = .ok (.lshl, 1) := by decide +kernel
theorem dW_law_423 : decode code 423 = .ok (.aload_n 0, 1) := by decide +kernel
theorem dW_law_424 : decode code 424 = .ok (.iload 4, 2) := by decide +kernel
theorem dW_law_426 : decode code 426 = .ok (.iconst 3, 1) := by decide +kernel
theorem dW_law_427 : decode code 427 = .ok (.iadd, 1) := by decide +kernel
theorem dW_law_428 : decode code 428 = .ok (.iaload, 1) := by decide +kernel
theorem dW_law_429 : decode code 429 = .ok (.i2l, 1) := by decide +kernel
theorem dW_law_430 : decode code 430 = .ok (.ldc2_w 32, 3) := by decide +kernel
theorem dW_law_433 : decode code 433 = .ok (.land, 1) := by decide +kernel
theorem dW_law_434 : decode code 434 = .ok (.lor, 1) := by decide +kernel
theorem dW_law_435 : decode code 435 = .ok (.invokevirtual 59, 3) := by decide +kernel
theorem dW_law_438 : decode code 438 = .ok (.if_icmp .eq 243, 3) := by decide +kernel
theorem dW_law_441 : decode code 441 = .ok (.iconst 0, 1) := by decide +kernel
theorem dW_law_442 : decode code 442 = .ok (.ireturn, 1) := by decide +kernel
theorem dW_law_443 : decode code 443 = .ok (.aload_n 1, 1) := by decide +kernel
theorem dW_law_444 : decode code 444 = .ok (.aload_n 0, 1) := by decide +kernel
theorem dW_law_445 : decode code 445 = .ok (.iload 4, 2) := by decide +kernel
theorem dW_law_447 : decode code 447 = .ok (.iconst 1, 1) := by decide +kernel
theorem dW_law_448 : decode code 448 = .ok (.iadd, 1) := by decide +kernel
theorem dW_law_449 : decode code 449 = .ok (.iaload, 1) := by decide +kernel
theorem dW_law_450 : decode code 450 = .ok (.i2l, 1) := by decide +kernel
theorem dW_law_451 : decode code 451 = .ok (.bipush 32, 2) := by decide +kernel
theorem dW_law_453 : decode code 453 = .ok (.lshl, 1) := by decide +kernel
theorem dW_law_454 : decode code 454 = .ok (.aload_n 0, 1) := by decide +kernel
theorem dW_law_455 : decode code 455 = .ok (.iload 4, 2) := by decide +kernel
theorem dW_law_457 : decode code 457 = .ok (.iconst 2, 1) := by decide +kernel
theorem dW_law_458 : decode code 458 = .ok (.iadd, 1) := by decide +kernel
theorem dW_law_459 : decode code 459 = .ok (.iaload, 1) := by decide +kernel
theorem dW_law_460 : decode code 460 = .ok (.i2l, 1) := by decide +kernel
theorem dW_law_461 : decode code 461 = .ok (.ldc2_w 32, 3) := by decide +kernel
theorem dW_law_464 : decode code 464 = .ok (.land, 1) := by decide +kernel
theorem dW_law_465 : decode code 465 = .ok (.lor, 1) := by decide +kernel
theorem dW_law_466 : decode code 466 = .ok (.invokevirtual 60, 3) := by decide +kernel
theorem dW_law_469 : decode code 469 = .ok (.aload_n 2, 1) := by decide +kernel
theorem dW_law_470 : decode code 470 = .ok (.aload_n 0, 1) := by decide +kernel
theorem dW_law_471 : decode code 471 = .ok (.iload 4, 2) := by decide +kernel
theorem dW_law_473 : decode code 473 = .ok (.iconst 1, 1) := by decide +kernel
theorem dW_law_474 : decode code 474 = .ok (.iadd, 1) := by decide +kernel
theorem dW_law_475 : decode code 475 = .ok (.iaload, 1) := by decide +kernel
theorem dW_law_476 : decode code 476 = .ok (.i2l, 1) := by decide +kernel
theorem dW_law_477 : decode code 477 = .ok (.bipush 32, 2) := by decide +kernel
theorem dW_law_479 : decode code 479 = .ok (.lshl, 1) := by decide +kernel
theorem dW_law_480 : decode code 480 = .ok (.aload_n 0, 1) := by decide +kernel
theorem dW_law_481 : decode code 481 = .ok (.iload 4, 2) := by decide +kernel
theorem dW_law_483 : decode code 483 = .ok (.iconst 2, 1) := by decide +kernel
theorem dW_law_484 : decode code 484 = .ok (.iadd, 1) := by decide +kernel
theorem dW_law_485 : decode code 485 = .ok (.iaload, 1) := by decide +kernel
theorem dW_law_486 : decode code 486 = .ok (.i2l, 1) := by decide +kernel
theorem dW_law_487 : decode code 487 = .ok (.ldc2_w 32, 3) := by decide +kernel
theorem dW_law_490 : decode code 490 = .ok (.land, 1) := by decide +kernel
theorem dW_law_491 : decode code 491 = .ok (.lor, 1) := by decide +kernel
theorem dW_law_492 : decode code 492 = .ok (.invokevirtual 64, 3) := by decide +kernel
theorem dW_law_495 : decode code 495 = .ok (.if_icmp .eq 186, 3) := by decide +kernel
theorem dW_law_498 : decode code 498 = .ok (.iconst 0, 1) := by decide +kernel
theorem dW_law_499 : decode code 499 = .ok (.ireturn, 1) := by decide +kernel
theorem dW_law_500 : decode code 500 = .ok (.aload_n 1, 1) := by decide +kernel
theorem dW_law_501 : decode code 501 = .ok (.aload_n 0, 1) := by decide +kernel
theorem dW_law_502 : decode code 502 = .ok (.iload 4, 2) := by decide +kernel
theorem dW_law_504 : decode code 504 = .ok (.iconst 1, 1) := by decide +kernel
theorem dW_law_505 : decode code 505 = .ok (.iadd, 1) := by decide +kernel
theorem dW_law_506 : decode code 506 = .ok (.iaload, 1) := by decide +kernel
theorem dW_law_507 : decode code 507 = .ok (.aload_n 3, 1) := by decide +kernel
theorem dW_law_508 : decode code 508 = .ok (.invokestatic 65, 3) := by decide +kernel
theorem dW_law_511 : decode code 511 = .ok (.istore 5, 2) := by decide +kernel
theorem dW_law_513 : decode code 513 = .ok (.aload_n 2, 1) := by decide +kernel
theorem dW_law_514 : decode code 514 = .ok (.aload_n 0, 1) := by decide +kernel
theorem dW_law_515 : decode code 515 = .ok (.iload 4, 2) := by decide +kernel
theorem dW_law_517 : decode code 517 = .ok (.iconst 1, 1) := by decide +kernel
theorem dW_law_518 : decode code 518 = .ok (.iadd, 1) := by decide +kernel
theorem dW_law_519 : decode code 519 = .ok (.iaload, 1) := by decide +kernel
theorem dW_law_520 : decode code 520 = .ok (.invokevirtual 68, 3) := by decide +kernel
theorem dW_law_523 : decode code 523 = .ok (.lstore 6, 2) := by decide +kernel
theorem dW_law_525 : decode code 525 = .ok (.aload_n 2, 1) := by decide +kernel
theorem dW_law_526 : decode code 526 = .ok (.invokevirtual 69, 3) := by decide +kernel
theorem dW_law_529 : decode code 529 = .ok (.iload 5, 2) := by decide +kernel
theorem dW_law_531 : decode code 531 = .ok (.if_icmp .eq 5, 3) := by decide +kernel
theorem dW_law_534 : decode code 534 = .ok (.iconst 0, 1) := by decide +kernel
theorem dW_law_535 : decode code 535 = .ok (.ireturn, 1) := by decide +kernel
theorem dW_law_536 : decode code 536 = .ok (.iload 5, 2) := by decide +kernel
theorem dW_law_538 : decode code 538 = .ok (.ifCond .ne 14, 3) := by decide +kernel
theorem dW_law_541 : decode code 541 = .ok (.aload_n 3, 1) := by decide +kernel
theorem dW_law_542 : decode code 542 = .ok (.iconst 0, 1) := by decide +kernel
theorem dW_law_543 : decode code 543 = .ok (.laload, 1) := by decide +kernel
theorem dW_law_544 : decode code 544 = .ok (.lload 6, 2) := by decide +kernel
theorem dW_law_546 : decode code 546 = .ok (.lcmp, 1) := by decide +kernel
theorem dW_law_547 : decode code 547 = .ok (.ifCond .eq 5, 3) := by decide +kernel
theorem dW_law_550 : decode code 550 = .ok (.iconst 0, 1) := by decide +kernel
theorem dW_law_551 : decode code 551 = .ok (.ireturn, 1) := by decide +kernel
theorem dW_law_552 : decode code 552 = .ok (.goto 129, 3) := by decide +kernel
theorem dW_law_555 : decode code 555 = .ok (.aload_n 1, 1) := by decide +kernel
theorem dW_law_556 : decode code 556 = .ok (.aload_n 0, 1) := by decide +kernel
theorem dW_law_557 : decode code 557 = .ok (.iload 4, 2) := by decide +kernel
theorem dW_law_559 : decode code 559 = .ok (.iconst 1, 1) := by decide +kernel
theorem dW_law_560 : decode code 560 = .ok (.iadd, 1) := by decide +kernel
theorem dW_law_561 : decode code 561 = .ok (.iaload, 1) := by decide +kernel
theorem dW_law_562 : decode code 562 = .ok (.aload_n 0, 1) := by decide +kernel
theorem dW_law_563 : decode code 563 = .ok (.iload 4, 2) := by decide +kernel
theorem dW_law_565 : decode code 565 = .ok (.iconst 2, 1) := by decide +kernel
theorem dW_law_566 : decode code 566 = .ok (.iadd, 1) := by decide +kernel
theorem dW_law_567 : decode code 567 = .ok (.iaload, 1) := by decide +kernel
theorem dW_law_568 : decode code 568 = .ok (.invokevirtual 72, 3) := by decide +kernel
theorem dW_law_571 : decode code 571 = .ok (.aload_n 2, 1) := by decide +kernel
theorem dW_law_572 : decode code 572 = .ok (.aload_n 0, 1) := by decide +kernel
theorem dW_law_573 : decode code 573 = .ok (.iload 4, 2) := by decide +kernel
theorem dW_law_575 : decode code 575 = .ok (.iconst 1, 1) := by decide +kernel
theorem dW_law_576 : decode code 576 = .ok (.iadd, 1) := by decide +kernel
theorem dW_law_577 : decode code 577 = .ok (.iaload, 1) := by decide +kernel
theorem dW_law_578 : decode code 578 = .ok (.aload_n 0, 1) := by decide +kernel
theorem dW_law_579 : decode code 579 = .ok (.iload 4, 2) := by decide +kernel
theorem dW_law_581 : decode code 581 = .ok (.iconst 2, 1) := by decide +kernel
theorem dW_law_582 : decode code 582 = .ok (.iadd, 1) := by decide +kernel
theorem dW_law_583 : decode code 583 = .ok (.iaload, 1) := by decide +kernel
theorem dW_law_584 : decode code 584 = .ok (.invokevirtual 75, 3) := by decide +kernel
theorem dW_law_587 : decode code 587 = .ok (.if_icmp .eq 94, 3) := by decide +kernel
theorem dW_law_590 : decode code 590 = .ok (.iconst 0, 1) := by decide +kernel
theorem dW_law_591 : decode code 591 = .ok (.ireturn, 1) := by decide +kernel
theorem dW_law_592 : decode code 592 = .ok (.aload_n 1, 1) := by decide +kernel
theorem dW_law_593 : decode code 593 = .ok (.aload_n 0, 1) := by decide +kernel
theorem dW_law_594 : decode code 594 = .ok (.iload 4, 2) := by decide +kernel
theorem dW_law_596 : decode code 596 = .ok (.iconst 1, 1) := by decide +kernel
theorem dW_law_597 : decode code 597 = .ok (.iadd, 1) := by decide +kernel
theorem dW_law_598 : decode code 598 = .ok (.iaload, 1) := by decide +kernel
theorem dW_law_599 : decode code 599 = .ok (.invokevirtual 76, 3) := by decide +kernel
theorem dW_law_602 : decode code 602 = .ok (.aload_n 2, 1) := by decide +kernel
theorem dW_law_603 : decode code 603 = .ok (.aload_n 0, 1) := by decide +kernel
theorem dW_law_604 : decode code 604 = .ok (.iload 4, 2) := by decide +kernel
theorem dW_law_606 : decode code 606 = .ok (.iconst 1, 1) := by decide +kernel
theorem dW_law_607 : decode code 607 = .ok (.iadd, 1) := by decide +kernel
theorem dW_law_608 : decode code 608 = .ok (.iaload, 1) := by decide +kernel
theorem dW_law_609 : decode code 609 = .ok (.invokevirtual 80, 3) := by decide +kernel
theorem dW_law_612 : decode code 612 = .ok (.if_icmp .eq 69, 3) := by decide +kernel
theorem dW_law_615 : decode code 615 = .ok (.iconst 0, 1) := by decide +kernel
theorem dW_law_616 : decode code 616 = .ok (.ireturn, 1) := by decide +kernel
theorem dW_law_617 : decode code 617 = .ok (.aload_n 1, 1) := by decide +kernel
theorem dW_law_618 : decode code 618 = .ok (.aload_n 0, 1) := by decide +kernel
theorem dW_law_619 : decode code 619 = .ok (.iload 4, 2) := by decide +kernel
theorem dW_law_621 : decode code 621 = .ok (.iconst 1, 1) := by decide +kernel
theorem dW_law_622 : decode code 622 = .ok (.iadd, 1) := by decide +kernel
theorem dW_law_623 : decode code 623 = .ok (.iaload, 1) := by decide +kernel
theorem dW_law_624 : decode code 624 = .ok (.invokevirtual 81, 3) := by decide +kernel
theorem dW_law_627 : decode code 627 = .ok (.aload_n 2, 1) := by decide +kernel
theorem dW_law_628 : decode code 628 = .ok (.aload_n 0, 1) := by decide +kernel
theorem dW_law_629 : decode code 629 = .ok (.iload 4, 2) := by decide +kernel
theorem dW_law_631 : decode code 631 = .ok (.iconst 1, 1) := by decide +kernel
theorem dW_law_632 : decode code 632 = .ok (.iadd, 1) := by decide +kernel
theorem dW_law_633 : decode code 633 = .ok (.iaload, 1) := by decide +kernel
theorem dW_law_634 : decode code 634 = .ok (.invokevirtual 84, 3) := by decide +kernel
theorem dW_law_637 : decode code 637 = .ok (.if_icmp .eq 44, 3) := by decide +kernel
theorem dW_law_640 : decode code 640 = .ok (.iconst 0, 1) := by decide +kernel
theorem dW_law_641 : decode code 641 = .ok (.ireturn, 1) := by decide +kernel
theorem dW_law_642 : decode code 642 = .ok (.aload_n 1, 1) := by decide +kernel
theorem dW_law_643 : decode code 643 = .ok (.invokevirtual 85, 3) := by decide +kernel
theorem dW_law_646 : decode code 646 = .ok (.aload_n 2, 1) := by decide +kernel
theorem dW_law_647 : decode code 647 = .ok (.invokevirtual 89, 3) := by decide +kernel
theorem dW_law_650 : decode code 650 = .ok (.lcmp, 1) := by decide +kernel
theorem dW_law_651 : decode code 651 = .ok (.ifCond .eq 30, 3) := by decide +kernel
theorem dW_law_654 : decode code 654 = .ok (.iconst 0, 1) := by decide +kernel
theorem dW_law_655 : decode code 655 = .ok (.ireturn, 1) := by decide +kernel
theorem dW_law_656 : decode code 656 = .ok (.aload_n 1, 1) := by decide +kernel
theorem dW_law_657 : decode code 657 = .ok (.aload_n 0, 1) := by decide +kernel
theorem dW_law_658 : decode code 658 = .ok (.iload 4, 2) := by decide +kernel
theorem dW_law_660 : decode code 660 = .ok (.iconst 1, 1) := by decide +kernel
theorem dW_law_661 : decode code 661 = .ok (.iadd, 1) := by decide +kernel
theorem dW_law_662 : decode code 662 = .ok (.iaload, 1) := by decide +kernel
theorem dW_law_663 : decode code 663 = .ok (.invokevirtual 90, 3) := by decide +kernel
theorem dW_law_666 : decode code 666 = .ok (.aload_n 2, 1) := by decide +kernel
theorem dW_law_667 : decode code 667 = .ok (.aload_n 0, 1) := by decide +kernel
theorem dW_law_668 : decode code 668 = .ok (.iload 4, 2) := by decide +kernel
theorem dW_law_670 : decode code 670 = .ok (.iconst 1, 1) := by decide +kernel
theorem dW_law_671 : decode code 671 = .ok (.iadd, 1) := by decide +kernel
theorem dW_law_672 : decode code 672 = .ok (.iaload, 1) := by decide +kernel
theorem dW_law_673 : decode code 673 = .ok (.invokevirtual 93, 3) := by decide +kernel
theorem dW_law_676 : decode code 676 = .ok (.if_icmp .eq 5, 3) := by decide +kernel
theorem dW_law_679 : decode code 679 = .ok (.iconst 0, 1) := by decide +kernel
theorem dW_law_680 : decode code 680 = .ok (.ireturn, 1) := by decide +kernel
theorem dW_law_681 : decode code 681 = .ok (.iinc 4 4, 3) := by decide +kernel
theorem dW_law_684 : decode code 684 = .ok (.goto (-651), 3) := by decide +kernel
theorem dW_law_687 : decode code 687 = .ok (.iconst 1, 1) := by decide +kernel
theorem dW_law_688 : decode code 688 = .ok (.ireturn, 1) := by decide +kernel
end
section
/-! GHOST STATE: what the walked heap holds, by total maps: the shape of an address; fields by (class, place, address); arrays by (role, address, index). A write moves one map at one key. -/
abbrev gs_S : Type := (Nat → Option (Nat ⊕ (Nat × Nat))) × (Nat → Nat → Nat → Int32) × (Nat → Nat → Nat → Int64) × (Nat → Nat → Nat → Option Nat) × (Nat → Nat → Nat → Int32) × (Nat → Nat → Nat → Int64) × (Nat → Nat → Nat → Option Nat)
def g_sh (S : gs_S) (a : Nat) : Option (Nat ⊕ (Nat × Nat)) := S.1 a
def g_i (S : gs_S) (c k a : Nat) : Int32 := S.2.1 c k a
def g_l (S : gs_S) (c k a : Nat) : Int64 := S.2.2.1 c k a
def g_r (S : gs_S) (c k a : Nat) : Option Nat := S.2.2.2.1 c k a
def g_ai (S : gs_S) (r a j : Nat) : Int32 := S.2.2.2.2.1 r a j
def g_al (S : gs_S) (r a j : Nat) : Int64 := S.2.2.2.2.2.1 r a j
def g_ar (S : gs_S) (r a j : Nat) : Option Nat := S.2.2.2.2.2.2 r a j
def u_3 {α : Type} (f : Nat → Nat → Nat → α) (c k a : Nat) (v : α) : Nat → Nat → Nat → α := fun c' k' a' => if c' = c ∧ k' = k ∧ a' = a then v else f c' k' a'
def p_sh (S : gs_S) (a : Nat) (x : Nat ⊕ (Nat × Nat)) : gs_S := (fun b => if b = a then some x else S.1 b, S.2)
def p_i (S : gs_S) (c k a : Nat) (v : Int32) : gs_S := (S.1, u_3 S.2.1 c k a v, S.2.2)
def p_l (S : gs_S) (c k a : Nat) (v : Int64) : gs_S := (S.1, S.2.1, u_3 S.2.2.1 c k a v, S.2.2.2)
def p_r (S : gs_S) (c k a : Nat) (v : Option Nat) : gs_S := (S.1, S.2.1, S.2.2.1, u_3 S.2.2.2.1 c k a v, S.2.2.2.2)
def p_ai (S : gs_S) (r a j : Nat) (v : Int32) : gs_S := (S.1, S.2.1, S.2.2.1, S.2.2.2.1, u_3 S.2.2.2.2.1 r a j v, S.2.2.2.2.2)
def p_al (S : gs_S) (r a j : Nat) (v : Int64) : gs_S := (S.1, S.2.1, S.2.2.1, S.2.2.2.1, S.2.2.2.2.1, u_3 S.2.2.2.2.2.1 r a j v, S.2.2.2.2.2.2)
def p_ar (S : gs_S) (r a j : Nat) (v : Option Nat) : gs_S := (S.1, S.2.1, S.2.2.1, S.2.2.2.1, S.2.2.2.2.1, S.2.2.2.2.2.1, u_3 S.2.2.2.2.2.2 r a j v)
def g_val (S : gs_S) (c a k kd : Nat) : Value := match kd with
  | 0 => .int (g_i S c k a)
  | 1 => .long (g_l S c k a)
  | _ => va_rf (g_r S c k a)
def g_fs (S : gs_S) (c a : Nat) : List Value := (gk_kinds.getD c []).mapIdx (fun k kd => g_val S c a k kd)
def g_arr (S : gs_S) (r a n : Nat) : vp_A := (n, match gk_rep r with
  | 0 => .inl (g_ai S r a)
  | 1 => .inr (.inl (g_al S r a))
  | _ => .inr (.inr (.inr (.inr (g_ar S r a)))))
def g_E (T : Nat → ClassId) (S : gs_S) (a : Nat) : Option va_E := match g_sh S a with
  | none => none
  | some (.inl c) => some (.inr (c, g_fs S c a))
  | some (.inr q) => some (.inl (T (gk_role q.1), g_arr S q.1 a q.2))
abbrev gs_G : Type := va_G × (Nat → ClassId)
def g_P (G : gs_G) (S : gs_S) (H : Heap) : Prop := ∀ (a : Nat) (e : va_E), g_E G.2 S a = some e → va_at G.1 gk_cl (a, e) H
/-- what the tables say: classes, array classes -/
def g_K (G : gs_G) (U : State) : Prop := va_K G.1 gk_cl (gk_tys G.2) U ∧ va_AO "CallRows$Program" U ∧ va_AO "CallRows$Level" U
theorem g_K.moved {G : gs_G} {u U : State} (hvm : u.vm.Alike U.vm) (h : g_K G u) : g_K G U := ⟨va_K.moved hvm h.1, va_AO.moved hvm h.2.1, va_AO.moved hvm h.2.2⟩
/-- the world of a walk that began at s: what may be written is A -/
def g_W (G : gs_G) (A : Nat → Prop) (s : State) (S : gs_S) (H : Heap) (locs : List Loc) : Prop := g_K G s ∧ g_P G S H ∧ (∀ a : Nat, g_sh S a ≠ none → A a) ∧ (∀ q : Nat, s.heap.size ≤ q → A q) ∧ va_S A s.heap H locs
def g_Ls (G : gs_G) (S : gs_S) (n : Nat) : va_W := (List.range n).filterMap (fun a => (g_E G.2 S a).map (fun e => (a, e)))
theorem g_E_sh {T : Nat → ClassId} {S : gs_S} {a : Nat} {e : va_E} (h : g_E T S a = some e) : g_sh S a ≠ none := by
  intro q
  unfold g_E at h
  rw [q] at h
  cases h
theorem g_Ls_mem {G : gs_G} {S : gs_S} {n a : Nat} {e : va_E} : (a, e) ∈ g_Ls G S n ↔ a < n ∧ g_E G.2 S a = some e := by
  unfold g_Ls
  rw [List.mem_filterMap]
  constructor
  · rintro ⟨b, hb, h⟩
    obtain ⟨x, hx, hq⟩ := Option.map_eq_some_iff.mp h
    cases hq
    exact ⟨List.mem_range.mp hb, hx⟩
  · rintro ⟨h1, h2⟩
    exact ⟨a, List.mem_range.mpr h1, by rw [h2]; rfl⟩
theorem g_Ls_lt (G : gs_G) (S : gs_S) (n : Nat) : List.Pairwise (fun p q : Nat × va_E => p.1 < q.1) (g_Ls G S n) := by
  unfold g_Ls
  rw [List.pairwise_filterMap]
  refine List.pairwise_lt_range.imp ?_
  intro a b hab x hx y hy
  obtain ⟨e, -, rfl⟩ := Option.map_eq_some_iff.mp hx
  obtain ⟨e', -, rfl⟩ := Option.map_eq_some_iff.mp hy
  exact hab
theorem g_Ls_inj {G : gs_G} {S : gs_S} {n i j : Nat} {p q : Nat × va_E} (hi : (g_Ls G S n)[i]? = some p) (hj : (g_Ls G S n)[j]? = some q) (h : p.1 = q.1) : i = j := by
  obtain ⟨hi1, hi2⟩ := List.getElem?_eq_some_iff.mp hi
  obtain ⟨hj1, hj2⟩ := List.getElem?_eq_some_iff.mp hj
  have hp := List.pairwise_iff_getElem.mp (g_Ls_lt G S n)
  rcases Nat.lt_trichotomy i j with c | c | c
  · have := hp i j hi1 hj1 c
    rw [hi2, hj2] at this
    omega
  · exact c
  · have := hp j i hj1 hi1 c
    rw [hi2, hj2] at this
    omega
theorem g_Ls_P {G : gs_G} {S : gs_S} {H : Heap} (h : g_P G S H) (n : Nat) : va_P G.1 gk_cl (g_Ls G S n) H := by
  intro k q hk
  obtain ⟨a, e⟩ := q
  exact h a e (g_Ls_mem.mp (List.mem_of_getElem? hk)).2
theorem g_Ls_D {G : gs_G} {S : gs_S} {A : Nat → Prop} (h : ∀ a : Nat, g_sh S a ≠ none → A a) (n : Nat) : va_D A (g_Ls G S n) := by
  refine ⟨fun i j p q hi hj e => g_Ls_inj hi hj e, fun k q hk => ?_⟩
  obtain ⟨a, e⟩ := q
  exact h a (g_E_sh (g_Ls_mem.mp (List.mem_of_getElem? hk)).2)
theorem g_lt {G : gs_G} {S : gs_S} {H : Heap} (h : g_P G S H) {a : Nat} {e : va_E} (he : g_E G.2 S a = some e) : a < H.size := (h a e he).lt
theorem g_at {G : gs_G} {S : gs_S} {H : Heap} (h : g_P G S H) {a : Nat} {e : va_E} (he : g_E G.2 S a = some e) : ∃ k : Nat, (g_Ls G S H.size)[k]? = some (a, e) := List.getElem?_of_mem (g_Ls_mem.mpr ⟨g_lt h he, he⟩)
theorem g_one {G : gs_G} {S : gs_S} {H : Heap} (h : g_P G S H) {a : Nat} {e : va_E} (he : g_E G.2 S a = some e) : va_P G.1 gk_cl [(a, e)] H := by
  intro k q hk
  cases k with
  | zero => cases hk; exact h a e he
  | succ k => simp at hk
/-- one cell has changed -/
theorem g_set {G : gs_G} {S S' : gs_S} {H H1 : Heap} {a k : Nat} {e0 e : va_E} (hP : g_P G S H) (hk : (g_Ls G S H.size)[k]? = some (a, e0)) (ho : ∀ b : Nat, b ≠ a → g_E G.2 S' b = g_E G.2 S b) (he : g_E G.2 S' a = some e) (h : va_P G.1 gk_cl ((g_Ls G S H.size).set k (a, e)) H1) : g_P G S' H1 := by
  have hl := (List.getElem?_eq_some_iff.mp hk).1
  intro b x hx
  by_cases hb : b = a
  · subst hb
    cases he.symm.trans hx
    exact h k _ (List.getElem?_set_self hl)
  · rw [ho b hb] at hx
    obtain ⟨j, hj⟩ := g_at hP hx
    refine h j _ ?_
    rw [List.getElem?_set_ne (fun q => hb ?_)]
    · exact hj
    · subst q
      cases hk.symm.trans hj
      rfl
/-- one cell has come -/
theorem g_new {G : gs_G} {S S' : gs_S} {H H1 : Heap} {a : Nat} {e : va_E} (hP : g_P G S H) (ho : ∀ b : Nat, b ≠ a → g_E G.2 S' b = g_E G.2 S b) (he : g_E G.2 S' a = some e) (h : va_P G.1 gk_cl (g_Ls G S H.size ++ [(a, e)]) H1) : g_P G S' H1 := by
  intro b x hx
  by_cases hb : b = a
  · subst hb
    cases he.symm.trans hx
    refine h (g_Ls G S H.size).length _ ?_
    rw [List.getElem?_append_right (Nat.le_refl _), Nat.sub_self]
    rfl
  · rw [ho b hb] at hx
    obtain ⟨j, hj⟩ := g_at hP hx
    refine h j _ ?_
    rw [List.getElem?_append_left (List.getElem?_eq_some_iff.mp hj).1]
    exact hj
theorem g_fresh {G : gs_G} {S : gs_S} {H : Heap} {A : Nat → Prop} {a : Nat} {e : va_E} (hP : g_P G S H) (h : va_D A (g_Ls G S H.size ++ [(a, e)])) : g_sh S a = none := by
  cases hs : g_sh S a with
  | none => rfl
  | some x =>
    have hx : ∃ e1, g_E G.2 S a = some e1 := by
      unfold g_E
      rw [hs]
      cases x with
      | inl c => exact ⟨_, rfl⟩
      | inr q => exact ⟨_, rfl⟩
    obtain ⟨e1, h1⟩ := hx
    obtain ⟨j, hj⟩ := g_at hP h1
    have hjl := (List.getElem?_eq_some_iff.mp hj).1
    have e2 : (g_Ls G S H.size ++ [(a, e)])[(g_Ls G S H.size).length]? = some (a, e) := by
      rw [List.getElem?_append_right (Nat.le_refl _), Nat.sub_self]
      rfl
    have e3 : (g_Ls G S H.size ++ [(a, e)])[j]? = some (a, e1) := by
      rw [List.getElem?_append_left hjl]
      exact hj
    have := h.1 _ _ _ _ e2 e3 rfl
    omega
theorem g_E_o {T : Nat → ClassId} {S : gs_S} {a c : Nat} (h : g_sh S a = some (.inl c)) : g_E T S a = some (.inr (c, g_fs S c a)) := by
  unfold g_E
  rw [h]
theorem g_E_a {T : Nat → ClassId} {S : gs_S} {a r n : Nat} (h : g_sh S a = some (.inr (r, n))) : g_E T S a = some (.inl (T (gk_role r), g_arr S r a n)) := by
  unfold g_E
  rw [h]
theorem g_fs_at {S : gs_S} {c a k kd : Nat} (h : (gk_kinds.getD c [])[k]? = some kd) : (g_fs S c a)[k]? = some (g_val S c a k kd) := by
  unfold g_fs
  rw [List.getElem?_mapIdx, h]
  rfl
theorem g_fs_len (S : gs_S) (c a : Nat) : (g_fs S c a).length = (gk_kinds.getD c []).length := by
  unfold g_fs
  rw [List.length_mapIdx]
theorem g_fs_set {S S' : gs_S} {c a k kd : Nat} {v : Value} (hkd : (gk_kinds.getD c [])[k]? = some kd) (hv : g_val S' c a k kd = v) (ho : ∀ j d : Nat, j ≠ k → g_val S' c a j d = g_val S c a j d) : g_fs S' c a = (g_fs S c a).set k v := by
  have hl : k < (g_fs S c a).length := by rw [g_fs_len]; exact (List.getElem?_eq_some_iff.mp hkd).1
  refine List.ext_getElem? fun j => ?_
  by_cases hj : j = k
  · subst hj
    rw [List.getElem?_set_self hl, g_fs_at hkd, hv]
  · rw [List.getElem?_set_ne (Ne.symm hj)]
    unfold g_fs
    rw [List.getElem?_mapIdx, List.getElem?_mapIdx]
    cases (gk_kinds.getD c [])[j]? with
    | none => rfl
    | some d => exact congrArg some (ho j d hj)
theorem u_3_s {α : Type} {f : Nat → Nat → Nat → α} {c k a : Nat} {v : α} : u_3 f c k a v c k a = v := by simp [u_3]
theorem u_3_a {α : Type} {f : Nat → Nat → Nat → α} {c k a c' k' a' : Nat} {v : α} (h : a' ≠ a) : u_3 f c k a v c' k' a' = f c' k' a' := by simp [u_3, h]
theorem u_3_k {α : Type} {f : Nat → Nat → Nat → α} {c k a c' k' a' : Nat} {v : α} (h : k' ≠ k) : u_3 f c k a v c' k' a' = f c' k' a' := by simp [u_3, h]
theorem u_3_c {α : Type} {f : Nat → Nat → Nat → α} {c k a c' k' a' : Nat} {v : α} (h : c' ≠ c) : u_3 f c k a v c' k' a' = f c' k' a' := by simp [u_3, h]
/-- two ghost states whose cell at b is the same -/
theorem g_E_same {T : Nat → ClassId} {S S' : gs_S} {b : Nat} (h0 : g_sh S' b = g_sh S b) (h1 : ∀ c k d : Nat, g_val S' c b k d = g_val S c b k d) (h2 : ∀ r n : Nat, g_arr S' r b n = g_arr S r b n) : g_E T S' b = g_E T S b := by
  unfold g_E
  rw [h0]
  cases g_sh S b with
  | none => rfl
  | some x =>
    cases x with
    | inl c => simp [g_fs, h1]
    | inr q => simp [h2]
theorem g_E_pi {T : Nat → ClassId} {S : gs_S} {c k a b : Nat} {v : Int32} (h : b ≠ a) : g_E T (p_i S c k a v) b = g_E T S b := by
  refine g_E_same rfl (fun c' k' d => ?_) (fun r n => rfl)
  match d with
  | 0 => exact congrArg Value.int (u_3_a h)
  | 1 => rfl
  | n + 2 => rfl
theorem g_E_pl {T : Nat → ClassId} {S : gs_S} {c k a b : Nat} {v : Int64} (h : b ≠ a) : g_E T (p_l S c k a v) b = g_E T S b := by
  refine g_E_same rfl (fun c' k' d => ?_) (fun r n => rfl)
  match d with
  | 0 => rfl
  | 1 => exact congrArg Value.long (u_3_a h)
  | n + 2 => rfl
theorem g_E_pr {T : Nat → ClassId} {S : gs_S} {c k a b : Nat} {v : Option Nat} (h : b ≠ a) : g_E T (p_r S c k a v) b = g_E T S b := by
  refine g_E_same rfl (fun c' k' d => ?_) (fun r n => rfl)
  match d with
  | 0 => rfl
  | 1 => rfl
  | n + 2 => exact congrArg va_rf (u_3_a h)
theorem g_E_pai {T : Nat → ClassId} {S : gs_S} {r a j b : Nat} {v : Int32} (h : b ≠ a) : g_E T (p_ai S r a j v) b = g_E T S b := by
  refine g_E_same rfl (fun c' k' d => rfl) (fun r' n => ?_)
  have h1 : g_ai (p_ai S r a j v) r' b = g_ai S r' b := funext fun j' => u_3_k h
  have h2 : g_al (p_ai S r a j v) r' b = g_al S r' b := rfl
  have h3 : g_ar (p_ai S r a j v) r' b = g_ar S r' b := rfl
  simp only [g_arr, h1, h2, h3]
theorem g_E_pal {T : Nat → ClassId} {S : gs_S} {r a j b : Nat} {v : Int64} (h : b ≠ a) : g_E T (p_al S r a j v) b = g_E T S b := by
  refine g_E_same rfl (fun c' k' d => rfl) (fun r' n => ?_)
  have h1 : g_ai (p_al S r a j v) r' b = g_ai S r' b := rfl
  have h2 : g_al (p_al S r a j v) r' b = g_al S r' b := funext fun j' => u_3_k h
  have h3 : g_ar (p_al S r a j v) r' b = g_ar S r' b := rfl
  simp only [g_arr, h1, h2, h3]
theorem g_E_par {T : Nat → ClassId} {S : gs_S} {r a j b : Nat} {v : Option Nat} (h : b ≠ a) : g_E T (p_ar S r a j v) b = g_E T S b := by
  refine g_E_same rfl (fun c' k' d => rfl) (fun r' n => ?_)
  have h1 : g_ai (p_ar S r a j v) r' b = g_ai S r' b := rfl
  have h2 : g_al (p_ar S r a j v) r' b = g_al S r' b := rfl
  have h3 : g_ar (p_ar S r a j v) r' b = g_ar S r' b := funext fun j' => u_3_k h
  simp only [g_arr, h1, h2, h3]
theorem g_fs_pi {S : gs_S} {c k a : Nat} {v : Int32} (hkd : (gk_kinds.getD c [])[k]? = some 0) : g_fs (p_i S c k a v) c a = (g_fs S c a).set k (.int v) := by
  refine g_fs_set hkd (congrArg Value.int u_3_s) (fun j d hj => ?_)
  match d with
  | 0 => exact congrArg Value.int (u_3_k hj)
  | 1 => rfl
  | n + 2 => rfl
theorem g_fs_pl {S : gs_S} {c k a : Nat} {v : Int64} (hkd : (gk_kinds.getD c [])[k]? = some 1) : g_fs (p_l S c k a v) c a = (g_fs S c a).set k (.long v) := by
  refine g_fs_set hkd (congrArg Value.long u_3_s) (fun j d hj => ?_)
  match d with
  | 0 => rfl
  | 1 => exact congrArg Value.long (u_3_k hj)
  | n + 2 => rfl
theorem g_fs_pr {S : gs_S} {c k a : Nat} {v : Option Nat} (hkd : (gk_kinds.getD c [])[k]? = some 2) : g_fs (p_r S c k a v) c a = (g_fs S c a).set k (va_rf v) := by
  refine g_fs_set hkd (congrArg va_rf u_3_s) (fun j d hj => ?_)
  match d with
  | 0 => rfl
  | 1 => rfl
  | n + 2 => exact congrArg va_rf (u_3_k hj)
theorem g_arr_i {S : gs_S} {r a n : Nat} (h : gk_rep r = 0) : g_arr S r a n = (n, .inl (g_ai S r a)) := by simp only [g_arr, h]
theorem g_arr_l {S : gs_S} {r a n : Nat} (h : gk_rep r = 1) : g_arr S r a n = (n, .inr (.inl (g_al S r a))) := by simp only [g_arr, h]
theorem g_arr_r {S : gs_S} {r a n : Nat} (h : gk_rep r = 2) : g_arr S r a n = (n, .inr (.inr (.inr (.inr (g_ar S r a))))) := by simp only [g_arr, h]
theorem g_ai_p {S : gs_S} {r a j : Nat} {v : Int32} : g_ai (p_ai S r a j v) r a = upd (g_ai S r a) j v := by
  funext q
  by_cases h : q = j
  · subst h; simp [g_ai, p_ai, u_3, upd]
  · simp [g_ai, p_ai, u_3, upd, h]
theorem g_al_p {S : gs_S} {r a j : Nat} {v : Int64} : g_al (p_al S r a j v) r a = vp_updL (g_al S r a) j v := by
  funext q
  by_cases h : q = j
  · subst h; simp [g_al, p_al, u_3, vp_updL]
  · simp [g_al, p_al, u_3, vp_updL, h]
theorem g_ar_p {S : gs_S} {r a j : Nat} {v : Option Nat} : g_ar (p_ar S r a j v) r a = va_up (g_ar S r a) j v := by
  funext q
  by_cases h : q = j
  · subst h; simp [g_ar, p_ar, u_3, va_up]
  · simp [g_ar, p_ar, u_3, va_up, h]
/-- a new object: all its fields at their defaults -/
def p_new (S : gs_S) (c a : Nat) : gs_S := (fun b => if b = a then some (.inl c) else S.1 b, fun c' k b => if b = a then 0 else S.2.1 c' k b, fun c' k b => if b = a then 0 else S.2.2.1 c' k b, fun c' k b => if b = a then none else S.2.2.2.1 c' k b, S.2.2.2.2)
/-- a new array of role r, n places -/
def p_newA (S : gs_S) (r n a : Nat) : gs_S := (fun b => if b = a then some (.inr (r, n)) else S.1 b, S.2.1, S.2.2.1, S.2.2.2.1, fun r' b j => if b = a then 0 else S.2.2.2.2.1 r' b j, fun r' b j => if b = a then 0 else S.2.2.2.2.2.1 r' b j, fun r' b j => if b = a then none else S.2.2.2.2.2.2 r' b j)
theorem g_E_new {T : Nat → ClassId} {S : gs_S} {c a b : Nat} (h : b ≠ a) : g_E T (p_new S c a) b = g_E T S b := by
  refine g_E_same (by simp [g_sh, p_new, h]) (fun c' k' d => ?_) (fun r n => rfl)
  match d with
  | 0 => simp [g_val, g_i, p_new, h]
  | 1 => simp [g_val, g_l, p_new, h]
  | n + 2 => simp [g_val, g_r, p_new, h]
theorem g_E_newA {T : Nat → ClassId} {S : gs_S} {r n a b : Nat} (h : b ≠ a) : g_E T (p_newA S r n a) b = g_E T S b := by
  refine g_E_same (by simp [g_sh, p_newA, h]) (fun c' k' d => rfl) (fun r' n' => ?_)
  have h1 : g_ai (p_newA S r n a) r' b = g_ai S r' b := funext fun j => by simp [g_ai, p_newA, h]
  have h2 : g_al (p_newA S r n a) r' b = g_al S r' b := funext fun j => by simp [g_al, p_newA, h]
  have h3 : g_ar (p_newA S r n a) r' b = g_ar S r' b := funext fun j => by simp [g_ar, p_newA, h]
  simp only [g_arr, h1, h2, h3]
theorem g_sh_new {S : gs_S} {c a : Nat} : g_sh (p_new S c a) a = some (.inl c) := by simp [g_sh, p_new]
theorem g_sh_newA {S : gs_S} {r n a : Nat} : g_sh (p_newA S r n a) a = some (.inr (r, n)) := by simp [g_sh, p_newA]
theorem g_sh_newN {S : gs_S} {c a b : Nat} (h : b ≠ a) : g_sh (p_new S c a) b = g_sh S b := by simp [g_sh, p_new, h]
theorem g_sh_newAN {S : gs_S} {r n a b : Nat} (h : b ≠ a) : g_sh (p_newA S r n a) b = g_sh S b := by simp [g_sh, p_newA, h]
def g_dflt (kd : Nat) : Value := match kd with
  | 0 => .int 0
  | 1 => .long 0
  | _ => .null
theorem g_fs_new {S : gs_S} {c a : Nat} : g_fs (p_new S c a) c a = (gk_kinds.getD c []).map g_dflt := by
  refine List.ext_getElem? fun j => ?_
  unfold g_fs
  rw [List.getElem?_mapIdx, List.getElem?_map]
  cases (gk_kinds.getD c [])[j]? with
  | none => rfl
  | some d =>
    match d with
    | 0 => simp [g_val, g_dflt, g_i, p_new]
    | 1 => simp [g_val, g_dflt, g_l, p_new]
    | n + 2 => simp [g_val, g_dflt, g_r, p_new, va_rf]
theorem g_RA {U : State} {a b : ClassId} {ty : FieldType} (h1 : va_RA U a ty) (h2 : va_RA U b ty) : a = b := by
  cases ty with
  | object C =>
    obtain ⟨_, _, -, -, -, f1⟩ := h1
    obtain ⟨_, _, -, -, -, f2⟩ := h2
    exact Option.some.inj (f1.symm.trans f2)
  | _ => exact Option.some.inj (h1.symm.trans h2)
/-- a class as the rows need it: its place in gk_cl, its fields' types, their names apart -/
def g_C (ci : Nat) (C : String) (T : u_T) (N : Nat) (ty : Nat → FieldType) : Prop := gk_cl[ci]? = some (C, T, N) ∧ (∀ k, k < N → parseFieldDescriptor (T k).2.2.1 = some (ty k)) ∧ ∀ a, a < N → ∀ b, b < N → a ≠ b → (T a).2.1 ≠ (T b).2.1
theorem g_nr {n : String} (r : Option Nat) : narrow (.object n) (va_rf r) = va_rf r := by cases r <;> rfl
theorem g_nra {t : FieldType} (r : Option Nat) : narrow (.array t) (va_rf r) = va_rf r := by cases r <;> rfl
section GS
variable {p : Program} {l : Launch} {e : Env} {R : Room} {s : State} {m : MethodId} {args : Array Value} {below : List Frame} {meth : Method} {c : Code} {H : Heap} {locs : List Loc} {cells slots : Nat} {Q : State → Prop}
variable {cc : ByteArray} {pc nL : Nat} {ls : Array Slot} {rest : List Value} {G : gs_G} {A : Nat → Prop} {S : gs_S} {Ts : List Cond} {own : String} {a : Nat}
theorem s_geti (hC : CallFix p m c cc nL s args Ts own) (hW : g_W G A s S H locs) {C : String} {T : u_T} {N : Nat} {ty0 : Nat → FieldType} {ci : Nat} (hc : g_C ci C T N ty0) (hin : ∀ w ∈ u_ws C T N, w ∈ Ts) (k : Nat) (hk : k < N) {index : Nat} (hlink : Cond.fieldLink own index (T k).1 (T k).2.1 (T k).2.2.1 ∈ Ts) (hkd : (gk_kinds.getD ci [])[k]? = some 0) (hsh : g_sh S a = some (.inl ci)) {v : Int32} (hv : g_i S ci k a = v) (hdg : decode cc pc = .ok (.getfield index, 3))
    (kk : W p l e R s m args below meth c H locs cells slots Q (F0 m (pc + 3) ls (.int v :: rest))) : W p l e R s m args below meth c H locs cells slots Q (F0 m pc ls (.ref a :: rest)) := by
  obtain ⟨hx, hb, hml, hown, hts⟩ := hC
  subst hv
  exact va_get hx hb hts hin hown hW.1.1 (g_one hW.2.1 (g_E_o hsh)) 0 rfl hc.1 k hk (hts _ hlink) (fun _ h => h) (g_fs_at hkd) hdg kk
theorem s_getl (hC : CallFix p m c cc nL s args Ts own) (hW : g_W G A s S H locs) {C : String} {T : u_T} {N : Nat} {ty0 : Nat → FieldType} {ci : Nat} (hc : g_C ci C T N ty0) (hin : ∀ w ∈ u_ws C T N, w ∈ Ts) (k : Nat) (hk : k < N) {index : Nat} (hlink : Cond.fieldLink own index (T k).1 (T k).2.1 (T k).2.2.1 ∈ Ts) (hkd : (gk_kinds.getD ci [])[k]? = some 1) (hsh : g_sh S a = some (.inl ci)) {v : Int64} (hv : g_l S ci k a = v) (hdg : decode cc pc = .ok (.getfield index, 3))
    (kk : W p l e R s m args below meth c H locs cells slots Q (F0 m (pc + 3) ls (.long v :: rest))) : W p l e R s m args below meth c H locs cells slots Q (F0 m pc ls (.ref a :: rest)) := by
  obtain ⟨hx, hb, hml, hown, hts⟩ := hC
  subst hv
  exact va_get hx hb hts hin hown hW.1.1 (g_one hW.2.1 (g_E_o hsh)) 0 rfl hc.1 k hk (hts _ hlink) (fun _ h => h) (g_fs_at hkd) hdg kk
theorem s_getr (hC : CallFix p m c cc nL s args Ts own) (hW : g_W G A s S H locs) {C : String} {T : u_T} {N : Nat} {ty0 : Nat → FieldType} {ci : Nat} (hc : g_C ci C T N ty0) (hin : ∀ w ∈ u_ws C T N, w ∈ Ts) (k : Nat) (hk : k < N) {index : Nat} (hlink : Cond.fieldLink own index (T k).1 (T k).2.1 (T k).2.2.1 ∈ Ts) (hkd : (gk_kinds.getD ci [])[k]? = some 2) (hsh : g_sh S a = some (.inl ci)) {v : Option Nat} (hv : g_r S ci k a = v) (hdg : decode cc pc = .ok (.getfield index, 3))
    (kk : W p l e R s m args below meth c H locs cells slots Q (F0 m (pc + 3) ls (va_rf v :: rest))) : W p l e R s m args below meth c H locs cells slots Q (F0 m pc ls (.ref a :: rest)) := by
  obtain ⟨hx, hb, hml, hown, hts⟩ := hC
  subst hv
  exact va_get hx hb hts hin hown hW.1.1 (g_one hW.2.1 (g_E_o hsh)) 0 rfl hc.1 k hk (hts _ hlink) (fun _ h => h) (g_fs_at hkd) hdg kk
/-- a field gets a value: any kind -/
theorem s_put0 (hC : CallFix p m c cc nL s args Ts own) (hW : g_W G A s S H locs) {C : String} {T : u_T} {N : Nat} {ty0 : Nat → FieldType} {ci : Nat} (hc : g_C ci C T N ty0) (hin : ∀ w ∈ u_ws C T N, w ∈ Ts) (k : Nat) (hk : k < N) {index : Nat} (hlink : Cond.fieldLink own index (T k).1 (T k).2.1 (T k).2.2.1 ∈ Ts) (hfin : (T k).2.2.2 = false ∨ ((T k).2.2.2 = true ∧ meth.name = "<init>" ∧ (T k).1 = own)) {v : Value} (hn : narrow (ty0 k) v = v) (hfit : fits (ty0 k) v = true) {kd : Nat} (hkd : (gk_kinds.getD ci [])[k]? = some kd) (hsh : g_sh S a = some (.inl ci)) {S' : gs_S} (ho : ∀ b : Nat, b ≠ a → g_E G.2 S' b = g_E G.2 S b) (hs : ∀ b : Nat, g_sh S' b = g_sh S b) (hf : g_fs S' ci a = (g_fs S ci a).set k v) (hdg : decode cc pc = .ok (.putfield index, 3))
    (kk : ∀ (H1 : Heap) (locs1 : List Loc), g_W G A s S' H1 locs1 → W p l e R s m args below meth c H1 locs1 cells slots Q (F0 m (pc + 3) ls rest)) : W p l e R s m args below meth c H locs cells slots Q (F0 m pc ls (v :: .ref a :: rest)) := by
  obtain ⟨hx, hb, hml, hown, hts⟩ := hC
  obtain ⟨⟨hK, hO⟩, hP, hdom, hA, hS⟩ := hW
  obtain ⟨q, hq⟩ := g_at hP (g_E_o hsh)
  have hlen : k < (g_fs S ci a).length := by rw [g_fs_len]; exact (List.getElem?_eq_some_iff.mp hkd).1
  have he : g_E G.2 S' a = some (.inr (ci, (g_fs S ci a).set k v)) := by rw [g_E_o ((hs a).trans hsh), hf]
  have hgo : ∀ (H1 : Heap) (locs1 : List Loc), va_P G.1 gk_cl ((g_Ls G S H.size).set q (a, .inr (ci, (g_fs S ci a).set k v))) H1 → va_D A ((g_Ls G S H.size).set q (a, .inr (ci, (g_fs S ci a).set k v))) → va_S A s.heap H1 locs1 → W p l e R s m args below meth c H1 locs1 cells slots Q (F0 m (pc + 3) ls rest) := fun H1 locs1 hP1 _ hS1 => kk H1 locs1 ⟨⟨hK, hO⟩, g_set hP hq ho he hP1, fun b h => hdom b (by rw [hs b] at h; exact h), hA, hS1⟩
  rcases hfin with h1 | ⟨h1, h2, h3⟩
  · exact va_put hx hb hts hin ty0 hc.2.1 hc.2.2 hown hK (g_Ls_P hP H.size) (g_Ls_D hdom H.size) hS q hq hc.1 k hk (hts _ hlink) (fun _ h => h) h1 (hc.2.1 k hk) hn hfit hlen hdg hgo
  · exact va_putF hx hb hts hin ty0 hc.2.1 hc.2.2 hown hK (g_Ls_P hP H.size) (g_Ls_D hdom H.size) hS q hq hc.1 k hk (hts _ hlink) (fun _ h => h) h1 h2 h3 (hc.2.1 k hk) hn hfit hlen hdg hgo
theorem s_puti (hC : CallFix p m c cc nL s args Ts own) (hW : g_W G A s S H locs) {C : String} {T : u_T} {N : Nat} {ty0 : Nat → FieldType} {ci : Nat} (hc : g_C ci C T N ty0) (hin : ∀ w ∈ u_ws C T N, w ∈ Ts) (k : Nat) (hk : k < N) {index : Nat} (hlink : Cond.fieldLink own index (T k).1 (T k).2.1 (T k).2.2.1 ∈ Ts) (hfin : (T k).2.2.2 = false ∨ ((T k).2.2.2 = true ∧ meth.name = "<init>" ∧ (T k).1 = own)) {v : Int32} (hn : narrow (ty0 k) (.int v) = .int v) (hfit : fits (ty0 k) (.int v) = true) (hkd : (gk_kinds.getD ci [])[k]? = some 0) (hsh : g_sh S a = some (.inl ci)) (hdg : decode cc pc = .ok (.putfield index, 3))
    (kk : ∀ (H1 : Heap) (locs1 : List Loc), g_W G A s (p_i S ci k a v) H1 locs1 → W p l e R s m args below meth c H1 locs1 cells slots Q (F0 m (pc + 3) ls rest)) : W p l e R s m args below meth c H locs cells slots Q (F0 m pc ls (.int v :: .ref a :: rest)) :=
  s_put0 hC hW hc hin k hk hlink hfin hn hfit hkd hsh (S' := p_i S ci k a v) (fun b hb => g_E_pi hb) (fun b => rfl) (g_fs_pi hkd) hdg kk
theorem s_putl (hC : CallFix p m c cc nL s args Ts own) (hW : g_W G A s S H locs) {C : String} {T : u_T} {N : Nat} {ty0 : Nat → FieldType} {ci : Nat} (hc : g_C ci C T N ty0) (hin : ∀ w ∈ u_ws C T N, w ∈ Ts) (k : Nat) (hk : k < N) {index : Nat} (hlink : Cond.fieldLink own index (T k).1 (T k).2.1 (T k).2.2.1 ∈ Ts) (hfin : (T k).2.2.2 = false ∨ ((T k).2.2.2 = true ∧ meth.name = "<init>" ∧ (T k).1 = own)) {v : Int64} (hn : narrow (ty0 k) (.long v) = .long v) (hfit : fits (ty0 k) (.long v) = true) (hkd : (gk_kinds.getD ci [])[k]? = some 1) (hsh : g_sh S a = some (.inl ci)) (hdg : decode cc pc = .ok (.putfield index, 3))
    (kk : ∀ (H1 : Heap) (locs1 : List Loc), g_W G A s (p_l S ci k a v) H1 locs1 → W p l e R s m args below meth c H1 locs1 cells slots Q (F0 m (pc + 3) ls rest)) : W p l e R s m args below meth c H locs cells slots Q (F0 m pc ls (.long v :: .ref a :: rest)) :=
  s_put0 hC hW hc hin k hk hlink hfin hn hfit hkd hsh (S' := p_l S ci k a v) (fun b hb => g_E_pl hb) (fun b => rfl) (g_fs_pl hkd) hdg kk
theorem s_putr (hC : CallFix p m c cc nL s args Ts own) (hW : g_W G A s S H locs) {C : String} {T : u_T} {N : Nat} {ty0 : Nat → FieldType} {ci : Nat} (hc : g_C ci C T N ty0) (hin : ∀ w ∈ u_ws C T N, w ∈ Ts) (k : Nat) (hk : k < N) {index : Nat} (hlink : Cond.fieldLink own index (T k).1 (T k).2.1 (T k).2.2.1 ∈ Ts) (hfin : (T k).2.2.2 = false ∨ ((T k).2.2.2 = true ∧ meth.name = "<init>" ∧ (T k).1 = own)) {v : Option Nat} (hn : narrow (ty0 k) (va_rf v) = va_rf v) (hfit : fits (ty0 k) (va_rf v) = true) (hkd : (gk_kinds.getD ci [])[k]? = some 2) (hsh : g_sh S a = some (.inl ci)) (hdg : decode cc pc = .ok (.putfield index, 3))
    (kk : ∀ (H1 : Heap) (locs1 : List Loc), g_W G A s (p_r S ci k a v) H1 locs1 → W p l e R s m args below meth c H1 locs1 cells slots Q (F0 m (pc + 3) ls rest)) : W p l e R s m args below meth c H locs cells slots Q (F0 m pc ls (va_rf v :: .ref a :: rest)) :=
  s_put0 hC hW hc hin k hk hlink hfin hn hfit hkd hsh (S' := p_r S ci k a v) (fun b hb => g_E_pr hb) (fun b => rfl) (g_fs_pr hkd) hdg kk
theorem s_iald (hC : CallFix p m c cc nL s args Ts own) (hW : g_W G A s S H locs) {r n : Nat} (hsh : g_sh S a = some (.inr (r, n))) (hrep : gk_rep r = 0) (ht : (gk_tys G.2)[gk_role r]? = some (G.2 (gk_role r), .int)) {i : Int32} (hin : vp_in i n) {v : Int32} (hv : g_ai S r a i.toNatClampNeg = v) (hdg : decode cc pc = .ok (.iaload, 1))
    (kk : W p l e R s m args below meth c H locs cells slots Q (F0 m (pc + 1) ls (.int v :: rest))) : W p l e R s m args below meth c H locs cells slots Q (F0 m pc ls (.int i :: .ref a :: rest)) := by
  obtain ⟨hx, hb, hml, hown, hts⟩ := hC
  subst hv
  have he := g_E_a (T := G.2) hsh
  rw [g_arr_i hrep] at he
  exact va_iald hx hb hW.1.1 (g_one hW.2.1 he) 0 (gk_role r) rfl ht hin hdg kk
theorem s_zald (hC : CallFix p m c cc nL s args Ts own) (hW : g_W G A s S H locs) {r n : Nat} (hsh : g_sh S a = some (.inr (r, n))) (hrep : gk_rep r = 0) (ht : (gk_tys G.2)[gk_role r]? = some (G.2 (gk_role r), .boolean)) {i : Int32} (hin : vp_in i n) {v : Int32} (hv : g_ai S r a i.toNatClampNeg = v) (hdg : decode cc pc = .ok (.baload, 1))
    (kk : W p l e R s m args below meth c H locs cells slots Q (F0 m (pc + 1) ls (.int v :: rest))) : W p l e R s m args below meth c H locs cells slots Q (F0 m pc ls (.int i :: .ref a :: rest)) := by
  obtain ⟨hx, hb, hml, hown, hts⟩ := hC
  subst hv
  have he := g_E_a (T := G.2) hsh
  rw [g_arr_i hrep] at he
  exact va_zald hx hb hW.1.1 (g_one hW.2.1 he) 0 (gk_role r) rfl ht hin hdg kk
theorem s_lald (hC : CallFix p m c cc nL s args Ts own) (hW : g_W G A s S H locs) {r n : Nat} (hsh : g_sh S a = some (.inr (r, n))) (hrep : gk_rep r = 1) (ht : (gk_tys G.2)[gk_role r]? = some (G.2 (gk_role r), .long)) {i : Int32} (hin : vp_in i n) {v : Int64} (hv : g_al S r a i.toNatClampNeg = v) (hdg : decode cc pc = .ok (.laload, 1))
    (kk : W p l e R s m args below meth c H locs cells slots Q (F0 m (pc + 1) ls (.long v :: rest))) : W p l e R s m args below meth c H locs cells slots Q (F0 m pc ls (.int i :: .ref a :: rest)) := by
  obtain ⟨hx, hb, hml, hown, hts⟩ := hC
  subst hv
  have he := g_E_a (T := G.2) hsh
  rw [g_arr_l hrep] at he
  exact va_lald hx hb hW.1.1 (g_one hW.2.1 he) 0 (gk_role r) rfl ht hin hdg kk
theorem s_aald (hC : CallFix p m c cc nL s args Ts own) (hW : g_W G A s S H locs) {r n : Nat} (hsh : g_sh S a = some (.inr (r, n))) (hrep : gk_rep r = 2) {C : String} (ht : (gk_tys G.2)[gk_role r]? = some (G.2 (gk_role r), .object C)) {i : Int32} (hin : vp_in i n) {v : Option Nat} (hv : g_ar S r a i.toNatClampNeg = v) (hdg : decode cc pc = .ok (.aaload, 1))
    (kk : W p l e R s m args below meth c H locs cells slots Q (F0 m (pc + 1) ls (va_rf v :: rest))) : W p l e R s m args below meth c H locs cells slots Q (F0 m pc ls (.int i :: .ref a :: rest)) := by
  obtain ⟨hx, hb, hml, hown, hts⟩ := hC
  subst hv
  have he := g_E_a (T := G.2) hsh
  rw [g_arr_r hrep] at he
  exact va_aldq hx hb hW.1.1 (g_one hW.2.1 he) 0 (gk_role r) rfl ht hin hdg kk
theorem s_iast (hC : CallFix p m c cc nL s args Ts own) (hW : g_W G A s S H locs) {r n : Nat} (hsh : g_sh S a = some (.inr (r, n))) (hrep : gk_rep r = 0) (ht : (gk_tys G.2)[gk_role r]? = some (G.2 (gk_role r), .int)) {i x : Int32} (hin : vp_in i n) (hdg : decode cc pc = .ok (.iastore, 1))
    (kk : ∀ (H1 : Heap) (locs1 : List Loc), g_W G A s (p_ai S r a i.toNatClampNeg x) H1 locs1 → W p l e R s m args below meth c H1 locs1 cells slots Q (F0 m (pc + 1) ls rest)) : W p l e R s m args below meth c H locs cells slots Q (F0 m pc ls (.int x :: .int i :: .ref a :: rest)) := by
  obtain ⟨hx, hb, hml, hown, hts⟩ := hC
  obtain ⟨⟨hK, hO⟩, hP, hdom, hA, hS⟩ := hW
  have he := g_E_a (T := G.2) hsh
  rw [g_arr_i hrep] at he
  obtain ⟨q, hq⟩ := g_at hP he
  refine va_iast hx hb hK (g_Ls_P hP H.size) (g_Ls_D hdom H.size) hS q (gk_role r) hq ht hin hdg (fun H1 locs1 hP1 _ hS1 => kk H1 locs1 ⟨⟨hK, hO⟩, g_set hP hq (fun b hb => g_E_pai hb) ?_ hP1, hdom, hA, hS1⟩)
  rw [g_E_a (show g_sh (p_ai S r a i.toNatClampNeg x) a = some (.inr (r, n)) from hsh), g_arr_i hrep, g_ai_p]
theorem s_zast (hC : CallFix p m c cc nL s args Ts own) (hW : g_W G A s S H locs) {r n : Nat} (hsh : g_sh S a = some (.inr (r, n))) (hrep : gk_rep r = 0) (ht : (gk_tys G.2)[gk_role r]? = some (G.2 (gk_role r), .boolean)) {i x : Int32} (hin : vp_in i n) (hdg : decode cc pc = .ok (.bastore, 1))
    (kk : ∀ (H1 : Heap) (locs1 : List Loc), g_W G A s (p_ai S r a i.toNatClampNeg (vp_nar .boolean x)) H1 locs1 → W p l e R s m args below meth c H1 locs1 cells slots Q (F0 m (pc + 1) ls rest)) : W p l e R s m args below meth c H locs cells slots Q (F0 m pc ls (.int x :: .int i :: .ref a :: rest)) := by
  obtain ⟨hx, hb, hml, hown, hts⟩ := hC
  obtain ⟨⟨hK, hO⟩, hP, hdom, hA, hS⟩ := hW
  have he := g_E_a (T := G.2) hsh
  rw [g_arr_i hrep] at he
  obtain ⟨q, hq⟩ := g_at hP he
  refine va_zast hx hb hK (g_Ls_P hP H.size) (g_Ls_D hdom H.size) hS q (gk_role r) hq ht hin hdg (fun H1 locs1 hP1 _ hS1 => kk H1 locs1 ⟨⟨hK, hO⟩, g_set hP hq (fun b hb => g_E_pai hb) ?_ hP1, hdom, hA, hS1⟩)
  rw [g_E_a (show g_sh (p_ai S r a i.toNatClampNeg (vp_nar .boolean x)) a = some (.inr (r, n)) from hsh), g_arr_i hrep, g_ai_p]
theorem s_last (hC : CallFix p m c cc nL s args Ts own) (hW : g_W G A s S H locs) {r n : Nat} (hsh : g_sh S a = some (.inr (r, n))) (hrep : gk_rep r = 1) (ht : (gk_tys G.2)[gk_role r]? = some (G.2 (gk_role r), .long)) {i : Int32} {x : Int64} (hin : vp_in i n) (hdg : decode cc pc = .ok (.lastore, 1))
    (kk : ∀ (H1 : Heap) (locs1 : List Loc), g_W G A s (p_al S r a i.toNatClampNeg x) H1 locs1 → W p l e R s m args below meth c H1 locs1 cells slots Q (F0 m (pc + 1) ls rest)) : W p l e R s m args below meth c H locs cells slots Q (F0 m pc ls (.long x :: .int i :: .ref a :: rest)) := by
  obtain ⟨hx, hb, hml, hown, hts⟩ := hC
  obtain ⟨⟨hK, hO⟩, hP, hdom, hA, hS⟩ := hW
  have he := g_E_a (T := G.2) hsh
  rw [g_arr_l hrep] at he
  obtain ⟨q, hq⟩ := g_at hP he
  refine va_last hx hb hK (g_Ls_P hP H.size) (g_Ls_D hdom H.size) hS q (gk_role r) hq ht hin hdg (fun H1 locs1 hP1 _ hS1 => kk H1 locs1 ⟨⟨hK, hO⟩, g_set hP hq (fun b hb => g_E_pal hb) ?_ hP1, hdom, hA, hS1⟩)
  rw [g_E_a (show g_sh (p_al S r a i.toNatClampNeg x) a = some (.inr (r, n)) from hsh), g_arr_l hrep, g_al_p]
theorem s_aast (hC : CallFix p m c cc nL s args Ts own) (hW : g_W G A s S H locs) {C : String} {T : u_T} {N : Nat} {ty0 : Nat → FieldType} {ci : Nat} (hc : g_C ci C T N ty0) {r n : Nat} (hsh : g_sh S a = some (.inr (r, n))) (hrep : gk_rep r = 2) (ht : (gk_tys G.2)[gk_role r]? = some (G.2 (gk_role r), .object C)) {i : Int32} {x : Option Nat} (hxo : ∀ b : Nat, x = some b → g_sh S b = some (.inl ci)) (hin : vp_in i n) (hdg : decode cc pc = .ok (.aastore, 1))
    (kk : ∀ (H1 : Heap) (locs1 : List Loc), g_W G A s (p_ar S r a i.toNatClampNeg x) H1 locs1 → W p l e R s m args below meth c H1 locs1 cells slots Q (F0 m (pc + 1) ls rest)) : W p l e R s m args below meth c H locs cells slots Q (F0 m pc ls (va_rf x :: .int i :: .ref a :: rest)) := by
  obtain ⟨hx, hb, hml, hown, hts⟩ := hC
  obtain ⟨⟨hK, hO⟩, hP, hdom, hA, hS⟩ := hW
  have he := g_E_a (T := G.2) hsh
  rw [g_arr_r hrep] at he
  obtain ⟨q, hq⟩ := g_at hP he
  have hfin : ∀ x : Option Nat, g_E G.2 (p_ar S r a i.toNatClampNeg x) a = some (.inl (G.2 (gk_role r), n, .inr (.inr (.inr (.inr (va_up (g_ar S r a) i.toNatClampNeg x)))))) := fun x => by
    rw [g_E_a (show g_sh (p_ar S r a i.toNatClampNeg x) a = some (.inr (r, n)) from hsh), g_arr_r hrep, g_ar_p]
  cases x with
  | none => exact va_astqN hx hb hK (g_Ls_P hP H.size) (g_Ls_D hdom H.size) hS q (gk_role r) hq ht hin hdg (fun H1 locs1 hP1 _ hS1 => kk H1 locs1 ⟨⟨hK, hO⟩, g_set hP hq (fun b hb => g_E_par hb) (hfin none) hP1, hdom, hA, hS1⟩)
  | some b =>
    obtain ⟨q2, hq2⟩ := g_at hP (g_E_o (hxo b rfl))
    exact va_astq hx hb hK (g_Ls_P hP H.size) (g_Ls_D hdom H.size) hS q (gk_role r) q2 ci hq ht hq2 hc.1 hin hdg (fun H1 locs1 hP1 _ hS1 => kk H1 locs1 ⟨⟨hK, hO⟩, g_set hP hq (fun b hb => g_E_par hb) (hfin (some b)) hP1, hdom, hA, hS1⟩)
theorem s_alen (hC : CallFix p m c cc nL s args Ts own) (hW : g_W G A s S H locs) {r n : Nat} (hsh : g_sh S a = some (.inr (r, n))) {ty : FieldType} (ht : (gk_tys G.2)[gk_role r]? = some (G.2 (gk_role r), ty)) {v : Int32} (hv : nI n = v) (hdg : decode cc pc = .ok (.arraylength, 1))
    (kk : W p l e R s m args below meth c H locs cells slots Q (F0 m (pc + 1) ls (.int v :: rest))) : W p l e R s m args below meth c H locs cells slots Q (F0 m pc ls (.ref a :: rest)) := by
  obtain ⟨hx, hb, hml, hown, hts⟩ := hC
  exact va_alen hx hb hW.1.1 (g_one hW.2.1 (g_E_a hsh)) 0 (gk_role r) rfl ht (show Int32.ofNat n = v from hv) hdg kk
theorem g_domN {S S' : gs_S} {A : Nat → Prop} {q : Nat} {e : va_E} {n : Nat} (hdom : ∀ a : Nat, g_sh S a ≠ none → A a) (hD : va_D A (g_Ls G S n ++ [(q, e)])) (h : ∀ b : Nat, b ≠ q → g_sh S' b = g_sh S b) : ∀ a : Nat, g_sh S' a ≠ none → A a := by
  intro b hb
  by_cases hq : b = q
  · subst hq
    refine hD.2 (g_Ls G S n).length (b, e) ?_
    rw [List.getElem?_append_right (Nat.le_refl _), Nat.sub_self]
    rfl
  · rw [h b hq] at hb
    exact hdom b hb
theorem s_new (hC : CallFix p m c cc nL s args Ts own) (hW : g_W G A s S H locs) {C : String} {T : u_T} {N : Nat} {ty0 : Nat → FieldType} {ci : Nat} (hc : g_C ci C T N ty0) (hin : ∀ w ∈ u_ws C T N, w ∈ Ts) {index : Nat} (hlink : Cond.classLink own index C ∈ Ts) (hinst : Cond.instantiable C N ∈ Ts) (hini : Cond.initialized C ∈ Ts) (hfs : ∀ j, j < N → defaultValue (ty0 j) = vp_V ((gk_kinds.getD ci []).map g_dflt) j) (hcells : cells + 1 ≤ R.cells) (hslots : slots + N ≤ R.slots) (hdg : decode cc pc = .ok (.new index, 3))
    (kk : ∀ (q : Nat) (H1 : Heap), g_sh S q = none → g_W G A s (p_new S ci q) H1 locs → W p l e R s m args below meth c H1 locs (cells + 1) (slots + N) Q (F0 m (pc + 3) ls (.ref q :: rest))) : W p l e R s m args below meth c H locs cells slots Q (F0 m pc ls rest) := by
  obtain ⟨hx, hb, hml, hown, hts⟩ := hC
  obtain ⟨⟨hK, hO⟩, hP, hdom, hA, hS⟩ := hW
  refine va_new hx hb hts hin ty0 hc.2.1 hown (hts _ hlink) (hts _ hinst) (hts _ hini) hK (g_Ls_P hP H.size) (g_Ls_D hdom H.size) hS hA hc.1 hfs hcells hslots hdg (fun q H1 hP1 hD1 hS1 => kk q H1 (g_fresh hP hD1) ⟨⟨hK, hO⟩, g_new hP (fun b hb => g_E_new hb) ?_ hP1, g_domN hdom hD1 (fun b hb => g_sh_newN hb), hA, hS1⟩)
  rw [g_E_o g_sh_new, g_fs_new]
theorem g_newTy {t0 : Nat} {ty : FieldType} {cA : ClassId} (hK : va_K G.1 gk_cl (gk_tys G.2) s) (ht : (gk_tys G.2)[t0]? = some (G.2 t0, ty)) (h : va_K G.1 gk_cl (gk_tys G.2 ++ [(cA, ty)]) s) : cA = G.2 t0 := by
  have h1 := (h.2 (gk_tys G.2).length (cA, ty) (by rw [List.getElem?_append_right (Nat.le_refl _), Nat.sub_self]; rfl)).2
  exact g_RA h1 (hK.2 t0 _ ht).2
theorem s_newI (hC : CallFix p m c cc nL s args Ts own) (hW : g_W G A s S H locs) (r : Nat) (hrep : gk_rep r = 0) (ht : (gk_tys G.2)[gk_role r]? = some (G.2 (gk_role r), .int)) (harr : Cond.arrayClass .int ∈ Ts) {i : Int32} {n : Nat} (hi : ¬ i < 0) (hn : i.toNatClampNeg = n) (hbytes : n * componentBytes .int ≤ 536870912) (hcells : cells + 1 ≤ R.cells) (hslots : slots + n ≤ R.slots) (hdg : decode cc pc = .ok (.newarray .int, 2))
    (kk : ∀ (q : Nat) (H1 : Heap), g_sh S q = none → g_W G A s (p_newA S r n q) H1 locs → W p l e R s m args below meth c H1 locs (cells + 1) (slots + n) Q (F0 m (pc + 2) ls (.ref q :: rest))) : W p l e R s m args below meth c H locs cells slots Q (F0 m pc ls (.int i :: rest)) := by
  obtain ⟨hx, hb, hml, hown, hts⟩ := hC
  obtain ⟨⟨hK, hO⟩, hP, hdom, hA, hS⟩ := hW
  refine va_newa (atype := .int) (ty := .int) (a0 := (n, .inl (fun _ => 0))) hx hb (hts _ harr) rfl hK (g_Ls_P hP H.size) (g_Ls_D hdom H.size) hS hA (fun cA => rfl) hi hn hbytes hcells hslots hdg (fun q cA H1 hK1 hP1 hD1 hS1 => ?_)
  have hcA := g_newTy hK ht hK1
  subst hcA
  refine kk q H1 (g_fresh hP hD1) ⟨⟨hK, hO⟩, g_new hP (fun b hb => g_E_newA hb) ?_ hP1, g_domN hdom hD1 (fun b hb => g_sh_newAN hb), hA, hS1⟩
  rw [g_E_a g_sh_newA, g_arr_i hrep]
  rw [show g_ai (p_newA S r n q) r q = fun _ => 0 from funext fun j => by simp [g_ai, p_newA]]
theorem s_newL (hC : CallFix p m c cc nL s args Ts own) (hW : g_W G A s S H locs) (r : Nat) (hrep : gk_rep r = 1) (ht : (gk_tys G.2)[gk_role r]? = some (G.2 (gk_role r), .long)) (harr : Cond.arrayClass .long ∈ Ts) {i : Int32} {n : Nat} (hi : ¬ i < 0) (hn : i.toNatClampNeg = n) (hbytes : n * componentBytes .long ≤ 536870912) (hcells : cells + 1 ≤ R.cells) (hslots : slots + n ≤ R.slots) (hdg : decode cc pc = .ok (.newarray .long, 2))
    (kk : ∀ (q : Nat) (H1 : Heap), g_sh S q = none → g_W G A s (p_newA S r n q) H1 locs → W p l e R s m args below meth c H1 locs (cells + 1) (slots + n) Q (F0 m (pc + 2) ls (.ref q :: rest))) : W p l e R s m args below meth c H locs cells slots Q (F0 m pc ls (.int i :: rest)) := by
  obtain ⟨hx, hb, hml, hown, hts⟩ := hC
  obtain ⟨⟨hK, hO⟩, hP, hdom, hA, hS⟩ := hW
  refine va_newa (atype := .long) (ty := .long) (a0 := (n, .inr (.inl (fun _ => 0)))) hx hb (hts _ harr) rfl hK (g_Ls_P hP H.size) (g_Ls_D hdom H.size) hS hA (fun cA => rfl) hi hn hbytes hcells hslots hdg (fun q cA H1 hK1 hP1 hD1 hS1 => ?_)
  have hcA := g_newTy hK ht hK1
  subst hcA
  refine kk q H1 (g_fresh hP hD1) ⟨⟨hK, hO⟩, g_new hP (fun b hb => g_E_newA hb) ?_ hP1, g_domN hdom hD1 (fun b hb => g_sh_newAN hb), hA, hS1⟩
  rw [g_E_a g_sh_newA, g_arr_l hrep]
  rw [show g_al (p_newA S r n q) r q = fun _ => 0 from funext fun j => by simp [g_al, p_newA]]
theorem s_newZ (hC : CallFix p m c cc nL s args Ts own) (hW : g_W G A s S H locs) (r : Nat) (hrep : gk_rep r = 0) (ht : (gk_tys G.2)[gk_role r]? = some (G.2 (gk_role r), .boolean)) (harr : Cond.arrayClass .boolean ∈ Ts) {i : Int32} {n : Nat} (hi : ¬ i < 0) (hn : i.toNatClampNeg = n) (hbytes : n * componentBytes .boolean ≤ 536870912) (hcells : cells + 1 ≤ R.cells) (hslots : slots + n ≤ R.slots) (hdg : decode cc pc = .ok (.newarray .boolean, 2))
    (kk : ∀ (q : Nat) (H1 : Heap), g_sh S q = none → g_W G A s (p_newA S r n q) H1 locs → W p l e R s m args below meth c H1 locs (cells + 1) (slots + n) Q (F0 m (pc + 2) ls (.ref q :: rest))) : W p l e R s m args below meth c H locs cells slots Q (F0 m pc ls (.int i :: rest)) := by
  obtain ⟨hx, hb, hml, hown, hts⟩ := hC
  obtain ⟨⟨hK, hO⟩, hP, hdom, hA, hS⟩ := hW
  refine va_newa (atype := .boolean) (ty := .boolean) (a0 := (n, .inl (fun _ => 0))) hx hb (hts _ harr) rfl hK (g_Ls_P hP H.size) (g_Ls_D hdom H.size) hS hA (fun cA => rfl) hi hn hbytes hcells hslots hdg (fun q cA H1 hK1 hP1 hD1 hS1 => ?_)
  have hcA := g_newTy hK ht hK1
  subst hcA
  refine kk q H1 (g_fresh hP hD1) ⟨⟨hK, hO⟩, g_new hP (fun b hb => g_E_newA hb) ?_ hP1, g_domN hdom hD1 (fun b hb => g_sh_newAN hb), hA, hS1⟩
  rw [g_E_a g_sh_newA, g_arr_i hrep]
  rw [show g_ai (p_newA S r n q) r q = fun _ => 0 from funext fun j => by simp [g_ai, p_newA]]
theorem s_newQ (hC : CallFix p m c cc nL s args Ts own) (hW : g_W G A s S H locs) (r : Nat) (hrep : gk_rep r = 2) {C : String} (ht : (gk_tys G.2)[gk_role r]? = some (G.2 (gk_role r), .object C)) {index : Nat} (hlink : Cond.classLink own index C ∈ Ts) (hover : va_AO C s) {i : Int32} {n : Nat} (hi : ¬ i < 0) (hn : i.toNatClampNeg = n) (hbytes : n * 4 ≤ 536870912) (hcells : cells + 1 ≤ R.cells) (hslots : slots + n ≤ R.slots) (hdg : decode cc pc = .ok (.anewarray index, 3))
    (kk : ∀ (q : Nat) (H1 : Heap), g_sh S q = none → g_W G A s (p_newA S r n q) H1 locs → W p l e R s m args below meth c H1 locs (cells + 1) (slots + n) Q (F0 m (pc + 3) ls (.ref q :: rest))) : W p l e R s m args below meth c H locs cells slots Q (F0 m pc ls (.int i :: rest)) := by
  obtain ⟨hx, hb, hml, hown, hts⟩ := hC
  obtain ⟨⟨hK, hO⟩, hP, hdom, hA, hS⟩ := hW
  refine va_newq hx hb hown (hts _ hlink) hover hK (g_Ls_P hP H.size) (g_Ls_D hdom H.size) hS hA hi hn hbytes hcells hslots hdg (fun q cA H1 hK1 hP1 hD1 hS1 => ?_)
  have hcA := g_newTy hK ht hK1
  subst hcA
  refine kk q H1 (g_fresh hP hD1) ⟨⟨hK, hO⟩, g_new hP (fun b hb => g_E_newA hb) ?_ hP1, g_domN hdom hD1 (fun b hb => g_sh_newAN hb), hA, hS1⟩
  rw [g_E_a g_sh_newA, g_arr_r hrep]
  rw [show g_ar (p_newA S r n q) r q = fun _ => none from funext fun j => by simp [g_ar, p_newA]]
end GS
/-! contracts over ghost states -/
def g_A (S : gs_S) (sz : Nat) : Nat → Prop := fun q => g_sh S q ≠ none ∨ sz ≤ q
def g_Pc (G : gs_G) (S : gs_S) (sz : Nat) (av : List Value) : Array Value → State → Prop := va_Pc av (fun U => U.heap.size = sz ∧ g_P G S U.heap ∧ g_K G U)
def g_B (G : gs_G) (S : gs_S) (sz : Nat) (S' : gs_S) (t : State) : Prop := g_P G S' t.heap ∧ g_K G t ∧ ∀ a : Nat, g_sh S' a ≠ none → g_A S sz a
def g_Qi (G : gs_G) (S : gs_S) (sz : Nat) (post : Int32 → gs_S → Prop) : Array Value → State → Outcome → State → Prop := va_Qi post (g_B G S sz) (g_A S sz)
def g_Ql (G : gs_G) (S : gs_S) (sz : Nat) (post : Int64 → gs_S → Prop) : Array Value → State → Outcome → State → Prop := va_Ql post (g_B G S sz) (g_A S sz)
def g_Qv (G : gs_G) (S : gs_S) (sz : Nat) (post : gs_S → Prop) : Array Value → State → Outcome → State → Prop := va_Qv post (g_B G S sz) (g_A S sz)
def g_Qq (G : gs_G) (S : gs_S) (sz : Nat) (post : Option Nat → gs_S → Prop) : Array Value → State → Outcome → State → Prop := va_Qq post (g_B G S sz) (g_A S sz)
section GC
variable {p : Program} {l : Launch} {e : Env} {R : Room} {s : State} {m : MethodId} {args : Array Value} {below : List Frame} {meth : Method} {c : Code} {H : Heap} {locs : List Loc} {cells slots : Nat} {Q : State → Prop}
variable {cc : ByteArray} {pc nL mc ms : Nat} {ls : Array Slot} {rest st0 : List Value} {G : gs_G} {A : Nat → Prop} {S S0 : gs_S} {Ts : List Cond} {own : String} {ar : Array Value}
theorem g_preS (hW : g_W G A s S H locs) (av : List Value) : PreS s H (g_Pc G S H.size av) av :=
  ⟨fun a U g mk q => by obtain ⟨q0, q1, qP, qK⟩ := q; exact ⟨q0, q1, qP, g_K.moved (u := U) (U := U.calling g mk a) (Vm.Alike.refl U.vm) qK⟩, fun U hU hWm => ⟨rfl, by rw [hU], by rw [hU]; exact hW.2.1, g_K.moved hWm.alike hW.1⟩⟩
theorem g_preV (hW : g_W G A s S H locs) {b ci : Nat} {C : String} {T : u_T} {N : Nat} {ty0 : Nat → FieldType} (hc : g_C ci C T N ty0) (hsh : g_sh S b = some (.inl ci)) (As : List Value) : PreV s H C b (g_Pc G S H.size (.ref b :: As)) As :=
  ⟨fun a U g mk q => by obtain ⟨q0, q1, qP, qK⟩ := q; exact ⟨q0, q1, qP, g_K.moved (u := U) (U := U.calling g mk a) (Vm.Alike.refl U.vm) qK⟩, va_recv hW.1.1 (g_one hW.2.1 (g_E_o hsh)) hc.1 (q0 := 0) rfl, fun U hU hWm => ⟨rfl, by rw [hU], by rw [hU]; exact hW.2.1, g_K.moved hWm.alike hW.1⟩⟩
theorem g_fr (hW : g_W G A s S H locs) : ∀ q : Nat, g_A S H.size q → A q := fun q h => h.elim (hW.2.2.1 q) (fun h => hW.2.2.2.1 q (Nat.le_trans hW.2.2.2.2.1 h))
theorem s_calli {post : Int32 → gs_S → Prop} (hW : g_W G A s S H locs) (hr : va_Run p l e R s m args below meth c H locs cells slots mc ms (F0 m pc ls st0) rest (g_Qi G S H.size post ar) (g_A S H.size))
    (kk : ∀ (r : Int32) (S' : gs_S) (H1 : Heap) (locs1 : List Loc), post r S' → g_W G A s S' H1 locs1 → W p l e R s m args below meth c H1 locs1 (cells + mc) (slots + ms) Q (F0 m (pc + 3) ls (.int r :: rest))) : W p l e R s m args below meth c H locs cells slots Q (F0 m pc ls st0) := by
  have hf := g_fr hW
  refine va_calli hr hW.2.2.2.2 (fun q _ h => hf q h) hf (fun r u t H1 locs1 ht hvm hp hB hz hk hS => ?_)
  obtain ⟨b1, b2, b3⟩ := hB
  exact kk r u H1 locs1 hp ⟨g_K.moved hvm.symm b2, by rw [ht] at b1; exact b1, fun a h => hf a (b3 a h), hW.2.2.2.1, hS⟩
theorem s_calll {post : Int64 → gs_S → Prop} (hW : g_W G A s S H locs) (hr : va_Run p l e R s m args below meth c H locs cells slots mc ms (F0 m pc ls st0) rest (g_Ql G S H.size post ar) (g_A S H.size))
    (kk : ∀ (r : Int64) (S' : gs_S) (H1 : Heap) (locs1 : List Loc), post r S' → g_W G A s S' H1 locs1 → W p l e R s m args below meth c H1 locs1 (cells + mc) (slots + ms) Q (F0 m (pc + 3) ls (.long r :: rest))) : W p l e R s m args below meth c H locs cells slots Q (F0 m pc ls st0) := by
  have hf := g_fr hW
  refine va_calll hr hW.2.2.2.2 (fun q _ h => hf q h) hf (fun r u t H1 locs1 ht hvm hp hB hz hk hS => ?_)
  obtain ⟨b1, b2, b3⟩ := hB
  exact kk r u H1 locs1 hp ⟨g_K.moved hvm.symm b2, by rw [ht] at b1; exact b1, fun a h => hf a (b3 a h), hW.2.2.2.1, hS⟩
theorem s_callv {post : gs_S → Prop} (hW : g_W G A s S H locs) (hr : va_Run p l e R s m args below meth c H locs cells slots mc ms (F0 m pc ls st0) rest (g_Qv G S H.size post ar) (g_A S H.size))
    (kk : ∀ (S' : gs_S) (H1 : Heap) (locs1 : List Loc), post S' → g_W G A s S' H1 locs1 → W p l e R s m args below meth c H1 locs1 (cells + mc) (slots + ms) Q (F0 m (pc + 3) ls rest)) : W p l e R s m args below meth c H locs cells slots Q (F0 m pc ls st0) := by
  have hf := g_fr hW
  refine va_callv hr hW.2.2.2.2 (fun q _ h => hf q h) hf (fun u t H1 locs1 ht hvm hp hB hz hk hS => ?_)
  obtain ⟨b1, b2, b3⟩ := hB
  exact kk u H1 locs1 hp ⟨g_K.moved hvm.symm b2, by rw [ht] at b1; exact b1, fun a h => hf a (b3 a h), hW.2.2.2.1, hS⟩
theorem s_callq {post : Option Nat → gs_S → Prop} (hW : g_W G A s S H locs) (hr : va_Run p l e R s m args below meth c H locs cells slots mc ms (F0 m pc ls st0) rest (g_Qq G S H.size post ar) (g_A S H.size))
    (kk : ∀ (r : Option Nat) (S' : gs_S) (H1 : Heap) (locs1 : List Loc), post r S' → g_W G A s S' H1 locs1 → W p l e R s m args below meth c H1 locs1 (cells + mc) (slots + ms) Q (F0 m (pc + 3) ls (va_rf r :: rest))) : W p l e R s m args below meth c H locs cells slots Q (F0 m pc ls st0) := by
  have hf := g_fr hW
  refine va_callq hr hW.2.2.2.2 (fun q _ h => hf q h) hf (fun r u t H1 locs1 ht hvm hp hB hz hk hS => ?_)
  obtain ⟨b1, b2, b3⟩ := hB
  exact kk r u H1 locs1 hp ⟨g_K.moved hvm.symm b2, by rw [ht] at b1; exact b1, fun a h => hf a (b3 a h), hW.2.2.2.1, hS⟩
theorem s_iret {post : Int32 → gs_S → Prop} {v : Int32} {ty : FieldType} (hC : CallFix p m c cc nL s args Ts own) (hr : meth.sig.returnType = some ty) (hlocks : meth.locks = false) (hn : narrow ty (.int v) = .int v) (hW : g_W G (g_A S0 s.heap.size) s S H locs) (hdg : decode cc pc = .ok (.ireturn, 1)) (hp : post v S) :
    W p l e R s m args below meth c H locs cells slots (MQ below (g_Qi G S0 s.heap.size post) args s cells slots (g_A S0 s.heap.size)) (F0 m pc ls [.int v]) :=
  W.zret (hlocks := hlocks) hC.1 hC.2.1 hr hn (fun t ht hWm => ⟨⟨v, S, rfl, hp, by rw [ht]; exact hW.2.1, g_K.moved hWm.alike hW.1, hW.2.2.1⟩, hW.2.2.2.2.F ht⟩) hW.2.2.2.2.2.2 hdg
theorem s_lret {post : Int64 → gs_S → Prop} {v : Int64} (hC : CallFix p m c cc nL s args Ts own) (hr : meth.sig.returnType = some .long) (hlocks : meth.locks = false) (hW : g_W G (g_A S0 s.heap.size) s S H locs) (hdg : decode cc pc = .ok (.lreturn, 1)) (hp : post v S) :
    W p l e R s m args below meth c H locs cells slots (MQ below (g_Ql G S0 s.heap.size post) args s cells slots (g_A S0 s.heap.size)) (F0 m pc ls [.long v]) :=
  W.lret (hlocks := hlocks) hC.1 hC.2.1 hr (fun t ht hWm => ⟨⟨v, S, rfl, hp, by rw [ht]; exact hW.2.1, g_K.moved hWm.alike hW.1, hW.2.2.1⟩, hW.2.2.2.2.F ht⟩) hW.2.2.2.2.2.2 hdg
theorem s_vret {post : gs_S → Prop} (hC : CallFix p m c cc nL s args Ts own) (hr : meth.sig.returnType = none) (hlocks : meth.locks = false) (hW : g_W G (g_A S0 s.heap.size) s S H locs) (hdg : decode cc pc = .ok (.return_, 1)) (hp : post S) :
    W p l e R s m args below meth c H locs cells slots (MQ below (g_Qv G S0 s.heap.size post) args s cells slots (g_A S0 s.heap.size)) (F0 m pc ls []) :=
  W.vret (hlocks := hlocks) hC.1 hC.2.1 hr (fun t ht hWm => ⟨⟨S, rfl, hp, by rw [ht]; exact hW.2.1, g_K.moved hWm.alike hW.1, hW.2.2.1⟩, hW.2.2.2.2.F ht⟩) hW.2.2.2.2.2.2 hdg
theorem s_aret {post : Option Nat → gs_S → Prop} {v : Option Nat} {n : String} (hC : CallFix p m c cc nL s args Ts own) (hr : meth.sig.returnType = some (.object n)) (hlocks : meth.locks = false) (hW : g_W G (g_A S0 s.heap.size) s S H locs) (hdg : decode cc pc = .ok (.areturn, 1)) (hp : post v S) :
    W p l e R s m args below meth c H locs cells slots (MQ below (g_Qq G S0 s.heap.size post) args s cells slots (g_A S0 s.heap.size)) (F0 m pc ls [va_rf v]) :=
  W.aret (hlocks := hlocks) hC.1 hC.2.1 hr (Or.inl ⟨n, rfl⟩) (va_rf_or v) (fun t ht hWm => ⟨⟨v, S, rfl, hp, by rw [ht]; exact hW.2.1, g_K.moved hWm.alike hW.1, hW.2.2.1⟩, hW.2.2.2.2.F ht⟩) hW.2.2.2.2.2.2 hdg
/-- a method's head -/
theorem s_head {y : MethodName} {rm : Room} {av : List Value} {sz : Nat} {Qc : Array Value → State → Outcome → State → Prop} {maxL : Nat} {ret : Option FieldType} (hy : plainName y.cls = true) (hlen : (lg_sl av).length ≤ maxL)
    (body : ∀ (p : Program) (e : Env) (s : State) (m : MethodId) (below : List Frame) (meth : Method) (c : Code) (ls : Array Slot), s.heap.size = sz → CallFix p m c cc maxL s av.toArray gU y.cls → meth.sig.returnType = ret → meth.locks = false → meth.name = y.name → lv_has ls maxL (lv_args 0 av) → g_W G (g_A S s.heap.size) s S s.heap [] →
      W p l e rm s m av.toArray below meth c s.heap [] 0 0 (MQ below Qc av.toArray s mc ms (g_A S sz)) (F0 m 0 ls [])) : Met l y (Cond.code y cc maxL ret :: gU) rm (g_Pc G S sz av) Qc mc ms (g_A S sz) := by
  refine Met.ofW (cc := cc) (maxL := maxL) (ret := ret) hy rfl ?_
  intro p e s m args below meth c s₁ B hml hv
  obtain ⟨rfl, hsz, hP, hK⟩ := hv
  have hl := lv_entry av (n := maxL) hlen
  rw [lg_entry_eq]
  generalize (lg_sl av ++ List.replicate (maxL - (lg_sl av).length) Slot.unset).toArray = ls at hl ⊢
  exact body p e s m below meth c ls hsz ⟨B.exec, B.bytes, hml, findClass_of_methodNamed B.named, fun w h => atoms_spec (ws := Cond.code y cc maxL ret :: gU) B.pre w (List.mem_cons_of_mem _ h)⟩ B.returns B.notSynchronized (name_of_methodNamed B.named B.method).1 hl ⟨hK, hP, fun a h => Or.inl h, fun q h => Or.inr h, va_S.rf⟩
theorem gU_goodL {ws : List Cond} (h : ∀ w ∈ ws, w ∈ gU) : GoodIn gU ws := fun w hw => ⟨h w hw, good_of_word (List.mem_filter.mp (h w hw)).2⟩
/-- a call of an instance method of ours, private ones too -/
theorem s_runV {y : MethodName} {bytes : ByteArray} {maxL n index : Nat} {ret : Option FieldType} {rm : Room} {Pc : Array Value → State → Prop} {Qc : Array Value → State → Outcome → State → Prop} {free : Addr → Prop} {C : String} {b : Addr} {As : List Value} (hC : CallFix p m c cc nL s args gU own) (hM : Met l y (Cond.code y bytes maxL ret :: gU) rm Pc Qc mc ms free) (hk : Cond.code y bytes maxL ret ∈ gU) (h1 : Cond.methodLink own index y ∈ gU) (h2 : Cond.instanceMethod y ∈ gU) (h3 : Cond.selects C y y ∈ gU) (h4 : Cond.initialized C ∈ gU) (hrc : rm.cells = mc) (hrs : rm.slots = ms)
    (hd : y.cls = C ∧ y.cls ≠ "java/lang/invoke/MethodHandle" ∧ y.cls ≠ "java/lang/invoke/VarHandle" ∧ (parseMethodDescriptor y.desc).map (fun d => d.parameters.length) = some n) (hR : rm.frames + 1 ≤ R.frames ∧ 8 + (maxL + 11) + rm.locals ≤ R.locals) (hp : PreV s H C b Pc As) (hn : As.length = n) (hsize : ls.size = nL) (hstack : st0 = As.reverse ++ .ref b :: rest) (hW : (rest.map fun v => v.category).sum ≤ 8) (hdg : decode cc pc = .ok (.invokevirtual index, 3)) (hf : cells + mc ≤ R.cells ∧ slots + ms ≤ R.slots) :
    va_Run p l e R s m args below meth c H locs cells slots mc ms (F0 m pc ls st0) rest (Qc (Value.ref b :: As).toArray) free := by
  refine va_runV hC hM (cwV n hC.2.2.2.2 (gU_goodL ?_) rfl hrc hrs hd hR) hp rfl hn hsize hstack (lv_room hW) hdg hf
  intro w hw
  unfold wsV at hw
  simp only [List.mem_append, List.mem_cons, List.not_mem_nil, or_false] at hw
  rcases hw with (rfl | rfl | rfl | rfl) | rfl | hw
  · exact h1
  · exact h2
  · exact h3
  · exact h4
  · exact hk
  · exact hw
/-- a call of a static method of ours -/
theorem s_runS {y : MethodName} {bytes : ByteArray} {maxL n index : Nat} {ret : Option FieldType} {rm : Room} {Pc : Array Value → State → Prop} {Qc : Array Value → State → Outcome → State → Prop} {free : Addr → Prop} {As : List Value} (hC : CallFix p m c cc nL s args gU own) (hM : Met l y (Cond.code y bytes maxL ret :: gU) rm Pc Qc mc ms free) (hk : Cond.code y bytes maxL ret ∈ gU) (h1 : Cond.methodLink own index y ∈ gU) (h2 : Cond.static y ∈ gU) (h4 : Cond.initialized y.cls ∈ gU) (hrc : rm.cells = mc) (hrs : rm.slots = ms)
    (hd : y.cls ≠ "java/lang/invoke/MethodHandle" ∧ y.cls ≠ "java/lang/invoke/VarHandle" ∧ (parseMethodDescriptor y.desc).map (fun d => d.parameters.length) = some n) (hR : rm.frames + 1 ≤ R.frames ∧ 8 + (maxL + 11) + rm.locals ≤ R.locals) (hp : PreS s H Pc As) (hn : As.length = n) (hsize : ls.size = nL) (hstack : st0 = As.reverse ++ rest) (hW : (rest.map fun v => v.category).sum ≤ 8) (hdg : decode cc pc = .ok (.invokestatic index, 3)) (hf : cells + mc ≤ R.cells ∧ slots + ms ≤ R.slots) :
    va_Run p l e R s m args below meth c H locs cells slots mc ms (F0 m pc ls st0) rest (Qc As.toArray) free := by
  refine va_runS hC hM (va_cwS n hC.2.2.2.2 (gU_goodL ?_) rfl hrc hrs hd hR) hp rfl hn hsize hstack (lv_room hW) hdg hf
  intro w hw
  unfold va_wsS at hw
  simp only [List.mem_append, List.mem_cons, List.not_mem_nil, or_false] at hw
  rcases hw with (rfl | rfl | rfl) | rfl | hw
  · exact h1
  · exact h2
  · exact h4
  · exact hk
  · exact hw
/-- a call of a constructor of ours -/
theorem s_runI {y : MethodName} {bytes : ByteArray} {maxL n index : Nat} {rm : Room} {Pc : Array Value → State → Prop} {Qc : Array Value → State → Outcome → State → Prop} {free : Addr → Prop} {b : Addr} {As : List Value} (hC : CallFix p m c cc nL s args gU own) (hM : Met l y (Cond.code y bytes maxL none :: gU) rm Pc Qc mc ms free) (hk : Cond.code y bytes maxL none ∈ gU) (h1 : Cond.methodLink own index y ∈ gU) (h2 : Cond.instanceMethod y ∈ gU) (h4 : Cond.initialized y.cls ∈ gU) (hrc : rm.cells = mc) (hrs : rm.slots = ms) (hy1 : y.name = "<init>")
    (hd : y.cls ≠ "java/lang/invoke/MethodHandle" ∧ y.cls ≠ "java/lang/invoke/VarHandle" ∧ (parseMethodDescriptor y.desc).map (fun d => d.parameters.length) = some n) (hR : rm.frames + 1 ≤ R.frames ∧ 8 + (maxL + 11) + rm.locals ≤ R.locals) (hp : PreS s H Pc (.ref b :: As)) (hn : As.length = n) (hsize : ls.size = nL) (hstack : st0 = As.reverse ++ .ref b :: rest) (hW : (rest.map fun v => v.category).sum ≤ 8) (hdg : decode cc pc = .ok (.invokespecial index, 3)) (hf : cells + mc ≤ R.cells ∧ slots + ms ≤ R.slots) :
    va_Run p l e R s m args below meth c H locs cells slots mc ms (F0 m pc ls st0) rest (Qc (Value.ref b :: As).toArray) free := by
  refine va_runI hC hM (cwI n hC.2.2.2.2 (gU_goodL ?_) rfl hrc hrs (hC.2.2.2.2 _ h4) (hC.2.2.2.2 _ h1) (hC.2.2.2.2 _ h2) hy1 hd hR) hp rfl hn hsize hstack (lv_room hW) hdg hf
  intro w hw
  rcases List.mem_cons.mp hw with rfl | hw
  · exact hk
  · exact hw
theorem s_cat (x : Option Nat) : (va_rf x).category = 1 := by cases x <;> rfl
end GC
section GL
variable {p : Program} {l : Launch} {e : Env} {R : Room} {s : State} {m : MethodId} {args : Array Value} {below : List Frame} {meth : Method} {c : Code} {H : Heap} {locs : List Loc} {cells slots : Nat} {Q : State → Prop}
variable {cc : ByteArray} {pc : Nat} {ls : Array Slot} {rest : List Value}
theorem s_aload_n (hexec : p.tables.exec = Jvm.exec) (hb : c.code = cc) {k : Fin 4} {i : Nat} {x : Option Nat} (hdg : decode cc pc = .ok (.aload_n k, 1)) (hi : (k : Nat) = i) (hl : ls[i]? = some (.val (va_rf x)))
    (kk : W p l e R s m args below meth c H locs cells slots Q (F0 m (pc + 1) ls (va_rf x :: rest))) : W p l e R s m args below meth c H locs cells slots Q (F0 m pc ls rest) := by
  cases x with
  | none => exact lv_aload_nN hexec hb hdg hi hl kk
  | some a => exact lv_aload_n hexec hb hdg hi hl kk
theorem s_aload (hexec : p.tables.exec = Jvm.exec) (hb : c.code = cc) {i : Nat} {x : Option Nat} (hdg : decode cc pc = .ok (.aload i, 2)) (hl : ls[i]? = some (.val (va_rf x)))
    (kk : W p l e R s m args below meth c H locs cells slots Q (F0 m (pc + 2) ls (va_rf x :: rest))) : W p l e R s m args below meth c H locs cells slots Q (F0 m pc ls rest) := by
  cases x with
  | none => exact lv_aloadN hexec hb hdg hl kk
  | some a => exact lv_aload hexec hb hdg hl kk
theorem s_astore_n (hexec : p.tables.exec = Jvm.exec) (hb : c.code = cc) {k : Fin 4} {i nL : Nat} {x : Option Nat} {lv lv' : List (Nat × Value)} (hdg : decode cc pc = .ok (.astore_n k, 1)) (hi : (k : Nat) = i) (h : lv_has ls nL lv) (hn : i < nL) (hl : (i, va_rf x) :: lv.filter (fun q => !(q.1 == i) && !(q.1 + 1 == i && q.2.category == 2)) = lv')
    (kk : ∀ ls' : Array Slot, lv_has ls' nL lv' → W p l e R s m args below meth c H locs cells slots Q (F0 m (pc + 1) ls' rest)) : W p l e R s m args below meth c H locs cells slots Q (F0 m pc ls (va_rf x :: rest)) := by
  cases x with
  | none => exact lv_astore_nN hexec hb hdg hi h hn hl kk
  | some a => exact lv_astore_n hexec hb hdg hi h hn hl kk
theorem s_astore (hexec : p.tables.exec = Jvm.exec) (hb : c.code = cc) {i nL : Nat} {x : Option Nat} {lv lv' : List (Nat × Value)} (hdg : decode cc pc = .ok (.astore i, 2)) (h : lv_has ls nL lv) (hn : i < nL) (hl : (i, va_rf x) :: lv.filter (fun q => !(q.1 == i) && !(q.1 + 1 == i && q.2.category == 2)) = lv')
    (kk : ∀ ls' : Array Slot, lv_has ls' nL lv' → W p l e R s m args below meth c H locs cells slots Q (F0 m (pc + 2) ls' rest)) : W p l e R s m args below meth c H locs cells slots Q (F0 m pc ls (va_rf x :: rest)) := by
  cases x with
  | none => exact lv_astoreN hexec hb hdg h hn hl kk
  | some a => exact lv_astore hexec hb hdg h hn hl kk
theorem s_ifnull (hexec : p.tables.exec = Jvm.exec) (hb : c.code = cc) {x : Option Nat} {off : Int} {tgt : Nat} (hdg : decode cc pc = .ok (.ifnull off, 3)) (ht : (pc : Int) + off = (tgt : Int))
    (kt : x = none → W p l e R s m args below meth c H locs cells slots Q (F0 m tgt ls rest)) (kf : ∀ a : Nat, x = some a → W p l e R s m args below meth c H locs cells slots Q (F0 m (pc + 3) ls rest)) : W p l e R s m args below meth c H locs cells slots Q (F0 m pc ls (va_rf x :: rest)) := by
  cases x with
  | none => exact lv_ifnullN hexec hb hdg ht (kt rfl)
  | some a => exact lv_ifnull hexec hb hdg (kf a rfl)
theorem s_ifnonnull (hexec : p.tables.exec = Jvm.exec) (hb : c.code = cc) {x : Option Nat} {off : Int} {tgt : Nat} (hdg : decode cc pc = .ok (.ifnonnull off, 3)) (ht : (pc : Int) + off = (tgt : Int))
    (kt : ∀ a : Nat, x = some a → W p l e R s m args below meth c H locs cells slots Q (F0 m tgt ls rest)) (kf : x = none → W p l e R s m args below meth c H locs cells slots Q (F0 m (pc + 3) ls rest)) : W p l e R s m args below meth c H locs cells slots Q (F0 m pc ls (va_rf x :: rest)) := by
  cases x with
  | none => exact lv_ifnonnullN hexec hb hdg (kf rfl)
  | some a => exact lv_ifnonnull hexec hb hdg ht (kt a rfl)
theorem s_null (hexec : p.tables.exec = Jvm.exec) (hb : c.code = cc) (hdg : decode cc pc = .ok (.aconst_null, 1)) (kk : W p l e R s m args below meth c H locs cells slots Q (F0 m (pc + 1) ls (va_rf none :: rest))) : W p l e R s m args below meth c H locs cells slots Q (F0 m pc ls rest) := lv_null hexec hb hdg kk
/-- a reference on top by another name -/
theorem s_top {x y : Option Nat} (h : x = y) (kk : W p l e R s m args below meth c H locs cells slots Q (F0 m pc ls (va_rf y :: rest))) : W p l e R s m args below meth c H locs cells slots Q (F0 m pc ls (va_rf x :: rest)) := by
  subst h
  exact kk
end GL
theorem gc_L : g_C 0 "CallRows$Level" TfL 9 tyL := ⟨rfl, by decide +kernel, by decide +kernel⟩
theorem gc_P : g_C 1 "CallRows$Program" TfP 9 tyP := ⟨rfl, by decide +kernel, by decide +kernel⟩
theorem gc_R : g_C 2 "CallRows" TfR 12 tyR := ⟨rfl, by decide +kernel, by decide +kernel⟩
theorem gc_M : g_C 3 "CallRowsModel" TfM 29 tyM := ⟨rfl, by decide +kernel, by decide +kernel⟩
end
section
/-! READ AFTER WRITE: all of them; x_gs is their conjunction, for simp -/
theorem x_g_i_p_i (S : gs_S) (c k a : Nat) (v : Int32) (c' k' a' : Nat) : g_i (p_i S c k a v) c' k' a' = if c' = c ∧ k' = k ∧ a' = a then v else g_i S c' k' a' := rfl
theorem x_g_l_p_i (S : gs_S) (c k a : Nat) (v : Int32) (c' k' a' : Nat) : g_l (p_i S c k a v) c' k' a' = g_l S c' k' a' := rfl
theorem x_g_r_p_i (S : gs_S) (c k a : Nat) (v : Int32) (c' k' a' : Nat) : g_r (p_i S c k a v) c' k' a' = g_r S c' k' a' := rfl
theorem x_g_ai_p_i (S : gs_S) (c k a : Nat) (v : Int32) (c' k' a' : Nat) : g_ai (p_i S c k a v) c' k' a' = g_ai S c' k' a' := rfl
theorem x_g_al_p_i (S : gs_S) (c k a : Nat) (v : Int32) (c' k' a' : Nat) : g_al (p_i S c k a v) c' k' a' = g_al S c' k' a' := rfl
theorem x_g_ar_p_i (S : gs_S) (c k a : Nat) (v : Int32) (c' k' a' : Nat) : g_ar (p_i S c k a v) c' k' a' = g_ar S c' k' a' := rfl
theorem x_sh_p_i (S : gs_S) (c k a : Nat) (v : Int32) (b : Nat) : g_sh (p_i S c k a v) b = g_sh S b := rfl
theorem x_g_i_p_l (S : gs_S) (c k a : Nat) (v : Int64) (c' k' a' : Nat) : g_i (p_l S c k a v) c' k' a' = g_i S c' k' a' := rfl
theorem x_g_l_p_l (S : gs_S) (c k a : Nat) (v : Int64) (c' k' a' : Nat) : g_l (p_l S c k a v) c' k' a' = if c' = c ∧ k' = k ∧ a' = a then v else g_l S c' k' a' := rfl
theorem x_g_r_p_l (S : gs_S) (c k a : Nat) (v : Int64) (c' k' a' : Nat) : g_r (p_l S c k a v) c' k' a' = g_r S c' k' a' := rfl
theorem x_g_ai_p_l (S : gs_S) (c k a : Nat) (v : Int64) (c' k' a' : Nat) : g_ai (p_l S c k a v) c' k' a' = g_ai S c' k' a' := rfl
theorem x_g_al_p_l (S : gs_S) (c k a : Nat) (v : Int64) (c' k' a' : Nat) : g_al (p_l S c k a v) c' k' a' = g_al S c' k' a' := rfl
theorem x_g_ar_p_l (S : gs_S) (c k a : Nat) (v : Int64) (c' k' a' : Nat) : g_ar (p_l S c k a v) c' k' a' = g_ar S c' k' a' := rfl
theorem x_sh_p_l (S : gs_S) (c k a : Nat) (v : Int64) (b : Nat) : g_sh (p_l S c k a v) b = g_sh S b := rfl
theorem x_g_i_p_r (S : gs_S) (c k a : Nat) (v : Option Nat) (c' k' a' : Nat) : g_i (p_r S c k a v) c' k' a' = g_i S c' k' a' := rfl
theorem x_g_l_p_r (S : gs_S) (c k a : Nat) (v : Option Nat) (c' k' a' : Nat) : g_l (p_r S c k a v) c' k' a' = g_l S c' k' a' := rfl
theorem x_g_r_p_r (S : gs_S) (c k a : Nat) (v : Option Nat) (c' k' a' : Nat) : g_r (p_r S c k a v) c' k' a' = if c' = c ∧ k' = k ∧ a' = a then v else g_r S c' k' a' := rfl
theorem x_g_ai_p_r (S : gs_S) (c k a : Nat) (v : Option Nat) (c' k' a' : Nat) : g_ai (p_r S c k a v) c' k' a' = g_ai S c' k' a' := rfl
theorem x_g_al_p_r (S : gs_S) (c k a : Nat) (v : Option Nat) (c' k' a' : Nat) : g_al (p_r S c k a v) c' k' a' = g_al S c' k' a' := rfl
theorem x_g_ar_p_r (S : gs_S) (c k a : Nat) (v : Option Nat) (c' k' a' : Nat) : g_ar (p_r S c k a v) c' k' a' = g_ar S c' k' a' := rfl
theorem x_sh_p_r (S : gs_S) (c k a : Nat) (v : Option Nat) (b : Nat) : g_sh (p_r S c k a v) b = g_sh S b := rfl
theorem x_g_i_p_ai (S : gs_S) (c k a : Nat) (v : Int32) (c' k' a' : Nat) : g_i (p_ai S c k a v) c' k' a' = g_i S c' k' a' := rfl
theorem x_g_l_p_ai (S : gs_S) (c k a : Nat) (v : Int32) (c' k' a' : Nat) : g_l (p_ai S c k a v) c' k' a' = g_l S c' k' a' := rfl
theorem x_g_r_p_ai (S : gs_S) (c k a : Nat) (v : Int32) (c' k' a' : Nat) : g_r (p_ai S c k a v) c' k' a' = g_r S c' k' a' := rfl
theorem x_g_ai_p_ai (S : gs_S) (c k a : Nat) (v : Int32) (c' k' a' : Nat) : g_ai (p_ai S c k a v) c' k' a' = if c' = c ∧ k' = k ∧ a' = a then v else g_ai S c' k' a' := rfl
theorem x_g_al_p_ai (S : gs_S) (c k a : Nat) (v : Int32) (c' k' a' : Nat) : g_al (p_ai S c k a v) c' k' a' = g_al S c' k' a' := rfl
theorem x_g_ar_p_ai (S : gs_S) (c k a : Nat) (v : Int32) (c' k' a' : Nat) : g_ar (p_ai S c k a v) c' k' a' = g_ar S c' k' a' := rfl
theorem x_sh_p_ai (S : gs_S) (c k a : Nat) (v : Int32) (b : Nat) : g_sh (p_ai S c k a v) b = g_sh S b := rfl
theorem x_g_i_p_al (S : gs_S) (c k a : Nat) (v : Int64) (c' k' a' : Nat) : g_i (p_al S c k a v) c' k' a' = g_i S c' k' a' := rfl
theorem x_g_l_p_al (S : gs_S) (c k a : Nat) (v : Int64) (c' k' a' : Nat) : g_l (p_al S c k a v) c' k' a' = g_l S c' k' a' := rfl
theorem x_g_r_p_al (S : gs_S) (c k a : Nat) (v : Int64) (c' k' a' : Nat) : g_r (p_al S c k a v) c' k' a' = g_r S c' k' a' := rfl
theorem x_g_ai_p_al (S : gs_S) (c k a : Nat) (v : Int64) (c' k' a' : Nat) : g_ai (p_al S c k a v) c' k' a' = g_ai S c' k' a' := rfl
theorem x_g_al_p_al (S : gs_S) (c k a : Nat) (v : Int64) (c' k' a' : Nat) : g_al (p_al S c k a v) c' k' a' = if c' = c ∧ k' = k ∧ a' = a then v else g_al S c' k' a' := rfl
theorem x_g_ar_p_al (S : gs_S) (c k a : Nat) (v : Int64) (c' k' a' : Nat) : g_ar (p_al S c k a v) c' k' a' = g_ar S c' k' a' := rfl
theorem x_sh_p_al (S : gs_S) (c k a : Nat) (v : Int64) (b : Nat) : g_sh (p_al S c k a v) b = g_sh S b := rfl
theorem x_g_i_p_ar (S : gs_S) (c k a : Nat) (v : Option Nat) (c' k' a' : Nat) : g_i (p_ar S c k a v) c' k' a' = g_i S c' k' a' := rfl
theorem x_g_l_p_ar (S : gs_S) (c k a : Nat) (v : Option Nat) (c' k' a' : Nat) : g_l (p_ar S c k a v) c' k' a' = g_l S c' k' a' := rfl
theorem x_g_r_p_ar (S : gs_S) (c k a : Nat) (v : Option Nat) (c' k' a' : Nat) : g_r (p_ar S c k a v) c' k' a' = g_r S c' k' a' := rfl
theorem x_g_ai_p_ar (S : gs_S) (c k a : Nat) (v : Option Nat) (c' k' a' : Nat) : g_ai (p_ar S c k a v) c' k' a' = g_ai S c' k' a' := rfl
theorem x_g_al_p_ar (S : gs_S) (c k a : Nat) (v : Option Nat) (c' k' a' : Nat) : g_al (p_ar S c k a v) c' k' a' = g_al S c' k' a' := rfl
theorem x_g_ar_p_ar (S : gs_S) (c k a : Nat) (v : Option Nat) (c' k' a' : Nat) : g_ar (p_ar S c k a v) c' k' a' = if c' = c ∧ k' = k ∧ a' = a then v else g_ar S c' k' a' := rfl
theorem x_sh_p_ar (S : gs_S) (c k a : Nat) (v : Option Nat) (b : Nat) : g_sh (p_ar S c k a v) b = g_sh S b := rfl
theorem x_g_i_new (S : gs_S) (c a c' k' a' : Nat) : g_i (p_new S c a) c' k' a' = if a' = a then 0 else g_i S c' k' a' := rfl
theorem x_g_i_newA (S : gs_S) (r n a c' k' a' : Nat) : g_i (p_newA S r n a) c' k' a' = g_i S c' k' a' := rfl
theorem x_g_l_new (S : gs_S) (c a c' k' a' : Nat) : g_l (p_new S c a) c' k' a' = if a' = a then 0 else g_l S c' k' a' := rfl
theorem x_g_l_newA (S : gs_S) (r n a c' k' a' : Nat) : g_l (p_newA S r n a) c' k' a' = g_l S c' k' a' := rfl
theorem x_g_r_new (S : gs_S) (c a c' k' a' : Nat) : g_r (p_new S c a) c' k' a' = if a' = a then none else g_r S c' k' a' := rfl
theorem x_g_r_newA (S : gs_S) (r n a c' k' a' : Nat) : g_r (p_newA S r n a) c' k' a' = g_r S c' k' a' := rfl
theorem x_g_ai_new (S : gs_S) (c a c' k' a' : Nat) : g_ai (p_new S c a) c' k' a' = g_ai S c' k' a' := rfl
theorem x_g_ai_newA (S : gs_S) (r n a c' k' a' : Nat) : g_ai (p_newA S r n a) c' k' a' = if k' = a then 0 else g_ai S c' k' a' := rfl
theorem x_g_al_new (S : gs_S) (c a c' k' a' : Nat) : g_al (p_new S c a) c' k' a' = g_al S c' k' a' := rfl
theorem x_g_al_newA (S : gs_S) (r n a c' k' a' : Nat) : g_al (p_newA S r n a) c' k' a' = if k' = a then 0 else g_al S c' k' a' := rfl
theorem x_g_ar_new (S : gs_S) (c a c' k' a' : Nat) : g_ar (p_new S c a) c' k' a' = g_ar S c' k' a' := rfl
theorem x_g_ar_newA (S : gs_S) (r n a c' k' a' : Nat) : g_ar (p_newA S r n a) c' k' a' = if k' = a then none else g_ar S c' k' a' := rfl
theorem x_sh_new (S : gs_S) (c a b : Nat) : g_sh (p_new S c a) b = if b = a then some (.inl c) else g_sh S b := rfl
theorem x_sh_newA (S : gs_S) (r n a b : Nat) : g_sh (p_newA S r n a) b = if b = a then some (.inr (r, n)) else g_sh S b := rfl
theorem x_gs : (∀ (S : gs_S) (c k a : Nat) (v : Int32) (c' k' a' : Nat), g_i (p_i S c k a v) c' k' a' = if c' = c ∧ k' = k ∧ a' = a then v else g_i S c' k' a') ∧ (∀ (S : gs_S) (c k a : Nat) (v : Int32) (c' k' a' : Nat), g_l (p_i S c k a v) c' k' a' = g_l S c' k' a') ∧ (∀ (S : gs_S) (c k a : Nat) (v : Int32) (c' k' a' : Nat), g_r (p_i S c k a v) c' k' a' = g_r S c' k' a') ∧ (∀ (S : gs_S) (c k a : Nat) (v : Int32) (c' k' a' : Nat), g_ai (p_i S c k a v) c' k' a' = g_ai S c' k' a') ∧ (∀ (S : gs_S) (c k a : Nat) (v : Int32) (c' k' a' : Nat), g_al (p_i S c k a v) c' k' a' = g_al S c' k' a') ∧ (∀ (S : gs_S) (c k a : Nat) (v : Int32) (c' k' a' : Nat), g_ar (p_i S c k a v) c' k' a' = g_ar S c' k' a') ∧ (∀ (S : gs_S) (c k a : Nat) (v : Int32) (b : Nat), g_sh (p_i S c k a v) b = g_sh S b) ∧ (∀ (S : gs_S) (c k a : Nat) (v : Int64) (c' k' a' : Nat), g_i (p_l S c k a v) c' k' a' = g_i S c' k' a') ∧ (∀ (S : gs_S) (c k a : Nat) (v : Int64) (c' k' a' : Nat), g_l (p_l S c k a v) c' k' a' = if c' = c ∧ k' = k ∧ a' = a then v else g_l S c' k' a') ∧ (∀ (S : gs_S) (c k a : Nat) (v : Int64) (c' k' a' : Nat), g_r (p_l S c k a v) c' k' a' = g_r S c' k' a') ∧ (∀ (S : gs_S) (c k a : Nat) (v : Int64) (c' k' a' : Nat), g_ai (p_l S c k a v) c' k' a' = g_ai S c' k' a') ∧ (∀ (S : gs_S) (c k a : Nat) (v : Int64) (c' k' a' : Nat), g_al (p_l S c k a v) c' k' a' = g_al S c' k' a') ∧ (∀ (S : gs_S) (c k a : Nat) (v : Int64) (c' k' a' : Nat), g_ar (p_l S c k a v) c' k' a' = g_ar S c' k' a') ∧ (∀ (S : gs_S) (c k a : Nat) (v : Int64) (b : Nat), g_sh (p_l S c k a v) b = g_sh S b) ∧ (∀ (S : gs_S) (c k a : Nat) (v : Option Nat) (c' k' a' : Nat), g_i (p_r S c k a v) c' k' a' = g_i S c' k' a') ∧ (∀ (S : gs_S) (c k a : Nat) (v : Option Nat) (c' k' a' : Nat), g_l (p_r S c k a v) c' k' a' = g_l S c' k' a') ∧ (∀ (S : gs_S) (c k a : Nat) (v : Option Nat) (c' k' a' : Nat), g_r (p_r S c k a v) c' k' a' = if c' = c ∧ k' = k ∧ a' = a then v else g_r S c' k' a') ∧ (∀ (S : gs_S) (c k a : Nat) (v : Option Nat) (c' k' a' : Nat), g_ai (p_r S c k a v) c' k' a' = g_ai S c' k' a') ∧ (∀ (S : gs_S) (c k a : Nat) (v : Option Nat) (c' k' a' : Nat), g_al (p_r S c k a v) c' k' a' = g_al S c' k' a') ∧ (∀ (S : gs_S) (c k a : Nat) (v : Option Nat) (c' k' a' : Nat), g_ar (p_r S c k a v) c' k' a' = g_ar S c' k' a') ∧ (∀ (S : gs_S) (c k a : Nat) (v : Option Nat) (b : Nat), g_sh (p_r S c k a v) b = g_sh S b) ∧ (∀ (S : gs_S) (c k a : Nat) (v : Int32) (c' k' a' : Nat), g_i (p_ai S c k a v) c' k' a' = g_i S c' k' a') ∧ (∀ (S : gs_S) (c k a : Nat) (v : Int32) (c' k' a' : Nat), g_l (p_ai S c k a v) c' k' a' = g_l S c' k' a') ∧ (∀ (S : gs_S) (c k a : Nat) (v : Int32) (c' k' a' : Nat), g_r (p_ai S c k a v) c' k' a' = g_r S c' k' a') ∧ (∀ (S : gs_S) (c k a : Nat) (v : Int32) (c' k' a' : Nat), g_ai (p_ai S c k a v) c' k' a' = if c' = c ∧ k' = k ∧ a' = a then v else g_ai S c' k' a') ∧ (∀ (S : gs_S) (c k a : Nat) (v : Int32) (c' k' a' : Nat), g_al (p_ai S c k a v) c' k' a' = g_al S c' k' a') ∧ (∀ (S : gs_S) (c k a : Nat) (v : Int32) (c' k' a' : Nat), g_ar (p_ai S c k a v) c' k' a' = g_ar S c' k' a') ∧ (∀ (S : gs_S) (c k a : Nat) (v : Int32) (b : Nat), g_sh (p_ai S c k a v) b = g_sh S b) ∧ (∀ (S : gs_S) (c k a : Nat) (v : Int64) (c' k' a' : Nat), g_i (p_al S c k a v) c' k' a' = g_i S c' k' a') ∧ (∀ (S : gs_S) (c k a : Nat) (v : Int64) (c' k' a' : Nat), g_l (p_al S c k a v) c' k' a' = g_l S c' k' a') ∧ (∀ (S : gs_S) (c k a : Nat) (v : Int64) (c' k' a' : Nat), g_r (p_al S c k a v) c' k' a' = g_r S c' k' a') ∧ (∀ (S : gs_S) (c k a : Nat) (v : Int64) (c' k' a' : Nat), g_ai (p_al S c k a v) c' k' a' = g_ai S c' k' a') ∧ (∀ (S : gs_S) (c k a : Nat) (v : Int64) (c' k' a' : Nat), g_al (p_al S c k a v) c' k' a' = if c' = c ∧ k' = k ∧ a' = a then v else g_al S c' k' a') ∧ (∀ (S : gs_S) (c k a : Nat) (v : Int64) (c' k' a' : Nat), g_ar (p_al S c k a v) c' k' a' = g_ar S c' k' a') ∧ (∀ (S : gs_S) (c k a : Nat) (v : Int64) (b : Nat), g_sh (p_al S c k a v) b = g_sh S b) ∧ (∀ (S : gs_S) (c k a : Nat) (v : Option Nat) (c' k' a' : Nat), g_i (p_ar S c k a v) c' k' a' = g_i S c' k' a') ∧ (∀ (S : gs_S) (c k a : Nat) (v : Option Nat) (c' k' a' : Nat), g_l (p_ar S c k a v) c' k' a' = g_l S c' k' a') ∧ (∀ (S : gs_S) (c k a : Nat) (v : Option Nat) (c' k' a' : Nat), g_r (p_ar S c k a v) c' k' a' = g_r S c' k' a') ∧ (∀ (S : gs_S) (c k a : Nat) (v : Option Nat) (c' k' a' : Nat), g_ai (p_ar S c k a v) c' k' a' = g_ai S c' k' a') ∧ (∀ (S : gs_S) (c k a : Nat) (v : Option Nat) (c' k' a' : Nat), g_al (p_ar S c k a v) c' k' a' = g_al S c' k' a') ∧ (∀ (S : gs_S) (c k a : Nat) (v : Option Nat) (c' k' a' : Nat), g_ar (p_ar S c k a v) c' k' a' = if c' = c ∧ k' = k ∧ a' = a then v else g_ar S c' k' a') ∧ (∀ (S : gs_S) (c k a : Nat) (v : Option Nat) (b : Nat), g_sh (p_ar S c k a v) b = g_sh S b) ∧ (∀ (S : gs_S) (c a c' k' a' : Nat), g_i (p_new S c a) c' k' a' = if a' = a then 0 else g_i S c' k' a') ∧ (∀ (S : gs_S) (r n a c' k' a' : Nat), g_i (p_newA S r n a) c' k' a' = g_i S c' k' a') ∧ (∀ (S : gs_S) (c a c' k' a' : Nat), g_l (p_new S c a) c' k' a' = if a' = a then 0 else g_l S c' k' a') ∧ (∀ (S : gs_S) (r n a c' k' a' : Nat), g_l (p_newA S r n a) c' k' a' = g_l S c' k' a') ∧ (∀ (S : gs_S) (c a c' k' a' : Nat), g_r (p_new S c a) c' k' a' = if a' = a then none else g_r S c' k' a') ∧ (∀ (S : gs_S) (r n a c' k' a' : Nat), g_r (p_newA S r n a) c' k' a' = g_r S c' k' a') ∧ (∀ (S : gs_S) (c a c' k' a' : Nat), g_ai (p_new S c a) c' k' a' = g_ai S c' k' a') ∧ (∀ (S : gs_S) (r n a c' k' a' : Nat), g_ai (p_newA S r n a) c' k' a' = if k' = a then 0 else g_ai S c' k' a') ∧ (∀ (S : gs_S) (c a c' k' a' : Nat), g_al (p_new S c a) c' k' a' = g_al S c' k' a') ∧ (∀ (S : gs_S) (r n a c' k' a' : Nat), g_al (p_newA S r n a) c' k' a' = if k' = a then 0 else g_al S c' k' a') ∧ (∀ (S : gs_S) (c a c' k' a' : Nat), g_ar (p_new S c a) c' k' a' = g_ar S c' k' a') ∧ (∀ (S : gs_S) (r n a c' k' a' : Nat), g_ar (p_newA S r n a) c' k' a' = if k' = a then none else g_ar S c' k' a') ∧ (∀ (S : gs_S) (c a b : Nat), g_sh (p_new S c a) b = if b = a then some (.inl c) else g_sh S b) ∧ (∀ (S : gs_S) (r n a b : Nat), g_sh (p_newA S r n a) b = if b = a then some (.inr (r, n)) else g_sh S b) := ⟨x_g_i_p_i, x_g_l_p_i, x_g_r_p_i, x_g_ai_p_i, x_g_al_p_i, x_g_ar_p_i, x_sh_p_i, x_g_i_p_l, x_g_l_p_l, x_g_r_p_l, x_g_ai_p_l, x_g_al_p_l, x_g_ar_p_l, x_sh_p_l, x_g_i_p_r, x_g_l_p_r, x_g_r_p_r, x_g_ai_p_r, x_g_al_p_r, x_g_ar_p_r, x_sh_p_r, x_g_i_p_ai, x_g_l_p_ai, x_g_r_p_ai, x_g_ai_p_ai, x_g_al_p_ai, x_g_ar_p_ai, x_sh_p_ai, x_g_i_p_al, x_g_l_p_al, x_g_r_p_al, x_g_ai_p_al, x_g_al_p_al, x_g_ar_p_al, x_sh_p_al, x_g_i_p_ar, x_g_l_p_ar, x_g_r_p_ar, x_g_ai_p_ar, x_g_al_p_ar, x_g_ar_p_ar, x_sh_p_ar, x_g_i_new, x_g_i_newA, x_g_l_new, x_g_l_newA, x_g_r_new, x_g_r_newA, x_g_ai_new, x_g_ai_newA, x_g_al_new, x_g_al_newA, x_g_ar_new, x_g_ar_newA, x_sh_new, x_sh_newA⟩
end
section
/-! array rows by the number behind the index -/
section GK
variable {p : Program} {l : Launch} {e : Env} {R : Room} {s : State} {m : MethodId} {args : Array Value} {below : List Frame} {meth : Method} {c : Code} {H : Heap} {locs : List Loc} {cells slots : Nat} {Q : State → Prop}
variable {cc : ByteArray} {pc nL : Nat} {ls : Array Slot} {rest : List Value} {G : gs_G} {A : Nat → Prop} {S : gs_S} {Ts : List Cond} {own : String} {a : Nat}
theorem k_iald (hC : CallFix p m c cc nL s args Ts own) (hW : g_W G A s S H locs) {r n : Nat} (hsh : g_sh S a = some (.inr (r, n))) (hrep : gk_rep r = 0) (ht : (gk_tys G.2)[gk_role r]? = some (G.2 (gk_role r), .int)) (hn : n < 2 ^ 31) {i : Int32} (j : Nat) (hj : i = nI j) (hjn : j < n) {v : Int32} (hv : g_ai S r a j = v) (hdg : decode cc pc = .ok (.iaload, 1))
    (kk : W p l e R s m args below meth c H locs cells slots Q (F0 m (pc + 1) ls (.int v :: rest))) : W p l e R s m args below meth c H locs cells slots Q (F0 m pc ls (.int i :: .ref a :: rest)) := by
  subst hj
  exact s_iald hC hW hsh hrep ht (vp_in_nI hjn hn) (by rw [nI_clamp (Nat.lt_trans hjn hn)]; exact hv) hdg kk
theorem k_zald (hC : CallFix p m c cc nL s args Ts own) (hW : g_W G A s S H locs) {r n : Nat} (hsh : g_sh S a = some (.inr (r, n))) (hrep : gk_rep r = 0) (ht : (gk_tys G.2)[gk_role r]? = some (G.2 (gk_role r), .boolean)) (hn : n < 2 ^ 31) {i : Int32} (j : Nat) (hj : i = nI j) (hjn : j < n) {v : Int32} (hv : g_ai S r a j = v) (hdg : decode cc pc = .ok (.baload, 1))
    (kk : W p l e R s m args below meth c H locs cells slots Q (F0 m (pc + 1) ls (.int v :: rest))) : W p l e R s m args below meth c H locs cells slots Q (F0 m pc ls (.int i :: .ref a :: rest)) := by
  subst hj
  exact s_zald hC hW hsh hrep ht (vp_in_nI hjn hn) (by rw [nI_clamp (Nat.lt_trans hjn hn)]; exact hv) hdg kk
theorem k_lald (hC : CallFix p m c cc nL s args Ts own) (hW : g_W G A s S H locs) {r n : Nat} (hsh : g_sh S a = some (.inr (r, n))) (hrep : gk_rep r = 1) (ht : (gk_tys G.2)[gk_role r]? = some (G.2 (gk_role r), .long)) (hn : n < 2 ^ 31) {i : Int32} (j : Nat) (hj : i = nI j) (hjn : j < n) {v : Int64} (hv : g_al S r a j = v) (hdg : decode cc pc = .ok (.laload, 1))
    (kk : W p l e R s m args below meth c H locs cells slots Q (F0 m (pc + 1) ls (.long v :: rest))) : W p l e R s m args below meth c H locs cells slots Q (F0 m pc ls (.int i :: .ref a :: rest)) := by
  subst hj
  exact s_lald hC hW hsh hrep ht (vp_in_nI hjn hn) (by rw [nI_clamp (Nat.lt_trans hjn hn)]; exact hv) hdg kk
theorem k_aald (hC : CallFix p m c cc nL s args Ts own) (hW : g_W G A s S H locs) {r n : Nat} (hsh : g_sh S a = some (.inr (r, n))) (hrep : gk_rep r = 2) {C : String} (ht : (gk_tys G.2)[gk_role r]? = some (G.2 (gk_role r), .object C)) (hn : n < 2 ^ 31) {i : Int32} (j : Nat) (hj : i = nI j) (hjn : j < n) {v : Option Nat} (hv : g_ar S r a j = v) (hdg : decode cc pc = .ok (.aaload, 1))
    (kk : W p l e R s m args below meth c H locs cells slots Q (F0 m (pc + 1) ls (va_rf v :: rest))) : W p l e R s m args below meth c H locs cells slots Q (F0 m pc ls (.int i :: .ref a :: rest)) := by
  subst hj
  exact s_aald hC hW hsh hrep ht (vp_in_nI hjn hn) (by rw [nI_clamp (Nat.lt_trans hjn hn)]; exact hv) hdg kk
theorem k_iast (hC : CallFix p m c cc nL s args Ts own) (hW : g_W G A s S H locs) {r n : Nat} (hsh : g_sh S a = some (.inr (r, n))) (hrep : gk_rep r = 0) (ht : (gk_tys G.2)[gk_role r]? = some (G.2 (gk_role r), .int)) (hn : n < 2 ^ 31) {i : Int32} {x : Int32} (j : Nat) (hj : i = nI j) (hjn : j < n) (hdg : decode cc pc = .ok (.iastore, 1))
    (kk : ∀ (H1 : Heap) (locs1 : List Loc), g_W G A s (p_ai S r a j x) H1 locs1 → W p l e R s m args below meth c H1 locs1 cells slots Q (F0 m (pc + 1) ls rest)) : W p l e R s m args below meth c H locs cells slots Q (F0 m pc ls (.int x :: .int i :: .ref a :: rest)) := by
  subst hj
  refine s_iast hC hW hsh hrep ht (vp_in_nI hjn hn) hdg (fun H1 locs1 hW1 => kk H1 locs1 ?_)
  rw [nI_clamp (Nat.lt_trans hjn hn)] at hW1
  exact hW1
theorem k_zast (hC : CallFix p m c cc nL s args Ts own) (hW : g_W G A s S H locs) {r n : Nat} (hsh : g_sh S a = some (.inr (r, n))) (hrep : gk_rep r = 0) (ht : (gk_tys G.2)[gk_role r]? = some (G.2 (gk_role r), .boolean)) (hn : n < 2 ^ 31) {i : Int32} {x : Int32} (j : Nat) (hj : i = nI j) (hjn : j < n) (hdg : decode cc pc = .ok (.bastore, 1))
    (kk : ∀ (H1 : Heap) (locs1 : List Loc), g_W G A s (p_ai S r a j (vp_nar .boolean x)) H1 locs1 → W p l e R s m args below meth c H1 locs1 cells slots Q (F0 m (pc + 1) ls rest)) : W p l e R s m args below meth c H locs cells slots Q (F0 m pc ls (.int x :: .int i :: .ref a :: rest)) := by
  subst hj
  refine s_zast hC hW hsh hrep ht (vp_in_nI hjn hn) hdg (fun H1 locs1 hW1 => kk H1 locs1 ?_)
  rw [nI_clamp (Nat.lt_trans hjn hn)] at hW1
  exact hW1
theorem k_last (hC : CallFix p m c cc nL s args Ts own) (hW : g_W G A s S H locs) {r n : Nat} (hsh : g_sh S a = some (.inr (r, n))) (hrep : gk_rep r = 1) (ht : (gk_tys G.2)[gk_role r]? = some (G.2 (gk_role r), .long)) (hn : n < 2 ^ 31) {i : Int32} {x : Int64} (j : Nat) (hj : i = nI j) (hjn : j < n) (hdg : decode cc pc = .ok (.lastore, 1))
    (kk : ∀ (H1 : Heap) (locs1 : List Loc), g_W G A s (p_al S r a j x) H1 locs1 → W p l e R s m args below meth c H1 locs1 cells slots Q (F0 m (pc + 1) ls rest)) : W p l e R s m args below meth c H locs cells slots Q (F0 m pc ls (.long x :: .int i :: .ref a :: rest)) := by
  subst hj
  refine s_last hC hW hsh hrep ht (vp_in_nI hjn hn) hdg (fun H1 locs1 hW1 => kk H1 locs1 ?_)
  rw [nI_clamp (Nat.lt_trans hjn hn)] at hW1
  exact hW1
theorem k_aast (hC : CallFix p m c cc nL s args Ts own) (hW : g_W G A s S H locs) {C : String} {T : u_T} {N : Nat} {ty0 : Nat → FieldType} {ci : Nat} (hc : g_C ci C T N ty0) {r n : Nat} (hsh : g_sh S a = some (.inr (r, n))) (hrep : gk_rep r = 2) (ht : (gk_tys G.2)[gk_role r]? = some (G.2 (gk_role r), .object C)) (hn : n < 2 ^ 31) {i : Int32} {x : Option Nat} (hxo : ∀ b : Nat, x = some b → g_sh S b = some (.inl ci)) (j : Nat) (hj : i = nI j) (hjn : j < n) (hdg : decode cc pc = .ok (.aastore, 1))
    (kk : ∀ (H1 : Heap) (locs1 : List Loc), g_W G A s (p_ar S r a j x) H1 locs1 → W p l e R s m args below meth c H1 locs1 cells slots Q (F0 m (pc + 1) ls rest)) : W p l e R s m args below meth c H locs cells slots Q (F0 m pc ls (va_rf x :: .int i :: .ref a :: rest)) := by
  subst hj
  refine s_aast hC hW hc hsh hrep ht hxo (vp_in_nI hjn hn) hdg (fun H1 locs1 hW1 => kk H1 locs1 ?_)
  rw [nI_clamp (Nat.lt_trans hjn hn)] at hW1
  exact hW1
end GK
end
section
/-! WELL-TYPED: what every object and array of the class holds, at any time between its calls -/
theorem g_ft {n : String} (r : Option Nat) : fits (.object n) (va_rf r) = true := by cases r <;> rfl
theorem g_fta {t : FieldType} (r : Option Nat) : fits (.array t) (va_rf r) = true := by cases r <;> rfl
/-- null or an object of class ci -/
def t_o (S : gs_S) (ci : Nat) (r : Option Nat) : Prop := ∀ b : Nat, r = some b → g_sh S b = some (.inl ci)
/-- an object of class ci -/
def t_n (S : gs_S) (ci : Nat) (r : Option Nat) : Prop := ∃ b : Nat, r = some b ∧ g_sh S b = some (.inl ci)
/-- an array of that role and length -/
def t_a (S : gs_S) (role n : Nat) (r : Option Nat) : Prop := ∃ b : Nat, r = some b ∧ g_sh S b = some (.inr (role, n))
def wt_L (S : gs_S) : Prop := ∀ a : Nat, g_sh S a = some (.inl 0) → t_o S 0 (g_r S 0 0 a) ∧ t_o S 0 (g_r S 0 1 a) ∧ t_o S 1 (g_r S 0 2 a) ∧ t_o S 0 (g_r S 0 3 a) ∧ t_a S 6 16 (g_r S 0 5 a) ∧ t_a S 7 16 (g_r S 0 6 a) ∧ t_a S 8 16 (g_r S 0 7 a) ∧ t_a S 9 216 (g_r S 0 8 a) ∧ ∃ n : Nat, n ≤ 16 ∧ g_i S 0 4 a = nI n
def wt_H (S : gs_S) : Prop := ∀ a : Nat, g_sh S a = some (.inr (6, 16)) → ∀ i : Nat, i < 16 → t_o S 0 (g_ar S 6 a i)
def wt_Q (S : gs_S) : Prop := ∀ a : Nat, g_sh S a = some (.inr (7, 16)) → ∀ i : Nat, i < 16 → ∃ q : Nat, q < 216 ∧ g_ai S 7 a i = nI q
def wt_P (S : gs_S) : Prop := ∀ a : Nat, g_sh S a = some (.inl 1) → t_o S 1 (g_r S 1 0 a) ∧ t_a S 4 16 (g_r S 1 4 a) ∧ t_a S 5 16 (g_r S 1 5 a) ∧ t_o S 0 (g_r S 1 8 a) ∧ (∃ n : Nat, n ≤ 16 ∧ g_i S 1 6 a = nI n) ∧ ∃ k : Nat, 1 ≤ k ∧ k ≤ 60 ∧ g_i S 1 1 a = nI k ∧ ∀ b : Nat, g_r S 1 0 a = some b → ∃ j : Nat, j < k ∧ g_i S 1 1 b = nI j
def wt_A (S : gs_S) : Prop := (∀ a : Nat, g_sh S a = some (.inr (0, 61)) → ∀ i : Nat, i < 61 → t_o S 1 (g_ar S 0 a i)) ∧ ∀ a : Nat, g_sh S a = some (.inr (1, 200)) → ∀ i : Nat, i < 200 → t_o S 1 (g_ar S 1 a i)
def wt_R (S : gs_S) : Prop := ∀ x : Nat, g_sh S x = some (.inl 2) → t_a S 0 61 (g_r S 2 1 x) ∧ t_a S 1 200 (g_r S 2 3 x) ∧ t_a S 2 200 (g_r S 2 4 x) ∧ t_a S 3 100 (g_r S 2 6 x) ∧ t_n S 0 (g_r S 2 7 x) ∧ t_n S 0 (g_r S 2 8 x) ∧ t_o S 0 (g_r S 2 10 x) ∧ (∃ n : Nat, n ≤ 60 ∧ g_i S 2 2 x = nI n) ∧ ∃ n : Nat, n ≤ 200 ∧ g_i S 2 5 x = nI n
def w_t (S : gs_S) : Prop := wt_L S ∧ wt_H S ∧ wt_Q S ∧ wt_P S ∧ wt_A S ∧ wt_R S
section WT
variable {S : gs_S} {a : Nat}
theorem w_below (h : w_t S) (ha : g_sh S a = some (.inl 0)) : t_o S 0 (g_r S 0 0 a) := (h.1 a ha).1
theorem w_above (h : w_t S) (ha : g_sh S a = some (.inl 0)) : t_o S 0 (g_r S 0 1 a) := (h.1 a ha).2.1
theorem w_program (h : w_t S) (ha : g_sh S a = some (.inl 0)) : t_o S 1 (g_r S 0 2 a) := (h.1 a ha).2.2.1
theorem w_earlier (h : w_t S) (ha : g_sh S a = some (.inl 0)) : t_o S 0 (g_r S 0 3 a) := (h.1 a ha).2.2.2.1
theorem w_holders (h : w_t S) (ha : g_sh S a = some (.inl 0)) : t_a S 6 16 (g_r S 0 5 a) := (h.1 a ha).2.2.2.2.1
theorem w_places (h : w_t S) (ha : g_sh S a = some (.inl 0)) : t_a S 7 16 (g_r S 0 6 a) := (h.1 a ha).2.2.2.2.2.1
theorem w_bytes (h : w_t S) (ha : g_sh S a = some (.inl 0)) : t_a S 8 16 (g_r S 0 7 a) := (h.1 a ha).2.2.2.2.2.2.1
theorem w_values (h : w_t S) (ha : g_sh S a = some (.inl 0)) : t_a S 9 216 (g_r S 0 8 a) := (h.1 a ha).2.2.2.2.2.2.2.1
theorem w_arguments (h : w_t S) (ha : g_sh S a = some (.inl 0)) : ∃ n : Nat, n ≤ 16 ∧ g_i S 0 4 a = nI n := (h.1 a ha).2.2.2.2.2.2.2.2
theorem w_outer (h : w_t S) (ha : g_sh S a = some (.inl 1)) : t_o S 1 (g_r S 1 0 a) := (h.2.2.2.1 a ha).1
theorem w_formalHow (h : w_t S) (ha : g_sh S a = some (.inl 1)) : t_a S 4 16 (g_r S 1 4 a) := (h.2.2.2.1 a ha).2.1
theorem w_formalBytes (h : w_t S) (ha : g_sh S a = some (.inl 1)) : t_a S 5 16 (g_r S 1 5 a) := (h.2.2.2.1 a ha).2.2.1
theorem w_latest (h : w_t S) (ha : g_sh S a = some (.inl 1)) : t_o S 0 (g_r S 1 8 a) := (h.2.2.2.1 a ha).2.2.2.1
theorem w_formals (h : w_t S) (ha : g_sh S a = some (.inl 1)) : ∃ n : Nat, n ≤ 16 ∧ g_i S 1 6 a = nI n := (h.2.2.2.1 a ha).2.2.2.2.1
theorem w_number (h : w_t S) (ha : g_sh S a = some (.inl 1)) : ∃ k : Nat, 1 ≤ k ∧ k ≤ 60 ∧ g_i S 1 1 a = nI k ∧ ∀ b : Nat, g_r S 1 0 a = some b → ∃ j : Nat, j < k ∧ g_i S 1 1 b = nI j := (h.2.2.2.1 a ha).2.2.2.2.2
theorem w_programs (h : w_t S) (ha : g_sh S a = some (.inl 2)) : t_a S 0 61 (g_r S 2 1 a) := (h.2.2.2.2.2 a ha).1
theorem w_owners (h : w_t S) (ha : g_sh S a = some (.inl 2)) : t_a S 1 200 (g_r S 2 3 a) := (h.2.2.2.2.2 a ha).2.1
theorem w_firstValues (h : w_t S) (ha : g_sh S a = some (.inl 2)) : t_a S 2 200 (g_r S 2 4 a) := (h.2.2.2.2.2 a ha).2.2.1
theorem w_externals (h : w_t S) (ha : g_sh S a = some (.inl 2)) : t_a S 3 100 (g_r S 2 6 a) := (h.2.2.2.2.2 a ha).2.2.2.1
theorem w_bottom (h : w_t S) (ha : g_sh S a = some (.inl 2)) : t_n S 0 (g_r S 2 7 a) := (h.2.2.2.2.2 a ha).2.2.2.2.1
theorem w_top (h : w_t S) (ha : g_sh S a = some (.inl 2)) : t_n S 0 (g_r S 2 8 a) := (h.2.2.2.2.2 a ha).2.2.2.2.2.1
theorem w_prepared (h : w_t S) (ha : g_sh S a = some (.inl 2)) : t_o S 0 (g_r S 2 10 a) := (h.2.2.2.2.2 a ha).2.2.2.2.2.2.1
theorem w_programCount (h : w_t S) (ha : g_sh S a = some (.inl 2)) : ∃ n : Nat, n ≤ 60 ∧ g_i S 2 2 a = nI n := (h.2.2.2.2.2 a ha).2.2.2.2.2.2.2.1
theorem w_cellCount (h : w_t S) (ha : g_sh S a = some (.inl 2)) : ∃ n : Nat, n ≤ 200 ∧ g_i S 2 5 a = nI n := (h.2.2.2.2.2 a ha).2.2.2.2.2.2.2.2
end WT
end
section
theorem s_catI (x : Int32) : (Value.int x).category = 1 := rfl
theorem s_catL (x : Int64) : (Value.long x).category = 2 := rfl

/-! R.isName -/
def f_isName (n : Int32) : Int32 := if n < 0 then 0 else if 100 ≤ n then 0 else 1

set_option maxHeartbeats 4000000 in
set_option maxRecDepth 100000 in
theorem c_R_isName (l : Launch) (G : gs_G) (S : gs_S) (sz : Nat) (n : Int32) : Met l yR_isName (kR_isName :: gU) { frames := 0, cells := 0, slots := 0, locals := 0 } (g_Pc G S sz [.int n]) (g_Qi G S sz (fun r S' => S' = S ∧ r = f_isName n)) 0 0 (g_A S sz) := by
  refine s_head (by decide) (Nat.le_of_ble_eq_true rfl) ?_
  intro p e s m below meth c ls hsz hC hr hlocks hnm hl hW
  subst hsz
  obtain ⟨hx, hb, hml, hown, hts⟩ := id hC
  have hl : lv_has ls 1 [(0, .int n)] := hl
  refine lv_iload_n hx hb dR_isName_0 rfl (lv_at hl 0 rfl) ?_
  refine lv_if_lt (tgt := 14) hx hb dR_isName_1 (by decide) (fun c_1 => ?_) (fun c_1 => ?_)
  · skip
    refine lv_iconst (v := 0) hx hb dR_isName_14 (by decide) ?_
    exact s_iret hC hr hlocks rfl hW dR_isName_15 ⟨rfl, by simp [f_isName, c_1]⟩
  · skip
    refine lv_iload_n hx hb dR_isName_4 rfl (lv_at hl 0 rfl) ?_
    refine lv_bipush (v := 100) hx hb dR_isName_5 (by decide) ?_
    refine lv_icmp_ge (tgt := 14) hx hb dR_isName_7 (by decide) (fun c_7 => ?_) (fun c_7 => ?_)
    · skip
      refine lv_iconst (v := 0) hx hb dR_isName_14 (by decide) ?_
      exact s_iret hC hr hlocks rfl hW dR_isName_15 ⟨rfl, by simp [f_isName, c_1, c_7]⟩
    · skip
      refine lv_iconst (v := 1) hx hb dR_isName_10 (by decide) ?_
      refine lv_goto (tgt := 15) hx hb dR_isName_11 (by decide) ?_
      exact s_iret hC hr hlocks rfl hW dR_isName_15 ⟨rfl, by simp [f_isName, c_1, c_7]⟩

/-! R.numberOf -/
def f_no (S : gs_S) (r : Option Nat) : Int32 := match r with
  | none => 0
  | some a => g_i S 1 1 a

set_option maxHeartbeats 4000000 in
set_option maxRecDepth 100000 in
theorem c_R_numberOf (l : Launch) (G : gs_G) (S : gs_S) (sz : Nat) (r0 : Option Nat) (h0 : t_o S 1 r0) : Met l yR_numberOf (kR_numberOf :: gU) { frames := 0, cells := 0, slots := 0, locals := 0 } (g_Pc G S sz [va_rf r0]) (g_Qi G S sz (fun r S' => S' = S ∧ r = f_no S r0)) 0 0 (g_A S sz) := by
  refine s_head (by decide) (by simp [lg_sl, s_cat, s_catI, s_catL]) ?_
  intro p e s m below meth c ls hsz hC hr hlocks hnm hl hW
  subst hsz
  obtain ⟨hx, hb, hml, hown, hts⟩ := id hC
  have hl : lv_has ls 1 [(0, va_rf r0)] := by simpa [lv_args, s_cat, s_catI, s_catL] using hl
  refine s_aload_n (x := r0) hx hb dR_numberOf_0 rfl (lv_at hl 0 rfl) ?_
  refine s_ifnonnull (x := r0) (tgt := 8) hx hb dR_numberOf_1 (by decide) (fun b_1 c_1 => ?_) (fun c_1 => ?_)
  · skip
    subst c_1
    have sb_1 := h0 _ rfl
    refine s_aload_n (x := some b_1) hx hb dR_numberOf_8 rfl (lv_at hl 0 rfl) ?_
    refine s_geti hC hW gc_P iw_P 1 (by decide) uw_132 rfl sb_1 rfl dR_numberOf_9 ?_
    exact s_iret hC hr hlocks rfl hW dR_numberOf_12 ⟨rfl, rfl⟩
  · skip
    subst c_1
    refine lv_iconst (v := 0) hx hb dR_numberOf_4 (by decide) ?_
    refine lv_goto (tgt := 12) hx hb dR_numberOf_5 (by decide) ?_
    exact s_iret hC hr hlocks rfl hW dR_numberOf_12 ⟨rfl, rfl⟩

/-! P.has -/
def f_has (S : gs_S) (a : Nat) (k : Int32) : Int32 := if g_i S 1 3 a &&& k = 0 then 0 else 1

set_option maxHeartbeats 4000000 in
set_option maxRecDepth 100000 in
theorem c_P_has (l : Launch) (G : gs_G) (S : gs_S) (sz : Nat) (a : Nat) (k : Int32) (ha : g_sh S a = some (.inl 1)) : Met l yP_has (kP_has :: gU) { frames := 0, cells := 0, slots := 0, locals := 0 } (g_Pc G S sz [va_rf (some a), .int k]) (g_Qi G S sz (fun r S' => S' = S ∧ r = f_has S a k)) 0 0 (g_A S sz) := by
  refine s_head (by decide) (Nat.le_of_ble_eq_true rfl) ?_
  intro p e s m below meth c ls hsz hC hr hlocks hnm hl hW
  subst hsz
  obtain ⟨hx, hb, hml, hown, hts⟩ := id hC
  have hl : lv_has ls 2 [(0, va_rf (some a)), (1, .int k)] := hl
  refine s_aload_n (x := some a) hx hb dP_has_0 rfl (lv_at hl 0 rfl) ?_
  refine s_geti hC hW gc_P iw_P 3 (by decide) uw_135 rfl ha rfl dP_has_1 ?_
  refine lv_iload_n hx hb dP_has_4 rfl (lv_at hl 1 rfl) ?_
  refine lv_iand hx hb dP_has_5 ?_
  refine lv_if_eq (tgt := 13) hx hb dP_has_6 (by decide) (fun c_6 => ?_) (fun c_6 => ?_)
  · skip
    refine lv_iconst (v := 0) hx hb dP_has_13 (by decide) ?_
    exact s_iret hC hr hlocks rfl hW dP_has_14 ⟨rfl, by simp [f_has, c_6]⟩
  · skip
    refine lv_iconst (v := 1) hx hb dP_has_9 (by decide) ?_
    refine lv_goto (tgt := 14) hx hb dP_has_10 (by decide) ?_
    exact s_iret hC hr hlocks rfl hW dP_has_14 ⟨rfl, by simp [f_has, c_6]⟩

/-! P.keepsData -/
def f_keeps (S : gs_S) (a : Nat) : Int32 := if f_has S a 1 = 0 then (if f_has S a 4 = 0 then 1 else 0) else 0

set_option maxHeartbeats 4000000 in
set_option maxRecDepth 100000 in
theorem c_P_keepsData (l : Launch) (G : gs_G) (S : gs_S) (sz : Nat) (a : Nat) (ha : g_sh S a = some (.inl 1)) : Met l yP_keepsData (kP_keepsData :: gU) { frames := 1, cells := 0, slots := 0, locals := 21 } (g_Pc G S sz [va_rf (some a)]) (g_Qi G S sz (fun r S' => S' = S ∧ r = f_keeps S a)) 0 0 (g_A S sz) := by
  refine s_head (by decide) (Nat.le_of_ble_eq_true rfl) ?_
  intro p e s m below meth c ls hsz hC hr hlocks hnm hl hW
  subst hsz
  obtain ⟨hx, hb, hml, hown, hts⟩ := id hC
  have hl : lv_has ls 1 [(0, va_rf (some a))] := hl
  refine s_aload_n (x := some a) hx hb dP_keepsData_0 rfl (lv_at hl 0 rfl) ?_
  refine lv_iconst (v := 1) hx hb dP_keepsData_1 (by decide) ?_
  refine s_calli hW (s_runV (As := [.int 1]) (rest := []) hC (c_P_has l G S s.heap.size a 1 ha) uc_P_has uw_255 uw_193 uw_194 uw_5 rfl rfl (by decide +kernel) ⟨by decide, by decide⟩ (g_preV hW gc_P ha [.int 1]) rfl hl.1 rfl (Nat.le_of_ble_eq_true rfl) dP_keepsData_2 ⟨Nat.le_of_ble_eq_true rfl, Nat.le_of_ble_eq_true rfl⟩) (fun q2 S2 H locs hp2 hW => ?_)
  obtain ⟨hs2, rfl⟩ := hp2
  replace hs2 := hs2.symm
  subst hs2
  refine lv_if_ne (tgt := 20) hx hb dP_keepsData_5 (by decide) (fun c_5 => ?_) (fun c_5 => ?_)
  · skip
    refine lv_iconst (v := 0) hx hb dP_keepsData_20 (by decide) ?_
    exact s_iret hC hr hlocks rfl hW dP_keepsData_21 ⟨rfl, by simp [f_keeps, c_5]⟩
  · skip
    refine s_aload_n (x := some a) hx hb dP_keepsData_8 rfl (lv_at hl 0 rfl) ?_
    refine lv_iconst (v := 4) hx hb dP_keepsData_9 (by decide) ?_
    refine s_calli hW (s_runV (As := [.int 4]) (rest := []) hC (c_P_has l G S H.size a 4 ha) uc_P_has uw_255 uw_193 uw_194 uw_5 rfl rfl (by decide +kernel) ⟨by decide, by decide⟩ (g_preV hW gc_P ha [.int 4]) rfl hl.1 rfl (Nat.le_of_ble_eq_true rfl) dP_keepsData_10 ⟨Nat.le_of_ble_eq_true rfl, Nat.le_of_ble_eq_true rfl⟩) (fun q10 S10 H locs hp10 hW => ?_)
    obtain ⟨hs10, rfl⟩ := hp10
    replace hs10 := hs10.symm
    subst hs10
    refine lv_if_ne (tgt := 20) hx hb dP_keepsData_13 (by decide) (fun c_13 => ?_) (fun c_13 => ?_)
    · skip
      refine lv_iconst (v := 0) hx hb dP_keepsData_20 (by decide) ?_
      exact s_iret hC hr hlocks rfl hW dP_keepsData_21 ⟨rfl, by simp [f_keeps, c_5, c_13]⟩
    · skip
      refine lv_iconst (v := 1) hx hb dP_keepsData_16 (by decide) ?_
      refine lv_goto (tgt := 21) hx hb dP_keepsData_17 (by decide) ?_
      exact s_iret hC hr hlocks rfl hW dP_keepsData_21 ⟨rfl, by simp [f_keeps, c_5, c_13]⟩

/-! R.programOf -/
def v_a (r : Option Nat) : Nat := r.getD 0
def f_pOf (S : gs_S) (x : Nat) (i : Int32) : Option Nat := if i < 1 then none else if g_i S 2 2 x < i then none else g_ar S 0 (v_a (g_r S 2 1 x)) i.toNatClampNeg

theorem x_pOf {n : Nat} {i m : Int32} (hn : n ≤ 60) (em : m = nI n) (c1 : ¬ i < 1) (c2 : ¬ m < i) : ∃ j : Nat, j ≤ n ∧ i = nI j := by
  subst em
  have h0 : ¬ i < 0 := fun h => c1 (Int32.lt_iff_toInt_lt.mpr (by have := Int32.lt_iff_toInt_lt.mp h; simp at this ⊢; omega))
  obtain ⟨j, hj, rfl⟩ := nI_of h0
  refine ⟨j, ?_, rfl⟩
  rw [nI_ltI (by omega) hj] at c2
  omega

set_option maxHeartbeats 4000000 in
set_option maxRecDepth 100000 in
theorem c_R_programOf (l : Launch) (G : gs_G) (S : gs_S) (sz : Nat) (x : Nat) (i : Int32) (hWT : w_t S) (hX : g_sh S x = some (.inl 2)) : Met l yR_programOf (kR_programOf :: gU) { frames := 0, cells := 0, slots := 0, locals := 0 } (g_Pc G S sz [va_rf (some x), .int i]) (g_Qq G S sz (fun r S' => S' = S ∧ r = f_pOf S x i)) 0 0 (g_A S sz) := by
  refine s_head (by decide) (Nat.le_of_ble_eq_true rfl) ?_
  intro p e s m below meth c ls hsz hC hr hlocks hnm hl hW
  subst hsz
  obtain ⟨hx, hb, hml, hown, hts⟩ := id hC
  have hl : lv_has ls 2 [(0, va_rf (some x)), (1, .int i)] := hl
  refine lv_iload_n hx hb dR_programOf_0 rfl (lv_at hl 1 rfl) ?_
  refine lv_iconst (v := 1) hx hb dR_programOf_1 (by decide) ?_
  refine lv_icmp_lt (tgt := 22) hx hb dR_programOf_2 (by decide) (fun c_2 => ?_) (fun c_2 => ?_)
  · skip
    refine s_null hx hb dR_programOf_22 ?_
    exact s_aret (v := none) hC hr hlocks hW dR_programOf_23 ⟨rfl, by simp [f_pOf, c_2]⟩
  · skip
    refine lv_iload_n hx hb dR_programOf_5 rfl (lv_at hl 1 rfl) ?_
    refine s_aload_n (x := some x) hx hb dR_programOf_6 rfl (lv_at hl 0 rfl) ?_
    refine s_geti hC hW gc_R iw_R 2 (by decide) uw_74 rfl hX rfl dR_programOf_7 ?_
    refine lv_icmp_gt (tgt := 22) hx hb dR_programOf_10 (by decide) (fun c_10 => ?_) (fun c_10 => ?_)
    · skip
      refine s_null hx hb dR_programOf_22 ?_
      exact s_aret (v := none) hC hr hlocks hW dR_programOf_23 ⟨rfl, by simp [f_pOf, c_2, c_10]⟩
    · skip
      refine s_aload_n (x := some x) hx hb dR_programOf_13 rfl (lv_at hl 0 rfl) ?_
      obtain ⟨b14, eb14, sb14⟩ := w_programs hWT hX
      refine s_getr hC hW gc_R iw_R 1 (by decide) uw_73 rfl hX (v := some b14) eb14 dR_programOf_14 ?_
      refine lv_iload_n hx hb dR_programOf_17 rfl (lv_at hl 1 rfl) ?_
      obtain ⟨n, hn, en⟩ := w_programCount hWT hX
      obtain ⟨j, hj, ej⟩ := x_pOf hn en c_2 c_10
      obtain ⟨r18, er18⟩ : ∃ r : Option Nat, g_ar S 0 b14 j = r := ⟨_, rfl⟩
      refine k_aald hC hW sb14 rfl rfl (by decide) j ej (by omega) (v := r18) er18 dR_programOf_18 ?_
      refine lv_goto (tgt := 23) hx hb dR_programOf_19 (by decide) ?_
      exact s_aret (v := r18) hC hr hlocks hW dR_programOf_23 ⟨rfl, by unfold f_pOf; rw [if_neg c_2, if_neg c_10, eb14, ← er18, ej, nI_clamp (show j < 2 ^ 31 by omega)]; rfl⟩

/-! L.share -/
def f_share (S : gs_S) (a j : Nat) (h : Option Nat) (q b : Int32) : gs_S := p_ai (p_ai (p_ar S 6 (v_a (g_r S 0 5 a)) j h) 7 (v_a (g_r S 0 6 a)) j q) 8 (v_a (g_r S 0 7 a)) j b

set_option maxHeartbeats 4000000 in
set_option maxRecDepth 100000 in
theorem c_L_share (l : Launch) (G : gs_G) (S : gs_S) (sz : Nat) (a j h : Nat) (q b : Int32) (hWT : w_t S) (ha : g_sh S a = some (.inl 0)) (hh : g_sh S h = some (.inl 0)) (hlt_j : j < 16) : Met l yL_share (kL_share :: gU) { frames := 0, cells := 0, slots := 0, locals := 0 } (g_Pc G S sz [va_rf (some a), .int (nI j), va_rf (some h), .int q, .int b]) (g_Qv G S sz (fun S' => S' = f_share S a j (some h) q b)) 0 0 (g_A S sz) := by
  refine s_head (by decide) (Nat.le_of_ble_eq_true rfl) ?_
  intro p e s m below meth c ls hsz hC hr hlocks hnm hl hW
  subst hsz
  obtain ⟨hx, hb, hml, hown, hts⟩ := id hC
  have hl : lv_has ls 5 [(0, va_rf (some a)), (1, .int (nI j)), (2, va_rf (some h)), (3, .int q), (4, .int b)] := hl
  refine s_aload_n (x := some a) hx hb dL_share_0 rfl (lv_at hl 0 rfl) ?_
  obtain ⟨b1, eb1, sb1⟩ := w_holders hWT ha
  refine s_getr hC hW gc_L iw_L 5 (by decide) uw_36 rfl ha (v := some b1) eb1 dL_share_1 ?_
  refine lv_iload_n hx hb dL_share_4 rfl (lv_at hl 1 rfl) ?_
  refine s_aload_n (x := some h) hx hb dL_share_5 rfl (lv_at hl 2 rfl) ?_
  refine k_aast (x := some h) hC hW gc_L sb1 rfl rfl (by decide) (fun _ q => by cases q; exact hh) j rfl (by omega) dL_share_6 (fun H locs hW => ?_)
  refine s_aload_n (x := some a) hx hb dL_share_7 rfl (lv_at hl 0 rfl) ?_
  obtain ⟨b8, eb8, sb8⟩ := w_places hWT ha
  refine s_getr hC hW gc_L iw_L 6 (by decide) uw_38 rfl ha (v := some b8) eb8 dL_share_8 ?_
  refine lv_iload_n hx hb dL_share_11 rfl (lv_at hl 1 rfl) ?_
  refine lv_iload_n hx hb dL_share_12 rfl (lv_at hl 3 rfl) ?_
  refine k_iast hC hW sb8 rfl rfl (by decide) j rfl (by omega) dL_share_13 (fun H locs hW => ?_)
  refine s_aload_n (x := some a) hx hb dL_share_14 rfl (lv_at hl 0 rfl) ?_
  obtain ⟨b15, eb15, sb15⟩ := w_bytes hWT ha
  refine s_getr hC hW gc_L iw_L 7 (by decide) uw_40 rfl ha (v := some b15) eb15 dL_share_15 ?_
  refine lv_iload_n hx hb dL_share_18 rfl (lv_at hl 1 rfl) ?_
  refine lv_iload hx hb dL_share_19 (lv_at hl 4 rfl) ?_
  refine k_iast hC hW sb15 rfl rfl (by decide) j rfl (by omega) dL_share_21 (fun H locs hW => ?_)
  exact s_vret hC hr hlocks hW dL_share_22 (by simp only [f_share, v_a, eb1, eb8, eb15, Option.getD_some])

/-! L.copy -/
def f_copy (S : gs_S) (a j : Nat) : gs_S := match g_ar S 6 (v_a (g_r S 0 5 a)) j with
  | none => S
  | some h => p_ai (p_ar (p_al S 9 (v_a (g_r S 0 8 a)) j (g_al S 9 (v_a (g_r S 0 8 h)) (g_ai S 7 (v_a (g_r S 0 6 a)) j).toNatClampNeg)) 6 (v_a (g_r S 0 5 a)) j (some a)) 7 (v_a (g_r S 0 6 a)) j (nI j)

set_option maxHeartbeats 4000000 in
set_option maxRecDepth 100000 in
theorem c_L_copy (l : Launch) (G : gs_G) (S : gs_S) (sz : Nat) (a j : Nat) (hWT : w_t S) (ha : g_sh S a = some (.inl 0)) (hlt_j : j < 16) : Met l yL_copy (kL_copy :: gU) { frames := 0, cells := 0, slots := 0, locals := 0 } (g_Pc G S sz [va_rf (some a), .int (nI j)]) (g_Qv G S sz (fun S' => S' = f_copy S a j)) 0 0 (g_A S sz) := by
  refine s_head (by decide) (Nat.le_of_ble_eq_true rfl) ?_
  intro p e s m below meth c ls hsz hC hr hlocks hnm hl hW
  subst hsz
  obtain ⟨hx, hb, hml, hown, hts⟩ := id hC
  have hl : lv_has ls 3 [(0, va_rf (some a)), (1, .int (nI j))] := hl
  refine s_aload_n (x := some a) hx hb dL_copy_0 rfl (lv_at hl 0 rfl) ?_
  obtain ⟨b1, eb1, sb1⟩ := w_holders hWT ha
  refine s_getr hC hW gc_L iw_L 5 (by decide) uw_36 rfl ha (v := some b1) eb1 dL_copy_1 ?_
  refine lv_iload_n hx hb dL_copy_4 rfl (lv_at hl 1 rfl) ?_
  obtain ⟨r5, er5⟩ : ∃ r : Option Nat, g_ar S 6 b1 j = r := ⟨_, rfl⟩
  refine k_aald hC hW sb1 rfl rfl (by decide) j rfl (by omega) (v := r5) er5 dL_copy_5 ?_
  refine s_astore_n (x := r5) (lv' := [(2, va_rf r5), (0, va_rf (some a)), (1, .int (nI j))]) hx hb dL_copy_6 rfl hl (by decide) rfl (fun ls hl => ?_)
  refine s_aload_n (x := r5) hx hb dL_copy_7 rfl (lv_at hl 0 rfl) ?_
  refine s_ifnull (x := r5) (tgt := 42) hx hb dL_copy_8 (by decide) (fun c_8 => ?_) (fun b_8 c_8 => ?_)
  · skip
    subst c_8
    exact s_vret hC hr hlocks hW dL_copy_42 (by simp only [f_copy, v_a, eb1, er5, Option.getD_some])
  · skip
    subst c_8
    have sb_8 := hWT.2.1 _ sb1 _ (by omega) _ er5
    refine s_aload_n (x := some a) hx hb dL_copy_11 rfl (lv_at hl 1 rfl) ?_
    obtain ⟨b12, eb12, sb12⟩ := w_values hWT ha
    refine s_getr hC hW gc_L iw_L 8 (by decide) uw_42 rfl ha (v := some b12) eb12 dL_copy_12 ?_
    refine lv_iload_n hx hb dL_copy_15 rfl (lv_at hl 2 rfl) ?_
    refine s_aload_n (x := some b_8) hx hb dL_copy_16 rfl (lv_at hl 0 rfl) ?_
    obtain ⟨b17, eb17, sb17⟩ := w_values hWT sb_8
    refine s_getr hC hW gc_L iw_L 8 (by decide) uw_42 rfl sb_8 (v := some b17) eb17 dL_copy_17 ?_
    refine s_aload_n (x := some a) hx hb dL_copy_20 rfl (lv_at hl 1 rfl) ?_
    obtain ⟨b21, eb21, sb21⟩ := w_places hWT ha
    refine s_getr hC hW gc_L iw_L 6 (by decide) uw_38 rfl ha (v := some b21) eb21 dL_copy_21 ?_
    refine lv_iload_n hx hb dL_copy_24 rfl (lv_at hl 2 rfl) ?_
    refine k_iald hC hW sb21 rfl rfl (by decide) j rfl (by omega) rfl dL_copy_25 ?_
    obtain ⟨q, hq, eq⟩ := hWT.2.2.1 _ sb21 j hlt_j
    refine k_lald hC hW sb17 rfl rfl (by decide) q eq hq rfl dL_copy_26 ?_
    refine k_last hC hW sb12 rfl rfl (by decide) j rfl (by omega) dL_copy_27 (fun H locs hW => ?_)
    refine s_aload_n (x := some a) hx hb dL_copy_28 rfl (lv_at hl 1 rfl) ?_
    refine s_getr hC hW gc_L iw_L 5 (by decide) uw_36 rfl ha (v := some b1) eb1 dL_copy_29 ?_
    refine lv_iload_n hx hb dL_copy_32 rfl (lv_at hl 2 rfl) ?_
    refine s_aload_n (x := some a) hx hb dL_copy_33 rfl (lv_at hl 1 rfl) ?_
    refine k_aast (x := some a) hC hW gc_L sb1 rfl rfl (by decide) (fun _ q => by cases q; exact ha) j rfl (by omega) dL_copy_34 (fun H locs hW => ?_)
    refine s_aload_n (x := some a) hx hb dL_copy_35 rfl (lv_at hl 1 rfl) ?_
    refine s_getr hC hW gc_L iw_L 6 (by decide) uw_38 rfl ha (v := some b21) eb21 dL_copy_36 ?_
    refine lv_iload_n hx hb dL_copy_39 rfl (lv_at hl 2 rfl) ?_
    refine lv_iload_n hx hb dL_copy_40 rfl (lv_at hl 2 rfl) ?_
    refine k_iast hC hW sb21 rfl rfl (by decide) j rfl (by omega) dL_copy_41 (fun H locs hW => ?_)
    exact s_vret hC hr hlocks hW dL_copy_42 (by simp only [f_copy, v_a, eb1, er5, eb12, eb17, eb21, eq, nI_clamp (show q < 2 ^ 31 by omega), Option.getD_some])

/-! P.isOrLiesIn -/
def f_li (S : gs_S) : Nat → Option Nat → Option Nat → Int32
  | _, none, _ => 0
  | 0, some _, _ => 0
  | k + 1, some a, o => if some a = o then 1 else f_li S k (g_r S 1 0 a) o
theorem f_li_n (S : gs_S) (k : Nat) (o : Option Nat) : f_li S k none o = 0 := by cases k <;> rfl

theorem x_li {S : gs_S} {b k : Nat} {r : Option Nat} (hk61 : k + 1 ≤ 61) (hWT : w_t S) (hb : g_sh S b = some (.inl 1)) (er : g_r S 1 0 b = r) (hk : ∀ c : Nat, some b = some c → ∃ n : Nat, n < k + 1 ∧ g_i S 1 1 c = nI n) : ∀ c : Nat, r = some c → ∃ n : Nat, n < k ∧ g_i S 1 1 c = nI n := by
  intro c hc
  obtain ⟨n, h1, h2⟩ := hk b rfl
  obtain ⟨j, h3, h4, h5, h6⟩ := w_number hWT hb
  obtain ⟨i, h7, h8⟩ := h6 c (er.trans hc)
  have h9 : n = j := by
    have := h2.symm.trans h5
    by_cases hn : n < 2 ^ 31
    · exact (nI_eq hn (by omega)).mp this
    · omega
  exact ⟨i, by omega, h8⟩
set_option maxHeartbeats 4000000 in
set_option maxRecDepth 100000 in
theorem lp_li (l : Launch) (G : gs_G) (S : gs_S) (a : Nat) (o : Option Nat) (hWT : w_t S) (ha : g_sh S a = some (.inl 1)) {p : Program} {e : Env} {s : State} {m : MethodId} {below : List Frame} {meth : Method} {c : Code} (hC : CallFix p m c cP_isOrLiesIn 3 s #[va_rf (some a), va_rf o] gU yP_isOrLiesIn.cls) (hr : meth.sig.returnType = some .boolean) (hlocks : meth.locks = false) (hW : g_W G (g_A S s.heap.size) s S s.heap []) :
    ∀ (k : Nat) (r : Option Nat), t_o S 1 r → (∀ b : Nat, r = some b → ∃ n : Nat, n < k ∧ g_i S 1 1 b = nI n) → k ≤ 61 → f_li S 61 (some a) o = f_li S k r o → ∀ (ls : Array Slot), lv_has ls 3 [(2, va_rf r), (0, va_rf (some a)), (1, va_rf o)] → W p l e { frames := 0, cells := 0, slots := 0, locals := 0 } s m #[va_rf (some a), va_rf o] below meth c s.heap [] 0 0 (MQ below (g_Qi G S s.heap.size (fun r S' => S' = S ∧ r = f_li S 61 (some a) o)) #[va_rf (some a), va_rf o] s 0 0 (g_A S s.heap.size)) (F0 m 2 ls []) := by
  obtain ⟨hx, hb, hml, hown, hts⟩ := id hC
  intro k
  induction k with
  | zero =>
    intro r ht hk hk61 hf ls hl
    cases r with
    | some b =>
      obtain ⟨n, h, -⟩ := hk b rfl
      exact absurd h (by omega)
    | none =>
      refine s_aload_n (x := none) hx hb dP_isOrLiesIn_2 rfl (lv_at hl 0 rfl) ?_
      refine s_ifnull (x := none) (tgt := 21) hx hb dP_isOrLiesIn_3 (by decide) (fun _ => ?_) (fun b q => by cases q)
      refine lv_iconst (v := 0) hx hb dP_isOrLiesIn_21 (by decide) ?_
      exact s_iret hC hr hlocks rfl hW dP_isOrLiesIn_22 ⟨rfl, by rw [hf, f_li_n]⟩
  | succ k ih =>
    intro r ht hk hk61 hf ls hl
    refine s_aload_n (x := r) hx hb dP_isOrLiesIn_2 rfl (lv_at hl 0 rfl) ?_
    refine s_ifnull (x := r) (tgt := 21) hx hb dP_isOrLiesIn_3 (by decide) (fun c_3 => ?_) (fun b_3 c_3 => ?_)
    · skip
      subst c_3
      refine lv_iconst (v := 0) hx hb dP_isOrLiesIn_21 (by decide) ?_
      exact s_iret hC hr hlocks rfl hW dP_isOrLiesIn_22 ⟨rfl, by rw [hf, f_li_n]⟩
    · skip
      subst c_3
      have sb_3 := ht _ rfl
      refine s_aload_n (x := some b_3) hx hb dP_isOrLiesIn_6 rfl (lv_at hl 0 rfl) ?_
      refine s_aload_n (x := o) hx hb dP_isOrLiesIn_7 rfl (lv_at hl 2 rfl) ?_
      refine lv_acmp_ne (rx := some b_3) (ry := o) (tgt := 13) hx hb dP_isOrLiesIn_8 (by decide) (fun c_8 => ?_) (fun c_8 => ?_)
      · skip
        refine s_aload_n (x := some b_3) hx hb dP_isOrLiesIn_13 rfl (lv_at hl 0 rfl) ?_
        obtain ⟨r14, er14⟩ : ∃ r : Option Nat, g_r S 1 0 b_3 = r := ⟨_, rfl⟩
        refine s_getr hC hW gc_P iw_P 0 (by decide) uw_129 rfl sb_3 (v := r14) er14 dP_isOrLiesIn_14 ?_
        refine s_astore_n (x := r14) (lv' := [(2, va_rf r14), (0, va_rf (some a)), (1, va_rf o)]) hx hb dP_isOrLiesIn_17 rfl hl (by decide) (by simp [s_cat]) (fun ls hl => ?_)
        refine lv_goto (tgt := 2) hx hb dP_isOrLiesIn_18 (by decide) ?_
        exact ih r14 (fun b q => w_outer hWT sb_3 b (er14.trans q)) (x_li hk61 hWT sb_3 er14 hk) (by omega) (by rw [hf, ← er14, f_li, if_neg c_8]) ls hl
      · skip
        refine lv_iconst (v := 1) hx hb dP_isOrLiesIn_11 (by decide) ?_
        exact s_iret hC hr hlocks rfl hW dP_isOrLiesIn_12 ⟨rfl, by rw [hf, f_li, if_pos c_8]⟩

theorem x_li0 {S : gs_S} {a : Nat} (hWT : w_t S) (ha : g_sh S a = some (.inl 1)) : ∀ b : Nat, some a = some b → ∃ n : Nat, n < 61 ∧ g_i S 1 1 b = nI n := by
  intro b hb
  cases hb
  obtain ⟨j, h3, h4, h5, h6⟩ := w_number hWT ha
  exact ⟨j, by omega, h5⟩

set_option maxHeartbeats 4000000 in
set_option maxRecDepth 100000 in
theorem c_P_isOrLiesIn (l : Launch) (G : gs_G) (S : gs_S) (sz : Nat) (a : Nat) (o : Option Nat) (hWT : w_t S) (ha : g_sh S a = some (.inl 1)) : Met l yP_isOrLiesIn (kP_isOrLiesIn :: gU) { frames := 0, cells := 0, slots := 0, locals := 0 } (g_Pc G S sz [va_rf (some a), va_rf o]) (g_Qi G S sz (fun r S' => S' = S ∧ r = f_li S 61 (some a) o)) 0 0 (g_A S sz) := by
  refine s_head (by decide) (by simp [lg_sl, s_cat, s_catI, s_catL]) ?_
  intro p e s m below meth c ls hsz hC hr hlocks hnm hl hW
  subst hsz
  obtain ⟨hx, hb, hml, hown, hts⟩ := id hC
  have hl : lv_has ls 3 [(0, va_rf (some a)), (1, va_rf o)] := by simpa [lv_args, s_cat, s_catI, s_catL] using hl
  refine s_aload_n (x := some a) hx hb dP_isOrLiesIn_0 rfl (lv_at hl 0 rfl) ?_
  refine s_astore_n (x := some a) (lv' := [(2, va_rf (some a)), (0, va_rf (some a)), (1, va_rf o)]) hx hb dP_isOrLiesIn_1 rfl hl (by decide) (by simp [s_cat]) (fun ls hl => ?_)
  exact lp_li l G S a o hWT ha hC hr hlocks hW 61 (some a) (fun b q => by cases q; exact ha) (x_li0 hWT ha) (Nat.le_refl _) rfl ls hl
end
section
/-! writes that keep a state well-typed -/
theorem wt_pal {S : gs_S} {r a j : Nat} {v : Int64} (h : w_t S) : w_t (p_al S r a j v) := h
theorem wt_pl {S : gs_S} {c k a : Nat} {v : Int64} (h : w_t S) : w_t (p_l S c k a v) := h
theorem wt_pai {S : gs_S} {r a j : Nat} {v : Int32} (h : w_t S) (hv : r = 7 → ∃ q : Nat, q < 216 ∧ v = nI q) : w_t (p_ai S r a j v) := by
  refine ⟨h.1, h.2.1, fun b hb i hi => ?_, h.2.2.2⟩
  rw [x_g_ai_p_ai]
  split
  · rename_i c
    exact hv c.1.symm
  · exact h.2.2.1 b hb i hi
theorem wt_par {S : gs_S} {r a j : Nat} {v : Option Nat} (h : w_t S) (h6 : r = 6 → t_o S 0 v) (h0 : r = 0 → t_o S 1 v) (h1 : r = 1 → t_o S 1 v) : w_t (p_ar S r a j v) := by
  refine ⟨h.1, fun b hb i hi => ?_, h.2.2.1, h.2.2.2.1, ⟨fun b hb i hi => ?_, fun b hb i hi => ?_⟩, h.2.2.2.2.2⟩
  · rw [x_g_ar_p_ar]
    split
    · rename_i c
      exact h6 c.1.symm
    · exact h.2.1 b hb i hi
  · rw [x_g_ar_p_ar]
    split
    · rename_i c
      exact h0 c.1.symm
    · exact h.2.2.2.2.1.1 b hb i hi
  · rw [x_g_ar_p_ar]
    split
    · rename_i c
      exact h1 c.1.symm
    · exact h.2.2.2.2.1.2 b hb i hi
theorem wt_pi {S : gs_S} {c k a : Nat} {v : Int32} (h : w_t S) (h04 : c = 0 → k = 4 → ∃ n : Nat, n ≤ 16 ∧ v = nI n) (h16 : c = 1 → k = 6 → ∃ n : Nat, n ≤ 16 ∧ v = nI n) (h11 : ¬ (c = 1 ∧ k = 1)) (h22 : c = 2 → k = 2 → ∃ n : Nat, n ≤ 60 ∧ v = nI n) (h25 : c = 2 → k = 5 → ∃ n : Nat, n ≤ 200 ∧ v = nI n) : w_t (p_i S c k a v) := by
  refine ⟨fun b hb => ?_, h.2.1, h.2.2.1, fun b hb => ?_, h.2.2.2.2.1, fun b hb => ?_⟩
  · obtain ⟨a1, a2, a3, a4, a5, a6, a7, a8, a9⟩ := h.1 b hb
    refine ⟨a1, a2, a3, a4, a5, a6, a7, a8, ?_⟩
    rw [x_g_i_p_i]
    split
    · rename_i c
      exact h04 c.1.symm c.2.1.symm
    · exact a9
  · obtain ⟨a1, a2, a3, a4, a5, k0, a6, a7, a8, a9⟩ := h.2.2.2.1 b hb
    refine ⟨a1, a2, a3, a4, ?_, k0, a6, a7, ?_, fun q hq => ?_⟩
    · rw [x_g_i_p_i]
      split
      · rename_i c
        exact h16 c.1.symm c.2.1.symm
      · exact a5
    · rw [x_g_i_p_i, if_neg (fun z => h11 ⟨z.1.symm, z.2.1.symm⟩)]
      exact a8
    · obtain ⟨j, b1, b2⟩ := a9 q hq
      refine ⟨j, b1, ?_⟩
      rw [x_g_i_p_i, if_neg (fun z => h11 ⟨z.1.symm, z.2.1.symm⟩)]
      exact b2
  · obtain ⟨a1, a2, a3, a4, a5, a6, a7, a8, a9⟩ := h.2.2.2.2.2 b hb
    refine ⟨a1, a2, a3, a4, a5, a6, a7, ?_, ?_⟩
    · rw [x_g_i_p_i]
      split
      · rename_i c
        exact h22 c.1.symm c.2.1.symm
      · exact a8
    · rw [x_g_i_p_i]
      split
      · rename_i c
        exact h25 c.1.symm c.2.1.symm
      · exact a9
/-- an int field that nothing is said of -/
theorem wt_pi0 {S : gs_S} {c k a : Nat} {v : Int32} (h : w_t S) (hk : (c, k) ∉ [(0, 4), (1, 6), (1, 1), (2, 2), (2, 5)]) : w_t (p_i S c k a v) := by
  simp only [List.mem_cons, List.not_mem_nil, or_false, Prod.mk.injEq, not_or] at hk
  exact wt_pi h (fun a b => absurd ⟨a, b⟩ hk.1) (fun a b => absurd ⟨a, b⟩ hk.2.1) hk.2.2.1 (fun a b => absurd ⟨a, b⟩ hk.2.2.2.1) (fun a b => absurd ⟨a, b⟩ hk.2.2.2.2)
theorem wt_pr {S : gs_S} {c k a : Nat} {v : Option Nat} (h : w_t S) (hL : c = 0 → (k = 0 ∨ k = 1 ∨ k = 3) ∧ t_o S 0 v ∨ k = 2 ∧ t_o S 1 v) (hP : c = 1 → k = 8 ∧ t_o S 0 v) (hR : c = 2 → k = 8 ∧ t_n S 0 v ∨ k = 10 ∧ t_o S 0 v) : w_t (p_r S c k a v) := by
  refine ⟨fun b hb => ?_, h.2.1, h.2.2.1, fun b hb => ?_, h.2.2.2.2.1, fun b hb => ?_⟩
  · obtain ⟨a1, a2, a3, a4, a5, a6, a7, a8, a9⟩ := h.1 b hb
    have e : ∀ k', k' ≠ k → g_r (p_r S c k a v) 0 k' b = g_r S 0 k' b := fun k' hk => by rw [x_g_r_p_r, if_neg (fun z => hk z.2.1)]
    by_cases hc : c = 0
    · subst hc
      have hh : ∀ k', g_r (p_r S 0 k a v) 0 k' b = v ∧ k' = k ∨ g_r (p_r S 0 k a v) 0 k' b = g_r S 0 k' b := fun k' => by
        rw [x_g_r_p_r]
        split
        · rename_i z
          exact Or.inl ⟨rfl, z.2.1⟩
        · exact Or.inr rfl
      rcases hL rfl with ⟨hk, hv⟩ | ⟨hk, hv⟩
      · refine ⟨?_, ?_, ?_, ?_, ?_, ?_, ?_, ?_, a9⟩
        · rcases hh 0 with ⟨q, -⟩ | q <;> rw [q] <;> assumption
        · rcases hh 1 with ⟨q, -⟩ | q <;> rw [q] <;> assumption
        · rw [e 2 (by omega)]; exact a3
        · rcases hh 3 with ⟨q, -⟩ | q <;> rw [q] <;> assumption
        · rw [e 5 (by omega)]; exact a5
        · rw [e 6 (by omega)]; exact a6
        · rw [e 7 (by omega)]; exact a7
        · rw [e 8 (by omega)]; exact a8
      · subst hk
        refine ⟨?_, ?_, ?_, ?_, ?_, ?_, ?_, ?_, a9⟩
        · rw [e 0 (by omega)]; exact a1
        · rw [e 1 (by omega)]; exact a2
        · rcases hh 2 with ⟨q, -⟩ | q <;> rw [q] <;> assumption
        · rw [e 3 (by omega)]; exact a4
        · rw [e 5 (by omega)]; exact a5
        · rw [e 6 (by omega)]; exact a6
        · rw [e 7 (by omega)]; exact a7
        · rw [e 8 (by omega)]; exact a8
    · have e : ∀ k', g_r (p_r S c k a v) 0 k' b = g_r S 0 k' b := fun k' => by rw [x_g_r_p_r, if_neg (fun z => hc z.1.symm)]
      rw [e, e, e, e, e, e, e, e]
      exact ⟨a1, a2, a3, a4, a5, a6, a7, a8, a9⟩
  · obtain ⟨a1, a2, a3, a4, a5, k0, a6, a7, a8, a9⟩ := h.2.2.2.1 b hb
    have e : ∀ k', k' ≠ 8 → g_r (p_r S c k a v) 1 k' b = g_r S 1 k' b := fun k' hk => by
      rw [x_g_r_p_r, if_neg (fun z => hk (z.2.1.trans (hP z.1.symm).1))]
    refine ⟨?_, ?_, ?_, ?_, a5, k0, a6, a7, a8, fun q hq => ?_⟩
    · rw [e 0 (by omega)]; exact a1
    · rw [e 4 (by omega)]; exact a2
    · rw [e 5 (by omega)]; exact a3
    · rw [x_g_r_p_r]
      split
      · rename_i z
        exact (hP z.1.symm).2
      · exact a4
    · rw [e 0 (by omega)] at hq
      exact a9 q hq
  · obtain ⟨a1, a2, a3, a4, a5, a6, a7, a8, a9⟩ := h.2.2.2.2.2 b hb
    have e : ∀ k', k' ≠ 8 → k' ≠ 10 → g_r (p_r S c k a v) 2 k' b = g_r S 2 k' b := fun k' h1 h2 => by
      rw [x_g_r_p_r, if_neg]
      intro z
      rcases hR z.1.symm with ⟨q, -⟩ | ⟨q, -⟩
      · exact h1 (z.2.1.trans q)
      · exact h2 (z.2.1.trans q)
    refine ⟨?_, ?_, ?_, ?_, ?_, ?_, ?_, a8, a9⟩
    · rw [e 1 (by omega) (by omega)]; exact a1
    · rw [e 3 (by omega) (by omega)]; exact a2
    · rw [e 4 (by omega) (by omega)]; exact a3
    · rw [e 6 (by omega) (by omega)]; exact a4
    · rw [e 7 (by omega) (by omega)]; exact a5
    · rw [x_g_r_p_r]
      split
      · rename_i z
        rcases hR z.1.symm with ⟨q, hv⟩ | ⟨q, -⟩
        · exact hv
        · exact absurd (z.2.1.trans q) (by decide)
      · exact a6
    · rw [x_g_r_p_r]
      split
      · rename_i z
        rcases hR z.1.symm with ⟨q, -⟩ | ⟨q, hv⟩
        · exact absurd (z.2.1.trans q) (by decide)
        · exact hv
      · exact a7
theorem wt_share {S : gs_S} {a j h q : Nat} {b : Int32} (hw : w_t S) (hh : g_sh S h = some (.inl 0)) (hq : q < 216) : w_t (f_share S a j (some h) (nI q) b) := by
  unfold f_share
  refine wt_pai (wt_pai (wt_par hw (fun _ c z => ?_) (fun z => absurd z (by decide)) (fun z => absurd z (by decide))) (fun _ => ⟨q, hq, rfl⟩)) (fun z => absurd z (by decide))
  cases z
  exact hh
theorem wt_copy {S : gs_S} {a j : Nat} (hw : w_t S) (ha : g_sh S a = some (.inl 0)) (hj : j < 16) : w_t (f_copy S a j) := by
  unfold f_copy
  split
  · exact hw
  · refine wt_pai (wt_par (wt_pal hw) (fun _ c z => ?_) (fun z => absurd z (by decide)) (fun z => absurd z (by decide))) (fun _ => ⟨j, by omega, rfl⟩)
    cases z
    exact ha
end
section
/-! R.directlyWithin -/
def f_dw (S : gs_S) (pa : Nat) (o : Option Nat) (nm : Int32) : Nat → Nat → Option Nat
  | 0, _ => none
  | k + 1, i => match g_ar S 0 pa i with
    | none => f_dw S pa o nm k (i + 1)
    | some c => if g_r S 1 0 c = o then (if g_i S 1 2 c = nm then some c else f_dw S pa o nm k (i + 1)) else f_dw S pa o nm k (i + 1)
def f_dwR (S : gs_S) (x : Nat) (o : Option Nat) (nm : Int32) : Option Nat := f_dw S (v_a (g_r S 2 1 x)) o nm (g_i S 2 2 x).toNatClampNeg 1

set_option maxHeartbeats 4000000 in
set_option maxRecDepth 100000 in
theorem lp_dw (l : Launch) (G : gs_G) (S : gs_S) (x pa n : Nat) (o : Option Nat) (nm : Int32) (hWT : w_t S) (hX : g_sh S x = some (.inl 2)) (hn : n ≤ 60) (en : g_i S 2 2 x = nI n) (epa : g_r S 2 1 x = some pa) (spa : g_sh S pa = some (.inr (0, 61))) {p : Program} {e : Env} {s : State} {m : MethodId} {below : List Frame} {meth : Method} {c : Code} (hC : CallFix p m c cR_directlyWithin 5 s #[va_rf (some x), va_rf o, Value.int nm] gU yR_directlyWithin.cls) (hr : meth.sig.returnType = some (.object "CallRows$Program")) (hlocks : meth.locks = false) (hW : g_W G (g_A S s.heap.size) s S s.heap []) :
    ∀ (k : Nat) (i : Nat), i + k = n + 1 → 1 ≤ i → f_dw S pa o nm n 1 = f_dw S pa o nm k i → ∀ (ls : Array Slot), lv_has ls 5 [(3, .int (nI i)), (0, va_rf (some x)), (1, va_rf o), (2, .int nm)] → W p l e { frames := 0, cells := 0, slots := 0, locals := 0 } s m #[va_rf (some x), va_rf o, Value.int nm] below meth c s.heap [] 0 0 (MQ below (g_Qq G S s.heap.size (fun r S' => S' = S ∧ r = f_dw S pa o nm n 1)) #[va_rf (some x), va_rf o, Value.int nm] s 0 0 (g_A S s.heap.size)) (F0 m 2 ls []) := by
  obtain ⟨hx, hb, hml, hown, hts⟩ := id hC
  intro k
  induction k with
  | zero =>
    intro i  hi hi1 hf ls hl
    refine lv_iload_n hx hb dR_directlyWithin_2 rfl (lv_at hl 0 rfl) ?_
    refine s_aload_n (x := some x) hx hb dR_directlyWithin_3 rfl (lv_at hl 1 rfl) ?_
    refine s_geti hC hW gc_R iw_R 2 (by decide) uw_74 rfl hX (v := nI n) en dR_directlyWithin_4 ?_
    refine lv_icmp_gt (tgt := 50) hx hb dR_directlyWithin_7 (by decide) (fun c_7 => ?_) (fun c => absurd ((nI_ltI (by omega) (by omega)).mpr (by omega)) c)
    refine s_null hx hb dR_directlyWithin_50 ?_
    exact s_aret (v := none) hC hr hlocks hW dR_directlyWithin_51 ⟨rfl, by rw [hf]; rfl⟩
  | succ k ih =>
    intro i  hi hi1 hf ls hl
    refine lv_iload_n hx hb dR_directlyWithin_2 rfl (lv_at hl 0 rfl) ?_
    refine s_aload_n (x := some x) hx hb dR_directlyWithin_3 rfl (lv_at hl 1 rfl) ?_
    refine s_geti hC hW gc_R iw_R 2 (by decide) uw_74 rfl hX (v := nI n) en dR_directlyWithin_4 ?_
    refine lv_icmp_gt (tgt := 50) hx hb dR_directlyWithin_7 (by decide) (fun c => absurd ((nI_ltI (by omega) (by omega)).mp c) (by omega)) (fun c_7 => ?_)
    refine s_aload_n (x := some x) hx hb dR_directlyWithin_10 rfl (lv_at hl 1 rfl) ?_
    refine s_getr hC hW gc_R iw_R 1 (by decide) uw_73 rfl hX (v := some pa) epa dR_directlyWithin_11 ?_
    refine lv_iload_n hx hb dR_directlyWithin_14 rfl (lv_at hl 0 rfl) ?_
    obtain ⟨r15, er15⟩ : ∃ r : Option Nat, g_ar S 0 pa i = r := ⟨_, rfl⟩
    refine k_aald hC hW spa rfl rfl (by decide) i rfl (by omega) (v := r15) er15 dR_directlyWithin_15 ?_
    refine s_astore (x := r15) (lv' := [(4, va_rf r15), (3, .int (nI i)), (0, va_rf (some x)), (1, va_rf o), (2, .int nm)]) hx hb dR_directlyWithin_16 hl (by decide) rfl (fun ls hl => ?_)
    refine s_aload (x := r15) hx hb dR_directlyWithin_18 (lv_at hl 0 rfl) ?_
    refine s_ifnull (x := r15) (tgt := 44) hx hb dR_directlyWithin_20 (by decide) (fun c_20 => ?_) (fun b_20 c_20 => ?_)
    · skip
      subst c_20
      refine lv_iinc (v := nI (i + 1)) (lv' := [(3, .int (nI (i + 1))), (4, va_rf none), (0, va_rf (some x)), (1, va_rf o), (2, .int nm)]) hx hb dR_directlyWithin_44 hl (k := 1) rfl (nI_1 _) (by decide) rfl (fun ls hl => ?_)
      refine lv_goto (tgt := 2) hx hb dR_directlyWithin_47 (by decide) ?_
      exact ih (i + 1) (by omega) (by omega) (by rw [hf, f_dw, er15]) ls (lv_sub hl [0, 2, 3, 4] rfl)
    · skip
      subst c_20
      have sb_20 := hWT.2.2.2.2.1.1 _ spa _ (by omega) _ er15
      refine s_aload (x := some b_20) hx hb dR_directlyWithin_23 (lv_at hl 0 rfl) ?_
      obtain ⟨r25, er25⟩ : ∃ r : Option Nat, g_r S 1 0 b_20 = r := ⟨_, rfl⟩
      refine s_getr hC hW gc_P iw_P 0 (by decide) uw_130 rfl sb_20 (v := r25) er25 dR_directlyWithin_25 ?_
      refine s_aload_n (x := o) hx hb dR_directlyWithin_28 rfl (lv_at hl 3 rfl) ?_
      refine lv_acmp_ne (rx := r25) (ry := o) (tgt := 44) hx hb dR_directlyWithin_29 (by decide) (fun c_29 => ?_) (fun c_29 => ?_)
      · skip
        refine lv_iinc (v := nI (i + 1)) (lv' := [(3, .int (nI (i + 1))), (4, va_rf (some b_20)), (0, va_rf (some x)), (1, va_rf o), (2, .int nm)]) hx hb dR_directlyWithin_44 hl (k := 1) rfl (nI_1 _) (by decide) rfl (fun ls hl => ?_)
        refine lv_goto (tgt := 2) hx hb dR_directlyWithin_47 (by decide) ?_
        exact ih (i + 1) (by omega) (by omega) (by rw [hf, f_dw, er15]; simp only []; rw [er25, if_neg c_29]) ls (lv_sub hl [0, 2, 3, 4] rfl)
      · skip
        refine s_aload (x := some b_20) hx hb dR_directlyWithin_32 (lv_at hl 0 rfl) ?_
        refine s_geti hC hW gc_P iw_P 2 (by decide) uw_134 rfl sb_20 rfl dR_directlyWithin_34 ?_
        refine lv_iload_n hx hb dR_directlyWithin_37 rfl (lv_at hl 4 rfl) ?_
        refine lv_icmp_ne (tgt := 44) hx hb dR_directlyWithin_38 (by decide) (fun c_38 => ?_) (fun c_38 => ?_)
        · skip
          refine lv_iinc (v := nI (i + 1)) (lv' := [(3, .int (nI (i + 1))), (4, va_rf (some b_20)), (0, va_rf (some x)), (1, va_rf o), (2, .int nm)]) hx hb dR_directlyWithin_44 hl (k := 1) rfl (nI_1 _) (by decide) rfl (fun ls hl => ?_)
          refine lv_goto (tgt := 2) hx hb dR_directlyWithin_47 (by decide) ?_
          exact ih (i + 1) (by omega) (by omega) (by rw [hf, f_dw, er15]; simp only []; rw [er25, if_pos c_29, if_neg c_38]) ls (lv_sub hl [0, 2, 3, 4] rfl)
        · skip
          refine s_aload (x := some b_20) hx hb dR_directlyWithin_41 (lv_at hl 0 rfl) ?_
          exact s_aret (v := some b_20) hC hr hlocks hW dR_directlyWithin_43 ⟨rfl, by rw [hf, f_dw, er15]; simp only []; rw [er25, if_pos c_29, if_pos c_38]⟩

set_option maxHeartbeats 4000000 in
set_option maxRecDepth 100000 in
theorem c_R_directlyWithin (l : Launch) (G : gs_G) (S : gs_S) (sz : Nat) (x : Nat) (o : Option Nat) (nm : Int32) (hWT : w_t S) (hX : g_sh S x = some (.inl 2)) : Met l yR_directlyWithin (kR_directlyWithin :: gU) { frames := 0, cells := 0, slots := 0, locals := 0 } (g_Pc G S sz [va_rf (some x), va_rf o, .int nm]) (g_Qq G S sz (fun r S' => S' = S ∧ r = f_dwR S x o nm)) 0 0 (g_A S sz) := by
  refine s_head (by decide) (by simp [lg_sl, s_cat, s_catI, s_catL]) ?_
  intro p e s m below meth c ls hsz hC hr hlocks hnm hl hW
  subst hsz
  obtain ⟨hx, hb, hml, hown, hts⟩ := id hC
  have hl : lv_has ls 5 [(0, va_rf (some x)), (1, va_rf o), (2, .int nm)] := by simpa [lv_args, s_cat, s_catI, s_catL] using hl
  refine lv_iconst (v := 1) hx hb dR_directlyWithin_0 (by decide) ?_
  refine lv_istore_n (lv' := [(3, .int 1), (0, va_rf (some x)), (1, va_rf o), (2, .int nm)]) hx hb dR_directlyWithin_1 rfl hl (by decide) rfl (fun ls hl => ?_)
  obtain ⟨n, hn, en⟩ := w_programCount hWT hX
  obtain ⟨pa, epa, spa⟩ := w_programs hWT hX
  have hq : ∀ r S1, (S1 = S ∧ r = f_dw S pa o nm n 1) → (S1 = S ∧ r = f_dwR S x o nm) := fun r S1 h => ⟨h.1, by rw [h.2, f_dwR, epa, en, nI_clamp (by omega)]; rfl⟩
  have e1 : (fun (r : Option Nat) (S1 : gs_S) => S1 = S ∧ r = f_dwR S x o nm) = (fun r S1 => S1 = S ∧ r = f_dw S pa o nm n 1) := by funext r S1; rw [f_dwR, epa, en, nI_clamp (by omega)]; rfl
  rw [e1]
  exact lp_dw l G S x pa n o nm hWT hX hn en epa spa hC hr hlocks hW n 1 (by omega) (by omega) rfl ls hl

theorem t_dw0 {S : gs_S} {pa : Nat} {o : Option Nat} {nm : Int32} (hWT : w_t S) (spa : g_sh S pa = some (.inr (0, 61))) : ∀ (k i : Nat), i + k ≤ 61 → t_o S 1 (f_dw S pa o nm k i) := by
  intro k
  induction k with
  | zero => intro i _ b hb; cases hb
  | succ k ih =>
    intro i hi b hb
    rw [f_dw] at hb
    split at hb
    · exact ih (i + 1) (by omega) b hb
    · rename_i c hc
      split at hb
      · split at hb
        · cases hb
          exact hWT.2.2.2.2.1.1 pa spa i (by omega) _ hc
        · exact ih (i + 1) (by omega) b hb
      · exact ih (i + 1) (by omega) b hb
theorem t_dw {S : gs_S} {x : Nat} {o : Option Nat} {nm : Int32} (hWT : w_t S) (hX : g_sh S x = some (.inl 2)) : t_o S 1 (f_dwR S x o nm) := by
  obtain ⟨n, hn, en⟩ := w_programCount hWT hX
  obtain ⟨pa, epa, spa⟩ := w_programs hWT hX
  unfold f_dwR
  rw [epa, en, nI_clamp (by omega)]
  exact t_dw0 hWT spa n 1 (by omega)
theorem t_pOf {S : gs_S} {x : Nat} {i : Int32} (hWT : w_t S) (hX : g_sh S x = some (.inl 2)) : t_o S 1 (f_pOf S x i) := by
  obtain ⟨n, hn, en⟩ := w_programCount hWT hX
  obtain ⟨pa, epa, spa⟩ := w_programs hWT hX
  unfold f_pOf
  split
  · intro b hb; cases hb
  · split
    · intro b hb; cases hb
    · rename_i c1 c2
      obtain ⟨j, hj, ej⟩ := x_pOf hn en c1 c2
      rw [epa, ej, nI_clamp (by omega)]
      exact hWT.2.2.2.2.1.1 pa spa j (by omega)

/-! R.recursiveAround -/
def f_ra (S : gs_S) (nm : Int32) : Nat → Option Nat → Option Nat
  | _, none => none
  | 0, some _ => none
  | k + 1, some a => if f_has S a 4 = 0 then f_ra S nm k (g_r S 1 0 a) else if g_i S 1 2 a = nm then some a else f_ra S nm k (g_r S 1 0 a)
theorem f_ra_n (S : gs_S) (nm : Int32) (k : Nat) : f_ra S nm k none = none := by cases k <;> rfl
theorem t_ra {S : gs_S} {nm : Int32} (hWT : w_t S) : ∀ (k : Nat) (r : Option Nat), t_o S 1 r → t_o S 1 (f_ra S nm k r) := by
  intro k
  induction k with
  | zero => intro r _ b hb; cases r <;> cases hb
  | succ k ih =>
    intro r hr b hb
    cases r with
    | none => cases hb
    | some a =>
      have ha := hr a rfl
      rw [f_ra] at hb
      split at hb
      · exact ih _ (w_outer hWT ha) b hb
      · split at hb
        · cases hb; exact ha
        · exact ih _ (w_outer hWT ha) b hb

set_option maxHeartbeats 4000000 in
set_option maxRecDepth 100000 in
theorem lp_ra (l : Launch) (G : gs_G) (S : gs_S) (a : Nat) (nm : Int32) (hWT : w_t S) (ha : g_sh S a = some (.inl 1)) {p : Program} {e : Env} {s : State} {m : MethodId} {below : List Frame} {meth : Method} {c : Code} (hC : CallFix p m c cR_recursiveAround 3 s #[va_rf (some a), Value.int nm] gU yR_recursiveAround.cls) (hr : meth.sig.returnType = some (.object "CallRows$Program")) (hlocks : meth.locks = false) :
    ∀ (k : Nat) (r : Option Nat), t_o S 1 r → (∀ b : Nat, r = some b → ∃ n : Nat, n < k ∧ g_i S 1 1 b = nI n) → k ≤ 61 → f_ra S nm 61 (some a) = f_ra S nm k r → ∀ (ls : Array Slot), lv_has ls 3 [(2, va_rf r), (0, va_rf (some a)), (1, .int nm)] → ∀ (H : Heap) (locs : List Loc), g_W G (g_A S s.heap.size) s S H locs → W p l e { frames := 1, cells := 0, slots := 0, locals := 21 } s m #[va_rf (some a), Value.int nm] below meth c H locs 0 0 (MQ below (g_Qq G S s.heap.size (fun r S' => S' = S ∧ r = f_ra S nm 61 (some a))) #[va_rf (some a), Value.int nm] s 0 0 (g_A S s.heap.size)) (F0 m 2 ls []) := by
  obtain ⟨hx, hb, hml, hown, hts⟩ := id hC
  intro k
  induction k with
  | zero =>
    intro r  ht hk hk61 hf ls hl H locs hW
    refine s_aload_n (x := r) hx hb dR_recursiveAround_2 rfl (lv_at hl 0 rfl) ?_
    refine s_ifnull (x := r) (tgt := 32) hx hb dR_recursiveAround_3 (by decide) (fun c_3 => ?_) (fun b q => absurd (hk b q) (fun z => by obtain ⟨_, z, _⟩ := z; omega))
    subst c_3
    refine s_null hx hb dR_recursiveAround_32 ?_
    exact s_aret (v := none) hC hr hlocks hW dR_recursiveAround_33 ⟨rfl, by rw [hf, f_ra_n]⟩
  | succ k ih =>
    intro r  ht hk hk61 hf ls hl H locs hW
    refine s_aload_n (x := r) hx hb dR_recursiveAround_2 rfl (lv_at hl 0 rfl) ?_
    refine s_ifnull (x := r) (tgt := 32) hx hb dR_recursiveAround_3 (by decide) (fun c_3 => ?_) (fun b_3 c_3 => ?_)
    · skip
      subst c_3
      refine s_null hx hb dR_recursiveAround_32 ?_
      exact s_aret (v := none) hC hr hlocks hW dR_recursiveAround_33 ⟨rfl, by rw [hf, f_ra_n]⟩
    · skip
      subst c_3
      have sb_3 := ht _ rfl
      refine s_aload_n (x := some b_3) hx hb dR_recursiveAround_6 rfl (lv_at hl 0 rfl) ?_
      refine lv_iconst (v := 4) hx hb dR_recursiveAround_7 (by decide) ?_
      refine s_calli hW (s_runV (n := 1) (As := [.int 4]) (rest := []) hC (c_P_has l G S H.size b_3 4 sb_3) uc_P_has uw_192 uw_193 uw_194 uw_5 rfl rfl (by decide +kernel) ⟨by decide, by decide⟩ (g_preV hW gc_P sb_3 [.int 4]) rfl hl.1 rfl (Nat.le_of_ble_eq_true rfl) dR_recursiveAround_8 ⟨Nat.le_of_ble_eq_true rfl, Nat.le_of_ble_eq_true rfl⟩) (fun q8 S8 H locs hp8 hW => ?_)
      obtain ⟨hs8, rfl⟩ := hp8
      replace hs8 := hs8.symm
      subst hs8
      refine lv_if_eq (tgt := 24) hx hb dR_recursiveAround_11 (by decide) (fun c_11 => ?_) (fun c_11 => ?_)
      · skip
        refine s_aload_n (x := some b_3) hx hb dR_recursiveAround_24 rfl (lv_at hl 0 rfl) ?_
        obtain ⟨r25, er25⟩ : ∃ r : Option Nat, g_r S 1 0 b_3 = r := ⟨_, rfl⟩
        refine s_getr hC hW gc_P iw_P 0 (by decide) uw_130 rfl sb_3 (v := r25) er25 dR_recursiveAround_25 ?_
        refine s_astore_n (x := r25) (lv' := [(2, va_rf r25), (0, va_rf (some a)), (1, .int nm)]) hx hb dR_recursiveAround_28 rfl hl (by decide) rfl (fun ls hl => ?_)
        refine lv_goto (tgt := 2) hx hb dR_recursiveAround_29 (by decide) ?_
        exact ih r25 (fun b q => w_outer hWT sb_3 b (er25.trans q)) (x_li hk61 hWT sb_3 er25 hk) (by omega) (by rw [hf, ← er25, f_ra, if_pos c_11]) ls hl H locs hW
      · skip
        refine s_aload_n (x := some b_3) hx hb dR_recursiveAround_14 rfl (lv_at hl 0 rfl) ?_
        refine s_geti hC hW gc_P iw_P 2 (by decide) uw_134 rfl sb_3 rfl dR_recursiveAround_15 ?_
        refine lv_iload_n hx hb dR_recursiveAround_18 rfl (lv_at hl 2 rfl) ?_
        refine lv_icmp_ne (tgt := 24) hx hb dR_recursiveAround_19 (by decide) (fun c_19 => ?_) (fun c_19 => ?_)
        · skip
          refine s_aload_n (x := some b_3) hx hb dR_recursiveAround_24 rfl (lv_at hl 0 rfl) ?_
          obtain ⟨r25, er25⟩ : ∃ r : Option Nat, g_r S 1 0 b_3 = r := ⟨_, rfl⟩
          refine s_getr hC hW gc_P iw_P 0 (by decide) uw_130 rfl sb_3 (v := r25) er25 dR_recursiveAround_25 ?_
          refine s_astore_n (x := r25) (lv' := [(2, va_rf r25), (0, va_rf (some a)), (1, .int nm)]) hx hb dR_recursiveAround_28 rfl hl (by decide) rfl (fun ls hl => ?_)
          refine lv_goto (tgt := 2) hx hb dR_recursiveAround_29 (by decide) ?_
          exact ih r25 (fun b q => w_outer hWT sb_3 b (er25.trans q)) (x_li hk61 hWT sb_3 er25 hk) (by omega) (by rw [hf, ← er25, f_ra, if_neg c_11, if_neg c_19]) ls hl H locs hW
        · skip
          refine s_aload_n (x := some b_3) hx hb dR_recursiveAround_22 rfl (lv_at hl 0 rfl) ?_
          exact s_aret (v := some b_3) hC hr hlocks hW dR_recursiveAround_23 ⟨rfl, by rw [hf, f_ra, if_neg c_11, if_pos c_19]⟩

set_option maxHeartbeats 4000000 in
set_option maxRecDepth 100000 in
theorem c_R_recursiveAround (l : Launch) (G : gs_G) (S : gs_S) (sz : Nat) (a : Nat) (nm : Int32) (hWT : w_t S) (ha : g_sh S a = some (.inl 1)) : Met l yR_recursiveAround (kR_recursiveAround :: gU) { frames := 1, cells := 0, slots := 0, locals := 21 } (g_Pc G S sz [va_rf (some a), .int nm]) (g_Qq G S sz (fun r S' => S' = S ∧ r = f_ra S nm 61 (some a))) 0 0 (g_A S sz) := by
  refine s_head (by decide) (Nat.le_of_ble_eq_true rfl) ?_
  intro p e s m below meth c ls hsz hC hr hlocks hnm hl hW
  subst hsz
  obtain ⟨hx, hb, hml, hown, hts⟩ := id hC
  have hl : lv_has ls 3 [(0, va_rf (some a)), (1, .int nm)] := hl
  refine s_aload_n (x := some a) hx hb dR_recursiveAround_0 rfl (lv_at hl 0 rfl) ?_
  refine s_astore_n (x := some a) (lv' := [(2, va_rf (some a)), (0, va_rf (some a)), (1, .int nm)]) hx hb dR_recursiveAround_1 rfl hl (by decide) rfl (fun ls hl => ?_)
  exact lp_ra l G S a nm hWT ha hC hr hlocks 61 (some a) (fun b q => by cases q; exact ha) (x_li0 hWT ha) (Nat.le_refl _) rfl ls hl _ _ hW

/-! R.commonAround -/
def f_ca (S : gs_S) (x a : Nat) (nm : Int32) : Nat → Option Nat → Option Nat
  | _, none => none
  | 0, some _ => none
  | k + 1, some b => match f_dwR S x (some b) nm with
    | none => f_ca S x a nm k (g_r S 1 0 b)
    | some c => if f_has S c 2 = 0 then f_ca S x a nm k (g_r S 1 0 b) else if f_li S 61 (some a) (some c) = 0 then some c else f_ca S x a nm k (g_r S 1 0 b)
theorem f_ca_n (S : gs_S) (x a : Nat) (nm : Int32) (k : Nat) : f_ca S x a nm k none = none := by cases k <;> rfl
theorem t_ca {S : gs_S} {x a : Nat} {nm : Int32} (hWT : w_t S) (hX : g_sh S x = some (.inl 2)) : ∀ (k : Nat) (r : Option Nat), t_o S 1 r → t_o S 1 (f_ca S x a nm k r) := by
  intro k
  induction k with
  | zero => intro r _ b hb; cases r <;> cases hb
  | succ k ih =>
    intro r hr b hb
    cases r with
    | none => cases hb
    | some d =>
      have hd := hr d rfl
      rw [f_ca] at hb
      split at hb
      · exact ih _ (w_outer hWT hd) b hb
      · rename_i c hc
        split at hb
        · exact ih _ (w_outer hWT hd) b hb
        · split at hb
          · cases hb; exact t_dw hWT hX _ hc
          · exact ih _ (w_outer hWT hd) b hb

set_option maxHeartbeats 4000000 in
set_option maxRecDepth 100000 in
theorem lp_ca (l : Launch) (G : gs_G) (S : gs_S) (x a : Nat) (nm : Int32) (hWT : w_t S) (hX : g_sh S x = some (.inl 2)) (ha : g_sh S a = some (.inl 1)) {p : Program} {e : Env} {s : State} {m : MethodId} {below : List Frame} {meth : Method} {c : Code} (hC : CallFix p m c cR_commonAround 5 s #[va_rf (some x), va_rf (some a), Value.int nm] gU yR_commonAround.cls) (hr : meth.sig.returnType = some (.object "CallRows$Program")) (hlocks : meth.locks = false) :
    ∀ (k : Nat) (r : Option Nat), t_o S 1 r → (∀ b : Nat, r = some b → ∃ n : Nat, n < k ∧ g_i S 1 1 b = nI n) → k ≤ 61 → f_ca S x a nm 61 (g_r S 1 0 a) = f_ca S x a nm k r → ∀ (ls : Array Slot), lv_has ls 5 [(3, va_rf r), (0, va_rf (some x)), (1, va_rf (some a)), (2, .int nm)] → ∀ (H : Heap) (locs : List Loc), g_W G (g_A S s.heap.size) s S H locs → W p l e { frames := 1, cells := 0, slots := 0, locals := 24 } s m #[va_rf (some x), va_rf (some a), Value.int nm] below meth c H locs 0 0 (MQ below (g_Qq G S s.heap.size (fun r S' => S' = S ∧ r = f_ca S x a nm 61 (g_r S 1 0 a))) #[va_rf (some x), va_rf (some a), Value.int nm] s 0 0 (g_A S s.heap.size)) (F0 m 5 ls []) := by
  obtain ⟨hx, hb, hml, hown, hts⟩ := id hC
  intro k
  induction k with
  | zero =>
    intro r  ht hk hk61 hf ls hl H locs hW
    refine s_aload_n (x := r) hx hb dR_commonAround_5 rfl (lv_at hl 0 rfl) ?_
    refine s_ifnull (x := r) (tgt := 51) hx hb dR_commonAround_6 (by decide) (fun c_6 => ?_) (fun b q => absurd (hk b q) (fun z => by obtain ⟨_, z, _⟩ := z; omega))
    subst c_6
    refine s_null hx hb dR_commonAround_51 ?_
    exact s_aret (v := none) hC hr hlocks hW dR_commonAround_52 ⟨rfl, by rw [hf, f_ca_n]⟩
  | succ k ih =>
    intro r  ht hk hk61 hf ls hl H locs hW
    refine s_aload_n (x := r) hx hb dR_commonAround_5 rfl (lv_at hl 0 rfl) ?_
    refine s_ifnull (x := r) (tgt := 51) hx hb dR_commonAround_6 (by decide) (fun c_6 => ?_) (fun b_6 c_6 => ?_)
    · skip
      subst c_6
      refine s_null hx hb dR_commonAround_51 ?_
      exact s_aret (v := none) hC hr hlocks hW dR_commonAround_52 ⟨rfl, by rw [hf, f_ca_n]⟩
    · skip
      subst c_6
      have sb_6 := ht _ rfl
      refine s_aload_n (x := some x) hx hb dR_commonAround_9 rfl (lv_at hl 1 rfl) ?_
      refine s_aload_n (x := some b_6) hx hb dR_commonAround_10 rfl (lv_at hl 0 rfl) ?_
      refine lv_iload_n hx hb dR_commonAround_11 rfl (lv_at hl 3 rfl) ?_
      refine s_callq hW (s_runV (n := 2) (As := [va_rf (some b_6), .int nm]) (rest := []) hC (c_R_directlyWithin l G S H.size x (some b_6) nm hWT hX) uc_R_directlyWithin uw_120 uw_122 us_R_directlyWithin uw_1 rfl rfl (by decide +kernel) ⟨by decide, by decide⟩ (g_preV hW gc_R hX [va_rf (some b_6), .int nm]) rfl hl.1 rfl (Nat.le_of_ble_eq_true rfl) dR_commonAround_12 ⟨Nat.le_of_ble_eq_true rfl, Nat.le_of_ble_eq_true rfl⟩) (fun rq12 S12 H locs hp12 hW => ?_)
      obtain ⟨hs12, erq12⟩ := hp12
      replace hs12 := hs12.symm
      subst hs12
      refine s_astore (x := rq12) (lv' := [(4, va_rf rq12), (3, va_rf (some b_6)), (0, va_rf (some x)), (1, va_rf (some a)), (2, .int nm)]) hx hb dR_commonAround_15 hl (by decide) rfl (fun ls hl => ?_)
      refine s_aload (x := rq12) hx hb dR_commonAround_17 (lv_at hl 0 rfl) ?_
      refine s_ifnull (x := rq12) (tgt := 43) hx hb dR_commonAround_19 (by decide) (fun c_19 => ?_) (fun b_19 c_19 => ?_)
      · skip
        subst c_19
        refine s_aload_n (x := some b_6) hx hb dR_commonAround_43 rfl (lv_at hl 1 rfl) ?_
        obtain ⟨r44, er44⟩ : ∃ r : Option Nat, g_r S 1 0 b_6 = r := ⟨_, rfl⟩
        refine s_getr hC hW gc_P iw_P 0 (by decide) uw_130 rfl sb_6 (v := r44) er44 dR_commonAround_44 ?_
        refine s_astore_n (x := r44) (lv' := [(3, va_rf r44), (4, va_rf none), (0, va_rf (some x)), (1, va_rf (some a)), (2, .int nm)]) hx hb dR_commonAround_47 rfl hl (by decide) rfl (fun ls hl => ?_)
        refine lv_goto (tgt := 5) hx hb dR_commonAround_48 (by decide) ?_
        exact ih r44 (fun b q => w_outer hWT sb_6 b (er44.trans q)) (x_li hk61 hWT sb_6 er44 hk) (by omega) (by rw [hf, ← er44, f_ca, ← erq12]) ls (lv_sub hl [0, 2, 3, 4] rfl) H locs hW
      · skip
        subst c_19
        have sb_19 := t_dw hWT hX _ erq12.symm
        refine s_aload (x := some b_19) hx hb dR_commonAround_22 (lv_at hl 0 rfl) ?_
        refine lv_iconst (v := 2) hx hb dR_commonAround_24 (by decide) ?_
        refine s_calli hW (s_runV (n := 1) (As := [.int 2]) (rest := []) hC (c_P_has l G S H.size b_19 2 sb_19) uc_P_has uw_192 uw_193 uw_194 uw_5 rfl rfl (by decide +kernel) ⟨by decide, by decide⟩ (g_preV hW gc_P sb_19 [.int 2]) rfl hl.1 rfl (Nat.le_of_ble_eq_true rfl) dR_commonAround_25 ⟨Nat.le_of_ble_eq_true rfl, Nat.le_of_ble_eq_true rfl⟩) (fun q25 S25 H locs hp25 hW => ?_)
        obtain ⟨hs25, rfl⟩ := hp25
        replace hs25 := hs25.symm
        subst hs25
        refine lv_if_eq (tgt := 43) hx hb dR_commonAround_28 (by decide) (fun c_28 => ?_) (fun c_28 => ?_)
        · skip
          refine s_aload_n (x := some b_6) hx hb dR_commonAround_43 rfl (lv_at hl 1 rfl) ?_
          obtain ⟨r44, er44⟩ : ∃ r : Option Nat, g_r S 1 0 b_6 = r := ⟨_, rfl⟩
          refine s_getr hC hW gc_P iw_P 0 (by decide) uw_130 rfl sb_6 (v := r44) er44 dR_commonAround_44 ?_
          refine s_astore_n (x := r44) (lv' := [(3, va_rf r44), (4, va_rf (some b_19)), (0, va_rf (some x)), (1, va_rf (some a)), (2, .int nm)]) hx hb dR_commonAround_47 rfl hl (by decide) rfl (fun ls hl => ?_)
          refine lv_goto (tgt := 5) hx hb dR_commonAround_48 (by decide) ?_
          exact ih r44 (fun b q => w_outer hWT sb_6 b (er44.trans q)) (x_li hk61 hWT sb_6 er44 hk) (by omega) (by rw [hf, ← er44, f_ca, ← erq12]; simp only []; rw [if_pos c_28]) ls (lv_sub hl [0, 2, 3, 4] rfl) H locs hW
        · skip
          refine s_aload_n (x := some a) hx hb dR_commonAround_31 rfl (lv_at hl 3 rfl) ?_
          refine s_aload (x := some b_19) hx hb dR_commonAround_32 (lv_at hl 0 rfl) ?_
          refine s_calli hW (s_runV (n := 1) (As := [va_rf (some b_19)]) (rest := []) hC (c_P_isOrLiesIn l G S H.size a (some b_19) hWT ha) uc_P_isOrLiesIn uw_200 uw_201 uw_202 uw_5 rfl rfl (by decide +kernel) ⟨by decide, by decide⟩ (g_preV hW gc_P ha [va_rf (some b_19)]) rfl hl.1 rfl (Nat.le_of_ble_eq_true rfl) dR_commonAround_34 ⟨Nat.le_of_ble_eq_true rfl, Nat.le_of_ble_eq_true rfl⟩) (fun q34 S34 H locs hp34 hW => ?_)
          obtain ⟨hs34, rfl⟩ := hp34
          replace hs34 := hs34.symm
          subst hs34
          refine lv_if_ne (tgt := 43) hx hb dR_commonAround_37 (by decide) (fun c_37 => ?_) (fun c_37 => ?_)
          · skip
            refine s_aload_n (x := some b_6) hx hb dR_commonAround_43 rfl (lv_at hl 1 rfl) ?_
            obtain ⟨r44, er44⟩ : ∃ r : Option Nat, g_r S 1 0 b_6 = r := ⟨_, rfl⟩
            refine s_getr hC hW gc_P iw_P 0 (by decide) uw_130 rfl sb_6 (v := r44) er44 dR_commonAround_44 ?_
            refine s_astore_n (x := r44) (lv' := [(3, va_rf r44), (4, va_rf (some b_19)), (0, va_rf (some x)), (1, va_rf (some a)), (2, .int nm)]) hx hb dR_commonAround_47 rfl hl (by decide) rfl (fun ls hl => ?_)
            refine lv_goto (tgt := 5) hx hb dR_commonAround_48 (by decide) ?_
            exact ih r44 (fun b q => w_outer hWT sb_6 b (er44.trans q)) (x_li hk61 hWT sb_6 er44 hk) (by omega) (by rw [hf, ← er44, f_ca, ← erq12]; simp only []; rw [if_neg c_28, if_neg c_37]) ls (lv_sub hl [0, 2, 3, 4] rfl) H locs hW
          · skip
            refine s_aload (x := some b_19) hx hb dR_commonAround_40 (lv_at hl 0 rfl) ?_
            exact s_aret (v := some b_19) hC hr hlocks hW dR_commonAround_42 ⟨rfl, by rw [hf, f_ca, ← erq12]; simp only []; rw [if_neg c_28, if_pos c_37]⟩

set_option maxHeartbeats 4000000 in
set_option maxRecDepth 100000 in
theorem c_R_commonAround (l : Launch) (G : gs_G) (S : gs_S) (sz : Nat) (x a : Nat) (nm : Int32) (hWT : w_t S) (hX : g_sh S x = some (.inl 2)) (ha : g_sh S a = some (.inl 1)) : Met l yR_commonAround (kR_commonAround :: gU) { frames := 1, cells := 0, slots := 0, locals := 24 } (g_Pc G S sz [va_rf (some x), va_rf (some a), .int nm]) (g_Qq G S sz (fun r S' => S' = S ∧ r = f_ca S x a nm 61 (g_r S 1 0 a))) 0 0 (g_A S sz) := by
  refine s_head (by decide) (Nat.le_of_ble_eq_true rfl) ?_
  intro p e s m below meth c ls hsz hC hr hlocks hnm hl hW
  subst hsz
  obtain ⟨hx, hb, hml, hown, hts⟩ := id hC
  have hl : lv_has ls 5 [(0, va_rf (some x)), (1, va_rf (some a)), (2, .int nm)] := hl
  refine s_aload_n (x := some a) hx hb dR_commonAround_0 rfl (lv_at hl 1 rfl) ?_
  obtain ⟨r1, er1⟩ : ∃ r : Option Nat, g_r S 1 0 a = r := ⟨_, rfl⟩
  refine s_getr hC hW gc_P iw_P 0 (by decide) uw_130 rfl ha (v := r1) er1 dR_commonAround_1 ?_
  refine s_astore_n (x := r1) (lv' := [(3, va_rf r1), (0, va_rf (some x)), (1, va_rf (some a)), (2, .int nm)]) hx hb dR_commonAround_4 rfl hl (by decide) rfl (fun ls hl => ?_)
  exact lp_ca l G S x a nm hWT hX ha hC hr hlocks 61 r1 (fun b q => w_outer hWT ha b (er1.trans q)) (fun c q => by obtain ⟨n, h1, h2⟩ := x_li (Nat.le_refl 61) hWT ha er1 (x_li0 hWT ha) c q; exact ⟨n, by omega, h2⟩) (Nat.le_refl _) (by rw [er1]) ls hl _ _ hW

/-! R.found -/
def f_found (S : gs_S) (x : Nat) (r : Option Nat) (nm : Int32) : Option Nat := match r with
  | none => f_dwR S x none nm
  | some a => match f_dwR S x (some a) nm with
    | some c => some c
    | none => match f_ra S nm 61 (some a) with
      | some c => some c
      | none => match f_ca S x a nm 61 (g_r S 1 0 a) with
        | some c => some c
        | none => f_dwR S x none nm
theorem t_found {S : gs_S} {x : Nat} {r : Option Nat} {nm : Int32} (hWT : w_t S) (hX : g_sh S x = some (.inl 2)) (hr : t_o S 1 r) : t_o S 1 (f_found S x r nm) := by
  unfold f_found
  split
  · exact t_dw hWT hX
  · rename_i a
    have ha := hr a rfl
    split
    · rename_i c hc; intro b hb; cases hb; exact t_dw hWT hX _ hc
    · split
      · rename_i c hc; intro b hb; cases hb; exact t_ra hWT 61 _ hr _ hc
      · split
        · rename_i c hc; intro b hb; cases hb; exact t_ca hWT hX 61 _ (w_outer hWT ha) _ hc
        · exact t_dw hWT hX

set_option maxHeartbeats 4000000 in
set_option maxRecDepth 100000 in
theorem c_R_found (l : Launch) (G : gs_G) (S : gs_S) (sz : Nat) (x : Nat) (r0 : Option Nat) (nm : Int32) (hWT : w_t S) (hX : g_sh S x = some (.inl 2)) (h0 : t_o S 1 r0) : Met l yR_found (kR_found :: gU) { frames := 2, cells := 0, slots := 0, locals := 48 } (g_Pc G S sz [va_rf (some x), va_rf r0, .int nm]) (g_Qq G S sz (fun r S' => S' = S ∧ r = f_found S x r0 nm)) 0 0 (g_A S sz) := by
  refine s_head (by decide) (by simp [lg_sl, s_cat, s_catI, s_catL]) ?_
  intro p e s m below meth c ls hsz hC hr hlocks hnm hl hW
  subst hsz
  obtain ⟨hx, hb, hml, hown, hts⟩ := id hC
  have hl : lv_has ls 4 [(0, va_rf (some x)), (1, va_rf r0), (2, .int nm)] := by simpa [lv_args, s_cat, s_catI, s_catL] using hl
  refine s_null hx hb dR_found_0 ?_
  refine s_astore_n (x := none) (lv' := [(3, va_rf none), (0, va_rf (some x)), (1, va_rf r0), (2, .int nm)]) hx hb dR_found_1 rfl hl (by decide) rfl (fun ls hl => ?_)
  refine s_aload_n (x := r0) hx hb dR_found_2 rfl (lv_at hl 2 rfl) ?_
  refine s_ifnull (x := r0) (tgt := 34) hx hb dR_found_3 (by decide) (fun c_3 => ?_) (fun b_3 c_3 => ?_)
  · skip
    subst c_3
    refine s_aload_n (x := none) hx hb dR_found_34 rfl (lv_at hl 0 rfl) ?_
    refine s_ifnull (x := none) (tgt := 42) hx hb dR_found_35 (by decide) (fun c_35 => ?_) (fun b_35 c_35 => ?_)
    · skip
      refine s_aload_n (x := some x) hx hb dR_found_42 rfl (lv_at hl 1 rfl) ?_
      refine s_null hx hb dR_found_43 ?_
      refine lv_iload_n hx hb dR_found_44 rfl (lv_at hl 3 rfl) ?_
      refine s_callq hW (s_runV (n := 2) (As := [va_rf none, .int nm]) (rest := []) hC (c_R_directlyWithin l G S s.heap.size x none nm hWT hX) uc_R_directlyWithin uw_120 uw_122 us_R_directlyWithin uw_1 rfl rfl (by decide +kernel) ⟨by decide, by decide⟩ (g_preV hW gc_R hX [va_rf none, .int nm]) rfl hl.1 rfl (Nat.le_of_ble_eq_true rfl) dR_found_45 ⟨Nat.le_of_ble_eq_true rfl, Nat.le_of_ble_eq_true rfl⟩) (fun rq45 S45 H locs hp45 hW => ?_)
      obtain ⟨hs45, erq45⟩ := hp45
      replace hs45 := hs45.symm
      subst hs45
      exact s_aret (v := rq45) hC hr hlocks hW dR_found_48 ⟨rfl, by simp only [f_found, ← erq45]⟩
    · skip
      exact absurd c_35 (by simp)
  · skip
    subst c_3
    have sb_3 := h0 _ rfl
    refine s_aload_n (x := some x) hx hb dR_found_6 rfl (lv_at hl 1 rfl) ?_
    refine s_aload_n (x := some b_3) hx hb dR_found_7 rfl (lv_at hl 2 rfl) ?_
    refine lv_iload_n hx hb dR_found_8 rfl (lv_at hl 3 rfl) ?_
    refine s_callq hW (s_runV (n := 2) (As := [va_rf (some b_3), .int nm]) (rest := []) hC (c_R_directlyWithin l G S s.heap.size x (some b_3) nm hWT hX) uc_R_directlyWithin uw_120 uw_122 us_R_directlyWithin uw_1 rfl rfl (by decide +kernel) ⟨by decide, by decide⟩ (g_preV hW gc_R hX [va_rf (some b_3), .int nm]) rfl hl.1 rfl (Nat.le_of_ble_eq_true rfl) dR_found_9 ⟨Nat.le_of_ble_eq_true rfl, Nat.le_of_ble_eq_true rfl⟩) (fun rq9 S9 H locs hp9 hW => ?_)
    obtain ⟨hs9, erq9⟩ := hp9
    replace hs9 := hs9.symm
    subst hs9
    refine s_astore_n (x := rq9) (lv' := [(3, va_rf rq9), (0, va_rf (some x)), (1, va_rf (some b_3)), (2, .int nm)]) hx hb dR_found_12 rfl hl (by decide) rfl (fun ls hl => ?_)
    refine s_aload_n (x := rq9) hx hb dR_found_13 rfl (lv_at hl 0 rfl) ?_
    refine s_ifnonnull (x := rq9) (tgt := 23) hx hb dR_found_14 (by decide) (fun b_14 c_14 => ?_) (fun c_14 => ?_)
    · skip
      subst c_14
      have sb_14 := t_dw hWT hX _ erq9.symm
      refine s_aload_n (x := some b_14) hx hb dR_found_23 rfl (lv_at hl 0 rfl) ?_
      refine s_ifnonnull (x := some b_14) (tgt := 34) hx hb dR_found_24 (by decide) (fun b_24 c_24 => ?_) (fun c_24 => ?_)
      · skip
        refine s_aload_n (x := some b_14) hx hb dR_found_34 rfl (lv_at hl 0 rfl) ?_
        refine s_ifnull (x := some b_14) (tgt := 42) hx hb dR_found_35 (by decide) (fun c_35 => ?_) (fun b_35 c_35 => ?_)
        · skip
          exact absurd c_35 (by simp)
        · skip
          refine s_aload_n (x := some b_14) hx hb dR_found_38 rfl (lv_at hl 0 rfl) ?_
          refine lv_goto (tgt := 48) hx hb dR_found_39 (by decide) ?_
          exact s_aret (v := some b_14) hC hr hlocks hW dR_found_48 ⟨rfl, by simp only [f_found, ← erq9]⟩
      · skip
        exact absurd c_24 (by simp)
    · skip
      subst c_14
      refine s_aload_n (x := some b_3) hx hb dR_found_17 rfl (lv_at hl 2 rfl) ?_
      refine lv_iload_n hx hb dR_found_18 rfl (lv_at hl 3 rfl) ?_
      refine s_callq hW (s_runS (n := 2) (As := [va_rf (some b_3), .int nm]) (rest := []) hC (c_R_recursiveAround l G S H.size b_3 nm hWT sb_3) uc_R_recursiveAround uw_189 uw_190 uw_1 rfl rfl (by decide +kernel) ⟨by decide, by decide⟩ (g_preS hW [va_rf (some b_3), .int nm]) rfl hl.1 rfl (Nat.le_of_ble_eq_true rfl) dR_found_19 ⟨Nat.le_of_ble_eq_true rfl, Nat.le_of_ble_eq_true rfl⟩) (fun rq19 S19 H locs hp19 hW => ?_)
      obtain ⟨hs19, erq19⟩ := hp19
      replace hs19 := hs19.symm
      subst hs19
      refine s_astore_n (x := rq19) (lv' := [(3, va_rf rq19), (0, va_rf (some x)), (1, va_rf (some b_3)), (2, .int nm)]) hx hb dR_found_22 rfl hl (by decide) rfl (fun ls hl => ?_)
      refine s_aload_n (x := rq19) hx hb dR_found_23 rfl (lv_at hl 0 rfl) ?_
      refine s_ifnonnull (x := rq19) (tgt := 34) hx hb dR_found_24 (by decide) (fun b_24 c_24 => ?_) (fun c_24 => ?_)
      · skip
        subst c_24
        have sb_24 := t_ra hWT 61 _ (fun c q => by cases q; exact sb_3) _ erq19.symm
        refine s_aload_n (x := some b_24) hx hb dR_found_34 rfl (lv_at hl 0 rfl) ?_
        refine s_ifnull (x := some b_24) (tgt := 42) hx hb dR_found_35 (by decide) (fun c_35 => ?_) (fun b_35 c_35 => ?_)
        · skip
          exact absurd c_35 (by simp)
        · skip
          refine s_aload_n (x := some b_24) hx hb dR_found_38 rfl (lv_at hl 0 rfl) ?_
          refine lv_goto (tgt := 48) hx hb dR_found_39 (by decide) ?_
          exact s_aret (v := some b_24) hC hr hlocks hW dR_found_48 ⟨rfl, by simp only [f_found, ← erq9, ← erq19]⟩
      · skip
        subst c_24
        refine s_aload_n (x := some x) hx hb dR_found_27 rfl (lv_at hl 1 rfl) ?_
        refine s_aload_n (x := some b_3) hx hb dR_found_28 rfl (lv_at hl 2 rfl) ?_
        refine lv_iload_n hx hb dR_found_29 rfl (lv_at hl 3 rfl) ?_
        refine s_callq hW (s_runV (n := 2) (As := [va_rf (some b_3), .int nm]) (rest := []) hC (c_R_commonAround l G S H.size x b_3 nm hWT hX sb_3) uc_R_commonAround uw_196 uw_198 us_R_commonAround uw_1 rfl rfl (by decide +kernel) ⟨by decide, by decide⟩ (g_preV hW gc_R hX [va_rf (some b_3), .int nm]) rfl hl.1 rfl (Nat.le_of_ble_eq_true rfl) dR_found_30 ⟨Nat.le_of_ble_eq_true rfl, Nat.le_of_ble_eq_true rfl⟩) (fun rq30 S30 H locs hp30 hW => ?_)
        obtain ⟨hs30, erq30⟩ := hp30
        replace hs30 := hs30.symm
        subst hs30
        refine s_astore_n (x := rq30) (lv' := [(3, va_rf rq30), (0, va_rf (some x)), (1, va_rf (some b_3)), (2, .int nm)]) hx hb dR_found_33 rfl hl (by decide) rfl (fun ls hl => ?_)
        refine s_aload_n (x := rq30) hx hb dR_found_34 rfl (lv_at hl 0 rfl) ?_
        refine s_ifnull (x := rq30) (tgt := 42) hx hb dR_found_35 (by decide) (fun c_35 => ?_) (fun b_35 c_35 => ?_)
        · skip
          subst c_35
          refine s_aload_n (x := some x) hx hb dR_found_42 rfl (lv_at hl 1 rfl) ?_
          refine s_null hx hb dR_found_43 ?_
          refine lv_iload_n hx hb dR_found_44 rfl (lv_at hl 3 rfl) ?_
          refine s_callq hW (s_runV (n := 2) (As := [va_rf none, .int nm]) (rest := []) hC (c_R_directlyWithin l G S H.size x none nm hWT hX) uc_R_directlyWithin uw_120 uw_122 us_R_directlyWithin uw_1 rfl rfl (by decide +kernel) ⟨by decide, by decide⟩ (g_preV hW gc_R hX [va_rf none, .int nm]) rfl hl.1 rfl (Nat.le_of_ble_eq_true rfl) dR_found_45 ⟨Nat.le_of_ble_eq_true rfl, Nat.le_of_ble_eq_true rfl⟩) (fun rq45 S45 H locs hp45 hW => ?_)
          obtain ⟨hs45, erq45⟩ := hp45
          replace hs45 := hs45.symm
          subst hs45
          exact s_aret (v := rq45) hC hr hlocks hW dR_found_48 ⟨rfl, by simp only [f_found, ← erq9, ← erq19, ← erq30, ← erq45]⟩
        · skip
          subst c_35
          have sb_35 := t_ca hWT hX 61 _ (w_outer hWT sb_3) _ erq30.symm
          refine s_aload_n (x := some b_35) hx hb dR_found_38 rfl (lv_at hl 0 rfl) ?_
          refine lv_goto (tgt := 48) hx hb dR_found_39 (by decide) ?_
          exact s_aret (v := some b_35) hC hr hlocks hW dR_found_48 ⟨rfl, by simp only [f_found, ← erq9, ← erq19, ← erq30]⟩
end
section
/-! R.seesCellsOf -/
def f_sees (S : gs_S) (a o : Nat) : Int32 := if some a = some o then 1 else if f_has S o 8 = 0 then 0 else if f_li S 61 (some a) (some o) = 0 then 0 else 1

set_option maxHeartbeats 4000000 in
set_option maxRecDepth 100000 in
theorem c_R_seesCellsOf (l : Launch) (G : gs_G) (S : gs_S) (sz : Nat) (a o : Nat) (hWT : w_t S) (ha : g_sh S a = some (.inl 1)) (ho : g_sh S o = some (.inl 1)) : Met l yR_seesCellsOf (kR_seesCellsOf :: gU) { frames := 1, cells := 0, slots := 0, locals := 22 } (g_Pc G S sz [va_rf (some a), va_rf (some o)]) (g_Qi G S sz (fun r S' => S' = S ∧ r = f_sees S a o)) 0 0 (g_A S sz) := by
  refine s_head (by decide) (Nat.le_of_ble_eq_true rfl) ?_
  intro p e s m below meth c ls hsz hC hr hlocks hnm hl hW
  subst hsz
  obtain ⟨hx, hb, hml, hown, hts⟩ := id hC
  have hl : lv_has ls 2 [(0, va_rf (some a)), (1, va_rf (some o))] := hl
  refine s_aload_n (x := some a) hx hb dR_seesCellsOf_0 rfl (lv_at hl 0 rfl) ?_
  refine s_aload_n (x := some o) hx hb dR_seesCellsOf_1 rfl (lv_at hl 1 rfl) ?_
  refine lv_acmp_eq (rx := some a) (ry := some o) (tgt := 22) hx hb dR_seesCellsOf_2 (by decide) (fun c_2 => ?_) (fun c_2 => ?_)
  · skip
    refine lv_iconst (v := 1) hx hb dR_seesCellsOf_22 (by decide) ?_
    refine lv_goto (tgt := 27) hx hb dR_seesCellsOf_23 (by decide) ?_
    exact s_iret hC hr hlocks rfl hW dR_seesCellsOf_27 ⟨rfl, by simp only [f_sees, if_pos c_2, if_true, if_false]⟩
  · skip
    refine s_aload_n (x := some o) hx hb dR_seesCellsOf_5 rfl (lv_at hl 1 rfl) ?_
    refine lv_bipush (v := 8) hx hb dR_seesCellsOf_6 (by decide) ?_
    refine s_calli hW (s_runV (n := 1) (As := [.int 8]) (rest := []) hC (c_P_has l G S s.heap.size o 8 ho) uc_P_has uw_192 uw_193 uw_194 uw_5 rfl rfl (by decide +kernel) ⟨by decide, by decide⟩ (g_preV hW gc_P ho [.int 8]) rfl hl.1 rfl (Nat.le_of_ble_eq_true rfl) dR_seesCellsOf_8 ⟨Nat.le_of_ble_eq_true rfl, Nat.le_of_ble_eq_true rfl⟩) (fun q8 S8 H locs hp8 hW => ?_)
    obtain ⟨hs8, rfl⟩ := hp8
    replace hs8 := hs8.symm
    subst hs8
    refine lv_if_eq (tgt := 26) hx hb dR_seesCellsOf_11 (by decide) (fun c_11 => ?_) (fun c_11 => ?_)
    · skip
      refine lv_iconst (v := 0) hx hb dR_seesCellsOf_26 (by decide) ?_
      exact s_iret hC hr hlocks rfl hW dR_seesCellsOf_27 ⟨rfl, by simp only [f_sees, if_neg c_2, if_pos c_11, if_true, if_false]⟩
    · skip
      refine s_aload_n (x := some a) hx hb dR_seesCellsOf_14 rfl (lv_at hl 0 rfl) ?_
      refine s_aload_n (x := some o) hx hb dR_seesCellsOf_15 rfl (lv_at hl 1 rfl) ?_
      refine s_calli hW (s_runV (n := 1) (As := [va_rf (some o)]) (rest := []) hC (c_P_isOrLiesIn l G S H.size a (some o) hWT ha) uc_P_isOrLiesIn uw_200 uw_201 uw_202 uw_5 rfl rfl (by decide +kernel) ⟨by decide, by decide⟩ (g_preV hW gc_P ha [va_rf (some o)]) rfl hl.1 rfl (Nat.le_of_ble_eq_true rfl) dR_seesCellsOf_16 ⟨Nat.le_of_ble_eq_true rfl, Nat.le_of_ble_eq_true rfl⟩) (fun q16 S16 H locs hp16 hW => ?_)
      obtain ⟨hs16, rfl⟩ := hp16
      replace hs16 := hs16.symm
      subst hs16
      refine lv_if_eq (tgt := 26) hx hb dR_seesCellsOf_19 (by decide) (fun c_19 => ?_) (fun c_19 => ?_)
      · skip
        refine lv_iconst (v := 0) hx hb dR_seesCellsOf_26 (by decide) ?_
        exact s_iret hC hr hlocks rfl hW dR_seesCellsOf_27 ⟨rfl, by simp only [f_sees, if_neg c_2, if_neg c_11, if_pos c_19, if_true, if_false]⟩
      · skip
        refine lv_iconst (v := 1) hx hb dR_seesCellsOf_22 (by decide) ?_
        refine lv_goto (tgt := 27) hx hb dR_seesCellsOf_23 (by decide) ?_
        exact s_iret hC hr hlocks rfl hW dR_seesCellsOf_27 ⟨rfl, by simp only [f_sees, if_neg c_2, if_neg c_11, if_neg c_19, if_true, if_false]⟩

/-! R.placeOf -/
def f_top (S : gs_S) (x : Nat) : Nat := v_a (g_r S 2 8 x)
def f_place (S : gs_S) (x : Nat) (n : Int32) : Int32 := if 0 ≤ n then 16 + n else g_ai S 7 (v_a (g_r S 0 6 (f_top S x))) (-1 - n).toNatClampNeg

set_option maxHeartbeats 4000000 in
set_option maxRecDepth 100000 in
theorem c_R_placeOf (l : Launch) (G : gs_G) (S : gs_S) (sz : Nat) (x : Nat) (n : Int32) (hWT : w_t S) (hX : g_sh S x = some (.inl 2)) (hc : ¬ 0 ≤ n → ∃ j : Nat, j < 16 ∧ -1 - n = nI j) : Met l yR_placeOf (kR_placeOf :: gU) { frames := 0, cells := 0, slots := 0, locals := 0 } (g_Pc G S sz [va_rf (some x), .int n]) (g_Qi G S sz (fun r S' => S' = S ∧ r = f_place S x n)) 0 0 (g_A S sz) := by
  refine s_head (by decide) (Nat.le_of_ble_eq_true rfl) ?_
  intro p e s m below meth c ls hsz hC hr hlocks hnm hl hW
  subst hsz
  obtain ⟨hx, hb, hml, hown, hts⟩ := id hC
  have hl : lv_has ls 2 [(0, va_rf (some x)), (1, .int n)] := hl
  refine lv_iload_n hx hb dR_placeOf_0 rfl (lv_at hl 1 rfl) ?_
  refine lv_if_ge (tgt := 18) hx hb dR_placeOf_1 (by decide) (fun c_1 => ?_) (fun c_1 => ?_)
  · skip
    refine lv_bipush (v := 16) hx hb dR_placeOf_18 (by decide) ?_
    refine lv_iload_n hx hb dR_placeOf_20 rfl (lv_at hl 1 rfl) ?_
    refine lv_iadd hx hb dR_placeOf_21 ?_
    exact s_iret hC hr hlocks rfl hW dR_placeOf_22 ⟨rfl, by rw [f_place, if_pos c_1]⟩
  · skip
    refine s_aload_n (x := some x) hx hb dR_placeOf_4 rfl (lv_at hl 0 rfl) ?_
    obtain ⟨b5, eb5, sb5⟩ := w_top hWT hX
    refine s_getr hC hW gc_R iw_R 8 (by decide) uw_80 rfl hX (v := some b5) eb5 dR_placeOf_5 ?_
    obtain ⟨b8, eb8, sb8⟩ := w_places hWT sb5
    refine s_getr hC hW gc_L iw_L 6 (by decide) uw_39 rfl sb5 (v := some b8) eb8 dR_placeOf_8 ?_
    refine lv_iconst (v := (-1)) hx hb dR_placeOf_11 (by decide) ?_
    refine lv_iload_n hx hb dR_placeOf_12 rfl (lv_at hl 1 rfl) ?_
    refine lv_isub hx hb dR_placeOf_13 ?_
    obtain ⟨j, hj, ej⟩ := hc c_1
    refine k_iald hC hW sb8 rfl rfl (by decide) j ej hj rfl dR_placeOf_14 ?_
    refine lv_goto (tgt := 22) hx hb dR_placeOf_15 (by decide) ?_
    exact s_iret hC hr hlocks rfl hW dR_placeOf_22 ⟨rfl, by rw [f_place, if_neg c_1, f_top, eb5, ej, nI_clamp (show j < 2 ^ 31 by omega)]; simp only [v_a, Option.getD_some, eb8]⟩

/-! R.bytesOf -/
def f_run (S : gs_S) (x : Nat) : Option Nat := g_r S 0 2 (f_top S x)
def f_bytes (S : gs_S) (x : Nat) (n : Int32) : Int32 := if 0 ≤ n then 8 else match f_run S x with
  | none => 8
  | some p => g_ai S 5 (v_a (g_r S 1 5 p)) (-1 - n).toNatClampNeg

set_option maxHeartbeats 4000000 in
set_option maxRecDepth 100000 in
theorem c_R_bytesOf (l : Launch) (G : gs_G) (S : gs_S) (sz : Nat) (x : Nat) (n : Int32) (hWT : w_t S) (hX : g_sh S x = some (.inl 2)) (hc : ¬ 0 ≤ n → ∃ j : Nat, j < 16 ∧ -1 - n = nI j) : Met l yR_bytesOf (kR_bytesOf :: gU) { frames := 0, cells := 0, slots := 0, locals := 0 } (g_Pc G S sz [va_rf (some x), .int n]) (g_Qi G S sz (fun r S' => S' = S ∧ r = f_bytes S x n)) 0 0 (g_A S sz) := by
  refine s_head (by decide) (Nat.le_of_ble_eq_true rfl) ?_
  intro p e s m below meth c ls hsz hC hr hlocks hnm hl hW
  subst hsz
  obtain ⟨hx, hb, hml, hown, hts⟩ := id hC
  have hl : lv_has ls 3 [(0, va_rf (some x)), (1, .int n)] := hl
  refine s_aload_n (x := some x) hx hb dR_bytesOf_0 rfl (lv_at hl 0 rfl) ?_
  obtain ⟨b1, eb1, sb1⟩ := w_top hWT hX
  refine s_getr hC hW gc_R iw_R 8 (by decide) uw_80 rfl hX (v := some b1) eb1 dR_bytesOf_1 ?_
  obtain ⟨r4, er4⟩ : ∃ r : Option Nat, g_r S 0 2 b1 = r := ⟨_, rfl⟩
  refine s_getr hC hW gc_L iw_L 2 (by decide) uw_32 rfl sb1 (v := r4) er4 dR_bytesOf_4 ?_
  refine s_astore_n (x := r4) (lv' := [(2, va_rf r4), (0, va_rf (some x)), (1, .int n)]) hx hb dR_bytesOf_7 rfl hl (by decide) rfl (fun ls hl => ?_)
  refine lv_iload_n hx hb dR_bytesOf_8 rfl (lv_at hl 2 rfl) ?_
  refine lv_if_ge (tgt := 27) hx hb dR_bytesOf_9 (by decide) (fun c_9 => ?_) (fun c_9 => ?_)
  · skip
    refine lv_bipush (v := 8) hx hb dR_bytesOf_27 (by decide) ?_
    exact s_iret hC hr hlocks rfl hW dR_bytesOf_29 ⟨rfl, by rw [f_bytes, if_pos c_9]⟩
  · skip
    refine s_aload_n (x := r4) hx hb dR_bytesOf_12 rfl (lv_at hl 0 rfl) ?_
    refine s_ifnull (x := r4) (tgt := 27) hx hb dR_bytesOf_13 (by decide) (fun c_13 => ?_) (fun b_13 c_13 => ?_)
    · skip
      subst c_13
      refine lv_bipush (v := 8) hx hb dR_bytesOf_27 (by decide) ?_
      exact s_iret hC hr hlocks rfl hW dR_bytesOf_29 ⟨rfl, by rw [f_bytes, if_neg c_9, f_run, f_top, eb1]; simp only [v_a, Option.getD_some, er4]⟩
    · skip
      subst c_13
      have sb_13 := w_program hWT sb1 _ er4
      refine s_aload_n (x := some b_13) hx hb dR_bytesOf_16 rfl (lv_at hl 0 rfl) ?_
      obtain ⟨b17, eb17, sb17⟩ := w_formalBytes hWT sb_13
      refine s_getr hC hW gc_P iw_P 5 (by decide) uw_139 rfl sb_13 (v := some b17) eb17 dR_bytesOf_17 ?_
      refine lv_iconst (v := (-1)) hx hb dR_bytesOf_20 (by decide) ?_
      refine lv_iload_n hx hb dR_bytesOf_21 rfl (lv_at hl 2 rfl) ?_
      refine lv_isub hx hb dR_bytesOf_22 ?_
      obtain ⟨j, hj, ej⟩ := hc c_9
      refine k_iald hC hW sb17 rfl rfl (by decide) j ej hj rfl dR_bytesOf_23 ?_
      refine lv_goto (tgt := 29) hx hb dR_bytesOf_24 (by decide) ?_
      exact s_iret hC hr hlocks rfl hW dR_bytesOf_29 ⟨rfl, by rw [f_bytes, if_neg c_9, f_run, f_top, eb1]; simp only [v_a, Option.getD_some, er4, eb17, ej, nI_clamp (show j < 2 ^ 31 by omega)]⟩

/-! R.unusedBits -/
def f_unused (S : gs_S) (x : Nat) (n : Int32) : Int32 := 8 * (8 - f_bytes S x n)

set_option maxHeartbeats 4000000 in
set_option maxRecDepth 100000 in
theorem c_R_unusedBits (l : Launch) (G : gs_G) (S : gs_S) (sz : Nat) (x : Nat) (n : Int32) (hWT : w_t S) (hX : g_sh S x = some (.inl 2)) (hc : ¬ 0 ≤ n → ∃ j : Nat, j < 16 ∧ -1 - n = nI j) : Met l yR_unusedBits (kR_unusedBits :: gU) { frames := 1, cells := 0, slots := 0, locals := 22 } (g_Pc G S sz [va_rf (some x), .int n]) (g_Qi G S sz (fun r S' => S' = S ∧ r = f_unused S x n)) 0 0 (g_A S sz) := by
  refine s_head (by decide) (Nat.le_of_ble_eq_true rfl) ?_
  intro p e s m below meth c ls hsz hC hr hlocks hnm hl hW
  subst hsz
  obtain ⟨hx, hb, hml, hown, hts⟩ := id hC
  have hl : lv_has ls 2 [(0, va_rf (some x)), (1, .int n)] := hl
  refine lv_bipush (v := 8) hx hb dR_unusedBits_0 (by decide) ?_
  refine lv_bipush (v := 8) hx hb dR_unusedBits_2 (by decide) ?_
  refine s_aload_n (x := some x) hx hb dR_unusedBits_4 rfl (lv_at hl 0 rfl) ?_
  refine lv_iload_n hx hb dR_unusedBits_5 rfl (lv_at hl 1 rfl) ?_
  refine s_calli hW (s_runV (n := 1) (As := [.int n]) (rest := [.int 8, .int 8]) hC (c_R_bytesOf l G S s.heap.size x n hWT hX hc) uc_R_bytesOf uw_226 uw_228 us_R_bytesOf uw_1 rfl rfl (by decide +kernel) ⟨by decide, by decide⟩ (g_preV hW gc_R hX [.int n]) rfl hl.1 rfl (Nat.le_of_ble_eq_true rfl) dR_unusedBits_6 ⟨Nat.le_of_ble_eq_true rfl, Nat.le_of_ble_eq_true rfl⟩) (fun q6 S6 H locs hp6 hW => ?_)
  obtain ⟨hs6, rfl⟩ := hp6
  replace hs6 := hs6.symm
  subst hs6
  refine lv_isub hx hb dR_unusedBits_9 ?_
  refine lv_imul hx hb dR_unusedBits_10 ?_
  exact s_iret hC hr hlocks rfl hW dR_unusedBits_11 ⟨rfl, rfl⟩

/-! R.dataOf -/
def f_data (S : gs_S) (x p : Nat) : Option Nat := if f_has S p 4 = 0 then g_r S 2 7 x else match g_r S 1 8 p with
  | none => g_r S 2 7 x
  | some l => some l
theorem t_data {S : gs_S} {x p : Nat} (hWT : w_t S) (hX : g_sh S x = some (.inl 2)) (hp : g_sh S p = some (.inl 1)) : t_n S 0 (f_data S x p) := by
  unfold f_data
  split
  · exact w_bottom hWT hX
  · split
    · exact w_bottom hWT hX
    · rename_i l hl
      exact ⟨l, rfl, w_latest hWT hp l hl⟩

set_option maxHeartbeats 4000000 in
set_option maxRecDepth 100000 in
theorem c_R_dataOf (l : Launch) (G : gs_G) (S : gs_S) (sz : Nat) (x a : Nat) (hWT : w_t S) (hX : g_sh S x = some (.inl 2)) (ha : g_sh S a = some (.inl 1)) : Met l yR_dataOf (kR_dataOf :: gU) { frames := 1, cells := 0, slots := 0, locals := 21 } (g_Pc G S sz [va_rf (some x), va_rf (some a)]) (g_Qq G S sz (fun r S' => S' = S ∧ r = f_data S x a)) 0 0 (g_A S sz) := by
  refine s_head (by decide) (Nat.le_of_ble_eq_true rfl) ?_
  intro p e s m below meth c ls hsz hC hr hlocks hnm hl hW
  subst hsz
  obtain ⟨hx, hb, hml, hown, hts⟩ := id hC
  have hl : lv_has ls 2 [(0, va_rf (some x)), (1, va_rf (some a))] := hl
  refine s_aload_n (x := some a) hx hb dR_dataOf_0 rfl (lv_at hl 1 rfl) ?_
  refine lv_iconst (v := 4) hx hb dR_dataOf_1 (by decide) ?_
  refine s_calli hW (s_runV (n := 1) (As := [.int 4]) (rest := []) hC (c_P_has l G S s.heap.size a 4 ha) uc_P_has uw_192 uw_193 uw_194 uw_5 rfl rfl (by decide +kernel) ⟨by decide, by decide⟩ (g_preV hW gc_P ha [.int 4]) rfl hl.1 rfl (Nat.le_of_ble_eq_true rfl) dR_dataOf_2 ⟨Nat.le_of_ble_eq_true rfl, Nat.le_of_ble_eq_true rfl⟩) (fun q2 S2 H locs hp2 hW => ?_)
  obtain ⟨hs2, rfl⟩ := hp2
  replace hs2 := hs2.symm
  subst hs2
  refine lv_if_eq (tgt := 22) hx hb dR_dataOf_5 (by decide) (fun c_5 => ?_) (fun c_5 => ?_)
  · skip
    refine s_aload_n (x := some x) hx hb dR_dataOf_22 rfl (lv_at hl 0 rfl) ?_
    obtain ⟨b23, eb23, sb23⟩ := w_bottom hWT hX
    refine s_getr hC hW gc_R iw_R 7 (by decide) uw_79 rfl hX (v := some b23) eb23 dR_dataOf_23 ?_
    exact s_aret (v := some b23) hC hr hlocks hW dR_dataOf_26 ⟨rfl, by rw [f_data, if_pos c_5, eb23]⟩
  · skip
    refine s_aload_n (x := some a) hx hb dR_dataOf_8 rfl (lv_at hl 1 rfl) ?_
    obtain ⟨r9, er9⟩ : ∃ r : Option Nat, g_r S 1 8 a = r := ⟨_, rfl⟩
    refine s_getr hC hW gc_P iw_P 8 (by decide) uw_142 rfl ha (v := r9) er9 dR_dataOf_9 ?_
    refine s_ifnull (x := r9) (tgt := 22) hx hb dR_dataOf_12 (by decide) (fun c_12 => ?_) (fun b_12 c_12 => ?_)
    · skip
      subst c_12
      refine s_aload_n (x := some x) hx hb dR_dataOf_22 rfl (lv_at hl 0 rfl) ?_
      obtain ⟨b23, eb23, sb23⟩ := w_bottom hWT hX
      refine s_getr hC hW gc_R iw_R 7 (by decide) uw_79 rfl hX (v := some b23) eb23 dR_dataOf_23 ?_
      exact s_aret (v := some b23) hC hr hlocks hW dR_dataOf_26 ⟨rfl, by rw [f_data, if_neg c_5, er9]; simp only [eb23]⟩
    · skip
      subst c_12
      have sb_12 := w_latest hWT ha _ er9
      refine s_aload_n (x := some a) hx hb dR_dataOf_15 rfl (lv_at hl 1 rfl) ?_
      refine s_getr hC hW gc_P iw_P 8 (by decide) uw_142 rfl ha (v := some b_12) er9 dR_dataOf_16 ?_
      refine lv_goto (tgt := 26) hx hb dR_dataOf_19 (by decide) ?_
      exact s_aret (v := some b_12) hC hr hlocks hW dR_dataOf_26 ⟨rfl, by rw [f_data, if_neg c_5, er9]⟩

theorem t_no {S : gs_S} {ci : Nat} {r : Option Nat} (h : t_n S ci r) : t_o S ci r := by
  obtain ⟨b, rfl, h⟩ := h
  intro c hc
  cases hc
  exact h

/-! R.holderOf -/
def f_holder (S : gs_S) (x : Nat) (n : Int32) : Option Nat := if 0 ≤ n then
    (if n < g_i S 2 5 x then (match g_ar S 1 (v_a (g_r S 2 3 x)) n.toNatClampNeg with
      | none => g_r S 2 7 x
      | some o => match f_run S x with
        | none => none
        | some p => if f_sees S p o = 0 then none else f_data S x o) else none)
  else match f_run S x with
    | none => none
    | some p => if g_i S 1 6 p ≤ -1 - n then none else g_ar S 6 (v_a (g_r S 0 5 (f_top S x))) (-1 - n).toNatClampNeg
theorem x_neg {n : Int32} (h : ¬ 0 ≤ n) : ∃ j : Nat, j < 2 ^ 31 ∧ -1 - n = nI j := by
  refine nI_of ?_
  rw [Int32.le_iff_toInt_le] at h
  rw [Int32.lt_iff_toInt_lt]
  have h1 := n.toInt_lt
  have h2 := n.le_toInt
  have h3 : (-1 - n).toInt = -1 - n.toInt := by
    rw [Int32.toInt_sub]
    have : (-1 : Int32).toInt = -1 := by decide
    rw [this]
    simp at h
    simp only [Int.bmod]
    omega
  rw [h3]
  simp at h ⊢
  omega
theorem x_ngt {n : Int32} {f m : Int32} {k : Nat} (hk : k ≤ 16) (ef : f = nI k) (h : ¬ 0 ≤ n) (em : m = -1 - n) (c : ¬ f ≤ m) : ∃ j : Nat, j < k ∧ m = nI j := by
  obtain ⟨j, hj, ej⟩ := x_neg h
  subst ef em
  rw [ej, nI_leI (by omega) hj] at c
  exact ⟨j, by omega, ej⟩
theorem x_cell {n m : Int32} {k : Nat} (hk : k ≤ 200) (em : m = nI k) (h : 0 ≤ n) (c : n < m) : ∃ j : Nat, j < k ∧ n = nI j := by
  subst em
  have h0 : ¬ n < 0 := fun q => by rw [Int32.lt_iff_toInt_lt] at q; rw [Int32.le_iff_toInt_le] at h; omega
  obtain ⟨j, hj, rfl⟩ := nI_of h0
  rw [nI_ltI hj (by omega)] at c
  exact ⟨j, c, rfl⟩

set_option maxHeartbeats 4000000 in
set_option maxRecDepth 100000 in
theorem c_R_holderOf (l : Launch) (G : gs_G) (S : gs_S) (sz : Nat) (x : Nat) (n : Int32) (hWT : w_t S) (hX : g_sh S x = some (.inl 2)) : Met l yR_holderOf (kR_holderOf :: gU) { frames := 2, cells := 0, slots := 0, locals := 43 } (g_Pc G S sz [va_rf (some x), .int n]) (g_Qq G S sz (fun r S' => S' = S ∧ r = f_holder S x n)) 0 0 (g_A S sz) := by
  refine s_head (by decide) (Nat.le_of_ble_eq_true rfl) ?_
  intro p e s m below meth c ls hsz hC hr hlocks hnm hl hW
  subst hsz
  obtain ⟨hx, hb, hml, hown, hts⟩ := id hC
  have hl : lv_has ls 4 [(0, va_rf (some x)), (1, .int n)] := hl
  refine s_aload_n (x := some x) hx hb dR_holderOf_0 rfl (lv_at hl 0 rfl) ?_
  obtain ⟨b1, eb1, sb1⟩ := w_top hWT hX
  refine s_getr hC hW gc_R iw_R 8 (by decide) uw_80 rfl hX (v := some b1) eb1 dR_holderOf_1 ?_
  obtain ⟨r4, er4⟩ : ∃ r : Option Nat, g_r S 0 2 b1 = r := ⟨_, rfl⟩
  refine s_getr hC hW gc_L iw_L 2 (by decide) uw_32 rfl sb1 (v := r4) er4 dR_holderOf_4 ?_
  refine s_astore_n (x := r4) (lv' := [(2, va_rf r4), (0, va_rf (some x)), (1, .int n)]) hx hb dR_holderOf_7 rfl hl (by decide) rfl (fun ls hl => ?_)
  refine lv_iload_n hx hb dR_holderOf_8 rfl (lv_at hl 2 rfl) ?_
  refine lv_if_ge (tgt := 42) hx hb dR_holderOf_9 (by decide) (fun c_9 => ?_) (fun c_9 => ?_)
  · skip
    refine lv_iload_n hx hb dR_holderOf_42 rfl (lv_at hl 2 rfl) ?_
    refine s_aload_n (x := some x) hx hb dR_holderOf_43 rfl (lv_at hl 1 rfl) ?_
    refine s_geti hC hW gc_R iw_R 5 (by decide) uw_77 rfl hX rfl dR_holderOf_44 ?_
    refine lv_icmp_lt (tgt := 52) hx hb dR_holderOf_47 (by decide) (fun c_47 => ?_) (fun c_47 => ?_)
    · skip
      refine s_aload_n (x := some x) hx hb dR_holderOf_52 rfl (lv_at hl 1 rfl) ?_
      obtain ⟨b53, eb53, sb53⟩ := w_owners hWT hX
      refine s_getr hC hW gc_R iw_R 3 (by decide) uw_75 rfl hX (v := some b53) eb53 dR_holderOf_53 ?_
      refine lv_iload_n hx hb dR_holderOf_56 rfl (lv_at hl 2 rfl) ?_
      obtain ⟨ck, hck, eck⟩ := w_cellCount hWT hX
      obtain ⟨j, hj, ej⟩ := x_cell hck eck c_9 c_47
      obtain ⟨r57, er57⟩ : ∃ r : Option Nat, g_ar S 1 b53 j = r := ⟨_, rfl⟩
      refine k_aald hC hW sb53 rfl rfl (by decide) j ej (by omega) (v := r57) er57 dR_holderOf_57 ?_
      refine s_astore_n (x := r57) (lv' := [(3, va_rf r57), (2, va_rf r4), (0, va_rf (some x)), (1, .int n)]) hx hb dR_holderOf_58 rfl hl (by decide) (by simp [s_cat, s_catI, s_catL] <;> decide) (fun ls hl => ?_)
      refine s_aload_n (x := r57) hx hb dR_holderOf_59 rfl (lv_at hl 0 rfl) ?_
      refine s_ifnonnull (x := r57) (tgt := 68) hx hb dR_holderOf_60 (by decide) (fun b_60 c_60 => ?_) (fun c_60 => ?_)
      · skip
        subst c_60
        have sb_60 := hWT.2.2.2.2.1.2 _ sb53 _ (by omega) _ er57
        refine s_aload_n (x := r4) hx hb dR_holderOf_68 rfl (lv_at hl 1 rfl) ?_
        refine s_ifnull (x := r4) (tgt := 88) hx hb dR_holderOf_69 (by decide) (fun c_69 => ?_) (fun b_69 c_69 => ?_)
        · skip
          subst c_69
          refine s_null hx hb dR_holderOf_88 ?_
          exact s_aret (v := none) hC hr hlocks hW dR_holderOf_89 ⟨rfl, by rw [f_holder, if_pos c_9, if_pos c_47, eb53, ej, nI_clamp (show j < 2 ^ 31 by omega), f_run, f_top, eb1]; simp only [v_a, Option.getD_some, er57, er4]⟩
        · skip
          subst c_69
          have sb_69 := w_program hWT sb1 _ er4
          refine s_aload_n (x := some b_69) hx hb dR_holderOf_72 rfl (lv_at hl 1 rfl) ?_
          refine s_aload_n (x := some b_60) hx hb dR_holderOf_73 rfl (lv_at hl 0 rfl) ?_
          refine s_calli hW (s_runS (n := 2) (As := [va_rf (some b_69), va_rf (some b_60)]) (rest := []) hC (c_R_seesCellsOf l G S s.heap.size b_69 b_60 hWT sb_69 sb_60) uc_R_seesCellsOf uw_219 uw_220 uw_1 rfl rfl (by decide +kernel) ⟨by decide, by decide⟩ (g_preS hW [va_rf (some b_69), va_rf (some b_60)]) rfl hl.1 rfl (Nat.le_of_ble_eq_true rfl) dR_holderOf_74 ⟨Nat.le_of_ble_eq_true rfl, Nat.le_of_ble_eq_true rfl⟩) (fun q74 S74 H locs hp74 hW => ?_)
          obtain ⟨hs74, rfl⟩ := hp74
          replace hs74 := hs74.symm
          subst hs74
          refine lv_if_eq (tgt := 88) hx hb dR_holderOf_77 (by decide) (fun c_77 => ?_) (fun c_77 => ?_)
          · skip
            refine s_null hx hb dR_holderOf_88 ?_
            exact s_aret (v := none) hC hr hlocks hW dR_holderOf_89 ⟨rfl, by rw [f_holder, if_pos c_9, if_pos c_47, eb53, ej, nI_clamp (show j < 2 ^ 31 by omega), f_run, f_top, eb1]; simp only [v_a, Option.getD_some, er57, er4]; rw [if_pos c_77]⟩
          · skip
            refine s_aload_n (x := some x) hx hb dR_holderOf_80 rfl (lv_at hl 2 rfl) ?_
            refine s_aload_n (x := some b_60) hx hb dR_holderOf_81 rfl (lv_at hl 0 rfl) ?_
            refine s_callq hW (s_runV (n := 1) (As := [va_rf (some b_60)]) (rest := []) hC (c_R_dataOf l G S H.size x b_60 hWT hX sb_60) uc_R_dataOf uw_222 uw_224 us_R_dataOf uw_1 rfl rfl (by decide +kernel) ⟨by decide, by decide⟩ (g_preV hW gc_R hX [va_rf (some b_60)]) rfl hl.1 rfl (Nat.le_of_ble_eq_true rfl) dR_holderOf_82 ⟨Nat.le_of_ble_eq_true rfl, Nat.le_of_ble_eq_true rfl⟩) (fun rq82 S82 H locs hp82 hW => ?_)
            obtain ⟨hs82, erq82⟩ := hp82
            replace hs82 := hs82.symm
            subst hs82
            refine lv_goto (tgt := 89) hx hb dR_holderOf_85 (by decide) ?_
            exact s_aret (v := rq82) hC hr hlocks hW dR_holderOf_89 ⟨rfl, by rw [f_holder, if_pos c_9, if_pos c_47, eb53, ej, nI_clamp (show j < 2 ^ 31 by omega), f_run, f_top, eb1]; simp only [v_a, Option.getD_some, er57, er4]; rw [if_neg c_77]; exact erq82⟩
      · skip
        subst c_60
        refine s_aload_n (x := some x) hx hb dR_holderOf_63 rfl (lv_at hl 2 rfl) ?_
        obtain ⟨b64, eb64, sb64⟩ := w_bottom hWT hX
        refine s_getr hC hW gc_R iw_R 7 (by decide) uw_79 rfl hX (v := some b64) eb64 dR_holderOf_64 ?_
        exact s_aret (v := some b64) hC hr hlocks hW dR_holderOf_67 ⟨rfl, by rw [f_holder, if_pos c_9, if_pos c_47, eb53, ej, nI_clamp (show j < 2 ^ 31 by omega)]; simp only [v_a, Option.getD_some, er57]; rw [eb64]⟩
    · skip
      refine s_null hx hb dR_holderOf_50 ?_
      exact s_aret (v := none) hC hr hlocks hW dR_holderOf_51 ⟨rfl, by rw [f_holder, if_pos c_9, if_neg c_47]⟩
  · skip
    refine lv_iconst (v := (-1)) hx hb dR_holderOf_12 (by decide) ?_
    refine lv_iload_n hx hb dR_holderOf_13 rfl (lv_at hl 2 rfl) ?_
    refine lv_isub hx hb dR_holderOf_14 ?_
    refine lv_topi (fun v_15 ev_15 => ?_)
    refine lv_istore_n (lv' := [(3, .int v_15), (2, va_rf r4), (0, va_rf (some x)), (1, .int n)]) hx hb dR_holderOf_15 rfl hl (by decide) (by simp [s_cat, s_catI, s_catL] <;> decide) (fun ls hl => ?_)
    refine s_aload_n (x := r4) hx hb dR_holderOf_16 rfl (lv_at hl 1 rfl) ?_
    refine s_ifnull (x := r4) (tgt := 40) hx hb dR_holderOf_17 (by decide) (fun c_17 => ?_) (fun b_17 c_17 => ?_)
    · skip
      subst c_17
      refine s_null hx hb dR_holderOf_40 ?_
      exact s_aret (v := none) hC hr hlocks hW dR_holderOf_41 ⟨rfl, by rw [f_holder, if_neg c_9, f_run, f_top, eb1]; simp only [v_a, Option.getD_some, er4]⟩
    · skip
      subst c_17
      have sb_17 := w_program hWT sb1 _ er4
      refine lv_iload_n hx hb dR_holderOf_20 rfl (lv_at hl 0 rfl) ?_
      refine s_aload_n (x := some b_17) hx hb dR_holderOf_21 rfl (lv_at hl 1 rfl) ?_
      refine s_geti hC hW gc_P iw_P 6 (by decide) uw_140 rfl sb_17 rfl dR_holderOf_22 ?_
      refine lv_icmp_ge (tgt := 40) hx hb dR_holderOf_25 (by decide) (fun c_25 => ?_) (fun c_25 => ?_)
      · skip
        refine s_null hx hb dR_holderOf_40 ?_
        exact s_aret (v := none) hC hr hlocks hW dR_holderOf_41 ⟨rfl, by rw [f_holder, if_neg c_9, f_run, f_top, eb1]; simp only [v_a, Option.getD_some, er4]; rw [if_pos (by rw [← ev_15]; exact c_25)]⟩
      · skip
        refine s_aload_n (x := some x) hx hb dR_holderOf_28 rfl (lv_at hl 2 rfl) ?_
        refine s_getr hC hW gc_R iw_R 8 (by decide) uw_80 rfl hX (v := some b1) eb1 dR_holderOf_29 ?_
        obtain ⟨b32, eb32, sb32⟩ := w_holders hWT sb1
        refine s_getr hC hW gc_L iw_L 5 (by decide) uw_37 rfl sb1 (v := some b32) eb32 dR_holderOf_32 ?_
        refine lv_iload_n hx hb dR_holderOf_35 rfl (lv_at hl 0 rfl) ?_
        obtain ⟨fk, hfk, efk⟩ := w_formals hWT sb_17
        obtain ⟨j, hj, ej⟩ := x_ngt hfk efk c_9 ev_15 c_25
        obtain ⟨r36, er36⟩ : ∃ r : Option Nat, g_ar S 6 b32 j = r := ⟨_, rfl⟩
        refine k_aald hC hW sb32 rfl rfl (by decide) j ej (by omega) (v := r36) er36 dR_holderOf_36 ?_
        refine lv_goto (tgt := 41) hx hb dR_holderOf_37 (by decide) ?_
        exact s_aret (v := r36) hC hr hlocks hW dR_holderOf_41 ⟨rfl, by rw [f_holder, if_neg c_9, f_run, f_top, eb1]; simp only [v_a, Option.getD_some, er4]; rw [if_neg (by rw [← ev_15]; exact c_25), ← ev_15, ej, nI_clamp (show j < 2 ^ 31 by omega), eb32]; exact er36.symm⟩
end
section
/-! R.argumentsFit -/
def f_af (S : gs_S) (h fh : Nat) : Nat → Nat → Int32
  | 0, _ => 1
  | k + 1, i => match g_ar S 6 h i with
    | some _ => f_af S h fh k (i + 1)
    | none => if g_ai S 4 fh i &&& 2 = 0 then 0 else f_af S h fh k (i + 1)
def f_fit (S : gs_S) (lv a : Nat) : Int32 := if g_i S 0 4 lv ≤ g_i S 1 6 a then f_af S (v_a (g_r S 0 5 lv)) (v_a (g_r S 1 4 a)) (g_i S 1 6 a).toNatClampNeg 0 else 0

set_option maxHeartbeats 4000000 in
set_option maxRecDepth 100000 in
theorem lp_af (l : Launch) (G : gs_G) (S : gs_S) (lv a n h fh : Nat) (hWT : w_t S) (hL : g_sh S lv = some (.inl 0)) (ha : g_sh S a = some (.inl 1)) (hn : n ≤ 16) (en : g_i S 1 6 a = nI n) (eh : g_r S 0 5 lv = some h) (sh_ : g_sh S h = some (.inr (6, 16))) (efh : g_r S 1 4 a = some fh) (sfh : g_sh S fh = some (.inr (4, 16))) {p : Program} {e : Env} {s : State} {m : MethodId} {below : List Frame} {meth : Method} {c : Code} (hC : CallFix p m c cR_argumentsFit 3 s #[va_rf (some lv), va_rf (some a)] gU yR_argumentsFit.cls) (hr : meth.sig.returnType = some .boolean) (hlocks : meth.locks = false) (hW : g_W G (g_A S s.heap.size) s S s.heap []) :
    ∀ (k : Nat) (i : Nat), i + k = n → f_af S h fh n 0 = f_af S h fh k i → ∀ (ls : Array Slot), lv_has ls 3 [(2, .int (nI i)), (0, va_rf (some lv)), (1, va_rf (some a))] → W p l e { frames := 0, cells := 0, slots := 0, locals := 0 } s m #[va_rf (some lv), va_rf (some a)] below meth c s.heap [] 0 0 (MQ below (g_Qi G S s.heap.size (fun r S' => S' = S ∧ r = f_af S h fh n 0)) #[va_rf (some lv), va_rf (some a)] s 0 0 (g_A S s.heap.size)) (F0 m 15 ls []) := by
  obtain ⟨hx, hb, hml, hown, hts⟩ := id hC
  intro k
  induction k with
  | zero =>
    intro i  hi hf ls hl
    refine lv_iload_n hx hb dR_argumentsFit_15 rfl (lv_at hl 0 rfl) ?_
    refine s_aload_n (x := some a) hx hb dR_argumentsFit_16 rfl (lv_at hl 2 rfl) ?_
    refine s_geti hC hW gc_P iw_P 6 (by decide) uw_140 rfl ha (v := nI n) en dR_argumentsFit_17 ?_
    refine lv_icmp_ge (tgt := 51) hx hb dR_argumentsFit_20 (by decide) (fun c_20 => ?_) (fun c => absurd ((nI_leI (by omega) (by omega)).mpr (by omega)) c)
    refine lv_iconst (v := 1) hx hb dR_argumentsFit_51 (by decide) ?_
    exact s_iret hC hr hlocks rfl hW dR_argumentsFit_52 ⟨rfl, by rw [hf]; rfl⟩
  | succ k ih =>
    intro i  hi hf ls hl
    refine lv_iload_n hx hb dR_argumentsFit_15 rfl (lv_at hl 0 rfl) ?_
    refine s_aload_n (x := some a) hx hb dR_argumentsFit_16 rfl (lv_at hl 2 rfl) ?_
    refine s_geti hC hW gc_P iw_P 6 (by decide) uw_140 rfl ha (v := nI n) en dR_argumentsFit_17 ?_
    refine lv_icmp_ge (tgt := 51) hx hb dR_argumentsFit_20 (by decide) (fun c => absurd ((nI_leI (by omega) (by omega)).mp c) (by omega)) (fun c_20 => ?_)
    refine s_aload_n (x := some lv) hx hb dR_argumentsFit_23 rfl (lv_at hl 1 rfl) ?_
    refine s_getr hC hW gc_L iw_L 5 (by decide) uw_37 rfl hL (v := some h) eh dR_argumentsFit_24 ?_
    refine lv_iload_n hx hb dR_argumentsFit_27 rfl (lv_at hl 0 rfl) ?_
    obtain ⟨r28, er28⟩ : ∃ r : Option Nat, g_ar S 6 h i = r := ⟨_, rfl⟩
    refine k_aald hC hW sh_ rfl rfl (by decide) i rfl (by omega) (v := r28) er28 dR_argumentsFit_28 ?_
    refine s_ifnonnull (x := r28) (tgt := 45) hx hb dR_argumentsFit_29 (by decide) (fun b_29 c_29 => ?_) (fun c_29 => ?_)
    · skip
      subst c_29
      have sb_29 := hWT.2.1 _ sh_ _ (by omega) _ er28
      refine lv_iinc (v := nI (i + 1)) (lv' := [(2, .int (nI (i + 1))), (0, va_rf (some lv)), (1, va_rf (some a))]) hx hb dR_argumentsFit_45 hl (k := 0) rfl (nI_1 _) (by decide) rfl (fun ls hl => ?_)
      refine lv_goto (tgt := 15) hx hb dR_argumentsFit_48 (by decide) ?_
      exact ih (i + 1) (by omega) (by rw [hf, f_af, er28]) ls hl
    · skip
      subst c_29
      refine s_aload_n (x := some a) hx hb dR_argumentsFit_32 rfl (lv_at hl 2 rfl) ?_
      refine s_getr hC hW gc_P iw_P 4 (by decide) uw_137 rfl ha (v := some fh) efh dR_argumentsFit_33 ?_
      refine lv_iload_n hx hb dR_argumentsFit_36 rfl (lv_at hl 0 rfl) ?_
      refine k_iald hC hW sfh rfl rfl (by decide) i rfl (by omega) rfl dR_argumentsFit_37 ?_
      refine lv_iconst (v := 2) hx hb dR_argumentsFit_38 (by decide) ?_
      refine lv_iand hx hb dR_argumentsFit_39 ?_
      refine lv_if_ne (tgt := 45) hx hb dR_argumentsFit_40 (by decide) (fun c_40 => ?_) (fun c_40 => ?_)
      · skip
        refine lv_iinc (v := nI (i + 1)) (lv' := [(2, .int (nI (i + 1))), (0, va_rf (some lv)), (1, va_rf (some a))]) hx hb dR_argumentsFit_45 hl (k := 0) rfl (nI_1 _) (by decide) rfl (fun ls hl => ?_)
        refine lv_goto (tgt := 15) hx hb dR_argumentsFit_48 (by decide) ?_
        exact ih (i + 1) (by omega) (by rw [hf, f_af, er28]; simp only []; rw [if_neg c_40]) ls hl
      · skip
        refine lv_iconst (v := 0) hx hb dR_argumentsFit_43 (by decide) ?_
        exact s_iret hC hr hlocks rfl hW dR_argumentsFit_44 ⟨rfl, by rw [hf, f_af, er28]; simp only []; rw [if_pos c_40]⟩

set_option maxHeartbeats 4000000 in
set_option maxRecDepth 100000 in
theorem c_R_argumentsFit (l : Launch) (G : gs_G) (S : gs_S) (sz : Nat) (lv a : Nat) (hWT : w_t S) (hL : g_sh S lv = some (.inl 0)) (ha : g_sh S a = some (.inl 1)) : Met l yR_argumentsFit (kR_argumentsFit :: gU) { frames := 0, cells := 0, slots := 0, locals := 0 } (g_Pc G S sz [va_rf (some lv), va_rf (some a)]) (g_Qi G S sz (fun r S' => S' = S ∧ r = f_fit S lv a)) 0 0 (g_A S sz) := by
  refine s_head (by decide) (Nat.le_of_ble_eq_true rfl) ?_
  intro p e s m below meth c ls hsz hC hr hlocks hnm hl hW
  subst hsz
  obtain ⟨hx, hb, hml, hown, hts⟩ := id hC
  have hl : lv_has ls 3 [(0, va_rf (some lv)), (1, va_rf (some a))] := hl
  refine s_aload_n (x := some lv) hx hb dR_argumentsFit_0 rfl (lv_at hl 0 rfl) ?_
  refine s_geti hC hW gc_L iw_L 4 (by decide) uw_35 rfl hL rfl dR_argumentsFit_1 ?_
  refine s_aload_n (x := some a) hx hb dR_argumentsFit_4 rfl (lv_at hl 1 rfl) ?_
  refine s_geti hC hW gc_P iw_P 6 (by decide) uw_140 rfl ha rfl dR_argumentsFit_5 ?_
  refine lv_icmp_le (tgt := 13) hx hb dR_argumentsFit_8 (by decide) (fun c_8 => ?_) (fun c_8 => ?_)
  · skip
    refine lv_iconst (v := 0) hx hb dR_argumentsFit_13 (by decide) ?_
    refine lv_istore_n (lv' := [(2, .int 0), (0, va_rf (some lv)), (1, va_rf (some a))]) hx hb dR_argumentsFit_14 rfl hl (by decide) rfl (fun ls hl => ?_)
    obtain ⟨n, hn, en⟩ := w_formals hWT ha
    obtain ⟨h, eh, sh_⟩ := w_holders hWT hL
    obtain ⟨fh, efh, sfh⟩ := w_formalHow hWT ha
    have e1 : (fun (r : Int32) (S1 : gs_S) => S1 = S ∧ r = f_fit S lv a) = (fun r S1 => S1 = S ∧ r = f_af S h fh n 0) := by funext r S1; rw [f_fit, if_pos c_8, eh, efh, en, nI_clamp (by omega)]; rfl
    rw [e1]
    exact lp_af l G S lv a n h fh hWT hL ha hn en eh sh_ efh sfh hC hr hlocks hW n 0 (by omega) rfl ls hl
  · skip
    refine lv_iconst (v := 0) hx hb dR_argumentsFit_11 (by decide) ?_
    exact s_iret hC hr hlocks rfl hW dR_argumentsFit_12 ⟨rfl, by rw [f_fit, if_neg c_8]⟩

/-! R.bytesSuffice -/
def f_bs (S : gs_S) (h by_ fb : Nat) : Nat → Nat → Int32
  | 0, _ => 1
  | k + 1, i => match g_ar S 6 h i with
    | none => f_bs S h by_ fb k (i + 1)
    | some _ => if g_ai S 5 fb i ≤ g_ai S 8 by_ i then f_bs S h by_ fb k (i + 1) else 0
def f_suf (S : gs_S) (lv a : Nat) : Int32 := f_bs S (v_a (g_r S 0 5 lv)) (v_a (g_r S 0 7 lv)) (v_a (g_r S 1 5 a)) (g_i S 1 6 a).toNatClampNeg 0

set_option maxHeartbeats 4000000 in
set_option maxRecDepth 100000 in
theorem lp_bs (l : Launch) (G : gs_G) (S : gs_S) (lv a n h by_ fb : Nat) (hWT : w_t S) (hL : g_sh S lv = some (.inl 0)) (ha : g_sh S a = some (.inl 1)) (hn : n ≤ 16) (en : g_i S 1 6 a = nI n) (eh : g_r S 0 5 lv = some h) (sh_ : g_sh S h = some (.inr (6, 16))) (eby : g_r S 0 7 lv = some by_) (sby : g_sh S by_ = some (.inr (8, 16))) (efb : g_r S 1 5 a = some fb) (sfb : g_sh S fb = some (.inr (5, 16))) {p : Program} {e : Env} {s : State} {m : MethodId} {below : List Frame} {meth : Method} {c : Code} (hC : CallFix p m c cR_bytesSuffice 3 s #[va_rf (some lv), va_rf (some a)] gU yR_bytesSuffice.cls) (hr : meth.sig.returnType = some .boolean) (hlocks : meth.locks = false) (hW : g_W G (g_A S s.heap.size) s S s.heap []) :
    ∀ (k : Nat) (i : Nat), i + k = n → f_bs S h by_ fb n 0 = f_bs S h by_ fb k i → ∀ (ls : Array Slot), lv_has ls 3 [(2, .int (nI i)), (0, va_rf (some lv)), (1, va_rf (some a))] → W p l e { frames := 0, cells := 0, slots := 0, locals := 0 } s m #[va_rf (some lv), va_rf (some a)] below meth c s.heap [] 0 0 (MQ below (g_Qi G S s.heap.size (fun r S' => S' = S ∧ r = f_bs S h by_ fb n 0)) #[va_rf (some lv), va_rf (some a)] s 0 0 (g_A S s.heap.size)) (F0 m 2 ls []) := by
  obtain ⟨hx, hb, hml, hown, hts⟩ := id hC
  intro k
  induction k with
  | zero =>
    intro i  hi hf ls hl
    refine lv_iload_n hx hb dR_bytesSuffice_2 rfl (lv_at hl 0 rfl) ?_
    refine s_aload_n (x := some a) hx hb dR_bytesSuffice_3 rfl (lv_at hl 2 rfl) ?_
    refine s_geti hC hW gc_P iw_P 6 (by decide) uw_140 rfl ha (v := nI n) en dR_bytesSuffice_4 ?_
    refine lv_icmp_ge (tgt := 42) hx hb dR_bytesSuffice_7 (by decide) (fun c_7 => ?_) (fun c => absurd ((nI_leI (by omega) (by omega)).mpr (by omega)) c)
    refine lv_iconst (v := 1) hx hb dR_bytesSuffice_42 (by decide) ?_
    exact s_iret hC hr hlocks rfl hW dR_bytesSuffice_43 ⟨rfl, by rw [hf]; rfl⟩
  | succ k ih =>
    intro i  hi hf ls hl
    refine lv_iload_n hx hb dR_bytesSuffice_2 rfl (lv_at hl 0 rfl) ?_
    refine s_aload_n (x := some a) hx hb dR_bytesSuffice_3 rfl (lv_at hl 2 rfl) ?_
    refine s_geti hC hW gc_P iw_P 6 (by decide) uw_140 rfl ha (v := nI n) en dR_bytesSuffice_4 ?_
    refine lv_icmp_ge (tgt := 42) hx hb dR_bytesSuffice_7 (by decide) (fun c => absurd ((nI_leI (by omega) (by omega)).mp c) (by omega)) (fun c_7 => ?_)
    refine s_aload_n (x := some lv) hx hb dR_bytesSuffice_10 rfl (lv_at hl 1 rfl) ?_
    refine s_getr hC hW gc_L iw_L 5 (by decide) uw_37 rfl hL (v := some h) eh dR_bytesSuffice_11 ?_
    refine lv_iload_n hx hb dR_bytesSuffice_14 rfl (lv_at hl 0 rfl) ?_
    obtain ⟨r15, er15⟩ : ∃ r : Option Nat, g_ar S 6 h i = r := ⟨_, rfl⟩
    refine k_aald hC hW sh_ rfl rfl (by decide) i rfl (by omega) (v := r15) er15 dR_bytesSuffice_15 ?_
    refine s_ifnull (x := r15) (tgt := 36) hx hb dR_bytesSuffice_16 (by decide) (fun c_16 => ?_) (fun b_16 c_16 => ?_)
    · skip
      subst c_16
      refine lv_iinc (v := nI (i + 1)) (lv' := [(2, .int (nI (i + 1))), (0, va_rf (some lv)), (1, va_rf (some a))]) hx hb dR_bytesSuffice_36 hl (k := 0) rfl (nI_1 _) (by decide) rfl (fun ls hl => ?_)
      refine lv_goto (tgt := 2) hx hb dR_bytesSuffice_39 (by decide) ?_
      exact ih (i + 1) (by omega) (by rw [hf, f_bs, er15]) ls hl
    · skip
      subst c_16
      have sb_16 := hWT.2.1 _ sh_ _ (by omega) _ er15
      refine s_aload_n (x := some lv) hx hb dR_bytesSuffice_19 rfl (lv_at hl 1 rfl) ?_
      refine s_getr hC hW gc_L iw_L 7 (by decide) uw_41 rfl hL (v := some by_) eby dR_bytesSuffice_20 ?_
      refine lv_iload_n hx hb dR_bytesSuffice_23 rfl (lv_at hl 0 rfl) ?_
      refine k_iald hC hW sby rfl rfl (by decide) i rfl (by omega) rfl dR_bytesSuffice_24 ?_
      refine s_aload_n (x := some a) hx hb dR_bytesSuffice_25 rfl (lv_at hl 2 rfl) ?_
      refine s_getr hC hW gc_P iw_P 5 (by decide) uw_139 rfl ha (v := some fb) efb dR_bytesSuffice_26 ?_
      refine lv_iload_n hx hb dR_bytesSuffice_29 rfl (lv_at hl 0 rfl) ?_
      refine k_iald hC hW sfb rfl rfl (by decide) i rfl (by omega) rfl dR_bytesSuffice_30 ?_
      refine lv_icmp_ge (tgt := 36) hx hb dR_bytesSuffice_31 (by decide) (fun c_31 => ?_) (fun c_31 => ?_)
      · skip
        refine lv_iinc (v := nI (i + 1)) (lv' := [(2, .int (nI (i + 1))), (0, va_rf (some lv)), (1, va_rf (some a))]) hx hb dR_bytesSuffice_36 hl (k := 0) rfl (nI_1 _) (by decide) rfl (fun ls hl => ?_)
        refine lv_goto (tgt := 2) hx hb dR_bytesSuffice_39 (by decide) ?_
        exact ih (i + 1) (by omega) (by rw [hf, f_bs, er15]; simp only []; rw [if_pos c_31]) ls hl
      · skip
        refine lv_iconst (v := 0) hx hb dR_bytesSuffice_34 (by decide) ?_
        exact s_iret hC hr hlocks rfl hW dR_bytesSuffice_35 ⟨rfl, by rw [hf, f_bs, er15]; simp only []; rw [if_neg c_31]⟩

set_option maxHeartbeats 4000000 in
set_option maxRecDepth 100000 in
theorem c_R_bytesSuffice (l : Launch) (G : gs_G) (S : gs_S) (sz : Nat) (lv a : Nat) (hWT : w_t S) (hL : g_sh S lv = some (.inl 0)) (ha : g_sh S a = some (.inl 1)) : Met l yR_bytesSuffice (kR_bytesSuffice :: gU) { frames := 0, cells := 0, slots := 0, locals := 0 } (g_Pc G S sz [va_rf (some lv), va_rf (some a)]) (g_Qi G S sz (fun r S' => S' = S ∧ r = f_suf S lv a)) 0 0 (g_A S sz) := by
  refine s_head (by decide) (Nat.le_of_ble_eq_true rfl) ?_
  intro p e s m below meth c ls hsz hC hr hlocks hnm hl hW
  subst hsz
  obtain ⟨hx, hb, hml, hown, hts⟩ := id hC
  have hl : lv_has ls 3 [(0, va_rf (some lv)), (1, va_rf (some a))] := hl
  refine lv_iconst (v := 0) hx hb dR_bytesSuffice_0 (by decide) ?_
  refine lv_istore_n (lv' := [(2, .int 0), (0, va_rf (some lv)), (1, va_rf (some a))]) hx hb dR_bytesSuffice_1 rfl hl (by decide) rfl (fun ls hl => ?_)
  obtain ⟨n, hn, en⟩ := w_formals hWT ha
  obtain ⟨h, eh, sh_⟩ := w_holders hWT hL
  obtain ⟨by_, eby, sby⟩ := w_bytes hWT hL
  obtain ⟨fb, efb, sfb⟩ := w_formalBytes hWT ha
  have e1 : (fun (r : Int32) (S1 : gs_S) => S1 = S ∧ r = f_suf S lv a) = (fun r S1 => S1 = S ∧ r = f_bs S h by_ fb n 0) := by funext r S1; rw [f_suf, eh, eby, efb, en, nI_clamp (by omega)]; rfl
  rw [e1]
  exact lp_bs l G S lv a n h by_ fb hWT hL ha hn en eh sh_ eby sby efb sfb hC hr hlocks hW n 0 (by omega) rfl ls hl

/-! R.anyActiveOf -/
def f_aa (S : gs_S) (pa co : Nat) : Nat → Nat → Int32
  | 0, _ => 0
  | k + 1, i => match g_ar S 0 pa i with
    | none => f_aa S pa co k (i + 1)
    | some p => match g_r S 1 8 p with
      | none => f_aa S pa co k (i + 1)
      | some _ => if f_li S 61 (some p) (some co) = 0 then f_aa S pa co k (i + 1) else 1
def f_any (S : gs_S) (x co : Nat) : Int32 := f_aa S (v_a (g_r S 2 1 x)) co (g_i S 2 2 x).toNatClampNeg 1

set_option maxHeartbeats 4000000 in
set_option maxRecDepth 100000 in
theorem lp_aa (l : Launch) (G : gs_G) (S : gs_S) (x co n pa : Nat) (hWT : w_t S) (hX : g_sh S x = some (.inl 2)) (hco : g_sh S co = some (.inl 1)) (hn : n ≤ 60) (en : g_i S 2 2 x = nI n) (epa : g_r S 2 1 x = some pa) (spa : g_sh S pa = some (.inr (0, 61))) {p : Program} {e : Env} {s : State} {m : MethodId} {below : List Frame} {meth : Method} {c : Code} (hC : CallFix p m c cR_anyActiveOf 4 s #[va_rf (some x), va_rf (some co)] gU yR_anyActiveOf.cls) (hr : meth.sig.returnType = some .boolean) (hlocks : meth.locks = false) :
    ∀ (k : Nat) (i : Nat), i + k = n + 1 → 1 ≤ i → f_aa S pa co n 1 = f_aa S pa co k i → ∀ (ls : Array Slot), lv_has ls 4 [(2, .int (nI i)), (0, va_rf (some x)), (1, va_rf (some co))] → ∀ (H : Heap) (locs : List Loc), g_W G (g_A S s.heap.size) s S H locs → W p l e { frames := 1, cells := 0, slots := 0, locals := 22 } s m #[va_rf (some x), va_rf (some co)] below meth c H locs 0 0 (MQ below (g_Qi G S s.heap.size (fun r S' => S' = S ∧ r = f_aa S pa co n 1)) #[va_rf (some x), va_rf (some co)] s 0 0 (g_A S s.heap.size)) (F0 m 2 ls []) := by
  obtain ⟨hx, hb, hml, hown, hts⟩ := id hC
  intro k
  induction k with
  | zero =>
    intro i  hi hi1 hf ls hl H locs hW
    refine lv_iload_n hx hb dR_anyActiveOf_2 rfl (lv_at hl 0 rfl) ?_
    refine s_aload_n (x := some x) hx hb dR_anyActiveOf_3 rfl (lv_at hl 1 rfl) ?_
    refine s_geti hC hW gc_R iw_R 2 (by decide) uw_74 rfl hX (v := nI n) en dR_anyActiveOf_4 ?_
    refine lv_icmp_gt (tgt := 44) hx hb dR_anyActiveOf_7 (by decide) (fun c_7 => ?_) (fun c => absurd ((nI_ltI (by omega) (by omega)).mpr (by omega)) c)
    refine lv_iconst (v := 0) hx hb dR_anyActiveOf_44 (by decide) ?_
    exact s_iret hC hr hlocks rfl hW dR_anyActiveOf_45 ⟨rfl, by rw [hf]; rfl⟩
  | succ k ih =>
    intro i  hi hi1 hf ls hl H locs hW
    refine lv_iload_n hx hb dR_anyActiveOf_2 rfl (lv_at hl 0 rfl) ?_
    refine s_aload_n (x := some x) hx hb dR_anyActiveOf_3 rfl (lv_at hl 1 rfl) ?_
    refine s_geti hC hW gc_R iw_R 2 (by decide) uw_74 rfl hX (v := nI n) en dR_anyActiveOf_4 ?_
    refine lv_icmp_gt (tgt := 44) hx hb dR_anyActiveOf_7 (by decide) (fun c => absurd ((nI_ltI (by omega) (by omega)).mp c) (by omega)) (fun c_7 => ?_)
    refine s_aload_n (x := some x) hx hb dR_anyActiveOf_10 rfl (lv_at hl 1 rfl) ?_
    refine s_getr hC hW gc_R iw_R 1 (by decide) uw_73 rfl hX (v := some pa) epa dR_anyActiveOf_11 ?_
    refine lv_iload_n hx hb dR_anyActiveOf_14 rfl (lv_at hl 0 rfl) ?_
    obtain ⟨r15, er15⟩ : ∃ r : Option Nat, g_ar S 0 pa i = r := ⟨_, rfl⟩
    refine k_aald hC hW spa rfl rfl (by decide) i rfl (by omega) (v := r15) er15 dR_anyActiveOf_15 ?_
    refine s_astore_n (x := r15) (lv' := [(3, va_rf r15), (2, .int (nI i)), (0, va_rf (some x)), (1, va_rf (some co))]) hx hb dR_anyActiveOf_16 rfl hl (by decide) rfl (fun ls hl => ?_)
    refine s_aload_n (x := r15) hx hb dR_anyActiveOf_17 rfl (lv_at hl 0 rfl) ?_
    refine s_ifnull (x := r15) (tgt := 38) hx hb dR_anyActiveOf_18 (by decide) (fun c_18 => ?_) (fun b_18 c_18 => ?_)
    · skip
      subst c_18
      refine lv_iinc (v := nI (i + 1)) (lv' := [(2, .int (nI (i + 1))), (3, va_rf none), (0, va_rf (some x)), (1, va_rf (some co))]) hx hb dR_anyActiveOf_38 hl (k := 1) rfl (nI_1 _) (by decide) rfl (fun ls hl => ?_)
      refine lv_goto (tgt := 2) hx hb dR_anyActiveOf_41 (by decide) ?_
      exact ih (i + 1) (by omega) (by omega) (by rw [hf, f_aa, er15]) ls (lv_sub hl [0, 2, 3] rfl) H locs hW
    · skip
      subst c_18
      have sb_18 := hWT.2.2.2.2.1.1 _ spa _ (by omega) _ er15
      refine s_aload_n (x := some b_18) hx hb dR_anyActiveOf_21 rfl (lv_at hl 0 rfl) ?_
      obtain ⟨r22, er22⟩ : ∃ r : Option Nat, g_r S 1 8 b_18 = r := ⟨_, rfl⟩
      refine s_getr hC hW gc_P iw_P 8 (by decide) uw_142 rfl sb_18 (v := r22) er22 dR_anyActiveOf_22 ?_
      refine s_ifnull (x := r22) (tgt := 38) hx hb dR_anyActiveOf_25 (by decide) (fun c_25 => ?_) (fun b_25 c_25 => ?_)
      · skip
        subst c_25
        refine lv_iinc (v := nI (i + 1)) (lv' := [(2, .int (nI (i + 1))), (3, va_rf (some b_18)), (0, va_rf (some x)), (1, va_rf (some co))]) hx hb dR_anyActiveOf_38 hl (k := 1) rfl (nI_1 _) (by decide) rfl (fun ls hl => ?_)
        refine lv_goto (tgt := 2) hx hb dR_anyActiveOf_41 (by decide) ?_
        exact ih (i + 1) (by omega) (by omega) (by rw [hf, f_aa, er15]; simp only [er22]) ls (lv_sub hl [0, 2, 3] rfl) H locs hW
      · skip
        subst c_25
        have sb_25 := w_latest hWT sb_18 _ er22
        refine s_aload_n (x := some b_18) hx hb dR_anyActiveOf_28 rfl (lv_at hl 0 rfl) ?_
        refine s_aload_n (x := some co) hx hb dR_anyActiveOf_29 rfl (lv_at hl 3 rfl) ?_
        refine s_calli hW (s_runV (n := 1) (As := [va_rf (some co)]) (rest := []) hC (c_P_isOrLiesIn l G S H.size b_18 (some co) hWT sb_18) uc_P_isOrLiesIn uw_200 uw_201 uw_202 uw_5 rfl rfl (by decide +kernel) ⟨by decide, by decide⟩ (g_preV hW gc_P sb_18 [va_rf (some co)]) rfl hl.1 rfl (Nat.le_of_ble_eq_true rfl) dR_anyActiveOf_30 ⟨Nat.le_of_ble_eq_true rfl, Nat.le_of_ble_eq_true rfl⟩) (fun q30 S30 H locs hp30 hW => ?_)
        obtain ⟨hs30, rfl⟩ := hp30
        replace hs30 := hs30.symm
        subst hs30
        refine lv_if_eq (tgt := 38) hx hb dR_anyActiveOf_33 (by decide) (fun c_33 => ?_) (fun c_33 => ?_)
        · skip
          refine lv_iinc (v := nI (i + 1)) (lv' := [(2, .int (nI (i + 1))), (3, va_rf (some b_18)), (0, va_rf (some x)), (1, va_rf (some co))]) hx hb dR_anyActiveOf_38 hl (k := 1) rfl (nI_1 _) (by decide) rfl (fun ls hl => ?_)
          refine lv_goto (tgt := 2) hx hb dR_anyActiveOf_41 (by decide) ?_
          exact ih (i + 1) (by omega) (by omega) (by rw [hf, f_aa, er15]; simp only [er22]; rw [if_pos c_33]) ls (lv_sub hl [0, 2, 3] rfl) H locs hW
        · skip
          refine lv_iconst (v := 1) hx hb dR_anyActiveOf_36 (by decide) ?_
          exact s_iret hC hr hlocks rfl hW dR_anyActiveOf_37 ⟨rfl, by rw [hf, f_aa, er15]; simp only [er22]; rw [if_neg c_33]⟩

set_option maxHeartbeats 4000000 in
set_option maxRecDepth 100000 in
theorem c_R_anyActiveOf (l : Launch) (G : gs_G) (S : gs_S) (sz : Nat) (x co : Nat) (hWT : w_t S) (hX : g_sh S x = some (.inl 2)) (hco : g_sh S co = some (.inl 1)) : Met l yR_anyActiveOf (kR_anyActiveOf :: gU) { frames := 1, cells := 0, slots := 0, locals := 22 } (g_Pc G S sz [va_rf (some x), va_rf (some co)]) (g_Qi G S sz (fun r S' => S' = S ∧ r = f_any S x co)) 0 0 (g_A S sz) := by
  refine s_head (by decide) (Nat.le_of_ble_eq_true rfl) ?_
  intro p e s m below meth c ls hsz hC hr hlocks hnm hl hW
  subst hsz
  obtain ⟨hx, hb, hml, hown, hts⟩ := id hC
  have hl : lv_has ls 4 [(0, va_rf (some x)), (1, va_rf (some co))] := hl
  refine lv_iconst (v := 1) hx hb dR_anyActiveOf_0 (by decide) ?_
  refine lv_istore_n (lv' := [(2, .int 1), (0, va_rf (some x)), (1, va_rf (some co))]) hx hb dR_anyActiveOf_1 rfl hl (by decide) rfl (fun ls hl => ?_)
  obtain ⟨n, hn, en⟩ := w_programCount hWT hX
  obtain ⟨pa, epa, spa⟩ := w_programs hWT hX
  have e1 : (fun (r : Int32) (S1 : gs_S) => S1 = S ∧ r = f_any S x co) = (fun r S1 => S1 = S ∧ r = f_aa S pa co n 1) := by funext r S1; rw [f_any, epa, en, nI_clamp (by omega)]; rfl
  rw [e1]
  exact lp_aa l G S x co n pa hWT hX hco hn en epa spa hC hr hlocks n 1 (by omega) (by omega) rfl ls hl _ _ hW
end
section
/-! L.begin -/
def f_nul (S : gs_S) (h : Nat) : Nat → gs_S
  | 0 => S
  | k + 1 => p_ar (f_nul S h k) 6 h k none
theorem f_nul_sh (S : gs_S) (h k b : Nat) : g_sh (f_nul S h k) b = g_sh S b := by induction k with
  | zero => rfl
  | succ k ih => exact ih
theorem f_nul_r (S : gs_S) (h k c j b : Nat) : g_r (f_nul S h k) c j b = g_r S c j b := by induction k with
  | zero => rfl
  | succ k ih => exact ih
theorem f_nul_i (S : gs_S) (h k c j b : Nat) : g_i (f_nul S h k) c j b = g_i S c j b := by induction k with
  | zero => rfl
  | succ k ih => exact ih
theorem wt_nul {S : gs_S} (hw : w_t S) (h : Nat) : ∀ k : Nat, w_t (f_nul S h k) := by
  intro k
  induction k with
  | zero => exact hw
  | succ k ih => exact wt_par ih (fun _ _ z => by cases z) (fun z => absurd z (by decide)) (fun z => absurd z (by decide))
def f_begin (S : gs_S) (a : Nat) (p : Option Nat) : gs_S := f_nul (p_i (p_r S 0 2 a p) 0 4 a 0) (v_a (g_r S 0 5 a)) 16
theorem wt_begin {S : gs_S} {a : Nat} {p : Option Nat} (hw : w_t S) (hp : t_o S 1 p) : w_t (f_begin S a p) := by
  unfold f_begin
  refine wt_nul (wt_pi (wt_pr hw (fun _ => Or.inr ⟨rfl, hp⟩) (fun z => absurd z (by decide)) (fun z => absurd z (by decide))) (fun _ _ => ⟨0, by omega, rfl⟩) (fun z => absurd z (by decide)) (fun z => absurd z.1 (by decide)) (fun z => absurd z (by decide)) (fun z => absurd z (by decide))) _ 16

set_option maxHeartbeats 4000000 in
set_option maxRecDepth 100000 in
theorem lp_begin (l : Launch) (G : gs_G) (S : gs_S) (a q h : Nat) (ha : g_sh S a = some (.inl 0)) (eh : g_r S 0 5 a = some h) (sh_ : g_sh S h = some (.inr (6, 16))) {p : Program} {e : Env} {s : State} {m : MethodId} {below : List Frame} {meth : Method} {c : Code} (hC : CallFix p m c cL_begin 3 s #[va_rf (some a), va_rf (some q)] gU yL_begin.cls) (hr : meth.sig.returnType = none) (hlocks : meth.locks = false) :
    ∀ (k : Nat) (i : Nat), i + k = 16 → ∀ (ls : Array Slot), lv_has ls 3 [(2, .int (nI i)), (0, va_rf (some a)), (1, va_rf (some q))] → ∀ (H : Heap) (locs : List Loc), g_W G (g_A S s.heap.size) s (f_nul (p_i (p_r S 0 2 a (some q)) 0 4 a 0) h i) H locs → W p l e { frames := 0, cells := 0, slots := 0, locals := 0 } s m #[va_rf (some a), va_rf (some q)] below meth c H locs 0 0 (MQ below (g_Qv G S s.heap.size (fun S' => S' = f_begin S a (some q))) #[va_rf (some a), va_rf (some q)] s 0 0 (g_A S s.heap.size)) (F0 m 12 ls []) := by
  obtain ⟨hx, hb, hml, hown, hts⟩ := id hC
  intro k
  induction k with
  | zero =>
    intro i  hi ls hl H locs hW
    refine lv_iload_n hx hb dL_begin_12 rfl (lv_at hl 0 rfl) ?_
    refine lv_bipush (v := 16) hx hb dL_begin_13 (by decide) ?_
    refine lv_icmp_ge (tgt := 31) hx hb dL_begin_15 (by decide) (fun c_15 => ?_) (fun c => absurd ((nI_leI (a := 16) (by omega) (by omega)).mpr (by omega)) c)
    obtain rfl : i = 16 := by omega
    exact s_vret hC hr hlocks hW dL_begin_31 (by rw [f_begin, eh]; rfl)
  | succ k ih =>
    intro i  hi ls hl H locs hW
    refine lv_iload_n hx hb dL_begin_12 rfl (lv_at hl 0 rfl) ?_
    refine lv_bipush (v := 16) hx hb dL_begin_13 (by decide) ?_
    refine lv_icmp_ge (tgt := 31) hx hb dL_begin_15 (by decide) (fun c => absurd ((nI_leI (a := 16) (by omega) (by omega)).mp c) (by omega)) (fun c_15 => ?_)
    refine s_aload_n (x := some a) hx hb dL_begin_18 rfl (lv_at hl 1 rfl) ?_
    refine s_getr hC hW gc_L iw_L 5 (by decide) uw_36 rfl ((f_nul_sh _ _ _ _).trans ha) (v := some h) ((f_nul_r _ _ _ _ _ _).trans eh) dL_begin_19 ?_
    refine lv_iload_n hx hb dL_begin_22 rfl (lv_at hl 0 rfl) ?_
    refine s_null hx hb dL_begin_23 ?_
    refine k_aast (x := none) hC hW gc_L ((f_nul_sh _ _ _ _).trans sh_) rfl rfl (by decide) (fun _ q => by cases q) i rfl (by omega) dL_begin_24 (fun H locs hW => ?_)
    refine lv_iinc (v := nI (i + 1)) (lv' := [(2, .int (nI (i + 1))), (0, va_rf (some a)), (1, va_rf (some q))]) hx hb dL_begin_25 hl (k := 0) rfl (nI_1 _) (by decide) rfl (fun ls hl => ?_)
    refine lv_goto (tgt := 12) hx hb dL_begin_28 (by decide) ?_
    exact ih (i + 1) (by omega) ls hl H locs hW

set_option maxHeartbeats 4000000 in
set_option maxRecDepth 100000 in
theorem c_L_begin (l : Launch) (G : gs_G) (S : gs_S) (sz : Nat) (a q : Nat) (hWT : w_t S) (ha : g_sh S a = some (.inl 0)) (hq : g_sh S q = some (.inl 1)) : Met l yL_begin (kL_begin :: gU) { frames := 0, cells := 0, slots := 0, locals := 0 } (g_Pc G S sz [va_rf (some a), va_rf (some q)]) (g_Qv G S sz (fun S' => S' = f_begin S a (some q))) 0 0 (g_A S sz) := by
  refine s_head (by decide) (Nat.le_of_ble_eq_true rfl) ?_
  intro p e s m below meth c ls hsz hC hr hlocks hnm hl hW
  subst hsz
  obtain ⟨hx, hb, hml, hown, hts⟩ := id hC
  have hl : lv_has ls 3 [(0, va_rf (some a)), (1, va_rf (some q))] := hl
  refine s_aload_n (x := some a) hx hb dL_begin_0 rfl (lv_at hl 0 rfl) ?_
  refine s_aload_n (x := some q) hx hb dL_begin_1 rfl (lv_at hl 1 rfl) ?_
  refine s_putr (v := some q) hC hW gc_L iw_L 2 (by decide) uw_31 (Or.inl rfl) (g_nr _) (g_ft _) rfl ha dL_begin_2 (fun H locs hW => ?_)
  refine s_aload_n (x := some a) hx hb dL_begin_5 rfl (lv_at hl 0 rfl) ?_
  refine lv_iconst (v := 0) hx hb dL_begin_6 (by decide) ?_
  refine s_puti hC hW gc_L iw_L 4 (by decide) uw_34 (Or.inl rfl) rfl rfl rfl ha dL_begin_7 (fun H locs hW => ?_)
  refine lv_iconst (v := 0) hx hb dL_begin_10 (by decide) ?_
  refine lv_istore_n (lv' := [(2, .int 0), (0, va_rf (some a)), (1, va_rf (some q))]) hx hb dL_begin_11 rfl hl (by decide) rfl (fun ls hl => ?_)
  obtain ⟨h, eh, sh_⟩ := w_holders hWT ha
  exact lp_begin l G S a q h ha eh sh_ hC hr hlocks 16 0 (by omega) ls hl _ _ hW

/-! R.copyValues -/
theorem f_copy_sh (S : gs_S) (a j b : Nat) : g_sh (f_copy S a j) b = g_sh S b := by unfold f_copy; split <;> rfl
theorem f_copy_r (S : gs_S) (a j c k b : Nat) : g_r (f_copy S a j) c k b = g_r S c k b := by unfold f_copy; split <;> rfl
theorem f_copy_i (S : gs_S) (a j c k b : Nat) : g_i (f_copy S a j) c k b = g_i S c k b := by unfold f_copy; split <;> rfl
def f_cv (lv fh : Nat) : Nat → Nat → gs_S → gs_S
  | 0, _, T => T
  | k + 1, i, T => f_cv lv fh k (i + 1) (if g_ai T 4 fh i &&& 1 = 0 then T else f_copy T lv i)
def f_cvs (S : gs_S) (lv a : Nat) : gs_S := f_cv lv (v_a (g_r S 1 4 a)) (g_i S 1 6 a).toNatClampNeg 0 S

set_option maxHeartbeats 4000000 in
set_option maxRecDepth 100000 in
theorem lp_cv (l : Launch) (G : gs_G) (S : gs_S) (lv a n fh : Nat) (hL : g_sh S lv = some (.inl 0)) (ha : g_sh S a = some (.inl 1)) (hn : n ≤ 16) (sfh : g_sh S fh = some (.inr (4, 16))) {p : Program} {e : Env} {s : State} {m : MethodId} {below : List Frame} {meth : Method} {c : Code} (hC : CallFix p m c cR_copyValues 3 s #[va_rf (some lv), va_rf (some a)] gU yR_copyValues.cls) (hr : meth.sig.returnType = none) (hlocks : meth.locks = false) :
    ∀ (k : Nat) (i : Nat) (T : gs_S), i + k = n → w_t T → (∀ b : Nat, g_sh T b = g_sh S b) → g_i T 1 6 a = nI n → g_r T 1 4 a = some fh → f_cv lv fh n 0 S = f_cv lv fh k i T → ∀ (ls : Array Slot), lv_has ls 3 [(2, .int (nI i)), (0, va_rf (some lv)), (1, va_rf (some a))] → ∀ (H : Heap) (locs : List Loc), g_W G (g_A S s.heap.size) s T H locs → W p l e { frames := 1, cells := 0, slots := 0, locals := 22 } s m #[va_rf (some lv), va_rf (some a)] below meth c H locs 0 0 (MQ below (g_Qv G S s.heap.size (fun S' => S' = f_cv lv fh n 0 S)) #[va_rf (some lv), va_rf (some a)] s 0 0 (g_A S s.heap.size)) (F0 m 2 ls []) := by
  obtain ⟨hx, hb, hml, hown, hts⟩ := id hC
  intro k
  induction k with
  | zero =>
    intro i  T  hi hT hs en efh hf ls hl H locs hW
    refine lv_iload_n hx hb dR_copyValues_2 rfl (lv_at hl 0 rfl) ?_
    refine s_aload_n (x := some a) hx hb dR_copyValues_3 rfl (lv_at hl 2 rfl) ?_
    refine s_geti hC hW gc_P iw_P 6 (by decide) uw_140 rfl ((hs a).trans ha) (v := nI n) en dR_copyValues_4 ?_
    refine lv_icmp_ge (tgt := 32) hx hb dR_copyValues_7 (by decide) (fun c_7 => ?_) (fun c => absurd ((nI_leI (by omega) (by omega)).mpr (by omega)) c)
    exact s_vret hC hr hlocks hW dR_copyValues_32 (by rw [hf]; rfl)
  | succ k ih =>
    intro i  T  hi hT hs en efh hf ls hl H locs hW
    refine lv_iload_n hx hb dR_copyValues_2 rfl (lv_at hl 0 rfl) ?_
    refine s_aload_n (x := some a) hx hb dR_copyValues_3 rfl (lv_at hl 2 rfl) ?_
    refine s_geti hC hW gc_P iw_P 6 (by decide) uw_140 rfl ((hs a).trans ha) (v := nI n) en dR_copyValues_4 ?_
    refine lv_icmp_ge (tgt := 32) hx hb dR_copyValues_7 (by decide) (fun c => absurd ((nI_leI (by omega) (by omega)).mp c) (by omega)) (fun c_7 => ?_)
    refine s_aload_n (x := some a) hx hb dR_copyValues_10 rfl (lv_at hl 2 rfl) ?_
    refine s_getr hC hW gc_P iw_P 4 (by decide) uw_137 rfl ((hs a).trans ha) (v := some fh) efh dR_copyValues_11 ?_
    refine lv_iload_n hx hb dR_copyValues_14 rfl (lv_at hl 0 rfl) ?_
    refine k_iald hC hW ((hs fh).trans sfh) rfl rfl (by decide) i rfl (by omega) rfl dR_copyValues_15 ?_
    refine lv_iconst (v := 1) hx hb dR_copyValues_16 (by decide) ?_
    refine lv_iand hx hb dR_copyValues_17 ?_
    refine lv_if_eq (tgt := 26) hx hb dR_copyValues_18 (by decide) (fun c_18 => ?_) (fun c_18 => ?_)
    · skip
      refine lv_iinc (v := nI (i + 1)) (lv' := [(2, .int (nI (i + 1))), (0, va_rf (some lv)), (1, va_rf (some a))]) hx hb dR_copyValues_26 hl (k := 0) rfl (nI_1 _) (by decide) rfl (fun ls hl => ?_)
      refine lv_goto (tgt := 2) hx hb dR_copyValues_29 (by decide) ?_
      exact ih (i + 1) T (by omega) hT hs en efh (by rw [hf, f_cv, if_pos c_18]) ls hl H locs hW
    · skip
      refine s_aload_n (x := some lv) hx hb dR_copyValues_21 rfl (lv_at hl 1 rfl) ?_
      refine lv_iload_n hx hb dR_copyValues_22 rfl (lv_at hl 0 rfl) ?_
      refine s_callv hW (s_runV (n := 1) (As := [.int (nI i)]) (rest := []) hC (c_L_copy l G T H.size lv i hT ((hs lv).trans hL) (by omega)) uc_L_copy uw_234 uw_235 uw_236 uw_2 rfl rfl (by decide +kernel) ⟨by decide, by decide⟩ (g_preV hW gc_L ((hs lv).trans hL) [.int (nI i)]) rfl hl.1 rfl (Nat.le_of_ble_eq_true rfl) dR_copyValues_23 ⟨Nat.le_of_ble_eq_true rfl, Nat.le_of_ble_eq_true rfl⟩) (fun S23 H locs hp23 hW => ?_)
      subst hp23
      refine lv_iinc (v := nI (i + 1)) (lv' := [(2, .int (nI (i + 1))), (0, va_rf (some lv)), (1, va_rf (some a))]) hx hb dR_copyValues_26 hl (k := 0) rfl (nI_1 _) (by decide) rfl (fun ls hl => ?_)
      refine lv_goto (tgt := 2) hx hb dR_copyValues_29 (by decide) ?_
      exact ih (i + 1) (f_copy T lv i) (by omega) (wt_copy hT ((hs lv).trans hL) (by omega)) (fun b => (f_copy_sh T lv i b).trans (hs b)) ((f_copy_i T lv i _ _ _).trans en) ((f_copy_r T lv i _ _ _).trans efh) (by rw [hf, f_cv, if_neg c_18]) ls hl H locs hW

set_option maxHeartbeats 4000000 in
set_option maxRecDepth 100000 in
theorem c_R_copyValues (l : Launch) (G : gs_G) (S : gs_S) (sz : Nat) (lv a : Nat) (hWT : w_t S) (hL : g_sh S lv = some (.inl 0)) (ha : g_sh S a = some (.inl 1)) : Met l yR_copyValues (kR_copyValues :: gU) { frames := 1, cells := 0, slots := 0, locals := 22 } (g_Pc G S sz [va_rf (some lv), va_rf (some a)]) (g_Qv G S sz (fun S' => S' = f_cvs S lv a)) 0 0 (g_A S sz) := by
  refine s_head (by decide) (Nat.le_of_ble_eq_true rfl) ?_
  intro p e s m below meth c ls hsz hC hr hlocks hnm hl hW
  subst hsz
  obtain ⟨hx, hb, hml, hown, hts⟩ := id hC
  have hl : lv_has ls 3 [(0, va_rf (some lv)), (1, va_rf (some a))] := hl
  refine lv_iconst (v := 0) hx hb dR_copyValues_0 (by decide) ?_
  refine lv_istore_n (lv' := [(2, .int 0), (0, va_rf (some lv)), (1, va_rf (some a))]) hx hb dR_copyValues_1 rfl hl (by decide) rfl (fun ls hl => ?_)
  obtain ⟨n, hn, en⟩ := w_formals hWT ha
  obtain ⟨fh, efh, sfh⟩ := w_formalHow hWT ha
  have e1 : (fun (S1 : gs_S) => S1 = f_cvs S lv a) = (fun S1 => S1 = f_cv lv fh n 0 S) := by funext S1; rw [f_cvs, efh, en, nI_clamp (by omega)]; rfl
  rw [e1]
  exact lp_cv l G S lv a n fh hL ha hn sfh hC hr hlocks n 0 S (by omega) hWT (fun _ => rfl) en efh rfl ls hl _ _ hW

/-! R.giveFirstValues -/
def f_gv (S : gs_S) (vd ow fv a n : Nat) : gs_S := (S.1, S.2.1, S.2.2.1, S.2.2.2.1, S.2.2.2.2.1, fun r b j => if r = 9 ∧ b = vd ∧ 16 ≤ j ∧ j < 16 + n ∧ g_ar S 1 ow (j - 16) = some a then g_al S 2 fv (j - 16) else g_al S r b j, S.2.2.2.2.2.2)
theorem f_gv_0 (S : gs_S) (vd ow fv a : Nat) : f_gv S vd ow fv a 0 = S := by
  have h : (fun r b j => if r = 9 ∧ b = vd ∧ 16 ≤ j ∧ j < 16 + 0 ∧ g_ar S 1 ow (j - 16) = some a then g_al S 2 fv (j - 16) else g_al S r b j) = S.2.2.2.2.2.1 := by
    funext r b j
    rw [if_neg (fun z => by omega)]
    rfl
  unfold f_gv
  rw [h]
theorem f_gv_n {S : gs_S} {vd ow fv a n : Nat} (h : ¬ g_ar S 1 ow n = some a) : f_gv S vd ow fv a (n + 1) = f_gv S vd ow fv a n := by
  have e : (fun r b j => if r = 9 ∧ b = vd ∧ 16 ≤ j ∧ j < 16 + (n + 1) ∧ g_ar S 1 ow (j - 16) = some a then g_al S 2 fv (j - 16) else g_al S r b j) = (fun r b j => if r = 9 ∧ b = vd ∧ 16 ≤ j ∧ j < 16 + n ∧ g_ar S 1 ow (j - 16) = some a then g_al S 2 fv (j - 16) else g_al S r b j) := by
    funext r b j
    by_cases hj : j = 16 + n
    · subst hj
      rw [if_neg (fun z => h (by have := z.2.2.2.2; rwa [Nat.add_sub_cancel_left] at this)), if_neg (fun z => by omega)]
    · have : (r = 9 ∧ b = vd ∧ 16 ≤ j ∧ j < 16 + (n + 1) ∧ g_ar S 1 ow (j - 16) = some a) ↔ (r = 9 ∧ b = vd ∧ 16 ≤ j ∧ j < 16 + n ∧ g_ar S 1 ow (j - 16) = some a) := ⟨fun z => ⟨z.1, z.2.1, z.2.2.1, by omega, z.2.2.2.2⟩, fun z => ⟨z.1, z.2.1, z.2.2.1, by omega, z.2.2.2.2⟩⟩
      simp only [this]
  unfold f_gv
  rw [e]
theorem f_gv_y {S : gs_S} {vd ow fv a n : Nat} (h : g_ar S 1 ow n = some a) : f_gv S vd ow fv a (n + 1) = p_al (f_gv S vd ow fv a n) 9 vd (16 + n) (g_al S 2 fv n) := by
  have e : (fun r b j => if r = 9 ∧ b = vd ∧ 16 ≤ j ∧ j < 16 + (n + 1) ∧ g_ar S 1 ow (j - 16) = some a then g_al S 2 fv (j - 16) else g_al S r b j) = u_3 (fun r b j => if r = 9 ∧ b = vd ∧ 16 ≤ j ∧ j < 16 + n ∧ g_ar S 1 ow (j - 16) = some a then g_al S 2 fv (j - 16) else g_al S r b j) 9 vd (16 + n) (g_al S 2 fv n) := by
    funext r b j
    unfold u_3
    by_cases hc : r = 9 ∧ b = vd ∧ j = 16 + n
    · obtain ⟨rfl, rfl, rfl⟩ := hc
      rw [if_pos ⟨rfl, rfl, by omega, by omega, by rw [Nat.add_sub_cancel_left]; exact h⟩, if_pos ⟨rfl, rfl, rfl⟩, Nat.add_sub_cancel_left]
    · rw [if_neg hc]
      have : (r = 9 ∧ b = vd ∧ 16 ≤ j ∧ j < 16 + (n + 1) ∧ g_ar S 1 ow (j - 16) = some a) ↔ (r = 9 ∧ b = vd ∧ 16 ≤ j ∧ j < 16 + n ∧ g_ar S 1 ow (j - 16) = some a) := ⟨fun z => ⟨z.1, z.2.1, z.2.2.1, by have : j ≠ 16 + n := fun q => hc ⟨z.1, z.2.1, q⟩; omega, z.2.2.2.2⟩, fun z => ⟨z.1, z.2.1, z.2.2.1, by omega, z.2.2.2.2⟩⟩
      simp only [this]
  unfold f_gv p_al
  rw [e]
def f_give (S : gs_S) (x a : Nat) : gs_S := f_gv S (v_a (g_r S 0 8 (v_a (f_data S x a)))) (v_a (g_r S 2 3 x)) (v_a (g_r S 2 4 x)) a (g_i S 2 5 x).toNatClampNeg
theorem wt_give {S : gs_S} {x a : Nat} (h : w_t S) : w_t (f_give S x a) := h
theorem f_place_i {S : gs_S} {x i : Nat} (h : i < 2 ^ 30) : f_place S x (nI i) = nI (16 + i) := by
  rw [f_place, if_pos (nI_pos' (by omega))]
  exact nI_add 16 i

set_option maxHeartbeats 4000000 in
set_option maxRecDepth 100000 in
theorem lp_gv (l : Launch) (G : gs_G) (S : gs_S) (x a d n vd ow fv : Nat) (hWT : w_t S) (hX : g_sh S x = some (.inl 2)) (ha : g_sh S a = some (.inl 1)) (hd : g_sh S d = some (.inl 0)) (hn : n ≤ 200) (en : g_i S 2 5 x = nI n) (eow : g_r S 2 3 x = some ow) (sow : g_sh S ow = some (.inr (1, 200))) (efv : g_r S 2 4 x = some fv) (sfv : g_sh S fv = some (.inr (2, 200))) (evd : g_r S 0 8 d = some vd) (svd : g_sh S vd = some (.inr (9, 216))) {p : Program} {e : Env} {s : State} {m : MethodId} {below : List Frame} {meth : Method} {c : Code} (hC : CallFix p m c cR_giveFirstValues 4 s #[va_rf (some x), va_rf (some a)] gU yR_giveFirstValues.cls) (hr : meth.sig.returnType = none) (hlocks : meth.locks = false) :
    ∀ (k : Nat) (i : Nat), i + k = n → ∀ (ls : Array Slot), lv_has ls 4 [(3, .int (nI i)), (2, va_rf (some d)), (0, va_rf (some x)), (1, va_rf (some a))] → ∀ (H : Heap) (locs : List Loc), g_W G (g_A S s.heap.size) s (f_gv S vd ow fv a i) H locs → W p l e { frames := 2, cells := 0, slots := 0, locals := 42 } s m #[va_rf (some x), va_rf (some a)] below meth c H locs 0 0 (MQ below (g_Qv G S s.heap.size (fun S' => S' = f_gv S vd ow fv a n)) #[va_rf (some x), va_rf (some a)] s 0 0 (g_A S s.heap.size)) (F0 m 8 ls []) := by
  obtain ⟨hx, hb, hml, hown, hts⟩ := id hC
  intro k
  induction k with
  | zero =>
    intro i  hi ls hl H locs hW
    refine lv_iload_n hx hb dR_giveFirstValues_8 rfl (lv_at hl 0 rfl) ?_
    refine s_aload_n (x := some x) hx hb dR_giveFirstValues_9 rfl (lv_at hl 2 rfl) ?_
    refine s_geti hC hW gc_R iw_R 5 (by decide) uw_77 rfl hX (v := nI n) en dR_giveFirstValues_10 ?_
    refine lv_icmp_ge (tgt := 48) hx hb dR_giveFirstValues_13 (by decide) (fun c_13 => ?_) (fun c => absurd ((nI_leI (by omega) (by omega)).mpr (by omega)) c)
    obtain rfl : i = n := by omega
    exact s_vret hC hr hlocks hW dR_giveFirstValues_48 rfl
  | succ k ih =>
    intro i  hi ls hl H locs hW
    refine lv_iload_n hx hb dR_giveFirstValues_8 rfl (lv_at hl 0 rfl) ?_
    refine s_aload_n (x := some x) hx hb dR_giveFirstValues_9 rfl (lv_at hl 2 rfl) ?_
    refine s_geti hC hW gc_R iw_R 5 (by decide) uw_77 rfl hX (v := nI n) en dR_giveFirstValues_10 ?_
    refine lv_icmp_ge (tgt := 48) hx hb dR_giveFirstValues_13 (by decide) (fun c => absurd ((nI_leI (by omega) (by omega)).mp c) (by omega)) (fun c_13 => ?_)
    refine s_aload_n (x := some x) hx hb dR_giveFirstValues_16 rfl (lv_at hl 2 rfl) ?_
    refine s_getr hC hW gc_R iw_R 3 (by decide) uw_75 rfl hX (v := some ow) eow dR_giveFirstValues_17 ?_
    refine lv_iload_n hx hb dR_giveFirstValues_20 rfl (lv_at hl 0 rfl) ?_
    obtain ⟨r21, er21⟩ : ∃ r : Option Nat, g_ar (f_gv S vd ow fv a i) 1 ow i = r := ⟨_, rfl⟩
    refine k_aald hC hW sow rfl rfl (by decide) i rfl (by omega) (v := r21) er21 dR_giveFirstValues_21 ?_
    refine s_aload_n (x := some a) hx hb dR_giveFirstValues_22 rfl (lv_at hl 3 rfl) ?_
    refine lv_acmp_ne (rx := r21) (ry := some a) (tgt := 42) hx hb dR_giveFirstValues_23 (by decide) (fun c_23 => ?_) (fun c_23 => ?_)
    · skip
      refine lv_iinc (v := nI (i + 1)) (lv' := [(3, .int (nI (i + 1))), (2, va_rf (some d)), (0, va_rf (some x)), (1, va_rf (some a))]) hx hb dR_giveFirstValues_42 hl (k := 0) rfl (nI_1 _) (by decide) rfl (fun ls hl => ?_)
      refine lv_goto (tgt := 8) hx hb dR_giveFirstValues_45 (by decide) ?_
      have hW : g_W G (g_A S s.heap.size) s (f_gv S vd ow fv a (i + 1)) H locs := by rw [f_gv_n (S := S) (fun z => c_23 (er21.symm.trans z))]; exact hW
      exact ih (i + 1) (by omega) ls hl H locs hW
    · skip
      refine s_aload_n (x := some d) hx hb dR_giveFirstValues_26 rfl (lv_at hl 1 rfl) ?_
      refine s_getr hC hW gc_L iw_L 8 (by decide) uw_43 rfl hd (v := some vd) evd dR_giveFirstValues_27 ?_
      refine s_aload_n (x := some x) hx hb dR_giveFirstValues_30 rfl (lv_at hl 2 rfl) ?_
      refine lv_iload_n hx hb dR_giveFirstValues_31 rfl (lv_at hl 0 rfl) ?_
      refine s_calli hW (s_runV (n := 1) (As := [.int (nI i)]) (rest := [va_rf (some vd)]) hC (c_R_placeOf l G (f_gv S vd ow fv a i) H.size x (nI i) hWT hX (fun z => absurd (nI_pos' (by omega)) z)) uc_R_placeOf uw_170 uw_172 us_R_placeOf uw_1 rfl rfl (by decide +kernel) ⟨by decide, by decide⟩ (g_preV hW gc_R hX [.int (nI i)]) rfl hl.1 rfl (Nat.le_of_ble_eq_true rfl) dR_giveFirstValues_32 ⟨Nat.le_of_ble_eq_true rfl, Nat.le_of_ble_eq_true rfl⟩) (fun q32 S32 H locs hp32 hW => ?_)
      obtain ⟨hs32, rfl⟩ := hp32
      replace hs32 := hs32.symm
      subst hs32
      refine s_aload_n (x := some x) hx hb dR_giveFirstValues_35 rfl (lv_at hl 2 rfl) ?_
      refine s_getr hC hW gc_R iw_R 4 (by decide) uw_76 rfl hX (v := some fv) efv dR_giveFirstValues_36 ?_
      refine lv_iload_n hx hb dR_giveFirstValues_39 rfl (lv_at hl 0 rfl) ?_
      refine k_lald hC hW sfv rfl rfl (by decide) i rfl (by omega) rfl dR_giveFirstValues_40 ?_
      refine k_last hC hW svd rfl rfl (by decide) (16 + i) (f_place_i (by omega)) (by omega) dR_giveFirstValues_41 (fun H locs hW => ?_)
      refine lv_iinc (v := nI (i + 1)) (lv' := [(3, .int (nI (i + 1))), (2, va_rf (some d)), (0, va_rf (some x)), (1, va_rf (some a))]) hx hb dR_giveFirstValues_42 hl (k := 0) rfl (nI_1 _) (by decide) rfl (fun ls hl => ?_)
      refine lv_goto (tgt := 8) hx hb dR_giveFirstValues_45 (by decide) ?_
      have hW : g_W G (g_A S s.heap.size) s (f_gv S vd ow fv a (i + 1)) H locs := by rw [f_gv_y (S := S) (er21.trans c_23)]; exact hW
      exact ih (i + 1) (by omega) ls hl H locs hW

set_option maxHeartbeats 4000000 in
set_option maxRecDepth 100000 in
theorem c_R_giveFirstValues (l : Launch) (G : gs_G) (S : gs_S) (sz : Nat) (x a : Nat) (hWT : w_t S) (hX : g_sh S x = some (.inl 2)) (ha : g_sh S a = some (.inl 1)) : Met l yR_giveFirstValues (kR_giveFirstValues :: gU) { frames := 2, cells := 0, slots := 0, locals := 42 } (g_Pc G S sz [va_rf (some x), va_rf (some a)]) (g_Qv G S sz (fun S' => S' = f_give S x a)) 0 0 (g_A S sz) := by
  refine s_head (by decide) (Nat.le_of_ble_eq_true rfl) ?_
  intro p e s m below meth c ls hsz hC hr hlocks hnm hl hW
  subst hsz
  obtain ⟨hx, hb, hml, hown, hts⟩ := id hC
  have hl : lv_has ls 4 [(0, va_rf (some x)), (1, va_rf (some a))] := hl
  refine s_aload_n (x := some x) hx hb dR_giveFirstValues_0 rfl (lv_at hl 0 rfl) ?_
  refine s_aload_n (x := some a) hx hb dR_giveFirstValues_1 rfl (lv_at hl 1 rfl) ?_
  refine s_callq hW (s_runV (n := 1) (As := [va_rf (some a)]) (rest := []) hC (c_R_dataOf l G S s.heap.size x a hWT hX ha) uc_R_dataOf uw_222 uw_224 us_R_dataOf uw_1 rfl rfl (by decide +kernel) ⟨by decide, by decide⟩ (g_preV hW gc_R hX [va_rf (some a)]) rfl hl.1 rfl (Nat.le_of_ble_eq_true rfl) dR_giveFirstValues_2 ⟨Nat.le_of_ble_eq_true rfl, Nat.le_of_ble_eq_true rfl⟩) (fun rq2 S2 H locs hp2 hW => ?_)
  obtain ⟨hs2, erq2⟩ := hp2
  replace hs2 := hs2.symm
  subst hs2
  obtain ⟨d, ed, hd⟩ := t_data hWT hX ha
  obtain rfl : rq2 = some d := erq2.trans ed
  refine s_astore_n (x := some d) (lv' := [(2, va_rf (some d)), (0, va_rf (some x)), (1, va_rf (some a))]) hx hb dR_giveFirstValues_5 rfl hl (by decide) rfl (fun ls hl => ?_)
  refine lv_iconst (v := 0) hx hb dR_giveFirstValues_6 (by decide) ?_
  refine lv_istore_n (lv' := [(3, .int 0), (2, va_rf (some d)), (0, va_rf (some x)), (1, va_rf (some a))]) hx hb dR_giveFirstValues_7 rfl hl (by decide) rfl (fun ls hl => ?_)
  obtain ⟨n, hn, en⟩ := w_cellCount hWT hX
  obtain ⟨ow, eow, sow⟩ := w_owners hWT hX
  obtain ⟨fv, efv, sfv⟩ := w_firstValues hWT hX
  obtain ⟨vd, evd, svd⟩ := w_values hWT hd
  have e1 : (fun (S1 : gs_S) => S1 = f_give S x a) = (fun S1 => S1 = f_gv S vd ow fv a n) := by funext S1; rw [f_give, ed, eow, efv, en, nI_clamp (by omega)]; simp only [v_a, Option.getD_some, evd]
  rw [e1]
  rw [← f_gv_0 S vd ow fv a] at hW
  exact lp_gv l G S x a d n vd ow fv hWT hX ha hd hn en eow sow efv sfv evd svd hC hr hlocks n 0 (by omega) ls hl _ _ hW
end
section
/-! R.makeFresh -/
def f_mf (x co pa : Nat) : Nat → Nat → Int32 → gs_S → Int32 × gs_S
  | 0, _, n, T => (n, T)
  | k + 1, i, n, T => match g_ar T 0 pa i with
    | none => f_mf x co pa k (i + 1) n T
    | some p => if f_li T 61 (some p) (some co) = 0 then f_mf x co pa k (i + 1) n T else f_mf x co pa k (i + 1) (n + (if g_i T 1 7 p = 0 then 0 else 1)) (f_give (p_i T 1 7 p 0) x p)
def f_fresh (S : gs_S) (x co : Nat) : Int32 × gs_S := f_mf x co (v_a (g_r S 2 1 x)) (g_i S 2 2 x).toNatClampNeg 1 0 S

set_option maxHeartbeats 4000000 in
set_option maxRecDepth 100000 in
theorem lp_mf (l : Launch) (G : gs_G) (S : gs_S) (x co n pa : Nat) (hX : g_sh S x = some (.inl 2)) (hco : g_sh S co = some (.inl 1)) (hn : n ≤ 60) (spa : g_sh S pa = some (.inr (0, 61))) {p : Program} {e : Env} {s : State} {m : MethodId} {below : List Frame} {meth : Method} {c : Code} (hC : CallFix p m c cR_makeFresh 5 s #[va_rf (some x), va_rf (some co)] gU yR_makeFresh.cls) (hr : meth.sig.returnType = some .int) (hlocks : meth.locks = false) :
    ∀ (k : Nat) (i : Nat) (cn : Int32) (T : gs_S), i + k = n + 1 → 1 ≤ i → w_t T → (∀ b : Nat, g_sh T b = g_sh S b) → g_i T 2 2 x = nI n → g_r T 2 1 x = some pa → f_mf x co pa n 1 0 S = f_mf x co pa k i cn T → ∀ (ls : Array Slot), lv_has ls 5 [(3, .int (nI i)), (2, .int cn), (0, va_rf (some x)), (1, va_rf (some co))] → ∀ (H : Heap) (locs : List Loc), g_W G (g_A S s.heap.size) s T H locs → W p l e { frames := 3, cells := 0, slots := 0, locals := 65 } s m #[va_rf (some x), va_rf (some co)] below meth c H locs 0 0 (MQ below (g_Qi G S s.heap.size (fun r S' => r = (f_mf x co pa n 1 0 S).1 ∧ S' = (f_mf x co pa n 1 0 S).2)) #[va_rf (some x), va_rf (some co)] s 0 0 (g_A S s.heap.size)) (F0 m 4 ls []) := by
  obtain ⟨hx, hb, hml, hown, hts⟩ := id hC
  intro k
  induction k with
  | zero =>
    intro i  cn  T  hi hi1 hT hs en epa hf ls hl H locs hW
    refine lv_iload_n hx hb dR_makeFresh_4 rfl (lv_at hl 0 rfl) ?_
    refine s_aload_n (x := some x) hx hb dR_makeFresh_5 rfl (lv_at hl 2 rfl) ?_
    refine s_geti hC hW gc_R iw_R 2 (by decide) uw_74 rfl ((hs x).trans hX) (v := nI n) en dR_makeFresh_6 ?_
    refine lv_icmp_gt (tgt := 68) hx hb dR_makeFresh_9 (by decide) (fun c_9 => ?_) (fun c => absurd ((nI_ltI (by omega) (by omega)).mpr (by omega)) c)
    refine lv_iload_n hx hb dR_makeFresh_68 rfl (lv_at hl 1 rfl) ?_
    exact s_iret hC hr hlocks rfl hW dR_makeFresh_69 (by rw [hf]; exact ⟨rfl, rfl⟩)
  | succ k ih =>
    intro i  cn  T  hi hi1 hT hs en epa hf ls hl H locs hW
    refine lv_iload_n hx hb dR_makeFresh_4 rfl (lv_at hl 0 rfl) ?_
    refine s_aload_n (x := some x) hx hb dR_makeFresh_5 rfl (lv_at hl 2 rfl) ?_
    refine s_geti hC hW gc_R iw_R 2 (by decide) uw_74 rfl ((hs x).trans hX) (v := nI n) en dR_makeFresh_6 ?_
    refine lv_icmp_gt (tgt := 68) hx hb dR_makeFresh_9 (by decide) (fun c => absurd ((nI_ltI (by omega) (by omega)).mp c) (by omega)) (fun c_9 => ?_)
    refine s_aload_n (x := some x) hx hb dR_makeFresh_12 rfl (lv_at hl 2 rfl) ?_
    refine s_getr hC hW gc_R iw_R 1 (by decide) uw_73 rfl ((hs x).trans hX) (v := some pa) epa dR_makeFresh_13 ?_
    refine lv_iload_n hx hb dR_makeFresh_16 rfl (lv_at hl 0 rfl) ?_
    obtain ⟨r17, er17⟩ : ∃ r : Option Nat, g_ar T 0 pa i = r := ⟨_, rfl⟩
    refine k_aald hC hW ((hs pa).trans spa) rfl rfl (by decide) i rfl (by omega) (v := r17) er17 dR_makeFresh_17 ?_
    refine s_astore (x := r17) (lv' := [(4, va_rf r17), (3, .int (nI i)), (2, .int cn), (0, va_rf (some x)), (1, va_rf (some co))]) hx hb dR_makeFresh_18 hl (by decide) rfl (fun ls hl => ?_)
    refine s_aload (x := r17) hx hb dR_makeFresh_20 (lv_at hl 0 rfl) ?_
    refine s_ifnull (x := r17) (tgt := 62) hx hb dR_makeFresh_22 (by decide) (fun c_22 => ?_) (fun b_22 c_22 => ?_)
    · skip
      subst c_22
      refine lv_iinc (v := nI (i + 1)) (lv' := [(3, .int (nI (i + 1))), (4, va_rf none), (2, .int cn), (0, va_rf (some x)), (1, va_rf (some co))]) hx hb dR_makeFresh_62 hl (k := 1) rfl (nI_1 _) (by decide) rfl (fun ls hl => ?_)
      refine lv_goto (tgt := 4) hx hb dR_makeFresh_65 (by decide) ?_
      exact ih (i + 1) cn T (by omega) (by omega) hT hs en epa (by rw [hf, f_mf, er17]) ls (lv_sub hl [0, 2, 3, 4] rfl) H locs hW
    · skip
      subst c_22
      have sb_22 := hT.2.2.2.2.1.1 _ ((hs pa).trans spa) _ (by omega) _ er17
      refine s_aload (x := some b_22) hx hb dR_makeFresh_25 (lv_at hl 0 rfl) ?_
      refine s_aload_n (x := some co) hx hb dR_makeFresh_27 rfl (lv_at hl 4 rfl) ?_
      refine s_calli hW (s_runV (n := 1) (As := [va_rf (some co)]) (rest := []) hC (c_P_isOrLiesIn l G T H.size b_22 (some co) hT sb_22) uc_P_isOrLiesIn uw_200 uw_201 uw_202 uw_5 rfl rfl (by decide +kernel) ⟨by decide, by decide⟩ (g_preV hW gc_P sb_22 [va_rf (some co)]) rfl hl.1 rfl (Nat.le_of_ble_eq_true rfl) dR_makeFresh_28 ⟨Nat.le_of_ble_eq_true rfl, Nat.le_of_ble_eq_true rfl⟩) (fun q28 S28 H locs hp28 hW => ?_)
      obtain ⟨hs28, rfl⟩ := hp28
      replace hs28 := hs28.symm
      subst hs28
      refine lv_if_eq (tgt := 62) hx hb dR_makeFresh_31 (by decide) (fun c_31 => ?_) (fun c_31 => ?_)
      · skip
        refine lv_iinc (v := nI (i + 1)) (lv' := [(3, .int (nI (i + 1))), (4, va_rf (some b_22)), (2, .int cn), (0, va_rf (some x)), (1, va_rf (some co))]) hx hb dR_makeFresh_62 hl (k := 1) rfl (nI_1 _) (by decide) rfl (fun ls hl => ?_)
        refine lv_goto (tgt := 4) hx hb dR_makeFresh_65 (by decide) ?_
        exact ih (i + 1) cn T (by omega) (by omega) hT hs en epa (by rw [hf, f_mf, er17]; simp only []; rw [if_pos c_31]) ls (lv_sub hl [0, 2, 3, 4] rfl) H locs hW
      · skip
        refine lv_iload_n hx hb dR_makeFresh_34 rfl (lv_at hl 2 rfl) ?_
        refine s_aload (x := some b_22) hx hb dR_makeFresh_35 (lv_at hl 0 rfl) ?_
        refine s_geti hC hW gc_P iw_P 7 (by decide) uw_141 rfl sb_22 rfl dR_makeFresh_37 ?_
        refine lv_if_eq (tgt := 47) hx hb dR_makeFresh_40 (by decide) (fun c_40 => ?_) (fun c_40 => ?_)
        · skip
          refine lv_iconst (v := 0) hx hb dR_makeFresh_47 (by decide) ?_
          refine lv_iadd hx hb dR_makeFresh_48 ?_
          refine lv_topi (fun v_48 ev_48 => ?_)
          refine lv_istore_n (lv' := [(2, .int v_48), (4, va_rf (some b_22)), (3, .int (nI i)), (0, va_rf (some x)), (1, va_rf (some co))]) hx hb dR_makeFresh_49 rfl hl (by decide) rfl (fun ls hl => ?_)
          refine s_aload (x := some b_22) hx hb dR_makeFresh_50 (lv_at hl 1 rfl) ?_
          refine lv_iconst (v := 0) hx hb dR_makeFresh_52 (by decide) ?_
          refine s_puti hC hW gc_P iw_P 7 (by decide) uw_141 (Or.inl rfl) rfl rfl rfl sb_22 dR_makeFresh_53 (fun H locs hW => ?_)
          refine s_aload_n (x := some x) hx hb dR_makeFresh_56 rfl (lv_at hl 3 rfl) ?_
          refine s_aload (x := some b_22) hx hb dR_makeFresh_57 (lv_at hl 1 rfl) ?_
          refine s_callv hW (s_runV (n := 1) (As := [va_rf (some b_22)]) (rest := []) hC (c_R_giveFirstValues l G (p_i T 1 7 b_22 0) H.size x b_22 hT ((hs x).trans hX) sb_22) uc_R_giveFirstValues uw_256 uw_258 us_R_giveFirstValues uw_1 rfl rfl (by decide +kernel) ⟨by decide, by decide⟩ (g_preV hW gc_R ((hs x).trans hX) [va_rf (some b_22)]) rfl hl.1 rfl (Nat.le_of_ble_eq_true rfl) dR_makeFresh_59 ⟨Nat.le_of_ble_eq_true rfl, Nat.le_of_ble_eq_true rfl⟩) (fun S59 H locs hp59 hW => ?_)
          subst hp59
          refine lv_iinc (v := nI (i + 1)) (lv' := [(3, .int (nI (i + 1))), (2, .int v_48), (4, va_rf (some b_22)), (0, va_rf (some x)), (1, va_rf (some co))]) hx hb dR_makeFresh_62 hl (k := 2) rfl (nI_1 _) (by decide) rfl (fun ls hl => ?_)
          refine lv_goto (tgt := 4) hx hb dR_makeFresh_65 (by decide) ?_
          exact ih (i + 1) v_48 (f_give (p_i T 1 7 b_22 0) x b_22) (by omega) (by omega) (wt_give (wt_pi0 hT (by decide))) hs en epa (by rw [hf, f_mf, er17]; simp only []; rw [if_neg c_31, if_pos c_40, ev_48]) ls (lv_sub hl [0, 1, 3, 4] rfl) H locs hW
        · skip
          refine lv_iconst (v := 1) hx hb dR_makeFresh_43 (by decide) ?_
          refine lv_goto (tgt := 48) hx hb dR_makeFresh_44 (by decide) ?_
          refine lv_iadd hx hb dR_makeFresh_48 ?_
          refine lv_topi (fun v_48 ev_48 => ?_)
          refine lv_istore_n (lv' := [(2, .int v_48), (4, va_rf (some b_22)), (3, .int (nI i)), (0, va_rf (some x)), (1, va_rf (some co))]) hx hb dR_makeFresh_49 rfl hl (by decide) rfl (fun ls hl => ?_)
          refine s_aload (x := some b_22) hx hb dR_makeFresh_50 (lv_at hl 1 rfl) ?_
          refine lv_iconst (v := 0) hx hb dR_makeFresh_52 (by decide) ?_
          refine s_puti hC hW gc_P iw_P 7 (by decide) uw_141 (Or.inl rfl) rfl rfl rfl sb_22 dR_makeFresh_53 (fun H locs hW => ?_)
          refine s_aload_n (x := some x) hx hb dR_makeFresh_56 rfl (lv_at hl 3 rfl) ?_
          refine s_aload (x := some b_22) hx hb dR_makeFresh_57 (lv_at hl 1 rfl) ?_
          refine s_callv hW (s_runV (n := 1) (As := [va_rf (some b_22)]) (rest := []) hC (c_R_giveFirstValues l G (p_i T 1 7 b_22 0) H.size x b_22 hT ((hs x).trans hX) sb_22) uc_R_giveFirstValues uw_256 uw_258 us_R_giveFirstValues uw_1 rfl rfl (by decide +kernel) ⟨by decide, by decide⟩ (g_preV hW gc_R ((hs x).trans hX) [va_rf (some b_22)]) rfl hl.1 rfl (Nat.le_of_ble_eq_true rfl) dR_makeFresh_59 ⟨Nat.le_of_ble_eq_true rfl, Nat.le_of_ble_eq_true rfl⟩) (fun S59 H locs hp59 hW => ?_)
          subst hp59
          refine lv_iinc (v := nI (i + 1)) (lv' := [(3, .int (nI (i + 1))), (2, .int v_48), (4, va_rf (some b_22)), (0, va_rf (some x)), (1, va_rf (some co))]) hx hb dR_makeFresh_62 hl (k := 2) rfl (nI_1 _) (by decide) rfl (fun ls hl => ?_)
          refine lv_goto (tgt := 4) hx hb dR_makeFresh_65 (by decide) ?_
          exact ih (i + 1) v_48 (f_give (p_i T 1 7 b_22 0) x b_22) (by omega) (by omega) (wt_give (wt_pi0 hT (by decide))) hs en epa (by rw [hf, f_mf, er17]; simp only []; rw [if_neg c_31, if_neg c_40, ev_48]) ls (lv_sub hl [0, 1, 3, 4] rfl) H locs hW

set_option maxHeartbeats 4000000 in
set_option maxRecDepth 100000 in
theorem c_R_makeFresh (l : Launch) (G : gs_G) (S : gs_S) (sz : Nat) (x co : Nat) (hWT : w_t S) (hX : g_sh S x = some (.inl 2)) (hco : g_sh S co = some (.inl 1)) : Met l yR_makeFresh (kR_makeFresh :: gU) { frames := 3, cells := 0, slots := 0, locals := 65 } (g_Pc G S sz [va_rf (some x), va_rf (some co)]) (g_Qi G S sz (fun r S' => r = (f_fresh S x co).1 ∧ S' = (f_fresh S x co).2)) 0 0 (g_A S sz) := by
  refine s_head (by decide) (Nat.le_of_ble_eq_true rfl) ?_
  intro p e s m below meth c ls hsz hC hr hlocks hnm hl hW
  subst hsz
  obtain ⟨hx, hb, hml, hown, hts⟩ := id hC
  have hl : lv_has ls 5 [(0, va_rf (some x)), (1, va_rf (some co))] := hl
  refine lv_iconst (v := 0) hx hb dR_makeFresh_0 (by decide) ?_
  refine lv_istore_n (lv' := [(2, .int 0), (0, va_rf (some x)), (1, va_rf (some co))]) hx hb dR_makeFresh_1 rfl hl (by decide) rfl (fun ls hl => ?_)
  refine lv_iconst (v := 1) hx hb dR_makeFresh_2 (by decide) ?_
  refine lv_istore_n (lv' := [(3, .int 1), (2, .int 0), (0, va_rf (some x)), (1, va_rf (some co))]) hx hb dR_makeFresh_3 rfl hl (by decide) rfl (fun ls hl => ?_)
  obtain ⟨n, hn, en⟩ := w_programCount hWT hX
  obtain ⟨pa, epa, spa⟩ := w_programs hWT hX
  have e1 : (fun (r : Int32) (S1 : gs_S) => r = (f_fresh S x co).1 ∧ S1 = (f_fresh S x co).2) = (fun r S1 => r = (f_mf x co pa n 1 0 S).1 ∧ S1 = (f_mf x co pa n 1 0 S).2) := by funext r S1; rw [f_fresh, epa, en, nI_clamp (by omega)]; rfl
  rw [e1]
  exact lp_mf l G S x co n pa hX hco hn spa hC hr hlocks n 1 0 S (by omega) (by omega) hWT (fun _ => rfl) en epa rfl ls hl _ _ hW

/-! R.newCell -/
def f_newCell (S : gs_S) (x : Nat) (o : Option Nat) (v : Int64) : Int32 × gs_S := if g_i S 2 5 x < 200 then (g_i S 2 5 x, p_i (p_al (p_al (p_ar S 1 (v_a (g_r S 2 3 x)) (g_i S 2 5 x).toNatClampNeg o) 2 (v_a (g_r S 2 4 x)) (g_i S 2 5 x).toNatClampNeg v) 9 (v_a (g_r S 0 8 (v_a (g_r S 2 7 x)))) (16 + (g_i S 2 5 x).toNatClampNeg) v) 2 5 x (g_i S 2 5 x + 1)) else (-1, S)

set_option maxHeartbeats 4000000 in
set_option maxRecDepth 100000 in
theorem c_R_newCell (l : Launch) (G : gs_G) (S : gs_S) (sz : Nat) (x : Nat) (o : Option Nat) (v : Int64) (hWT : w_t S) (hX : g_sh S x = some (.inl 2)) (ho : t_o S 1 o) : Met l yR_newCell (kR_newCell :: gU) { frames := 1, cells := 0, slots := 0, locals := 21 } (g_Pc G S sz [va_rf (some x), va_rf o, .long v]) (g_Qi G S sz (fun r S' => r = (f_newCell S x o v).1 ∧ S' = (f_newCell S x o v).2)) 0 0 (g_A S sz) := by
  refine s_head (by decide) (by simp [lg_sl, s_cat, s_catI, s_catL]) ?_
  intro p e s m below meth c ls hsz hC hr hlocks hnm hl hW
  subst hsz
  obtain ⟨hx, hb, hml, hown, hts⟩ := id hC
  have hl : lv_has ls 4 [(0, va_rf (some x)), (1, va_rf o), (2, .long v)] := by simpa [lv_args, s_cat, s_catI, s_catL] using hl
  obtain ⟨n, hn, en⟩ := w_cellCount hWT hX
  refine s_aload_n (x := some x) hx hb dR_newCell_0 rfl (lv_at hl 0 rfl) ?_
  refine s_geti hC hW gc_R iw_R 5 (by decide) uw_77 rfl hX (v := nI n) en dR_newCell_1 ?_
  refine lv_sipush (v := 200) hx hb dR_newCell_4 (by decide) ?_
  refine lv_icmp_lt (tgt := 12) hx hb dR_newCell_7 (by decide) (fun c_7 => ?_) (fun c_7 => ?_)
  · skip
    have hn2 : n < 200 := (nI_ltI (b := 200) (by omega) (by omega)).mp c_7
    refine s_aload_n (x := some x) hx hb dR_newCell_12 rfl (lv_at hl 0 rfl) ?_
    obtain ⟨b13, eb13, sb13⟩ := w_owners hWT hX
    refine s_getr hC hW gc_R iw_R 3 (by decide) uw_75 rfl hX (v := some b13) eb13 dR_newCell_13 ?_
    refine s_aload_n (x := some x) hx hb dR_newCell_16 rfl (lv_at hl 0 rfl) ?_
    refine s_geti hC hW gc_R iw_R 5 (by decide) uw_77 rfl hX (v := nI n) en dR_newCell_17 ?_
    refine s_aload_n (x := o) hx hb dR_newCell_20 rfl (lv_at hl 1 rfl) ?_
    refine k_aast (x := o) hC hW gc_P sb13 rfl rfl (by decide) (fun b q => ho b (rfl.trans q)) n rfl (by omega) dR_newCell_21 (fun H locs hW => ?_)
    refine s_aload_n (x := some x) hx hb dR_newCell_22 rfl (lv_at hl 0 rfl) ?_
    obtain ⟨b23, eb23, sb23⟩ := w_firstValues hWT hX
    refine s_getr hC hW gc_R iw_R 4 (by decide) uw_76 rfl hX (v := some b23) eb23 dR_newCell_23 ?_
    refine s_aload_n (x := some x) hx hb dR_newCell_26 rfl (lv_at hl 0 rfl) ?_
    refine s_geti hC hW gc_R iw_R 5 (by decide) uw_77 rfl hX (v := nI n) en dR_newCell_27 ?_
    refine lv_lload_n hx hb dR_newCell_30 rfl (lv_at hl 2 rfl) ?_
    refine k_last hC hW sb23 rfl rfl (by decide) n rfl (by omega) dR_newCell_31 (fun H locs hW => ?_)
    refine s_aload_n (x := some x) hx hb dR_newCell_32 rfl (lv_at hl 0 rfl) ?_
    obtain ⟨b33, eb33, sb33⟩ := w_bottom hWT hX
    refine s_getr hC hW gc_R iw_R 7 (by decide) uw_79 rfl hX (v := some b33) eb33 dR_newCell_33 ?_
    obtain ⟨b36, eb36, sb36⟩ := w_values hWT sb33
    refine s_getr hC hW gc_L iw_L 8 (by decide) uw_43 rfl sb33 (v := some b36) eb36 dR_newCell_36 ?_
    refine s_aload_n (x := some x) hx hb dR_newCell_39 rfl (lv_at hl 0 rfl) ?_
    refine s_aload_n (x := some x) hx hb dR_newCell_40 rfl (lv_at hl 0 rfl) ?_
    refine s_geti hC hW gc_R iw_R 5 (by decide) uw_77 rfl hX (v := nI n) en dR_newCell_41 ?_
    refine s_calli hW (s_runV (n := 1) (As := [.int (nI n)]) (rest := [va_rf (some b36)]) hC (c_R_placeOf l G (p_al (p_ar S 1 b13 n o) 2 b23 n v) H.size x (nI n) (wt_pal (wt_par hWT (fun z => absurd z (by decide)) (fun z => absurd z (by decide)) (fun _ => ho))) hX (fun z => absurd (nI_pos' (by omega)) z)) uc_R_placeOf uw_170 uw_172 us_R_placeOf uw_1 rfl rfl (by decide +kernel) ⟨by decide, by decide⟩ (g_preV hW gc_R hX [.int (nI n)]) rfl hl.1 rfl (Nat.le_of_ble_eq_true rfl) dR_newCell_44 ⟨Nat.le_of_ble_eq_true rfl, Nat.le_of_ble_eq_true rfl⟩) (fun q44 S44 H locs hp44 hW => ?_)
    obtain ⟨hs44, rfl⟩ := hp44
    replace hs44 := hs44.symm
    subst hs44
    refine lv_lload_n hx hb dR_newCell_47 rfl (lv_at hl 2 rfl) ?_
    refine k_last hC hW sb36 rfl rfl (by decide) (16 + n) (f_place_i (by omega)) (by omega) dR_newCell_48 (fun H locs hW => ?_)
    refine s_aload_n (x := some x) hx hb dR_newCell_49 rfl (lv_at hl 0 rfl) ?_
    refine lv_dup hx hb dR_newCell_50 rfl ?_
    refine s_geti hC hW gc_R iw_R 5 (by decide) uw_77 rfl hX (v := nI n) en dR_newCell_51 ?_
    refine lv_iconst (v := 1) hx hb dR_newCell_54 (by decide) ?_
    refine lv_iadd hx hb dR_newCell_55 ?_
    refine s_puti hC hW gc_R iw_R 5 (by decide) uw_77 (Or.inl rfl) rfl rfl rfl hX dR_newCell_56 (fun H locs hW => ?_)
    refine s_aload_n (x := some x) hx hb dR_newCell_59 rfl (lv_at hl 0 rfl) ?_
    refine s_geti hC hW gc_R iw_R 5 (by decide) uw_77 rfl hX rfl dR_newCell_60 ?_
    refine lv_iconst (v := 1) hx hb dR_newCell_63 (by decide) ?_
    refine lv_isub hx hb dR_newCell_64 ?_
    exact s_iret hC hr hlocks rfl hW dR_newCell_65 ⟨by rw [f_newCell, en, if_pos c_7, x_g_i_p_i, if_pos ⟨rfl, rfl, rfl⟩, nI_1, nI_pred], by rw [f_newCell, en, if_pos c_7, nI_clamp (by omega)]; simp only [v_a, Option.getD_some, eb13, eb23, eb33, eb36]⟩
  · skip
    refine lv_iconst (v := (-1)) hx hb dR_newCell_10 (by decide) ?_
    exact s_iret hC hr hlocks rfl hW dR_newCell_11 ⟨by rw [f_newCell, en, if_neg c_7], by rw [f_newCell, en, if_neg c_7]⟩

/-! Level(below), Program(..) -/
theorem sh_nA {S : gs_S} {r n q a : Nat} {x : Nat ⊕ (Nat × Nat)} (ha : g_sh S a = some x) (hq : g_sh S q = none) : g_sh (p_newA S r n q) a = some x := by
  rw [x_sh_newA, if_neg (fun z => by subst z; rw [ha] at hq; cases hq)]
  exact ha
theorem sh_nO {S : gs_S} {c q a : Nat} {x : Nat ⊕ (Nat × Nat)} (ha : g_sh S a = some x) (hq : g_sh S q = none) : g_sh (p_new S c q) a = some x := by
  rw [x_sh_new, if_neg (fun z => by subst z; rw [ha] at hq; cases hq)]
  exact ha
theorem gd_L : ∀ j, j < 9 → defaultValue (tyL j) = vp_V ((gk_kinds.getD 0 []).map g_dflt) j := by decide +kernel
theorem gd_P : ∀ j, j < 9 → defaultValue (tyP j) = vp_V ((gk_kinds.getD 1 []).map g_dflt) j := by decide +kernel
theorem gd_R : ∀ j, j < 12 → defaultValue (tyR j) = vp_V ((gk_kinds.getD 2 []).map g_dflt) j := by decide +kernel
theorem gd_M : ∀ j, j < 29 → defaultValue (tyM j) = vp_V ((gk_kinds.getD 3 []).map g_dflt) j := by decide +kernel
def i_L1 (S : gs_S) (q h : Nat) : gs_S := p_r (p_newA S 6 16 h) 0 5 q (some h)
def i_L2 (S : gs_S) (q h pl : Nat) : gs_S := p_r (p_newA (i_L1 S q h) 7 16 pl) 0 6 q (some pl)
def i_L3 (S : gs_S) (q h pl bb : Nat) : gs_S := p_r (p_newA (i_L2 S q h pl) 8 16 bb) 0 7 q (some bb)
def i_L4 (S : gs_S) (q h pl bb va : Nat) : gs_S := p_r (p_newA (i_L3 S q h pl bb) 9 216 va) 0 8 q (some va)
def i_L (S : gs_S) (q : Nat) (be : Option Nat) (h pl bb va : Nat) : gs_S := p_r (i_L4 S q h pl bb va) 0 0 q be
def i_Lf (S : gs_S) (q h pl bb va : Nat) : Prop := g_sh S h = none ∧ g_sh (i_L1 S q h) pl = none ∧ g_sh (i_L2 S q h pl) bb = none ∧ g_sh (i_L3 S q h pl bb) va = none

set_option maxHeartbeats 4000000 in
set_option maxRecDepth 100000 in
theorem c_L_init (l : Launch) (G : gs_G) (S : gs_S) (sz : Nat) (q : Nat) (be : Option Nat) (hq : g_sh S q = some (.inl 0)) : Met l yL_init (kL_init :: gU) { frames := 1, cells := 4, slots := 264, locals := 12 } (g_Pc G S sz [va_rf (some q), va_rf be]) (g_Qv G S sz (fun S' => ∃ h pl bb va : Nat, i_Lf S q h pl bb va ∧ S' = i_L S q be h pl bb va)) 4 264 (g_A S sz) := by
  refine s_head (by decide) (by simp [lg_sl, s_cat, s_catI, s_catL]) ?_
  intro p e s m below meth c ls hsz hC hr hlocks hnm hl hW
  subst hsz
  obtain ⟨hx, hb, hml, hown, hts⟩ := id hC
  have hl : lv_has ls 2 [(0, va_rf (some q)), (1, va_rf be)] := by simpa [lv_args, s_cat, s_catI, s_catL] using hl
  refine s_aload_n (x := some q) hx hb dL_init_0 rfl (lv_at hl 0 rfl) ?_
  refine W.objInit hx hb hown (hts _ uw_25) (hts _ uw_16) (hts _ uw_17) rfl (by rw [hml]; exact hl.1) rfl dL_init_1 (Nat.le_of_ble_eq_true rfl) (Nat.le_of_ble_eq_true rfl) ?_
  refine W.eq (g2 := F0 m 4 ls []) rfl ?_
  refine s_aload_n (x := some q) hx hb dL_init_4 rfl (lv_at hl 0 rfl) ?_
  refine lv_bipush (v := 16) hx hb dL_init_5 (by decide) ?_
  refine s_newQ (n := 16) hC hW 6 rfl rfl uw_26 hW.1.2.2 (by decide) (by decide) (by decide) (Nat.le_of_ble_eq_true rfl) (Nat.le_of_ble_eq_true rfl) dL_init_7 (fun q7 H f7 hW => ?_)
  refine s_putr (v := some q7) hC hW gc_L iw_L 5 (by decide) uw_36 (Or.inr ⟨rfl, hnm, rfl⟩) (g_nra _) (g_fta _) rfl (sh_nA hq f7) dL_init_10 (fun H locs hW => ?_)
  refine s_aload_n (x := some q) hx hb dL_init_13 rfl (lv_at hl 0 rfl) ?_
  refine lv_bipush (v := 16) hx hb dL_init_14 (by decide) ?_
  refine s_newI (n := 16) hC hW 7 rfl rfl uw_64 (by decide) (by decide) (by decide) (Nat.le_of_ble_eq_true rfl) (Nat.le_of_ble_eq_true rfl) dL_init_16 (fun q16 H f16 hW => ?_)
  refine s_putr (v := some q16) hC hW gc_L iw_L 6 (by decide) uw_38 (Or.inr ⟨rfl, hnm, rfl⟩) (g_nra _) (g_fta _) rfl (sh_nA (sh_nA hq f7) f16) dL_init_18 (fun H locs hW => ?_)
  refine s_aload_n (x := some q) hx hb dL_init_21 rfl (lv_at hl 0 rfl) ?_
  refine lv_bipush (v := 16) hx hb dL_init_22 (by decide) ?_
  refine s_newI (n := 16) hC hW 8 rfl rfl uw_64 (by decide) (by decide) (by decide) (Nat.le_of_ble_eq_true rfl) (Nat.le_of_ble_eq_true rfl) dL_init_24 (fun q24 H f24 hW => ?_)
  refine s_putr (v := some q24) hC hW gc_L iw_L 7 (by decide) uw_40 (Or.inr ⟨rfl, hnm, rfl⟩) (g_nra _) (g_fta _) rfl (sh_nA (sh_nA (sh_nA hq f7) f16) f24) dL_init_26 (fun H locs hW => ?_)
  refine s_aload_n (x := some q) hx hb dL_init_29 rfl (lv_at hl 0 rfl) ?_
  refine lv_sipush (v := 216) hx hb dL_init_30 (by decide) ?_
  refine s_newL (n := 216) hC hW 9 rfl rfl uw_63 (by decide) (by decide) (by decide) (Nat.le_of_ble_eq_true rfl) (Nat.le_of_ble_eq_true rfl) dL_init_33 (fun q33 H f33 hW => ?_)
  refine s_putr (v := some q33) hC hW gc_L iw_L 8 (by decide) uw_42 (Or.inr ⟨rfl, hnm, rfl⟩) (g_nra _) (g_fta _) rfl (sh_nA (sh_nA (sh_nA (sh_nA hq f7) f16) f24) f33) dL_init_35 (fun H locs hW => ?_)
  refine s_aload_n (x := some q) hx hb dL_init_38 rfl (lv_at hl 0 rfl) ?_
  refine s_aload_n (x := be) hx hb dL_init_39 rfl (lv_at hl 1 rfl) ?_
  refine s_putr (v := be) hC hW gc_L iw_L 0 (by decide) uw_28 (Or.inr ⟨rfl, hnm, rfl⟩) (g_nr _) (g_ft _) rfl (sh_nA (sh_nA (sh_nA (sh_nA hq f7) f16) f24) f33) dL_init_40 (fun H locs hW => ?_)
  exact s_vret hC hr hlocks hW dL_init_43 ⟨q7, q16, q24, q33, ⟨f7, f16, f24, f33⟩, rfl⟩

def i_P1 (S : gs_S) (q h : Nat) : gs_S := p_r (p_newA S 4 16 h) 1 4 q (some h)
def i_P2 (S : gs_S) (q h b : Nat) : gs_S := p_r (p_newA (i_P1 S q h) 5 16 b) 1 5 q (some b)
def i_P (S : gs_S) (q : Nat) (o : Option Nat) (n nm mk : Int32) (h b : Nat) : gs_S := p_i (p_i (p_i (p_r (i_P2 S q h b) 1 0 q o) 1 1 q n) 1 2 q nm) 1 3 q mk
def i_Pf (S : gs_S) (q h b : Nat) : Prop := g_sh S h = none ∧ g_sh (i_P1 S q h) b = none

set_option maxHeartbeats 4000000 in
set_option maxRecDepth 100000 in
theorem c_P_init (l : Launch) (G : gs_G) (S : gs_S) (sz : Nat) (q : Nat) (o : Option Nat) (n nm mk : Int32) (hq : g_sh S q = some (.inl 1)) : Met l yP_init (kP_init :: gU) { frames := 1, cells := 2, slots := 32, locals := 12 } (g_Pc G S sz [va_rf (some q), va_rf o, .int n, .int nm, .int mk]) (g_Qv G S sz (fun S' => ∃ h b : Nat, i_Pf S q h b ∧ S' = i_P S q o n nm mk h b)) 2 32 (g_A S sz) := by
  refine s_head (by decide) (by simp [lg_sl, s_cat, s_catI, s_catL]) ?_
  intro p e s m below meth c ls hsz hC hr hlocks hnm hl hW
  subst hsz
  obtain ⟨hx, hb, hml, hown, hts⟩ := id hC
  have hl : lv_has ls 5 [(0, va_rf (some q)), (1, va_rf o), (2, .int n), (3, .int nm), (4, .int mk)] := by simpa [lv_args, s_cat, s_catI, s_catL] using hl
  refine s_aload_n (x := some q) hx hb dP_init_0 rfl (lv_at hl 0 rfl) ?_
  refine W.objInit hx hb hown (hts _ uw_128) (hts _ uw_16) (hts _ uw_17) rfl (by rw [hml]; exact hl.1) rfl dP_init_1 (Nat.le_of_ble_eq_true rfl) (Nat.le_of_ble_eq_true rfl) ?_
  refine W.eq (g2 := F0 m 4 ls []) rfl ?_
  refine s_aload_n (x := some q) hx hb dP_init_4 rfl (lv_at hl 0 rfl) ?_
  refine lv_bipush (v := 16) hx hb dP_init_5 (by decide) ?_
  refine s_newI (n := 16) hC hW 4 rfl rfl uw_64 (by decide) (by decide) (by decide) (Nat.le_of_ble_eq_true rfl) (Nat.le_of_ble_eq_true rfl) dP_init_7 (fun q7 H f7 hW => ?_)
  refine s_putr (v := some q7) hC hW gc_P iw_P 4 (by decide) uw_136 (Or.inr ⟨rfl, hnm, rfl⟩) (g_nra _) (g_fta _) rfl (sh_nA hq f7) dP_init_9 (fun H locs hW => ?_)
  refine s_aload_n (x := some q) hx hb dP_init_12 rfl (lv_at hl 0 rfl) ?_
  refine lv_bipush (v := 16) hx hb dP_init_13 (by decide) ?_
  refine s_newI (n := 16) hC hW 5 rfl rfl uw_64 (by decide) (by decide) (by decide) (Nat.le_of_ble_eq_true rfl) (Nat.le_of_ble_eq_true rfl) dP_init_15 (fun q15 H f15 hW => ?_)
  refine s_putr (v := some q15) hC hW gc_P iw_P 5 (by decide) uw_138 (Or.inr ⟨rfl, hnm, rfl⟩) (g_nra _) (g_fta _) rfl (sh_nA (sh_nA hq f7) f15) dP_init_17 (fun H locs hW => ?_)
  refine s_aload_n (x := some q) hx hb dP_init_20 rfl (lv_at hl 0 rfl) ?_
  refine s_aload_n (x := o) hx hb dP_init_21 rfl (lv_at hl 1 rfl) ?_
  refine s_putr (v := o) hC hW gc_P iw_P 0 (by decide) uw_129 (Or.inr ⟨rfl, hnm, rfl⟩) (g_nr _) (g_ft _) rfl (sh_nA (sh_nA hq f7) f15) dP_init_22 (fun H locs hW => ?_)
  refine s_aload_n (x := some q) hx hb dP_init_25 rfl (lv_at hl 0 rfl) ?_
  refine lv_iload_n hx hb dP_init_26 rfl (lv_at hl 2 rfl) ?_
  refine s_puti hC hW gc_P iw_P 1 (by decide) uw_131 (Or.inr ⟨rfl, hnm, rfl⟩) rfl rfl rfl (sh_nA (sh_nA hq f7) f15) dP_init_27 (fun H locs hW => ?_)
  refine s_aload_n (x := some q) hx hb dP_init_30 rfl (lv_at hl 0 rfl) ?_
  refine lv_iload_n hx hb dP_init_31 rfl (lv_at hl 3 rfl) ?_
  refine s_puti hC hW gc_P iw_P 2 (by decide) uw_133 (Or.inr ⟨rfl, hnm, rfl⟩) rfl rfl rfl (sh_nA (sh_nA hq f7) f15) dP_init_32 (fun H locs hW => ?_)
  refine s_aload_n (x := some q) hx hb dP_init_35 rfl (lv_at hl 0 rfl) ?_
  refine lv_iload hx hb dP_init_36 (lv_at hl 4 rfl) ?_
  refine s_puti hC hW gc_P iw_P 3 (by decide) uw_135 (Or.inr ⟨rfl, hnm, rfl⟩) rfl rfl rfl (sh_nA (sh_nA hq f7) f15) dP_init_38 (fun H locs hW => ?_)
  exact s_vret hC hr hlocks hW dP_init_41 ⟨q7, q15, ⟨f7, f15⟩, rfl⟩

theorem sh_iL {S : gs_S} {q h pl bb va a : Nat} {be : Option Nat} {x : Nat ⊕ (Nat × Nat)} (ha : g_sh S a = some x) (hf : i_Lf S q h pl bb va) : g_sh (i_L S q be h pl bb va) a = some x := sh_nA (S := i_L3 S q h pl bb) (sh_nA (S := i_L2 S q h pl) (sh_nA (S := i_L1 S q h) (sh_nA ha hf.1) hf.2.1) hf.2.2.1) hf.2.2.2

set_option maxHeartbeats 4000000 in
set_option maxRecDepth 100000 in
theorem c_R_levelAbove (l : Launch) (G : gs_G) (S : gs_S) (sz : Nat) (a : Nat) (hWT : w_t S) (ha : g_sh S a = some (.inl 0)) : Met l yR_levelAbove (kR_levelAbove :: gU) { frames := 2, cells := 5, slots := 273, locals := 33 } (g_Pc G S sz [va_rf (some a)]) (g_Qq G S sz (fun r S' => (∃ u : Nat, g_r S 0 1 a = some u ∧ S' = S ∧ r = some u) ∨ (g_r S 0 1 a = none ∧ ∃ q h pl bb va : Nat, g_sh S q = none ∧ i_Lf (p_new S 0 q) q h pl bb va ∧ S' = p_r (i_L (p_new S 0 q) q (some a) h pl bb va) 0 1 a (some q) ∧ r = some q))) 5 273 (g_A S sz) := by
  refine s_head (by decide) (Nat.le_of_ble_eq_true rfl) ?_
  intro p e s m below meth c ls hsz hC hr hlocks hnm hl hW
  subst hsz
  obtain ⟨hx, hb, hml, hown, hts⟩ := id hC
  have hl : lv_has ls 1 [(0, va_rf (some a))] := hl
  refine s_aload_n (x := some a) hx hb dR_levelAbove_0 rfl (lv_at hl 0 rfl) ?_
  obtain ⟨r1, er1⟩ : ∃ r : Option Nat, g_r S 0 1 a = r := ⟨_, rfl⟩
  refine s_getr hC hW gc_L iw_L 1 (by decide) uw_30 rfl ha (v := r1) er1 dR_levelAbove_1 ?_
  refine s_ifnonnull (x := r1) (tgt := 19) hx hb dR_levelAbove_4 (by decide) (fun b_4 c_4 => ?_) (fun c_4 => ?_)
  · skip
    subst c_4
    have sb_4 := w_above hWT ha _ er1
    refine s_aload_n (x := some a) hx hb dR_levelAbove_19 rfl (lv_at hl 0 rfl) ?_
    refine s_getr hC hW gc_L iw_L 1 (by decide) uw_30 rfl ha (v := some b_4) er1 dR_levelAbove_20 ?_
    refine W.widen (k := 5) (n := 273) (by omega) (by omega) ?_
    exact s_aret (v := some b_4) hC hr hlocks hW dR_levelAbove_23 (Or.inl ⟨b_4, er1, rfl, rfl⟩)
  · skip
    subst c_4
    refine s_aload_n (x := some a) hx hb dR_levelAbove_7 rfl (lv_at hl 0 rfl) ?_
    refine s_new hC hW gc_L iw_L uw_20 uw_21 uw_2 gd_L (Nat.le_of_ble_eq_true rfl) (Nat.le_of_ble_eq_true rfl) dR_levelAbove_8 (fun q8 H f8 hW => ?_)
    refine lv_dup hx hb dR_levelAbove_11 rfl ?_
    refine s_aload_n (x := some a) hx hb dR_levelAbove_12 rfl (lv_at hl 0 rfl) ?_
    refine s_callv hW (s_runI (n := 1) (As := [va_rf (some a)]) (rest := [va_rf (some q8), va_rf (some a)]) hC (c_L_init l G (p_new S 0 q8) H.size q8 (some a) g_sh_new) uc_L_init uw_22 uw_23 uw_2 rfl rfl rfl (by decide +kernel) ⟨by decide, by decide⟩ (g_preS hW (.ref q8 :: [va_rf (some a)])) rfl hl.1 rfl (Nat.le_of_ble_eq_true rfl) dR_levelAbove_13 ⟨Nat.le_of_ble_eq_true rfl, Nat.le_of_ble_eq_true rfl⟩) (fun S13 H locs hp13 hW => ?_)
    obtain ⟨h13, pl13, bb13, va13, hf13, hS13⟩ := hp13
    subst hS13
    refine s_putr (v := some q8) hC hW gc_L iw_L 1 (by decide) uw_30 (Or.inl rfl) (g_nr _) (g_ft _) rfl (sh_iL (be := some a) (sh_nO ha f8) hf13) dR_levelAbove_16 (fun H locs hW => ?_)
    refine s_aload_n (x := some a) hx hb dR_levelAbove_19 rfl (lv_at hl 0 rfl) ?_
    refine s_getr hC hW gc_L iw_L 1 (by decide) uw_30 rfl (sh_iL (be := some a) (sh_nO ha f8) hf13) (v := some q8) (by rw [x_g_r_p_r, if_pos ⟨rfl, rfl, rfl⟩]) dR_levelAbove_20 ?_
    exact s_aret (v := some q8) hC hr hlocks hW dR_levelAbove_23 (Or.inr ⟨er1, q8, h13, pl13, bb13, va13, f8, hf13, rfl, rfl⟩)
end
section
theorem v_a_s (b : Nat) : v_a (some b) = b := rfl
/-! R.cell -/
def f_cell (S : gs_S) (x : Nat) (p : Int32) (v : Int64) : Int32 × gs_S := match f_pOf S x p with
  | none => (-2, S)
  | some a => if g_i S 2 9 x ≤ 0 then f_newCell S x (some a) v else (-4, S)

set_option maxHeartbeats 4000000 in
set_option maxRecDepth 100000 in
theorem c_R_cell (l : Launch) (G : gs_G) (S : gs_S) (sz : Nat) (x : Nat) (p0 : Int32) (v : Int64) (hWT : w_t S) (hX : g_sh S x = some (.inl 2)) : Met l yR_cell (kR_cell :: gU) { frames := 2, cells := 0, slots := 0, locals := 44 } (g_Pc G S sz [va_rf (some x), .int p0, .long v]) (g_Qi G S sz (fun r S' => r = (f_cell S x p0 v).1 ∧ S' = (f_cell S x p0 v).2)) 0 0 (g_A S sz) := by
  refine s_head (by decide) (Nat.le_of_ble_eq_true rfl) ?_
  intro p e s m below meth c ls hsz hC hr hlocks hnm hl hW
  subst hsz
  obtain ⟨hx, hb, hml, hown, hts⟩ := id hC
  have hl : lv_has ls 5 [(0, va_rf (some x)), (1, .int p0), (2, .long v)] := hl
  refine s_aload_n (x := some x) hx hb dR_cell_0 rfl (lv_at hl 0 rfl) ?_
  refine lv_iload_n hx hb dR_cell_1 rfl (lv_at hl 1 rfl) ?_
  refine s_callq hW (s_runV (n := 1) (As := [.int p0]) (rest := []) hC (c_R_programOf l G S s.heap.size x p0 hWT hX) uc_R_programOf uw_113 uw_115 us_R_programOf uw_1 rfl rfl (by decide +kernel) ⟨by decide, by decide⟩ (g_preV hW gc_R hX [.int p0]) rfl hl.1 rfl (Nat.le_of_ble_eq_true rfl) dR_cell_2 ⟨Nat.le_of_ble_eq_true rfl, Nat.le_of_ble_eq_true rfl⟩) (fun rq2 S2 H locs hp2 hW => ?_)
  obtain ⟨hs2, erq2⟩ := hp2
  replace hs2 := hs2.symm
  subst hs2
  refine s_astore (x := rq2) (lv' := [(4, va_rf rq2), (0, va_rf (some x)), (1, .int p0), (2, .long v)]) hx hb dR_cell_5 hl (by decide) rfl (fun ls hl => ?_)
  refine s_aload (x := rq2) hx hb dR_cell_7 (lv_at hl 0 rfl) ?_
  refine s_ifnonnull (x := rq2) (tgt := 15) hx hb dR_cell_9 (by decide) (fun b_9 c_9 => ?_) (fun c_9 => ?_)
  · skip
    subst c_9
    have sb_9 := t_pOf hWT hX _ erq2.symm
    refine s_aload_n (x := some x) hx hb dR_cell_15 rfl (lv_at hl 1 rfl) ?_
    refine s_geti hC hW gc_R iw_R 9 (by decide) uw_81 rfl hX rfl dR_cell_16 ?_
    refine lv_if_le (tgt := 25) hx hb dR_cell_19 (by decide) (fun c_19 => ?_) (fun c_19 => ?_)
    · skip
      refine s_aload_n (x := some x) hx hb dR_cell_25 rfl (lv_at hl 1 rfl) ?_
      refine s_aload (x := some b_9) hx hb dR_cell_26 (lv_at hl 0 rfl) ?_
      refine lv_lload_n hx hb dR_cell_28 rfl (lv_at hl 3 rfl) ?_
      refine s_calli hW (s_runV (n := 2) (As := [va_rf (some b_9), .long v]) (rest := []) hC (c_R_newCell l G S H.size x (some b_9) v hWT hX (fun _ q => by cases q; exact sb_9)) uc_R_newCell uw_166 uw_168 us_R_newCell uw_1 rfl rfl (by decide +kernel) ⟨by decide, by decide⟩ (g_preV hW gc_R hX [va_rf (some b_9), .long v]) rfl hl.1 rfl (Nat.le_of_ble_eq_true rfl) dR_cell_29 ⟨Nat.le_of_ble_eq_true rfl, Nat.le_of_ble_eq_true rfl⟩) (fun q29 S29 H locs hp29 hW => ?_)
      obtain ⟨eq29, hS29⟩ := hp29
      subst hS29
      subst eq29
      exact s_iret hC hr hlocks rfl hW dR_cell_32 ⟨by rw [f_cell, ← erq2]; simp only []; rw [if_pos c_19], by rw [f_cell, ← erq2]; simp only []; rw [if_pos c_19]⟩
    · skip
      refine lv_bipush (v := (-4)) hx hb dR_cell_22 (by decide) ?_
      exact s_iret hC hr hlocks rfl hW dR_cell_24 ⟨by rw [f_cell, ← erq2]; simp only []; rw [if_neg c_19], by rw [f_cell, ← erq2]; simp only []; rw [if_neg c_19]⟩
  · skip
    subst c_9
    refine lv_bipush (v := (-2)) hx hb dR_cell_12 (by decide) ?_
    exact s_iret hC hr hlocks rfl hW dR_cell_14 ⟨by rw [f_cell, ← erq2], by rw [f_cell, ← erq2]⟩

/-! R.formal -/
def f_formal (S : gs_S) (x : Nat) (p how size : Int32) : Int32 × gs_S := match f_pOf S x p with
  | none => (-2, S)
  | some a => if how < 0 then (-2, S) else if 3 < how then (-2, S) else if size < 1 then (-2, S) else if size ≤ 8 then
      (if g_i S 2 9 x ≤ 0 then (if g_i S 1 6 a < 16 then (g_i S 1 6 a, p_i (p_ai (p_ai S 4 (v_a (g_r S 1 4 a)) (g_i S 1 6 a).toNatClampNeg how) 5 (v_a (g_r S 1 5 a)) (g_i S 1 6 a).toNatClampNeg size) 1 6 a (g_i S 1 6 a + 1)) else (-1, S)) else (-4, S))
    else (-2, S)

set_option maxHeartbeats 4000000 in
set_option maxRecDepth 100000 in
theorem c_R_formal (l : Launch) (G : gs_G) (S : gs_S) (sz : Nat) (x : Nat) (p0 how size : Int32) (hWT : w_t S) (hX : g_sh S x = some (.inl 2)) : Met l yR_formal (kR_formal :: gU) { frames := 1, cells := 0, slots := 0, locals := 21 } (g_Pc G S sz [va_rf (some x), .int p0, .int how, .int size]) (g_Qi G S sz (fun r S' => r = (f_formal S x p0 how size).1 ∧ S' = (f_formal S x p0 how size).2)) 0 0 (g_A S sz) := by
  refine s_head (by decide) (Nat.le_of_ble_eq_true rfl) ?_
  intro p e s m below meth c ls hsz hC hr hlocks hnm hl hW
  subst hsz
  obtain ⟨hx, hb, hml, hown, hts⟩ := id hC
  have hl : lv_has ls 5 [(0, va_rf (some x)), (1, .int p0), (2, .int how), (3, .int size)] := hl
  refine s_aload_n (x := some x) hx hb dR_formal_0 rfl (lv_at hl 0 rfl) ?_
  refine lv_iload_n hx hb dR_formal_1 rfl (lv_at hl 1 rfl) ?_
  refine s_callq hW (s_runV (n := 1) (As := [.int p0]) (rest := []) hC (c_R_programOf l G S s.heap.size x p0 hWT hX) uc_R_programOf uw_113 uw_115 us_R_programOf uw_1 rfl rfl (by decide +kernel) ⟨by decide, by decide⟩ (g_preV hW gc_R hX [.int p0]) rfl hl.1 rfl (Nat.le_of_ble_eq_true rfl) dR_formal_2 ⟨Nat.le_of_ble_eq_true rfl, Nat.le_of_ble_eq_true rfl⟩) (fun rq2 S2 H locs hp2 hW => ?_)
  obtain ⟨hs2, erq2⟩ := hp2
  replace hs2 := hs2.symm
  subst hs2
  refine s_astore (x := rq2) (lv' := [(4, va_rf rq2), (0, va_rf (some x)), (1, .int p0), (2, .int how), (3, .int size)]) hx hb dR_formal_5 hl (by decide) rfl (fun ls hl => ?_)
  refine s_aload (x := rq2) hx hb dR_formal_7 (lv_at hl 0 rfl) ?_
  refine s_ifnull (x := rq2) (tgt := 32) hx hb dR_formal_9 (by decide) (fun c_9 => ?_) (fun b_9 c_9 => ?_)
  · skip
    subst c_9
    refine lv_bipush (v := (-2)) hx hb dR_formal_32 (by decide) ?_
    exact s_iret hC hr hlocks rfl hW dR_formal_34 ⟨by rw [f_formal, ← erq2], by rw [f_formal, ← erq2]⟩
  · skip
    subst c_9
    have sb_9 := t_pOf hWT hX _ erq2.symm
    refine lv_iload_n hx hb dR_formal_12 rfl (lv_at hl 3 rfl) ?_
    refine lv_if_lt (tgt := 32) hx hb dR_formal_13 (by decide) (fun c_13 => ?_) (fun c_13 => ?_)
    · skip
      refine lv_bipush (v := (-2)) hx hb dR_formal_32 (by decide) ?_
      exact s_iret hC hr hlocks rfl hW dR_formal_34 ⟨by rw [f_formal, ← erq2]; simp only []; rw [if_pos c_13], by rw [f_formal, ← erq2]; simp only []; rw [if_pos c_13]⟩
    · skip
      refine lv_iload_n hx hb dR_formal_16 rfl (lv_at hl 3 rfl) ?_
      refine lv_iconst (v := 3) hx hb dR_formal_17 (by decide) ?_
      refine lv_icmp_gt (tgt := 32) hx hb dR_formal_18 (by decide) (fun c_18 => ?_) (fun c_18 => ?_)
      · skip
        refine lv_bipush (v := (-2)) hx hb dR_formal_32 (by decide) ?_
        exact s_iret hC hr hlocks rfl hW dR_formal_34 ⟨by rw [f_formal, ← erq2]; simp only []; rw [if_neg c_13, if_pos c_18], by rw [f_formal, ← erq2]; simp only []; rw [if_neg c_13, if_pos c_18]⟩
      · skip
        refine lv_iload_n hx hb dR_formal_21 rfl (lv_at hl 4 rfl) ?_
        refine lv_iconst (v := 1) hx hb dR_formal_22 (by decide) ?_
        refine lv_icmp_lt (tgt := 32) hx hb dR_formal_23 (by decide) (fun c_23 => ?_) (fun c_23 => ?_)
        · skip
          refine lv_bipush (v := (-2)) hx hb dR_formal_32 (by decide) ?_
          exact s_iret hC hr hlocks rfl hW dR_formal_34 ⟨by rw [f_formal, ← erq2]; simp only []; rw [if_neg c_13, if_neg c_18, if_pos c_23], by rw [f_formal, ← erq2]; simp only []; rw [if_neg c_13, if_neg c_18, if_pos c_23]⟩
        · skip
          refine lv_iload_n hx hb dR_formal_26 rfl (lv_at hl 4 rfl) ?_
          refine lv_bipush (v := 8) hx hb dR_formal_27 (by decide) ?_
          refine lv_icmp_le (tgt := 35) hx hb dR_formal_29 (by decide) (fun c_29 => ?_) (fun c_29 => ?_)
          · skip
            refine s_aload_n (x := some x) hx hb dR_formal_35 rfl (lv_at hl 1 rfl) ?_
            refine s_geti hC hW gc_R iw_R 9 (by decide) uw_81 rfl hX rfl dR_formal_36 ?_
            refine lv_if_le (tgt := 45) hx hb dR_formal_39 (by decide) (fun c_39 => ?_) (fun c_39 => ?_)
            · skip
              obtain ⟨n, hn, en⟩ := w_formals hWT sb_9
              refine s_aload (x := some b_9) hx hb dR_formal_45 (lv_at hl 0 rfl) ?_
              refine s_geti hC hW gc_P iw_P 6 (by decide) uw_140 rfl sb_9 (v := nI n) en dR_formal_47 ?_
              refine lv_bipush (v := 16) hx hb dR_formal_50 (by decide) ?_
              refine lv_icmp_lt (tgt := 57) hx hb dR_formal_52 (by decide) (fun c_52 => ?_) (fun c_52 => ?_)
              · skip
                have hn2 : n < 16 := (nI_ltI (b := 16) (by omega) (by omega)).mp c_52
                refine s_aload (x := some b_9) hx hb dR_formal_57 (lv_at hl 0 rfl) ?_
                obtain ⟨b59, eb59, sb59⟩ := w_formalHow hWT sb_9
                refine s_getr hC hW gc_P iw_P 4 (by decide) uw_137 rfl sb_9 (v := some b59) eb59 dR_formal_59 ?_
                refine s_aload (x := some b_9) hx hb dR_formal_62 (lv_at hl 0 rfl) ?_
                refine s_geti hC hW gc_P iw_P 6 (by decide) uw_140 rfl sb_9 (v := nI n) en dR_formal_64 ?_
                refine lv_iload_n hx hb dR_formal_67 rfl (lv_at hl 3 rfl) ?_
                refine k_iast hC hW sb59 rfl rfl (by decide) n rfl (by omega) dR_formal_68 (fun H locs hW => ?_)
                refine s_aload (x := some b_9) hx hb dR_formal_69 (lv_at hl 0 rfl) ?_
                obtain ⟨b71, eb71, sb71⟩ := w_formalBytes hWT sb_9
                refine s_getr hC hW gc_P iw_P 5 (by decide) uw_139 rfl sb_9 (v := some b71) eb71 dR_formal_71 ?_
                refine s_aload (x := some b_9) hx hb dR_formal_74 (lv_at hl 0 rfl) ?_
                refine s_geti hC hW gc_P iw_P 6 (by decide) uw_140 rfl sb_9 (v := nI n) en dR_formal_76 ?_
                refine lv_iload_n hx hb dR_formal_79 rfl (lv_at hl 4 rfl) ?_
                refine k_iast hC hW sb71 rfl rfl (by decide) n rfl (by omega) dR_formal_80 (fun H locs hW => ?_)
                refine s_aload (x := some b_9) hx hb dR_formal_81 (lv_at hl 0 rfl) ?_
                refine lv_dup hx hb dR_formal_83 rfl ?_
                refine s_geti hC hW gc_P iw_P 6 (by decide) uw_140 rfl sb_9 (v := nI n) en dR_formal_84 ?_
                refine lv_iconst (v := 1) hx hb dR_formal_87 (by decide) ?_
                refine lv_iadd hx hb dR_formal_88 ?_
                refine s_puti hC hW gc_P iw_P 6 (by decide) uw_140 (Or.inl rfl) rfl rfl rfl sb_9 dR_formal_89 (fun H locs hW => ?_)
                refine s_aload (x := some b_9) hx hb dR_formal_92 (lv_at hl 0 rfl) ?_
                refine s_geti hC hW gc_P iw_P 6 (by decide) uw_140 rfl sb_9 rfl dR_formal_94 ?_
                refine lv_iconst (v := 1) hx hb dR_formal_97 (by decide) ?_
                refine lv_isub hx hb dR_formal_98 ?_
                exact s_iret hC hr hlocks rfl hW dR_formal_99 ⟨by rw [f_formal, ← erq2]; simp only []; rw [if_neg c_13, if_neg c_18, if_neg c_23, if_pos c_29, if_pos c_39, en, if_pos c_52, nI_clamp (by omega), x_g_i_p_i, if_pos ⟨rfl, rfl, rfl⟩, nI_1, nI_pred], by rw [f_formal, ← erq2]; simp only []; rw [if_neg c_13, if_neg c_18, if_neg c_23, if_pos c_29, if_pos c_39, en, if_pos c_52, nI_clamp (by omega)]; simp only [v_a, Option.getD_some, eb59, eb71]⟩
              · skip
                refine lv_iconst (v := (-1)) hx hb dR_formal_55 (by decide) ?_
                exact s_iret hC hr hlocks rfl hW dR_formal_56 ⟨by rw [f_formal, ← erq2]; simp only []; rw [if_neg c_13, if_neg c_18, if_neg c_23, if_pos c_29, if_pos c_39, en, if_neg c_52], by rw [f_formal, ← erq2]; simp only []; rw [if_neg c_13, if_neg c_18, if_neg c_23, if_pos c_29, if_pos c_39, en, if_neg c_52]⟩
            · skip
              refine lv_bipush (v := (-4)) hx hb dR_formal_42 (by decide) ?_
              exact s_iret hC hr hlocks rfl hW dR_formal_44 ⟨by rw [f_formal, ← erq2]; simp only []; rw [if_neg c_13, if_neg c_18, if_neg c_23, if_pos c_29, if_neg c_39], by rw [f_formal, ← erq2]; simp only []; rw [if_neg c_13, if_neg c_18, if_neg c_23, if_pos c_29, if_neg c_39]⟩
          · skip
            refine lv_bipush (v := (-2)) hx hb dR_formal_32 (by decide) ?_
            exact s_iret hC hr hlocks rfl hW dR_formal_34 ⟨by rw [f_formal, ← erq2]; simp only []; rw [if_neg c_13, if_neg c_18, if_neg c_23, if_neg c_29], by rw [f_formal, ← erq2]; simp only []; rw [if_neg c_13, if_neg c_18, if_neg c_23, if_neg c_29]⟩

/-! R.state, R.returned -/
def f_state (S : gs_S) (x : Nat) (p : Int32) : Int32 := match f_pOf S x p with
  | none => -1
  | some a => match g_r S 1 8 a with
    | some _ => 2
    | none => if g_i S 1 7 a = 0 then 0 else 1

set_option maxHeartbeats 4000000 in
set_option maxRecDepth 100000 in
theorem c_R_state (l : Launch) (G : gs_G) (S : gs_S) (sz : Nat) (x : Nat) (p0 : Int32) (hWT : w_t S) (hX : g_sh S x = some (.inl 2)) : Met l yR_state (kR_state :: gU) { frames := 1, cells := 0, slots := 0, locals := 21 } (g_Pc G S sz [va_rf (some x), .int p0]) (g_Qi G S sz (fun r S' => S' = S ∧ r = f_state S x p0)) 0 0 (g_A S sz) := by
  refine s_head (by decide) (Nat.le_of_ble_eq_true rfl) ?_
  intro p e s m below meth c ls hsz hC hr hlocks hnm hl hW
  subst hsz
  obtain ⟨hx, hb, hml, hown, hts⟩ := id hC
  have hl : lv_has ls 3 [(0, va_rf (some x)), (1, .int p0)] := hl
  refine s_aload_n (x := some x) hx hb dR_state_0 rfl (lv_at hl 0 rfl) ?_
  refine lv_iload_n hx hb dR_state_1 rfl (lv_at hl 1 rfl) ?_
  refine s_callq hW (s_runV (n := 1) (As := [.int p0]) (rest := []) hC (c_R_programOf l G S s.heap.size x p0 hWT hX) uc_R_programOf uw_113 uw_115 us_R_programOf uw_1 rfl rfl (by decide +kernel) ⟨by decide, by decide⟩ (g_preV hW gc_R hX [.int p0]) rfl hl.1 rfl (Nat.le_of_ble_eq_true rfl) dR_state_2 ⟨Nat.le_of_ble_eq_true rfl, Nat.le_of_ble_eq_true rfl⟩) (fun rq2 S2 H locs hp2 hW => ?_)
  obtain ⟨hs2, erq2⟩ := hp2
  replace hs2 := hs2.symm
  subst hs2
  refine s_astore_n (x := rq2) (lv' := [(2, va_rf rq2), (0, va_rf (some x)), (1, .int p0)]) hx hb dR_state_5 rfl hl (by decide) rfl (fun ls hl => ?_)
  refine s_aload_n (x := rq2) hx hb dR_state_6 rfl (lv_at hl 0 rfl) ?_
  refine s_ifnonnull (x := rq2) (tgt := 12) hx hb dR_state_7 (by decide) (fun b_7 c_7 => ?_) (fun c_7 => ?_)
  · skip
    subst c_7
    have sb_7 := t_pOf hWT hX _ erq2.symm
    refine s_aload_n (x := some b_7) hx hb dR_state_12 rfl (lv_at hl 0 rfl) ?_
    obtain ⟨r13, er13⟩ : ∃ r : Option Nat, g_r S 1 8 b_7 = r := ⟨_, rfl⟩
    refine s_getr hC hW gc_P iw_P 8 (by decide) uw_142 rfl sb_7 (v := r13) er13 dR_state_13 ?_
    refine s_ifnull (x := r13) (tgt := 21) hx hb dR_state_16 (by decide) (fun c_16 => ?_) (fun b_16 c_16 => ?_)
    · skip
      subst c_16
      refine s_aload_n (x := some b_7) hx hb dR_state_21 rfl (lv_at hl 0 rfl) ?_
      refine s_geti hC hW gc_P iw_P 7 (by decide) uw_141 rfl sb_7 rfl dR_state_22 ?_
      refine lv_if_eq (tgt := 32) hx hb dR_state_25 (by decide) (fun c_25 => ?_) (fun c_25 => ?_)
      · skip
        refine lv_iconst (v := 0) hx hb dR_state_32 (by decide) ?_
        exact s_iret hC hr hlocks rfl hW dR_state_33 ⟨rfl, by rw [f_state, ← erq2]; simp only [er13]; rw [if_pos c_25]⟩
      · skip
        refine lv_iconst (v := 1) hx hb dR_state_28 (by decide) ?_
        refine lv_goto (tgt := 33) hx hb dR_state_29 (by decide) ?_
        exact s_iret hC hr hlocks rfl hW dR_state_33 ⟨rfl, by rw [f_state, ← erq2]; simp only [er13]; rw [if_neg c_25]⟩
    · skip
      subst c_16
      have sb_16 := w_latest hWT sb_7 _ er13
      refine lv_iconst (v := 2) hx hb dR_state_19 (by decide) ?_
      exact s_iret hC hr hlocks rfl hW dR_state_20 ⟨rfl, by rw [f_state, ← erq2]; simp only [er13]⟩
  · skip
    subst c_7
    refine lv_iconst (v := (-1)) hx hb dR_state_10 (by decide) ?_
    exact s_iret hC hr hlocks rfl hW dR_state_11 ⟨rfl, by rw [f_state, ← erq2]⟩

set_option maxHeartbeats 4000000 in
set_option maxRecDepth 100000 in
theorem c_R_returned (l : Launch) (G : gs_G) (S : gs_S) (sz : Nat) (x : Nat) (hWT : w_t S) (hX : g_sh S x = some (.inl 2)) : Met l yR_returned (kR_returned :: gU) { frames := 0, cells := 0, slots := 0, locals := 0 } (g_Pc G S sz [va_rf (some x)]) (g_Ql G S sz (fun r S' => S' = S ∧ r = g_l S 2 11 x)) 0 0 (g_A S sz) := by
  refine s_head (by decide) (Nat.le_of_ble_eq_true rfl) ?_
  intro p e s m below meth c ls hsz hC hr hlocks hnm hl hW
  subst hsz
  obtain ⟨hx, hb, hml, hown, hts⟩ := id hC
  have hl : lv_has ls 1 [(0, va_rf (some x))] := hl
  refine s_aload_n (x := some x) hx hb dR_returned_0 rfl (lv_at hl 0 rfl) ?_
  refine s_getl hC hW gc_R iw_R 11 (by decide) uw_83 rfl hX rfl dR_returned_1 ?_
  exact s_lret hC hr hlocks hW dR_returned_4 ⟨rfl, rfl⟩

/-! R.count -/
def f_count (S : gs_S) (x : Nat) (w : Int32) : Int32 := if w = 0 then g_i S 2 2 x else if w = 1 then g_i S 2 5 x else if w = 2 then g_i S 2 9 x else if w = 3 then f_no S (f_run S x) else if w = 4 then (match g_r S 2 10 x with
  | none => 0
  | some u => f_no S (g_r S 0 2 u)) else if w = 5 then (match g_r S 2 10 x with
  | none => 0
  | some u => g_i S 0 4 u) else if w = 6 then (match f_run S x with
  | none => 0
  | some p => g_i S 1 6 p) else -1
theorem x_sw (w : Int32) (n : Nat) (hn : n < 64) : (∃ j : Nat, j ≤ n ∧ w = nI j) ∨ (w.toInt < 0 ∨ (n : Int) < w.toInt) := by
  by_cases h : w < 0
  · right; left
    exact Int32.lt_iff_toInt_lt.mp h
  · obtain ⟨j, hj, rfl⟩ := nI_of h
    by_cases hjn : j ≤ n
    · left; exact ⟨j, hjn, rfl⟩
    · right; right
      rw [nI_toInt hj]
      omega

set_option maxHeartbeats 4000000 in
set_option maxRecDepth 100000 in
theorem c_R_count (l : Launch) (G : gs_G) (S : gs_S) (sz : Nat) (x : Nat) (w0 : Int32) (hWT : w_t S) (hX : g_sh S x = some (.inl 2)) : Met l yR_count (kR_count :: gU) { frames := 1, cells := 0, slots := 0, locals := 20 } (g_Pc G S sz [va_rf (some x), .int w0]) (g_Qi G S sz (fun r S' => S' = S ∧ r = f_count S x w0)) 0 0 (g_A S sz) := by
  refine s_head (by decide) (Nat.le_of_ble_eq_true rfl) ?_
  intro p e s m below meth c ls hsz hC hr hlocks hnm hl hW
  subst hsz
  obtain ⟨hx, hb, hml, hown, hts⟩ := id hC
  have hl : lv_has ls 2 [(0, va_rf (some x)), (1, .int w0)] := hl
  refine lv_iload_n hx hb dR_count_0 rfl (lv_at hl 1 rfl) ?_
  rcases x_sw w0 6 (by decide) with ⟨j, hj, rfl⟩ | hout
  · have hj : j = 0 ∨ j = 1 ∨ j = 2 ∨ j = 3 ∨ j = 4 ∨ j = 5 ∨ j = 6 := by omega
    rcases hj with rfl | rfl | rfl | rfl | rfl | rfl | rfl
    · refine lv_tableIn (x := nI 0) (off := 43) (tgt := 44) hx hb dR_count_1 (by decide) (by decide) (by decide) (by decide) ?_
      refine s_aload_n (x := some x) hx hb dR_count_44 rfl (lv_at hl 0 rfl) ?_
      refine s_geti hC hW gc_R iw_R 2 (by decide) uw_74 rfl hX rfl dR_count_45 ?_
      exact s_iret hC hr hlocks rfl hW dR_count_48 ⟨rfl, by rw [f_count, if_pos (show nI 0 = 0 by decide)]⟩
    · refine lv_tableIn (x := nI 1) (off := 48) (tgt := 49) hx hb dR_count_1 (by decide) (by decide) (by decide) (by decide) ?_
      refine s_aload_n (x := some x) hx hb dR_count_49 rfl (lv_at hl 0 rfl) ?_
      refine s_geti hC hW gc_R iw_R 5 (by decide) uw_77 rfl hX rfl dR_count_50 ?_
      exact s_iret hC hr hlocks rfl hW dR_count_53 ⟨rfl, by rw [f_count, if_neg (show ¬ nI 1 = 0 by decide), if_pos (show nI 1 = 1 by decide)]⟩
    · refine lv_tableIn (x := nI 2) (off := 53) (tgt := 54) hx hb dR_count_1 (by decide) (by decide) (by decide) (by decide) ?_
      refine s_aload_n (x := some x) hx hb dR_count_54 rfl (lv_at hl 0 rfl) ?_
      refine s_geti hC hW gc_R iw_R 9 (by decide) uw_81 rfl hX rfl dR_count_55 ?_
      exact s_iret hC hr hlocks rfl hW dR_count_58 ⟨rfl, by rw [f_count, if_neg (show ¬ nI 2 = 0 by decide), if_neg (show ¬ nI 2 = 1 by decide), if_pos (show nI 2 = 2 by decide)]⟩
    · refine lv_tableIn (x := nI 3) (off := 58) (tgt := 59) hx hb dR_count_1 (by decide) (by decide) (by decide) (by decide) ?_
      refine s_aload_n (x := some x) hx hb dR_count_59 rfl (lv_at hl 0 rfl) ?_
      obtain ⟨b60, eb60, sb60⟩ := w_top hWT hX
      refine s_getr hC hW gc_R iw_R 8 (by decide) uw_80 rfl hX (v := some b60) eb60 dR_count_60 ?_
      obtain ⟨r63, er63⟩ : ∃ r : Option Nat, g_r S 0 2 b60 = r := ⟨_, rfl⟩
      refine s_getr hC hW gc_L iw_L 2 (by decide) uw_32 rfl sb60 (v := r63) er63 dR_count_63 ?_
      refine s_calli hW (s_runS (n := 1) (As := [va_rf r63]) (rest := []) hC (c_R_numberOf l G S s.heap.size r63 (fun b q => w_program hWT sb60 b (Eq.trans (er63) q))) uc_R_numberOf uw_182 uw_183 uw_1 rfl rfl (by decide +kernel) ⟨by decide, by decide⟩ (g_preS hW [va_rf r63]) rfl hl.1 rfl (Nat.le_of_ble_eq_true rfl) dR_count_66 ⟨Nat.le_of_ble_eq_true rfl, Nat.le_of_ble_eq_true rfl⟩) (fun q66 S66 H locs hp66 hW => ?_)
      obtain ⟨hs66, rfl⟩ := hp66
      replace hs66 := hs66.symm
      subst hs66
      exact s_iret hC hr hlocks rfl hW dR_count_69 ⟨rfl, by rw [f_count, if_neg (show ¬ nI 3 = 0 by decide), if_neg (show ¬ nI 3 = 1 by decide), if_neg (show ¬ nI 3 = 2 by decide), if_pos (show nI 3 = 3 by decide), f_run, f_top, eb60]; simp only [v_a, Option.getD_some, er63]⟩
    · refine lv_tableIn (x := nI 4) (off := 69) (tgt := 70) hx hb dR_count_1 (by decide) (by decide) (by decide) (by decide) ?_
      refine s_aload_n (x := some x) hx hb dR_count_70 rfl (lv_at hl 0 rfl) ?_
      obtain ⟨r71, er71⟩ : ∃ r : Option Nat, g_r S 2 10 x = r := ⟨_, rfl⟩
      refine s_getr hC hW gc_R iw_R 10 (by decide) uw_82 rfl hX (v := r71) er71 dR_count_71 ?_
      refine s_ifnonnull (x := r71) (tgt := 81) hx hb dR_count_74 (by decide) (fun b_74 c_74 => ?_) (fun c_74 => ?_)
      · skip
        subst c_74
        have sb_74 := w_prepared hWT hX _ er71
        refine s_aload_n (x := some x) hx hb dR_count_81 rfl (lv_at hl 0 rfl) ?_
        refine s_getr hC hW gc_R iw_R 10 (by decide) uw_82 rfl hX (v := some b_74) er71 dR_count_82 ?_
        obtain ⟨r85, er85⟩ : ∃ r : Option Nat, g_r S 0 2 b_74 = r := ⟨_, rfl⟩
        refine s_getr hC hW gc_L iw_L 2 (by decide) uw_32 rfl sb_74 (v := r85) er85 dR_count_85 ?_
        refine s_calli hW (s_runS (n := 1) (As := [va_rf r85]) (rest := []) hC (c_R_numberOf l G S s.heap.size r85 (fun b q => w_program hWT sb_74 b (Eq.trans (er85) q))) uc_R_numberOf uw_182 uw_183 uw_1 rfl rfl (by decide +kernel) ⟨by decide, by decide⟩ (g_preS hW [va_rf r85]) rfl hl.1 rfl (Nat.le_of_ble_eq_true rfl) dR_count_88 ⟨Nat.le_of_ble_eq_true rfl, Nat.le_of_ble_eq_true rfl⟩) (fun q88 S88 H locs hp88 hW => ?_)
        obtain ⟨hs88, rfl⟩ := hp88
        replace hs88 := hs88.symm
        subst hs88
        exact s_iret hC hr hlocks rfl hW dR_count_91 ⟨rfl, by rw [f_count, if_neg (show ¬ nI 4 = 0 by decide), if_neg (show ¬ nI 4 = 1 by decide), if_neg (show ¬ nI 4 = 2 by decide), if_neg (show ¬ nI 4 = 3 by decide), if_pos (show nI 4 = 4 by decide), er71]; simp only [er85]⟩
      · skip
        subst c_74
        refine lv_iconst (v := 0) hx hb dR_count_77 (by decide) ?_
        refine lv_goto (tgt := 91) hx hb dR_count_78 (by decide) ?_
        exact s_iret hC hr hlocks rfl hW dR_count_91 ⟨rfl, by rw [f_count, if_neg (show ¬ nI 4 = 0 by decide), if_neg (show ¬ nI 4 = 1 by decide), if_neg (show ¬ nI 4 = 2 by decide), if_neg (show ¬ nI 4 = 3 by decide), if_pos (show nI 4 = 4 by decide), er71]⟩
    · refine lv_tableIn (x := nI 5) (off := 91) (tgt := 92) hx hb dR_count_1 (by decide) (by decide) (by decide) (by decide) ?_
      refine s_aload_n (x := some x) hx hb dR_count_92 rfl (lv_at hl 0 rfl) ?_
      obtain ⟨r93, er93⟩ : ∃ r : Option Nat, g_r S 2 10 x = r := ⟨_, rfl⟩
      refine s_getr hC hW gc_R iw_R 10 (by decide) uw_82 rfl hX (v := r93) er93 dR_count_93 ?_
      refine s_ifnonnull (x := r93) (tgt := 103) hx hb dR_count_96 (by decide) (fun b_96 c_96 => ?_) (fun c_96 => ?_)
      · skip
        subst c_96
        have sb_96 := w_prepared hWT hX _ er93
        refine s_aload_n (x := some x) hx hb dR_count_103 rfl (lv_at hl 0 rfl) ?_
        refine s_getr hC hW gc_R iw_R 10 (by decide) uw_82 rfl hX (v := some b_96) er93 dR_count_104 ?_
        refine s_geti hC hW gc_L iw_L 4 (by decide) uw_35 rfl sb_96 rfl dR_count_107 ?_
        exact s_iret hC hr hlocks rfl hW dR_count_110 ⟨rfl, by rw [f_count, if_neg (show ¬ nI 5 = 0 by decide), if_neg (show ¬ nI 5 = 1 by decide), if_neg (show ¬ nI 5 = 2 by decide), if_neg (show ¬ nI 5 = 3 by decide), if_neg (show ¬ nI 5 = 4 by decide), if_pos (show nI 5 = 5 by decide), er93]⟩
      · skip
        subst c_96
        refine lv_iconst (v := 0) hx hb dR_count_99 (by decide) ?_
        refine lv_goto (tgt := 110) hx hb dR_count_100 (by decide) ?_
        exact s_iret hC hr hlocks rfl hW dR_count_110 ⟨rfl, by rw [f_count, if_neg (show ¬ nI 5 = 0 by decide), if_neg (show ¬ nI 5 = 1 by decide), if_neg (show ¬ nI 5 = 2 by decide), if_neg (show ¬ nI 5 = 3 by decide), if_neg (show ¬ nI 5 = 4 by decide), if_pos (show nI 5 = 5 by decide), er93]⟩
    · refine lv_tableIn (x := nI 6) (off := 110) (tgt := 111) hx hb dR_count_1 (by decide) (by decide) (by decide) (by decide) ?_
      refine s_aload_n (x := some x) hx hb dR_count_111 rfl (lv_at hl 0 rfl) ?_
      obtain ⟨b112, eb112, sb112⟩ := w_top hWT hX
      refine s_getr hC hW gc_R iw_R 8 (by decide) uw_80 rfl hX (v := some b112) eb112 dR_count_112 ?_
      obtain ⟨r115, er115⟩ : ∃ r : Option Nat, g_r S 0 2 b112 = r := ⟨_, rfl⟩
      refine s_getr hC hW gc_L iw_L 2 (by decide) uw_32 rfl sb112 (v := r115) er115 dR_count_115 ?_
      refine s_ifnonnull (x := r115) (tgt := 125) hx hb dR_count_118 (by decide) (fun b_118 c_118 => ?_) (fun c_118 => ?_)
      · skip
        subst c_118
        have sb_118 := w_program hWT sb112 _ er115
        refine s_aload_n (x := some x) hx hb dR_count_125 rfl (lv_at hl 0 rfl) ?_
        refine s_getr hC hW gc_R iw_R 8 (by decide) uw_80 rfl hX (v := some b112) eb112 dR_count_126 ?_
        refine s_getr hC hW gc_L iw_L 2 (by decide) uw_32 rfl sb112 (v := some b_118) er115 dR_count_129 ?_
        refine s_geti hC hW gc_P iw_P 6 (by decide) uw_140 rfl sb_118 rfl dR_count_132 ?_
        exact s_iret hC hr hlocks rfl hW dR_count_135 ⟨rfl, by rw [f_count, if_neg (show ¬ nI 6 = 0 by decide), if_neg (show ¬ nI 6 = 1 by decide), if_neg (show ¬ nI 6 = 2 by decide), if_neg (show ¬ nI 6 = 3 by decide), if_neg (show ¬ nI 6 = 4 by decide), if_neg (show ¬ nI 6 = 5 by decide), if_pos (show nI 6 = 6 by decide), f_run, f_top, eb112]; simp only [v_a, Option.getD_some, er115]⟩
      · skip
        subst c_118
        refine lv_iconst (v := 0) hx hb dR_count_121 (by decide) ?_
        refine lv_goto (tgt := 135) hx hb dR_count_122 (by decide) ?_
        exact s_iret hC hr hlocks rfl hW dR_count_135 ⟨rfl, by rw [f_count, if_neg (show ¬ nI 6 = 0 by decide), if_neg (show ¬ nI 6 = 1 by decide), if_neg (show ¬ nI 6 = 2 by decide), if_neg (show ¬ nI 6 = 3 by decide), if_neg (show ¬ nI 6 = 4 by decide), if_neg (show ¬ nI 6 = 5 by decide), if_pos (show nI 6 = 6 by decide), f_run, f_top, eb112]; simp only [v_a, Option.getD_some, er115]⟩
  · refine lv_tableOut (tgt := 136) hx hb dR_count_1 hout (by decide) ?_
    refine lv_iconst (v := (-1)) hx hb dR_count_136 (by decide) ?_
    exact s_iret hC hr hlocks rfl hW dR_count_137 ⟨rfl, by rw [f_count, if_neg (fun z => by subst z; exact absurd hout (by decide)), if_neg (fun z => by subst z; exact absurd hout (by decide)), if_neg (fun z => by subst z; exact absurd hout (by decide)), if_neg (fun z => by subst z; exact absurd hout (by decide)), if_neg (fun z => by subst z; exact absurd hout (by decide)), if_neg (fun z => by subst z; exact absurd hout (by decide)), if_neg (fun z => by subst z; exact absurd hout (by decide))]⟩

/-! R.cancel -/
def f_cancel (S : gs_S) (x : Nat) (fr nm : Int32) : Int32 × gs_S := if fr = f_no S (f_run S x) then (if f_isName nm = 0 then (-2, S) else (match f_found S x (f_run S x) nm with
  | none => (-3, S)
  | some c => if f_any S x c = 0 then f_fresh S x c else (-5, S))) else (-2, S)

set_option maxHeartbeats 4000000 in
set_option maxRecDepth 100000 in
theorem c_R_cancel (l : Launch) (G : gs_G) (S : gs_S) (sz : Nat) (x : Nat) (fr nm : Int32) (hWT : w_t S) (hX : g_sh S x = some (.inl 2)) : Met l yR_cancel (kR_cancel :: gU) { frames := 4, cells := 0, slots := 0, locals := 89 } (g_Pc G S sz [va_rf (some x), .int fr, .int nm]) (g_Qi G S sz (fun r S' => r = (f_cancel S x fr nm).1 ∧ S' = (f_cancel S x fr nm).2)) 0 0 (g_A S sz) := by
  refine s_head (by decide) (Nat.le_of_ble_eq_true rfl) ?_
  intro p e s m below meth c ls hsz hC hr hlocks hnm hl hW
  subst hsz
  obtain ⟨hx, hb, hml, hown, hts⟩ := id hC
  have hl : lv_has ls 4 [(0, va_rf (some x)), (1, .int fr), (2, .int nm)] := hl
  refine lv_iload_n hx hb dR_cancel_0 rfl (lv_at hl 1 rfl) ?_
  refine s_aload_n (x := some x) hx hb dR_cancel_1 rfl (lv_at hl 0 rfl) ?_
  obtain ⟨b2, eb2, sb2⟩ := w_top hWT hX
  refine s_getr hC hW gc_R iw_R 8 (by decide) uw_80 rfl hX (v := some b2) eb2 dR_cancel_2 ?_
  obtain ⟨r5, er5⟩ : ∃ r : Option Nat, g_r S 0 2 b2 = r := ⟨_, rfl⟩
  refine s_getr hC hW gc_L iw_L 2 (by decide) uw_32 rfl sb2 (v := r5) er5 dR_cancel_5 ?_
  refine s_calli hW (s_runS (n := 1) (As := [va_rf r5]) (rest := [.int fr]) hC (c_R_numberOf l G S s.heap.size r5 (fun b q => w_program hWT sb2 b (Eq.trans (er5) q))) uc_R_numberOf uw_182 uw_183 uw_1 rfl rfl (by decide +kernel) ⟨by decide, by decide⟩ (g_preS hW [va_rf r5]) rfl hl.1 rfl (Nat.le_of_ble_eq_true rfl) dR_cancel_8 ⟨Nat.le_of_ble_eq_true rfl, Nat.le_of_ble_eq_true rfl⟩) (fun q8 S8 H locs hp8 hW => ?_)
  obtain ⟨hs8, rfl⟩ := hp8
  replace hs8 := hs8.symm
  subst hs8
  refine lv_icmp_ne (tgt := 21) hx hb dR_cancel_11 (by decide) (fun c_11 => ?_) (fun c_11 => ?_)
  · skip
    refine lv_bipush (v := (-2)) hx hb dR_cancel_21 (by decide) ?_
    have er : f_run S x = r5 := by rw [f_run, f_top, eb2]; exact er5
    exact s_iret hC hr hlocks rfl hW dR_cancel_23 ⟨by rw [f_cancel, er, if_neg c_11], by rw [f_cancel, er, if_neg c_11]⟩
  · skip
    refine lv_iload_n hx hb dR_cancel_14 rfl (lv_at hl 2 rfl) ?_
    refine s_calli hW (s_runS (n := 1) (As := [.int nm]) (rest := []) hC (c_R_isName l G S H.size nm) uc_R_isName uw_117 uw_118 uw_1 rfl rfl (by decide +kernel) ⟨by decide, by decide⟩ (g_preS hW [.int nm]) rfl hl.1 rfl (Nat.le_of_ble_eq_true rfl) dR_cancel_15 ⟨Nat.le_of_ble_eq_true rfl, Nat.le_of_ble_eq_true rfl⟩) (fun q15 S15 H locs hp15 hW => ?_)
    obtain ⟨hs15, rfl⟩ := hp15
    replace hs15 := hs15.symm
    subst hs15
    refine lv_if_ne (tgt := 24) hx hb dR_cancel_18 (by decide) (fun c_18 => ?_) (fun c_18 => ?_)
    · skip
      refine s_aload_n (x := some x) hx hb dR_cancel_24 rfl (lv_at hl 0 rfl) ?_
      refine s_aload_n (x := some x) hx hb dR_cancel_25 rfl (lv_at hl 0 rfl) ?_
      refine s_getr hC hW gc_R iw_R 8 (by decide) uw_80 rfl hX (v := some b2) eb2 dR_cancel_26 ?_
      refine s_getr hC hW gc_L iw_L 2 (by decide) uw_32 rfl sb2 (v := r5) er5 dR_cancel_29 ?_
      refine lv_iload_n hx hb dR_cancel_32 rfl (lv_at hl 2 rfl) ?_
      refine s_callq hW (s_runV (n := 2) (As := [va_rf r5, .int nm]) (rest := []) hC (c_R_found l G S H.size x r5 nm hWT hX (fun b q => w_program hWT sb2 b (Eq.trans (er5) q))) uc_R_found uw_185 uw_187 us_R_found uw_1 rfl rfl (by decide +kernel) ⟨by decide, by decide⟩ (g_preV hW gc_R hX [va_rf r5, .int nm]) rfl hl.1 rfl (Nat.le_of_ble_eq_true rfl) dR_cancel_33 ⟨Nat.le_of_ble_eq_true rfl, Nat.le_of_ble_eq_true rfl⟩) (fun rq33 S33 H locs hp33 hW => ?_)
      obtain ⟨hs33, erq33⟩ := hp33
      replace hs33 := hs33.symm
      subst hs33
      refine s_astore_n (x := rq33) (lv' := [(3, va_rf rq33), (0, va_rf (some x)), (1, .int fr), (2, .int nm)]) hx hb dR_cancel_36 rfl hl (by decide) rfl (fun ls hl => ?_)
      refine s_aload_n (x := rq33) hx hb dR_cancel_37 rfl (lv_at hl 0 rfl) ?_
      refine s_ifnonnull (x := rq33) (tgt := 44) hx hb dR_cancel_38 (by decide) (fun b_38 c_38 => ?_) (fun c_38 => ?_)
      · skip
        subst c_38
        have sb_38 := t_found hWT hX (fun b q => w_program hWT sb2 b (Eq.trans (er5) q)) _ erq33.symm
        refine s_aload_n (x := some x) hx hb dR_cancel_44 rfl (lv_at hl 1 rfl) ?_
        refine s_aload_n (x := some b_38) hx hb dR_cancel_45 rfl (lv_at hl 0 rfl) ?_
        refine s_calli hW (s_runV (n := 1) (As := [va_rf (some b_38)]) (rest := []) hC (c_R_anyActiveOf l G S H.size x b_38 hWT hX sb_38) uc_R_anyActiveOf uw_277 uw_279 us_R_anyActiveOf uw_1 rfl rfl (by decide +kernel) ⟨by decide, by decide⟩ (g_preV hW gc_R hX [va_rf (some b_38)]) rfl hl.1 rfl (Nat.le_of_ble_eq_true rfl) dR_cancel_46 ⟨Nat.le_of_ble_eq_true rfl, Nat.le_of_ble_eq_true rfl⟩) (fun q46 S46 H locs hp46 hW => ?_)
        obtain ⟨hs46, rfl⟩ := hp46
        replace hs46 := hs46.symm
        subst hs46
        refine lv_if_eq (tgt := 55) hx hb dR_cancel_49 (by decide) (fun c_49 => ?_) (fun c_49 => ?_)
        · skip
          refine s_aload_n (x := some x) hx hb dR_cancel_55 rfl (lv_at hl 1 rfl) ?_
          refine s_aload_n (x := some b_38) hx hb dR_cancel_56 rfl (lv_at hl 0 rfl) ?_
          refine s_calli hW (s_runV (n := 1) (As := [va_rf (some b_38)]) (rest := []) hC (c_R_makeFresh l G S H.size x b_38 hWT hX sb_38) uc_R_makeFresh uw_281 uw_283 us_R_makeFresh uw_1 rfl rfl (by decide +kernel) ⟨by decide, by decide⟩ (g_preV hW gc_R hX [va_rf (some b_38)]) rfl hl.1 rfl (Nat.le_of_ble_eq_true rfl) dR_cancel_57 ⟨Nat.le_of_ble_eq_true rfl, Nat.le_of_ble_eq_true rfl⟩) (fun q57 S57 H locs hp57 hW => ?_)
          obtain ⟨eq57, hS57⟩ := hp57
          subst hS57
          subst eq57
          have er : f_run S x = r5 := by rw [f_run, f_top, eb2]; exact er5
          exact s_iret hC hr hlocks rfl hW dR_cancel_60 ⟨by rw [f_cancel, er, if_pos c_11, if_neg c_18, ← erq33]; simp only []; rw [if_pos c_49], by rw [f_cancel, er, if_pos c_11, if_neg c_18, ← erq33]; simp only []; rw [if_pos c_49]⟩
        · skip
          refine lv_bipush (v := (-5)) hx hb dR_cancel_52 (by decide) ?_
          have er : f_run S x = r5 := by rw [f_run, f_top, eb2]; exact er5
          exact s_iret hC hr hlocks rfl hW dR_cancel_54 ⟨by rw [f_cancel, er, if_pos c_11, if_neg c_18, ← erq33]; simp only []; rw [if_neg c_49], by rw [f_cancel, er, if_pos c_11, if_neg c_18, ← erq33]; simp only []; rw [if_neg c_49]⟩
      · skip
        subst c_38
        refine lv_bipush (v := (-3)) hx hb dR_cancel_41 (by decide) ?_
        have er : f_run S x = r5 := by rw [f_run, f_top, eb2]; exact er5
        exact s_iret hC hr hlocks rfl hW dR_cancel_43 ⟨by rw [f_cancel, er, if_pos c_11, if_neg c_18, ← erq33], by rw [f_cancel, er, if_pos c_11, if_neg c_18, ← erq33]⟩
    · skip
      refine lv_bipush (v := (-2)) hx hb dR_cancel_21 (by decide) ?_
      have er : f_run S x = r5 := by rw [f_run, f_top, eb2]; exact er5
      exact s_iret hC hr hlocks rfl hW dR_cancel_23 ⟨by rw [f_cancel, er, if_pos c_11, if_pos c_18], by rw [f_cancel, er, if_pos c_11, if_pos c_18]⟩

/-! R.shared -/
theorem x_name {n : Int32} (h : ¬ f_isName n = 0) : ∃ j : Nat, j < 100 ∧ n = nI j := by
  unfold f_isName at h
  split at h
  · exact absurd rfl h
  · rename_i h0
    split at h
    · exact absurd rfl h
    · rename_i h1
      obtain ⟨j, hj, rfl⟩ := nI_of h0
      refine ⟨j, ?_, rfl⟩
      have h1 : ¬ nI 100 ≤ nI j := h1
      rw [nI_leI (by omega) hj] at h1
      omega
theorem f_newCell_sh (S : gs_S) (x : Nat) (o : Option Nat) (v : Int64) (b : Nat) : g_sh (f_newCell S x o v).2 b = g_sh S b := by unfold f_newCell; split <;> rfl
theorem f_newCell_r (S : gs_S) (x : Nat) (o : Option Nat) (v : Int64) (c k b : Nat) : g_r (f_newCell S x o v).2 c k b = g_r S c k b := by unfold f_newCell; split <;> rfl
def f_shared (S : gs_S) (x : Nat) (nm : Int32) : Int32 × gs_S := if f_isName nm = 0 then (-2, S) else if g_ai S 3 (v_a (g_r S 2 6 x)) nm.toNatClampNeg = -1 then
    ((f_newCell S x none 0).1, p_ai (f_newCell S x none 0).2 3 (v_a (g_r S 2 6 x)) nm.toNatClampNeg (f_newCell S x none 0).1)
  else (g_ai S 3 (v_a (g_r S 2 6 x)) nm.toNatClampNeg, S)

set_option maxHeartbeats 4000000 in
set_option maxRecDepth 100000 in
theorem c_R_shared (l : Launch) (G : gs_G) (S : gs_S) (sz : Nat) (x : Nat) (nm : Int32) (hWT : w_t S) (hX : g_sh S x = some (.inl 2)) : Met l yR_shared (kR_shared :: gU) { frames := 2, cells := 0, slots := 0, locals := 44 } (g_Pc G S sz [va_rf (some x), .int nm]) (g_Qi G S sz (fun r S' => r = (f_shared S x nm).1 ∧ S' = (f_shared S x nm).2)) 0 0 (g_A S sz) := by
  refine s_head (by decide) (Nat.le_of_ble_eq_true rfl) ?_
  intro p e s m below meth c ls hsz hC hr hlocks hnm hl hW
  subst hsz
  obtain ⟨hx, hb, hml, hown, hts⟩ := id hC
  have hl : lv_has ls 2 [(0, va_rf (some x)), (1, .int nm)] := hl
  refine lv_iload_n hx hb dR_shared_0 rfl (lv_at hl 1 rfl) ?_
  refine s_calli hW (s_runS (n := 1) (As := [.int nm]) (rest := []) hC (c_R_isName l G S s.heap.size nm) uc_R_isName uw_117 uw_118 uw_1 rfl rfl (by decide +kernel) ⟨by decide, by decide⟩ (g_preS hW [.int nm]) rfl hl.1 rfl (Nat.le_of_ble_eq_true rfl) dR_shared_1 ⟨Nat.le_of_ble_eq_true rfl, Nat.le_of_ble_eq_true rfl⟩) (fun q1 S1 H locs hp1 hW => ?_)
  obtain ⟨hs1, rfl⟩ := hp1
  replace hs1 := hs1.symm
  subst hs1
  refine lv_if_ne (tgt := 10) hx hb dR_shared_4 (by decide) (fun c_4 => ?_) (fun c_4 => ?_)
  · skip
    obtain ⟨j, hj, ej⟩ := x_name c_4
    refine s_aload_n (x := some x) hx hb dR_shared_10 rfl (lv_at hl 0 rfl) ?_
    obtain ⟨b11, eb11, sb11⟩ := w_externals hWT hX
    refine s_getr hC hW gc_R iw_R 6 (by decide) uw_78 rfl hX (v := some b11) eb11 dR_shared_11 ?_
    refine lv_iload_n hx hb dR_shared_14 rfl (lv_at hl 1 rfl) ?_
    refine k_iald hC hW sb11 rfl rfl (by decide) j ej hj rfl dR_shared_15 ?_
    refine lv_iconst (v := (-1)) hx hb dR_shared_16 (by decide) ?_
    refine lv_icmp_ne (tgt := 32) hx hb dR_shared_17 (by decide) (fun c_17 => ?_) (fun c_17 => ?_)
    · skip
      refine s_aload_n (x := some x) hx hb dR_shared_32 rfl (lv_at hl 0 rfl) ?_
      refine s_getr hC hW gc_R iw_R 6 (by decide) uw_78 rfl hX (v := some b11) eb11 dR_shared_33 ?_
      refine lv_iload_n hx hb dR_shared_36 rfl (lv_at hl 1 rfl) ?_
      refine k_iald hC hW sb11 rfl rfl (by decide) j ej hj rfl dR_shared_37 ?_
      exact s_iret hC hr hlocks rfl hW dR_shared_38 ⟨by rw [f_shared, if_neg c_4, eb11, v_a_s, ej, nI_clamp (by omega), if_neg c_17], by rw [f_shared, if_neg c_4, eb11, v_a_s, ej, nI_clamp (by omega), if_neg c_17]⟩
    · skip
      refine s_aload_n (x := some x) hx hb dR_shared_20 rfl (lv_at hl 0 rfl) ?_
      refine s_getr hC hW gc_R iw_R 6 (by decide) uw_78 rfl hX (v := some b11) eb11 dR_shared_21 ?_
      refine lv_iload_n hx hb dR_shared_24 rfl (lv_at hl 1 rfl) ?_
      refine s_aload_n (x := some x) hx hb dR_shared_25 rfl (lv_at hl 0 rfl) ?_
      refine s_null hx hb dR_shared_26 ?_
      refine lv_lconst (v := 0) hx hb dR_shared_27 (by decide) ?_
      refine s_calli hW (s_runV (n := 2) (As := [va_rf none, .long 0]) (rest := [.int nm, va_rf (some b11)]) hC (c_R_newCell l G S H.size x none 0 hWT hX (fun _ q => by cases q)) uc_R_newCell uw_166 uw_168 us_R_newCell uw_1 rfl rfl (by decide +kernel) ⟨by decide, by decide⟩ (g_preV hW gc_R hX [va_rf none, .long 0]) rfl hl.1 rfl (Nat.le_of_ble_eq_true rfl) dR_shared_28 ⟨Nat.le_of_ble_eq_true rfl, Nat.le_of_ble_eq_true rfl⟩) (fun q28 S28 H locs hp28 hW => ?_)
      obtain ⟨eq28, hS28⟩ := hp28
      subst hS28
      subst eq28
      refine k_iast hC hW ((f_newCell_sh _ _ _ _ _).trans sb11) rfl rfl (by decide) j ej hj dR_shared_31 (fun H locs hW => ?_)
      refine s_aload_n (x := some x) hx hb dR_shared_32 rfl (lv_at hl 0 rfl) ?_
      refine s_getr hC hW gc_R iw_R 6 (by decide) uw_78 rfl ((f_newCell_sh _ _ _ _ _).trans hX) (v := some b11) ((f_newCell_r _ _ _ _ _ _ _).trans eb11) dR_shared_33 ?_
      refine lv_iload_n hx hb dR_shared_36 rfl (lv_at hl 1 rfl) ?_
      refine k_iald hC hW ((f_newCell_sh _ _ _ _ _).trans sb11) rfl rfl (by decide) j ej hj rfl dR_shared_37 ?_
      exact s_iret hC hr hlocks rfl hW dR_shared_38 ⟨by rw [f_shared, if_neg c_4, eb11, v_a_s, ej, nI_clamp (by omega), if_pos c_17]; simp only []; rw [x_g_ai_p_ai, if_pos ⟨rfl, rfl, rfl⟩], by rw [f_shared, if_neg c_4, eb11, v_a_s, ej, nI_clamp (by omega), if_pos c_17]⟩
  · skip
    refine lv_bipush (v := (-2)) hx hb dR_shared_7 (by decide) ?_
    exact s_iret hC hr hlocks rfl hW dR_shared_9 ⟨by rw [f_shared, if_pos c_4], by rw [f_shared, if_pos c_4]⟩
end
section
theorem t_holder {S : gs_S} {x : Nat} {n : Int32} (hWT : w_t S) (hX : g_sh S x = some (.inl 2)) : t_o S 0 (f_holder S x n) := by
  obtain ⟨tp, etp, stp⟩ := w_top hWT hX
  have erun : f_run S x = g_r S 0 2 tp := by rw [f_run, f_top, etp, v_a_s]
  unfold f_holder
  split
  · rename_i c1
    split
    · rename_i c2
      split
      · exact t_no (w_bottom hWT hX)
      · rename_i o ho
        obtain ⟨ck, hck, eck⟩ := w_cellCount hWT hX
        obtain ⟨ow, eow, sow⟩ := w_owners hWT hX
        obtain ⟨j, hj, ej⟩ := x_cell hck eck c1 c2
        rw [eow, v_a_s, ej, nI_clamp (by omega)] at ho
        split
        · intro b hb; cases hb
        · split
          · intro b hb; cases hb
          · exact t_no (t_data hWT hX (hWT.2.2.2.2.1.2 ow sow j (by omega) o ho))
    · intro b hb; cases hb
  · rename_i c1
    split
    · intro b hb; cases hb
    · rename_i p hp
      split
      · intro b hb; cases hb
      · rename_i c2
        rw [erun] at hp
        obtain ⟨fk, hfk, efk⟩ := w_formals hWT (w_program hWT stp p hp)
        obtain ⟨h, eh, sh_⟩ := w_holders hWT stp
        obtain ⟨j, hj, ej⟩ := x_ngt hfk efk c1 rfl c2
        rw [f_top, etp, v_a_s, eh, v_a_s, ej, nI_clamp (by omega)]
        exact hWT.2.1 h sh_ j (by omega)
theorem x_hold {S : gs_S} {x b : Nat} {n : Int32} (hWT : w_t S) (hX : g_sh S x = some (.inl 2)) (h : f_holder S x n = some b) : (¬ 0 ≤ n → ∃ j : Nat, j < 16 ∧ -1 - n = nI j) ∧ ∃ q : Nat, q < 216 ∧ f_place S x n = nI q := by
  obtain ⟨tp, etp, stp⟩ := w_top hWT hX
  have erun : f_run S x = g_r S 0 2 tp := by rw [f_run, f_top, etp, v_a_s]
  unfold f_holder at h
  split at h
  · rename_i c1
    split at h
    · rename_i c2
      obtain ⟨ck, hck, eck⟩ := w_cellCount hWT hX
      obtain ⟨j, hj, ej⟩ := x_cell hck eck c1 c2
      exact ⟨fun z => absurd c1 z, 16 + j, by omega, by rw [ej]; exact f_place_i (by omega)⟩
    · cases h
  · rename_i c1
    split at h
    · cases h
    · rename_i p hp
      split at h
      · cases h
      · rename_i c2
        rw [erun] at hp
        obtain ⟨fk, hfk, efk⟩ := w_formals hWT (w_program hWT stp p hp)
        obtain ⟨j, hj, ej⟩ := x_ngt hfk efk c1 rfl c2
        obtain ⟨pl, epl, spl⟩ := w_places hWT stp
        obtain ⟨q, hq, eq⟩ := hWT.2.2.1 pl spl j (by omega)
        refine ⟨fun _ => ⟨j, by omega, ej⟩, q, hq, ?_⟩
        rw [f_place, if_neg c1, f_top, etp, v_a_s, epl, v_a_s, ej, nI_clamp (by omega)]
        exact eq

/-! R.set -/
def f_mask (u : Int32) : Int64 := ((-1 : Int64).toUInt64 >>> (u.toInt64.toUInt64 &&& Int64.toUInt64 63)).toInt64
def f_set (S : gs_S) (x : Nat) (n : Int32) (v : Int64) : Int32 × gs_S := match f_holder S x n with
  | none => (-2, S)
  | some b => (1, p_al S 9 (v_a (g_r S 0 8 b)) (f_place S x n).toNatClampNeg ((g_al S 9 (v_a (g_r S 0 8 b)) (f_place S x n).toNatClampNeg &&& (f_mask (f_unused S x n) ^^^ (-1))) ||| (v &&& f_mask (f_unused S x n))))

set_option maxHeartbeats 4000000 in
set_option maxRecDepth 100000 in
theorem c_R_set (l : Launch) (G : gs_G) (S : gs_S) (sz : Nat) (x : Nat) (n : Int32) (v : Int64) (hWT : w_t S) (hX : g_sh S x = some (.inl 2)) : Met l yR_set (kR_set :: gU) { frames := 3, cells := 0, slots := 0, locals := 66 } (g_Pc G S sz [va_rf (some x), .int n, .long v]) (g_Qi G S sz (fun r S' => r = (f_set S x n v).1 ∧ S' = (f_set S x n v).2)) 0 0 (g_A S sz) := by
  refine s_head (by decide) (Nat.le_of_ble_eq_true rfl) ?_
  intro p e s m below meth c ls hsz hC hr hlocks hnm hl hW
  subst hsz
  obtain ⟨hx, hb, hml, hown, hts⟩ := id hC
  have hl : lv_has ls 8 [(0, va_rf (some x)), (1, .int n), (2, .long v)] := hl
  refine s_aload_n (x := some x) hx hb dR_set_0 rfl (lv_at hl 0 rfl) ?_
  refine lv_iload_n hx hb dR_set_1 rfl (lv_at hl 1 rfl) ?_
  refine s_callq hW (s_runV (n := 1) (As := [.int n]) (rest := []) hC (c_R_holderOf l G S s.heap.size x n hWT hX) uc_R_holderOf uw_215 uw_217 us_R_holderOf uw_1 rfl rfl (by decide +kernel) ⟨by decide, by decide⟩ (g_preV hW gc_R hX [.int n]) rfl hl.1 rfl (Nat.le_of_ble_eq_true rfl) dR_set_2 ⟨Nat.le_of_ble_eq_true rfl, Nat.le_of_ble_eq_true rfl⟩) (fun rq2 S2 H locs hp2 hW => ?_)
  obtain ⟨hs2, erq2⟩ := hp2
  replace hs2 := hs2.symm
  subst hs2
  refine s_astore (x := rq2) (lv' := [(4, va_rf rq2), (0, va_rf (some x)), (1, .int n), (2, .long v)]) hx hb dR_set_5 hl (by decide) rfl (fun ls hl => ?_)
  refine s_aload (x := rq2) hx hb dR_set_7 (lv_at hl 0 rfl) ?_
  refine s_ifnonnull (x := rq2) (tgt := 15) hx hb dR_set_9 (by decide) (fun b_9 c_9 => ?_) (fun c_9 => ?_)
  · skip
    subst c_9
    have sb_9 := t_holder hWT hX _ erq2.symm
    obtain ⟨hc, q, hq, eq⟩ := x_hold hWT hX erq2.symm
    refine lv_ldc2 (v := (-1)) hx hb hown (hts _ uw_264) dR_set_15 ?_
    refine s_aload_n (x := some x) hx hb dR_set_18 rfl (lv_at hl 1 rfl) ?_
    refine lv_iload_n hx hb dR_set_19 rfl (lv_at hl 2 rfl) ?_
    refine s_calli hW (s_runV (n := 1) (As := [.int n]) (rest := [.long (-1)]) hC (c_R_unusedBits l G S H.size x n hWT hX hc) uc_R_unusedBits uw_265 uw_267 us_R_unusedBits uw_1 rfl rfl (by decide +kernel) ⟨by decide, by decide⟩ (g_preV hW gc_R hX [.int n]) rfl hl.1 rfl (Nat.le_of_ble_eq_true rfl) dR_set_20 ⟨Nat.le_of_ble_eq_true rfl, Nat.le_of_ble_eq_true rfl⟩) (fun q20 S20 H locs hp20 hW => ?_)
    obtain ⟨hs20, rfl⟩ := hp20
    replace hs20 := hs20.symm
    subst hs20
    refine lv_lushr hx hb dR_set_23 rfl ?_
    refine lv_topl (fun v_23 ev_23 => ?_)
    refine lv_lstore (lv' := [(5, .long v_23), (4, va_rf (some b_9)), (0, va_rf (some x)), (1, .int n), (2, .long v)]) hx hb dR_set_24 hl (by decide) rfl (fun ls hl => ?_)
    refine s_aload_n (x := some x) hx hb dR_set_26 rfl (lv_at hl 2 rfl) ?_
    refine lv_iload_n hx hb dR_set_27 rfl (lv_at hl 3 rfl) ?_
    refine s_calli hW (s_runV (n := 1) (As := [.int n]) (rest := []) hC (c_R_placeOf l G S H.size x n hWT hX hc) uc_R_placeOf uw_170 uw_172 us_R_placeOf uw_1 rfl rfl (by decide +kernel) ⟨by decide, by decide⟩ (g_preV hW gc_R hX [.int n]) rfl hl.1 rfl (Nat.le_of_ble_eq_true rfl) dR_set_28 ⟨Nat.le_of_ble_eq_true rfl, Nat.le_of_ble_eq_true rfl⟩) (fun q28 S28 H locs hp28 hW => ?_)
    obtain ⟨hs28, rfl⟩ := hp28
    replace hs28 := hs28.symm
    subst hs28
    refine lv_topi (fun v_31 ev_31 => ?_)
    refine lv_istore (lv' := [(7, .int v_31), (5, .long v_23), (4, va_rf (some b_9)), (0, va_rf (some x)), (1, .int n), (2, .long v)]) hx hb dR_set_31 hl (by decide) rfl (fun ls hl => ?_)
    refine s_aload (x := some b_9) hx hb dR_set_33 (lv_at hl 2 rfl) ?_
    obtain ⟨b35, eb35, sb35⟩ := w_values hWT sb_9
    refine s_getr hC hW gc_L iw_L 8 (by decide) uw_43 rfl sb_9 (v := some b35) eb35 dR_set_35 ?_
    refine lv_iload hx hb dR_set_38 (lv_at hl 0 rfl) ?_
    refine s_aload (x := some b_9) hx hb dR_set_40 (lv_at hl 2 rfl) ?_
    refine s_getr hC hW gc_L iw_L 8 (by decide) uw_43 rfl sb_9 (v := some b35) eb35 dR_set_42 ?_
    refine lv_iload hx hb dR_set_45 (lv_at hl 0 rfl) ?_
    refine k_lald hC hW sb35 rfl rfl (by decide) q (ev_31.trans eq) hq rfl dR_set_47 ?_
    refine lv_lload hx hb dR_set_48 (lv_at hl 1 rfl) ?_
    refine lv_ldc2 (v := (-1)) hx hb hown (hts _ uw_264) dR_set_50 ?_
    refine lv_lxor hx hb dR_set_53 ?_
    refine lv_land hx hb dR_set_54 ?_
    refine lv_lload_n hx hb dR_set_55 rfl (lv_at hl 5 rfl) ?_
    refine lv_lload hx hb dR_set_56 (lv_at hl 1 rfl) ?_
    refine lv_land hx hb dR_set_58 ?_
    refine lv_lor hx hb dR_set_59 ?_
    refine k_last hC hW sb35 rfl rfl (by decide) q (ev_31.trans eq) hq dR_set_60 (fun H locs hW => ?_)
    refine lv_iconst (v := 1) hx hb dR_set_61 (by decide) ?_
    exact s_iret hC hr hlocks rfl hW dR_set_62 ⟨by rw [f_set, ← erq2], by rw [f_set, ← erq2]; simp only [eb35, v_a_s, eq, nI_clamp (show q < 2 ^ 31 by omega)]; rw [ev_23]; rfl⟩
  · skip
    subst c_9
    refine lv_bipush (v := (-2)) hx hb dR_set_12 (by decide) ?_
    exact s_iret hC hr hlocks rfl hW dR_set_14 ⟨by rw [f_set, ← erq2], by rw [f_set, ← erq2]⟩

/-! R.leave -/
theorem x_kn (S : gs_S) (a : Nat) : narrow .boolean (.int (f_keeps S a)) = .int (f_keeps S a) := by unfold f_keeps; split <;> (try split) <;> rfl
theorem x_kf (S : gs_S) (a : Nat) : fits .boolean (.int (f_keeps S a)) = true := by unfold f_keeps; split <;> (try split) <;> rfl
def l_1 (S : gs_S) (a tp : Nat) : gs_S := p_r S 1 8 a (g_r S 0 3 tp)
def l_6 (S : gs_S) (x a tp b : Nat) (v : Int64) : gs_S := p_l (p_r (p_i (p_r (p_i (l_1 S a tp) 1 7 a (f_keeps (l_1 S a tp) a)) 2 8 x (some b)) 2 9 x (g_i S 2 9 x - 1)) 2 10 x none) 2 11 x v
def f_leave (S : gs_S) (x : Nat) (v : Int64) : Int32 × gs_S := match f_run S x with
  | none => (-4, S)
  | some a => match g_r S 0 0 (f_top S x) with
    | none => (-4, S)
    | some b => (f_no (l_6 S x a (f_top S x) b v) (g_r S 0 2 b), l_6 S x a (f_top S x) b v)

set_option maxHeartbeats 4000000 in
set_option maxRecDepth 100000 in
theorem c_R_leave (l : Launch) (G : gs_G) (S : gs_S) (sz : Nat) (x : Nat) (v : Int64) (hWT : w_t S) (hX : g_sh S x = some (.inl 2)) : Met l yR_leave (kR_leave :: gU) { frames := 2, cells := 0, slots := 0, locals := 41 } (g_Pc G S sz [va_rf (some x), .long v]) (g_Qi G S sz (fun r S' => r = (f_leave S x v).1 ∧ S' = (f_leave S x v).2)) 0 0 (g_A S sz) := by
  refine s_head (by decide) (Nat.le_of_ble_eq_true rfl) ?_
  intro p e s m below meth c ls hsz hC hr hlocks hnm hl hW
  subst hsz
  obtain ⟨hx, hb, hml, hown, hts⟩ := id hC
  have hl : lv_has ls 5 [(0, va_rf (some x)), (1, .long v)] := hl
  refine s_aload_n (x := some x) hx hb dR_leave_0 rfl (lv_at hl 0 rfl) ?_
  obtain ⟨b1, eb1, sb1⟩ := w_top hWT hX
  refine s_getr hC hW gc_R iw_R 8 (by decide) uw_80 rfl hX (v := some b1) eb1 dR_leave_1 ?_
  obtain ⟨r4, er4⟩ : ∃ r : Option Nat, g_r S 0 2 b1 = r := ⟨_, rfl⟩
  refine s_getr hC hW gc_L iw_L 2 (by decide) uw_32 rfl sb1 (v := r4) er4 dR_leave_4 ?_
  refine s_astore_n (x := r4) (lv' := [(3, va_rf r4), (0, va_rf (some x)), (1, .long v)]) hx hb dR_leave_7 rfl hl (by decide) rfl (fun ls hl => ?_)
  refine s_aload_n (x := some x) hx hb dR_leave_8 rfl (lv_at hl 1 rfl) ?_
  refine s_getr hC hW gc_R iw_R 8 (by decide) uw_80 rfl hX (v := some b1) eb1 dR_leave_9 ?_
  obtain ⟨r12, er12⟩ : ∃ r : Option Nat, g_r S 0 0 b1 = r := ⟨_, rfl⟩
  refine s_getr hC hW gc_L iw_L 0 (by decide) uw_29 rfl sb1 (v := r12) er12 dR_leave_12 ?_
  refine s_astore (x := r12) (lv' := [(4, va_rf r12), (3, va_rf r4), (0, va_rf (some x)), (1, .long v)]) hx hb dR_leave_15 hl (by decide) (by simp [s_cat, s_catI, s_catL] <;> decide) (fun ls hl => ?_)
  refine s_aload_n (x := r4) hx hb dR_leave_17 rfl (lv_at hl 1 rfl) ?_
  refine s_ifnull (x := r4) (tgt := 26) hx hb dR_leave_18 (by decide) (fun c_18 => ?_) (fun b_18 c_18 => ?_)
  · skip
    subst c_18
    refine lv_bipush (v := (-4)) hx hb dR_leave_26 (by decide) ?_
    have et : f_top S x = b1 := by rw [f_top, eb1]; rfl
    have er : f_run S x = none := by rw [f_run, et]; exact er4
    exact s_iret hC hr hlocks rfl hW dR_leave_28 ⟨by rw [f_leave, er], by rw [f_leave, er]⟩
  · skip
    subst c_18
    have sb_18 := w_program hWT sb1 _ er4
    refine s_aload (x := r12) hx hb dR_leave_21 (lv_at hl 0 rfl) ?_
    refine s_ifnonnull (x := r12) (tgt := 29) hx hb dR_leave_23 (by decide) (fun b_23 c_23 => ?_) (fun c_23 => ?_)
    · skip
      subst c_23
      have sb_23 := w_below hWT sb1 _ er12
      refine s_aload_n (x := some b_18) hx hb dR_leave_29 rfl (lv_at hl 1 rfl) ?_
      refine s_aload_n (x := some x) hx hb dR_leave_30 rfl (lv_at hl 2 rfl) ?_
      refine s_getr hC hW gc_R iw_R 8 (by decide) uw_80 rfl hX (v := some b1) eb1 dR_leave_31 ?_
      obtain ⟨r34, er34⟩ : ∃ r : Option Nat, g_r S 0 3 b1 = r := ⟨_, rfl⟩
      refine s_getr hC hW gc_L iw_L 3 (by decide) uw_33 rfl sb1 (v := r34) er34 dR_leave_34 ?_
      refine s_putr (v := r34) hC hW gc_P iw_P 8 (by decide) uw_142 (Or.inl rfl) (g_nr _) (g_ft _) rfl sb_18 dR_leave_37 (fun H locs hW => ?_)
      refine s_aload_n (x := some b_18) hx hb dR_leave_40 rfl (lv_at hl 1 rfl) ?_
      refine s_aload_n (x := some b_18) hx hb dR_leave_41 rfl (lv_at hl 1 rfl) ?_
      refine s_calli hW (s_runV (n := 0) (As := []) (rest := [va_rf (some b_18)]) hC (c_P_keepsData l G (p_r S 1 8 b_18 r34) H.size b_18 sb_18) uc_P_keepsData uw_251 uw_252 uw_253 uw_5 rfl rfl (by decide +kernel) ⟨by decide, by decide⟩ (g_preV hW gc_P sb_18 []) rfl hl.1 rfl (Nat.le_of_ble_eq_true rfl) dR_leave_42 ⟨Nat.le_of_ble_eq_true rfl, Nat.le_of_ble_eq_true rfl⟩) (fun q42 S42 H locs hp42 hW => ?_)
      obtain ⟨hs42, rfl⟩ := hp42
      replace hs42 := hs42.symm
      subst hs42
      refine s_puti hC hW gc_P iw_P 7 (by decide) uw_141 (Or.inl rfl) (x_kn _ _) (x_kf _ _) rfl sb_18 dR_leave_45 (fun H locs hW => ?_)
      refine s_aload_n (x := some x) hx hb dR_leave_48 rfl (lv_at hl 2 rfl) ?_
      refine s_aload (x := some b_23) hx hb dR_leave_49 (lv_at hl 0 rfl) ?_
      refine s_putr (v := some b_23) hC hW gc_R iw_R 8 (by decide) uw_80 (Or.inl rfl) (g_nr _) (g_ft _) rfl hX dR_leave_51 (fun H locs hW => ?_)
      refine s_aload_n (x := some x) hx hb dR_leave_54 rfl (lv_at hl 2 rfl) ?_
      refine lv_dup hx hb dR_leave_55 rfl ?_
      refine s_geti hC hW gc_R iw_R 9 (by decide) uw_81 rfl hX rfl dR_leave_56 ?_
      refine lv_iconst (v := 1) hx hb dR_leave_59 (by decide) ?_
      refine lv_isub hx hb dR_leave_60 ?_
      refine s_puti hC hW gc_R iw_R 9 (by decide) uw_81 (Or.inl rfl) rfl rfl rfl hX dR_leave_61 (fun H locs hW => ?_)
      refine s_aload_n (x := some x) hx hb dR_leave_64 rfl (lv_at hl 2 rfl) ?_
      refine s_null hx hb dR_leave_65 ?_
      refine s_putr (v := none) hC hW gc_R iw_R 10 (by decide) uw_82 (Or.inl rfl) (g_nr _) (g_ft _) rfl hX dR_leave_66 (fun H locs hW => ?_)
      refine s_aload_n (x := some x) hx hb dR_leave_69 rfl (lv_at hl 2 rfl) ?_
      refine lv_lload_n hx hb dR_leave_70 rfl (lv_at hl 3 rfl) ?_
      refine s_putl hC hW gc_R iw_R 11 (by decide) uw_83 (Or.inl rfl) rfl rfl rfl hX dR_leave_71 (fun H locs hW => ?_)
      refine s_aload_n (x := some x) hx hb dR_leave_74 rfl (lv_at hl 2 rfl) ?_
      refine s_getr hC hW gc_R iw_R 8 (by decide) uw_80 rfl hX (v := some b_23) (by simp [x_gs]) dR_leave_75 ?_
      obtain ⟨r78, er78⟩ : ∃ r : Option Nat, g_r (p_l (p_r (p_i (p_r (p_i (p_r S 1 8 b_18 r34) 1 7 b_18 (f_keeps (p_r S 1 8 b_18 r34) b_18)) 2 8 x (some b_23)) 2 9 x ((g_i (p_r (p_i (p_r S 1 8 b_18 r34) 1 7 b_18 (f_keeps (p_r S 1 8 b_18 r34) b_18)) 2 8 x (some b_23)) 2 9 x) - 1)) 2 10 x none) 2 11 x v) 0 2 b_23 = r := ⟨_, rfl⟩
      refine s_getr hC hW gc_L iw_L 2 (by decide) uw_32 rfl sb_23 (v := r78) er78 dR_leave_78 ?_
      refine s_calli hW (s_runS (n := 1) (As := [va_rf r78]) (rest := []) hC (c_R_numberOf l G (p_l (p_r (p_i (p_r (p_i (p_r S 1 8 b_18 r34) 1 7 b_18 (f_keeps (p_r S 1 8 b_18 r34) b_18)) 2 8 x (some b_23)) 2 9 x ((g_i (p_r (p_i (p_r S 1 8 b_18 r34) 1 7 b_18 (f_keeps (p_r S 1 8 b_18 r34) b_18)) 2 8 x (some b_23)) 2 9 x) - 1)) 2 10 x none) 2 11 x v) H.size r78 (fun b q => w_program hWT sb_23 b (Eq.trans (er78) q))) uc_R_numberOf uw_182 uw_183 uw_1 rfl rfl (by decide +kernel) ⟨by decide, by decide⟩ (g_preS hW [va_rf r78]) rfl hl.1 rfl (Nat.le_of_ble_eq_true rfl) dR_leave_81 ⟨Nat.le_of_ble_eq_true rfl, Nat.le_of_ble_eq_true rfl⟩) (fun q81 S81 H locs hp81 hW => ?_)
      obtain ⟨hs81, rfl⟩ := hp81
      replace hs81 := hs81.symm
      subst hs81
      have et : f_top S x = b1 := by rw [f_top, eb1]; rfl
      have er : f_run S x = some b_18 := by rw [f_run, et]; exact er4
      subst er34
      exact s_iret hC hr hlocks rfl hW dR_leave_84 ⟨by rw [f_leave, er]; simp only [et, er12]; rw [← er78]; rfl, by rw [f_leave, er]; simp only [et, er12]; rfl⟩
    · skip
      subst c_23
      refine lv_bipush (v := (-4)) hx hb dR_leave_26 (by decide) ?_
      have et : f_top S x = b1 := by rw [f_top, eb1]; rfl
      have er : f_run S x = some b_18 := by rw [f_run, et]; exact er4
      exact s_iret hC hr hlocks rfl hW dR_leave_28 ⟨by rw [f_leave, er]; simp only [et, er12], by rw [f_leave, er]; simp only [et, er12]⟩

/-! R.enter -/
theorem wt_unprep {S : gs_S} {x : Nat} (h : w_t S) : w_t (p_r S 2 10 x none) := wt_pr h (fun z => absurd z (by decide)) (fun z => absurd z (by decide)) (fun _ => Or.inr ⟨rfl, fun _ z => by cases z⟩)
theorem f_cv_sh (lv fh : Nat) : ∀ (k i : Nat) (T : gs_S) (b : Nat), g_sh (f_cv lv fh k i T) b = g_sh T b := by
  intro k
  induction k with
  | zero => intro i T b; rfl
  | succ k ih => intro i T b; rw [f_cv, ih]; split; rfl; exact f_copy_sh _ _ _ _
theorem f_cv_r (lv fh : Nat) : ∀ (k i : Nat) (T : gs_S) (c j b : Nat), g_r (f_cv lv fh k i T) c j b = g_r T c j b := by
  intro k
  induction k with
  | zero => intro i T c j b; rfl
  | succ k ih => intro i T c j b; rw [f_cv, ih]; split; rfl; exact f_copy_r _ _ _ _ _ _
theorem f_cv_i (lv fh : Nat) : ∀ (k i : Nat) (T : gs_S) (c j b : Nat), g_i (f_cv lv fh k i T) c j b = g_i T c j b := by
  intro k
  induction k with
  | zero => intro i T c j b; rfl
  | succ k ih => intro i T c j b; rw [f_cv, ih]; split; rfl; exact f_copy_i _ _ _ _ _ _
theorem wt_cv (lv fh : Nat) : ∀ (k i : Nat) (T : gs_S), w_t T → g_sh T lv = some (.inl 0) → i + k ≤ 16 → w_t (f_cv lv fh k i T) := by
  intro k
  induction k with
  | zero => intro i T h _ _; exact h
  | succ k ih =>
    intro i T h hl hi
    rw [f_cv]
    split
    · exact ih _ _ h hl (by omega)
    · exact ih _ _ (wt_copy h hl (by omega)) ((f_copy_sh _ _ _ _).trans hl) (by omega)
theorem f_cvs_sh (S : gs_S) (lv a b : Nat) : g_sh (f_cvs S lv a) b = g_sh S b := f_cv_sh _ _ _ _ _ _
theorem f_cvs_r (S : gs_S) (lv a c j b : Nat) : g_r (f_cvs S lv a) c j b = g_r S c j b := f_cv_r _ _ _ _ _ _ _ _
theorem f_cvs_i (S : gs_S) (lv a c j b : Nat) : g_i (f_cvs S lv a) c j b = g_i S c j b := f_cv_i _ _ _ _ _ _ _ _
theorem wt_cvs {S : gs_S} {lv a : Nat} (h : w_t S) (hl : g_sh S lv = some (.inl 0)) (ha : g_sh S a = some (.inl 1)) : w_t (f_cvs S lv a) := by
  obtain ⟨n, hn, en⟩ := w_formals h ha
  unfold f_cvs
  rw [en, nI_clamp (by omega)]
  exact wt_cv _ _ n 0 S h hl (by omega)
def e_2 (S : gs_S) (x lv a : Nat) : gs_S := f_cvs (p_r S 2 10 x none) lv a
def e_6 (S : gs_S) (x lv a : Nat) : gs_S := p_i (p_r (p_r (p_r (e_2 S x lv a) 0 3 lv (g_r (e_2 S x lv a) 1 8 a)) 1 8 a (some lv)) 2 8 x (some lv)) 2 9 x (g_i (e_2 S x lv a) 2 9 x + 1)
theorem wt_e6 {S : gs_S} {x lv a : Nat} (h : w_t S) (hl : g_sh S lv = some (.inl 0)) (ha : g_sh S a = some (.inl 1)) : w_t (e_6 S x lv a) := by
  have h2 : w_t (e_2 S x lv a) := wt_cvs (wt_unprep h) hl ha
  have hl2 : g_sh (e_2 S x lv a) lv = some (.inl 0) := (f_cvs_sh _ _ _ _).trans hl
  have ha2 : g_sh (e_2 S x lv a) a = some (.inl 1) := (f_cvs_sh _ _ _ _).trans ha
  unfold e_6
  generalize e_2 S x lv a = T at h2 hl2 ha2 ⊢
  refine wt_pi0 (wt_pr (wt_pr (wt_pr h2 (fun _ => Or.inl ⟨Or.inr (Or.inr rfl), w_latest h2 ha2⟩) (fun z => absurd z (by decide)) (fun z => absurd z (by decide))) (fun z => absurd z (by decide)) (fun _ => ⟨rfl, ?_⟩) (fun z => absurd z (by decide))) (fun z => absurd z (by decide)) (fun z => absurd z (by decide)) (fun _ => Or.inl ⟨rfl, lv, rfl, hl2⟩)) (by decide)
  intro b hb
  cases hb
  exact hl2
def f_enter (S : gs_S) (x : Nat) : Int32 × gs_S := match g_r S 2 10 x with
  | none => (-4, S)
  | some lv => match g_r S 0 2 lv with
    | none => (-4, S)
    | some a => if f_fit (p_r S 2 10 x none) lv a = 0 then (-7, p_r S 2 10 x none) else if f_suf (p_r S 2 10 x none) lv a = 0 then (-8, p_r S 2 10 x none) else if f_keeps (e_6 S x lv a) a = 0 then (1, f_give (e_6 S x lv a) x a) else (1, e_6 S x lv a)

set_option maxHeartbeats 4000000 in
set_option maxRecDepth 100000 in
theorem c_R_enter (l : Launch) (G : gs_G) (S : gs_S) (sz : Nat) (x : Nat) (hWT : w_t S) (hX : g_sh S x = some (.inl 2)) : Met l yR_enter (kR_enter :: gU) { frames := 3, cells := 0, slots := 0, locals := 65 } (g_Pc G S sz [va_rf (some x)]) (g_Qi G S sz (fun r S' => r = (f_enter S x).1 ∧ S' = (f_enter S x).2)) 0 0 (g_A S sz) := by
  refine s_head (by decide) (Nat.le_of_ble_eq_true rfl) ?_
  intro p e s m below meth c ls hsz hC hr hlocks hnm hl hW
  subst hsz
  obtain ⟨hx, hb, hml, hown, hts⟩ := id hC
  have hl : lv_has ls 3 [(0, va_rf (some x))] := hl
  refine s_aload_n (x := some x) hx hb dR_enter_0 rfl (lv_at hl 0 rfl) ?_
  obtain ⟨r1, er1⟩ : ∃ r : Option Nat, g_r S 2 10 x = r := ⟨_, rfl⟩
  refine s_getr hC hW gc_R iw_R 10 (by decide) uw_82 rfl hX (v := r1) er1 dR_enter_1 ?_
  refine s_astore_n (x := r1) (lv' := [(1, va_rf r1), (0, va_rf (some x))]) hx hb dR_enter_4 rfl hl (by decide) rfl (fun ls hl => ?_)
  refine s_aload_n (x := r1) hx hb dR_enter_5 rfl (lv_at hl 0 rfl) ?_
  refine s_ifnull (x := r1) (tgt := 16) hx hb dR_enter_6 (by decide) (fun c_6 => ?_) (fun b_6 c_6 => ?_)
  · skip
    subst c_6
    refine lv_bipush (v := (-4)) hx hb dR_enter_16 (by decide) ?_
    exact s_iret hC hr hlocks rfl hW dR_enter_18 ⟨by rw [f_enter, er1], by rw [f_enter, er1]⟩
  · skip
    subst c_6
    have sb_6 := w_prepared hWT hX _ er1
    refine s_aload_n (x := some b_6) hx hb dR_enter_9 rfl (lv_at hl 0 rfl) ?_
    obtain ⟨r10, er10⟩ : ∃ r : Option Nat, g_r S 0 2 b_6 = r := ⟨_, rfl⟩
    refine s_getr hC hW gc_L iw_L 2 (by decide) uw_32 rfl sb_6 (v := r10) er10 dR_enter_10 ?_
    refine s_ifnonnull (x := r10) (tgt := 19) hx hb dR_enter_13 (by decide) (fun b_13 c_13 => ?_) (fun c_13 => ?_)
    · skip
      subst c_13
      have sb_13 := w_program hWT sb_6 _ er10
      refine s_aload_n (x := some x) hx hb dR_enter_19 rfl (lv_at hl 1 rfl) ?_
      refine s_null hx hb dR_enter_20 ?_
      refine s_putr (v := none) hC hW gc_R iw_R 10 (by decide) uw_82 (Or.inl rfl) (g_nr _) (g_ft _) rfl hX dR_enter_21 (fun H locs hW => ?_)
      refine s_aload_n (x := some b_6) hx hb dR_enter_24 rfl (lv_at hl 0 rfl) ?_
      refine s_getr hC hW gc_L iw_L 2 (by decide) uw_32 rfl sb_6 (v := some b_13) er10 dR_enter_25 ?_
      refine s_astore_n (x := some b_13) (lv' := [(2, va_rf (some b_13)), (1, va_rf (some b_6)), (0, va_rf (some x))]) hx hb dR_enter_28 rfl hl (by decide) rfl (fun ls hl => ?_)
      refine s_aload_n (x := some b_6) hx hb dR_enter_29 rfl (lv_at hl 1 rfl) ?_
      refine s_aload_n (x := some b_13) hx hb dR_enter_30 rfl (lv_at hl 0 rfl) ?_
      refine s_calli hW (s_runS (n := 2) (As := [va_rf (some b_6), va_rf (some b_13)]) (rest := []) hC (c_R_argumentsFit l G (p_r S 2 10 x none) H.size b_6 b_13 (wt_unprep hWT) sb_6 sb_13) uc_R_argumentsFit uw_242 uw_243 uw_1 rfl rfl (by decide +kernel) ⟨by decide, by decide⟩ (g_preS hW [va_rf (some b_6), va_rf (some b_13)]) rfl hl.1 rfl (Nat.le_of_ble_eq_true rfl) dR_enter_31 ⟨Nat.le_of_ble_eq_true rfl, Nat.le_of_ble_eq_true rfl⟩) (fun q31 S31 H locs hp31 hW => ?_)
      obtain ⟨hs31, rfl⟩ := hp31
      replace hs31 := hs31.symm
      subst hs31
      refine lv_if_ne (tgt := 40) hx hb dR_enter_34 (by decide) (fun c_34 => ?_) (fun c_34 => ?_)
      · skip
        refine s_aload_n (x := some b_6) hx hb dR_enter_40 rfl (lv_at hl 1 rfl) ?_
        refine s_aload_n (x := some b_13) hx hb dR_enter_41 rfl (lv_at hl 0 rfl) ?_
        refine s_calli hW (s_runS (n := 2) (As := [va_rf (some b_6), va_rf (some b_13)]) (rest := []) hC (c_R_bytesSuffice l G (p_r S 2 10 x none) H.size b_6 b_13 (wt_unprep hWT) sb_6 sb_13) uc_R_bytesSuffice uw_245 uw_246 uw_1 rfl rfl (by decide +kernel) ⟨by decide, by decide⟩ (g_preS hW [va_rf (some b_6), va_rf (some b_13)]) rfl hl.1 rfl (Nat.le_of_ble_eq_true rfl) dR_enter_42 ⟨Nat.le_of_ble_eq_true rfl, Nat.le_of_ble_eq_true rfl⟩) (fun q42 S42 H locs hp42 hW => ?_)
        obtain ⟨hs42, rfl⟩ := hp42
        replace hs42 := hs42.symm
        subst hs42
        refine lv_if_ne (tgt := 51) hx hb dR_enter_45 (by decide) (fun c_45 => ?_) (fun c_45 => ?_)
        · skip
          refine s_aload_n (x := some b_6) hx hb dR_enter_51 rfl (lv_at hl 1 rfl) ?_
          refine s_aload_n (x := some b_13) hx hb dR_enter_52 rfl (lv_at hl 0 rfl) ?_
          refine s_callv hW (s_runS (n := 2) (As := [va_rf (some b_6), va_rf (some b_13)]) (rest := []) hC (c_R_copyValues l G (p_r S 2 10 x none) H.size b_6 b_13 (wt_unprep hWT) sb_6 sb_13) uc_R_copyValues uw_248 uw_249 uw_1 rfl rfl (by decide +kernel) ⟨by decide, by decide⟩ (g_preS hW [va_rf (some b_6), va_rf (some b_13)]) rfl hl.1 rfl (Nat.le_of_ble_eq_true rfl) dR_enter_53 ⟨Nat.le_of_ble_eq_true rfl, Nat.le_of_ble_eq_true rfl⟩) (fun S53 H locs hp53 hW => ?_)
          subst hp53
          refine s_aload_n (x := some b_6) hx hb dR_enter_56 rfl (lv_at hl 1 rfl) ?_
          refine s_aload_n (x := some b_13) hx hb dR_enter_57 rfl (lv_at hl 0 rfl) ?_
          obtain ⟨r58, er58⟩ : ∃ r : Option Nat, g_r (f_cvs (p_r S 2 10 x none) b_6 b_13) 1 8 b_13 = r := ⟨_, rfl⟩
          refine s_getr hC hW gc_P iw_P 8 (by decide) uw_142 rfl ((f_cvs_sh _ _ _ _).trans sb_13) (v := r58) er58 dR_enter_58 ?_
          refine s_putr (v := r58) hC hW gc_L iw_L 3 (by decide) uw_33 (Or.inl rfl) (g_nr _) (g_ft _) rfl ((f_cvs_sh _ _ _ _).trans sb_6) dR_enter_61 (fun H locs hW => ?_)
          refine s_aload_n (x := some b_13) hx hb dR_enter_64 rfl (lv_at hl 0 rfl) ?_
          refine s_aload_n (x := some b_6) hx hb dR_enter_65 rfl (lv_at hl 1 rfl) ?_
          refine s_putr (v := some b_6) hC hW gc_P iw_P 8 (by decide) uw_142 (Or.inl rfl) (g_nr _) (g_ft _) rfl ((f_cvs_sh _ _ _ _).trans sb_13) dR_enter_66 (fun H locs hW => ?_)
          refine s_aload_n (x := some x) hx hb dR_enter_69 rfl (lv_at hl 2 rfl) ?_
          refine s_aload_n (x := some b_6) hx hb dR_enter_70 rfl (lv_at hl 1 rfl) ?_
          refine s_putr (v := some b_6) hC hW gc_R iw_R 8 (by decide) uw_80 (Or.inl rfl) (g_nr _) (g_ft _) rfl ((f_cvs_sh _ _ _ _).trans hX) dR_enter_71 (fun H locs hW => ?_)
          refine s_aload_n (x := some x) hx hb dR_enter_74 rfl (lv_at hl 2 rfl) ?_
          refine lv_dup hx hb dR_enter_75 rfl ?_
          refine s_geti hC hW gc_R iw_R 9 (by decide) uw_81 rfl ((f_cvs_sh _ _ _ _).trans hX) rfl dR_enter_76 ?_
          refine lv_iconst (v := 1) hx hb dR_enter_79 (by decide) ?_
          refine lv_iadd hx hb dR_enter_80 ?_
          refine s_puti hC hW gc_R iw_R 9 (by decide) uw_81 (Or.inl rfl) rfl rfl rfl ((f_cvs_sh _ _ _ _).trans hX) dR_enter_81 (fun H locs hW => ?_)
          subst er58
          have hw6 : w_t (e_6 S x b_6 b_13) := wt_e6 hWT sb_6 sb_13
          have hW : g_W G (g_A S s.heap.size) s (e_6 S x b_6 b_13) H locs := hW
          have sa6 : g_sh (e_6 S x b_6 b_13) b_13 = some (.inl 1) := (f_cvs_sh _ _ _ _).trans sb_13
          have sx6 : g_sh (e_6 S x b_6 b_13) x = some (.inl 2) := (f_cvs_sh _ _ _ _).trans hX
          refine s_aload_n (x := some b_13) hx hb dR_enter_84 rfl (lv_at hl 0 rfl) ?_
          refine s_calli hW (s_runV (n := 0) (As := []) (rest := []) hC (c_P_keepsData l G (e_6 S x b_6 b_13) H.size b_13 sa6) uc_P_keepsData uw_251 uw_252 uw_253 uw_5 rfl rfl (by decide +kernel) ⟨by decide, by decide⟩ (g_preV hW gc_P sa6 []) rfl hl.1 rfl (Nat.le_of_ble_eq_true rfl) dR_enter_85 ⟨Nat.le_of_ble_eq_true rfl, Nat.le_of_ble_eq_true rfl⟩) (fun q85 S85 H locs hp85 hW => ?_)
          obtain ⟨hs85, rfl⟩ := hp85
          replace hs85 := hs85.symm
          subst hs85
          refine lv_if_ne (tgt := 96) hx hb dR_enter_88 (by decide) (fun c_88 => ?_) (fun c_88 => ?_)
          · skip
            refine lv_iconst (v := 1) hx hb dR_enter_96 (by decide) ?_
            exact s_iret hC hr hlocks rfl hW dR_enter_97 ⟨by rw [f_enter, er1]; simp only [er10]; rw [if_neg c_34, if_neg c_45, if_neg c_88], by rw [f_enter, er1]; simp only [er10]; rw [if_neg c_34, if_neg c_45, if_neg c_88]⟩
          · skip
            refine s_aload_n (x := some x) hx hb dR_enter_91 rfl (lv_at hl 2 rfl) ?_
            refine s_aload_n (x := some b_13) hx hb dR_enter_92 rfl (lv_at hl 0 rfl) ?_
            refine s_callv hW (s_runV (n := 1) (As := [va_rf (some b_13)]) (rest := []) hC (c_R_giveFirstValues l G (e_6 S x b_6 b_13) H.size x b_13 hw6 sx6 sa6) uc_R_giveFirstValues uw_256 uw_258 us_R_giveFirstValues uw_1 rfl rfl (by decide +kernel) ⟨by decide, by decide⟩ (g_preV hW gc_R sx6 [va_rf (some b_13)]) rfl hl.1 rfl (Nat.le_of_ble_eq_true rfl) dR_enter_93 ⟨Nat.le_of_ble_eq_true rfl, Nat.le_of_ble_eq_true rfl⟩) (fun S93 H locs hp93 hW => ?_)
            subst hp93
            refine lv_iconst (v := 1) hx hb dR_enter_96 (by decide) ?_
            exact s_iret hC hr hlocks rfl hW dR_enter_97 ⟨by rw [f_enter, er1]; simp only [er10]; rw [if_neg c_34, if_neg c_45, if_pos c_88], by rw [f_enter, er1]; simp only [er10]; rw [if_neg c_34, if_neg c_45, if_pos c_88]⟩
        · skip
          refine lv_bipush (v := (-8)) hx hb dR_enter_48 (by decide) ?_
          exact s_iret hC hr hlocks rfl hW dR_enter_50 ⟨by rw [f_enter, er1]; simp only [er10]; rw [if_neg c_34, if_pos c_45], by rw [f_enter, er1]; simp only [er10]; rw [if_neg c_34, if_pos c_45]⟩
      · skip
        refine lv_bipush (v := (-7)) hx hb dR_enter_37 (by decide) ?_
        exact s_iret hC hr hlocks rfl hW dR_enter_39 ⟨by rw [f_enter, er1]; simp only [er10]; rw [if_pos c_34], by rw [f_enter, er1]; simp only [er10]; rw [if_pos c_34]⟩
    · skip
      subst c_13
      refine lv_bipush (v := (-4)) hx hb dR_enter_16 (by decide) ?_
      exact s_iret hC hr hlocks rfl hW dR_enter_18 ⟨by rw [f_enter, er1]; simp only [er10], by rw [f_enter, er1]; simp only [er10]⟩

/-! R.actual -/
def a_1 (S : gs_S) (x u b : Nat) (n : Int32) : gs_S := f_share S u (g_i S 0 4 u).toNatClampNeg (some b) (f_place S x n) (f_bytes S x n)
def f_actual (S : gs_S) (x : Nat) (n h : Int32) : Int32 × gs_S := match g_r S 2 10 x with
  | none => (-4, S)
  | some u => if h < 0 then (-2, S) else if h ≤ 2 then (if h = 2 then (if g_i S 0 4 u < 16 then (g_i S 0 4 u, p_i S 0 4 u (g_i S 0 4 u + 1)) else (-1, S)) else (match f_holder S x n with
      | none => (-2, S)
      | some b => if g_i S 0 4 u < 16 then (g_i S 0 4 u, p_i (if h = 1 then f_copy (a_1 S x u b n) u (g_i S 0 4 u).toNatClampNeg else a_1 S x u b n) 0 4 u (g_i S 0 4 u + 1)) else (-1, S))) else (-2, S)

set_option maxHeartbeats 4000000 in
set_option maxRecDepth 100000 in
theorem c_R_actual (l : Launch) (G : gs_G) (S : gs_S) (sz : Nat) (x : Nat) (n h : Int32) (hWT : w_t S) (hX : g_sh S x = some (.inl 2)) : Met l yR_actual (kR_actual :: gU) { frames := 3, cells := 0, slots := 0, locals := 66 } (g_Pc G S sz [va_rf (some x), .int n, .int h]) (g_Qi G S sz (fun r S' => r = (f_actual S x n h).1 ∧ S' = (f_actual S x n h).2)) 0 0 (g_A S sz) := by
  refine s_head (by decide) (Nat.le_of_ble_eq_true rfl) ?_
  intro p e s m below meth c ls hsz hC hr hlocks hnm hl hW
  subst hsz
  obtain ⟨hx, hb, hml, hown, hts⟩ := id hC
  have hl : lv_has ls 5 [(0, va_rf (some x)), (1, .int n), (2, .int h)] := hl
  refine s_aload_n (x := some x) hx hb dR_actual_0 rfl (lv_at hl 0 rfl) ?_
  obtain ⟨r1, er1⟩ : ∃ r : Option Nat, g_r S 2 10 x = r := ⟨_, rfl⟩
  refine s_getr hC hW gc_R iw_R 10 (by decide) uw_82 rfl hX (v := r1) er1 dR_actual_1 ?_
  refine s_ifnonnull (x := r1) (tgt := 10) hx hb dR_actual_4 (by decide) (fun b_4 c_4 => ?_) (fun c_4 => ?_)
  · skip
    subst c_4
    have sb_4 := w_prepared hWT hX _ er1
    refine lv_iload_n hx hb dR_actual_10 rfl (lv_at hl 2 rfl) ?_
    refine lv_if_lt (tgt := 19) hx hb dR_actual_11 (by decide) (fun c_11 => ?_) (fun c_11 => ?_)
    · skip
      refine lv_bipush (v := (-2)) hx hb dR_actual_19 (by decide) ?_
      exact s_iret hC hr hlocks rfl hW dR_actual_21 ⟨by rw [f_actual, er1]; simp only []; rw [if_pos c_11], by rw [f_actual, er1]; simp only []; rw [if_pos c_11]⟩
    · skip
      refine lv_iload_n hx hb dR_actual_14 rfl (lv_at hl 2 rfl) ?_
      refine lv_iconst (v := 2) hx hb dR_actual_15 (by decide) ?_
      refine lv_icmp_le (tgt := 22) hx hb dR_actual_16 (by decide) (fun c_16 => ?_) (fun c_16 => ?_)
      · skip
        refine lv_iload_n hx hb dR_actual_22 rfl (lv_at hl 2 rfl) ?_
        refine lv_iconst (v := 2) hx hb dR_actual_23 (by decide) ?_
        refine lv_icmp_ne (tgt := 31) hx hb dR_actual_24 (by decide) (fun c_24 => ?_) (fun c_24 => ?_)
        · skip
          refine s_aload_n (x := some x) hx hb dR_actual_31 rfl (lv_at hl 0 rfl) ?_
          refine lv_iload_n hx hb dR_actual_32 rfl (lv_at hl 1 rfl) ?_
          refine s_callq hW (s_runV (n := 1) (As := [.int n]) (rest := []) hC (c_R_holderOf l G S s.heap.size x n hWT hX) uc_R_holderOf uw_215 uw_217 us_R_holderOf uw_1 rfl rfl (by decide +kernel) ⟨by decide, by decide⟩ (g_preV hW gc_R hX [.int n]) rfl hl.1 rfl (Nat.le_of_ble_eq_true rfl) dR_actual_33 ⟨Nat.le_of_ble_eq_true rfl, Nat.le_of_ble_eq_true rfl⟩) (fun rq33 S33 H locs hp33 hW => ?_)
          obtain ⟨hs33, erq33⟩ := hp33
          replace hs33 := hs33.symm
          subst hs33
          refine s_astore_n (x := rq33) (lv' := [(3, va_rf rq33), (0, va_rf (some x)), (1, .int n), (2, .int h)]) hx hb dR_actual_36 rfl hl (by decide) rfl (fun ls hl => ?_)
          refine lv_iload_n hx hb dR_actual_37 rfl (lv_at hl 3 rfl) ?_
          refine lv_iconst (v := 2) hx hb dR_actual_38 (by decide) ?_
          refine lv_icmp_eq (tgt := 49) hx hb dR_actual_39 (by decide) (fun c => absurd c c_24) (fun c_39 => ?_)
          refine s_aload_n (x := rq33) hx hb dR_actual_42 rfl (lv_at hl 0 rfl) ?_
          refine s_ifnonnull (x := rq33) (tgt := 49) hx hb dR_actual_43 (by decide) (fun b_43 c_43 => ?_) (fun c_43 => ?_)
          · skip
            subst c_43
            have sb_43 := t_holder hWT hX _ erq33.symm
            obtain ⟨k, hk, ek⟩ := w_arguments hWT sb_4
            refine s_aload_n (x := some x) hx hb dR_actual_49 rfl (lv_at hl 1 rfl) ?_
            refine s_getr hC hW gc_R iw_R 10 (by decide) uw_82 rfl hX (v := some b_4) er1 dR_actual_50 ?_
            refine s_geti hC hW gc_L iw_L 4 (by decide) uw_35 rfl sb_4 (v := nI k) ek dR_actual_53 ?_
            refine lv_istore (lv' := [(4, .int (nI k)), (3, va_rf (some b_43)), (0, va_rf (some x)), (1, .int n), (2, .int h)]) hx hb dR_actual_56 hl (by decide) rfl (fun ls hl => ?_)
            refine lv_iload hx hb dR_actual_58 (lv_at hl 0 rfl) ?_
            refine lv_bipush (v := 16) hx hb dR_actual_60 (by decide) ?_
            refine lv_icmp_lt (tgt := 67) hx hb dR_actual_62 (by decide) (fun c_62 => ?_) (fun c_62 => ?_)
            · skip
              have hk2 : k < 16 := (nI_ltI (b := 16) (by omega) (by omega)).mp c_62
              refine s_aload_n (x := some b_43) hx hb dR_actual_67 rfl (lv_at hl 1 rfl) ?_
              refine s_ifnull (x := some b_43) (tgt := 91) hx hb dR_actual_68 (by decide) (fun c_68 => ?_) (fun b_68 c_68 => ?_)
              · skip
                cases c_68
              · skip
                obtain ⟨hc, q, hq, eq⟩ := x_hold hWT hX erq33.symm
                refine s_aload_n (x := some x) hx hb dR_actual_71 rfl (lv_at hl 2 rfl) ?_
                refine s_getr hC hW gc_R iw_R 10 (by decide) uw_82 rfl hX (v := some b_4) er1 dR_actual_72 ?_
                refine lv_iload hx hb dR_actual_75 (lv_at hl 0 rfl) ?_
                refine s_aload_n (x := some b_43) hx hb dR_actual_77 rfl (lv_at hl 1 rfl) ?_
                refine s_aload_n (x := some x) hx hb dR_actual_78 rfl (lv_at hl 2 rfl) ?_
                refine lv_iload_n hx hb dR_actual_79 rfl (lv_at hl 3 rfl) ?_
                refine s_calli hW (s_runV (n := 1) (As := [.int n]) (rest := [va_rf (some b_43), .int (nI k), va_rf (some b_4)]) hC (c_R_placeOf l G S H.size x n hWT hX hc) uc_R_placeOf uw_170 uw_172 us_R_placeOf uw_1 rfl rfl (by decide +kernel) ⟨by decide, by decide⟩ (g_preV hW gc_R hX [.int n]) rfl hl.1 rfl (Nat.le_of_ble_eq_true rfl) dR_actual_80 ⟨Nat.le_of_ble_eq_true rfl, Nat.le_of_ble_eq_true rfl⟩) (fun q80 S80 H locs hp80 hW => ?_)
                obtain ⟨hs80, rfl⟩ := hp80
                replace hs80 := hs80.symm
                subst hs80
                refine s_aload_n (x := some x) hx hb dR_actual_83 rfl (lv_at hl 2 rfl) ?_
                refine lv_iload_n hx hb dR_actual_84 rfl (lv_at hl 3 rfl) ?_
                refine s_calli hW (s_runV (n := 1) (As := [.int n]) (rest := [.int (f_place S x n), va_rf (some b_43), .int (nI k), va_rf (some b_4)]) hC (c_R_bytesOf l G S H.size x n hWT hX hc) uc_R_bytesOf uw_226 uw_228 us_R_bytesOf uw_1 rfl rfl (by decide +kernel) ⟨by decide, by decide⟩ (g_preV hW gc_R hX [.int n]) rfl hl.1 rfl (Nat.le_of_ble_eq_true rfl) dR_actual_85 ⟨Nat.le_of_ble_eq_true rfl, Nat.le_of_ble_eq_true rfl⟩) (fun q85 S85 H locs hp85 hW => ?_)
                obtain ⟨hs85, rfl⟩ := hp85
                replace hs85 := hs85.symm
                subst hs85
                refine s_callv hW (s_runV (n := 4) (As := [.int (nI k), va_rf (some b_43), .int (f_place S x n), .int (f_bytes S x n)]) (rest := []) hC (c_L_share l G S H.size b_4 k b_43 (f_place S x n) (f_bytes S x n) hWT sb_4 sb_43 (by omega)) uc_L_share uw_230 uw_231 uw_232 uw_2 rfl rfl (by decide +kernel) ⟨by decide, by decide⟩ (g_preV hW gc_L sb_4 [.int (nI k), va_rf (some b_43), .int (f_place S x n), .int (f_bytes S x n)]) rfl hl.1 rfl (Nat.le_of_ble_eq_true rfl) dR_actual_88 ⟨Nat.le_of_ble_eq_true rfl, Nat.le_of_ble_eq_true rfl⟩) (fun S88 H locs hp88 hW => ?_)
                subst hp88
                have hw1 : w_t (f_share S b_4 k (some b_43) (f_place S x n) (f_bytes S x n)) := by rw [eq]; exact wt_share hWT sb_43 hq
                refine lv_iload_n hx hb dR_actual_91 rfl (lv_at hl 4 rfl) ?_
                refine lv_iconst (v := 1) hx hb dR_actual_92 (by decide) ?_
                refine lv_icmp_ne (tgt := 105) hx hb dR_actual_93 (by decide) (fun c_93 => ?_) (fun c_93 => ?_)
                · skip
                  refine s_aload_n (x := some x) hx hb dR_actual_105 rfl (lv_at hl 2 rfl) ?_
                  refine s_getr hC hW gc_R iw_R 10 (by decide) uw_82 rfl hX (v := some b_4) er1 dR_actual_106 ?_
                  refine lv_dup hx hb dR_actual_109 rfl ?_
                  refine s_geti hC hW gc_L iw_L 4 (by decide) uw_35 rfl sb_4 (v := nI k) ek dR_actual_110 ?_
                  refine lv_iconst (v := 1) hx hb dR_actual_113 (by decide) ?_
                  refine lv_iadd hx hb dR_actual_114 ?_
                  refine s_puti hC hW gc_L iw_L 4 (by decide) uw_35 (Or.inl rfl) rfl rfl rfl sb_4 dR_actual_115 (fun H locs hW => ?_)
                  refine lv_iload hx hb dR_actual_118 (lv_at hl 0 rfl) ?_
                  exact s_iret hC hr hlocks rfl hW dR_actual_120 ⟨by rw [f_actual, er1]; simp only []; rw [if_neg c_11, if_pos c_16, if_neg c_24, ← erq33]; simp only []; rw [ek, if_pos c_62], by rw [f_actual, er1]; simp only []; rw [if_neg c_11, if_pos c_16, if_neg c_24, ← erq33]; simp only []; rw [ek, if_pos c_62, if_neg c_93]; simp only [a_1, ek, nI_clamp (show k < 2 ^ 31 by omega)]⟩
                · skip
                  refine s_aload_n (x := some x) hx hb dR_actual_96 rfl (lv_at hl 2 rfl) ?_
                  refine s_getr hC hW gc_R iw_R 10 (by decide) uw_82 rfl hX (v := some b_4) er1 dR_actual_97 ?_
                  refine lv_iload hx hb dR_actual_100 (lv_at hl 0 rfl) ?_
                  refine s_callv hW (s_runV (n := 1) (As := [.int (nI k)]) (rest := []) hC (c_L_copy l G (f_share S b_4 k (some b_43) (f_place S x n) (f_bytes S x n)) H.size b_4 k hw1 sb_4 (by omega)) uc_L_copy uw_234 uw_235 uw_236 uw_2 rfl rfl (by decide +kernel) ⟨by decide, by decide⟩ (g_preV hW gc_L sb_4 [.int (nI k)]) rfl hl.1 rfl (Nat.le_of_ble_eq_true rfl) dR_actual_102 ⟨Nat.le_of_ble_eq_true rfl, Nat.le_of_ble_eq_true rfl⟩) (fun S102 H locs hp102 hW => ?_)
                  subst hp102
                  refine s_aload_n (x := some x) hx hb dR_actual_105 rfl (lv_at hl 2 rfl) ?_
                  refine s_getr hC hW gc_R iw_R 10 (by decide) uw_82 rfl ((f_copy_sh _ _ _ _).trans hX) (v := some b_4) ((f_copy_r _ _ _ _ _ _).trans er1) dR_actual_106 ?_
                  refine lv_dup hx hb dR_actual_109 rfl ?_
                  refine s_geti hC hW gc_L iw_L 4 (by decide) uw_35 rfl ((f_copy_sh _ _ _ _).trans sb_4) (v := nI k) ((f_copy_i _ _ _ _ _ _).trans ek) dR_actual_110 ?_
                  refine lv_iconst (v := 1) hx hb dR_actual_113 (by decide) ?_
                  refine lv_iadd hx hb dR_actual_114 ?_
                  refine s_puti hC hW gc_L iw_L 4 (by decide) uw_35 (Or.inl rfl) rfl rfl rfl ((f_copy_sh _ _ _ _).trans sb_4) dR_actual_115 (fun H locs hW => ?_)
                  refine lv_iload hx hb dR_actual_118 (lv_at hl 0 rfl) ?_
                  exact s_iret hC hr hlocks rfl hW dR_actual_120 ⟨by rw [f_actual, er1]; simp only []; rw [if_neg c_11, if_pos c_16, if_neg c_24, ← erq33]; simp only []; rw [ek, if_pos c_62], by rw [f_actual, er1]; simp only []; rw [if_neg c_11, if_pos c_16, if_neg c_24, ← erq33]; simp only []; rw [ek, if_pos c_62, if_pos c_93, nI_clamp (by omega)]; simp only [a_1, ek, nI_clamp (show k < 2 ^ 31 by omega)]⟩
            · skip
              refine lv_iconst (v := (-1)) hx hb dR_actual_65 (by decide) ?_
              exact s_iret hC hr hlocks rfl hW dR_actual_66 ⟨by rw [f_actual, er1]; simp only []; rw [if_neg c_11, if_pos c_16, if_neg c_24, ← erq33]; simp only []; rw [ek, if_neg c_62], by rw [f_actual, er1]; simp only []; rw [if_neg c_11, if_pos c_16, if_neg c_24, ← erq33]; simp only []; rw [ek, if_neg c_62]⟩
          · skip
            subst c_43
            refine lv_bipush (v := (-2)) hx hb dR_actual_46 (by decide) ?_
            exact s_iret hC hr hlocks rfl hW dR_actual_48 ⟨by rw [f_actual, er1]; simp only []; rw [if_neg c_11, if_pos c_16, if_neg c_24, ← erq33], by rw [f_actual, er1]; simp only []; rw [if_neg c_11, if_pos c_16, if_neg c_24, ← erq33]⟩
        · skip
          refine s_null hx hb dR_actual_27 ?_
          refine lv_goto (tgt := 36) hx hb dR_actual_28 (by decide) ?_
          refine s_astore_n (x := none) (lv' := [(3, va_rf none), (0, va_rf (some x)), (1, .int n), (2, .int h)]) hx hb dR_actual_36 rfl hl (by decide) rfl (fun ls hl => ?_)
          refine lv_iload_n hx hb dR_actual_37 rfl (lv_at hl 3 rfl) ?_
          refine lv_iconst (v := 2) hx hb dR_actual_38 (by decide) ?_
          refine lv_icmp_eq (tgt := 49) hx hb dR_actual_39 (by decide) (fun c_39 => ?_) (fun c => absurd c_24 c)
          obtain ⟨k, hk, ek⟩ := w_arguments hWT sb_4
          refine s_aload_n (x := some x) hx hb dR_actual_49 rfl (lv_at hl 1 rfl) ?_
          refine s_getr hC hW gc_R iw_R 10 (by decide) uw_82 rfl hX (v := some b_4) er1 dR_actual_50 ?_
          refine s_geti hC hW gc_L iw_L 4 (by decide) uw_35 rfl sb_4 (v := nI k) ek dR_actual_53 ?_
          refine lv_istore (lv' := [(4, .int (nI k)), (3, va_rf none), (0, va_rf (some x)), (1, .int n), (2, .int h)]) hx hb dR_actual_56 hl (by decide) rfl (fun ls hl => ?_)
          refine lv_iload hx hb dR_actual_58 (lv_at hl 0 rfl) ?_
          refine lv_bipush (v := 16) hx hb dR_actual_60 (by decide) ?_
          refine lv_icmp_lt (tgt := 67) hx hb dR_actual_62 (by decide) (fun c_62 => ?_) (fun c_62 => ?_)
          · skip
            have hk2 : k < 16 := (nI_ltI (b := 16) (by omega) (by omega)).mp c_62
            refine s_aload_n (x := none) hx hb dR_actual_67 rfl (lv_at hl 1 rfl) ?_
            refine s_ifnull (x := none) (tgt := 91) hx hb dR_actual_68 (by decide) (fun c_68 => ?_) (fun b_68 c_68 => ?_)
            · skip
              refine lv_iload_n hx hb dR_actual_91 rfl (lv_at hl 4 rfl) ?_
              refine lv_iconst (v := 1) hx hb dR_actual_92 (by decide) ?_
              refine lv_icmp_ne (tgt := 105) hx hb dR_actual_93 (by decide) (fun c_93 => ?_) (fun c => absurd (c.symm.trans c_24) (by decide))
              refine s_aload_n (x := some x) hx hb dR_actual_105 rfl (lv_at hl 2 rfl) ?_
              refine s_getr hC hW gc_R iw_R 10 (by decide) uw_82 rfl hX (v := some b_4) er1 dR_actual_106 ?_
              refine lv_dup hx hb dR_actual_109 rfl ?_
              refine s_geti hC hW gc_L iw_L 4 (by decide) uw_35 rfl sb_4 (v := nI k) ek dR_actual_110 ?_
              refine lv_iconst (v := 1) hx hb dR_actual_113 (by decide) ?_
              refine lv_iadd hx hb dR_actual_114 ?_
              refine s_puti hC hW gc_L iw_L 4 (by decide) uw_35 (Or.inl rfl) rfl rfl rfl sb_4 dR_actual_115 (fun H locs hW => ?_)
              refine lv_iload hx hb dR_actual_118 (lv_at hl 0 rfl) ?_
              exact s_iret hC hr hlocks rfl hW dR_actual_120 ⟨by rw [f_actual, er1]; simp only []; rw [if_neg c_11, if_pos c_16, if_pos c_24, ek, if_pos c_62], by rw [f_actual, er1]; simp only []; rw [if_neg c_11, if_pos c_16, if_pos c_24, ek, if_pos c_62]⟩
            · skip
              cases c_68
          · skip
            refine lv_iconst (v := (-1)) hx hb dR_actual_65 (by decide) ?_
            exact s_iret hC hr hlocks rfl hW dR_actual_66 ⟨by rw [f_actual, er1]; simp only []; rw [if_neg c_11, if_pos c_16, if_pos c_24, ek, if_neg c_62], by rw [f_actual, er1]; simp only []; rw [if_neg c_11, if_pos c_16, if_pos c_24, ek, if_neg c_62]⟩
      · skip
        refine lv_bipush (v := (-2)) hx hb dR_actual_19 (by decide) ?_
        exact s_iret hC hr hlocks rfl hW dR_actual_21 ⟨by rw [f_actual, er1]; simp only []; rw [if_neg c_11, if_neg c_16], by rw [f_actual, er1]; simp only []; rw [if_neg c_11, if_neg c_16]⟩
  · skip
    subst c_4
    refine lv_bipush (v := (-4)) hx hb dR_actual_7 (by decide) ?_
    exact s_iret hC hr hlocks rfl hW dR_actual_9 ⟨by rw [f_actual, er1], by rw [f_actual, er1]⟩
end
section
/-! new objects keep a state well-typed -/
theorem t_oN {S : gs_S} {ci : Nat} : t_o S ci none := fun _ z => by cases z
theorem wt_ext {S T : gs_S} (h : w_t S) (hx : ∀ (b : Nat) (y : Nat ⊕ (Nat × Nat)), g_sh S b = some y → g_sh T b = some y) (hr : ∀ (c k b : Nat) (y : Nat ⊕ (Nat × Nat)), g_sh S b = some y → g_r T c k b = g_r S c k b) (hi : ∀ (c k b : Nat) (y : Nat ⊕ (Nat × Nat)), g_sh S b = some y → g_i T c k b = g_i S c k b) (har : ∀ (r b j : Nat) (y : Nat ⊕ (Nat × Nat)), g_sh S b = some y → g_ar T r b j = g_ar S r b j) (hai : ∀ (r b j : Nat) (y : Nat ⊕ (Nat × Nat)), g_sh S b = some y → g_ai T r b j = g_ai S r b j)
    (nL : ∀ a : Nat, g_sh S a = none → g_sh T a = some (.inl 0) → t_o T 0 (g_r T 0 0 a) ∧ t_o T 0 (g_r T 0 1 a) ∧ t_o T 1 (g_r T 0 2 a) ∧ t_o T 0 (g_r T 0 3 a) ∧ t_a T 6 16 (g_r T 0 5 a) ∧ t_a T 7 16 (g_r T 0 6 a) ∧ t_a T 8 16 (g_r T 0 7 a) ∧ t_a T 9 216 (g_r T 0 8 a) ∧ ∃ n : Nat, n ≤ 16 ∧ g_i T 0 4 a = nI n)
    (nH : ∀ a : Nat, g_sh S a = none → g_sh T a = some (.inr (6, 16)) → ∀ i : Nat, i < 16 → t_o T 0 (g_ar T 6 a i))
    (nQ : ∀ a : Nat, g_sh S a = none → g_sh T a = some (.inr (7, 16)) → ∀ i : Nat, i < 16 → ∃ q : Nat, q < 216 ∧ g_ai T 7 a i = nI q)
    (nP : ∀ a : Nat, g_sh S a = none → g_sh T a = some (.inl 1) → t_o T 1 (g_r T 1 0 a) ∧ t_a T 4 16 (g_r T 1 4 a) ∧ t_a T 5 16 (g_r T 1 5 a) ∧ t_o T 0 (g_r T 1 8 a) ∧ (∃ n : Nat, n ≤ 16 ∧ g_i T 1 6 a = nI n) ∧ ∃ k : Nat, 1 ≤ k ∧ k ≤ 60 ∧ g_i T 1 1 a = nI k ∧ ∀ b : Nat, g_r T 1 0 a = some b → ∃ j : Nat, j < k ∧ g_i T 1 1 b = nI j)
    (nA : ∀ a : Nat, g_sh S a = none → (g_sh T a = some (.inr (0, 61)) → ∀ i : Nat, i < 61 → t_o T 1 (g_ar T 0 a i)) ∧ (g_sh T a = some (.inr (1, 200)) → ∀ i : Nat, i < 200 → t_o T 1 (g_ar T 1 a i)))
    (nR : ∀ a : Nat, g_sh S a = none → ¬ g_sh T a = some (.inl 2)) : w_t T := by
  have to : ∀ {ci : Nat} {r : Option Nat}, t_o S ci r → t_o T ci r := fun h b hb => hx _ _ (h b hb)
  have ta : ∀ {r n : Nat} {q : Option Nat}, t_a S r n q → t_a T r n q := fun h => by obtain ⟨b, h1, h2⟩ := h; exact ⟨b, h1, hx _ _ h2⟩
  have tn : ∀ {ci : Nat} {q : Option Nat}, t_n S ci q → t_n T ci q := fun h => by obtain ⟨b, h1, h2⟩ := h; exact ⟨b, h1, hx _ _ h2⟩
  have old : ∀ (a : Nat) (y : Nat ⊕ (Nat × Nat)), g_sh T a = some y → g_sh S a = none ∨ g_sh S a = some y := by
    intro a y hy
    cases hs : g_sh S a with
    | none => exact Or.inl rfl
    | some z =>
      have := hx a z hs
      rw [hy] at this
      cases this
      exact Or.inr rfl
  refine ⟨fun a ha => ?_, fun a ha i hlt => ?_, fun a ha i hlt => ?_, fun a ha => ?_, ⟨fun a ha i hlt => ?_, fun a ha i hlt => ?_⟩, fun a ha => ?_⟩
  · rcases old a _ ha with hs | hs
    · exact nL a hs ha
    · obtain ⟨a1, a2, a3, a4, a5, a6, a7, a8, a9⟩ := h.1 a hs
      rw [hr _ _ _ _ hs, hr _ _ _ _ hs, hr _ _ _ _ hs, hr _ _ _ _ hs, hr _ _ _ _ hs, hr _ _ _ _ hs, hr _ _ _ _ hs, hr _ _ _ _ hs, hi _ _ _ _ hs]
      exact ⟨to a1, to a2, to a3, to a4, ta a5, ta a6, ta a7, ta a8, a9⟩
  · rcases old a _ ha with hs | hs
    · exact nH a hs ha i hlt
    · rw [har _ _ _ _ hs]; exact to (h.2.1 a hs i hlt)
  · rcases old a _ ha with hs | hs
    · exact nQ a hs ha i hlt
    · rw [hai _ _ _ _ hs]; exact h.2.2.1 a hs i hlt
  · rcases old a _ ha with hs | hs
    · exact nP a hs ha
    · obtain ⟨a1, a2, a3, a4, a5, k, a6, a7, a8, a9⟩ := h.2.2.2.1 a hs
      rw [hr _ _ _ _ hs, hr _ _ _ _ hs, hr _ _ _ _ hs, hr _ _ _ _ hs, hi _ _ _ _ hs, hi _ _ _ _ hs]
      refine ⟨to a1, ta a2, ta a3, to a4, a5, k, a6, a7, a8, fun b hb => ?_⟩
      obtain ⟨j, b1, b2⟩ := a9 b hb
      exact ⟨j, b1, by rw [hi _ _ _ _ (a1 b hb)]; exact b2⟩
  · rcases old a _ ha with hs | hs
    · exact (nA a hs).1 ha i hlt
    · rw [har _ _ _ _ hs]; exact to (h.2.2.2.2.1.1 a hs i hlt)
  · rcases old a _ ha with hs | hs
    · exact (nA a hs).2 ha i hlt
    · rw [har _ _ _ _ hs]; exact to (h.2.2.2.2.1.2 a hs i hlt)
  · rcases old a _ ha with hs | hs
    · exact absurd ha (nR a hs)
    · obtain ⟨a1, a2, a3, a4, a5, a6, a7, a8, a9⟩ := h.2.2.2.2.2 a hs
      rw [hr _ _ _ _ hs, hr _ _ _ _ hs, hr _ _ _ _ hs, hr _ _ _ _ hs, hr _ _ _ _ hs, hr _ _ _ _ hs, hr _ _ _ _ hs, hi _ _ _ _ hs, hi _ _ _ _ hs]
      exact ⟨ta a1, ta a2, ta a3, ta a4, tn a5, tn a6, to a7, a8, a9⟩
/-- the state with a new level -/
def n_L (S : gs_S) (q : Nat) (be : Option Nat) (h pl bb va : Nat) : gs_S := i_L (p_new S 0 q) q be h pl bb va
theorem n_Lne {S : gs_S} {q h pl bb va : Nat} (hf : i_Lf (p_new S 0 q) q h pl bb va) : (h ≠ q ∧ g_sh S h = none) ∧ (pl ≠ h ∧ pl ≠ q ∧ g_sh S pl = none) ∧ (bb ≠ pl ∧ bb ≠ h ∧ bb ≠ q ∧ g_sh S bb = none) ∧ (va ≠ bb ∧ va ≠ pl ∧ va ≠ h ∧ va ≠ q ∧ g_sh S va = none) := by
  obtain ⟨h1, h2, h3, h4⟩ := hf
  simp only [i_L1, i_L2, i_L3, x_gs] at h1 h2 h3 h4
  refine ⟨?_, ?_, ?_, ?_⟩
  · split at h1
    · cases h1
    · exact ⟨by assumption, h1⟩
  · split at h2
    · cases h2
    · split at h2
      · cases h2
      · exact ⟨by assumption, by assumption, h2⟩
  · split at h3
    · cases h3
    · split at h3
      · cases h3
      · split at h3
        · cases h3
        · exact ⟨by assumption, by assumption, by assumption, h3⟩
  · split at h4
    · cases h4
    · split at h4
      · cases h4
      · split at h4
        · cases h4
        · split at h4
          · cases h4
          · exact ⟨by assumption, by assumption, by assumption, by assumption, h4⟩
theorem n_L_sh (S : gs_S) (q : Nat) (be : Option Nat) (h pl bb va b : Nat) : g_sh (n_L S q be h pl bb va) b = if b = va then some (.inr (9, 216)) else if b = bb then some (.inr (8, 16)) else if b = pl then some (.inr (7, 16)) else if b = h then some (.inr (6, 16)) else if b = q then some (.inl 0) else g_sh S b := by
  simp only [n_L, i_L, i_L4, i_L3, i_L2, i_L1, x_gs]
theorem n_L_r {S : gs_S} {q : Nat} {be : Option Nat} {h pl bb va b : Nat} (c k : Nat) (hb : b ≠ q) : g_r (n_L S q be h pl bb va) c k b = g_r S c k b := by
  simp only [n_L, i_L, i_L4, i_L3, i_L2, i_L1, x_gs, hb, and_false, if_false]
theorem n_L_i {S : gs_S} {q : Nat} {be : Option Nat} {h pl bb va b : Nat} (c k : Nat) (hb : b ≠ q) : g_i (n_L S q be h pl bb va) c k b = g_i S c k b := by
  simp only [n_L, i_L, i_L4, i_L3, i_L2, i_L1, x_gs, hb, if_false]
theorem n_L_l {S : gs_S} {q : Nat} {be : Option Nat} {h pl bb va b : Nat} (c k : Nat) (hb : b ≠ q) : g_l (n_L S q be h pl bb va) c k b = g_l S c k b := by
  simp only [n_L, i_L, i_L4, i_L3, i_L2, i_L1, x_gs, hb, if_false]
theorem n_L_ar {S : gs_S} {q : Nat} {be : Option Nat} {h pl bb va b : Nat} (r j : Nat) (h1 : b ≠ h) (h2 : b ≠ pl) (h3 : b ≠ bb) (h4 : b ≠ va) : g_ar (n_L S q be h pl bb va) r b j = g_ar S r b j := by
  simp only [n_L, i_L, i_L4, i_L3, i_L2, i_L1, x_gs, h1, h2, h3, h4, if_false]
theorem n_L_ai {S : gs_S} {q : Nat} {be : Option Nat} {h pl bb va b : Nat} (r j : Nat) (h1 : b ≠ h) (h2 : b ≠ pl) (h3 : b ≠ bb) (h4 : b ≠ va) : g_ai (n_L S q be h pl bb va) r b j = g_ai S r b j := by
  simp only [n_L, i_L, i_L4, i_L3, i_L2, i_L1, x_gs, h1, h2, h3, h4, if_false]
theorem n_L_al {S : gs_S} {q : Nat} {be : Option Nat} {h pl bb va b : Nat} (r j : Nat) (h1 : b ≠ h) (h2 : b ≠ pl) (h3 : b ≠ bb) (h4 : b ≠ va) : g_al (n_L S q be h pl bb va) r b j = g_al S r b j := by
  simp only [n_L, i_L, i_L4, i_L3, i_L2, i_L1, x_gs, h1, h2, h3, h4, if_false]
theorem n_L_q {S : gs_S} {q : Nat} {be : Option Nat} {h pl bb va : Nat} : g_r (n_L S q be h pl bb va) 0 0 q = be ∧ g_r (n_L S q be h pl bb va) 0 1 q = none ∧ g_r (n_L S q be h pl bb va) 0 2 q = none ∧ g_r (n_L S q be h pl bb va) 0 3 q = none ∧ g_r (n_L S q be h pl bb va) 0 5 q = some h ∧ g_r (n_L S q be h pl bb va) 0 6 q = some pl ∧ g_r (n_L S q be h pl bb va) 0 7 q = some bb ∧ g_r (n_L S q be h pl bb va) 0 8 q = some va ∧ g_i (n_L S q be h pl bb va) 0 4 q = 0 := by
  simp [n_L, i_L, i_L4, i_L3, i_L2, i_L1, x_gs]
theorem n_L_a {S : gs_S} {q : Nat} {be : Option Nat} {h pl bb va b : Nat} (r j : Nat) (hb : b = h ∨ b = pl ∨ b = bb ∨ b = va) : g_ar (n_L S q be h pl bb va) r b j = none ∧ g_ai (n_L S q be h pl bb va) r b j = 0 ∧ g_al (n_L S q be h pl bb va) r b j = 0 := by
  simp only [n_L, i_L, i_L4, i_L3, i_L2, i_L1, x_gs]
  rcases hb with rfl | rfl | rfl | rfl <;> simp
theorem wt_nL {S : gs_S} {q : Nat} {be : Option Nat} {h pl bb va : Nat} (hw : w_t S) (hq : g_sh S q = none) (hf : i_Lf (p_new S 0 q) q h pl bb va) (hbe : t_o S 0 be) : w_t (n_L S q be h pl bb va) := by
  obtain ⟨⟨a1, a2⟩, ⟨b1, b2, b3⟩, ⟨c1, c2, c3, c4⟩, d1, d2, d3, d4, d5⟩ := n_Lne hf
  have ne : ∀ {b z : Nat} {y : Nat ⊕ (Nat × Nat)}, g_sh S b = some y → g_sh S z = none → b ≠ z := fun h1 h2 e => by rw [e, h2] at h1; cases h1
  have hx : ∀ (b : Nat) (y : Nat ⊕ (Nat × Nat)), g_sh S b = some y → g_sh (n_L S q be h pl bb va) b = some y := fun b y hb => by
    rw [n_L_sh, if_neg (ne hb d5), if_neg (ne hb c4), if_neg (ne hb b3), if_neg (ne hb a2), if_neg (ne hb hq)]
    exact hb
  have key : ∀ (a : Nat) (y : Nat ⊕ (Nat × Nat)), g_sh S a = none → g_sh (n_L S q be h pl bb va) a = some y → (a = q ∧ y = .inl 0) ∨ (a = h ∧ y = .inr (6, 16)) ∨ (a = pl ∧ y = .inr (7, 16)) ∨ (a = bb ∧ y = .inr (8, 16)) ∨ (a = va ∧ y = .inr (9, 216)) := by
    intro a y h0 h1
    rw [n_L_sh] at h1
    split at h1
    · cases h1; exact Or.inr (Or.inr (Or.inr (Or.inr ⟨by assumption, rfl⟩)))
    · split at h1
      · cases h1; exact Or.inr (Or.inr (Or.inr (Or.inl ⟨by assumption, rfl⟩)))
      · split at h1
        · cases h1; exact Or.inr (Or.inr (Or.inl ⟨by assumption, rfl⟩))
        · split at h1
          · cases h1; exact Or.inr (Or.inl ⟨by assumption, rfl⟩)
          · split at h1
            · cases h1; exact Or.inl ⟨by assumption, rfl⟩
            · rw [h0] at h1; cases h1
  obtain ⟨e0, e1, e2, e3, e5, e6, e7, e8, e4⟩ := n_L_q (S := S) (q := q) (be := be) (h := h) (pl := pl) (bb := bb) (va := va)
  refine wt_ext hw hx (fun c k b y hb => n_L_r c k (ne hb hq)) (fun c k b y hb => n_L_i c k (ne hb hq)) (fun r b j y hb => n_L_ar r j (ne hb a2) (ne hb b3) (ne hb c4) (ne hb d5)) (fun r b j y hb => n_L_ai r j (ne hb a2) (ne hb b3) (ne hb c4) (ne hb d5)) ?_ ?_ ?_ ?_ ?_ ?_
  · intro a h0 h1
    rcases key a _ h0 h1 with ⟨rfl, -⟩ | ⟨-, z⟩ | ⟨-, z⟩ | ⟨-, z⟩ | ⟨-, z⟩
    · rw [e0, e1, e2, e3, e5, e6, e7, e8, e4]
      refine ⟨fun b hb => hx _ _ (hbe b hb), t_oN, t_oN, t_oN, ⟨h, rfl, ?_⟩, ⟨pl, rfl, ?_⟩, ⟨bb, rfl, ?_⟩, ⟨va, rfl, ?_⟩, 0, by omega, rfl⟩
      · rw [n_L_sh, if_neg (Ne.symm d3), if_neg (Ne.symm c2), if_neg (Ne.symm b1), if_pos rfl]
      · rw [n_L_sh, if_neg (Ne.symm d2), if_neg (Ne.symm c1), if_pos rfl]
      · rw [n_L_sh, if_neg (Ne.symm d1), if_pos rfl]
      · rw [n_L_sh, if_pos rfl]
    all_goals cases z
  · intro a h0 h1 i hi
    rcases key a _ h0 h1 with ⟨-, z⟩ | ⟨rfl, -⟩ | ⟨-, z⟩ | ⟨-, z⟩ | ⟨-, z⟩
    · cases z
    · rw [(n_L_a 6 i (Or.inl rfl)).1]; intro _ z; cases z
    all_goals cases z
  · intro a h0 h1 i hi
    rcases key a _ h0 h1 with ⟨-, z⟩ | ⟨-, z⟩ | ⟨rfl, -⟩ | ⟨-, z⟩ | ⟨-, z⟩
    · cases z
    · cases z
    · exact ⟨0, by omega, (n_L_a 7 i (Or.inr (Or.inl rfl))).2.1⟩
    all_goals cases z
  · intro a h0 h1
    rcases key a _ h0 h1 with ⟨-, z⟩ | ⟨-, z⟩ | ⟨-, z⟩ | ⟨-, z⟩ | ⟨-, z⟩ <;> cases z
  · intro a h0
    constructor
    · intro h1
      rcases key a _ h0 h1 with ⟨-, z⟩ | ⟨-, z⟩ | ⟨-, z⟩ | ⟨-, z⟩ | ⟨-, z⟩ <;> cases z
    · intro h1
      rcases key a _ h0 h1 with ⟨-, z⟩ | ⟨-, z⟩ | ⟨-, z⟩ | ⟨-, z⟩ | ⟨-, z⟩ <;> cases z
  · intro a h0 h1
    rcases key a _ h0 h1 with ⟨-, z⟩ | ⟨-, z⟩ | ⟨-, z⟩ | ⟨-, z⟩ | ⟨-, z⟩ <;> cases z
/-- the state with a new program -/
def n_P (S : gs_S) (q : Nat) (o : Option Nat) (n nm mk : Int32) (h b : Nat) : gs_S := i_P (p_new S 1 q) q o n nm mk h b
theorem n_Pne {S : gs_S} {q h b : Nat} (hf : i_Pf (p_new S 1 q) q h b) : (h ≠ q ∧ g_sh S h = none) ∧ (b ≠ h ∧ b ≠ q ∧ g_sh S b = none) := by
  obtain ⟨h1, h2⟩ := hf
  simp only [i_P1, x_gs] at h1 h2
  refine ⟨?_, ?_⟩
  · split at h1
    · cases h1
    · exact ⟨by assumption, h1⟩
  · split at h2
    · cases h2
    · split at h2
      · cases h2
      · exact ⟨by assumption, by assumption, h2⟩
theorem n_P_sh (S : gs_S) (q : Nat) (o : Option Nat) (n nm mk : Int32) (h b a : Nat) : g_sh (n_P S q o n nm mk h b) a = if a = b then some (.inr (5, 16)) else if a = h then some (.inr (4, 16)) else if a = q then some (.inl 1) else g_sh S a := by
  simp only [n_P, i_P, i_P2, i_P1, x_gs]
theorem n_P_r {S : gs_S} {q : Nat} {o : Option Nat} {n nm mk : Int32} {h b a : Nat} (c k : Nat) (ha : a ≠ q) : g_r (n_P S q o n nm mk h b) c k a = g_r S c k a := by
  simp only [n_P, i_P, i_P2, i_P1, x_gs, ha, and_false, if_false]
theorem n_P_i {S : gs_S} {q : Nat} {o : Option Nat} {n nm mk : Int32} {h b a : Nat} (c k : Nat) (ha : a ≠ q) : g_i (n_P S q o n nm mk h b) c k a = g_i S c k a := by
  simp only [n_P, i_P, i_P2, i_P1, x_gs, ha, and_false, if_false]
theorem n_P_l {S : gs_S} {q : Nat} {o : Option Nat} {n nm mk : Int32} {h b a : Nat} (c k : Nat) (ha : a ≠ q) : g_l (n_P S q o n nm mk h b) c k a = g_l S c k a := by
  simp only [n_P, i_P, i_P2, i_P1, x_gs, ha, if_false]
theorem n_P_ar {S : gs_S} {q : Nat} {o : Option Nat} {n nm mk : Int32} {h b a : Nat} (r j : Nat) (h1 : a ≠ h) (h2 : a ≠ b) : g_ar (n_P S q o n nm mk h b) r a j = g_ar S r a j := by
  simp only [n_P, i_P, i_P2, i_P1, x_gs, h1, h2, if_false]
theorem n_P_ai {S : gs_S} {q : Nat} {o : Option Nat} {n nm mk : Int32} {h b a : Nat} (r j : Nat) (h1 : a ≠ h) (h2 : a ≠ b) : g_ai (n_P S q o n nm mk h b) r a j = g_ai S r a j := by
  simp only [n_P, i_P, i_P2, i_P1, x_gs, h1, h2, if_false]
theorem n_P_al {S : gs_S} {q : Nat} {o : Option Nat} {n nm mk : Int32} {h b a : Nat} (r j : Nat) (h1 : a ≠ h) (h2 : a ≠ b) : g_al (n_P S q o n nm mk h b) r a j = g_al S r a j := by
  simp only [n_P, i_P, i_P2, i_P1, x_gs, h1, h2, if_false]
theorem n_P_q {S : gs_S} {q : Nat} {o : Option Nat} {n nm mk : Int32} {h b : Nat} : g_r (n_P S q o n nm mk h b) 1 0 q = o ∧ g_r (n_P S q o n nm mk h b) 1 4 q = some h ∧ g_r (n_P S q o n nm mk h b) 1 5 q = some b ∧ g_r (n_P S q o n nm mk h b) 1 8 q = none ∧ g_i (n_P S q o n nm mk h b) 1 1 q = n ∧ g_i (n_P S q o n nm mk h b) 1 2 q = nm ∧ g_i (n_P S q o n nm mk h b) 1 3 q = mk ∧ g_i (n_P S q o n nm mk h b) 1 6 q = 0 ∧ g_i (n_P S q o n nm mk h b) 1 7 q = 0 := by
  simp [n_P, i_P, i_P2, i_P1, x_gs]
theorem wt_nP {S : gs_S} {q : Nat} {o : Option Nat} {nm mk : Int32} {h b k : Nat} (hw : w_t S) (hq : g_sh S q = none) (hf : i_Pf (p_new S 1 q) q h b) (ho : t_o S 1 o) (hk : 1 ≤ k) (hk60 : k ≤ 60) (hok : ∀ c : Nat, o = some c → ∃ j : Nat, j < k ∧ g_i S 1 1 c = nI j) : w_t (n_P S q o (nI k) nm mk h b) := by
  obtain ⟨⟨a1, a2⟩, b1, b2, b3⟩ := n_Pne hf
  have ne : ∀ {b z : Nat} {y : Nat ⊕ (Nat × Nat)}, g_sh S b = some y → g_sh S z = none → b ≠ z := fun h1 h2 e => by rw [e, h2] at h1; cases h1
  have hx : ∀ (c : Nat) (y : Nat ⊕ (Nat × Nat)), g_sh S c = some y → g_sh (n_P S q o (nI k) nm mk h b) c = some y := fun c y hc => by
    rw [n_P_sh, if_neg (ne hc b3), if_neg (ne hc a2), if_neg (ne hc hq)]
    exact hc
  have key : ∀ (a : Nat) (y : Nat ⊕ (Nat × Nat)), g_sh S a = none → g_sh (n_P S q o (nI k) nm mk h b) a = some y → (a = q ∧ y = .inl 1) ∨ (a = h ∧ y = .inr (4, 16)) ∨ (a = b ∧ y = .inr (5, 16)) := by
    intro a y h0 h1
    rw [n_P_sh] at h1
    split at h1
    · cases h1; exact Or.inr (Or.inr ⟨by assumption, rfl⟩)
    · split at h1
      · cases h1; exact Or.inr (Or.inl ⟨by assumption, rfl⟩)
      · split at h1
        · cases h1; exact Or.inl ⟨by assumption, rfl⟩
        · rw [h0] at h1; cases h1
  obtain ⟨e0, e4, e5, e8, i1, i2, i3, i6, i7⟩ := n_P_q (S := S) (q := q) (o := o) (n := nI k) (nm := nm) (mk := mk) (h := h) (b := b)
  refine wt_ext hw hx (fun c k b y hb => n_P_r c k (ne hb hq)) (fun c k b y hb => n_P_i c k (ne hb hq)) (fun r c j y hb => n_P_ar r j (ne hb a2) (ne hb b3)) (fun r c j y hb => n_P_ai r j (ne hb a2) (ne hb b3)) ?_ ?_ ?_ ?_ ?_ ?_
  · intro a h0 h1
    rcases key a _ h0 h1 with ⟨-, z⟩ | ⟨-, z⟩ | ⟨-, z⟩ <;> cases z
  · intro a h0 h1
    rcases key a _ h0 h1 with ⟨-, z⟩ | ⟨-, z⟩ | ⟨-, z⟩ <;> cases z
  · intro a h0 h1
    rcases key a _ h0 h1 with ⟨-, z⟩ | ⟨-, z⟩ | ⟨-, z⟩ <;> cases z
  · intro a h0 h1
    rcases key a _ h0 h1 with ⟨rfl, -⟩ | ⟨-, z⟩ | ⟨-, z⟩
    · rw [e0, e4, e5, e8, i1, i6]
      refine ⟨fun c hc => hx _ _ (ho c hc), ⟨h, rfl, ?_⟩, ⟨b, rfl, ?_⟩, t_oN, ⟨0, by omega, rfl⟩, k, hk, hk60, rfl, fun c hc => ?_⟩
      · rw [n_P_sh, if_neg (Ne.symm b1), if_pos rfl]
      · rw [n_P_sh, if_pos rfl]
      · obtain ⟨j, z1, z2⟩ := hok c hc
        exact ⟨j, z1, by rw [n_P_i 1 1 (ne (ho c hc) hq)]; exact z2⟩
    · cases z
    · cases z
  · intro a h0
    constructor
    · intro h1
      rcases key a _ h0 h1 with ⟨-, z⟩ | ⟨-, z⟩ | ⟨-, z⟩ <;> cases z
    · intro h1
      rcases key a _ h0 h1 with ⟨-, z⟩ | ⟨-, z⟩ | ⟨-, z⟩ <;> cases z
  · intro a h0 h1
    rcases key a _ h0 h1 with ⟨-, z⟩ | ⟨-, z⟩ | ⟨-, z⟩ <;> cases z
end
section
/-! R.call -/
def la_R (T : gs_S) (a u : Nat) (T1 : gs_S) : Prop := (g_r T 0 1 a = some u ∧ T1 = T) ∨ (g_r T 0 1 a = none ∧ ∃ h pl bb va : Nat, g_sh T u = none ∧ i_Lf (p_new T 0 u) u h pl bb va ∧ T1 = p_r (n_L T u (some a) h pl bb va) 0 1 a (some u))
theorem la_wt {T T1 : gs_S} {a u : Nat} (hw : w_t T) (ha : g_sh T a = some (.inl 0)) (h : la_R T a u T1) : w_t T1 ∧ g_sh T1 u = some (.inl 0) ∧ ∀ (b : Nat) (y : Nat ⊕ (Nat × Nat)), g_sh T b = some y → g_sh T1 b = some y := by
  rcases h with ⟨h1, rfl⟩ | ⟨h1, hh, pl, bb, va, h2, h3, rfl⟩
  · exact ⟨hw, w_above hw ha u h1, fun _ _ h => h⟩
  · have hu : g_sh (n_L T u (some a) hh pl bb va) u = some (.inl 0) := by
      obtain ⟨⟨a1, a2⟩, ⟨b1, b2, b3⟩, ⟨c1, c2, c3, c4⟩, d1, d2, d3, d4, d5⟩ := n_Lne h3
      rw [n_L_sh, if_neg (Ne.symm d4), if_neg (Ne.symm c3), if_neg (Ne.symm b2), if_neg (Ne.symm a1), if_pos rfl]
    refine ⟨wt_pr (wt_nL hw h2 h3 (fun b hb => by cases hb; exact ha)) (fun _ => Or.inl ⟨Or.inr (Or.inl rfl), fun b hb => by cases hb; exact hu⟩) (fun z => absurd z (by decide)) (fun z => absurd z (by decide)), hu, fun b y hb => ?_⟩
    exact sh_iL (be := some a) (sh_nO hb h2) h3
def f_callR (T : gs_S) (x : Nat) (fr nm : Int32) : Int32 := if fr = f_no T (f_run T x) then (if f_isName nm = 0 then -2 else (match f_found T x (f_run T x) nm with
  | none => -3
  | some c => match g_r T 1 8 c with
    | none => if g_i T 2 0 x ≤ g_i T 2 9 x then -6 else if g_i T 2 9 x < 256 then 0 else -6
    | some _ => if f_has T c 4 = 0 then -5 else if g_i T 2 0 x ≤ g_i T 2 9 x then -6 else if g_i T 2 9 x < 256 then 0 else -6)) else -2
def q_call (S : gs_S) (x : Nat) (fr nm : Int32) (r : Int32) (S' : gs_S) : Prop := (¬ f_callR (p_r S 2 10 x none) x fr nm = 0 ∧ r = f_callR (p_r S 2 10 x none) x fr nm ∧ S' = p_r S 2 10 x none) ∨ (f_callR (p_r S 2 10 x none) x fr nm = 0 ∧ ∃ (c u : Nat) (T1 : gs_S), f_found (p_r S 2 10 x none) x (f_run (p_r S 2 10 x none) x) nm = some c ∧ la_R (p_r S 2 10 x none) (f_top (p_r S 2 10 x none) x) u T1 ∧ S' = f_begin (p_r T1 2 10 x (some u)) u (some c) ∧ r = g_i S' 1 1 c)

set_option maxHeartbeats 4000000 in
set_option maxRecDepth 100000 in
theorem c_R_call (l : Launch) (G : gs_G) (S : gs_S) (sz : Nat) (x : Nat) (fr nm : Int32) (hWT : w_t S) (hX : g_sh S x = some (.inl 2)) : Met l yR_call (kR_call :: gU) { frames := 3, cells := 5, slots := 273, locals := 71 } (g_Pc G S sz [va_rf (some x), .int fr, .int nm]) (g_Qi G S sz (q_call S x fr nm)) 5 273 (g_A S sz) := by
  refine s_head (by decide) (Nat.le_of_ble_eq_true rfl) ?_
  intro p e s m below meth c ls hsz hC hr hlocks hnm hl hW
  subst hsz
  obtain ⟨hx, hb, hml, hown, hts⟩ := id hC
  have hl : lv_has ls 4 [(0, va_rf (some x)), (1, .int fr), (2, .int nm)] := hl
  refine s_aload_n (x := some x) hx hb dR_call_0 rfl (lv_at hl 0 rfl) ?_
  refine s_null hx hb dR_call_1 ?_
  refine s_putr (v := none) hC hW gc_R iw_R 10 (by decide) uw_82 (Or.inl rfl) (g_nr _) (g_ft _) rfl hX dR_call_2 (fun H locs hW => ?_)
  refine lv_iload_n hx hb dR_call_5 rfl (lv_at hl 1 rfl) ?_
  refine s_aload_n (x := some x) hx hb dR_call_6 rfl (lv_at hl 0 rfl) ?_
  obtain ⟨b7, eb7, sb7⟩ := w_top (wt_unprep hWT) hX
  refine s_getr hC hW gc_R iw_R 8 (by decide) uw_80 rfl hX (v := some b7) eb7 dR_call_7 ?_
  obtain ⟨r10, er10⟩ : ∃ r : Option Nat, g_r (p_r S 2 10 x none) 0 2 b7 = r := ⟨_, rfl⟩
  refine s_getr hC hW gc_L iw_L 2 (by decide) uw_32 rfl sb7 (v := r10) er10 dR_call_10 ?_
  refine s_calli hW (s_runS (n := 1) (As := [va_rf r10]) (rest := [.int fr]) hC (c_R_numberOf l G (p_r S 2 10 x none) H.size r10 (fun b q => w_program (wt_unprep hWT) sb7 b (Eq.trans (er10) q))) uc_R_numberOf uw_182 uw_183 uw_1 rfl rfl (by decide +kernel) ⟨by decide, by decide⟩ (g_preS hW [va_rf r10]) rfl hl.1 rfl (Nat.le_of_ble_eq_true rfl) dR_call_13 ⟨Nat.le_of_ble_eq_true rfl, Nat.le_of_ble_eq_true rfl⟩) (fun q13 S13 H locs hp13 hW => ?_)
  obtain ⟨hs13, rfl⟩ := hp13
  replace hs13 := hs13.symm
  subst hs13
  refine lv_icmp_ne (tgt := 26) hx hb dR_call_16 (by decide) (fun c_16 => ?_) (fun c_16 => ?_)
  · skip
    refine lv_bipush (v := (-2)) hx hb dR_call_26 (by decide) ?_
    have et : f_top (p_r S 2 10 x none) x = b7 := by rw [f_top, eb7]; rfl
    have er : f_run (p_r S 2 10 x none) x = r10 := by rw [f_run, et]; exact er10
    refine W.widen (k := 5) (n := 273) (Nat.le_of_ble_eq_true rfl) (Nat.le_of_ble_eq_true rfl) ?_
    have ec : f_callR (p_r S 2 10 x none) x fr nm = -2 := by rw [f_callR, er, if_neg c_16]
    exact s_iret hC hr hlocks rfl hW dR_call_28 (Or.inl ⟨by rw [ec]; decide, ec.symm, rfl⟩)
  · skip
    refine lv_iload_n hx hb dR_call_19 rfl (lv_at hl 2 rfl) ?_
    refine s_calli hW (s_runS (n := 1) (As := [.int nm]) (rest := []) hC (c_R_isName l G (p_r S 2 10 x none) H.size nm) uc_R_isName uw_117 uw_118 uw_1 rfl rfl (by decide +kernel) ⟨by decide, by decide⟩ (g_preS hW [.int nm]) rfl hl.1 rfl (Nat.le_of_ble_eq_true rfl) dR_call_20 ⟨Nat.le_of_ble_eq_true rfl, Nat.le_of_ble_eq_true rfl⟩) (fun q20 S20 H locs hp20 hW => ?_)
    obtain ⟨hs20, rfl⟩ := hp20
    replace hs20 := hs20.symm
    subst hs20
    refine lv_if_ne (tgt := 29) hx hb dR_call_23 (by decide) (fun c_23 => ?_) (fun c_23 => ?_)
    · skip
      refine s_aload_n (x := some x) hx hb dR_call_29 rfl (lv_at hl 0 rfl) ?_
      refine s_aload_n (x := some x) hx hb dR_call_30 rfl (lv_at hl 0 rfl) ?_
      refine s_getr hC hW gc_R iw_R 8 (by decide) uw_80 rfl hX (v := some b7) eb7 dR_call_31 ?_
      refine s_getr hC hW gc_L iw_L 2 (by decide) uw_32 rfl sb7 (v := r10) er10 dR_call_34 ?_
      refine lv_iload_n hx hb dR_call_37 rfl (lv_at hl 2 rfl) ?_
      refine s_callq hW (s_runV (n := 2) (As := [va_rf r10, .int nm]) (rest := []) hC (c_R_found l G (p_r S 2 10 x none) H.size x r10 nm (wt_unprep hWT) hX (fun b q => w_program (wt_unprep hWT) sb7 b (Eq.trans (er10) q))) uc_R_found uw_185 uw_187 us_R_found uw_1 rfl rfl (by decide +kernel) ⟨by decide, by decide⟩ (g_preV hW gc_R hX [va_rf r10, .int nm]) rfl hl.1 rfl (Nat.le_of_ble_eq_true rfl) dR_call_38 ⟨Nat.le_of_ble_eq_true rfl, Nat.le_of_ble_eq_true rfl⟩) (fun rq38 S38 H locs hp38 hW => ?_)
      obtain ⟨hs38, erq38⟩ := hp38
      replace hs38 := hs38.symm
      subst hs38
      refine s_astore_n (x := rq38) (lv' := [(3, va_rf rq38), (0, va_rf (some x)), (1, .int fr), (2, .int nm)]) hx hb dR_call_41 rfl hl (by decide) rfl (fun ls hl => ?_)
      refine s_aload_n (x := rq38) hx hb dR_call_42 rfl (lv_at hl 0 rfl) ?_
      refine s_ifnonnull (x := rq38) (tgt := 49) hx hb dR_call_43 (by decide) (fun b_43 c_43 => ?_) (fun c_43 => ?_)
      · skip
        subst c_43
        have sb_43 := t_found (wt_unprep hWT) hX (fun b q => w_program (wt_unprep hWT) sb7 b (Eq.trans (er10) q)) _ erq38.symm
        refine s_aload_n (x := some b_43) hx hb dR_call_49 rfl (lv_at hl 0 rfl) ?_
        obtain ⟨r50, er50⟩ : ∃ r : Option Nat, g_r (p_r S 2 10 x none) 1 8 b_43 = r := ⟨_, rfl⟩
        refine s_getr hC hW gc_P iw_P 8 (by decide) uw_142 rfl sb_43 (v := r50) er50 dR_call_50 ?_
        refine s_ifnull (x := r50) (tgt := 67) hx hb dR_call_53 (by decide) (fun c_53 => ?_) (fun b_53 c_53 => ?_)
        · skip
          subst c_53
          refine s_aload_n (x := some x) hx hb dR_call_67 rfl (lv_at hl 1 rfl) ?_
          refine s_geti hC hW gc_R iw_R 9 (by decide) uw_81 rfl hX rfl dR_call_68 ?_
          refine s_aload_n (x := some x) hx hb dR_call_71 rfl (lv_at hl 1 rfl) ?_
          refine s_geti hC hW gc_R iw_R 0 (by decide) uw_72 rfl hX rfl dR_call_72 ?_
          refine lv_icmp_ge (tgt := 88) hx hb dR_call_75 (by decide) (fun c_75 => ?_) (fun c_75 => ?_)
          · skip
            refine lv_bipush (v := (-6)) hx hb dR_call_88 (by decide) ?_
            have et : f_top (p_r S 2 10 x none) x = b7 := by rw [f_top, eb7]; rfl
            have er : f_run (p_r S 2 10 x none) x = r10 := by rw [f_run, et]; exact er10
            refine W.widen (k := 5) (n := 273) (Nat.le_of_ble_eq_true rfl) (Nat.le_of_ble_eq_true rfl) ?_
            have ec : f_callR (p_r S 2 10 x none) x fr nm = -6 := by rw [f_callR, er, if_pos c_16, if_neg c_23, ← erq38]; simp only [er50]; rw [if_pos c_75]
            exact s_iret hC hr hlocks rfl hW dR_call_90 (Or.inl ⟨by rw [ec]; decide, ec.symm, rfl⟩)
          · skip
            refine s_aload_n (x := some x) hx hb dR_call_78 rfl (lv_at hl 1 rfl) ?_
            refine s_geti hC hW gc_R iw_R 9 (by decide) uw_81 rfl hX rfl dR_call_79 ?_
            refine lv_sipush (v := 256) hx hb dR_call_82 (by decide) ?_
            refine lv_icmp_lt (tgt := 91) hx hb dR_call_85 (by decide) (fun c_85 => ?_) (fun c_85 => ?_)
            · skip
              refine s_aload_n (x := some x) hx hb dR_call_91 rfl (lv_at hl 1 rfl) ?_
              refine s_aload_n (x := some x) hx hb dR_call_92 rfl (lv_at hl 1 rfl) ?_
              refine s_getr hC hW gc_R iw_R 8 (by decide) uw_80 rfl hX (v := some b7) eb7 dR_call_93 ?_
              refine s_callq hW (s_runS (n := 1) (As := [va_rf (some b7)]) (rest := [va_rf (some x)]) hC (c_R_levelAbove l G (p_r S 2 10 x none) H.size b7 (wt_unprep hWT) sb7) uc_R_levelAbove uw_204 uw_205 uw_1 rfl rfl (by decide +kernel) ⟨by decide, by decide⟩ (g_preS hW [va_rf (some b7)]) rfl hl.1 rfl (Nat.le_of_ble_eq_true rfl) dR_call_96 ⟨Nat.le_of_ble_eq_true rfl, Nat.le_of_ble_eq_true rfl⟩) (fun rq96 S96 H locs hp96 hW => ?_)
              obtain ⟨u, hla, hre⟩ : ∃ u : Nat, la_R (p_r S 2 10 x none) b7 u S96 ∧ rq96 = some u := by
                rcases hp96 with ⟨u, h1, h2, h3⟩ | ⟨h1, q, h, pl, bb, va, h2, h3, h4, h5⟩
                · exact ⟨u, Or.inl ⟨h1, h2⟩, h3⟩
                · exact ⟨q, Or.inr ⟨h1, h, pl, bb, va, h2, h3, h4⟩, h5⟩
              subst hre
              obtain ⟨hw1, su, hext⟩ := la_wt (wt_unprep hWT) sb7 hla
              refine s_putr (v := some u) hC hW gc_R iw_R 10 (by decide) uw_82 (Or.inl rfl) (g_nr _) (g_ft _) rfl (hext _ _ hX) dR_call_99 (fun H locs hW => ?_)
              refine s_aload_n (x := some x) hx hb dR_call_102 rfl (lv_at hl 1 rfl) ?_
              refine s_getr hC hW gc_R iw_R 10 (by decide) uw_82 rfl (hext _ _ hX) (v := some u) (by simp [x_gs]) dR_call_103 ?_
              refine s_aload_n (x := some b_43) hx hb dR_call_106 rfl (lv_at hl 0 rfl) ?_
              refine s_callv hW (s_runV (n := 1) (As := [va_rf (some b_43)]) (rest := []) hC (c_L_begin l G (p_r S96 2 10 x (some u)) H.size u b_43 (wt_pr hw1 (fun z => absurd z (by decide)) (fun z => absurd z (by decide)) (fun _ => Or.inr ⟨rfl, fun b hb => by cases hb; exact su⟩)) su (hext _ _ sb_43)) uc_L_begin uw_207 uw_208 uw_209 uw_2 rfl rfl (by decide +kernel) ⟨by decide, by decide⟩ (g_preV hW gc_L su [va_rf (some b_43)]) rfl hl.1 rfl (Nat.le_of_ble_eq_true rfl) dR_call_107 ⟨Nat.le_of_ble_eq_true rfl, Nat.le_of_ble_eq_true rfl⟩) (fun S107 H locs hp107 hW => ?_)
              subst hp107
              refine s_aload_n (x := some b_43) hx hb dR_call_110 rfl (lv_at hl 0 rfl) ?_
              refine s_geti hC hW gc_P iw_P 1 (by decide) uw_132 rfl ((f_nul_sh _ _ _ _).trans (hext _ _ sb_43)) rfl dR_call_111 ?_
              have et : f_top (p_r S 2 10 x none) x = b7 := by rw [f_top, eb7]; rfl
              have er : f_run (p_r S 2 10 x none) x = r10 := by rw [f_run, et]; exact er10
              have ec : f_callR (p_r S 2 10 x none) x fr nm = 0 := by rw [f_callR, er, if_pos c_16, if_neg c_23, ← erq38]; simp only [er50]; rw [if_neg c_75, if_pos c_85]
              exact s_iret hC hr hlocks rfl hW dR_call_114 (Or.inr ⟨ec, b_43, u, S96, by rw [er]; exact erq38.symm, by rw [et]; exact hla, rfl, rfl⟩)
            · skip
              refine lv_bipush (v := (-6)) hx hb dR_call_88 (by decide) ?_
              have et : f_top (p_r S 2 10 x none) x = b7 := by rw [f_top, eb7]; rfl
              have er : f_run (p_r S 2 10 x none) x = r10 := by rw [f_run, et]; exact er10
              refine W.widen (k := 5) (n := 273) (Nat.le_of_ble_eq_true rfl) (Nat.le_of_ble_eq_true rfl) ?_
              have ec : f_callR (p_r S 2 10 x none) x fr nm = -6 := by rw [f_callR, er, if_pos c_16, if_neg c_23, ← erq38]; simp only [er50]; rw [if_neg c_75, if_neg c_85]
              exact s_iret hC hr hlocks rfl hW dR_call_90 (Or.inl ⟨by rw [ec]; decide, ec.symm, rfl⟩)
        · skip
          subst c_53
          have sb_53 := w_latest (wt_unprep hWT) sb_43 _ er50
          refine s_aload_n (x := some b_43) hx hb dR_call_56 rfl (lv_at hl 0 rfl) ?_
          refine lv_iconst (v := 4) hx hb dR_call_57 (by decide) ?_
          refine s_calli hW (s_runV (n := 1) (As := [.int 4]) (rest := []) hC (c_P_has l G (p_r S 2 10 x none) H.size b_43 4 sb_43) uc_P_has uw_192 uw_193 uw_194 uw_5 rfl rfl (by decide +kernel) ⟨by decide, by decide⟩ (g_preV hW gc_P sb_43 [.int 4]) rfl hl.1 rfl (Nat.le_of_ble_eq_true rfl) dR_call_58 ⟨Nat.le_of_ble_eq_true rfl, Nat.le_of_ble_eq_true rfl⟩) (fun q58 S58 H locs hp58 hW => ?_)
          obtain ⟨hs58, rfl⟩ := hp58
          replace hs58 := hs58.symm
          subst hs58
          refine lv_if_ne (tgt := 67) hx hb dR_call_61 (by decide) (fun c_61 => ?_) (fun c_61 => ?_)
          · skip
            refine s_aload_n (x := some x) hx hb dR_call_67 rfl (lv_at hl 1 rfl) ?_
            refine s_geti hC hW gc_R iw_R 9 (by decide) uw_81 rfl hX rfl dR_call_68 ?_
            refine s_aload_n (x := some x) hx hb dR_call_71 rfl (lv_at hl 1 rfl) ?_
            refine s_geti hC hW gc_R iw_R 0 (by decide) uw_72 rfl hX rfl dR_call_72 ?_
            refine lv_icmp_ge (tgt := 88) hx hb dR_call_75 (by decide) (fun c_75 => ?_) (fun c_75 => ?_)
            · skip
              refine lv_bipush (v := (-6)) hx hb dR_call_88 (by decide) ?_
              have et : f_top (p_r S 2 10 x none) x = b7 := by rw [f_top, eb7]; rfl
              have er : f_run (p_r S 2 10 x none) x = r10 := by rw [f_run, et]; exact er10
              refine W.widen (k := 5) (n := 273) (Nat.le_of_ble_eq_true rfl) (Nat.le_of_ble_eq_true rfl) ?_
              have ec : f_callR (p_r S 2 10 x none) x fr nm = -6 := by rw [f_callR, er, if_pos c_16, if_neg c_23, ← erq38]; simp only [er50]; rw [if_neg c_61, if_pos c_75]
              exact s_iret hC hr hlocks rfl hW dR_call_90 (Or.inl ⟨by rw [ec]; decide, ec.symm, rfl⟩)
            · skip
              refine s_aload_n (x := some x) hx hb dR_call_78 rfl (lv_at hl 1 rfl) ?_
              refine s_geti hC hW gc_R iw_R 9 (by decide) uw_81 rfl hX rfl dR_call_79 ?_
              refine lv_sipush (v := 256) hx hb dR_call_82 (by decide) ?_
              refine lv_icmp_lt (tgt := 91) hx hb dR_call_85 (by decide) (fun c_85 => ?_) (fun c_85 => ?_)
              · skip
                refine s_aload_n (x := some x) hx hb dR_call_91 rfl (lv_at hl 1 rfl) ?_
                refine s_aload_n (x := some x) hx hb dR_call_92 rfl (lv_at hl 1 rfl) ?_
                refine s_getr hC hW gc_R iw_R 8 (by decide) uw_80 rfl hX (v := some b7) eb7 dR_call_93 ?_
                refine s_callq hW (s_runS (n := 1) (As := [va_rf (some b7)]) (rest := [va_rf (some x)]) hC (c_R_levelAbove l G (p_r S 2 10 x none) H.size b7 (wt_unprep hWT) sb7) uc_R_levelAbove uw_204 uw_205 uw_1 rfl rfl (by decide +kernel) ⟨by decide, by decide⟩ (g_preS hW [va_rf (some b7)]) rfl hl.1 rfl (Nat.le_of_ble_eq_true rfl) dR_call_96 ⟨Nat.le_of_ble_eq_true rfl, Nat.le_of_ble_eq_true rfl⟩) (fun rq96 S96 H locs hp96 hW => ?_)
                obtain ⟨u, hla, hre⟩ : ∃ u : Nat, la_R (p_r S 2 10 x none) b7 u S96 ∧ rq96 = some u := by
                  rcases hp96 with ⟨u, h1, h2, h3⟩ | ⟨h1, q, h, pl, bb, va, h2, h3, h4, h5⟩
                  · exact ⟨u, Or.inl ⟨h1, h2⟩, h3⟩
                  · exact ⟨q, Or.inr ⟨h1, h, pl, bb, va, h2, h3, h4⟩, h5⟩
                subst hre
                obtain ⟨hw1, su, hext⟩ := la_wt (wt_unprep hWT) sb7 hla
                refine s_putr (v := some u) hC hW gc_R iw_R 10 (by decide) uw_82 (Or.inl rfl) (g_nr _) (g_ft _) rfl (hext _ _ hX) dR_call_99 (fun H locs hW => ?_)
                refine s_aload_n (x := some x) hx hb dR_call_102 rfl (lv_at hl 1 rfl) ?_
                refine s_getr hC hW gc_R iw_R 10 (by decide) uw_82 rfl (hext _ _ hX) (v := some u) (by simp [x_gs]) dR_call_103 ?_
                refine s_aload_n (x := some b_43) hx hb dR_call_106 rfl (lv_at hl 0 rfl) ?_
                refine s_callv hW (s_runV (n := 1) (As := [va_rf (some b_43)]) (rest := []) hC (c_L_begin l G (p_r S96 2 10 x (some u)) H.size u b_43 (wt_pr hw1 (fun z => absurd z (by decide)) (fun z => absurd z (by decide)) (fun _ => Or.inr ⟨rfl, fun b hb => by cases hb; exact su⟩)) su (hext _ _ sb_43)) uc_L_begin uw_207 uw_208 uw_209 uw_2 rfl rfl (by decide +kernel) ⟨by decide, by decide⟩ (g_preV hW gc_L su [va_rf (some b_43)]) rfl hl.1 rfl (Nat.le_of_ble_eq_true rfl) dR_call_107 ⟨Nat.le_of_ble_eq_true rfl, Nat.le_of_ble_eq_true rfl⟩) (fun S107 H locs hp107 hW => ?_)
                subst hp107
                refine s_aload_n (x := some b_43) hx hb dR_call_110 rfl (lv_at hl 0 rfl) ?_
                refine s_geti hC hW gc_P iw_P 1 (by decide) uw_132 rfl ((f_nul_sh _ _ _ _).trans (hext _ _ sb_43)) rfl dR_call_111 ?_
                have et : f_top (p_r S 2 10 x none) x = b7 := by rw [f_top, eb7]; rfl
                have er : f_run (p_r S 2 10 x none) x = r10 := by rw [f_run, et]; exact er10
                have ec : f_callR (p_r S 2 10 x none) x fr nm = 0 := by rw [f_callR, er, if_pos c_16, if_neg c_23, ← erq38]; simp only [er50]; rw [if_neg c_61, if_neg c_75, if_pos c_85]
                exact s_iret hC hr hlocks rfl hW dR_call_114 (Or.inr ⟨ec, b_43, u, S96, by rw [er]; exact erq38.symm, by rw [et]; exact hla, rfl, rfl⟩)
              · skip
                refine lv_bipush (v := (-6)) hx hb dR_call_88 (by decide) ?_
                have et : f_top (p_r S 2 10 x none) x = b7 := by rw [f_top, eb7]; rfl
                have er : f_run (p_r S 2 10 x none) x = r10 := by rw [f_run, et]; exact er10
                refine W.widen (k := 5) (n := 273) (Nat.le_of_ble_eq_true rfl) (Nat.le_of_ble_eq_true rfl) ?_
                have ec : f_callR (p_r S 2 10 x none) x fr nm = -6 := by rw [f_callR, er, if_pos c_16, if_neg c_23, ← erq38]; simp only [er50]; rw [if_neg c_61, if_neg c_75, if_neg c_85]
                exact s_iret hC hr hlocks rfl hW dR_call_90 (Or.inl ⟨by rw [ec]; decide, ec.symm, rfl⟩)
          · skip
            refine lv_bipush (v := (-5)) hx hb dR_call_64 (by decide) ?_
            have et : f_top (p_r S 2 10 x none) x = b7 := by rw [f_top, eb7]; rfl
            have er : f_run (p_r S 2 10 x none) x = r10 := by rw [f_run, et]; exact er10
            refine W.widen (k := 5) (n := 273) (Nat.le_of_ble_eq_true rfl) (Nat.le_of_ble_eq_true rfl) ?_
            have ec : f_callR (p_r S 2 10 x none) x fr nm = -5 := by rw [f_callR, er, if_pos c_16, if_neg c_23, ← erq38]; simp only [er50]; rw [if_pos c_61]
            exact s_iret hC hr hlocks rfl hW dR_call_66 (Or.inl ⟨by rw [ec]; decide, ec.symm, rfl⟩)
      · skip
        subst c_43
        refine lv_bipush (v := (-3)) hx hb dR_call_46 (by decide) ?_
        have et : f_top (p_r S 2 10 x none) x = b7 := by rw [f_top, eb7]; rfl
        have er : f_run (p_r S 2 10 x none) x = r10 := by rw [f_run, et]; exact er10
        refine W.widen (k := 5) (n := 273) (Nat.le_of_ble_eq_true rfl) (Nat.le_of_ble_eq_true rfl) ?_
        have ec : f_callR (p_r S 2 10 x none) x fr nm = -3 := by rw [f_callR, er, if_pos c_16, if_neg c_23, ← erq38]
        exact s_iret hC hr hlocks rfl hW dR_call_48 (Or.inl ⟨by rw [ec]; decide, ec.symm, rfl⟩)
    · skip
      refine lv_bipush (v := (-2)) hx hb dR_call_26 (by decide) ?_
      have et : f_top (p_r S 2 10 x none) x = b7 := by rw [f_top, eb7]; rfl
      have er : f_run (p_r S 2 10 x none) x = r10 := by rw [f_run, et]; exact er10
      refine W.widen (k := 5) (n := 273) (Nat.le_of_ble_eq_true rfl) (Nat.le_of_ble_eq_true rfl) ?_
      have ec : f_callR (p_r S 2 10 x none) x fr nm = -2 := by rw [f_callR, er, if_pos c_16, if_pos c_23]
      exact s_iret hC hr hlocks rfl hW dR_call_28 (Or.inl ⟨by rw [ec]; decide, ec.symm, rfl⟩)

/-! R.program -/
theorem sh_iP {S : gs_S} {q h b a : Nat} {o : Option Nat} {n nm mk : Int32} {x : Nat ⊕ (Nat × Nat)} (ha : g_sh S a = some x) (hf : i_Pf S q h b) : g_sh (i_P S q o n nm mk h b) a = some x := sh_nA (S := i_P1 S q h) (sh_nA ha hf.1) hf.2
def f_progR (S : gs_S) (x : Nat) (wi nm mk : Int32) : Int32 := if wi = 0 ∨ ¬ f_pOf S x wi = none then (if f_isName nm = 0 then -2 else if mk < 0 then -2 else if mk ≤ 15 then (if g_i S 2 9 x ≤ 0 then (match f_dwR S x (f_pOf S x wi) nm with
    | some _ => -3
    | none => if g_i S 2 2 x < 60 then 0 else -1) else -4) else -2) else -2
def q_program (S : gs_S) (x : Nat) (wi nm mk : Int32) (r : Int32) (S' : gs_S) : Prop := (¬ f_progR S x wi nm mk = 0 ∧ r = f_progR S x wi nm mk ∧ S' = S) ∨ (f_progR S x wi nm mk = 0 ∧ ∃ q h b : Nat, g_sh S q = none ∧ i_Pf (p_new (p_i S 2 2 x (g_i S 2 2 x + 1)) 1 q) q h b ∧ S' = p_ar (n_P (p_i S 2 2 x (g_i S 2 2 x + 1)) q (f_pOf S x wi) (g_i S 2 2 x + 1) nm mk h b) 0 (v_a (g_r S 2 1 x)) ((g_i S 2 2 x).toNatClampNeg + 1) (some q) ∧ r = g_i S 2 2 x + 1)

set_option maxHeartbeats 4000000 in
set_option maxRecDepth 100000 in
theorem c_R_program (l : Launch) (G : gs_G) (S : gs_S) (sz : Nat) (x : Nat) (wi nm mk : Int32) (hWT : w_t S) (hX : g_sh S x = some (.inl 2)) : Met l yR_program (kR_program :: gU) { frames := 2, cells := 3, slots := 41, locals := 36 } (g_Pc G S sz [va_rf (some x), .int wi, .int nm, .int mk]) (g_Qi G S sz (q_program S x wi nm mk)) 3 41 (g_A S sz) := by
  refine s_head (by decide) (Nat.le_of_ble_eq_true rfl) ?_
  intro p e s m below meth c ls hsz hC hr hlocks hnm hl hW
  subst hsz
  obtain ⟨hx, hb, hml, hown, hts⟩ := id hC
  have hl : lv_has ls 6 [(0, va_rf (some x)), (1, .int wi), (2, .int nm), (3, .int mk)] := hl
  refine lv_iload_n hx hb dR_program_0 rfl (lv_at hl 1 rfl) ?_
  refine lv_if_eq (tgt := 12) hx hb dR_program_1 (by decide) (fun c_1 => ?_) (fun c_1 => ?_)
  · skip
    refine lv_iconst (v := 1) hx hb dR_program_12 (by decide) ?_
    refine lv_goto (tgt := 17) hx hb dR_program_13 (by decide) ?_
    refine lv_istore (lv' := [(4, .int 1), (0, va_rf (some x)), (1, .int wi), (2, .int nm), (3, .int mk)]) hx hb dR_program_17 hl (by decide) rfl (fun ls hl => ?_)
    refine lv_iload hx hb dR_program_19 (lv_at hl 0 rfl) ?_
    refine lv_if_eq (tgt := 41) hx hb dR_program_21 (by decide) (fun c => absurd c (by decide)) (fun c_21 => ?_)
    refine lv_iload_n hx hb dR_program_24 rfl (lv_at hl 3 rfl) ?_
    refine s_calli hW (s_runS (n := 1) (As := [.int nm]) (rest := []) hC (c_R_isName l G S s.heap.size nm) uc_R_isName uw_117 uw_118 uw_1 rfl rfl (by decide +kernel) ⟨by decide, by decide⟩ (g_preS hW [.int nm]) rfl hl.1 rfl (Nat.le_of_ble_eq_true rfl) dR_program_25 ⟨Nat.le_of_ble_eq_true rfl, Nat.le_of_ble_eq_true rfl⟩) (fun q25 S25 H locs hp25 hW => ?_)
    obtain ⟨hs25, rfl⟩ := hp25
    replace hs25 := hs25.symm
    subst hs25
    refine lv_if_eq (tgt := 41) hx hb dR_program_28 (by decide) (fun c_28 => ?_) (fun c_28 => ?_)
    · skip
      refine lv_bipush (v := (-2)) hx hb dR_program_41 (by decide) ?_
      refine W.widen (k := 3) (n := 41) (Nat.le_of_ble_eq_true rfl) (Nat.le_of_ble_eq_true rfl) ?_
      have ec : f_progR S x wi nm mk = -2 := by rw [f_progR, if_pos (Or.inl c_1), if_pos c_28]
      exact s_iret hC hr hlocks rfl hW dR_program_43 (Or.inl ⟨by rw [ec]; decide, ec.symm, rfl⟩)
    · skip
      refine lv_iload_n hx hb dR_program_31 rfl (lv_at hl 4 rfl) ?_
      refine lv_if_lt (tgt := 41) hx hb dR_program_32 (by decide) (fun c_32 => ?_) (fun c_32 => ?_)
      · skip
        refine lv_bipush (v := (-2)) hx hb dR_program_41 (by decide) ?_
        refine W.widen (k := 3) (n := 41) (Nat.le_of_ble_eq_true rfl) (Nat.le_of_ble_eq_true rfl) ?_
        have ec : f_progR S x wi nm mk = -2 := by rw [f_progR, if_pos (Or.inl c_1), if_neg c_28, if_pos c_32]
        exact s_iret hC hr hlocks rfl hW dR_program_43 (Or.inl ⟨by rw [ec]; decide, ec.symm, rfl⟩)
      · skip
        refine lv_iload_n hx hb dR_program_35 rfl (lv_at hl 4 rfl) ?_
        refine lv_bipush (v := 15) hx hb dR_program_36 (by decide) ?_
        refine lv_icmp_le (tgt := 44) hx hb dR_program_38 (by decide) (fun c_38 => ?_) (fun c_38 => ?_)
        · skip
          refine s_aload_n (x := some x) hx hb dR_program_44 rfl (lv_at hl 1 rfl) ?_
          refine s_geti hC hW gc_R iw_R 9 (by decide) uw_81 rfl hX rfl dR_program_45 ?_
          refine lv_if_le (tgt := 54) hx hb dR_program_48 (by decide) (fun c_48 => ?_) (fun c_48 => ?_)
          · skip
            refine s_aload_n (x := some x) hx hb dR_program_54 rfl (lv_at hl 1 rfl) ?_
            refine lv_iload_n hx hb dR_program_55 rfl (lv_at hl 2 rfl) ?_
            refine s_callq hW (s_runV (n := 1) (As := [.int wi]) (rest := []) hC (c_R_programOf l G S H.size x wi hWT hX) uc_R_programOf uw_113 uw_115 us_R_programOf uw_1 rfl rfl (by decide +kernel) ⟨by decide, by decide⟩ (g_preV hW gc_R hX [.int wi]) rfl hl.1 rfl (Nat.le_of_ble_eq_true rfl) dR_program_56 ⟨Nat.le_of_ble_eq_true rfl, Nat.le_of_ble_eq_true rfl⟩) (fun rq56 S56 H locs hp56 hW => ?_)
            obtain ⟨hs56, erq56⟩ := hp56
            replace hs56 := hs56.symm
            subst hs56
            refine s_astore (x := rq56) (lv' := [(5, va_rf rq56), (4, .int 1), (0, va_rf (some x)), (1, .int wi), (2, .int nm), (3, .int mk)]) hx hb dR_program_59 hl (by decide) rfl (fun ls hl => ?_)
            refine s_aload_n (x := some x) hx hb dR_program_61 rfl (lv_at hl 2 rfl) ?_
            refine s_aload (x := rq56) hx hb dR_program_62 (lv_at hl 0 rfl) ?_
            refine lv_iload_n hx hb dR_program_64 rfl (lv_at hl 4 rfl) ?_
            refine s_callq hW (s_runV (n := 2) (As := [va_rf rq56, .int nm]) (rest := []) hC (c_R_directlyWithin l G S H.size x rq56 nm hWT hX) uc_R_directlyWithin uw_120 uw_122 us_R_directlyWithin uw_1 rfl rfl (by decide +kernel) ⟨by decide, by decide⟩ (g_preV hW gc_R hX [va_rf rq56, .int nm]) rfl hl.1 rfl (Nat.le_of_ble_eq_true rfl) dR_program_65 ⟨Nat.le_of_ble_eq_true rfl, Nat.le_of_ble_eq_true rfl⟩) (fun rq65 S65 H locs hp65 hW => ?_)
            obtain ⟨hs65, erq65⟩ := hp65
            replace hs65 := hs65.symm
            subst hs65
            refine s_ifnull (x := rq65) (tgt := 74) hx hb dR_program_68 (by decide) (fun c_68 => ?_) (fun b_68 c_68 => ?_)
            · skip
              subst c_68
              obtain ⟨n, hn, en⟩ := w_programCount hWT hX
              refine s_aload_n (x := some x) hx hb dR_program_74 rfl (lv_at hl 2 rfl) ?_
              refine s_geti hC hW gc_R iw_R 2 (by decide) uw_74 rfl hX (v := nI n) en dR_program_75 ?_
              refine lv_bipush (v := 60) hx hb dR_program_78 (by decide) ?_
              refine lv_icmp_lt (tgt := 85) hx hb dR_program_80 (by decide) (fun c_80 => ?_) (fun c_80 => ?_)
              · skip
                have hn2 : n < 60 := (nI_ltI (b := 60) (by omega) (by omega)).mp c_80
                refine s_aload_n (x := some x) hx hb dR_program_85 rfl (lv_at hl 2 rfl) ?_
                refine lv_dup hx hb dR_program_86 rfl ?_
                refine s_geti hC hW gc_R iw_R 2 (by decide) uw_74 rfl hX (v := nI n) en dR_program_87 ?_
                refine lv_iconst (v := 1) hx hb dR_program_90 (by decide) ?_
                refine lv_iadd hx hb dR_program_91 ?_
                refine s_puti hC hW gc_R iw_R 2 (by decide) uw_74 (Or.inl rfl) rfl rfl rfl hX dR_program_92 (fun H locs hW => ?_)
                have ek : g_i (p_i S 2 2 x (nI n + 1)) 2 2 x = nI (n + 1) := by rw [x_g_i_p_i, if_pos ⟨rfl, rfl, rfl⟩]; exact nI_1 n
                refine s_aload_n (x := some x) hx hb dR_program_95 rfl (lv_at hl 2 rfl) ?_
                obtain ⟨b96, eb96, sb96⟩ := w_programs hWT hX
                refine s_getr hC hW gc_R iw_R 1 (by decide) uw_73 rfl hX (v := some b96) eb96 dR_program_96 ?_
                refine s_aload_n (x := some x) hx hb dR_program_99 rfl (lv_at hl 2 rfl) ?_
                refine s_geti hC hW gc_R iw_R 2 (by decide) uw_74 rfl hX (v := nI (n + 1)) ek dR_program_100 ?_
                refine s_new hC hW gc_P iw_P uw_18 uw_124 uw_5 gd_P (Nat.le_of_ble_eq_true rfl) (Nat.le_of_ble_eq_true rfl) dR_program_103 (fun q103 H f103 hW => ?_)
                have hxq : x ≠ q103 := fun z => by rw [← z] at f103; exact absurd (hX.symm.trans f103) (by simp)
                have ek2 : g_i (p_new (p_i S 2 2 x (nI n + 1)) 1 q103) 2 2 x = nI (n + 1) := by rw [x_g_i_new, if_neg hxq]; exact ek
                refine lv_dup hx hb dR_program_106 rfl ?_
                refine s_aload (x := rq56) hx hb dR_program_107 (lv_at hl 0 rfl) ?_
                refine s_aload_n (x := some x) hx hb dR_program_109 rfl (lv_at hl 2 rfl) ?_
                refine s_geti hC hW gc_R iw_R 2 (by decide) uw_74 rfl (sh_nO hX f103) (v := nI (n + 1)) ek2 dR_program_110 ?_
                refine lv_iload_n hx hb dR_program_113 rfl (lv_at hl 4 rfl) ?_
                refine lv_iload_n hx hb dR_program_114 rfl (lv_at hl 5 rfl) ?_
                refine s_callv hW (s_runI (n := 4) (As := [va_rf rq56, .int (nI (n + 1)), .int nm, .int mk]) (rest := [va_rf (some q103), .int (nI (n + 1)), va_rf (some b96)]) hC (c_P_init l G (p_new (p_i S 2 2 x ((nI n) + 1)) 1 q103) H.size q103 rq56 (nI (n + 1)) nm mk g_sh_new) uc_P_init uw_125 uw_126 uw_5 rfl rfl rfl (by decide +kernel) ⟨by decide, by decide⟩ (g_preS hW (.ref q103 :: [va_rf rq56, .int (nI (n + 1)), .int nm, .int mk])) rfl hl.1 rfl (Nat.le_of_ble_eq_true rfl) dR_program_115 ⟨Nat.le_of_ble_eq_true rfl, Nat.le_of_ble_eq_true rfl⟩) (fun S115 H locs hp115 hW => ?_)
                obtain ⟨h115, b115, hf115, hS115⟩ := hp115
                subst hS115
                refine k_aast (x := some q103) hC hW gc_P (sh_iP (o := rq56) (n := nI (n + 1)) (nm := nm) (mk := mk) (sh_nO sb96 f103) hf115) rfl rfl (by decide) (fun _ q => by cases q; exact (sh_iP (o := rq56) (n := nI (n + 1)) (nm := nm) (mk := mk) g_sh_new hf115)) (n + 1) rfl (by omega) dR_program_118 (fun H locs hW => ?_)
                refine s_aload_n (x := some x) hx hb dR_program_119 rfl (lv_at hl 2 rfl) ?_
                refine s_geti hC hW gc_R iw_R 2 (by decide) uw_74 rfl (sh_iP (o := rq56) (n := nI (n + 1)) (nm := nm) (mk := mk) (sh_nO hX f103) hf115) (v := nI (n + 1)) ek2 dR_program_120 ?_
                have ec : f_progR S x wi nm mk = 0 := by rw [f_progR, if_pos (Or.inl c_1), if_neg c_28, if_neg c_32, if_pos c_38, if_pos c_48, ← erq56, ← erq65]; simp only []; rw [en, if_pos c_80]
                exact s_iret hC hr hlocks rfl hW dR_program_123 (Or.inr ⟨ec, q103, h115, b115, f103, by rw [en]; exact hf115, by rw [en, nI_clamp (by omega), eb96, nI_1, ← erq56]; rfl, by rw [en]; exact (nI_1 n).symm⟩)
              · skip
                refine lv_iconst (v := (-1)) hx hb dR_program_83 (by decide) ?_
                refine W.widen (k := 3) (n := 41) (Nat.le_of_ble_eq_true rfl) (Nat.le_of_ble_eq_true rfl) ?_
                have ec : f_progR S x wi nm mk = -1 := by rw [f_progR, if_pos (Or.inl c_1), if_neg c_28, if_neg c_32, if_pos c_38, if_pos c_48, ← erq56, ← erq65]; simp only []; rw [en, if_neg c_80]
                exact s_iret hC hr hlocks rfl hW dR_program_84 (Or.inl ⟨by rw [ec]; decide, ec.symm, rfl⟩)
            · skip
              subst c_68
              have sb_68 := t_dw hWT hX _ erq65.symm
              refine lv_bipush (v := (-3)) hx hb dR_program_71 (by decide) ?_
              refine W.widen (k := 3) (n := 41) (Nat.le_of_ble_eq_true rfl) (Nat.le_of_ble_eq_true rfl) ?_
              have ec : f_progR S x wi nm mk = -3 := by rw [f_progR, if_pos (Or.inl c_1), if_neg c_28, if_neg c_32, if_pos c_38, if_pos c_48, ← erq56, ← erq65]
              exact s_iret hC hr hlocks rfl hW dR_program_73 (Or.inl ⟨by rw [ec]; decide, ec.symm, rfl⟩)
          · skip
            refine lv_bipush (v := (-4)) hx hb dR_program_51 (by decide) ?_
            refine W.widen (k := 3) (n := 41) (Nat.le_of_ble_eq_true rfl) (Nat.le_of_ble_eq_true rfl) ?_
            have ec : f_progR S x wi nm mk = -4 := by rw [f_progR, if_pos (Or.inl c_1), if_neg c_28, if_neg c_32, if_pos c_38, if_neg c_48]
            exact s_iret hC hr hlocks rfl hW dR_program_53 (Or.inl ⟨by rw [ec]; decide, ec.symm, rfl⟩)
        · skip
          refine lv_bipush (v := (-2)) hx hb dR_program_41 (by decide) ?_
          refine W.widen (k := 3) (n := 41) (Nat.le_of_ble_eq_true rfl) (Nat.le_of_ble_eq_true rfl) ?_
          have ec : f_progR S x wi nm mk = -2 := by rw [f_progR, if_pos (Or.inl c_1), if_neg c_28, if_neg c_32, if_neg c_38]
          exact s_iret hC hr hlocks rfl hW dR_program_43 (Or.inl ⟨by rw [ec]; decide, ec.symm, rfl⟩)
  · skip
    refine s_aload_n (x := some x) hx hb dR_program_4 rfl (lv_at hl 0 rfl) ?_
    refine lv_iload_n hx hb dR_program_5 rfl (lv_at hl 1 rfl) ?_
    refine s_callq hW (s_runV (n := 1) (As := [.int wi]) (rest := []) hC (c_R_programOf l G S s.heap.size x wi hWT hX) uc_R_programOf uw_113 uw_115 us_R_programOf uw_1 rfl rfl (by decide +kernel) ⟨by decide, by decide⟩ (g_preV hW gc_R hX [.int wi]) rfl hl.1 rfl (Nat.le_of_ble_eq_true rfl) dR_program_6 ⟨Nat.le_of_ble_eq_true rfl, Nat.le_of_ble_eq_true rfl⟩) (fun rq6 S6 H locs hp6 hW => ?_)
    obtain ⟨hs6, erq6⟩ := hp6
    replace hs6 := hs6.symm
    subst hs6
    refine s_ifnull (x := rq6) (tgt := 16) hx hb dR_program_9 (by decide) (fun c_9 => ?_) (fun b_9 c_9 => ?_)
    · skip
      subst c_9
      refine lv_iconst (v := 0) hx hb dR_program_16 (by decide) ?_
      refine lv_istore (lv' := [(4, .int 0), (0, va_rf (some x)), (1, .int wi), (2, .int nm), (3, .int mk)]) hx hb dR_program_17 hl (by decide) rfl (fun ls hl => ?_)
      refine lv_iload hx hb dR_program_19 (lv_at hl 0 rfl) ?_
      refine lv_if_eq (tgt := 41) hx hb dR_program_21 (by decide) (fun c_21 => ?_) (fun c => absurd rfl c)
      refine lv_bipush (v := (-2)) hx hb dR_program_41 (by decide) ?_
      refine W.widen (k := 3) (n := 41) (Nat.le_of_ble_eq_true rfl) (Nat.le_of_ble_eq_true rfl) ?_
      have ec : f_progR S x wi nm mk = -2 := by rw [f_progR, if_neg (fun z => z.elim c_1 (fun z => z erq6.symm))]
      exact s_iret hC hr hlocks rfl hW dR_program_43 (Or.inl ⟨by rw [ec]; decide, ec.symm, rfl⟩)
    · skip
      subst c_9
      have sb_9 := t_pOf hWT hX _ erq6.symm
      refine lv_iconst (v := 1) hx hb dR_program_12 (by decide) ?_
      refine lv_goto (tgt := 17) hx hb dR_program_13 (by decide) ?_
      refine lv_istore (lv' := [(4, .int 1), (0, va_rf (some x)), (1, .int wi), (2, .int nm), (3, .int mk)]) hx hb dR_program_17 hl (by decide) rfl (fun ls hl => ?_)
      refine lv_iload hx hb dR_program_19 (lv_at hl 0 rfl) ?_
      refine lv_if_eq (tgt := 41) hx hb dR_program_21 (by decide) (fun c => absurd c (by decide)) (fun c_21 => ?_)
      refine lv_iload_n hx hb dR_program_24 rfl (lv_at hl 3 rfl) ?_
      refine s_calli hW (s_runS (n := 1) (As := [.int nm]) (rest := []) hC (c_R_isName l G S H.size nm) uc_R_isName uw_117 uw_118 uw_1 rfl rfl (by decide +kernel) ⟨by decide, by decide⟩ (g_preS hW [.int nm]) rfl hl.1 rfl (Nat.le_of_ble_eq_true rfl) dR_program_25 ⟨Nat.le_of_ble_eq_true rfl, Nat.le_of_ble_eq_true rfl⟩) (fun q25 S25 H locs hp25 hW => ?_)
      obtain ⟨hs25, rfl⟩ := hp25
      replace hs25 := hs25.symm
      subst hs25
      refine lv_if_eq (tgt := 41) hx hb dR_program_28 (by decide) (fun c_28 => ?_) (fun c_28 => ?_)
      · skip
        refine lv_bipush (v := (-2)) hx hb dR_program_41 (by decide) ?_
        refine W.widen (k := 3) (n := 41) (Nat.le_of_ble_eq_true rfl) (Nat.le_of_ble_eq_true rfl) ?_
        have ec : f_progR S x wi nm mk = -2 := by rw [f_progR, if_pos (Or.inr (by rw [← erq6]; simp)), if_pos c_28]
        exact s_iret hC hr hlocks rfl hW dR_program_43 (Or.inl ⟨by rw [ec]; decide, ec.symm, rfl⟩)
      · skip
        refine lv_iload_n hx hb dR_program_31 rfl (lv_at hl 4 rfl) ?_
        refine lv_if_lt (tgt := 41) hx hb dR_program_32 (by decide) (fun c_32 => ?_) (fun c_32 => ?_)
        · skip
          refine lv_bipush (v := (-2)) hx hb dR_program_41 (by decide) ?_
          refine W.widen (k := 3) (n := 41) (Nat.le_of_ble_eq_true rfl) (Nat.le_of_ble_eq_true rfl) ?_
          have ec : f_progR S x wi nm mk = -2 := by rw [f_progR, if_pos (Or.inr (by rw [← erq6]; simp)), if_neg c_28, if_pos c_32]
          exact s_iret hC hr hlocks rfl hW dR_program_43 (Or.inl ⟨by rw [ec]; decide, ec.symm, rfl⟩)
        · skip
          refine lv_iload_n hx hb dR_program_35 rfl (lv_at hl 4 rfl) ?_
          refine lv_bipush (v := 15) hx hb dR_program_36 (by decide) ?_
          refine lv_icmp_le (tgt := 44) hx hb dR_program_38 (by decide) (fun c_38 => ?_) (fun c_38 => ?_)
          · skip
            refine s_aload_n (x := some x) hx hb dR_program_44 rfl (lv_at hl 1 rfl) ?_
            refine s_geti hC hW gc_R iw_R 9 (by decide) uw_81 rfl hX rfl dR_program_45 ?_
            refine lv_if_le (tgt := 54) hx hb dR_program_48 (by decide) (fun c_48 => ?_) (fun c_48 => ?_)
            · skip
              refine s_aload_n (x := some x) hx hb dR_program_54 rfl (lv_at hl 1 rfl) ?_
              refine lv_iload_n hx hb dR_program_55 rfl (lv_at hl 2 rfl) ?_
              refine s_callq hW (s_runV (n := 1) (As := [.int wi]) (rest := []) hC (c_R_programOf l G S H.size x wi hWT hX) uc_R_programOf uw_113 uw_115 us_R_programOf uw_1 rfl rfl (by decide +kernel) ⟨by decide, by decide⟩ (g_preV hW gc_R hX [.int wi]) rfl hl.1 rfl (Nat.le_of_ble_eq_true rfl) dR_program_56 ⟨Nat.le_of_ble_eq_true rfl, Nat.le_of_ble_eq_true rfl⟩) (fun rq56 S56 H locs hp56 hW => ?_)
              obtain ⟨hs56, erq56⟩ := hp56
              replace hs56 := hs56.symm
              subst hs56
              refine s_astore (x := rq56) (lv' := [(5, va_rf rq56), (4, .int 1), (0, va_rf (some x)), (1, .int wi), (2, .int nm), (3, .int mk)]) hx hb dR_program_59 hl (by decide) rfl (fun ls hl => ?_)
              refine s_aload_n (x := some x) hx hb dR_program_61 rfl (lv_at hl 2 rfl) ?_
              refine s_aload (x := rq56) hx hb dR_program_62 (lv_at hl 0 rfl) ?_
              refine lv_iload_n hx hb dR_program_64 rfl (lv_at hl 4 rfl) ?_
              refine s_callq hW (s_runV (n := 2) (As := [va_rf rq56, .int nm]) (rest := []) hC (c_R_directlyWithin l G S H.size x rq56 nm hWT hX) uc_R_directlyWithin uw_120 uw_122 us_R_directlyWithin uw_1 rfl rfl (by decide +kernel) ⟨by decide, by decide⟩ (g_preV hW gc_R hX [va_rf rq56, .int nm]) rfl hl.1 rfl (Nat.le_of_ble_eq_true rfl) dR_program_65 ⟨Nat.le_of_ble_eq_true rfl, Nat.le_of_ble_eq_true rfl⟩) (fun rq65 S65 H locs hp65 hW => ?_)
              obtain ⟨hs65, erq65⟩ := hp65
              replace hs65 := hs65.symm
              subst hs65
              refine s_ifnull (x := rq65) (tgt := 74) hx hb dR_program_68 (by decide) (fun c_68 => ?_) (fun b_68 c_68 => ?_)
              · skip
                subst c_68
                obtain ⟨n, hn, en⟩ := w_programCount hWT hX
                refine s_aload_n (x := some x) hx hb dR_program_74 rfl (lv_at hl 2 rfl) ?_
                refine s_geti hC hW gc_R iw_R 2 (by decide) uw_74 rfl hX (v := nI n) en dR_program_75 ?_
                refine lv_bipush (v := 60) hx hb dR_program_78 (by decide) ?_
                refine lv_icmp_lt (tgt := 85) hx hb dR_program_80 (by decide) (fun c_80 => ?_) (fun c_80 => ?_)
                · skip
                  have hn2 : n < 60 := (nI_ltI (b := 60) (by omega) (by omega)).mp c_80
                  refine s_aload_n (x := some x) hx hb dR_program_85 rfl (lv_at hl 2 rfl) ?_
                  refine lv_dup hx hb dR_program_86 rfl ?_
                  refine s_geti hC hW gc_R iw_R 2 (by decide) uw_74 rfl hX (v := nI n) en dR_program_87 ?_
                  refine lv_iconst (v := 1) hx hb dR_program_90 (by decide) ?_
                  refine lv_iadd hx hb dR_program_91 ?_
                  refine s_puti hC hW gc_R iw_R 2 (by decide) uw_74 (Or.inl rfl) rfl rfl rfl hX dR_program_92 (fun H locs hW => ?_)
                  have ek : g_i (p_i S 2 2 x (nI n + 1)) 2 2 x = nI (n + 1) := by rw [x_g_i_p_i, if_pos ⟨rfl, rfl, rfl⟩]; exact nI_1 n
                  refine s_aload_n (x := some x) hx hb dR_program_95 rfl (lv_at hl 2 rfl) ?_
                  obtain ⟨b96, eb96, sb96⟩ := w_programs hWT hX
                  refine s_getr hC hW gc_R iw_R 1 (by decide) uw_73 rfl hX (v := some b96) eb96 dR_program_96 ?_
                  refine s_aload_n (x := some x) hx hb dR_program_99 rfl (lv_at hl 2 rfl) ?_
                  refine s_geti hC hW gc_R iw_R 2 (by decide) uw_74 rfl hX (v := nI (n + 1)) ek dR_program_100 ?_
                  refine s_new hC hW gc_P iw_P uw_18 uw_124 uw_5 gd_P (Nat.le_of_ble_eq_true rfl) (Nat.le_of_ble_eq_true rfl) dR_program_103 (fun q103 H f103 hW => ?_)
                  have hxq : x ≠ q103 := fun z => by rw [← z] at f103; exact absurd (hX.symm.trans f103) (by simp)
                  have ek2 : g_i (p_new (p_i S 2 2 x (nI n + 1)) 1 q103) 2 2 x = nI (n + 1) := by rw [x_g_i_new, if_neg hxq]; exact ek
                  refine lv_dup hx hb dR_program_106 rfl ?_
                  refine s_aload (x := rq56) hx hb dR_program_107 (lv_at hl 0 rfl) ?_
                  refine s_aload_n (x := some x) hx hb dR_program_109 rfl (lv_at hl 2 rfl) ?_
                  refine s_geti hC hW gc_R iw_R 2 (by decide) uw_74 rfl (sh_nO hX f103) (v := nI (n + 1)) ek2 dR_program_110 ?_
                  refine lv_iload_n hx hb dR_program_113 rfl (lv_at hl 4 rfl) ?_
                  refine lv_iload_n hx hb dR_program_114 rfl (lv_at hl 5 rfl) ?_
                  refine s_callv hW (s_runI (n := 4) (As := [va_rf rq56, .int (nI (n + 1)), .int nm, .int mk]) (rest := [va_rf (some q103), .int (nI (n + 1)), va_rf (some b96)]) hC (c_P_init l G (p_new (p_i S 2 2 x ((nI n) + 1)) 1 q103) H.size q103 rq56 (nI (n + 1)) nm mk g_sh_new) uc_P_init uw_125 uw_126 uw_5 rfl rfl rfl (by decide +kernel) ⟨by decide, by decide⟩ (g_preS hW (.ref q103 :: [va_rf rq56, .int (nI (n + 1)), .int nm, .int mk])) rfl hl.1 rfl (Nat.le_of_ble_eq_true rfl) dR_program_115 ⟨Nat.le_of_ble_eq_true rfl, Nat.le_of_ble_eq_true rfl⟩) (fun S115 H locs hp115 hW => ?_)
                  obtain ⟨h115, b115, hf115, hS115⟩ := hp115
                  subst hS115
                  refine k_aast (x := some q103) hC hW gc_P (sh_iP (o := rq56) (n := nI (n + 1)) (nm := nm) (mk := mk) (sh_nO sb96 f103) hf115) rfl rfl (by decide) (fun _ q => by cases q; exact (sh_iP (o := rq56) (n := nI (n + 1)) (nm := nm) (mk := mk) g_sh_new hf115)) (n + 1) rfl (by omega) dR_program_118 (fun H locs hW => ?_)
                  refine s_aload_n (x := some x) hx hb dR_program_119 rfl (lv_at hl 2 rfl) ?_
                  refine s_geti hC hW gc_R iw_R 2 (by decide) uw_74 rfl (sh_iP (o := rq56) (n := nI (n + 1)) (nm := nm) (mk := mk) (sh_nO hX f103) hf115) (v := nI (n + 1)) ek2 dR_program_120 ?_
                  have ec : f_progR S x wi nm mk = 0 := by rw [f_progR, if_pos (Or.inr (by rw [← erq6]; simp)), if_neg c_28, if_neg c_32, if_pos c_38, if_pos c_48, ← erq56, ← erq65]; simp only []; rw [en, if_pos c_80]
                  exact s_iret hC hr hlocks rfl hW dR_program_123 (Or.inr ⟨ec, q103, h115, b115, f103, by rw [en]; exact hf115, by rw [en, nI_clamp (by omega), eb96, nI_1, ← erq56]; rfl, by rw [en]; exact (nI_1 n).symm⟩)
                · skip
                  refine lv_iconst (v := (-1)) hx hb dR_program_83 (by decide) ?_
                  refine W.widen (k := 3) (n := 41) (Nat.le_of_ble_eq_true rfl) (Nat.le_of_ble_eq_true rfl) ?_
                  have ec : f_progR S x wi nm mk = -1 := by rw [f_progR, if_pos (Or.inr (by rw [← erq6]; simp)), if_neg c_28, if_neg c_32, if_pos c_38, if_pos c_48, ← erq56, ← erq65]; simp only []; rw [en, if_neg c_80]
                  exact s_iret hC hr hlocks rfl hW dR_program_84 (Or.inl ⟨by rw [ec]; decide, ec.symm, rfl⟩)
              · skip
                subst c_68
                have sb_68 := t_dw hWT hX _ erq65.symm
                refine lv_bipush (v := (-3)) hx hb dR_program_71 (by decide) ?_
                refine W.widen (k := 3) (n := 41) (Nat.le_of_ble_eq_true rfl) (Nat.le_of_ble_eq_true rfl) ?_
                have ec : f_progR S x wi nm mk = -3 := by rw [f_progR, if_pos (Or.inr (by rw [← erq6]; simp)), if_neg c_28, if_neg c_32, if_pos c_38, if_pos c_48, ← erq56, ← erq65]
                exact s_iret hC hr hlocks rfl hW dR_program_73 (Or.inl ⟨by rw [ec]; decide, ec.symm, rfl⟩)
            · skip
              refine lv_bipush (v := (-4)) hx hb dR_program_51 (by decide) ?_
              refine W.widen (k := 3) (n := 41) (Nat.le_of_ble_eq_true rfl) (Nat.le_of_ble_eq_true rfl) ?_
              have ec : f_progR S x wi nm mk = -4 := by rw [f_progR, if_pos (Or.inr (by rw [← erq6]; simp)), if_neg c_28, if_neg c_32, if_pos c_38, if_neg c_48]
              exact s_iret hC hr hlocks rfl hW dR_program_53 (Or.inl ⟨by rw [ec]; decide, ec.symm, rfl⟩)
          · skip
            refine lv_bipush (v := (-2)) hx hb dR_program_41 (by decide) ?_
            refine W.widen (k := 3) (n := 41) (Nat.le_of_ble_eq_true rfl) (Nat.le_of_ble_eq_true rfl) ?_
            have ec : f_progR S x wi nm mk = -2 := by rw [f_progR, if_pos (Or.inr (by rw [← erq6]; simp)), if_neg c_28, if_neg c_32, if_neg c_38]
            exact s_iret hC hr hlocks rfl hW dR_program_43 (Or.inl ⟨by rw [ec]; decide, ec.symm, rfl⟩)
end
section
/-! CallRows(depth) -/
def f_fill (S : gs_S) (ex : Nat) : Nat → gs_S
  | 0 => S
  | k + 1 => p_ai (f_fill S ex k) 3 ex k (-1)
theorem f_fill_sh (S : gs_S) (ex k b : Nat) : g_sh (f_fill S ex k) b = g_sh S b := by induction k with
  | zero => rfl
  | succ k ih => exact ih
theorem f_fill_r (S : gs_S) (ex k c j b : Nat) : g_r (f_fill S ex k) c j b = g_r S c j b := by induction k with
  | zero => rfl
  | succ k ih => exact ih
def f_depth (d : Int32) : Int32 := if 0 < (if 65536 < d then 65536 else d) then (if 65536 < d then 65536 else d) else 0
def i_R1 (S : gs_S) (x pa : Nat) : gs_S := p_r (p_newA S 0 61 pa) 2 1 x (some pa)
def i_R2 (S : gs_S) (x pa ow : Nat) : gs_S := p_r (p_newA (i_R1 S x pa) 1 200 ow) 2 3 x (some ow)
def i_R3 (S : gs_S) (x pa ow fv : Nat) : gs_S := p_r (p_newA (i_R2 S x pa ow) 2 200 fv) 2 4 x (some fv)
def i_R4 (S : gs_S) (x pa ow fv ex : Nat) : gs_S := p_r (p_newA (i_R3 S x pa ow fv) 3 100 ex) 2 6 x (some ex)
def i_R6 (S : gs_S) (x pa ow fv ex q h pl bb va : Nat) (d : Int32) : gs_S := p_i (p_r (p_r (n_L (i_R4 S x pa ow fv ex) q none h pl bb va) 2 7 x (some q)) 2 8 x (some q)) 2 0 x (f_depth d)
def i_Rf (S : gs_S) (x pa ow fv ex q h pl bb va : Nat) : Prop := g_sh S pa = none ∧ g_sh (i_R1 S x pa) ow = none ∧ g_sh (i_R2 S x pa ow) fv = none ∧ g_sh (i_R3 S x pa ow fv) ex = none ∧ g_sh (i_R4 S x pa ow fv ex) q = none ∧ i_Lf (p_new (i_R4 S x pa ow fv ex) 0 q) q h pl bb va
def i_R (S : gs_S) (x pa ow fv ex q h pl bb va : Nat) (d : Int32) : gs_S := f_fill (i_R6 S x pa ow fv ex q h pl bb va d) ex 100

set_option maxHeartbeats 4000000 in
set_option maxRecDepth 100000 in
theorem lp_Rinit (l : Launch) (G : gs_G) (S : gs_S) (T : gs_S) (x ex : Nat) (d : Int32) (P : gs_S → Prop) (hP : P (f_fill T ex 100)) (hX : g_sh T x = some (.inl 2)) (eex : g_r T 2 6 x = some ex) (sex : g_sh T ex = some (.inr (3, 100))) {p : Program} {e : Env} {s : State} {m : MethodId} {below : List Frame} {meth : Method} {c : Code} (hC : CallFix p m c cR_init 3 s #[va_rf (some x), Value.int d] gU yR_init.cls) (hr : meth.sig.returnType = none) (hlocks : meth.locks = false) :
    ∀ (k : Nat) (i : Nat), i + k = 100 → ∀ (ls : Array Slot), lv_has ls 3 [(2, .int (nI i)), (0, va_rf (some x)), (1, .int d)] → ∀ (H : Heap) (locs : List Loc), g_W G (g_A S s.heap.size) s (f_fill T ex i) H locs → W p l e { frames := 2, cells := 9, slots := 834, locals := 33 } s m #[va_rf (some x), Value.int d] below meth c H locs 9 834 (MQ below (g_Qv G S s.heap.size (P)) #[va_rf (some x), Value.int d] s 9 834 (g_A S s.heap.size)) (F0 m 76 ls []) := by
  obtain ⟨hx, hb, hml, hown, hts⟩ := id hC
  intro k
  induction k with
  | zero =>
    intro i  hi ls hl H locs hW
    refine lv_iload_n hx hb dR_init_76 rfl (lv_at hl 0 rfl) ?_
    refine lv_bipush (v := 100) hx hb dR_init_77 (by decide) ?_
    refine lv_icmp_ge (tgt := 95) hx hb dR_init_79 (by decide) (fun c_79 => ?_) (fun c => absurd ((nI_leI (a := 100) (by omega) (by omega)).mpr (by omega)) c)
    obtain rfl : i = 100 := by omega
    exact s_vret hC hr hlocks hW dR_init_95 hP
  | succ k ih =>
    intro i  hi ls hl H locs hW
    refine lv_iload_n hx hb dR_init_76 rfl (lv_at hl 0 rfl) ?_
    refine lv_bipush (v := 100) hx hb dR_init_77 (by decide) ?_
    refine lv_icmp_ge (tgt := 95) hx hb dR_init_79 (by decide) (fun c => absurd ((nI_leI (a := 100) (by omega) (by omega)).mp c) (by omega)) (fun c_79 => ?_)
    refine s_aload_n (x := some x) hx hb dR_init_82 rfl (lv_at hl 1 rfl) ?_
    refine s_getr hC hW gc_R iw_R 6 (by decide) uw_78 rfl ((f_fill_sh _ _ _ _).trans hX) (v := some ex) ((f_fill_r _ _ _ _ _ _).trans eex) dR_init_83 ?_
    refine lv_iload_n hx hb dR_init_86 rfl (lv_at hl 0 rfl) ?_
    refine lv_iconst (v := (-1)) hx hb dR_init_87 (by decide) ?_
    refine k_iast hC hW ((f_fill_sh _ _ _ _).trans sex) rfl rfl (by decide) i rfl (by omega) dR_init_88 (fun H locs hW => ?_)
    refine lv_iinc (v := nI (i + 1)) (lv' := [(2, .int (nI (i + 1))), (0, va_rf (some x)), (1, .int d)]) hx hb dR_init_89 hl (k := 0) rfl (nI_1 _) (by decide) rfl (fun ls hl => ?_)
    refine lv_goto (tgt := 76) hx hb dR_init_92 (by decide) ?_
    exact ih (i + 1) (by omega) ls hl H locs hW

set_option maxHeartbeats 4000000 in
set_option maxRecDepth 100000 in
theorem c_R_init (l : Launch) (G : gs_G) (S : gs_S) (sz : Nat) (x : Nat) (d : Int32) (hX : g_sh S x = some (.inl 2)) : Met l yR_init (kR_init :: gU) { frames := 2, cells := 9, slots := 834, locals := 33 } (g_Pc G S sz [va_rf (some x), .int d]) (g_Qv G S sz (fun S' => ∃ pa ow fv ex q h pl bb va : Nat, i_Rf S x pa ow fv ex q h pl bb va ∧ S' = i_R S x pa ow fv ex q h pl bb va d)) 9 834 (g_A S sz) := by
  refine s_head (by decide) (Nat.le_of_ble_eq_true rfl) ?_
  intro p e s m below meth c ls hsz hC hr hlocks hnm hl hW
  subst hsz
  obtain ⟨hx, hb, hml, hown, hts⟩ := id hC
  have hl : lv_has ls 3 [(0, va_rf (some x)), (1, .int d)] := hl
  refine s_aload_n (x := some x) hx hb dR_init_0 rfl (lv_at hl 0 rfl) ?_
  refine W.objInit hx hb hown (hts _ uw_15) (hts _ uw_16) (hts _ uw_17) rfl (by rw [hml]; exact hl.1) rfl dR_init_1 (Nat.le_of_ble_eq_true rfl) (Nat.le_of_ble_eq_true rfl) ?_
  refine W.eq (g2 := F0 m 4 ls []) rfl ?_
  refine s_aload_n (x := some x) hx hb dR_init_4 rfl (lv_at hl 0 rfl) ?_
  refine lv_bipush (v := 61) hx hb dR_init_5 (by decide) ?_
  refine s_newQ (n := 61) hC hW 0 rfl rfl uw_18 hW.1.2.1 (by decide) (by decide) (by decide) (Nat.le_of_ble_eq_true rfl) (Nat.le_of_ble_eq_true rfl) dR_init_7 (fun q7 H f7 hW => ?_)
  refine s_putr (v := some q7) hC hW gc_R iw_R 1 (by decide) uw_73 (Or.inr ⟨rfl, hnm, rfl⟩) (g_nra _) (g_fta _) rfl (sh_nA hX f7) dR_init_10 (fun H locs hW => ?_)
  refine s_aload_n (x := some x) hx hb dR_init_13 rfl (lv_at hl 0 rfl) ?_
  refine lv_sipush (v := 200) hx hb dR_init_14 (by decide) ?_
  refine s_newQ (n := 200) hC hW 1 rfl rfl uw_18 hW.1.2.1 (by decide) (by decide) (by decide) (Nat.le_of_ble_eq_true rfl) (Nat.le_of_ble_eq_true rfl) dR_init_17 (fun q17 H f17 hW => ?_)
  refine s_putr (v := some q17) hC hW gc_R iw_R 3 (by decide) uw_75 (Or.inr ⟨rfl, hnm, rfl⟩) (g_nra _) (g_fta _) rfl (sh_nA (sh_nA hX f7) f17) dR_init_20 (fun H locs hW => ?_)
  refine s_aload_n (x := some x) hx hb dR_init_23 rfl (lv_at hl 0 rfl) ?_
  refine lv_sipush (v := 200) hx hb dR_init_24 (by decide) ?_
  refine s_newL (n := 200) hC hW 2 rfl rfl uw_63 (by decide) (by decide) (by decide) (Nat.le_of_ble_eq_true rfl) (Nat.le_of_ble_eq_true rfl) dR_init_27 (fun q27 H f27 hW => ?_)
  refine s_putr (v := some q27) hC hW gc_R iw_R 4 (by decide) uw_76 (Or.inr ⟨rfl, hnm, rfl⟩) (g_nra _) (g_fta _) rfl (sh_nA (sh_nA (sh_nA hX f7) f17) f27) dR_init_29 (fun H locs hW => ?_)
  refine s_aload_n (x := some x) hx hb dR_init_32 rfl (lv_at hl 0 rfl) ?_
  refine lv_bipush (v := 100) hx hb dR_init_33 (by decide) ?_
  refine s_newI (n := 100) hC hW 3 rfl rfl uw_64 (by decide) (by decide) (by decide) (Nat.le_of_ble_eq_true rfl) (Nat.le_of_ble_eq_true rfl) dR_init_35 (fun q35 H f35 hW => ?_)
  refine s_putr (v := some q35) hC hW gc_R iw_R 6 (by decide) uw_78 (Or.inr ⟨rfl, hnm, rfl⟩) (g_nra _) (g_fta _) rfl (sh_nA (sh_nA (sh_nA (sh_nA hX f7) f17) f27) f35) dR_init_37 (fun H locs hW => ?_)
  refine s_aload_n (x := some x) hx hb dR_init_40 rfl (lv_at hl 0 rfl) ?_
  refine s_new hC hW gc_L iw_L uw_20 uw_21 uw_2 gd_L (Nat.le_of_ble_eq_true rfl) (Nat.le_of_ble_eq_true rfl) dR_init_41 (fun q41 H f41 hW => ?_)
  refine lv_dup hx hb dR_init_44 rfl ?_
  refine s_null hx hb dR_init_45 ?_
  refine s_callv hW (s_runI (n := 1) (As := [va_rf none]) (rest := [va_rf (some q41), va_rf (some x)]) hC (c_L_init l G (p_new (p_r (p_newA (p_r (p_newA (p_r (p_newA (p_r (p_newA S 0 61 q7) 2 1 x (some q7)) 1 200 q17) 2 3 x (some q17)) 2 200 q27) 2 4 x (some q27)) 3 100 q35) 2 6 x (some q35)) 0 q41) H.size q41 none g_sh_new) uc_L_init uw_22 uw_23 uw_2 rfl rfl rfl (by decide +kernel) ⟨by decide, by decide⟩ (g_preS hW (.ref q41 :: [va_rf none])) rfl hl.1 rfl (Nat.le_of_ble_eq_true rfl) dR_init_46 ⟨Nat.le_of_ble_eq_true rfl, Nat.le_of_ble_eq_true rfl⟩) (fun S46 H locs hp46 hW => ?_)
  obtain ⟨h46, pl46, bb46, va46, hf46, hS46⟩ := hp46
  subst hS46
  refine s_putr (v := some q41) hC hW gc_R iw_R 7 (by decide) uw_79 (Or.inr ⟨rfl, hnm, rfl⟩) (g_nr _) (g_ft _) rfl (sh_iL (be := none) (sh_nO (sh_nA (sh_nA (sh_nA (sh_nA hX f7) f17) f27) f35) f41) hf46) dR_init_49 (fun H locs hW => ?_)
  refine s_aload_n (x := some x) hx hb dR_init_52 rfl (lv_at hl 0 rfl) ?_
  refine s_aload_n (x := some x) hx hb dR_init_53 rfl (lv_at hl 0 rfl) ?_
  refine s_getr hC hW gc_R iw_R 7 (by decide) uw_79 rfl (sh_iL (be := none) (sh_nO (sh_nA (sh_nA (sh_nA (sh_nA hX f7) f17) f27) f35) f41) hf46) (v := some q41) (by simp [x_gs]) dR_init_54 ?_
  refine s_putr (v := some q41) hC hW gc_R iw_R 8 (by decide) uw_80 (Or.inl rfl) (g_nr _) (g_ft _) rfl (sh_iL (be := none) (sh_nO (sh_nA (sh_nA (sh_nA (sh_nA hX f7) f17) f27) f35) f41) hf46) dR_init_57 (fun H locs hW => ?_)
  refine s_aload_n (x := some x) hx hb dR_init_60 rfl (lv_at hl 0 rfl) ?_
  refine lv_iconst (v := 0) hx hb dR_init_61 (by decide) ?_
  refine lv_iload_n hx hb dR_init_62 rfl (lv_at hl 1 rfl) ?_
  refine lv_ldc (v := 65536) hx hb hown (hts _ uw_65) dR_init_63 ?_
  refine va_mmin (x := d) (y := 65536) hx hb (hml.trans hl.1.symm) hown (hts _ uw_66) (hts _ uw_67) (hts _ uw_3) (hts _ uw_68) (Nat.le_of_ble_eq_true rfl) (Nat.le_of_ble_eq_true rfl) (Nat.le_of_ble_eq_true rfl) (Nat.le_of_ble_eq_true rfl) dR_init_65 ?_
  refine va_mmax (x := 0) (y := (if 65536 < d then 65536 else d)) hx hb (hml.trans hl.1.symm) hown (hts _ uw_69) (hts _ uw_70) (hts _ uw_3) (hts _ uw_71) (Nat.le_of_ble_eq_true rfl) (Nat.le_of_ble_eq_true rfl) (Nat.le_of_ble_eq_true rfl) (Nat.le_of_ble_eq_true rfl) dR_init_68 ?_
  refine s_puti hC hW gc_R iw_R 0 (by decide) uw_72 (Or.inr ⟨rfl, hnm, rfl⟩) rfl rfl rfl (sh_iL (be := none) (sh_nO (sh_nA (sh_nA (sh_nA (sh_nA hX f7) f17) f27) f35) f41) hf46) dR_init_71 (fun H locs hW => ?_)
  refine lv_iconst (v := 0) hx hb dR_init_74 (by decide) ?_
  refine lv_istore_n (lv' := [(2, .int 0), (0, va_rf (some x)), (1, .int d)]) hx hb dR_init_75 rfl hl (by decide) rfl (fun ls hl => ?_)
  exact lp_Rinit l G S (i_R6 S x q7 q17 q27 q35 q41 h46 pl46 bb46 va46 d) x q35 d _ ⟨q7, q17, q27, q35, q41, h46, pl46, bb46, va46, ⟨f7, f17, f27, f35, f41, hf46⟩, rfl⟩ (sh_iL (be := none) (sh_nO (sh_nA (sh_nA (sh_nA (sh_nA hX f7) f17) f27) f35) f41) hf46) (by rw [show g_r (i_R6 S x q7 q17 q27 q35 q41 h46 pl46 bb46 va46 d) 2 6 x = g_r (n_L (i_R4 S x q7 q17 q27 q35) q41 none h46 pl46 bb46 va46) 2 6 x from rfl, n_L_r 2 6 (fun z => by rw [← z] at f41; exact absurd ((sh_nA (S := i_R3 S x q7 q17 q27) (sh_nA (S := i_R2 S x q7 q17) (sh_nA (S := i_R1 S x q7) (sh_nA hX f7) f17) f27) f35).symm.trans f41) (by simp))]; simp [i_R4, x_gs]) (sh_iL (be := none) (sh_nO g_sh_newA f41) hf46) hC hr hlocks 100 0 (by omega) ls hl _ _ hW
end
section
/-! WELL-TYPED, the reference: its arrays, and the ranges of its numbers -/
def m_rg (r i : Nat) (v : Int32) : Prop := match r with
  | 10 => ∃ w : Nat, v = nI w ∧ w ≤ 60 ∧ (w < i ∨ w = 0)
  | 13 => ∃ w : Nat, v = nI w ∧ w ≤ 16
  | 16 => ∃ w : Nat, v = nI w ∧ w ≤ 60
  | 17 => ∃ w : Nat, v = nI w ∧ w < 200
  | 23 => ∃ w : Nat, v = nI w ∧ w ≤ 60
  | 24 => ∃ w : Nat, v = nI w ∧ w ≤ 59800
  | 25 => ∃ w : Nat, v = nI w ∧ w ≤ 60000
  | 26 => v = -1 ∨ ∃ w : Nat, v = nI w ∧ w < 60000
  | 27 => v = -1 ∨ ∃ w : Nat, v = nI w ∧ w < 60000
  | _ => True
def mt_Y (S : gs_S) : Prop := ∀ y : Nat, g_sh S y = some (.inl 3) → t_a S 10 61 (g_r S 3 2 y) ∧ t_a S 11 61 (g_r S 3 3 y) ∧ t_a S 12 61 (g_r S 3 4 y) ∧ t_a S 13 61 (g_r S 3 5 y) ∧ t_a S 14 61 (g_r S 3 6 y) ∧ t_a S 15 61 (g_r S 3 7 y) ∧ t_a S 16 200 (g_r S 3 9 y) ∧ t_a S 17 200 (g_r S 3 10 y) ∧ t_a S 18 200 (g_r S 3 11 y) ∧ t_a S 19 200 (g_r S 3 12 y) ∧ t_a S 20 976 (g_r S 3 14 y) ∧ t_a S 21 976 (g_r S 3 15 y) ∧ t_a S 22 60000 (g_r S 3 16 y) ∧ t_a S 23 600 (g_r S 3 18 y) ∧ t_a S 24 600 (g_r S 3 19 y) ∧ t_a S 25 600 (g_r S 3 20 y) ∧ t_a S 26 9600 (g_r S 3 21 y) ∧ t_a S 27 16 (g_r S 3 26 y) ∧ t_a S 28 16 (g_r S 3 27 y) ∧ (∃ n : Nat, n ≤ 60 ∧ g_i S 3 8 y = nI n) ∧ (∃ n : Nat, n ≤ 200 ∧ g_i S 3 13 y = nI n) ∧ (∃ n : Nat, n ≤ 256 ∧ g_i S 3 22 y = nI n) ∧ (∃ n : Nat, n ≤ 60 ∧ g_i S 3 23 y = nI n) ∧ (∃ n : Nat, n ≤ 16 ∧ g_i S 3 24 y = nI n) ∧ (∃ n : Nat, n ≤ 60000 ∧ g_i S 3 17 y = nI n) ∧ (∃ n : Nat, n ≤ 60000 ∧ g_i S 3 25 y = nI n)
def mt_A (S : gs_S) : Prop := ∀ a r n : Nat, g_sh S a = some (.inr (r, n)) → 10 ≤ r → ∀ i : Nat, i < n → m_rg r i (g_ai S r a i)
def m_t (S : gs_S) : Prop := mt_Y S ∧ mt_A S
theorem w_m_within {S : gs_S} {y : Nat} (h : m_t S) (hy : g_sh S y = some (.inl 3)) : t_a S 10 61 (g_r S 3 2 y) := (h.1 y hy).1
theorem w_m_names {S : gs_S} {y : Nat} (h : m_t S) (hy : g_sh S y = some (.inl 3)) : t_a S 11 61 (g_r S 3 3 y) := (h.1 y hy).2.1
theorem w_m_marks {S : gs_S} {y : Nat} (h : m_t S) (hy : g_sh S y = some (.inl 3)) : t_a S 12 61 (g_r S 3 4 y) := (h.1 y hy).2.2.1
theorem w_m_manyFormals {S : gs_S} {y : Nat} (h : m_t S) (hy : g_sh S y = some (.inl 3)) : t_a S 13 61 (g_r S 3 5 y) := (h.1 y hy).2.2.2.1
theorem w_m_activeTimes {S : gs_S} {y : Nat} (h : m_t S) (hy : g_sh S y = some (.inl 3)) : t_a S 14 61 (g_r S 3 6 y) := (h.1 y hy).2.2.2.2.1
theorem w_m_data {S : gs_S} {y : Nat} (h : m_t S) (hy : g_sh S y = some (.inl 3)) : t_a S 15 61 (g_r S 3 7 y) := (h.1 y hy).2.2.2.2.2.1
theorem w_m_owner {S : gs_S} {y : Nat} (h : m_t S) (hy : g_sh S y = some (.inl 3)) : t_a S 16 200 (g_r S 3 9 y) := (h.1 y hy).2.2.2.2.2.2.1
theorem w_m_rank {S : gs_S} {y : Nat} (h : m_t S) (hy : g_sh S y = some (.inl 3)) : t_a S 17 200 (g_r S 3 10 y) := (h.1 y hy).2.2.2.2.2.2.2.1
theorem w_m_external {S : gs_S} {y : Nat} (h : m_t S) (hy : g_sh S y = some (.inl 3)) : t_a S 18 200 (g_r S 3 11 y) := (h.1 y hy).2.2.2.2.2.2.2.2.1
theorem w_m_first {S : gs_S} {y : Nat} (h : m_t S) (hy : g_sh S y = some (.inl 3)) : t_a S 19 200 (g_r S 3 12 y) := (h.1 y hy).2.2.2.2.2.2.2.2.2.1
theorem w_m_how {S : gs_S} {y : Nat} (h : m_t S) (hy : g_sh S y = some (.inl 3)) : t_a S 20 976 (g_r S 3 14 y) := (h.1 y hy).2.2.2.2.2.2.2.2.2.2.1
theorem w_m_bytes {S : gs_S} {y : Nat} (h : m_t S) (hy : g_sh S y = some (.inl 3)) : t_a S 21 976 (g_r S 3 15 y) := (h.1 y hy).2.2.2.2.2.2.2.2.2.2.2.1
theorem w_m_memory {S : gs_S} {y : Nat} (h : m_t S) (hy : g_sh S y = some (.inl 3)) : t_a S 22 60000 (g_r S 3 16 y) := (h.1 y hy).2.2.2.2.2.2.2.2.2.2.2.2.1
theorem w_m_callOf {S : gs_S} {y : Nat} (h : m_t S) (hy : g_sh S y = some (.inl 3)) : t_a S 23 600 (g_r S 3 18 y) := (h.1 y hy).2.2.2.2.2.2.2.2.2.2.2.2.2.1
theorem w_m_baseOf {S : gs_S} {y : Nat} (h : m_t S) (hy : g_sh S y = some (.inl 3)) : t_a S 24 600 (g_r S 3 19 y) := (h.1 y hy).2.2.2.2.2.2.2.2.2.2.2.2.2.2.1
theorem w_m_usedAhead {S : gs_S} {y : Nat} (h : m_t S) (hy : g_sh S y = some (.inl 3)) : t_a S 25 600 (g_r S 3 20 y) := (h.1 y hy).2.2.2.2.2.2.2.2.2.2.2.2.2.2.2.1
theorem w_m_placeOf {S : gs_S} {y : Nat} (h : m_t S) (hy : g_sh S y = some (.inl 3)) : t_a S 26 9600 (g_r S 3 21 y) := (h.1 y hy).2.2.2.2.2.2.2.2.2.2.2.2.2.2.2.2.1
theorem w_m_argument {S : gs_S} {y : Nat} (h : m_t S) (hy : g_sh S y = some (.inl 3)) : t_a S 27 16 (g_r S 3 26 y) := (h.1 y hy).2.2.2.2.2.2.2.2.2.2.2.2.2.2.2.2.2.1
theorem w_m_argumentBytes {S : gs_S} {y : Nat} (h : m_t S) (hy : g_sh S y = some (.inl 3)) : t_a S 28 16 (g_r S 3 27 y) := (h.1 y hy).2.2.2.2.2.2.2.2.2.2.2.2.2.2.2.2.2.2.1
theorem w_m_programs {S : gs_S} {y : Nat} (h : m_t S) (hy : g_sh S y = some (.inl 3)) : (∃ n : Nat, n ≤ 60 ∧ g_i S 3 8 y = nI n) := (h.1 y hy).2.2.2.2.2.2.2.2.2.2.2.2.2.2.2.2.2.2.2.1
theorem w_m_cells {S : gs_S} {y : Nat} (h : m_t S) (hy : g_sh S y = some (.inl 3)) : (∃ n : Nat, n ≤ 200 ∧ g_i S 3 13 y = nI n) := (h.1 y hy).2.2.2.2.2.2.2.2.2.2.2.2.2.2.2.2.2.2.2.2.1
theorem w_m_active {S : gs_S} {y : Nat} (h : m_t S) (hy : g_sh S y = some (.inl 3)) : (∃ n : Nat, n ≤ 256 ∧ g_i S 3 22 y = nI n) := (h.1 y hy).2.2.2.2.2.2.2.2.2.2.2.2.2.2.2.2.2.2.2.2.2.1
theorem w_m_prepared {S : gs_S} {y : Nat} (h : m_t S) (hy : g_sh S y = some (.inl 3)) : (∃ n : Nat, n ≤ 60 ∧ g_i S 3 23 y = nI n) := (h.1 y hy).2.2.2.2.2.2.2.2.2.2.2.2.2.2.2.2.2.2.2.2.2.2.1
theorem w_m_arguments {S : gs_S} {y : Nat} (h : m_t S) (hy : g_sh S y = some (.inl 3)) : (∃ n : Nat, n ≤ 16 ∧ g_i S 3 24 y = nI n) := (h.1 y hy).2.2.2.2.2.2.2.2.2.2.2.2.2.2.2.2.2.2.2.2.2.2.2.1
theorem w_m_used {S : gs_S} {y : Nat} (h : m_t S) (hy : g_sh S y = some (.inl 3)) : (∃ n : Nat, n ≤ 60000 ∧ g_i S 3 17 y = nI n) := (h.1 y hy).2.2.2.2.2.2.2.2.2.2.2.2.2.2.2.2.2.2.2.2.2.2.2.2.1
theorem w_m_preparedAhead {S : gs_S} {y : Nat} (h : m_t S) (hy : g_sh S y = some (.inl 3)) : (∃ n : Nat, n ≤ 60000 ∧ g_i S 3 25 y = nI n) := (h.1 y hy).2.2.2.2.2.2.2.2.2.2.2.2.2.2.2.2.2.2.2.2.2.2.2.2.2
theorem m_g10 {S : gs_S} {a n i : Nat} (h : m_t S) (ha : g_sh S a = some (.inr (10, n))) (hi : i < n) : ∃ w : Nat, g_ai S 10 a i = nI w ∧ w ≤ 60 ∧ (w < i ∨ w = 0) := h.2 a 10 n ha (by decide) i hi
theorem m_g13 {S : gs_S} {a n i : Nat} (h : m_t S) (ha : g_sh S a = some (.inr (13, n))) (hi : i < n) : ∃ w : Nat, g_ai S 13 a i = nI w ∧ w ≤ 16 := h.2 a 13 n ha (by decide) i hi
theorem m_g16 {S : gs_S} {a n i : Nat} (h : m_t S) (ha : g_sh S a = some (.inr (16, n))) (hi : i < n) : ∃ w : Nat, g_ai S 16 a i = nI w ∧ w ≤ 60 := h.2 a 16 n ha (by decide) i hi
theorem m_g17 {S : gs_S} {a n i : Nat} (h : m_t S) (ha : g_sh S a = some (.inr (17, n))) (hi : i < n) : ∃ w : Nat, g_ai S 17 a i = nI w ∧ w < 200 := h.2 a 17 n ha (by decide) i hi
theorem m_g23 {S : gs_S} {a n i : Nat} (h : m_t S) (ha : g_sh S a = some (.inr (23, n))) (hi : i < n) : ∃ w : Nat, g_ai S 23 a i = nI w ∧ w ≤ 60 := h.2 a 23 n ha (by decide) i hi
theorem m_g24 {S : gs_S} {a n i : Nat} (h : m_t S) (ha : g_sh S a = some (.inr (24, n))) (hi : i < n) : ∃ w : Nat, g_ai S 24 a i = nI w ∧ w ≤ 59800 := h.2 a 24 n ha (by decide) i hi
theorem m_g25 {S : gs_S} {a n i : Nat} (h : m_t S) (ha : g_sh S a = some (.inr (25, n))) (hi : i < n) : ∃ w : Nat, g_ai S 25 a i = nI w ∧ w ≤ 60000 := h.2 a 25 n ha (by decide) i hi
theorem m_g26 {S : gs_S} {a n i : Nat} (h : m_t S) (ha : g_sh S a = some (.inr (26, n))) (hi : i < n) : g_ai S 26 a i = -1 ∨ ∃ w : Nat, g_ai S 26 a i = nI w ∧ w < 60000 := h.2 a 26 n ha (by decide) i hi
theorem m_g27 {S : gs_S} {a n i : Nat} (h : m_t S) (ha : g_sh S a = some (.inr (27, n))) (hi : i < n) : g_ai S 27 a i = -1 ∨ ∃ w : Nat, g_ai S 27 a i = nI w ∧ w < 60000 := h.2 a 27 n ha (by decide) i hi
theorem mt_pal {S : gs_S} {r a j : Nat} {v : Int64} (h : m_t S) : m_t (p_al S r a j v) := h
theorem mt_pl {S : gs_S} {c k a : Nat} {v : Int64} (h : m_t S) : m_t (p_l S c k a v) := h
theorem mt_par {S : gs_S} {r a j : Nat} {v : Option Nat} (h : m_t S) : m_t (p_ar S r a j v) := h
theorem mt_pai {S : gs_S} {r a j : Nat} {v : Int32} (h : m_t S) (hv : 10 ≤ r → m_rg r j v) : m_t (p_ai S r a j v) := by
  refine ⟨h.1, fun b r' n hb hr i hi => ?_⟩
  rw [x_g_ai_p_ai]
  split
  · rename_i c
    obtain ⟨rfl, rfl, rfl⟩ := c
    exact hv hr
  · exact h.2 b r' n hb hr i hi
theorem mt_pr {S : gs_S} {c k a : Nat} {v : Option Nat} (h : m_t S) (hc : c ≠ 3) : m_t (p_r S c k a v) := by
  refine ⟨fun y hy => ?_, h.2⟩
  have e : ∀ k' : Nat, g_r (p_r S c k a v) 3 k' y = g_r S 3 k' y := fun k' => by rw [x_g_r_p_r, if_neg (fun z => hc z.1.symm)]
  simp only [e]
  exact h.1 y hy
def m_ir (k : Nat) (v : Int32) : Prop := (k = 8 → ∃ n : Nat, n ≤ 60 ∧ v = nI n) ∧ (k = 13 → ∃ n : Nat, n ≤ 200 ∧ v = nI n) ∧ (k = 22 → ∃ n : Nat, n ≤ 256 ∧ v = nI n) ∧ (k = 23 → ∃ n : Nat, n ≤ 60 ∧ v = nI n) ∧ (k = 24 → ∃ n : Nat, n ≤ 16 ∧ v = nI n) ∧ (k = 17 → ∃ n : Nat, n ≤ 60000 ∧ v = nI n) ∧ (k = 25 → ∃ n : Nat, n ≤ 60000 ∧ v = nI n)
theorem mt_pi {S : gs_S} {c k a : Nat} {v : Int32} (h : m_t S) (hv : c = 3 → m_ir k v) : m_t (p_i S c k a v) := by
  refine ⟨fun y hy => ?_, h.2⟩
  obtain ⟨a0, a1, a2, a3, a4, a5, a6, a7, a8, a9, a10, a11, a12, a13, a14, a15, a16, a17, a18, a19, a20, a21, a22, a23, a24, a25⟩ := h.1 y hy
  refine ⟨a0, a1, a2, a3, a4, a5, a6, a7, a8, a9, a10, a11, a12, a13, a14, a15, a16, a17, a18, ?_, ?_, ?_, ?_, ?_, ?_, ?_⟩
  · rw [x_g_i_p_i]; split
    · rename_i z; exact (hv z.1.symm).1 z.2.1.symm
    · exact a19
  · rw [x_g_i_p_i]; split
    · rename_i z; exact (hv z.1.symm).2.1 z.2.1.symm
    · exact a20
  · rw [x_g_i_p_i]; split
    · rename_i z; exact (hv z.1.symm).2.2.1 z.2.1.symm
    · exact a21
  · rw [x_g_i_p_i]; split
    · rename_i z; exact (hv z.1.symm).2.2.2.1 z.2.1.symm
    · exact a22
  · rw [x_g_i_p_i]; split
    · rename_i z; exact (hv z.1.symm).2.2.2.2.1 z.2.1.symm
    · exact a23
  · rw [x_g_i_p_i]; split
    · rename_i z; exact (hv z.1.symm).2.2.2.2.2.1 z.2.1.symm
    · exact a24
  · rw [x_g_i_p_i]; split
    · rename_i z; exact (hv z.1.symm).2.2.2.2.2.2 z.2.1.symm
    · exact a25
/-- an int field of the reference that nothing is said of -/
theorem mt_pi0 {S : gs_S} {k a : Nat} {v : Int32} (h : m_t S) (hk : k ∉ [8, 13, 22, 23, 24, 17, 25]) : m_t (p_i S 3 k a v) := by
  simp only [List.mem_cons, List.not_mem_nil, or_false, not_or] at hk
  exact mt_pi h (fun _ => ⟨fun z => absurd z hk.1, fun z => absurd z hk.2.1, fun z => absurd z hk.2.2.1, fun z => absurd z hk.2.2.2.1, fun z => absurd z hk.2.2.2.2.1, fun z => absurd z hk.2.2.2.2.2.1, fun z => absurd z hk.2.2.2.2.2.2⟩)
theorem mt_programs {S : gs_S} {a n : Nat} (h : m_t S) (hn : n ≤ 60) : m_t (p_i S 3 8 a (nI n)) := mt_pi h (fun _ => ⟨fun _ => ⟨n, hn, rfl⟩, fun z => absurd z (by decide), fun z => absurd z (by decide), fun z => absurd z (by decide), fun z => absurd z (by decide), fun z => absurd z (by decide), fun z => absurd z (by decide)⟩)
theorem mt_cells {S : gs_S} {a n : Nat} (h : m_t S) (hn : n ≤ 200) : m_t (p_i S 3 13 a (nI n)) := mt_pi h (fun _ => ⟨fun z => absurd z (by decide), fun _ => ⟨n, hn, rfl⟩, fun z => absurd z (by decide), fun z => absurd z (by decide), fun z => absurd z (by decide), fun z => absurd z (by decide), fun z => absurd z (by decide)⟩)
theorem mt_active {S : gs_S} {a n : Nat} (h : m_t S) (hn : n ≤ 256) : m_t (p_i S 3 22 a (nI n)) := mt_pi h (fun _ => ⟨fun z => absurd z (by decide), fun z => absurd z (by decide), fun _ => ⟨n, hn, rfl⟩, fun z => absurd z (by decide), fun z => absurd z (by decide), fun z => absurd z (by decide), fun z => absurd z (by decide)⟩)
theorem mt_prepared {S : gs_S} {a n : Nat} (h : m_t S) (hn : n ≤ 60) : m_t (p_i S 3 23 a (nI n)) := mt_pi h (fun _ => ⟨fun z => absurd z (by decide), fun z => absurd z (by decide), fun z => absurd z (by decide), fun _ => ⟨n, hn, rfl⟩, fun z => absurd z (by decide), fun z => absurd z (by decide), fun z => absurd z (by decide)⟩)
theorem mt_arguments {S : gs_S} {a n : Nat} (h : m_t S) (hn : n ≤ 16) : m_t (p_i S 3 24 a (nI n)) := mt_pi h (fun _ => ⟨fun z => absurd z (by decide), fun z => absurd z (by decide), fun z => absurd z (by decide), fun z => absurd z (by decide), fun _ => ⟨n, hn, rfl⟩, fun z => absurd z (by decide), fun z => absurd z (by decide)⟩)
theorem mt_used {S : gs_S} {a n : Nat} (h : m_t S) (hn : n ≤ 60000) : m_t (p_i S 3 17 a (nI n)) := mt_pi h (fun _ => ⟨fun z => absurd z (by decide), fun z => absurd z (by decide), fun z => absurd z (by decide), fun z => absurd z (by decide), fun z => absurd z (by decide), fun _ => ⟨n, hn, rfl⟩, fun z => absurd z (by decide)⟩)
theorem mt_preparedAhead {S : gs_S} {a n : Nat} (h : m_t S) (hn : n ≤ 60000) : m_t (p_i S 3 25 a (nI n)) := mt_pi h (fun _ => ⟨fun z => absurd z (by decide), fun z => absurd z (by decide), fun z => absurd z (by decide), fun z => absurd z (by decide), fun z => absurd z (by decide), fun z => absurd z (by decide), fun _ => ⟨n, hn, rfl⟩⟩)
/-- an array address of the reference -/
def m_q (S : gs_S) (y k : Nat) : Nat := v_a (g_r S 3 k y)
section GT
variable {p : Program} {l : Launch} {e : Env} {R : Room} {s : State} {m : MethodId} {args : Array Value} {below : List Frame} {meth : Method} {c : Code} {H : Heap} {locs : List Loc} {cells slots : Nat} {Q : State → Prop} {pc : Nat} {ls : Array Slot} {rest : List Value}
/-- an int on top by another name -/
theorem s_topi {x y : Int32} (h : x = y) (kk : W p l e R s m args below meth c H locs cells slots Q (F0 m pc ls (.int y :: rest))) : W p l e R s m args below meth c H locs cells slots Q (F0 m pc ls (.int x :: rest)) := by
  subst h
  exact kk
end GT
end
section
/-! what the reference holds, by names -/
theorem x_sub1 {n : Nat} (h : 0 < n) : nI n - 1 = nI (n - 1) := by
  obtain ⟨k, rfl⟩ : ∃ k, n = k + 1 := ⟨n - 1, by omega⟩
  exact nI_pred k
theorem x_mul16 (n : Nat) : 16 * nI n = nI (16 * n) := pk_mul 16 n

def m_programs (S : gs_S) (y : Nat) : Nat := (g_i S 3 8 y).toNatClampNeg
theorem e_programs {S : gs_S} {y : Nat} (hM : m_t S) (hY : g_sh S y = some (.inl 3)) : g_i S 3 8 y = nI (m_programs S y) := by
  obtain ⟨n, hn, en⟩ := w_m_programs hM hY
  rw [m_programs, en, nI_clamp (by omega)]
theorem b_programs {S : gs_S} {y : Nat} (hM : m_t S) (hY : g_sh S y = some (.inl 3)) : m_programs S y ≤ 60 := by
  obtain ⟨n, hn, en⟩ := w_m_programs hM hY
  rw [m_programs, en, nI_clamp (by omega)]
  exact hn
def m_cells (S : gs_S) (y : Nat) : Nat := (g_i S 3 13 y).toNatClampNeg
theorem e_cells {S : gs_S} {y : Nat} (hM : m_t S) (hY : g_sh S y = some (.inl 3)) : g_i S 3 13 y = nI (m_cells S y) := by
  obtain ⟨n, hn, en⟩ := w_m_cells hM hY
  rw [m_cells, en, nI_clamp (by omega)]
theorem b_cells {S : gs_S} {y : Nat} (hM : m_t S) (hY : g_sh S y = some (.inl 3)) : m_cells S y ≤ 200 := by
  obtain ⟨n, hn, en⟩ := w_m_cells hM hY
  rw [m_cells, en, nI_clamp (by omega)]
  exact hn
def m_active (S : gs_S) (y : Nat) : Nat := (g_i S 3 22 y).toNatClampNeg
theorem e_active {S : gs_S} {y : Nat} (hM : m_t S) (hY : g_sh S y = some (.inl 3)) : g_i S 3 22 y = nI (m_active S y) := by
  obtain ⟨n, hn, en⟩ := w_m_active hM hY
  rw [m_active, en, nI_clamp (by omega)]
theorem b_active {S : gs_S} {y : Nat} (hM : m_t S) (hY : g_sh S y = some (.inl 3)) : m_active S y ≤ 256 := by
  obtain ⟨n, hn, en⟩ := w_m_active hM hY
  rw [m_active, en, nI_clamp (by omega)]
  exact hn
def m_prepared (S : gs_S) (y : Nat) : Nat := (g_i S 3 23 y).toNatClampNeg
theorem e_prepared {S : gs_S} {y : Nat} (hM : m_t S) (hY : g_sh S y = some (.inl 3)) : g_i S 3 23 y = nI (m_prepared S y) := by
  obtain ⟨n, hn, en⟩ := w_m_prepared hM hY
  rw [m_prepared, en, nI_clamp (by omega)]
theorem b_prepared {S : gs_S} {y : Nat} (hM : m_t S) (hY : g_sh S y = some (.inl 3)) : m_prepared S y ≤ 60 := by
  obtain ⟨n, hn, en⟩ := w_m_prepared hM hY
  rw [m_prepared, en, nI_clamp (by omega)]
  exact hn
def m_arguments (S : gs_S) (y : Nat) : Nat := (g_i S 3 24 y).toNatClampNeg
theorem e_arguments {S : gs_S} {y : Nat} (hM : m_t S) (hY : g_sh S y = some (.inl 3)) : g_i S 3 24 y = nI (m_arguments S y) := by
  obtain ⟨n, hn, en⟩ := w_m_arguments hM hY
  rw [m_arguments, en, nI_clamp (by omega)]
theorem b_arguments {S : gs_S} {y : Nat} (hM : m_t S) (hY : g_sh S y = some (.inl 3)) : m_arguments S y ≤ 16 := by
  obtain ⟨n, hn, en⟩ := w_m_arguments hM hY
  rw [m_arguments, en, nI_clamp (by omega)]
  exact hn
def m_used (S : gs_S) (y : Nat) : Nat := (g_i S 3 17 y).toNatClampNeg
theorem e_used {S : gs_S} {y : Nat} (hM : m_t S) (hY : g_sh S y = some (.inl 3)) : g_i S 3 17 y = nI (m_used S y) := by
  obtain ⟨n, hn, en⟩ := w_m_used hM hY
  rw [m_used, en, nI_clamp (by omega)]
theorem b_used {S : gs_S} {y : Nat} (hM : m_t S) (hY : g_sh S y = some (.inl 3)) : m_used S y ≤ 60000 := by
  obtain ⟨n, hn, en⟩ := w_m_used hM hY
  rw [m_used, en, nI_clamp (by omega)]
  exact hn
def m_preparedAhead (S : gs_S) (y : Nat) : Nat := (g_i S 3 25 y).toNatClampNeg
theorem e_preparedAhead {S : gs_S} {y : Nat} (hM : m_t S) (hY : g_sh S y = some (.inl 3)) : g_i S 3 25 y = nI (m_preparedAhead S y) := by
  obtain ⟨n, hn, en⟩ := w_m_preparedAhead hM hY
  rw [m_preparedAhead, en, nI_clamp (by omega)]
theorem b_preparedAhead {S : gs_S} {y : Nat} (hM : m_t S) (hY : g_sh S y = some (.inl 3)) : m_preparedAhead S y ≤ 60000 := by
  obtain ⟨n, hn, en⟩ := w_m_preparedAhead hM hY
  rw [m_preparedAhead, en, nI_clamp (by omega)]
  exact hn
def m_within (S : gs_S) (y i : Nat) : Nat := (g_ai S 10 (m_q S y 2) i).toNatClampNeg
theorem e_within {S : gs_S} {y a i : Nat} (hM : m_t S) (hY : g_sh S y = some (.inl 3)) (ea : g_r S 3 2 y = some a) (hi : i < 61) : g_ai S 10 a i = nI (m_within S y i) := by
  obtain ⟨b, eb, sb⟩ := w_m_within hM hY
  obtain rfl : b = a := Option.some.inj (eb.symm.trans ea)
  obtain ⟨w, ew, hw⟩ := m_g10 hM sb hi
  rw [m_within, m_q, ea, v_a_s, ew, nI_clamp (by omega)]
theorem b_within {S : gs_S} {y i : Nat} (hM : m_t S) (hY : g_sh S y = some (.inl 3)) (hi : i < 61) : m_within S y i ≤ 60 ∧ (m_within S y i < i ∨ m_within S y i = 0) := by
  obtain ⟨b, eb, sb⟩ := w_m_within hM hY
  obtain ⟨w, ew, hw⟩ := m_g10 hM sb hi
  have : m_within S y i = w := by rw [m_within, m_q, eb, v_a_s, ew, nI_clamp (by omega)]
  rw [this]
  exact hw
def m_names (S : gs_S) (y i : Nat) : Int32 := g_ai S 11 (m_q S y 3) i
theorem e_names {S : gs_S} {y a i : Nat} (ea : g_r S 3 3 y = some a) : g_ai S 11 a i = m_names S y i := by rw [m_names, m_q, ea, v_a_s]
def m_marks (S : gs_S) (y i : Nat) : Int32 := g_ai S 12 (m_q S y 4) i
theorem e_marks {S : gs_S} {y a i : Nat} (ea : g_r S 3 4 y = some a) : g_ai S 12 a i = m_marks S y i := by rw [m_marks, m_q, ea, v_a_s]
def m_manyFormals (S : gs_S) (y i : Nat) : Nat := (g_ai S 13 (m_q S y 5) i).toNatClampNeg
theorem e_manyFormals {S : gs_S} {y a i : Nat} (hM : m_t S) (hY : g_sh S y = some (.inl 3)) (ea : g_r S 3 5 y = some a) (hi : i < 61) : g_ai S 13 a i = nI (m_manyFormals S y i) := by
  obtain ⟨b, eb, sb⟩ := w_m_manyFormals hM hY
  obtain rfl : b = a := Option.some.inj (eb.symm.trans ea)
  obtain ⟨w, ew, hw⟩ := m_g13 hM sb hi
  rw [m_manyFormals, m_q, ea, v_a_s, ew, nI_clamp (by omega)]
theorem b_manyFormals {S : gs_S} {y i : Nat} (hM : m_t S) (hY : g_sh S y = some (.inl 3)) (hi : i < 61) : m_manyFormals S y i ≤ 16 := by
  obtain ⟨b, eb, sb⟩ := w_m_manyFormals hM hY
  obtain ⟨w, ew, hw⟩ := m_g13 hM sb hi
  have : m_manyFormals S y i = w := by rw [m_manyFormals, m_q, eb, v_a_s, ew, nI_clamp (by omega)]
  rw [this]
  exact hw
def m_activeTimes (S : gs_S) (y i : Nat) : Int32 := g_ai S 14 (m_q S y 6) i
theorem e_activeTimes {S : gs_S} {y a i : Nat} (ea : g_r S 3 6 y = some a) : g_ai S 14 a i = m_activeTimes S y i := by rw [m_activeTimes, m_q, ea, v_a_s]
def m_data (S : gs_S) (y i : Nat) : Int32 := g_ai S 15 (m_q S y 7) i
theorem e_data {S : gs_S} {y a i : Nat} (ea : g_r S 3 7 y = some a) : g_ai S 15 a i = m_data S y i := by rw [m_data, m_q, ea, v_a_s]
def m_owner (S : gs_S) (y i : Nat) : Nat := (g_ai S 16 (m_q S y 9) i).toNatClampNeg
theorem e_owner {S : gs_S} {y a i : Nat} (hM : m_t S) (hY : g_sh S y = some (.inl 3)) (ea : g_r S 3 9 y = some a) (hi : i < 200) : g_ai S 16 a i = nI (m_owner S y i) := by
  obtain ⟨b, eb, sb⟩ := w_m_owner hM hY
  obtain rfl : b = a := Option.some.inj (eb.symm.trans ea)
  obtain ⟨w, ew, hw⟩ := m_g16 hM sb hi
  rw [m_owner, m_q, ea, v_a_s, ew, nI_clamp (by omega)]
theorem b_owner {S : gs_S} {y i : Nat} (hM : m_t S) (hY : g_sh S y = some (.inl 3)) (hi : i < 200) : m_owner S y i ≤ 60 := by
  obtain ⟨b, eb, sb⟩ := w_m_owner hM hY
  obtain ⟨w, ew, hw⟩ := m_g16 hM sb hi
  have : m_owner S y i = w := by rw [m_owner, m_q, eb, v_a_s, ew, nI_clamp (by omega)]
  rw [this]
  exact hw
def m_rank (S : gs_S) (y i : Nat) : Nat := (g_ai S 17 (m_q S y 10) i).toNatClampNeg
theorem e_rank {S : gs_S} {y a i : Nat} (hM : m_t S) (hY : g_sh S y = some (.inl 3)) (ea : g_r S 3 10 y = some a) (hi : i < 200) : g_ai S 17 a i = nI (m_rank S y i) := by
  obtain ⟨b, eb, sb⟩ := w_m_rank hM hY
  obtain rfl : b = a := Option.some.inj (eb.symm.trans ea)
  obtain ⟨w, ew, hw⟩ := m_g17 hM sb hi
  rw [m_rank, m_q, ea, v_a_s, ew, nI_clamp (by omega)]
theorem b_rank {S : gs_S} {y i : Nat} (hM : m_t S) (hY : g_sh S y = some (.inl 3)) (hi : i < 200) : m_rank S y i < 200 := by
  obtain ⟨b, eb, sb⟩ := w_m_rank hM hY
  obtain ⟨w, ew, hw⟩ := m_g17 hM sb hi
  have : m_rank S y i = w := by rw [m_rank, m_q, eb, v_a_s, ew, nI_clamp (by omega)]
  rw [this]
  exact hw
def m_external (S : gs_S) (y i : Nat) : Int32 := g_ai S 18 (m_q S y 11) i
theorem e_external {S : gs_S} {y a i : Nat} (ea : g_r S 3 11 y = some a) : g_ai S 18 a i = m_external S y i := by rw [m_external, m_q, ea, v_a_s]
def m_first (S : gs_S) (y i : Nat) : Int64 := g_al S 19 (m_q S y 12) i
theorem e_first {S : gs_S} {y a i : Nat} (ea : g_r S 3 12 y = some a) : g_al S 19 a i = m_first S y i := by rw [m_first, m_q, ea, v_a_s]
def m_how (S : gs_S) (y i : Nat) : Int32 := g_ai S 20 (m_q S y 14) i
theorem e_how {S : gs_S} {y a i : Nat} (ea : g_r S 3 14 y = some a) : g_ai S 20 a i = m_how S y i := by rw [m_how, m_q, ea, v_a_s]
def m_bytes (S : gs_S) (y i : Nat) : Int32 := g_ai S 21 (m_q S y 15) i
theorem e_bytes {S : gs_S} {y a i : Nat} (ea : g_r S 3 15 y = some a) : g_ai S 21 a i = m_bytes S y i := by rw [m_bytes, m_q, ea, v_a_s]
def m_memory (S : gs_S) (y i : Nat) : Int64 := g_al S 22 (m_q S y 16) i
theorem e_memory {S : gs_S} {y a i : Nat} (ea : g_r S 3 16 y = some a) : g_al S 22 a i = m_memory S y i := by rw [m_memory, m_q, ea, v_a_s]
def m_callOf (S : gs_S) (y i : Nat) : Nat := (g_ai S 23 (m_q S y 18) i).toNatClampNeg
theorem e_callOf {S : gs_S} {y a i : Nat} (hM : m_t S) (hY : g_sh S y = some (.inl 3)) (ea : g_r S 3 18 y = some a) (hi : i < 600) : g_ai S 23 a i = nI (m_callOf S y i) := by
  obtain ⟨b, eb, sb⟩ := w_m_callOf hM hY
  obtain rfl : b = a := Option.some.inj (eb.symm.trans ea)
  obtain ⟨w, ew, hw⟩ := m_g23 hM sb hi
  rw [m_callOf, m_q, ea, v_a_s, ew, nI_clamp (by omega)]
theorem b_callOf {S : gs_S} {y i : Nat} (hM : m_t S) (hY : g_sh S y = some (.inl 3)) (hi : i < 600) : m_callOf S y i ≤ 60 := by
  obtain ⟨b, eb, sb⟩ := w_m_callOf hM hY
  obtain ⟨w, ew, hw⟩ := m_g23 hM sb hi
  have : m_callOf S y i = w := by rw [m_callOf, m_q, eb, v_a_s, ew, nI_clamp (by omega)]
  rw [this]
  exact hw
def m_baseOf (S : gs_S) (y i : Nat) : Nat := (g_ai S 24 (m_q S y 19) i).toNatClampNeg
theorem e_baseOf {S : gs_S} {y a i : Nat} (hM : m_t S) (hY : g_sh S y = some (.inl 3)) (ea : g_r S 3 19 y = some a) (hi : i < 600) : g_ai S 24 a i = nI (m_baseOf S y i) := by
  obtain ⟨b, eb, sb⟩ := w_m_baseOf hM hY
  obtain rfl : b = a := Option.some.inj (eb.symm.trans ea)
  obtain ⟨w, ew, hw⟩ := m_g24 hM sb hi
  rw [m_baseOf, m_q, ea, v_a_s, ew, nI_clamp (by omega)]
theorem b_baseOf {S : gs_S} {y i : Nat} (hM : m_t S) (hY : g_sh S y = some (.inl 3)) (hi : i < 600) : m_baseOf S y i ≤ 59800 := by
  obtain ⟨b, eb, sb⟩ := w_m_baseOf hM hY
  obtain ⟨w, ew, hw⟩ := m_g24 hM sb hi
  have : m_baseOf S y i = w := by rw [m_baseOf, m_q, eb, v_a_s, ew, nI_clamp (by omega)]
  rw [this]
  exact hw
def m_usedAhead (S : gs_S) (y i : Nat) : Nat := (g_ai S 25 (m_q S y 20) i).toNatClampNeg
theorem e_usedAhead {S : gs_S} {y a i : Nat} (hM : m_t S) (hY : g_sh S y = some (.inl 3)) (ea : g_r S 3 20 y = some a) (hi : i < 600) : g_ai S 25 a i = nI (m_usedAhead S y i) := by
  obtain ⟨b, eb, sb⟩ := w_m_usedAhead hM hY
  obtain rfl : b = a := Option.some.inj (eb.symm.trans ea)
  obtain ⟨w, ew, hw⟩ := m_g25 hM sb hi
  rw [m_usedAhead, m_q, ea, v_a_s, ew, nI_clamp (by omega)]
theorem b_usedAhead {S : gs_S} {y i : Nat} (hM : m_t S) (hY : g_sh S y = some (.inl 3)) (hi : i < 600) : m_usedAhead S y i ≤ 60000 := by
  obtain ⟨b, eb, sb⟩ := w_m_usedAhead hM hY
  obtain ⟨w, ew, hw⟩ := m_g25 hM sb hi
  have : m_usedAhead S y i = w := by rw [m_usedAhead, m_q, eb, v_a_s, ew, nI_clamp (by omega)]
  rw [this]
  exact hw
def m_placeOf (S : gs_S) (y i : Nat) : Int32 := g_ai S 26 (m_q S y 21) i
theorem e_placeOf {S : gs_S} {y a i : Nat} (ea : g_r S 3 21 y = some a) : g_ai S 26 a i = m_placeOf S y i := by rw [m_placeOf, m_q, ea, v_a_s]
def m_argument (S : gs_S) (y i : Nat) : Int32 := g_ai S 27 (m_q S y 26) i
theorem e_argument {S : gs_S} {y a i : Nat} (ea : g_r S 3 26 y = some a) : g_ai S 27 a i = m_argument S y i := by rw [m_argument, m_q, ea, v_a_s]
def m_argumentBytes (S : gs_S) (y i : Nat) : Int32 := g_ai S 28 (m_q S y 27) i
theorem e_argumentBytes {S : gs_S} {y a i : Nat} (ea : g_r S 3 27 y = some a) : g_ai S 28 a i = m_argumentBytes S y i := by rw [m_argumentBytes, m_q, ea, v_a_s]
set_option maxHeartbeats 4000000 in
set_option maxRecDepth 100000 in
theorem c_M_thrown (l : Launch) (G : gs_G) (S : gs_S) (sz : Nat) (y : Nat) (hM : m_t S) (hY : g_sh S y = some (.inl 3)) : Met l yM_thrown (kM_thrown :: gU) { frames := 0, cells := 0, slots := 0, locals := 0 } (g_Pc G S sz [va_rf (some y)]) (g_Qi G S sz (fun r S' => S' = S ∧ r = g_i S 3 0 y)) 0 0 (g_A S sz) := by
  refine s_head (by decide) (Nat.le_of_ble_eq_true rfl) ?_
  intro p e s m below meth c ls hsz hC hr hlocks hnm hl hW
  subst hsz
  obtain ⟨hx, hb, hml, hown, hts⟩ := id hC
  have hl : lv_has ls 1 [(0, va_rf (some y))] := hl
  refine s_aload_n (x := some y) hx hb dM_thrown_0 rfl (lv_at hl 0 rfl) ?_
  refine s_geti hC hW gc_M iw_M 0 (by decide) uw_386 rfl hY rfl dM_thrown_1 ?_
  exact s_iret hC hr hlocks rfl hW dM_thrown_4 ⟨rfl, rfl⟩

def f_isP (S : gs_S) (y : Nat) (p : Int32) : Int32 := if p ≤ 0 then 0 else if nI (m_programs S y) < p then 0 else 1

set_option maxHeartbeats 4000000 in
set_option maxRecDepth 100000 in
theorem c_M_isProgram (l : Launch) (G : gs_G) (S : gs_S) (sz : Nat) (y : Nat) (p0 : Int32) (hM : m_t S) (hY : g_sh S y = some (.inl 3)) : Met l yM_isProgram (kM_isProgram :: gU) { frames := 0, cells := 0, slots := 0, locals := 0 } (g_Pc G S sz [va_rf (some y), .int p0]) (g_Qi G S sz (fun r S' => S' = S ∧ r = f_isP S y p0)) 0 0 (g_A S sz) := by
  refine s_head (by decide) (Nat.le_of_ble_eq_true rfl) ?_
  intro p e s m below meth c ls hsz hC hr hlocks hnm hl hW
  subst hsz
  obtain ⟨hx, hb, hml, hown, hts⟩ := id hC
  have hl : lv_has ls 2 [(0, va_rf (some y)), (1, .int p0)] := hl
  refine lv_iload_n hx hb dM_isProgram_0 rfl (lv_at hl 1 rfl) ?_
  refine lv_if_le (tgt := 16) hx hb dM_isProgram_1 (by decide) (fun c_1 => ?_) (fun c_1 => ?_)
  · skip
    refine lv_iconst (v := 0) hx hb dM_isProgram_16 (by decide) ?_
    exact s_iret hC hr hlocks rfl hW dM_isProgram_17 ⟨rfl, by simp [f_isP, c_1]⟩
  · skip
    refine lv_iload_n hx hb dM_isProgram_4 rfl (lv_at hl 1 rfl) ?_
    refine s_aload_n (x := some y) hx hb dM_isProgram_5 rfl (lv_at hl 0 rfl) ?_
    refine s_geti hC hW gc_M iw_M 8 (by decide) uw_394 rfl hY (v := nI (m_programs S y)) (e_programs hM hY) dM_isProgram_6 ?_
    refine lv_icmp_gt (tgt := 16) hx hb dM_isProgram_9 (by decide) (fun c_9 => ?_) (fun c_9 => ?_)
    · skip
      refine lv_iconst (v := 0) hx hb dM_isProgram_16 (by decide) ?_
      exact s_iret hC hr hlocks rfl hW dM_isProgram_17 ⟨rfl, by simp [f_isP, c_1, c_9]⟩
    · skip
      refine lv_iconst (v := 1) hx hb dM_isProgram_12 (by decide) ?_
      refine lv_goto (tgt := 17) hx hb dM_isProgram_13 (by decide) ?_
      exact s_iret hC hr hlocks rfl hW dM_isProgram_17 ⟨rfl, by simp [f_isP, c_1, c_9]⟩

def f_is (S : gs_S) (y p : Nat) (k : Int32) : Int32 := if m_marks S y p &&& k = 0 then 0 else 1

set_option maxHeartbeats 4000000 in
set_option maxRecDepth 100000 in
theorem c_M_is (l : Launch) (G : gs_G) (S : gs_S) (sz : Nat) (y p0 : Nat) (k : Int32) (hM : m_t S) (hY : g_sh S y = some (.inl 3)) (hp0 : p0 ≤ 60) : Met l yM_is (kM_is :: gU) { frames := 0, cells := 0, slots := 0, locals := 0 } (g_Pc G S sz [va_rf (some y), .int (nI p0), .int k]) (g_Qi G S sz (fun r S' => S' = S ∧ r = f_is S y p0 k)) 0 0 (g_A S sz) := by
  refine s_head (by decide) (Nat.le_of_ble_eq_true rfl) ?_
  intro p e s m below meth c ls hsz hC hr hlocks hnm hl hW
  subst hsz
  obtain ⟨hx, hb, hml, hown, hts⟩ := id hC
  have hl : lv_has ls 3 [(0, va_rf (some y)), (1, .int (nI p0)), (2, .int k)] := hl
  refine s_aload_n (x := some y) hx hb dM_is_0 rfl (lv_at hl 0 rfl) ?_
  obtain ⟨a_marks, ea_marks, sa_marks⟩ := w_m_marks hM hY
  refine s_getr hC hW gc_M iw_M 4 (by decide) uw_390 rfl hY (v := some a_marks) ea_marks dM_is_1 ?_
  refine lv_iload_n hx hb dM_is_4 rfl (lv_at hl 1 rfl) ?_
  refine k_iald hC hW sa_marks rfl rfl (by decide) p0 rfl (by omega) (v := m_marks S y p0) (e_marks ea_marks) dM_is_5 ?_
  refine lv_iload_n hx hb dM_is_6 rfl (lv_at hl 2 rfl) ?_
  refine lv_iand hx hb dM_is_7 ?_
  refine lv_if_eq (tgt := 15) hx hb dM_is_8 (by decide) (fun c_8 => ?_) (fun c_8 => ?_)
  · skip
    refine lv_iconst (v := 0) hx hb dM_is_15 (by decide) ?_
    exact s_iret hC hr hlocks rfl hW dM_is_16 ⟨rfl, by simp [f_is, c_8]⟩
  · skip
    refine lv_iconst (v := 1) hx hb dM_is_11 (by decide) ?_
    refine lv_goto (tgt := 16) hx hb dM_is_12 (by decide) ?_
    exact s_iret hC hr hlocks rfl hW dM_is_16 ⟨rfl, by simp [f_is, c_8]⟩

def f_runM (S : gs_S) (y : Nat) : Nat := if m_active S y = 0 then 0 else m_callOf S y (m_active S y - 1)
theorem b_runM {S : gs_S} {y : Nat} (hM : m_t S) (hY : g_sh S y = some (.inl 3)) : f_runM S y ≤ 60 := by
  have := b_active hM hY
  unfold f_runM
  split
  · omega
  · exact b_callOf hM hY (by omega)
theorem x_n0 {n : Nat} (h : n < 2 ^ 31) : nI n = 0 ↔ n = 0 := nI_eq (b := 0) h (by decide)

set_option maxHeartbeats 4000000 in
set_option maxRecDepth 100000 in
theorem c_M_running (l : Launch) (G : gs_G) (S : gs_S) (sz : Nat) (y : Nat) (hM : m_t S) (hY : g_sh S y = some (.inl 3)) : Met l yM_running (kM_running :: gU) { frames := 0, cells := 0, slots := 0, locals := 0 } (g_Pc G S sz [va_rf (some y)]) (g_Qi G S sz (fun r S' => S' = S ∧ r = nI (f_runM S y))) 0 0 (g_A S sz) := by
  refine s_head (by decide) (Nat.le_of_ble_eq_true rfl) ?_
  intro p e s m below meth c ls hsz hC hr hlocks hnm hl hW
  subst hsz
  obtain ⟨hx, hb, hml, hown, hts⟩ := id hC
  have hl : lv_has ls 1 [(0, va_rf (some y))] := hl
  have h_programs := b_programs hM hY
  have h_cells := b_cells hM hY
  have h_active := b_active hM hY
  have h_prepared := b_prepared hM hY
  have h_arguments := b_arguments hM hY
  have h_used := b_used hM hY
  have h_preparedAhead := b_preparedAhead hM hY
  refine s_aload_n (x := some y) hx hb dM_running_0 rfl (lv_at hl 0 rfl) ?_
  refine s_geti hC hW gc_M iw_M 22 (by decide) uw_408 rfl hY (v := nI (m_active S y)) (e_active hM hY) dM_running_1 ?_
  refine lv_if_ne (tgt := 11) hx hb dM_running_4 (by decide) (fun c_4 => ?_) (fun c_4 => ?_)
  · skip
    have hna : m_active S y ≠ 0 := fun z => c_4 (by rw [z]; rfl)
    refine s_aload_n (x := some y) hx hb dM_running_11 rfl (lv_at hl 0 rfl) ?_
    obtain ⟨a_callOf, ea_callOf, sa_callOf⟩ := w_m_callOf hM hY
    refine s_getr hC hW gc_M iw_M 18 (by decide) uw_404 rfl hY (v := some a_callOf) ea_callOf dM_running_12 ?_
    refine s_aload_n (x := some y) hx hb dM_running_15 rfl (lv_at hl 0 rfl) ?_
    refine s_geti hC hW gc_M iw_M 22 (by decide) uw_408 rfl hY (v := nI (m_active S y)) (e_active hM hY) dM_running_16 ?_
    refine lv_iconst (v := 1) hx hb dM_running_19 (by decide) ?_
    refine lv_isub hx hb dM_running_20 ?_
    refine s_topi (x_sub1 (by omega)) ?_
    refine k_iald hC hW sa_callOf rfl rfl (by decide) ((m_active S y) - 1) rfl (by omega) (v := nI (m_callOf S y ((m_active S y) - 1))) (e_callOf hM hY ea_callOf (by omega)) dM_running_21 ?_
    have h21 := b_callOf hM hY (i := (m_active S y) - 1) (by omega)
    exact s_iret hC hr hlocks rfl hW dM_running_22 ⟨rfl, by rw [f_runM, if_neg hna]⟩
  · skip
    refine lv_iconst (v := 0) hx hb dM_running_7 (by decide) ?_
    refine lv_goto (tgt := 22) hx hb dM_running_8 (by decide) ?_
    exact s_iret hC hr hlocks rfl hW dM_running_22 ⟨rfl, by rw [f_runM, if_pos ((x_n0 (by omega)).mp c_4)]; rfl⟩

set_option maxHeartbeats 4000000 in
set_option maxRecDepth 100000 in
theorem c_M_isName (l : Launch) (G : gs_G) (S : gs_S) (sz : Nat) (n : Int32) : Met l yM_isName (kM_isName :: gU) { frames := 0, cells := 0, slots := 0, locals := 0 } (g_Pc G S sz [.int n]) (g_Qi G S sz (fun r S' => S' = S ∧ r = f_isName n)) 0 0 (g_A S sz) := by
  refine s_head (by decide) (Nat.le_of_ble_eq_true rfl) ?_
  intro p e s m below meth c ls hsz hC hr hlocks hnm hl hW
  subst hsz
  obtain ⟨hx, hb, hml, hown, hts⟩ := id hC
  have hl : lv_has ls 1 [(0, .int n)] := hl
  refine lv_iload_n hx hb dM_isName_0 rfl (lv_at hl 0 rfl) ?_
  refine lv_if_lt (tgt := 14) hx hb dM_isName_1 (by decide) (fun c_1 => ?_) (fun c_1 => ?_)
  · skip
    refine lv_iconst (v := 0) hx hb dM_isName_14 (by decide) ?_
    exact s_iret hC hr hlocks rfl hW dM_isName_15 ⟨rfl, by simp [f_isName, c_1]⟩
  · skip
    refine lv_iload_n hx hb dM_isName_4 rfl (lv_at hl 0 rfl) ?_
    refine lv_bipush (v := 100) hx hb dM_isName_5 (by decide) ?_
    refine lv_icmp_ge (tgt := 14) hx hb dM_isName_7 (by decide) (fun c_7 => ?_) (fun c_7 => ?_)
    · skip
      refine lv_iconst (v := 0) hx hb dM_isName_14 (by decide) ?_
      exact s_iret hC hr hlocks rfl hW dM_isName_15 ⟨rfl, by simp [f_isName, c_1, c_7]⟩
    · skip
      refine lv_iconst (v := 1) hx hb dM_isName_10 (by decide) ?_
      refine lv_goto (tgt := 15) hx hb dM_isName_11 (by decide) ?_
      exact s_iret hC hr hlocks rfl hW dM_isName_15 ⟨rfl, by simp [f_isName, c_1, c_7]⟩

def f_isF (S : gs_S) (y : Nat) (fr nm : Int32) : Int32 := if fr = nI (f_runM S y) then (if f_isName nm = 0 then 0 else 1) else 0

set_option maxHeartbeats 4000000 in
set_option maxRecDepth 100000 in
theorem c_M_isFrom (l : Launch) (G : gs_G) (S : gs_S) (sz : Nat) (y : Nat) (fr nm : Int32) (hM : m_t S) (hY : g_sh S y = some (.inl 3)) : Met l yM_isFrom (kM_isFrom :: gU) { frames := 1, cells := 0, slots := 0, locals := 20 } (g_Pc G S sz [va_rf (some y), .int fr, .int nm]) (g_Qi G S sz (fun r S' => S' = S ∧ r = f_isF S y fr nm)) 0 0 (g_A S sz) := by
  refine s_head (by decide) (Nat.le_of_ble_eq_true rfl) ?_
  intro p e s m below meth c ls hsz hC hr hlocks hnm hl hW
  subst hsz
  obtain ⟨hx, hb, hml, hown, hts⟩ := id hC
  have hl : lv_has ls 3 [(0, va_rf (some y)), (1, .int fr), (2, .int nm)] := hl
  refine lv_iload_n hx hb dM_isFrom_0 rfl (lv_at hl 1 rfl) ?_
  refine s_aload_n (x := some y) hx hb dM_isFrom_1 rfl (lv_at hl 0 rfl) ?_
  refine s_calli hW (s_runV (n := 0) (As := []) (rest := [.int fr]) hC (c_M_running l G S s.heap.size y hM hY) uc_M_running uw_514 uw_516 us_M_running uw_4 rfl rfl (by decide +kernel) ⟨by decide, by decide⟩ (g_preV hW gc_M hY []) rfl hl.1 rfl (Nat.le_of_ble_eq_true rfl) dM_isFrom_2 ⟨Nat.le_of_ble_eq_true rfl, Nat.le_of_ble_eq_true rfl⟩) (fun q2 S2 H locs hp2 hW => ?_)
  obtain ⟨hs2, rfl⟩ := hp2
  replace hs2 := hs2.symm
  subst hs2
  have hrun2 := b_runM hM hY
  refine lv_icmp_ne (tgt := 19) hx hb dM_isFrom_5 (by decide) (fun c_5 => ?_) (fun c_5 => ?_)
  · skip
    refine lv_iconst (v := 0) hx hb dM_isFrom_19 (by decide) ?_
    exact s_iret hC hr hlocks rfl hW dM_isFrom_20 ⟨rfl, by simp [f_isF, c_5]⟩
  · skip
    refine lv_iload_n hx hb dM_isFrom_8 rfl (lv_at hl 2 rfl) ?_
    refine s_calli hW (s_runS (n := 1) (As := [.int nm]) (rest := []) hC (c_M_isName l G S H.size nm) uc_M_isName uw_483 uw_484 uw_4 rfl rfl (by decide +kernel) ⟨by decide, by decide⟩ (g_preS hW [.int nm]) rfl hl.1 rfl (Nat.le_of_ble_eq_true rfl) dM_isFrom_9 ⟨Nat.le_of_ble_eq_true rfl, Nat.le_of_ble_eq_true rfl⟩) (fun q9 S9 H locs hp9 hW => ?_)
    obtain ⟨hs9, rfl⟩ := hp9
    replace hs9 := hs9.symm
    subst hs9
    refine lv_if_eq (tgt := 19) hx hb dM_isFrom_12 (by decide) (fun c_12 => ?_) (fun c_12 => ?_)
    · skip
      refine lv_iconst (v := 0) hx hb dM_isFrom_19 (by decide) ?_
      exact s_iret hC hr hlocks rfl hW dM_isFrom_20 ⟨rfl, by simp [f_isF, c_5, c_12]⟩
    · skip
      refine lv_iconst (v := 1) hx hb dM_isFrom_15 (by decide) ?_
      refine lv_goto (tgt := 20) hx hb dM_isFrom_16 (by decide) ?_
      exact s_iret hC hr hlocks rfl hW dM_isFrom_20 ⟨rfl, by simp [f_isF, c_5, c_12]⟩

def f_dy (S : gs_S) (y : Nat) (ins nm : Int32) : Nat → Nat → Nat → Nat
  | 0, _, acc => acc
  | k + 1, i, acc => f_dy S y ins nm k (i + 1) (if nI (m_within S y i) = ins then (if m_names S y i = nm then i else acc) else acc)
def f_dyM (S : gs_S) (y : Nat) (ins nm : Int32) : Nat := f_dy S y ins nm (m_programs S y) 1 0
theorem b_dy {S : gs_S} {y : Nat} {ins nm : Int32} : ∀ (k i acc n : Nat), i + k ≤ n + 1 → acc ≤ n → f_dy S y ins nm k i acc ≤ n := by
  intro k
  induction k with
  | zero => intro i acc n _ h; exact h
  | succ k ih =>
    intro i acc n h1 h2
    rw [f_dy]
    refine ih _ _ _ (by omega) ?_
    split
    · split <;> omega
    · exact h2
theorem b_dyM {S : gs_S} {y : Nat} {ins nm : Int32} (hM : m_t S) (hY : g_sh S y = some (.inl 3)) : f_dyM S y ins nm ≤ 60 := Nat.le_trans (b_dy _ _ _ (m_programs S y) (by omega) (by omega)) (b_programs hM hY)

set_option maxHeartbeats 4000000 in
set_option maxRecDepth 100000 in
theorem lp_dy (l : Launch) (G : gs_G) (S : gs_S) (y : Nat) (ins nm : Int32) (hM : m_t S) (hY : g_sh S y = some (.inl 3)) (hn : m_programs S y ≤ 60) {p : Program} {e : Env} {s : State} {m : MethodId} {below : List Frame} {meth : Method} {c : Code} (hC : CallFix p m c cM_directly 5 s #[va_rf (some y), Value.int ins, Value.int nm] gU yM_directly.cls) (hr : meth.sig.returnType = some .int) (hlocks : meth.locks = false) (hW : g_W G (g_A S s.heap.size) s S s.heap []) :
    ∀ (k : Nat) (i acc : Nat), i + k = m_programs S y + 1 → 1 ≤ i → acc ≤ 60 → f_dy S y ins nm (m_programs S y) 1 0 = f_dy S y ins nm k i acc → ∀ (ls : Array Slot), lv_has ls 5 [(4, .int (nI i)), (3, .int (nI acc)), (0, va_rf (some y)), (1, .int ins), (2, .int nm)] → W p l e { frames := 0, cells := 0, slots := 0, locals := 0 } s m #[va_rf (some y), Value.int ins, Value.int nm] below meth c s.heap [] 0 0 (MQ below (g_Qi G S s.heap.size (fun r S' => S' = S ∧ r = nI (f_dyM S y ins nm))) #[va_rf (some y), Value.int ins, Value.int nm] s 0 0 (g_A S s.heap.size)) (F0 m 5 ls []) := by
  obtain ⟨hx, hb, hml, hown, hts⟩ := id hC
  intro k
  induction k with
  | zero =>
    intro i acc  hi hi1 hac hf ls hl
    refine lv_iload hx hb dM_directly_5 (lv_at hl 0 rfl) ?_
    refine s_aload_n (x := some y) hx hb dM_directly_7 rfl (lv_at hl 2 rfl) ?_
    refine s_geti hC hW gc_M iw_M 8 (by decide) uw_394 rfl hY (v := nI (m_programs S y)) (e_programs hM hY) dM_directly_8 ?_
    refine lv_icmp_gt (tgt := 49) hx hb dM_directly_11 (by decide) (fun c_11 => ?_) (fun c => absurd ((nI_ltI (by omega) (by omega)).mpr (by omega)) c)
    refine lv_iload_n hx hb dM_directly_49 rfl (lv_at hl 1 rfl) ?_
    exact s_iret hC hr hlocks rfl hW dM_directly_50 ⟨rfl, by rw [f_dyM, hf]; rfl⟩
  | succ k ih =>
    intro i acc  hi hi1 hac hf ls hl
    refine lv_iload hx hb dM_directly_5 (lv_at hl 0 rfl) ?_
    refine s_aload_n (x := some y) hx hb dM_directly_7 rfl (lv_at hl 2 rfl) ?_
    refine s_geti hC hW gc_M iw_M 8 (by decide) uw_394 rfl hY (v := nI (m_programs S y)) (e_programs hM hY) dM_directly_8 ?_
    refine lv_icmp_gt (tgt := 49) hx hb dM_directly_11 (by decide) (fun c => absurd ((nI_ltI (by omega) (by omega)).mp c) (by omega)) (fun c_11 => ?_)
    refine s_aload_n (x := some y) hx hb dM_directly_14 rfl (lv_at hl 2 rfl) ?_
    obtain ⟨a_within, ea_within, sa_within⟩ := w_m_within hM hY
    refine s_getr hC hW gc_M iw_M 2 (by decide) uw_388 rfl hY (v := some a_within) ea_within dM_directly_15 ?_
    refine lv_iload hx hb dM_directly_18 (lv_at hl 0 rfl) ?_
    refine k_iald hC hW sa_within rfl rfl (by decide) i rfl (by omega) (v := nI (m_within S y i)) (e_within hM hY ea_within (by omega)) dM_directly_20 ?_
    have h20 := b_within hM hY (i := i) (by omega)
    refine lv_iload_n hx hb dM_directly_21 rfl (lv_at hl 3 rfl) ?_
    refine lv_icmp_ne (tgt := 41) hx hb dM_directly_22 (by decide) (fun c_22 => ?_) (fun c_22 => ?_)
    · skip
      refine lv_iload_n hx hb dM_directly_41 rfl (lv_at hl 1 rfl) ?_
      refine lv_istore_n (lv' := [(3, .int (nI acc)), (4, .int (nI i)), (0, va_rf (some y)), (1, .int ins), (2, .int nm)]) hx hb dM_directly_42 rfl hl (by decide) rfl (fun ls hl => ?_)
      refine lv_iinc (v := nI (i + 1)) (lv' := [(4, .int (nI (i + 1))), (3, .int (nI acc)), (0, va_rf (some y)), (1, .int ins), (2, .int nm)]) hx hb dM_directly_43 hl (k := 1) rfl (nI_1 _) (by decide) rfl (fun ls hl => ?_)
      refine lv_goto (tgt := 5) hx hb dM_directly_46 (by decide) ?_
      exact ih (i + 1) acc (by omega) (by omega) (by omega) (by rw [hf, f_dy, if_neg c_22]) ls (lv_sub hl [0, 1, 2, 3, 4] rfl)
    · skip
      refine s_aload_n (x := some y) hx hb dM_directly_25 rfl (lv_at hl 2 rfl) ?_
      obtain ⟨a_names, ea_names, sa_names⟩ := w_m_names hM hY
      refine s_getr hC hW gc_M iw_M 3 (by decide) uw_389 rfl hY (v := some a_names) ea_names dM_directly_26 ?_
      refine lv_iload hx hb dM_directly_29 (lv_at hl 0 rfl) ?_
      refine k_iald hC hW sa_names rfl rfl (by decide) i rfl (by omega) (v := m_names S y i) (e_names ea_names) dM_directly_31 ?_
      refine lv_iload_n hx hb dM_directly_32 rfl (lv_at hl 4 rfl) ?_
      refine lv_icmp_ne (tgt := 41) hx hb dM_directly_33 (by decide) (fun c_33 => ?_) (fun c_33 => ?_)
      · skip
        refine lv_iload_n hx hb dM_directly_41 rfl (lv_at hl 1 rfl) ?_
        refine lv_istore_n (lv' := [(3, .int (nI acc)), (4, .int (nI i)), (0, va_rf (some y)), (1, .int ins), (2, .int nm)]) hx hb dM_directly_42 rfl hl (by decide) rfl (fun ls hl => ?_)
        refine lv_iinc (v := nI (i + 1)) (lv' := [(4, .int (nI (i + 1))), (3, .int (nI acc)), (0, va_rf (some y)), (1, .int ins), (2, .int nm)]) hx hb dM_directly_43 hl (k := 1) rfl (nI_1 _) (by decide) rfl (fun ls hl => ?_)
        refine lv_goto (tgt := 5) hx hb dM_directly_46 (by decide) ?_
        exact ih (i + 1) acc (by omega) (by omega) (by omega) (by rw [hf, f_dy, if_pos c_22, if_neg c_33]) ls (lv_sub hl [0, 1, 2, 3, 4] rfl)
      · skip
        refine lv_iload hx hb dM_directly_36 (lv_at hl 0 rfl) ?_
        refine lv_goto (tgt := 42) hx hb dM_directly_38 (by decide) ?_
        refine lv_istore_n (lv' := [(3, .int (nI i)), (4, .int (nI i)), (0, va_rf (some y)), (1, .int ins), (2, .int nm)]) hx hb dM_directly_42 rfl hl (by decide) rfl (fun ls hl => ?_)
        refine lv_iinc (v := nI (i + 1)) (lv' := [(4, .int (nI (i + 1))), (3, .int (nI i)), (0, va_rf (some y)), (1, .int ins), (2, .int nm)]) hx hb dM_directly_43 hl (k := 1) rfl (nI_1 _) (by decide) rfl (fun ls hl => ?_)
        refine lv_goto (tgt := 5) hx hb dM_directly_46 (by decide) ?_
        exact ih (i + 1) i (by omega) (by omega) (by omega) (by rw [hf, f_dy, if_pos c_22, if_pos c_33]) ls (lv_sub hl [0, 1, 2, 3, 4] rfl)

set_option maxHeartbeats 4000000 in
set_option maxRecDepth 100000 in
theorem c_M_directly (l : Launch) (G : gs_G) (S : gs_S) (sz : Nat) (y : Nat) (ins nm : Int32) (hM : m_t S) (hY : g_sh S y = some (.inl 3)) : Met l yM_directly (kM_directly :: gU) { frames := 0, cells := 0, slots := 0, locals := 0 } (g_Pc G S sz [va_rf (some y), .int ins, .int nm]) (g_Qi G S sz (fun r S' => S' = S ∧ r = nI (f_dyM S y ins nm))) 0 0 (g_A S sz) := by
  refine s_head (by decide) (Nat.le_of_ble_eq_true rfl) ?_
  intro p e s m below meth c ls hsz hC hr hlocks hnm hl hW
  subst hsz
  obtain ⟨hx, hb, hml, hown, hts⟩ := id hC
  have hl : lv_has ls 5 [(0, va_rf (some y)), (1, .int ins), (2, .int nm)] := hl
  refine lv_iconst (v := 0) hx hb dM_directly_0 (by decide) ?_
  refine lv_istore_n (lv' := [(3, .int 0), (0, va_rf (some y)), (1, .int ins), (2, .int nm)]) hx hb dM_directly_1 rfl hl (by decide) rfl (fun ls hl => ?_)
  refine lv_iconst (v := 1) hx hb dM_directly_2 (by decide) ?_
  refine lv_istore (lv' := [(4, .int 1), (3, .int 0), (0, va_rf (some y)), (1, .int ins), (2, .int nm)]) hx hb dM_directly_3 hl (by decide) rfl (fun ls hl => ?_)
  exact lp_dy l G S y ins nm hM hY (b_programs hM hY) hC hr hlocks hW (m_programs S y) 1 0 (by omega) (by omega) (by omega) rfl ls hl

def f_ly (S : gs_S) (y : Nat) (q : Int32) : Nat → Nat → Nat
  | 0, a => a
  | k + 1, a => if a = 0 then a else if nI a = q then a else f_ly S y q k (m_within S y a)
def f_lyM (S : gs_S) (y p : Nat) (q : Int32) : Int32 := if nI (f_ly S y q 61 p) = q then (if q = 0 then 0 else 1) else 0

set_option maxHeartbeats 4000000 in
set_option maxRecDepth 100000 in
theorem lp_ly (l : Launch) (G : gs_G) (S : gs_S) (y p0 : Nat) (q : Int32) (hM : m_t S) (hY : g_sh S y = some (.inl 3)) {p : Program} {e : Env} {s : State} {m : MethodId} {below : List Frame} {meth : Method} {c : Code} (hC : CallFix p m c cM_liesIn 4 s #[va_rf (some y), Value.int (nI p0), Value.int q] gU yM_liesIn.cls) (hr : meth.sig.returnType = some .boolean) (hlocks : meth.locks = false) (hW : g_W G (g_A S s.heap.size) s S s.heap []) :
    ∀ (k : Nat) (a : Nat), a < k ∨ a = 0 → a ≤ 60 → f_ly S y q 61 p0 = f_ly S y q k a → ∀ (ls : Array Slot), lv_has ls 4 [(3, .int (nI a)), (0, va_rf (some y)), (1, .int (nI p0)), (2, .int q)] → W p l e { frames := 0, cells := 0, slots := 0, locals := 0 } s m #[va_rf (some y), Value.int (nI p0), Value.int q] below meth c s.heap [] 0 0 (MQ below (g_Qi G S s.heap.size (fun r S' => S' = S ∧ r = f_lyM S y p0 q)) #[va_rf (some y), Value.int (nI p0), Value.int q] s 0 0 (g_A S s.heap.size)) (F0 m 2 ls []) := by
  obtain ⟨hx, hb, hml, hown, hts⟩ := id hC
  intro k
  induction k with
  | zero =>
    intro a  ha ha60 hf ls hl
    have ha0 : a = 0 := by omega
    refine lv_iload_n hx hb dM_liesIn_2 rfl (lv_at hl 0 rfl) ?_
    refine lv_if_eq (tgt := 21) hx hb dM_liesIn_3 (by decide) (fun c_3 => ?_) (fun c => absurd (by rw [ha0]; rfl) c)
    refine lv_iload_n hx hb dM_liesIn_21 rfl (lv_at hl 0 rfl) ?_
    refine lv_iload_n hx hb dM_liesIn_22 rfl (lv_at hl 3 rfl) ?_
    refine lv_icmp_ne (tgt := 34) hx hb dM_liesIn_23 (by decide) (fun c_23 => ?_) (fun c_23 => ?_)
    · skip
      refine lv_iconst (v := 0) hx hb dM_liesIn_34 (by decide) ?_
      exact s_iret hC hr hlocks rfl hW dM_liesIn_35 ⟨rfl, by rw [f_lyM, hf, show f_ly S y q 0 a = a from rfl, if_neg c_23]⟩
    · skip
      refine lv_iload_n hx hb dM_liesIn_26 rfl (lv_at hl 3 rfl) ?_
      refine lv_if_eq (tgt := 34) hx hb dM_liesIn_27 (by decide) (fun c_27 => ?_) (fun c_27 => ?_)
      · skip
        refine lv_iconst (v := 0) hx hb dM_liesIn_34 (by decide) ?_
        exact s_iret hC hr hlocks rfl hW dM_liesIn_35 ⟨rfl, by rw [f_lyM, hf, show f_ly S y q 0 a = a from rfl, if_pos c_23, if_pos c_27]⟩
      · skip
        refine lv_iconst (v := 1) hx hb dM_liesIn_30 (by decide) ?_
        refine lv_goto (tgt := 35) hx hb dM_liesIn_31 (by decide) ?_
        exact s_iret hC hr hlocks rfl hW dM_liesIn_35 ⟨rfl, by rw [f_lyM, hf, show f_ly S y q 0 a = a from rfl, if_pos c_23, if_neg c_27]⟩
  | succ k ih =>
    intro a  ha ha60 hf ls hl
    refine lv_iload_n hx hb dM_liesIn_2 rfl (lv_at hl 0 rfl) ?_
    refine lv_if_eq (tgt := 21) hx hb dM_liesIn_3 (by decide) (fun c_3 => ?_) (fun c_3 => ?_)
    · skip
      refine lv_iload_n hx hb dM_liesIn_21 rfl (lv_at hl 0 rfl) ?_
      refine lv_iload_n hx hb dM_liesIn_22 rfl (lv_at hl 3 rfl) ?_
      refine lv_icmp_ne (tgt := 34) hx hb dM_liesIn_23 (by decide) (fun c_23 => ?_) (fun c_23 => ?_)
      · skip
        refine lv_iconst (v := 0) hx hb dM_liesIn_34 (by decide) ?_
        exact s_iret hC hr hlocks rfl hW dM_liesIn_35 ⟨rfl, by rw [f_lyM, hf, f_ly, if_pos ((x_n0 (by omega)).mp c_3), if_neg c_23]⟩
      · skip
        refine lv_iload_n hx hb dM_liesIn_26 rfl (lv_at hl 3 rfl) ?_
        refine lv_if_eq (tgt := 34) hx hb dM_liesIn_27 (by decide) (fun c_27 => ?_) (fun c_27 => ?_)
        · skip
          refine lv_iconst (v := 0) hx hb dM_liesIn_34 (by decide) ?_
          exact s_iret hC hr hlocks rfl hW dM_liesIn_35 ⟨rfl, by rw [f_lyM, hf, f_ly, if_pos ((x_n0 (by omega)).mp c_3), if_pos c_23, if_pos c_27]⟩
        · skip
          refine lv_iconst (v := 1) hx hb dM_liesIn_30 (by decide) ?_
          refine lv_goto (tgt := 35) hx hb dM_liesIn_31 (by decide) ?_
          exact s_iret hC hr hlocks rfl hW dM_liesIn_35 ⟨rfl, by rw [f_lyM, hf, f_ly, if_pos ((x_n0 (by omega)).mp c_3), if_pos c_23, if_neg c_27]⟩
    · skip
      refine lv_iload_n hx hb dM_liesIn_6 rfl (lv_at hl 0 rfl) ?_
      refine lv_iload_n hx hb dM_liesIn_7 rfl (lv_at hl 3 rfl) ?_
      refine lv_icmp_eq (tgt := 21) hx hb dM_liesIn_8 (by decide) (fun c_8 => ?_) (fun c_8 => ?_)
      · skip
        refine lv_iload_n hx hb dM_liesIn_21 rfl (lv_at hl 0 rfl) ?_
        refine lv_iload_n hx hb dM_liesIn_22 rfl (lv_at hl 3 rfl) ?_
        refine lv_icmp_ne (tgt := 34) hx hb dM_liesIn_23 (by decide) (fun c_23 => ?_) (fun c_23 => ?_)
        · skip
          refine lv_iconst (v := 0) hx hb dM_liesIn_34 (by decide) ?_
          exact s_iret hC hr hlocks rfl hW dM_liesIn_35 ⟨rfl, by rw [f_lyM, hf, f_ly, if_neg (fun z => c_3 ((x_n0 (by omega)).mpr z)), if_pos c_8, if_neg c_23]⟩
        · skip
          refine lv_iload_n hx hb dM_liesIn_26 rfl (lv_at hl 3 rfl) ?_
          refine lv_if_eq (tgt := 34) hx hb dM_liesIn_27 (by decide) (fun c_27 => ?_) (fun c_27 => ?_)
          · skip
            refine lv_iconst (v := 0) hx hb dM_liesIn_34 (by decide) ?_
            exact s_iret hC hr hlocks rfl hW dM_liesIn_35 ⟨rfl, by rw [f_lyM, hf, f_ly, if_neg (fun z => c_3 ((x_n0 (by omega)).mpr z)), if_pos c_8, if_pos c_23, if_pos c_27]⟩
          · skip
            refine lv_iconst (v := 1) hx hb dM_liesIn_30 (by decide) ?_
            refine lv_goto (tgt := 35) hx hb dM_liesIn_31 (by decide) ?_
            exact s_iret hC hr hlocks rfl hW dM_liesIn_35 ⟨rfl, by rw [f_lyM, hf, f_ly, if_neg (fun z => c_3 ((x_n0 (by omega)).mpr z)), if_pos c_8, if_pos c_23, if_neg c_27]⟩
      · skip
        refine s_aload_n (x := some y) hx hb dM_liesIn_11 rfl (lv_at hl 1 rfl) ?_
        obtain ⟨a_within, ea_within, sa_within⟩ := w_m_within hM hY
        refine s_getr hC hW gc_M iw_M 2 (by decide) uw_388 rfl hY (v := some a_within) ea_within dM_liesIn_12 ?_
        refine lv_iload_n hx hb dM_liesIn_15 rfl (lv_at hl 0 rfl) ?_
        refine k_iald hC hW sa_within rfl rfl (by decide) a rfl (by omega) (v := nI (m_within S y a)) (e_within hM hY ea_within (by omega)) dM_liesIn_16 ?_
        have h16 := b_within hM hY (i := a) (by omega)
        refine lv_istore_n (lv' := [(3, .int (nI (m_within S y a))), (0, va_rf (some y)), (1, .int (nI p0)), (2, .int q)]) hx hb dM_liesIn_17 rfl hl (by decide) rfl (fun ls hl => ?_)
        refine lv_goto (tgt := 2) hx hb dM_liesIn_18 (by decide) ?_
        exact ih (m_within S y a) (by omega) (by omega) (by rw [hf, f_ly, if_neg (fun z => c_3 ((x_n0 (by omega)).mpr z)), if_neg c_8]) ls hl

set_option maxHeartbeats 4000000 in
set_option maxRecDepth 100000 in
theorem c_M_liesIn (l : Launch) (G : gs_G) (S : gs_S) (sz : Nat) (y p0 : Nat) (q : Int32) (hM : m_t S) (hY : g_sh S y = some (.inl 3)) (hp0 : p0 ≤ 60) : Met l yM_liesIn (kM_liesIn :: gU) { frames := 0, cells := 0, slots := 0, locals := 0 } (g_Pc G S sz [va_rf (some y), .int (nI p0), .int q]) (g_Qi G S sz (fun r S' => S' = S ∧ r = f_lyM S y p0 q)) 0 0 (g_A S sz) := by
  refine s_head (by decide) (Nat.le_of_ble_eq_true rfl) ?_
  intro p e s m below meth c ls hsz hC hr hlocks hnm hl hW
  subst hsz
  obtain ⟨hx, hb, hml, hown, hts⟩ := id hC
  have hl : lv_has ls 4 [(0, va_rf (some y)), (1, .int (nI p0)), (2, .int q)] := hl
  refine lv_iload_n hx hb dM_liesIn_0 rfl (lv_at hl 1 rfl) ?_
  refine lv_istore_n (lv' := [(3, .int (nI p0)), (0, va_rf (some y)), (1, .int (nI p0)), (2, .int q)]) hx hb dM_liesIn_1 rfl hl (by decide) rfl (fun ls hl => ?_)
  exact lp_ly l G S y p0 q hM hY hC hr hlocks hW 61 p0 (by omega) (by omega) rfl ls hl
end
section
section GT2
variable {p : Program} {l : Launch} {e : Env} {R : Room} {s : State} {m : MethodId} {args : Array Value} {below : List Frame} {meth : Method} {c : Code} {H : Heap} {locs : List Loc} {cells slots : Nat} {Q : State → Prop} {pc : Nat} {ls : Array Slot} {rest : List Value}
theorem s_topl {x y : Int64} (h : x = y) (kk : W p l e R s m args below meth c H locs cells slots Q (F0 m pc ls (.long y :: rest))) : W p l e R s m args below meth c H locs cells slots Q (F0 m pc ls (.long x :: rest)) := by
  subst h
  exact kk
end GT2
/-! M.bytesOf -/
def f_byM (S : gs_S) (y : Nat) (n : Int32) : Int32 := if n < 0 then m_bytes S y (16 * (f_runM S y - 1) + (-1 - n).toNatClampNeg) else 8

set_option maxHeartbeats 4000000 in
set_option maxRecDepth 100000 in
theorem c_M_bytesOf (l : Launch) (G : gs_G) (S : gs_S) (sz : Nat) (y : Nat) (n : Int32) (hM : m_t S) (hY : g_sh S y = some (.inl 3)) (hc : n < 0 → 1 ≤ f_runM S y ∧ ∃ j : Nat, j < 16 ∧ -1 - n = nI j) : Met l yM_bytesOf (kM_bytesOf :: gU) { frames := 1, cells := 0, slots := 0, locals := 20 } (g_Pc G S sz [va_rf (some y), .int n]) (g_Qi G S sz (fun r S' => S' = S ∧ r = f_byM S y n)) 0 0 (g_A S sz) := by
  refine s_head (by decide) (Nat.le_of_ble_eq_true rfl) ?_
  intro p e s m below meth c ls hsz hC hr hlocks hnm hl hW
  subst hsz
  obtain ⟨hx, hb, hml, hown, hts⟩ := id hC
  have hl : lv_has ls 2 [(0, va_rf (some y)), (1, .int n)] := hl
  refine lv_iload_n hx hb dM_bytesOf_0 rfl (lv_at hl 1 rfl) ?_
  refine lv_if_lt (tgt := 9) hx hb dM_bytesOf_1 (by decide) (fun c_1 => ?_) (fun c_1 => ?_)
  · skip
    obtain ⟨hr1, j, hj, ej⟩ := hc c_1
    refine s_aload_n (x := some y) hx hb dM_bytesOf_9 rfl (lv_at hl 0 rfl) ?_
    obtain ⟨a_bytes, ea_bytes, sa_bytes⟩ := w_m_bytes hM hY
    refine s_getr hC hW gc_M iw_M 15 (by decide) uw_401 rfl hY (v := some a_bytes) ea_bytes dM_bytesOf_10 ?_
    refine lv_bipush (v := 16) hx hb dM_bytesOf_13 (by decide) ?_
    refine s_aload_n (x := some y) hx hb dM_bytesOf_15 rfl (lv_at hl 0 rfl) ?_
    refine s_calli hW (s_runV (n := 0) (As := []) (rest := [.int 16, va_rf (some a_bytes)]) hC (c_M_running l G S s.heap.size y hM hY) uc_M_running uw_514 uw_516 us_M_running uw_4 rfl rfl (by decide +kernel) ⟨by decide, by decide⟩ (g_preV hW gc_M hY []) rfl hl.1 rfl (Nat.le_of_ble_eq_true rfl) dM_bytesOf_16 ⟨Nat.le_of_ble_eq_true rfl, Nat.le_of_ble_eq_true rfl⟩) (fun q16 S16 H locs hp16 hW => ?_)
    obtain ⟨hs16, rfl⟩ := hp16
    replace hs16 := hs16.symm
    subst hs16
    have hrun16 := b_runM hM hY
    refine lv_iconst (v := 1) hx hb dM_bytesOf_19 (by decide) ?_
    refine lv_isub hx hb dM_bytesOf_20 ?_
    refine s_topi (x_sub1 (by omega)) ?_
    refine lv_imul hx hb dM_bytesOf_21 ?_
    refine s_topi (x_mul16 _) ?_
    refine lv_iconst (v := (-1)) hx hb dM_bytesOf_22 (by decide) ?_
    refine lv_iload_n hx hb dM_bytesOf_23 rfl (lv_at hl 1 rfl) ?_
    refine lv_isub hx hb dM_bytesOf_24 ?_
    refine s_topi ej ?_
    refine lv_iadd hx hb dM_bytesOf_25 ?_
    refine s_topi (nI_add _ _) ?_
    refine k_iald hC hW sa_bytes rfl rfl (by decide) ((16 * ((f_runM S y) - 1)) + j) rfl (by omega) (v := m_bytes S y ((16 * ((f_runM S y) - 1)) + j)) (e_bytes ea_bytes) dM_bytesOf_26 ?_
    exact s_iret hC hr hlocks rfl hW dM_bytesOf_27 ⟨rfl, by rw [f_byM, if_pos c_1, ej, nI_clamp (show j < 2 ^ 31 by omega)]⟩
  · skip
    refine lv_bipush (v := 8) hx hb dM_bytesOf_4 (by decide) ?_
    refine lv_goto (tgt := 27) hx hb dM_bytesOf_6 (by decide) ?_
    exact s_iret hC hr hlocks rfl hW dM_bytesOf_27 ⟨rfl, by rw [f_byM, if_neg c_1]⟩

/-! M.signed -/
def f_sg (v : Int64) (n : Int32) : Int64 := (v <<< ((64 - 8 * n).toInt64 &&& 63)) >>> ((64 - 8 * n).toInt64 &&& 63)

set_option maxHeartbeats 4000000 in
set_option maxRecDepth 100000 in
theorem c_M_signed (l : Launch) (G : gs_G) (S : gs_S) (sz : Nat) (v : Int64) (n : Int32) : Met l yM_signed (kM_signed :: gU) { frames := 0, cells := 0, slots := 0, locals := 0 } (g_Pc G S sz [.long v, .int n]) (g_Ql G S sz (fun r S' => S' = S ∧ r = f_sg v n)) 0 0 (g_A S sz) := by
  refine s_head (by decide) (Nat.le_of_ble_eq_true rfl) ?_
  intro p e s m below meth c ls hsz hC hr hlocks hnm hl hW
  subst hsz
  obtain ⟨hx, hb, hml, hown, hts⟩ := id hC
  have hl : lv_has ls 3 [(0, .long v), (2, .int n)] := hl
  refine lv_lload_n hx hb dM_signed_0 rfl (lv_at hl 0 rfl) ?_
  refine lv_bipush (v := 64) hx hb dM_signed_1 (by decide) ?_
  refine lv_bipush (v := 8) hx hb dM_signed_3 (by decide) ?_
  refine lv_iload_n hx hb dM_signed_5 rfl (lv_at hl 1 rfl) ?_
  refine lv_imul hx hb dM_signed_6 ?_
  refine lv_isub hx hb dM_signed_7 ?_
  refine lv_lshl hx hb dM_signed_8 rfl ?_
  refine lv_topl (fun v_8 ev_8 => ?_)
  refine lv_bipush (v := 64) hx hb dM_signed_9 (by decide) ?_
  refine lv_bipush (v := 8) hx hb dM_signed_11 (by decide) ?_
  refine lv_iload_n hx hb dM_signed_13 rfl (lv_at hl 1 rfl) ?_
  refine lv_imul hx hb dM_signed_14 ?_
  refine lv_isub hx hb dM_signed_15 ?_
  refine lv_lshr hx hb dM_signed_16 rfl ?_
  refine lv_topl (fun v_16 ev_16 => ?_)
  exact s_lret hC hr hlocks hW dM_signed_17 ⟨rfl, by rw [ev_16, ev_8]; rfl⟩

/-! M.store -/
def f_al (n : Int32) : Int64 := if n = 8 then -1 else (1 : Int64) <<< ((8 * n).toInt64 &&& 63) - 1
def f_st (S : gs_S) (y k : Nat) (n : Int32) (v : Int64) : gs_S := p_al S 22 (m_q S y 16) k ((m_memory S y k &&& (f_al n ^^^ (-1))) ||| (v &&& f_al n))

set_option maxHeartbeats 4000000 in
set_option maxRecDepth 100000 in
theorem c_M_store (l : Launch) (G : gs_G) (S : gs_S) (sz : Nat) (y k : Nat) (n : Int32) (v : Int64) (hM : m_t S) (hY : g_sh S y = some (.inl 3)) (hk : k < 60000) : Met l yM_store (kM_store :: gU) { frames := 0, cells := 0, slots := 0, locals := 0 } (g_Pc G S sz [va_rf (some y), .int (nI k), .int n, .long v]) (g_Qv G S sz (fun S' => S' = f_st S y k n v)) 0 0 (g_A S sz) := by
  refine s_head (by decide) (Nat.le_of_ble_eq_true rfl) ?_
  intro p e s m below meth c ls hsz hC hr hlocks hnm hl hW
  subst hsz
  obtain ⟨hx, hb, hml, hown, hts⟩ := id hC
  have hl : lv_has ls 7 [(0, va_rf (some y)), (1, .int (nI k)), (2, .int n), (3, .long v)] := hl
  refine lv_iload_n hx hb dM_store_0 rfl (lv_at hl 2 rfl) ?_
  refine lv_bipush (v := 8) hx hb dM_store_1 (by decide) ?_
  refine lv_icmp_ne (tgt := 12) hx hb dM_store_3 (by decide) (fun c_3 => ?_) (fun c_3 => ?_)
  · skip
    refine lv_lconst (v := 1) hx hb dM_store_12 (by decide) ?_
    refine lv_bipush (v := 8) hx hb dM_store_13 (by decide) ?_
    refine lv_iload_n hx hb dM_store_15 rfl (lv_at hl 2 rfl) ?_
    refine lv_imul hx hb dM_store_16 ?_
    refine lv_lshl hx hb dM_store_17 rfl ?_
    refine lv_topl (fun v_17 ev_17 => ?_)
    refine lv_lconst (v := 1) hx hb dM_store_18 (by decide) ?_
    refine lv_lsub hx hb dM_store_19 ?_
    refine lv_topl (fun v_20 ev_20 => ?_)
    refine lv_lstore (lv' := [(5, .long v_20), (0, va_rf (some y)), (1, .int (nI k)), (2, .int n), (3, .long v)]) hx hb dM_store_20 hl (by decide) rfl (fun ls hl => ?_)
    refine s_aload_n (x := some y) hx hb dM_store_22 rfl (lv_at hl 1 rfl) ?_
    obtain ⟨a_memory, ea_memory, sa_memory⟩ := w_m_memory hM hY
    refine s_getr hC hW gc_M iw_M 16 (by decide) uw_402 rfl hY (v := some a_memory) ea_memory dM_store_23 ?_
    refine lv_iload_n hx hb dM_store_26 rfl (lv_at hl 2 rfl) ?_
    refine s_aload_n (x := some y) hx hb dM_store_27 rfl (lv_at hl 1 rfl) ?_
    refine s_getr hC hW gc_M iw_M 16 (by decide) uw_402 rfl hY (v := some a_memory) ea_memory dM_store_28 ?_
    refine lv_iload_n hx hb dM_store_31 rfl (lv_at hl 2 rfl) ?_
    refine k_lald hC hW sa_memory rfl rfl (by decide) k rfl (by omega) (v := m_memory S y k) (e_memory ea_memory) dM_store_32 ?_
    refine lv_lload hx hb dM_store_33 (lv_at hl 0 rfl) ?_
    refine lv_ldc2 (v := (-1)) hx hb hown (hts _ uw_518) dM_store_35 ?_
    refine lv_lxor hx hb dM_store_38 ?_
    refine lv_land hx hb dM_store_39 ?_
    refine lv_lload_n hx hb dM_store_40 rfl (lv_at hl 4 rfl) ?_
    refine lv_lload hx hb dM_store_41 (lv_at hl 0 rfl) ?_
    refine lv_land hx hb dM_store_43 ?_
    refine lv_lor hx hb dM_store_44 ?_
    refine k_last hC hW sa_memory rfl rfl (by decide) k rfl (by omega) dM_store_45 (fun H locs hW => ?_)
    exact s_vret hC hr hlocks hW dM_store_46 (by rw [f_st, f_al, if_neg c_3, m_q, ea_memory, v_a_s, ev_20, ev_17])
  · skip
    refine lv_ldc2 (v := (-1)) hx hb hown (hts _ uw_518) dM_store_6 ?_
    refine lv_goto (tgt := 20) hx hb dM_store_9 (by decide) ?_
    refine lv_lstore (lv' := [(5, .long (-1)), (0, va_rf (some y)), (1, .int (nI k)), (2, .int n), (3, .long v)]) hx hb dM_store_20 hl (by decide) rfl (fun ls hl => ?_)
    refine s_aload_n (x := some y) hx hb dM_store_22 rfl (lv_at hl 1 rfl) ?_
    obtain ⟨a_memory, ea_memory, sa_memory⟩ := w_m_memory hM hY
    refine s_getr hC hW gc_M iw_M 16 (by decide) uw_402 rfl hY (v := some a_memory) ea_memory dM_store_23 ?_
    refine lv_iload_n hx hb dM_store_26 rfl (lv_at hl 2 rfl) ?_
    refine s_aload_n (x := some y) hx hb dM_store_27 rfl (lv_at hl 1 rfl) ?_
    refine s_getr hC hW gc_M iw_M 16 (by decide) uw_402 rfl hY (v := some a_memory) ea_memory dM_store_28 ?_
    refine lv_iload_n hx hb dM_store_31 rfl (lv_at hl 2 rfl) ?_
    refine k_lald hC hW sa_memory rfl rfl (by decide) k rfl (by omega) (v := m_memory S y k) (e_memory ea_memory) dM_store_32 ?_
    refine lv_lload hx hb dM_store_33 (lv_at hl 0 rfl) ?_
    refine lv_ldc2 (v := (-1)) hx hb hown (hts _ uw_518) dM_store_35 ?_
    refine lv_lxor hx hb dM_store_38 ?_
    refine lv_land hx hb dM_store_39 ?_
    refine lv_lload_n hx hb dM_store_40 rfl (lv_at hl 4 rfl) ?_
    refine lv_lload hx hb dM_store_41 (lv_at hl 0 rfl) ?_
    refine lv_land hx hb dM_store_43 ?_
    refine lv_lor hx hb dM_store_44 ?_
    refine k_last hC hW sa_memory rfl rfl (by decide) k rfl (by omega) dM_store_45 (fun H locs hW => ?_)
    exact s_vret hC hr hlocks hW dM_store_46 (by rw [f_st, f_al, if_pos c_3, m_q, ea_memory, v_a_s])

/-! M.copy -/
def f_cp (S : gs_S) (y : Nat) (v : Int64) : gs_S := p_i (p_al S 22 (m_q S y 16) (m_used S y) v) 3 17 y (nI (m_used S y + 1))
theorem mt_cp {S : gs_S} {y : Nat} {v : Int64} (hM : m_t S) (hu : m_used S y < 60000) : m_t (f_cp S y v) := mt_used (mt_pal hM) (by omega)

set_option maxHeartbeats 4000000 in
set_option maxRecDepth 100000 in
theorem c_M_copy (l : Launch) (G : gs_G) (S : gs_S) (sz : Nat) (y : Nat) (v : Int64) (hM : m_t S) (hY : g_sh S y = some (.inl 3)) (hu : m_used S y < 60000) : Met l yM_copy (kM_copy :: gU) { frames := 0, cells := 0, slots := 0, locals := 0 } (g_Pc G S sz [va_rf (some y), .long v]) (g_Qi G S sz (fun r S' => r = nI (m_used S y) ∧ S' = f_cp S y v)) 0 0 (g_A S sz) := by
  refine s_head (by decide) (Nat.le_of_ble_eq_true rfl) ?_
  intro p e s m below meth c ls hsz hC hr hlocks hnm hl hW
  subst hsz
  obtain ⟨hx, hb, hml, hown, hts⟩ := id hC
  have hl : lv_has ls 3 [(0, va_rf (some y)), (1, .long v)] := hl
  have h_programs := b_programs hM hY
  have h_cells := b_cells hM hY
  have h_active := b_active hM hY
  have h_prepared := b_prepared hM hY
  have h_arguments := b_arguments hM hY
  have h_used := b_used hM hY
  have h_preparedAhead := b_preparedAhead hM hY
  refine s_aload_n (x := some y) hx hb dM_copy_0 rfl (lv_at hl 0 rfl) ?_
  obtain ⟨a_memory, ea_memory, sa_memory⟩ := w_m_memory hM hY
  refine s_getr hC hW gc_M iw_M 16 (by decide) uw_402 rfl hY (v := some a_memory) ea_memory dM_copy_1 ?_
  refine s_aload_n (x := some y) hx hb dM_copy_4 rfl (lv_at hl 0 rfl) ?_
  refine s_geti hC hW gc_M iw_M 17 (by decide) uw_403 rfl hY (v := nI (m_used S y)) (e_used hM hY) dM_copy_5 ?_
  refine lv_lload_n hx hb dM_copy_8 rfl (lv_at hl 1 rfl) ?_
  refine k_last hC hW sa_memory rfl rfl (by decide) (m_used S y) rfl (by omega) dM_copy_9 (fun H locs hW => ?_)
  refine s_aload_n (x := some y) hx hb dM_copy_10 rfl (lv_at hl 0 rfl) ?_
  refine lv_dup hx hb dM_copy_11 rfl ?_
  refine s_geti hC hW gc_M iw_M 17 (by decide) uw_403 rfl hY (v := nI (m_used S y)) (e_used hM hY) dM_copy_12 ?_
  refine lv_iconst (v := 1) hx hb dM_copy_15 (by decide) ?_
  refine lv_iadd hx hb dM_copy_16 ?_
  refine s_topi (nI_1 _) ?_
  refine s_puti hC hW gc_M iw_M 17 (by decide) uw_403 (Or.inl rfl) rfl rfl rfl hY dM_copy_17 (fun H locs hW => ?_)
  refine s_aload_n (x := some y) hx hb dM_copy_20 rfl (lv_at hl 0 rfl) ?_
  refine s_geti hC hW gc_M iw_M 17 (by decide) uw_403 rfl hY (v := nI ((m_used S y) + 1)) (by simp [x_gs]) dM_copy_21 ?_
  refine lv_iconst (v := 1) hx hb dM_copy_24 (by decide) ?_
  refine lv_isub hx hb dM_copy_25 ?_
  refine s_topi (x_sub1 (by omega)) ?_
  exact s_iret hC hr hlocks rfl hW dM_copy_26 ⟨rfl, by rw [f_cp, m_q, ea_memory, v_a_s]⟩

/-! M.unprepare -/
def f_un (S : gs_S) (y : Nat) : gs_S := p_i (p_i (if m_prepared S y = 0 then S else p_i S 3 17 y (nI (m_preparedAhead S y))) 3 23 y 0) 3 24 y 0
theorem mt_un {S : gs_S} {y : Nat} (hM : m_t S) (hY : g_sh S y = some (.inl 3)) : m_t (f_un S y) := by
  unfold f_un
  refine mt_arguments (n := 0) (mt_prepared (n := 0) ?_ (by omega)) (by omega)
  split
  · exact hM
  · exact mt_used hM (b_preparedAhead hM hY)
theorem f_un_sh (S : gs_S) (y b : Nat) : g_sh (f_un S y) b = g_sh S b := by unfold f_un; split <;> rfl

set_option maxHeartbeats 4000000 in
set_option maxRecDepth 100000 in
theorem c_M_unprepare (l : Launch) (G : gs_G) (S : gs_S) (sz : Nat) (y : Nat) (hM : m_t S) (hY : g_sh S y = some (.inl 3)) : Met l yM_unprepare (kM_unprepare :: gU) { frames := 0, cells := 0, slots := 0, locals := 0 } (g_Pc G S sz [va_rf (some y)]) (g_Qv G S sz (fun S' => S' = f_un S y)) 0 0 (g_A S sz) := by
  refine s_head (by decide) (Nat.le_of_ble_eq_true rfl) ?_
  intro p e s m below meth c ls hsz hC hr hlocks hnm hl hW
  subst hsz
  obtain ⟨hx, hb, hml, hown, hts⟩ := id hC
  have hl : lv_has ls 1 [(0, va_rf (some y))] := hl
  have h_programs := b_programs hM hY
  have h_cells := b_cells hM hY
  have h_active := b_active hM hY
  have h_prepared := b_prepared hM hY
  have h_arguments := b_arguments hM hY
  have h_used := b_used hM hY
  have h_preparedAhead := b_preparedAhead hM hY
  refine s_aload_n (x := some y) hx hb dM_unprepare_0 rfl (lv_at hl 0 rfl) ?_
  refine s_geti hC hW gc_M iw_M 23 (by decide) uw_409 rfl hY (v := nI (m_prepared S y)) (e_prepared hM hY) dM_unprepare_1 ?_
  refine lv_if_eq (tgt := 15) hx hb dM_unprepare_4 (by decide) (fun c_4 => ?_) (fun c_4 => ?_)
  · skip
    refine s_aload_n (x := some y) hx hb dM_unprepare_15 rfl (lv_at hl 0 rfl) ?_
    refine lv_iconst (v := 0) hx hb dM_unprepare_16 (by decide) ?_
    refine s_puti hC hW gc_M iw_M 23 (by decide) uw_409 (Or.inl rfl) rfl rfl rfl hY dM_unprepare_17 (fun H locs hW => ?_)
    refine s_aload_n (x := some y) hx hb dM_unprepare_20 rfl (lv_at hl 0 rfl) ?_
    refine lv_iconst (v := 0) hx hb dM_unprepare_21 (by decide) ?_
    refine s_puti hC hW gc_M iw_M 24 (by decide) uw_410 (Or.inl rfl) rfl rfl rfl hY dM_unprepare_22 (fun H locs hW => ?_)
    exact s_vret hC hr hlocks hW dM_unprepare_25 (by rw [f_un, if_pos ((x_n0 (by omega)).mp c_4)])
  · skip
    refine s_aload_n (x := some y) hx hb dM_unprepare_7 rfl (lv_at hl 0 rfl) ?_
    refine s_aload_n (x := some y) hx hb dM_unprepare_8 rfl (lv_at hl 0 rfl) ?_
    refine s_geti hC hW gc_M iw_M 25 (by decide) uw_411 rfl hY (v := nI (m_preparedAhead S y)) (e_preparedAhead hM hY) dM_unprepare_9 ?_
    refine s_puti hC hW gc_M iw_M 17 (by decide) uw_403 (Or.inl rfl) rfl rfl rfl hY dM_unprepare_12 (fun H locs hW => ?_)
    refine s_aload_n (x := some y) hx hb dM_unprepare_15 rfl (lv_at hl 0 rfl) ?_
    refine lv_iconst (v := 0) hx hb dM_unprepare_16 (by decide) ?_
    refine s_puti hC hW gc_M iw_M 23 (by decide) uw_409 (Or.inl rfl) rfl rfl rfl hY dM_unprepare_17 (fun H locs hW => ?_)
    refine s_aload_n (x := some y) hx hb dM_unprepare_20 rfl (lv_at hl 0 rfl) ?_
    refine lv_iconst (v := 0) hx hb dM_unprepare_21 (by decide) ?_
    refine s_puti hC hW gc_M iw_M 24 (by decide) uw_410 (Or.inl rfl) rfl rfl rfl hY dM_unprepare_22 (fun H locs hW => ?_)
    exact s_vret hC hr hlocks hW dM_unprepare_25 (by rw [f_un, if_neg (fun z => c_4 ((x_n0 (by omega)).mpr z))])

/-! M.find -/
def f_f2 (S : gs_S) (y p : Nat) (nm : Int32) : Nat → Nat → Nat
  | 0, _ => f_dyM S y 0 nm
  | k + 1, a => if a = 0 then f_dyM S y 0 nm else if f_dyM S y (nI a) nm = 0 then f_f2 S y p nm k (m_within S y a) else if f_is S y (f_dyM S y (nI a) nm) 2 = 0 then f_f2 S y p nm k (m_within S y a) else if f_lyM S y p (nI (f_dyM S y (nI a) nm)) = 0 then f_dyM S y (nI a) nm else f_f2 S y p nm k (m_within S y a)
def f_f1 (S : gs_S) (y p : Nat) (nm : Int32) : Nat → Nat → Nat
  | 0, _ => f_f2 S y p nm 61 (m_within S y p)
  | k + 1, a => if a = 0 then f_f2 S y p nm 61 (m_within S y p) else if f_is S y a 4 = 0 then f_f1 S y p nm k (m_within S y a) else if m_names S y a = nm then a else f_f1 S y p nm k (m_within S y a)
def f_fi (S : gs_S) (y p : Nat) (nm : Int32) : Nat := if p = 0 then f_dyM S y 0 nm else if f_dyM S y (nI p) nm = 0 then f_f1 S y p nm 61 p else f_dyM S y (nI p) nm
theorem b_f2 {S : gs_S} {y p : Nat} {nm : Int32} (hM : m_t S) (hY : g_sh S y = some (.inl 3)) : ∀ (k a : Nat), f_f2 S y p nm k a ≤ 60 := by
  intro k
  induction k with
  | zero => intro a; exact b_dyM hM hY
  | succ k ih => intro a; rw [f_f2]; split; exact b_dyM hM hY; split; exact ih _; split; exact ih _; split; exact b_dyM hM hY; exact ih _
theorem b_f1 {S : gs_S} {y p : Nat} {nm : Int32} (hM : m_t S) (hY : g_sh S y = some (.inl 3)) : ∀ (k a : Nat), a ≤ 60 → f_f1 S y p nm k a ≤ 60 := by
  intro k
  induction k with
  | zero => intro a _; exact b_f2 hM hY _ _
  | succ k ih =>
    intro a ha
    have hw := b_within (i := a) hM hY (by omega)
    rw [f_f1]
    split
    · exact b_f2 hM hY _ _
    · split
      · exact ih _ (by omega)
      · split
        · exact ha
        · exact ih _ (by omega)
theorem b_fi {S : gs_S} {y p : Nat} {nm : Int32} (hM : m_t S) (hY : g_sh S y = some (.inl 3)) (hp : p ≤ 60) : f_fi S y p nm ≤ 60 := by
  unfold f_fi
  split
  · exact b_dyM hM hY
  · split
    · exact b_f1 hM hY _ _ hp
    · exact b_dyM hM hY

set_option maxHeartbeats 4000000 in
set_option maxRecDepth 100000 in
theorem lp_f2 (l : Launch) (G : gs_G) (S : gs_S) (y p0 : Nat) (nm : Int32) (hM : m_t S) (hY : g_sh S y = some (.inl 3)) (hp0 : p0 ≤ 60) {p : Program} {e : Env} {s : State} {m : MethodId} {below : List Frame} {meth : Method} {c : Code} (hC : CallFix p m c cM_find 6 s #[va_rf (some y), Value.int (nI p0), Value.int nm] gU yM_find.cls) (hr : meth.sig.returnType = some .int) (hlocks : meth.locks = false) :
    ∀ (k : Nat) (a : Nat), a < k ∨ a = 0 → a ≤ 60 → f_fi S y p0 nm = f_f2 S y p0 nm k a → ∀ (ls : Array Slot), lv_has ls 6 [(4, .int (nI a)), (0, va_rf (some y)), (1, .int (nI p0)), (2, .int nm)] → ∀ (H : Heap) (locs : List Loc), g_W G (g_A S s.heap.size) s S H locs → W p l e { frames := 1, cells := 0, slots := 0, locals := 24 } s m #[va_rf (some y), Value.int (nI p0), Value.int nm] below meth c H locs 0 0 (MQ below (g_Qi G S s.heap.size (fun r S' => S' = S ∧ r = nI (f_fi S y p0 nm))) #[va_rf (some y), Value.int (nI p0), Value.int nm] s 0 0 (g_A S s.heap.size)) (F0 m 76 ls []) := by
  obtain ⟨hx, hb, hml, hown, hts⟩ := id hC
  intro k
  induction k with
  | zero =>
    intro a  ha ha60 hf ls hl H locs hW
    refine lv_iload hx hb dM_find_76 (lv_at hl 0 rfl) ?_
    refine lv_if_eq (tgt := 130) hx hb dM_find_78 (by decide) (fun c_78 => ?_) (fun c => absurd (by rw [show a = 0 by omega]; rfl) c)
    refine s_aload_n (x := some y) hx hb dM_find_130 rfl (lv_at hl 1 rfl) ?_
    refine lv_iconst (v := 0) hx hb dM_find_131 (by decide) ?_
    refine lv_iload_n hx hb dM_find_132 rfl (lv_at hl 3 rfl) ?_
    refine s_calli hW (s_runV (n := 2) (As := [.int 0, .int nm]) (rest := []) hC (c_M_directly l G S H.size y 0 nm hM hY) uc_M_directly uw_486 uw_488 us_M_directly uw_4 rfl rfl (by decide +kernel) ⟨by decide, by decide⟩ (g_preV hW gc_M hY [.int 0, .int nm]) rfl hl.1 rfl (Nat.le_of_ble_eq_true rfl) dM_find_133 ⟨Nat.le_of_ble_eq_true rfl, Nat.le_of_ble_eq_true rfl⟩) (fun q133 S133 H locs hp133 hW => ?_)
    obtain ⟨hs133, rfl⟩ := hp133
    replace hs133 := hs133.symm
    subst hs133
    have hdy133 := b_dyM (ins := 0) (nm := nm) hM hY
    exact s_iret hC hr hlocks rfl hW dM_find_136 ⟨rfl, by rw [hf]; rfl⟩
  | succ k ih =>
    intro a  ha ha60 hf ls hl H locs hW
    refine lv_iload hx hb dM_find_76 (lv_at hl 0 rfl) ?_
    refine lv_if_eq (tgt := 130) hx hb dM_find_78 (by decide) (fun c_78 => ?_) (fun c_78 => ?_)
    · skip
      refine s_aload_n (x := some y) hx hb dM_find_130 rfl (lv_at hl 1 rfl) ?_
      refine lv_iconst (v := 0) hx hb dM_find_131 (by decide) ?_
      refine lv_iload_n hx hb dM_find_132 rfl (lv_at hl 3 rfl) ?_
      refine s_calli hW (s_runV (n := 2) (As := [.int 0, .int nm]) (rest := []) hC (c_M_directly l G S H.size y 0 nm hM hY) uc_M_directly uw_486 uw_488 us_M_directly uw_4 rfl rfl (by decide +kernel) ⟨by decide, by decide⟩ (g_preV hW gc_M hY [.int 0, .int nm]) rfl hl.1 rfl (Nat.le_of_ble_eq_true rfl) dM_find_133 ⟨Nat.le_of_ble_eq_true rfl, Nat.le_of_ble_eq_true rfl⟩) (fun q133 S133 H locs hp133 hW => ?_)
      obtain ⟨hs133, rfl⟩ := hp133
      replace hs133 := hs133.symm
      subst hs133
      have hdy133 := b_dyM (ins := 0) (nm := nm) hM hY
      exact s_iret hC hr hlocks rfl hW dM_find_136 ⟨rfl, by rw [hf, f_f2, if_pos ((x_n0 (by omega)).mp c_78)]⟩
    · skip
      refine s_aload_n (x := some y) hx hb dM_find_81 rfl (lv_at hl 1 rfl) ?_
      refine lv_iload hx hb dM_find_82 (lv_at hl 0 rfl) ?_
      refine lv_iload_n hx hb dM_find_84 rfl (lv_at hl 3 rfl) ?_
      refine s_calli hW (s_runV (n := 2) (As := [.int (nI a), .int nm]) (rest := []) hC (c_M_directly l G S H.size y (nI a) nm hM hY) uc_M_directly uw_486 uw_488 us_M_directly uw_4 rfl rfl (by decide +kernel) ⟨by decide, by decide⟩ (g_preV hW gc_M hY [.int (nI a), .int nm]) rfl hl.1 rfl (Nat.le_of_ble_eq_true rfl) dM_find_85 ⟨Nat.le_of_ble_eq_true rfl, Nat.le_of_ble_eq_true rfl⟩) (fun q85 S85 H locs hp85 hW => ?_)
      obtain ⟨hs85, rfl⟩ := hp85
      replace hs85 := hs85.symm
      subst hs85
      have hdy85 := b_dyM (ins := nI a) (nm := nm) hM hY
      refine lv_istore (lv' := [(5, .int (nI (f_dyM S y (nI a) nm))), (4, .int (nI a)), (0, va_rf (some y)), (1, .int (nI p0)), (2, .int nm)]) hx hb dM_find_88 hl (by decide) rfl (fun ls hl => ?_)
      refine lv_iload hx hb dM_find_90 (lv_at hl 0 rfl) ?_
      refine lv_if_eq (tgt := 118) hx hb dM_find_92 (by decide) (fun c_92 => ?_) (fun c_92 => ?_)
      · skip
        refine s_aload_n (x := some y) hx hb dM_find_118 rfl (lv_at hl 2 rfl) ?_
        obtain ⟨a_within, ea_within, sa_within⟩ := w_m_within hM hY
        refine s_getr hC hW gc_M iw_M 2 (by decide) uw_388 rfl hY (v := some a_within) ea_within dM_find_119 ?_
        refine lv_iload hx hb dM_find_122 (lv_at hl 1 rfl) ?_
        refine k_iald hC hW sa_within rfl rfl (by decide) a rfl (by omega) (v := nI (m_within S y a)) (e_within hM hY ea_within (by omega)) dM_find_124 ?_
        have h124 := b_within hM hY (i := a) (by omega)
        refine lv_istore (lv' := [(4, .int (nI (m_within S y a))), (5, .int (nI (f_dyM S y (nI a) nm))), (0, va_rf (some y)), (1, .int (nI p0)), (2, .int nm)]) hx hb dM_find_125 hl (by decide) rfl (fun ls hl => ?_)
        refine lv_goto (tgt := 76) hx hb dM_find_127 (by decide) ?_
        exact ih (m_within S y a) (by omega) (by omega) (by rw [hf, f_f2, if_neg (fun z => c_78 ((x_n0 (by omega)).mpr z)), if_pos ((x_n0 (by omega)).mp c_92)]) ls (lv_sub hl [0, 2, 3, 4] rfl) H locs hW
      · skip
        refine s_aload_n (x := some y) hx hb dM_find_95 rfl (lv_at hl 2 rfl) ?_
        refine lv_iload hx hb dM_find_96 (lv_at hl 0 rfl) ?_
        refine lv_iconst (v := 2) hx hb dM_find_98 (by decide) ?_
        refine s_calli hW (s_runV (n := 2) (As := [.int (nI (f_dyM S y (nI a) nm)), .int 2]) (rest := []) hC (c_M_is l G S H.size y (f_dyM S y (nI a) nm) 2 hM hY (by omega)) uc_M_is uw_519 uw_521 us_M_is uw_4 rfl rfl (by decide +kernel) ⟨by decide, by decide⟩ (g_preV hW gc_M hY [.int (nI (f_dyM S y (nI a) nm)), .int 2]) rfl hl.1 rfl (Nat.le_of_ble_eq_true rfl) dM_find_99 ⟨Nat.le_of_ble_eq_true rfl, Nat.le_of_ble_eq_true rfl⟩) (fun q99 S99 H locs hp99 hW => ?_)
        obtain ⟨hs99, rfl⟩ := hp99
        replace hs99 := hs99.symm
        subst hs99
        refine lv_if_eq (tgt := 118) hx hb dM_find_102 (by decide) (fun c_102 => ?_) (fun c_102 => ?_)
        · skip
          refine s_aload_n (x := some y) hx hb dM_find_118 rfl (lv_at hl 2 rfl) ?_
          obtain ⟨a_within, ea_within, sa_within⟩ := w_m_within hM hY
          refine s_getr hC hW gc_M iw_M 2 (by decide) uw_388 rfl hY (v := some a_within) ea_within dM_find_119 ?_
          refine lv_iload hx hb dM_find_122 (lv_at hl 1 rfl) ?_
          refine k_iald hC hW sa_within rfl rfl (by decide) a rfl (by omega) (v := nI (m_within S y a)) (e_within hM hY ea_within (by omega)) dM_find_124 ?_
          have h124 := b_within hM hY (i := a) (by omega)
          refine lv_istore (lv' := [(4, .int (nI (m_within S y a))), (5, .int (nI (f_dyM S y (nI a) nm))), (0, va_rf (some y)), (1, .int (nI p0)), (2, .int nm)]) hx hb dM_find_125 hl (by decide) rfl (fun ls hl => ?_)
          refine lv_goto (tgt := 76) hx hb dM_find_127 (by decide) ?_
          exact ih (m_within S y a) (by omega) (by omega) (by rw [hf, f_f2, if_neg (fun z => c_78 ((x_n0 (by omega)).mpr z)), if_neg (fun z => c_92 ((x_n0 (by omega)).mpr z)), if_pos c_102]) ls (lv_sub hl [0, 2, 3, 4] rfl) H locs hW
        · skip
          refine s_aload_n (x := some y) hx hb dM_find_105 rfl (lv_at hl 2 rfl) ?_
          refine lv_iload_n hx hb dM_find_106 rfl (lv_at hl 3 rfl) ?_
          refine lv_iload hx hb dM_find_107 (lv_at hl 0 rfl) ?_
          refine s_calli hW (s_runV (n := 2) (As := [.int (nI p0), .int (nI (f_dyM S y (nI a) nm))]) (rest := []) hC (c_M_liesIn l G S H.size y p0 (nI (f_dyM S y (nI a) nm)) hM hY (by omega)) uc_M_liesIn uw_523 uw_525 us_M_liesIn uw_4 rfl rfl (by decide +kernel) ⟨by decide, by decide⟩ (g_preV hW gc_M hY [.int (nI p0), .int (nI (f_dyM S y (nI a) nm))]) rfl hl.1 rfl (Nat.le_of_ble_eq_true rfl) dM_find_109 ⟨Nat.le_of_ble_eq_true rfl, Nat.le_of_ble_eq_true rfl⟩) (fun q109 S109 H locs hp109 hW => ?_)
          obtain ⟨hs109, rfl⟩ := hp109
          replace hs109 := hs109.symm
          subst hs109
          refine lv_if_ne (tgt := 118) hx hb dM_find_112 (by decide) (fun c_112 => ?_) (fun c_112 => ?_)
          · skip
            refine s_aload_n (x := some y) hx hb dM_find_118 rfl (lv_at hl 2 rfl) ?_
            obtain ⟨a_within, ea_within, sa_within⟩ := w_m_within hM hY
            refine s_getr hC hW gc_M iw_M 2 (by decide) uw_388 rfl hY (v := some a_within) ea_within dM_find_119 ?_
            refine lv_iload hx hb dM_find_122 (lv_at hl 1 rfl) ?_
            refine k_iald hC hW sa_within rfl rfl (by decide) a rfl (by omega) (v := nI (m_within S y a)) (e_within hM hY ea_within (by omega)) dM_find_124 ?_
            have h124 := b_within hM hY (i := a) (by omega)
            refine lv_istore (lv' := [(4, .int (nI (m_within S y a))), (5, .int (nI (f_dyM S y (nI a) nm))), (0, va_rf (some y)), (1, .int (nI p0)), (2, .int nm)]) hx hb dM_find_125 hl (by decide) rfl (fun ls hl => ?_)
            refine lv_goto (tgt := 76) hx hb dM_find_127 (by decide) ?_
            exact ih (m_within S y a) (by omega) (by omega) (by rw [hf, f_f2, if_neg (fun z => c_78 ((x_n0 (by omega)).mpr z)), if_neg (fun z => c_92 ((x_n0 (by omega)).mpr z)), if_neg c_102, if_neg c_112]) ls (lv_sub hl [0, 2, 3, 4] rfl) H locs hW
          · skip
            refine lv_iload hx hb dM_find_115 (lv_at hl 0 rfl) ?_
            exact s_iret hC hr hlocks rfl hW dM_find_117 ⟨rfl, by rw [hf, f_f2, if_neg (fun z => c_78 ((x_n0 (by omega)).mpr z)), if_neg (fun z => c_92 ((x_n0 (by omega)).mpr z)), if_neg c_102, if_pos c_112]⟩

set_option maxHeartbeats 4000000 in
set_option maxRecDepth 100000 in
theorem lp_f1 (l : Launch) (G : gs_G) (S : gs_S) (y p0 : Nat) (nm : Int32) (hM : m_t S) (hY : g_sh S y = some (.inl 3)) (hp0 : p0 ≤ 60) {p : Program} {e : Env} {s : State} {m : MethodId} {below : List Frame} {meth : Method} {c : Code} (hC : CallFix p m c cM_find 6 s #[va_rf (some y), Value.int (nI p0), Value.int nm] gU yM_find.cls) (hr : meth.sig.returnType = some .int) (hlocks : meth.locks = false) :
    ∀ (k : Nat) (a d0 : Nat), a < k ∨ a = 0 → a ≤ 60 → f_fi S y p0 nm = f_f1 S y p0 nm k a → ∀ (ls : Array Slot), lv_has ls 6 [(4, .int (nI a)), (3, .int (nI d0)), (0, va_rf (some y)), (1, .int (nI p0)), (2, .int nm)] → ∀ (H : Heap) (locs : List Loc), g_W G (g_A S s.heap.size) s S H locs → W p l e { frames := 1, cells := 0, slots := 0, locals := 24 } s m #[va_rf (some y), Value.int (nI p0), Value.int nm] below meth c H locs 0 0 (MQ below (g_Qi G S s.heap.size (fun r S' => S' = S ∧ r = nI (f_fi S y p0 nm))) #[va_rf (some y), Value.int (nI p0), Value.int nm] s 0 0 (g_A S s.heap.size)) (F0 m 27 ls []) := by
  obtain ⟨hx, hb, hml, hown, hts⟩ := id hC
  intro k
  induction k with
  | zero =>
    intro a d0  ha ha60 hf ls hl H locs hW
    refine lv_iload hx hb dM_find_27 (lv_at hl 0 rfl) ?_
    refine lv_if_eq (tgt := 68) hx hb dM_find_29 (by decide) (fun c_29 => ?_) (fun c => absurd (by rw [show a = 0 by omega]; rfl) c)
    refine s_aload_n (x := some y) hx hb dM_find_68 rfl (lv_at hl 2 rfl) ?_
    obtain ⟨a_within, ea_within, sa_within⟩ := w_m_within hM hY
    refine s_getr hC hW gc_M iw_M 2 (by decide) uw_388 rfl hY (v := some a_within) ea_within dM_find_69 ?_
    refine lv_iload_n hx hb dM_find_72 rfl (lv_at hl 3 rfl) ?_
    refine k_iald hC hW sa_within rfl rfl (by decide) p0 rfl (by omega) (v := nI (m_within S y p0)) (e_within hM hY ea_within (by omega)) dM_find_73 ?_
    have h73 := b_within hM hY (i := p0) (by omega)
    refine lv_istore (lv' := [(4, .int (nI (m_within S y p0))), (3, .int (nI d0)), (0, va_rf (some y)), (1, .int (nI p0)), (2, .int nm)]) hx hb dM_find_74 hl (by decide) rfl (fun ls hl => ?_)
    exact lp_f2 l G S y p0 nm hM hY hp0 hC hr hlocks 61 (m_within S y p0) (by omega) (by omega) (by rw [hf]; rfl) ls (lv_sub hl [0, 2, 3, 4] rfl) _ _ hW
  | succ k ih =>
    intro a d0  ha ha60 hf ls hl H locs hW
    refine lv_iload hx hb dM_find_27 (lv_at hl 0 rfl) ?_
    refine lv_if_eq (tgt := 68) hx hb dM_find_29 (by decide) (fun c_29 => ?_) (fun c_29 => ?_)
    · skip
      refine s_aload_n (x := some y) hx hb dM_find_68 rfl (lv_at hl 2 rfl) ?_
      obtain ⟨a_within, ea_within, sa_within⟩ := w_m_within hM hY
      refine s_getr hC hW gc_M iw_M 2 (by decide) uw_388 rfl hY (v := some a_within) ea_within dM_find_69 ?_
      refine lv_iload_n hx hb dM_find_72 rfl (lv_at hl 3 rfl) ?_
      refine k_iald hC hW sa_within rfl rfl (by decide) p0 rfl (by omega) (v := nI (m_within S y p0)) (e_within hM hY ea_within (by omega)) dM_find_73 ?_
      have h73 := b_within hM hY (i := p0) (by omega)
      refine lv_istore (lv' := [(4, .int (nI (m_within S y p0))), (3, .int (nI d0)), (0, va_rf (some y)), (1, .int (nI p0)), (2, .int nm)]) hx hb dM_find_74 hl (by decide) rfl (fun ls hl => ?_)
      exact lp_f2 l G S y p0 nm hM hY hp0 hC hr hlocks 61 (m_within S y p0) (by omega) (by omega) (by rw [hf, f_f1, if_pos ((x_n0 (by omega)).mp c_29)]) ls (lv_sub hl [0, 2, 3, 4] rfl) _ _ hW
    · skip
      refine s_aload_n (x := some y) hx hb dM_find_32 rfl (lv_at hl 2 rfl) ?_
      refine lv_iload hx hb dM_find_33 (lv_at hl 0 rfl) ?_
      refine lv_iconst (v := 4) hx hb dM_find_35 (by decide) ?_
      refine s_calli hW (s_runV (n := 2) (As := [.int (nI a), .int 4]) (rest := []) hC (c_M_is l G S H.size y a 4 hM hY (by omega)) uc_M_is uw_519 uw_521 us_M_is uw_4 rfl rfl (by decide +kernel) ⟨by decide, by decide⟩ (g_preV hW gc_M hY [.int (nI a), .int 4]) rfl hl.1 rfl (Nat.le_of_ble_eq_true rfl) dM_find_36 ⟨Nat.le_of_ble_eq_true rfl, Nat.le_of_ble_eq_true rfl⟩) (fun q36 S36 H locs hp36 hW => ?_)
      obtain ⟨hs36, rfl⟩ := hp36
      replace hs36 := hs36.symm
      subst hs36
      refine lv_if_eq (tgt := 56) hx hb dM_find_39 (by decide) (fun c_39 => ?_) (fun c_39 => ?_)
      · skip
        refine s_aload_n (x := some y) hx hb dM_find_56 rfl (lv_at hl 2 rfl) ?_
        obtain ⟨a_within, ea_within, sa_within⟩ := w_m_within hM hY
        refine s_getr hC hW gc_M iw_M 2 (by decide) uw_388 rfl hY (v := some a_within) ea_within dM_find_57 ?_
        refine lv_iload hx hb dM_find_60 (lv_at hl 0 rfl) ?_
        refine k_iald hC hW sa_within rfl rfl (by decide) a rfl (by omega) (v := nI (m_within S y a)) (e_within hM hY ea_within (by omega)) dM_find_62 ?_
        have h62 := b_within hM hY (i := a) (by omega)
        refine lv_istore (lv' := [(4, .int (nI (m_within S y a))), (3, .int (nI d0)), (0, va_rf (some y)), (1, .int (nI p0)), (2, .int nm)]) hx hb dM_find_63 hl (by decide) rfl (fun ls hl => ?_)
        refine lv_goto (tgt := 27) hx hb dM_find_65 (by decide) ?_
        exact ih (m_within S y a) d0 (by omega) (by omega) (by rw [hf, f_f1, if_neg (fun z => c_29 ((x_n0 (by omega)).mpr z)), if_pos c_39]) ls hl H locs hW
      · skip
        refine s_aload_n (x := some y) hx hb dM_find_42 rfl (lv_at hl 2 rfl) ?_
        obtain ⟨a_names, ea_names, sa_names⟩ := w_m_names hM hY
        refine s_getr hC hW gc_M iw_M 3 (by decide) uw_389 rfl hY (v := some a_names) ea_names dM_find_43 ?_
        refine lv_iload hx hb dM_find_46 (lv_at hl 0 rfl) ?_
        refine k_iald hC hW sa_names rfl rfl (by decide) a rfl (by omega) (v := m_names S y a) (e_names ea_names) dM_find_48 ?_
        refine lv_iload_n hx hb dM_find_49 rfl (lv_at hl 4 rfl) ?_
        refine lv_icmp_ne (tgt := 56) hx hb dM_find_50 (by decide) (fun c_50 => ?_) (fun c_50 => ?_)
        · skip
          refine s_aload_n (x := some y) hx hb dM_find_56 rfl (lv_at hl 2 rfl) ?_
          obtain ⟨a_within, ea_within, sa_within⟩ := w_m_within hM hY
          refine s_getr hC hW gc_M iw_M 2 (by decide) uw_388 rfl hY (v := some a_within) ea_within dM_find_57 ?_
          refine lv_iload hx hb dM_find_60 (lv_at hl 0 rfl) ?_
          refine k_iald hC hW sa_within rfl rfl (by decide) a rfl (by omega) (v := nI (m_within S y a)) (e_within hM hY ea_within (by omega)) dM_find_62 ?_
          have h62 := b_within hM hY (i := a) (by omega)
          refine lv_istore (lv' := [(4, .int (nI (m_within S y a))), (3, .int (nI d0)), (0, va_rf (some y)), (1, .int (nI p0)), (2, .int nm)]) hx hb dM_find_63 hl (by decide) rfl (fun ls hl => ?_)
          refine lv_goto (tgt := 27) hx hb dM_find_65 (by decide) ?_
          exact ih (m_within S y a) d0 (by omega) (by omega) (by rw [hf, f_f1, if_neg (fun z => c_29 ((x_n0 (by omega)).mpr z)), if_neg c_39, if_neg c_50]) ls hl H locs hW
        · skip
          refine lv_iload hx hb dM_find_53 (lv_at hl 0 rfl) ?_
          exact s_iret hC hr hlocks rfl hW dM_find_55 ⟨rfl, by rw [hf, f_f1, if_neg (fun z => c_29 ((x_n0 (by omega)).mpr z)), if_neg c_39, if_pos c_50]⟩

set_option maxHeartbeats 4000000 in
set_option maxRecDepth 100000 in
theorem c_M_find (l : Launch) (G : gs_G) (S : gs_S) (sz : Nat) (y p0 : Nat) (nm : Int32) (hM : m_t S) (hY : g_sh S y = some (.inl 3)) (hp0 : p0 ≤ 60) : Met l yM_find (kM_find :: gU) { frames := 1, cells := 0, slots := 0, locals := 24 } (g_Pc G S sz [va_rf (some y), .int (nI p0), .int nm]) (g_Qi G S sz (fun r S' => S' = S ∧ r = nI (f_fi S y p0 nm))) 0 0 (g_A S sz) := by
  refine s_head (by decide) (Nat.le_of_ble_eq_true rfl) ?_
  intro p e s m below meth c ls hsz hC hr hlocks hnm hl hW
  subst hsz
  obtain ⟨hx, hb, hml, hown, hts⟩ := id hC
  have hl : lv_has ls 6 [(0, va_rf (some y)), (1, .int (nI p0)), (2, .int nm)] := hl
  refine lv_iload_n hx hb dM_find_0 rfl (lv_at hl 1 rfl) ?_
  refine lv_if_ne (tgt := 11) hx hb dM_find_1 (by decide) (fun c_1 => ?_) (fun c_1 => ?_)
  · skip
    refine s_aload_n (x := some y) hx hb dM_find_11 rfl (lv_at hl 0 rfl) ?_
    refine lv_iload_n hx hb dM_find_12 rfl (lv_at hl 1 rfl) ?_
    refine lv_iload_n hx hb dM_find_13 rfl (lv_at hl 2 rfl) ?_
    refine s_calli hW (s_runV (n := 2) (As := [.int (nI p0), .int nm]) (rest := []) hC (c_M_directly l G S s.heap.size y (nI p0) nm hM hY) uc_M_directly uw_486 uw_488 us_M_directly uw_4 rfl rfl (by decide +kernel) ⟨by decide, by decide⟩ (g_preV hW gc_M hY [.int (nI p0), .int nm]) rfl hl.1 rfl (Nat.le_of_ble_eq_true rfl) dM_find_14 ⟨Nat.le_of_ble_eq_true rfl, Nat.le_of_ble_eq_true rfl⟩) (fun q14 S14 H locs hp14 hW => ?_)
    obtain ⟨hs14, rfl⟩ := hp14
    replace hs14 := hs14.symm
    subst hs14
    have hdy14 := b_dyM (ins := nI p0) (nm := nm) hM hY
    refine lv_istore_n (lv' := [(3, .int (nI (f_dyM S y (nI p0) nm))), (0, va_rf (some y)), (1, .int (nI p0)), (2, .int nm)]) hx hb dM_find_17 rfl hl (by decide) rfl (fun ls hl => ?_)
    refine lv_iload_n hx hb dM_find_18 rfl (lv_at hl 0 rfl) ?_
    refine lv_if_eq (tgt := 24) hx hb dM_find_19 (by decide) (fun c_19 => ?_) (fun c_19 => ?_)
    · skip
      refine lv_iload_n hx hb dM_find_24 rfl (lv_at hl 2 rfl) ?_
      refine lv_istore (lv' := [(4, .int (nI p0)), (3, .int (nI (f_dyM S y (nI p0) nm))), (0, va_rf (some y)), (1, .int (nI p0)), (2, .int nm)]) hx hb dM_find_25 hl (by decide) rfl (fun ls hl => ?_)
      exact lp_f1 l G S y p0 nm hM hY hp0 hC hr hlocks 61 p0 _ (by omega) (by omega) (by rw [f_fi, if_neg (fun z => c_1 ((x_n0 (by omega)).mpr z)), if_pos ((x_n0 (by omega)).mp c_19)]) ls (lv_sub hl [0, 1, 2, 3, 4] rfl) _ _ hW
    · skip
      refine lv_iload_n hx hb dM_find_22 rfl (lv_at hl 0 rfl) ?_
      exact s_iret hC hr hlocks rfl hW dM_find_23 ⟨rfl, by rw [f_fi, if_neg (fun z => c_1 ((x_n0 (by omega)).mpr z)), if_neg (fun z => c_19 ((x_n0 (by omega)).mpr z))]⟩
  · skip
    refine s_aload_n (x := some y) hx hb dM_find_4 rfl (lv_at hl 0 rfl) ?_
    refine lv_iconst (v := 0) hx hb dM_find_5 (by decide) ?_
    refine lv_iload_n hx hb dM_find_6 rfl (lv_at hl 2 rfl) ?_
    refine s_calli hW (s_runV (n := 2) (As := [.int 0, .int nm]) (rest := []) hC (c_M_directly l G S s.heap.size y 0 nm hM hY) uc_M_directly uw_486 uw_488 us_M_directly uw_4 rfl rfl (by decide +kernel) ⟨by decide, by decide⟩ (g_preV hW gc_M hY [.int 0, .int nm]) rfl hl.1 rfl (Nat.le_of_ble_eq_true rfl) dM_find_7 ⟨Nat.le_of_ble_eq_true rfl, Nat.le_of_ble_eq_true rfl⟩) (fun q7 S7 H locs hp7 hW => ?_)
    obtain ⟨hs7, rfl⟩ := hp7
    replace hs7 := hs7.symm
    subst hs7
    have hdy7 := b_dyM (ins := 0) (nm := nm) hM hY
    exact s_iret hC hr hlocks rfl hW dM_find_10 ⟨rfl, by rw [f_fi, if_pos ((x_n0 (by omega)).mp c_1)]⟩
end
section
/-! M.place -/
theorem x_negL {n : Int32} (h : ¬ 0 ≤ n) : ∃ j : Nat, j < 2 ^ 31 ∧ -1 - n = nI j ∧ (-1 : Int64) - n.toInt64 = lN j := by
  obtain ⟨j, hj, ej⟩ := x_neg h
  refine ⟨j, hj, ej, ?_⟩
  have h1 := n.toInt_lt
  have h2 := n.le_toInt
  have e1 : (-1 - n).toInt = (j : Int) := by rw [ej, nI_toInt hj]
  rw [Int32.le_iff_toInt_le] at h
  have h3 : (-1 - n).toInt = -1 - n.toInt := by
    rw [Int32.toInt_sub]
    have : (-1 : Int32).toInt = -1 := by decide
    rw [this]
    simp at h
    simp only [Int.bmod]
    omega
  have e2 : n.toInt = -1 - (j : Int) := by omega
  apply Int64.toInt_inj.mp
  rw [lN_toInt hj, Int64.toInt_sub, Int32.toInt_toInt64, e2]
  have : (-1 : Int64).toInt = -1 := by decide
  rw [this]
  simp only [Int.bmod]
  omega
theorem x_runA {S : gs_S} {y : Nat} (h : f_runM S y ≠ 0) : m_active S y ≠ 0 := by
  intro z
  apply h
  rw [f_runM, if_pos z]
def f_pb (S : gs_S) (y o : Nat) : Nat → Nat → Int32 → Int32
  | 0, _, acc => acc
  | k + 1, i, acc => f_pb S y o k (i + 1) (if nI (m_callOf S y i) = nI o then nI (m_baseOf S y i) else acc)
def f_seen (S : gs_S) (y p o : Nat) : Int32 := if p = 0 then 0 else if nI o = nI p then 1 else if f_is S y o 8 = 0 then 0 else if f_lyM S y p (nI o) = 0 then 0 else 1
def f_pc (S : gs_S) (y : Nat) (n : Int32) (j : Nat) : Int32 := if m_owner S y j = 0 then n else if f_seen S y (f_runM S y) (m_owner S y j) = 0 then -1 else if f_is S y (m_owner S y j) 4 = 0 then n else if f_pb S y (m_owner S y j) (m_active S y) 0 (-1) = -1 then n else f_pb S y (m_owner S y j) (m_active S y) 0 (-1) + nI (m_rank S y j)
def f_plM (S : gs_S) (y : Nat) (n : Int32) : Int32 := if 0 ≤ n then (if n < nI (m_cells S y) then f_pc S y n n.toNatClampNeg else -1)
  else if f_runM S y = 0 then -1 else if (-1 - n).toNatClampNeg < m_manyFormals S y (f_runM S y) then m_placeOf S y (16 * (m_active S y - 1) + (-1 - n).toNatClampNeg) else -1
theorem b_pb {S : gs_S} {y o : Nat} (hM : m_t S) (hY : g_sh S y = some (.inl 3)) : ∀ (k i : Nat) (acc : Int32), i + k ≤ 600 → (acc = -1 ∨ ∃ b : Nat, b ≤ 59800 ∧ acc = nI b) → (f_pb S y o k i acc = -1 ∨ ∃ b : Nat, b ≤ 59800 ∧ f_pb S y o k i acc = nI b) := by
  intro k
  induction k with
  | zero => intro i acc _ h; exact h
  | succ k ih =>
    intro i acc hi h
    rw [f_pb]
    refine ih _ _ (by omega) ?_
    split
    · exact Or.inr ⟨_, b_baseOf hM hY (by omega), rfl⟩
    · exact h
theorem x_plM {S : gs_S} {y : Nat} {n : Int32} (hM : m_t S) (hY : g_sh S y = some (.inl 3)) (h : ¬ f_plM S y n = -1) : (n < 0 → 1 ≤ f_runM S y ∧ ∃ j : Nat, j < 16 ∧ -1 - n = nI j) ∧ ∃ q : Nat, q < 60000 ∧ f_plM S y n = nI q := by
  have hc := b_cells hM hY
  have hr := b_runM hM hY
  have ha := b_active hM hY
  unfold f_plM at h ⊢
  split at h
  · rename_i c1
    refine ⟨fun z => absurd c1 (fun c => by rw [Int32.lt_iff_toInt_lt] at z; rw [Int32.le_iff_toInt_le] at c; omega), ?_⟩
    rw [if_pos c1]
    split at h
    · rename_i c2
      rw [if_pos c2]
      obtain ⟨j, hj, ej⟩ := x_cell hc rfl c1 c2
      have ecl : n.toNatClampNeg = j := by rw [ej, nI_clamp (by omega)]
      rw [ecl] at h ⊢
      have hr := b_rank (i := j) hM hY (by omega)
      unfold f_pc at h ⊢
      split
      · exact ⟨j, by omega, ej⟩
      · split
        · rename_i z1 z2; rw [if_neg z1, if_pos z2] at h; exact absurd rfl h
        · split
          · exact ⟨j, by omega, ej⟩
          · split
            · exact ⟨j, by omega, ej⟩
            · rename_i z
              rcases b_pb (o := m_owner S y j) hM hY (m_active S y) 0 (-1) (by omega) (Or.inl rfl) with w | ⟨b, hb, w⟩
              · exact absurd w z
              · rw [w, nI_add]; exact ⟨b + m_rank S y j, by omega, rfl⟩
    · exact absurd rfl h
  · rename_i c1
    split at h
    · exact absurd rfl h
    · rename_i c2
      split at h
      · rename_i c3
        obtain ⟨j, hj, ej⟩ := x_neg c1
        have ecl : (-1 - n).toNatClampNeg = j := by rw [ej, nI_clamp (by omega)]
        rw [ecl] at c3 h
        have hmf := b_manyFormals (i := f_runM S y) hM hY (by omega)
        refine ⟨fun _ => ⟨by omega, j, by omega, ej⟩, ?_⟩
        rw [if_neg c1, if_neg c2, ecl, if_pos c3]
        obtain ⟨b, eb, sb⟩ := w_m_placeOf hM hY
        have hac := x_runA c2
        rcases m_g26 (i := 16 * (m_active S y - 1) + j) hM sb (by omega) with w | ⟨q, w, hq⟩
        · rw [e_placeOf eb] at w; exact absurd w h
        · rw [e_placeOf eb] at w; exact ⟨q, hq, w⟩
      · exact absurd rfl h

set_option maxHeartbeats 4000000 in
set_option maxRecDepth 100000 in
theorem lp_pb (l : Launch) (G : gs_G) (S : gs_S) (y j : Nat) (n : Int32) (hM : m_t S) (hY : g_sh S y = some (.inl 3)) (h_active : m_active S y ≤ 256) (hj : j < 200) (ej : n = nI j) (hfin : f_plM S y n = if f_pb S y (m_owner S y j) (m_active S y) 0 (-1) = -1 then n else f_pb S y (m_owner S y j) (m_active S y) 0 (-1) + nI (m_rank S y j)) {p : Program} {e : Env} {s : State} {m : MethodId} {below : List Frame} {meth : Method} {c : Code} (hC : CallFix p m c cM_place 7 s #[va_rf (some y), Value.int n] gU yM_place.cls) (hr : meth.sig.returnType = some .int) (hlocks : meth.locks = false) {H : Heap} {locs : List Loc} (hW : g_W G (g_A S s.heap.size) s S H locs) :
    ∀ (k : Nat) (i : Nat) (acc : Int32), i + k = m_active S y → f_pb S y (m_owner S y j) (m_active S y) 0 (-1) = f_pb S y (m_owner S y j) k i acc → ∀ (ls : Array Slot), lv_has ls 7 [(6, .int (nI i)), (5, .int acc), (4, .int 1), (3, .int (nI (m_owner S y j))), (2, .int (nI (f_runM S y))), (0, va_rf (some y)), (1, .int n)] → W p l e { frames := 1, cells := 0, slots := 0, locals := 23 } s m #[va_rf (some y), Value.int n] below meth c H locs 0 0 (MQ below (g_Qi G S s.heap.size (fun r S' => S' = S ∧ r = f_plM S y n)) #[va_rf (some y), Value.int n] s 0 0 (g_A S s.heap.size)) (F0 m 136 ls []) := by
  obtain ⟨hx, hb, hml, hown, hts⟩ := id hC
  intro k
  induction k with
  | zero =>
    intro i  acc  hi hf ls hl
    refine lv_iload hx hb dM_place_136 (lv_at hl 0 rfl) ?_
    refine s_aload_n (x := some y) hx hb dM_place_138 rfl (lv_at hl 5 rfl) ?_
    refine s_geti hC hW gc_M iw_M 22 (by decide) uw_408 rfl hY (v := nI (m_active S y)) (e_active hM hY) dM_place_139 ?_
    refine lv_icmp_ge (tgt := 176) hx hb dM_place_142 (by decide) (fun c_142 => ?_) (fun c => absurd ((nI_leI (by omega) (by omega)).mpr (by omega)) c)
    refine lv_iload hx hb dM_place_176 (lv_at hl 1 rfl) ?_
    refine lv_iconst (v := (-1)) hx hb dM_place_178 (by decide) ?_
    refine lv_icmp_ne (tgt := 186) hx hb dM_place_179 (by decide) (fun c_179 => ?_) (fun c_179 => ?_)
    · skip
      refine lv_iload hx hb dM_place_186 (lv_at hl 1 rfl) ?_
      refine s_aload_n (x := some y) hx hb dM_place_188 rfl (lv_at hl 5 rfl) ?_
      obtain ⟨a_rank, ea_rank, sa_rank⟩ := w_m_rank hM hY
      refine s_getr hC hW gc_M iw_M 10 (by decide) uw_396 rfl hY (v := some a_rank) ea_rank dM_place_189 ?_
      refine lv_iload_n hx hb dM_place_192 rfl (lv_at hl 6 rfl) ?_
      refine k_iald hC hW sa_rank rfl rfl (by decide) j ej (by omega) (v := nI (m_rank S y j)) (e_rank hM hY ea_rank (by omega)) dM_place_193 ?_
      have h193 := b_rank hM hY (i := j) (by omega)
      refine lv_iadd hx hb dM_place_194 ?_
      exact s_iret hC hr hlocks rfl hW dM_place_195 ⟨rfl, by rw [hfin, hf, show f_pb S y (m_owner S y j) 0 i acc = acc from rfl, if_neg c_179]⟩
    · skip
      refine lv_iload_n hx hb dM_place_182 rfl (lv_at hl 6 rfl) ?_
      refine lv_goto (tgt := 195) hx hb dM_place_183 (by decide) ?_
      exact s_iret hC hr hlocks rfl hW dM_place_195 ⟨rfl, by rw [hfin, hf, show f_pb S y (m_owner S y j) 0 i acc = acc from rfl, if_pos c_179]⟩
  | succ k ih =>
    intro i  acc  hi hf ls hl
    refine lv_iload hx hb dM_place_136 (lv_at hl 0 rfl) ?_
    refine s_aload_n (x := some y) hx hb dM_place_138 rfl (lv_at hl 5 rfl) ?_
    refine s_geti hC hW gc_M iw_M 22 (by decide) uw_408 rfl hY (v := nI (m_active S y)) (e_active hM hY) dM_place_139 ?_
    refine lv_icmp_ge (tgt := 176) hx hb dM_place_142 (by decide) (fun c => absurd ((nI_leI (by omega) (by omega)).mp c) (by omega)) (fun c_142 => ?_)
    refine s_aload_n (x := some y) hx hb dM_place_145 rfl (lv_at hl 5 rfl) ?_
    obtain ⟨a_callOf, ea_callOf, sa_callOf⟩ := w_m_callOf hM hY
    refine s_getr hC hW gc_M iw_M 18 (by decide) uw_404 rfl hY (v := some a_callOf) ea_callOf dM_place_146 ?_
    refine lv_iload hx hb dM_place_149 (lv_at hl 0 rfl) ?_
    refine k_iald hC hW sa_callOf rfl rfl (by decide) i rfl (by omega) (v := nI (m_callOf S y i)) (e_callOf hM hY ea_callOf (by omega)) dM_place_151 ?_
    have h151 := b_callOf hM hY (i := i) (by omega)
    refine lv_iload_n hx hb dM_place_152 rfl (lv_at hl 3 rfl) ?_
    refine lv_icmp_ne (tgt := 166) hx hb dM_place_153 (by decide) (fun c_153 => ?_) (fun c_153 => ?_)
    · skip
      refine lv_iload hx hb dM_place_166 (lv_at hl 1 rfl) ?_
      refine lv_istore (lv' := [(5, .int acc), (6, .int (nI i)), (4, .int 1), (3, .int (nI (m_owner S y j))), (2, .int (nI (f_runM S y))), (0, va_rf (some y)), (1, .int n)]) hx hb dM_place_168 hl (by decide) rfl (fun ls hl => ?_)
      refine lv_iinc (v := nI (i + 1)) (lv' := [(6, .int (nI (i + 1))), (5, .int acc), (4, .int 1), (3, .int (nI (m_owner S y j))), (2, .int (nI (f_runM S y))), (0, va_rf (some y)), (1, .int n)]) hx hb dM_place_170 hl (k := 1) rfl (nI_1 _) (by decide) rfl (fun ls hl => ?_)
      refine lv_goto (tgt := 136) hx hb dM_place_173 (by decide) ?_
      exact ih (i + 1) acc (by omega) (by rw [hf, f_pb, if_neg c_153]) ls (lv_sub hl [0, 1, 2, 3, 4, 5, 6] rfl)
    · skip
      refine s_aload_n (x := some y) hx hb dM_place_156 rfl (lv_at hl 5 rfl) ?_
      obtain ⟨a_baseOf, ea_baseOf, sa_baseOf⟩ := w_m_baseOf hM hY
      refine s_getr hC hW gc_M iw_M 19 (by decide) uw_405 rfl hY (v := some a_baseOf) ea_baseOf dM_place_157 ?_
      refine lv_iload hx hb dM_place_160 (lv_at hl 0 rfl) ?_
      refine k_iald hC hW sa_baseOf rfl rfl (by decide) i rfl (by omega) (v := nI (m_baseOf S y i)) (e_baseOf hM hY ea_baseOf (by omega)) dM_place_162 ?_
      have h162 := b_baseOf hM hY (i := i) (by omega)
      refine lv_goto (tgt := 168) hx hb dM_place_163 (by decide) ?_
      refine lv_istore (lv' := [(5, .int (nI (m_baseOf S y i))), (6, .int (nI i)), (4, .int 1), (3, .int (nI (m_owner S y j))), (2, .int (nI (f_runM S y))), (0, va_rf (some y)), (1, .int n)]) hx hb dM_place_168 hl (by decide) rfl (fun ls hl => ?_)
      refine lv_iinc (v := nI (i + 1)) (lv' := [(6, .int (nI (i + 1))), (5, .int (nI (m_baseOf S y i))), (4, .int 1), (3, .int (nI (m_owner S y j))), (2, .int (nI (f_runM S y))), (0, va_rf (some y)), (1, .int n)]) hx hb dM_place_170 hl (k := 1) rfl (nI_1 _) (by decide) rfl (fun ls hl => ?_)
      refine lv_goto (tgt := 136) hx hb dM_place_173 (by decide) ?_
      exact ih (i + 1) (nI (m_baseOf S y i)) (by omega) (by rw [hf, f_pb, if_pos c_153]) ls (lv_sub hl [0, 1, 2, 3, 4, 5, 6] rfl)

set_option maxHeartbeats 4000000 in
set_option maxRecDepth 100000 in
theorem c_M_place (l : Launch) (G : gs_G) (S : gs_S) (sz : Nat) (y : Nat) (n : Int32) (hM : m_t S) (hY : g_sh S y = some (.inl 3)) : Met l yM_place (kM_place :: gU) { frames := 1, cells := 0, slots := 0, locals := 23 } (g_Pc G S sz [va_rf (some y), .int n]) (g_Qi G S sz (fun r S' => S' = S ∧ r = f_plM S y n)) 0 0 (g_A S sz) := by
  refine s_head (by decide) (Nat.le_of_ble_eq_true rfl) ?_
  intro p e s m below meth c ls hsz hC hr hlocks hnm hl hW
  subst hsz
  obtain ⟨hx, hb, hml, hown, hts⟩ := id hC
  have hl : lv_has ls 7 [(0, va_rf (some y)), (1, .int n)] := hl
  have h_programs := b_programs hM hY
  have h_cells := b_cells hM hY
  have h_active := b_active hM hY
  have h_prepared := b_prepared hM hY
  have h_arguments := b_arguments hM hY
  have h_used := b_used hM hY
  have h_preparedAhead := b_preparedAhead hM hY
  refine s_aload_n (x := some y) hx hb dM_place_0 rfl (lv_at hl 0 rfl) ?_
  refine s_calli hW (s_runV (n := 0) (As := []) (rest := []) hC (c_M_running l G S s.heap.size y hM hY) uc_M_running uw_514 uw_516 us_M_running uw_4 rfl rfl (by decide +kernel) ⟨by decide, by decide⟩ (g_preV hW gc_M hY []) rfl hl.1 rfl (Nat.le_of_ble_eq_true rfl) dM_place_1 ⟨Nat.le_of_ble_eq_true rfl, Nat.le_of_ble_eq_true rfl⟩) (fun q1 S1 H locs hp1 hW => ?_)
  obtain ⟨hs1, rfl⟩ := hp1
  replace hs1 := hs1.symm
  subst hs1
  have hrun1 := b_runM hM hY
  refine lv_istore_n (lv' := [(2, .int (nI (f_runM S y))), (0, va_rf (some y)), (1, .int n)]) hx hb dM_place_4 rfl hl (by decide) rfl (fun ls hl => ?_)
  refine lv_iload_n hx hb dM_place_5 rfl (lv_at hl 2 rfl) ?_
  refine lv_if_ge (tgt := 54) hx hb dM_place_6 (by decide) (fun c_6 => ?_) (fun c_6 => ?_)
  · skip
    refine lv_iload_n hx hb dM_place_54 rfl (lv_at hl 2 rfl) ?_
    refine s_aload_n (x := some y) hx hb dM_place_55 rfl (lv_at hl 1 rfl) ?_
    refine s_geti hC hW gc_M iw_M 13 (by decide) uw_399 rfl hY (v := nI (m_cells S y)) (e_cells hM hY) dM_place_56 ?_
    refine lv_icmp_lt (tgt := 64) hx hb dM_place_59 (by decide) (fun c_59 => ?_) (fun c_59 => ?_)
    · skip
      obtain ⟨j, hj, ej⟩ := x_cell h_cells rfl c_6 c_59
      refine s_aload_n (x := some y) hx hb dM_place_64 rfl (lv_at hl 1 rfl) ?_
      obtain ⟨a_owner, ea_owner, sa_owner⟩ := w_m_owner hM hY
      refine s_getr hC hW gc_M iw_M 9 (by decide) uw_395 rfl hY (v := some a_owner) ea_owner dM_place_65 ?_
      refine lv_iload_n hx hb dM_place_68 rfl (lv_at hl 2 rfl) ?_
      refine k_iald hC hW sa_owner rfl rfl (by decide) j ej (by omega) (v := nI (m_owner S y j)) (e_owner hM hY ea_owner (by omega)) dM_place_69 ?_
      have h69 := b_owner hM hY (i := j) (by omega)
      refine lv_istore_n (lv' := [(3, .int (nI (m_owner S y j))), (2, .int (nI (f_runM S y))), (0, va_rf (some y)), (1, .int n)]) hx hb dM_place_70 rfl hl (by decide) rfl (fun ls hl => ?_)
      refine lv_iload_n hx hb dM_place_71 rfl (lv_at hl 0 rfl) ?_
      refine lv_if_ne (tgt := 77) hx hb dM_place_72 (by decide) (fun c_72 => ?_) (fun c_72 => ?_)
      · skip
        refine lv_iload_n hx hb dM_place_77 rfl (lv_at hl 1 rfl) ?_
        refine lv_if_eq (tgt := 109) hx hb dM_place_78 (by decide) (fun c_78 => ?_) (fun c_78 => ?_)
        · skip
          refine lv_iconst (v := 0) hx hb dM_place_109 (by decide) ?_
          refine lv_istore (lv' := [(4, .int 0), (3, .int (nI (m_owner S y j))), (2, .int (nI (f_runM S y))), (0, va_rf (some y)), (1, .int n)]) hx hb dM_place_110 hl (by decide) rfl (fun ls hl => ?_)
          refine lv_iload hx hb dM_place_112 (lv_at hl 0 rfl) ?_
          refine lv_if_ne (tgt := 119) hx hb dM_place_114 (by decide) (fun c => absurd rfl c) (fun c_114 => ?_)
          refine lv_iconst (v := (-1)) hx hb dM_place_117 (by decide) ?_
          have ecl : n.toNatClampNeg = j := by rw [ej, nI_clamp (by omega)]
          have hs := show f_seen S y (f_runM S y) (m_owner S y j) = 0 from by rw [f_seen, if_pos ((x_n0 (by omega)).mp c_78)]
          exact s_iret hC hr hlocks rfl hW dM_place_118 ⟨rfl, by rw [f_plM, if_pos c_6, if_pos c_59, ecl, f_pc, if_neg (fun z => c_72 ((x_n0 (by omega)).mpr z)), hs, if_pos rfl]⟩
        · skip
          refine lv_iload_n hx hb dM_place_81 rfl (lv_at hl 0 rfl) ?_
          refine lv_iload_n hx hb dM_place_82 rfl (lv_at hl 1 rfl) ?_
          refine lv_icmp_eq (tgt := 105) hx hb dM_place_83 (by decide) (fun c_83 => ?_) (fun c_83 => ?_)
          · skip
            refine lv_iconst (v := 1) hx hb dM_place_105 (by decide) ?_
            refine lv_goto (tgt := 110) hx hb dM_place_106 (by decide) ?_
            refine lv_istore (lv' := [(4, .int 1), (3, .int (nI (m_owner S y j))), (2, .int (nI (f_runM S y))), (0, va_rf (some y)), (1, .int n)]) hx hb dM_place_110 hl (by decide) rfl (fun ls hl => ?_)
            refine lv_iload hx hb dM_place_112 (lv_at hl 0 rfl) ?_
            refine lv_if_ne (tgt := 119) hx hb dM_place_114 (by decide) (fun c_114 => ?_) (fun c => absurd c (by decide))
            refine s_aload_n (x := some y) hx hb dM_place_119 rfl (lv_at hl 3 rfl) ?_
            refine lv_iload_n hx hb dM_place_120 rfl (lv_at hl 1 rfl) ?_
            refine lv_iconst (v := 4) hx hb dM_place_121 (by decide) ?_
            refine s_calli hW (s_runV (n := 2) (As := [.int (nI (m_owner S y j)), .int 4]) (rest := []) hC (c_M_is l G S H.size y (m_owner S y j) 4 hM hY (by omega)) uc_M_is uw_519 uw_521 us_M_is uw_4 rfl rfl (by decide +kernel) ⟨by decide, by decide⟩ (g_preV hW gc_M hY [.int (nI (m_owner S y j)), .int 4]) rfl hl.1 rfl (Nat.le_of_ble_eq_true rfl) dM_place_122 ⟨Nat.le_of_ble_eq_true rfl, Nat.le_of_ble_eq_true rfl⟩) (fun q122 S122 H locs hp122 hW => ?_)
            obtain ⟨hs122, rfl⟩ := hp122
            replace hs122 := hs122.symm
            subst hs122
            refine lv_if_ne (tgt := 130) hx hb dM_place_125 (by decide) (fun c_125 => ?_) (fun c_125 => ?_)
            · skip
              refine lv_iconst (v := (-1)) hx hb dM_place_130 (by decide) ?_
              refine lv_istore (lv' := [(5, .int (-1)), (4, .int 1), (3, .int (nI (m_owner S y j))), (2, .int (nI (f_runM S y))), (0, va_rf (some y)), (1, .int n)]) hx hb dM_place_131 hl (by decide) rfl (fun ls hl => ?_)
              refine lv_iconst (v := 0) hx hb dM_place_133 (by decide) ?_
              refine lv_istore (lv' := [(6, .int 0), (5, .int (-1)), (4, .int 1), (3, .int (nI (m_owner S y j))), (2, .int (nI (f_runM S y))), (0, va_rf (some y)), (1, .int n)]) hx hb dM_place_134 hl (by decide) rfl (fun ls hl => ?_)
              have hfin : f_plM S y n = if f_pb S y (m_owner S y j) (m_active S y) 0 (-1) = -1 then n else f_pb S y (m_owner S y j) (m_active S y) 0 (-1) + nI (m_rank S y j) := by
                have hs := show f_seen S y (f_runM S y) (m_owner S y j) = 1 from by rw [f_seen, if_neg (fun z => c_78 ((x_n0 (by omega)).mpr z)), if_pos c_83]
                have ecl : n.toNatClampNeg = j := by rw [ej, nI_clamp (by omega)]
                rw [f_plM, if_pos c_6, if_pos c_59, ecl, f_pc, if_neg (fun z => c_72 ((x_n0 (by omega)).mpr z)), hs, if_neg (by decide), if_neg c_125]
              exact lp_pb l G S y j n hM hY h_active (by omega) ej hfin hC hr hlocks hW (m_active S y) 0 (-1) (by omega) rfl ls (lv_sub hl [0, 1, 2, 3, 4, 5, 6] rfl)
            · skip
              refine lv_iload_n hx hb dM_place_128 rfl (lv_at hl 4 rfl) ?_
              have ecl : n.toNatClampNeg = j := by rw [ej, nI_clamp (by omega)]
              have hs := show f_seen S y (f_runM S y) (m_owner S y j) = 1 from by rw [f_seen, if_neg (fun z => c_78 ((x_n0 (by omega)).mpr z)), if_pos c_83]
              exact s_iret hC hr hlocks rfl hW dM_place_129 ⟨rfl, by rw [f_plM, if_pos c_6, if_pos c_59, ecl, f_pc, if_neg (fun z => c_72 ((x_n0 (by omega)).mpr z)), hs, if_neg (by decide), if_pos c_125]⟩
          · skip
            refine s_aload_n (x := some y) hx hb dM_place_86 rfl (lv_at hl 2 rfl) ?_
            refine lv_iload_n hx hb dM_place_87 rfl (lv_at hl 0 rfl) ?_
            refine lv_bipush (v := 8) hx hb dM_place_88 (by decide) ?_
            refine s_calli hW (s_runV (n := 2) (As := [.int (nI (m_owner S y j)), .int 8]) (rest := []) hC (c_M_is l G S H.size y (m_owner S y j) 8 hM hY (by omega)) uc_M_is uw_519 uw_521 us_M_is uw_4 rfl rfl (by decide +kernel) ⟨by decide, by decide⟩ (g_preV hW gc_M hY [.int (nI (m_owner S y j)), .int 8]) rfl hl.1 rfl (Nat.le_of_ble_eq_true rfl) dM_place_90 ⟨Nat.le_of_ble_eq_true rfl, Nat.le_of_ble_eq_true rfl⟩) (fun q90 S90 H locs hp90 hW => ?_)
            obtain ⟨hs90, rfl⟩ := hp90
            replace hs90 := hs90.symm
            subst hs90
            refine lv_if_eq (tgt := 109) hx hb dM_place_93 (by decide) (fun c_93 => ?_) (fun c_93 => ?_)
            · skip
              refine lv_iconst (v := 0) hx hb dM_place_109 (by decide) ?_
              refine lv_istore (lv' := [(4, .int 0), (3, .int (nI (m_owner S y j))), (2, .int (nI (f_runM S y))), (0, va_rf (some y)), (1, .int n)]) hx hb dM_place_110 hl (by decide) rfl (fun ls hl => ?_)
              refine lv_iload hx hb dM_place_112 (lv_at hl 0 rfl) ?_
              refine lv_if_ne (tgt := 119) hx hb dM_place_114 (by decide) (fun c => absurd rfl c) (fun c_114 => ?_)
              refine lv_iconst (v := (-1)) hx hb dM_place_117 (by decide) ?_
              have ecl : n.toNatClampNeg = j := by rw [ej, nI_clamp (by omega)]
              have hs := show f_seen S y (f_runM S y) (m_owner S y j) = 0 from by rw [f_seen, if_neg (fun z => c_78 ((x_n0 (by omega)).mpr z)), if_neg c_83, if_pos c_93]
              exact s_iret hC hr hlocks rfl hW dM_place_118 ⟨rfl, by rw [f_plM, if_pos c_6, if_pos c_59, ecl, f_pc, if_neg (fun z => c_72 ((x_n0 (by omega)).mpr z)), hs, if_pos rfl]⟩
            · skip
              refine s_aload_n (x := some y) hx hb dM_place_96 rfl (lv_at hl 2 rfl) ?_
              refine lv_iload_n hx hb dM_place_97 rfl (lv_at hl 1 rfl) ?_
              refine lv_iload_n hx hb dM_place_98 rfl (lv_at hl 0 rfl) ?_
              refine s_calli hW (s_runV (n := 2) (As := [.int (nI (f_runM S y)), .int (nI (m_owner S y j))]) (rest := []) hC (c_M_liesIn l G S H.size y (f_runM S y) (nI (m_owner S y j)) hM hY (by omega)) uc_M_liesIn uw_523 uw_525 us_M_liesIn uw_4 rfl rfl (by decide +kernel) ⟨by decide, by decide⟩ (g_preV hW gc_M hY [.int (nI (f_runM S y)), .int (nI (m_owner S y j))]) rfl hl.1 rfl (Nat.le_of_ble_eq_true rfl) dM_place_99 ⟨Nat.le_of_ble_eq_true rfl, Nat.le_of_ble_eq_true rfl⟩) (fun q99 S99 H locs hp99 hW => ?_)
              obtain ⟨hs99, rfl⟩ := hp99
              replace hs99 := hs99.symm
              subst hs99
              refine lv_if_eq (tgt := 109) hx hb dM_place_102 (by decide) (fun c_102 => ?_) (fun c_102 => ?_)
              · skip
                refine lv_iconst (v := 0) hx hb dM_place_109 (by decide) ?_
                refine lv_istore (lv' := [(4, .int 0), (3, .int (nI (m_owner S y j))), (2, .int (nI (f_runM S y))), (0, va_rf (some y)), (1, .int n)]) hx hb dM_place_110 hl (by decide) rfl (fun ls hl => ?_)
                refine lv_iload hx hb dM_place_112 (lv_at hl 0 rfl) ?_
                refine lv_if_ne (tgt := 119) hx hb dM_place_114 (by decide) (fun c => absurd rfl c) (fun c_114 => ?_)
                refine lv_iconst (v := (-1)) hx hb dM_place_117 (by decide) ?_
                have ecl : n.toNatClampNeg = j := by rw [ej, nI_clamp (by omega)]
                have hs := show f_seen S y (f_runM S y) (m_owner S y j) = 0 from by rw [f_seen, if_neg (fun z => c_78 ((x_n0 (by omega)).mpr z)), if_neg c_83, if_neg c_93, if_pos c_102]
                exact s_iret hC hr hlocks rfl hW dM_place_118 ⟨rfl, by rw [f_plM, if_pos c_6, if_pos c_59, ecl, f_pc, if_neg (fun z => c_72 ((x_n0 (by omega)).mpr z)), hs, if_pos rfl]⟩
              · skip
                refine lv_iconst (v := 1) hx hb dM_place_105 (by decide) ?_
                refine lv_goto (tgt := 110) hx hb dM_place_106 (by decide) ?_
                refine lv_istore (lv' := [(4, .int 1), (3, .int (nI (m_owner S y j))), (2, .int (nI (f_runM S y))), (0, va_rf (some y)), (1, .int n)]) hx hb dM_place_110 hl (by decide) rfl (fun ls hl => ?_)
                refine lv_iload hx hb dM_place_112 (lv_at hl 0 rfl) ?_
                refine lv_if_ne (tgt := 119) hx hb dM_place_114 (by decide) (fun c_114 => ?_) (fun c => absurd c (by decide))
                refine s_aload_n (x := some y) hx hb dM_place_119 rfl (lv_at hl 3 rfl) ?_
                refine lv_iload_n hx hb dM_place_120 rfl (lv_at hl 1 rfl) ?_
                refine lv_iconst (v := 4) hx hb dM_place_121 (by decide) ?_
                refine s_calli hW (s_runV (n := 2) (As := [.int (nI (m_owner S y j)), .int 4]) (rest := []) hC (c_M_is l G S H.size y (m_owner S y j) 4 hM hY (by omega)) uc_M_is uw_519 uw_521 us_M_is uw_4 rfl rfl (by decide +kernel) ⟨by decide, by decide⟩ (g_preV hW gc_M hY [.int (nI (m_owner S y j)), .int 4]) rfl hl.1 rfl (Nat.le_of_ble_eq_true rfl) dM_place_122 ⟨Nat.le_of_ble_eq_true rfl, Nat.le_of_ble_eq_true rfl⟩) (fun q122 S122 H locs hp122 hW => ?_)
                obtain ⟨hs122, rfl⟩ := hp122
                replace hs122 := hs122.symm
                subst hs122
                refine lv_if_ne (tgt := 130) hx hb dM_place_125 (by decide) (fun c_125 => ?_) (fun c_125 => ?_)
                · skip
                  refine lv_iconst (v := (-1)) hx hb dM_place_130 (by decide) ?_
                  refine lv_istore (lv' := [(5, .int (-1)), (4, .int 1), (3, .int (nI (m_owner S y j))), (2, .int (nI (f_runM S y))), (0, va_rf (some y)), (1, .int n)]) hx hb dM_place_131 hl (by decide) rfl (fun ls hl => ?_)
                  refine lv_iconst (v := 0) hx hb dM_place_133 (by decide) ?_
                  refine lv_istore (lv' := [(6, .int 0), (5, .int (-1)), (4, .int 1), (3, .int (nI (m_owner S y j))), (2, .int (nI (f_runM S y))), (0, va_rf (some y)), (1, .int n)]) hx hb dM_place_134 hl (by decide) rfl (fun ls hl => ?_)
                  have hfin : f_plM S y n = if f_pb S y (m_owner S y j) (m_active S y) 0 (-1) = -1 then n else f_pb S y (m_owner S y j) (m_active S y) 0 (-1) + nI (m_rank S y j) := by
                    have hs := show f_seen S y (f_runM S y) (m_owner S y j) = 1 from by rw [f_seen, if_neg (fun z => c_78 ((x_n0 (by omega)).mpr z)), if_neg c_83, if_neg c_93, if_neg c_102]
                    have ecl : n.toNatClampNeg = j := by rw [ej, nI_clamp (by omega)]
                    rw [f_plM, if_pos c_6, if_pos c_59, ecl, f_pc, if_neg (fun z => c_72 ((x_n0 (by omega)).mpr z)), hs, if_neg (by decide), if_neg c_125]
                  exact lp_pb l G S y j n hM hY h_active (by omega) ej hfin hC hr hlocks hW (m_active S y) 0 (-1) (by omega) rfl ls (lv_sub hl [0, 1, 2, 3, 4, 5, 6] rfl)
                · skip
                  refine lv_iload_n hx hb dM_place_128 rfl (lv_at hl 4 rfl) ?_
                  have ecl : n.toNatClampNeg = j := by rw [ej, nI_clamp (by omega)]
                  have hs := show f_seen S y (f_runM S y) (m_owner S y j) = 1 from by rw [f_seen, if_neg (fun z => c_78 ((x_n0 (by omega)).mpr z)), if_neg c_83, if_neg c_93, if_neg c_102]
                  exact s_iret hC hr hlocks rfl hW dM_place_129 ⟨rfl, by rw [f_plM, if_pos c_6, if_pos c_59, ecl, f_pc, if_neg (fun z => c_72 ((x_n0 (by omega)).mpr z)), hs, if_neg (by decide), if_pos c_125]⟩
      · skip
        refine lv_iload_n hx hb dM_place_75 rfl (lv_at hl 3 rfl) ?_
        have ecl : n.toNatClampNeg = j := by rw [ej, nI_clamp (by omega)]
        exact s_iret hC hr hlocks rfl hW dM_place_76 ⟨rfl, by rw [f_plM, if_pos c_6, if_pos c_59, ecl, f_pc, if_pos ((x_n0 (by omega)).mp c_72)]⟩
    · skip
      refine lv_iconst (v := (-1)) hx hb dM_place_62 (by decide) ?_
      exact s_iret hC hr hlocks rfl hW dM_place_63 ⟨rfl, by rw [f_plM, if_pos c_6, if_neg c_59]⟩
  · skip
    refine lv_ldc2 (v := (-1)) hx hb hown (hts _ uw_518) dM_place_9 ?_
    refine lv_iload_n hx hb dM_place_12 rfl (lv_at hl 2 rfl) ?_
    refine lv_i2l hx hb dM_place_13 rfl ?_
    refine lv_lsub hx hb dM_place_14 ?_
    obtain ⟨j, hj, ej, elj⟩ := x_negL c_6
    refine s_topl elj ?_
    refine lv_lstore_n (lv' := [(3, .long (lN j)), (2, .int (nI (f_runM S y))), (0, va_rf (some y)), (1, .int n)]) hx hb dM_place_15 rfl hl (by decide) rfl (fun ls hl => ?_)
    refine lv_iload_n hx hb dM_place_16 rfl (lv_at hl 1 rfl) ?_
    refine lv_if_eq (tgt := 32) hx hb dM_place_17 (by decide) (fun c_17 => ?_) (fun c_17 => ?_)
    · skip
      refine lv_iconst (v := (-1)) hx hb dM_place_32 (by decide) ?_
      refine lv_goto (tgt := 53) hx hb dM_place_33 (by decide) ?_
      exact s_iret hC hr hlocks rfl hW dM_place_53 ⟨rfl, by rw [f_plM, if_neg c_6, if_pos ((x_n0 (by omega)).mp c_17)]⟩
    · skip
      refine lv_lload_n hx hb dM_place_20 rfl (lv_at hl 0 rfl) ?_
      refine s_aload_n (x := some y) hx hb dM_place_21 rfl (lv_at hl 2 rfl) ?_
      obtain ⟨a_manyFormals, ea_manyFormals, sa_manyFormals⟩ := w_m_manyFormals hM hY
      refine s_getr hC hW gc_M iw_M 5 (by decide) uw_391 rfl hY (v := some a_manyFormals) ea_manyFormals dM_place_22 ?_
      refine lv_iload_n hx hb dM_place_25 rfl (lv_at hl 1 rfl) ?_
      refine k_iald hC hW sa_manyFormals rfl rfl (by decide) (f_runM S y) rfl (by omega) (v := nI (m_manyFormals S y (f_runM S y))) (e_manyFormals hM hY ea_manyFormals (by omega)) dM_place_26 ?_
      have h26 := b_manyFormals hM hY (i := f_runM S y) (by omega)
      refine lv_i2l hx hb dM_place_27 rfl ?_
      refine s_topl (nI_l (n := m_manyFormals S y (f_runM S y)) (by omega)) ?_
      refine W.lcmp hx hb dM_place_28 ?_
      refine lv_if_lt (tgt := 36) hx hb dM_place_29 (by decide) (fun c_29 => ?_) (fun c_29 => ?_)
      · skip
        have hjf : j < m_manyFormals S y (f_runM S y) := (lN_lt hj (by omega)).mp ((lg_cmp_lt _ _).mp c_29)
        have hac := x_runA (S := S) (y := y) (fun z => c_17 ((x_n0 (by omega)).mpr z))
        refine s_aload_n (x := some y) hx hb dM_place_36 rfl (lv_at hl 2 rfl) ?_
        obtain ⟨a_placeOf, ea_placeOf, sa_placeOf⟩ := w_m_placeOf hM hY
        refine s_getr hC hW gc_M iw_M 21 (by decide) uw_407 rfl hY (v := some a_placeOf) ea_placeOf dM_place_37 ?_
        refine lv_bipush (v := 16) hx hb dM_place_40 (by decide) ?_
        refine s_aload_n (x := some y) hx hb dM_place_42 rfl (lv_at hl 2 rfl) ?_
        refine s_geti hC hW gc_M iw_M 22 (by decide) uw_408 rfl hY (v := nI (m_active S y)) (e_active hM hY) dM_place_43 ?_
        refine lv_iconst (v := 1) hx hb dM_place_46 (by decide) ?_
        refine lv_isub hx hb dM_place_47 ?_
        refine s_topi (x_sub1 (by omega)) ?_
        refine lv_imul hx hb dM_place_48 ?_
        refine s_topi (x_mul16 _) ?_
        refine lv_lload_n hx hb dM_place_49 rfl (lv_at hl 0 rfl) ?_
        refine lv_l2i hx hb dM_place_50 rfl ?_
        refine s_topi (lN_i j) ?_
        refine lv_iadd hx hb dM_place_51 ?_
        refine s_topi (nI_add _ _) ?_
        refine k_iald hC hW sa_placeOf rfl rfl (by decide) ((16 * ((m_active S y) - 1)) + j) rfl (by omega) (v := m_placeOf S y ((16 * ((m_active S y) - 1)) + j)) (e_placeOf ea_placeOf) dM_place_52 ?_
        exact s_iret hC hr hlocks rfl hW dM_place_53 ⟨rfl, by rw [f_plM, if_neg c_6, if_neg (fun z => c_17 ((x_n0 (by omega)).mpr z)), ej, nI_clamp (by omega), if_pos hjf]⟩
      · skip
        refine lv_iconst (v := (-1)) hx hb dM_place_32 (by decide) ?_
        refine lv_goto (tgt := 53) hx hb dM_place_33 (by decide) ?_
        exact s_iret hC hr hlocks rfl hW dM_place_53 ⟨rfl, by rw [f_plM, if_neg c_6, if_neg (fun z => c_17 ((x_n0 (by omega)).mpr z)), ej, nI_clamp (by omega), if_neg (fun z => c_29 ((lg_cmp_lt _ _).mpr ((lN_lt hj (by omega)).mpr z)))]⟩
end
section
/-! the reference's code is 0 first -/
def m_0 (S : gs_S) (y : Nat) : gs_S := p_i S 3 0 y 0
theorem mt_0 {S : gs_S} {y : Nat} (hM : m_t S) : m_t (m_0 S y) := mt_pi0 hM (by decide)

/-! M.set, M.get -/
def f_setM (T : gs_S) (y : Nat) (n : Int32) (v : Int64) : Int32 × gs_S := if f_plM T y n = -1 then (-2, T) else (1, f_st T y (f_plM T y n).toNatClampNeg (f_byM T y n) v)

set_option maxHeartbeats 4000000 in
set_option maxRecDepth 100000 in
theorem c_M_set (l : Launch) (G : gs_G) (S : gs_S) (sz : Nat) (y : Nat) (n : Int32) (v : Int64) (hM : m_t S) (hY : g_sh S y = some (.inl 3)) : Met l yM_set (kM_set :: gU) { frames := 2, cells := 0, slots := 0, locals := 49 } (g_Pc G S sz [va_rf (some y), .int n, .long v]) (g_Qi G S sz (fun r S' => r = (f_setM (m_0 S y) y n v).1 ∧ S' = (f_setM (m_0 S y) y n v).2)) 0 0 (g_A S sz) := by
  refine s_head (by decide) (Nat.le_of_ble_eq_true rfl) ?_
  intro p e s m below meth c ls hsz hC hr hlocks hnm hl hW
  subst hsz
  obtain ⟨hx, hb, hml, hown, hts⟩ := id hC
  have hl : lv_has ls 5 [(0, va_rf (some y)), (1, .int n), (2, .long v)] := hl
  refine s_aload_n (x := some y) hx hb dM_set_0 rfl (lv_at hl 0 rfl) ?_
  refine lv_iconst (v := 0) hx hb dM_set_1 (by decide) ?_
  refine s_puti hC hW gc_M iw_M 0 (by decide) uw_386 (Or.inl rfl) rfl rfl rfl hY dM_set_2 (fun H locs hW => ?_)
  have hT : m_t (m_0 S y) := mt_0 hM
  have hT0 : g_sh (m_0 S y) y = some (.inl 3) := hY
  have hW : g_W G (g_A S s.heap.size) s (m_0 S y) H locs := hW
  have h_programs := b_programs hT hT0
  have h_cells := b_cells hT hT0
  have h_active := b_active hT hT0
  have h_prepared := b_prepared hT hT0
  have h_arguments := b_arguments hT hT0
  have h_used := b_used hT hT0
  have h_preparedAhead := b_preparedAhead hT hT0
  refine s_aload_n (x := some y) hx hb dM_set_5 rfl (lv_at hl 0 rfl) ?_
  refine lv_iload_n hx hb dM_set_6 rfl (lv_at hl 1 rfl) ?_
  refine s_calli hW (s_runV (n := 1) (As := [.int n]) (rest := []) hC (c_M_place l G (m_0 S y) H.size y n hT hT0) uc_M_place uw_510 uw_512 us_M_place uw_4 rfl rfl (by decide +kernel) ⟨by decide, by decide⟩ (g_preV hW gc_M hT0 [.int n]) rfl hl.1 rfl (Nat.le_of_ble_eq_true rfl) dM_set_7 ⟨Nat.le_of_ble_eq_true rfl, Nat.le_of_ble_eq_true rfl⟩) (fun q7 S7 H locs hp7 hW => ?_)
  obtain ⟨hs7, rfl⟩ := hp7
  replace hs7 := hs7.symm
  subst hs7
  refine lv_topi (fun v_10 ev_10 => ?_)
  refine lv_istore (lv' := [(4, .int v_10), (0, va_rf (some y)), (1, .int n), (2, .long v)]) hx hb dM_set_10 hl (by decide) rfl (fun ls hl => ?_)
  refine lv_iload hx hb dM_set_12 (lv_at hl 0 rfl) ?_
  refine lv_iconst (v := (-1)) hx hb dM_set_14 (by decide) ?_
  refine lv_icmp_ne (tgt := 21) hx hb dM_set_15 (by decide) (fun c_15 => ?_) (fun c_15 => ?_)
  · skip
    obtain ⟨hc, q, hq, eq⟩ := x_plM hT hT0 (fun z => c_15 (ev_10.trans z))
    refine s_aload_n (x := some y) hx hb dM_set_21 rfl (lv_at hl 1 rfl) ?_
    refine lv_iload hx hb dM_set_22 (lv_at hl 0 rfl) ?_
    refine s_topi (ev_10.trans eq) ?_
    refine s_aload_n (x := some y) hx hb dM_set_24 rfl (lv_at hl 1 rfl) ?_
    refine lv_iload_n hx hb dM_set_25 rfl (lv_at hl 2 rfl) ?_
    refine s_calli hW (s_runV (n := 1) (As := [.int n]) (rest := [.int (nI q), va_rf (some y)]) hC (c_M_bytesOf l G (m_0 S y) H.size y n hT hT0 hc) uc_M_bytesOf uw_527 uw_529 us_M_bytesOf uw_4 rfl rfl (by decide +kernel) ⟨by decide, by decide⟩ (g_preV hW gc_M hT0 [.int n]) rfl hl.1 rfl (Nat.le_of_ble_eq_true rfl) dM_set_26 ⟨Nat.le_of_ble_eq_true rfl, Nat.le_of_ble_eq_true rfl⟩) (fun q26 S26 H locs hp26 hW => ?_)
    obtain ⟨hs26, rfl⟩ := hp26
    replace hs26 := hs26.symm
    subst hs26
    refine lv_lload_n hx hb dM_set_29 rfl (lv_at hl 3 rfl) ?_
    refine s_callv hW (s_runV (n := 3) (As := [.int (nI q), .int (f_byM (m_0 S y) y n), .long v]) (rest := []) hC (c_M_store l G (m_0 S y) H.size y q (f_byM (m_0 S y) y n) v hT hT0 (by omega)) uc_M_store uw_531 uw_533 us_M_store uw_4 rfl rfl (by decide +kernel) ⟨by decide, by decide⟩ (g_preV hW gc_M hT0 [.int (nI q), .int (f_byM (m_0 S y) y n), .long v]) rfl hl.1 rfl (Nat.le_of_ble_eq_true rfl) dM_set_30 ⟨Nat.le_of_ble_eq_true rfl, Nat.le_of_ble_eq_true rfl⟩) (fun S30 H locs hp30 hW => ?_)
    subst hp30
    refine lv_iconst (v := 1) hx hb dM_set_33 (by decide) ?_
    exact s_iret hC hr hlocks rfl hW dM_set_34 ⟨by rw [f_setM, if_neg (fun z => c_15 (ev_10.trans z)), eq, nI_clamp (by omega)], by rw [f_setM, if_neg (fun z => c_15 (ev_10.trans z)), eq, nI_clamp (by omega)]⟩
  · skip
    refine lv_bipush (v := (-2)) hx hb dM_set_18 (by decide) ?_
    exact s_iret hC hr hlocks rfl hW dM_set_20 ⟨by rw [f_setM, if_pos (ev_10.symm.trans c_15)], by rw [f_setM, if_pos (ev_10.symm.trans c_15)]⟩

def f_getM (S : gs_S) (y : Nat) (n : Int32) : Int64 × gs_S := if f_plM S y n = -1 then (0, p_i S 3 0 y 1) else (f_sg (m_memory S y (f_plM S y n).toNatClampNeg) (f_byM S y n), p_i S 3 0 y 0)

set_option maxHeartbeats 4000000 in
set_option maxRecDepth 100000 in
theorem c_M_get (l : Launch) (G : gs_G) (S : gs_S) (sz : Nat) (y : Nat) (n : Int32) (hM : m_t S) (hY : g_sh S y = some (.inl 3)) : Met l yM_get (kM_get :: gU) { frames := 2, cells := 0, slots := 0, locals := 49 } (g_Pc G S sz [va_rf (some y), .int n]) (g_Ql G S sz (fun r S' => r = (f_getM S y n).1 ∧ S' = (f_getM S y n).2)) 0 0 (g_A S sz) := by
  refine s_head (by decide) (Nat.le_of_ble_eq_true rfl) ?_
  intro p e s m below meth c ls hsz hC hr hlocks hnm hl hW
  subst hsz
  obtain ⟨hx, hb, hml, hown, hts⟩ := id hC
  have hl : lv_has ls 3 [(0, va_rf (some y)), (1, .int n)] := hl
  refine s_aload_n (x := some y) hx hb dM_get_0 rfl (lv_at hl 0 rfl) ?_
  refine lv_iload_n hx hb dM_get_1 rfl (lv_at hl 1 rfl) ?_
  refine s_calli hW (s_runV (n := 1) (As := [.int n]) (rest := []) hC (c_M_place l G S s.heap.size y n hM hY) uc_M_place uw_510 uw_512 us_M_place uw_4 rfl rfl (by decide +kernel) ⟨by decide, by decide⟩ (g_preV hW gc_M hY [.int n]) rfl hl.1 rfl (Nat.le_of_ble_eq_true rfl) dM_get_2 ⟨Nat.le_of_ble_eq_true rfl, Nat.le_of_ble_eq_true rfl⟩) (fun q2 S2 H locs hp2 hW => ?_)
  obtain ⟨hs2, rfl⟩ := hp2
  replace hs2 := hs2.symm
  subst hs2
  refine lv_topi (fun v_5 ev_5 => ?_)
  refine lv_istore_n (lv' := [(2, .int v_5), (0, va_rf (some y)), (1, .int n)]) hx hb dM_get_5 rfl hl (by decide) rfl (fun ls hl => ?_)
  refine s_aload_n (x := some y) hx hb dM_get_6 rfl (lv_at hl 1 rfl) ?_
  refine lv_iload_n hx hb dM_get_7 rfl (lv_at hl 0 rfl) ?_
  refine lv_iconst (v := (-1)) hx hb dM_get_8 (by decide) ?_
  refine lv_icmp_ne (tgt := 16) hx hb dM_get_9 (by decide) (fun c_9 => ?_) (fun c_9 => ?_)
  · skip
    refine lv_iconst (v := 0) hx hb dM_get_16 (by decide) ?_
    refine s_puti hC hW gc_M iw_M 0 (by decide) uw_386 (Or.inl rfl) rfl rfl rfl hY dM_get_17 (fun H locs hW => ?_)
    refine lv_iload_n hx hb dM_get_20 rfl (lv_at hl 0 rfl) ?_
    refine lv_iconst (v := (-1)) hx hb dM_get_21 (by decide) ?_
    refine lv_icmp_ne (tgt := 29) hx hb dM_get_22 (by decide) (fun c_22 => ?_) (fun c => absurd c c_9)
    obtain ⟨hc, q, hq, eq⟩ := x_plM hM hY (fun z => c_9 (ev_5.trans z))
    refine s_aload_n (x := some y) hx hb dM_get_29 rfl (lv_at hl 1 rfl) ?_
    obtain ⟨a_memory, ea_memory, sa_memory⟩ := w_m_memory hM hY
    refine s_getr hC hW gc_M iw_M 16 (by decide) uw_402 rfl hY (v := some a_memory) ea_memory dM_get_30 ?_
    refine lv_iload_n hx hb dM_get_33 rfl (lv_at hl 0 rfl) ?_
    refine k_lald hC hW sa_memory rfl rfl (by decide) q (ev_5.trans eq) hq (v := m_memory S y q) (e_memory (S := S) ea_memory) dM_get_34 ?_
    refine s_aload_n (x := some y) hx hb dM_get_35 rfl (lv_at hl 1 rfl) ?_
    refine lv_iload_n hx hb dM_get_36 rfl (lv_at hl 2 rfl) ?_
    refine s_calli hW (s_runV (n := 1) (As := [.int n]) (rest := [.long (m_memory S y q)]) hC (c_M_bytesOf l G (p_i S 3 0 y 0) H.size y n (mt_pi0 hM (by decide)) hY hc) uc_M_bytesOf uw_527 uw_529 us_M_bytesOf uw_4 rfl rfl (by decide +kernel) ⟨by decide, by decide⟩ (g_preV hW gc_M hY [.int n]) rfl hl.1 rfl (Nat.le_of_ble_eq_true rfl) dM_get_37 ⟨Nat.le_of_ble_eq_true rfl, Nat.le_of_ble_eq_true rfl⟩) (fun q37 S37 H locs hp37 hW => ?_)
    obtain ⟨hs37, rfl⟩ := hp37
    replace hs37 := hs37.symm
    subst hs37
    refine s_calll hW (s_runS (n := 2) (As := [.long (m_memory S y q), .int (f_byM (p_i S 3 0 y 0) y n)]) (rest := []) hC (c_M_signed l G (p_i S 3 0 y 0) H.size (m_memory S y q) (f_byM (p_i S 3 0 y 0) y n)) uc_M_signed uw_539 uw_540 uw_4 rfl rfl (by decide +kernel) ⟨by decide, by decide⟩ (g_preS hW [.long (m_memory S y q), .int (f_byM (p_i S 3 0 y 0) y n)]) rfl hl.1 rfl (Nat.le_of_ble_eq_true rfl) dM_get_40 ⟨Nat.le_of_ble_eq_true rfl, Nat.le_of_ble_eq_true rfl⟩) (fun q40 S40 H locs hp40 hW => ?_)
    obtain ⟨hs40, rfl⟩ := hp40
    replace hs40 := hs40.symm
    subst hs40
    exact s_lret hC hr hlocks hW dM_get_43 ⟨by rw [f_getM, if_neg (fun z => c_9 (ev_5.trans z)), eq, nI_clamp (by omega)]; rfl, by rw [f_getM, if_neg (fun z => c_9 (ev_5.trans z))]⟩
  · skip
    refine lv_iconst (v := 1) hx hb dM_get_12 (by decide) ?_
    refine lv_goto (tgt := 17) hx hb dM_get_13 (by decide) ?_
    refine s_puti hC hW gc_M iw_M 0 (by decide) uw_386 (Or.inl rfl) rfl rfl rfl hY dM_get_17 (fun H locs hW => ?_)
    refine lv_iload_n hx hb dM_get_20 rfl (lv_at hl 0 rfl) ?_
    refine lv_iconst (v := (-1)) hx hb dM_get_21 (by decide) ?_
    refine lv_icmp_ne (tgt := 29) hx hb dM_get_22 (by decide) (fun c => absurd c_9 c) (fun c_22 => ?_)
    refine lv_lconst (v := 0) hx hb dM_get_25 (by decide) ?_
    refine lv_goto (tgt := 43) hx hb dM_get_26 (by decide) ?_
    exact s_lret hC hr hlocks hW dM_get_43 ⟨by rw [f_getM, if_pos (ev_5.symm.trans c_9)], by rw [f_getM, if_pos (ev_5.symm.trans c_9)]⟩

/-! M.program -/
def f_prM (T : gs_S) (y : Nat) (wi nm mk : Int32) : Int32 × gs_S := if wi < 0 then (-2, T) else if nI (m_programs T y) < wi then (-2, T) else if f_isName nm = 0 then (-2, T) else if mk < 0 then (-2, T) else if mk ≤ 15 then (if nI (m_active T y) ≤ 0 then (if nI (f_dyM T y wi nm) = 0 then (if nI (m_programs T y) = 60 then (-1, T) else (nI (m_programs T y + 1), p_ai (p_ai (p_ai (p_i T 3 8 y (nI (m_programs T y + 1))) 10 (m_q T y 2) (m_programs T y + 1) wi) 11 (m_q T y 3) (m_programs T y + 1) nm) 12 (m_q T y 4) (m_programs T y + 1) mk)) else (-3, T)) else (-4, T)) else (-2, T)

set_option maxHeartbeats 4000000 in
set_option maxRecDepth 100000 in
theorem c_M_program (l : Launch) (G : gs_G) (S : gs_S) (sz : Nat) (y : Nat) (wi nm mk : Int32) (hM : m_t S) (hY : g_sh S y = some (.inl 3)) : Met l yM_program (kM_program :: gU) { frames := 1, cells := 0, slots := 0, locals := 24 } (g_Pc G S sz [va_rf (some y), .int wi, .int nm, .int mk]) (g_Qi G S sz (fun r S' => r = (f_prM (m_0 S y) y wi nm mk).1 ∧ S' = (f_prM (m_0 S y) y wi nm mk).2)) 0 0 (g_A S sz) := by
  refine s_head (by decide) (Nat.le_of_ble_eq_true rfl) ?_
  intro p e s m below meth c ls hsz hC hr hlocks hnm hl hW
  subst hsz
  obtain ⟨hx, hb, hml, hown, hts⟩ := id hC
  have hl : lv_has ls 4 [(0, va_rf (some y)), (1, .int wi), (2, .int nm), (3, .int mk)] := hl
  refine s_aload_n (x := some y) hx hb dM_program_0 rfl (lv_at hl 0 rfl) ?_
  refine lv_iconst (v := 0) hx hb dM_program_1 (by decide) ?_
  refine s_puti hC hW gc_M iw_M 0 (by decide) uw_386 (Or.inl rfl) rfl rfl rfl hY dM_program_2 (fun H locs hW => ?_)
  have hT : m_t (m_0 S y) := mt_0 hM
  have hT0 : g_sh (m_0 S y) y = some (.inl 3) := hY
  have hW : g_W G (g_A S s.heap.size) s (m_0 S y) H locs := hW
  have h_programs := b_programs hT hT0
  have h_cells := b_cells hT hT0
  have h_active := b_active hT hT0
  have h_prepared := b_prepared hT hT0
  have h_arguments := b_arguments hT hT0
  have h_used := b_used hT hT0
  have h_preparedAhead := b_preparedAhead hT hT0
  refine lv_iload_n hx hb dM_program_5 rfl (lv_at hl 1 rfl) ?_
  refine lv_if_lt (tgt := 34) hx hb dM_program_6 (by decide) (fun c_6 => ?_) (fun c_6 => ?_)
  · skip
    refine lv_bipush (v := (-2)) hx hb dM_program_34 (by decide) ?_
    exact s_iret hC hr hlocks rfl hW dM_program_36 ⟨by rw [f_prM, if_pos c_6], by rw [f_prM, if_pos c_6]⟩
  · skip
    refine lv_iload_n hx hb dM_program_9 rfl (lv_at hl 1 rfl) ?_
    refine s_aload_n (x := some y) hx hb dM_program_10 rfl (lv_at hl 0 rfl) ?_
    refine s_geti hC hW gc_M iw_M 8 (by decide) uw_394 rfl hT0 (v := nI (m_programs (m_0 S y) y)) (e_programs (S := m_0 S y) hT hT0) dM_program_11 ?_
    refine lv_icmp_gt (tgt := 34) hx hb dM_program_14 (by decide) (fun c_14 => ?_) (fun c_14 => ?_)
    · skip
      refine lv_bipush (v := (-2)) hx hb dM_program_34 (by decide) ?_
      exact s_iret hC hr hlocks rfl hW dM_program_36 ⟨by rw [f_prM, if_neg c_6, if_pos c_14], by rw [f_prM, if_neg c_6, if_pos c_14]⟩
    · skip
      refine lv_iload_n hx hb dM_program_17 rfl (lv_at hl 2 rfl) ?_
      refine s_calli hW (s_runS (n := 1) (As := [.int nm]) (rest := []) hC (c_M_isName l G (m_0 S y) H.size nm) uc_M_isName uw_483 uw_484 uw_4 rfl rfl (by decide +kernel) ⟨by decide, by decide⟩ (g_preS hW [.int nm]) rfl hl.1 rfl (Nat.le_of_ble_eq_true rfl) dM_program_18 ⟨Nat.le_of_ble_eq_true rfl, Nat.le_of_ble_eq_true rfl⟩) (fun q18 S18 H locs hp18 hW => ?_)
      obtain ⟨hs18, rfl⟩ := hp18
      replace hs18 := hs18.symm
      subst hs18
      refine lv_if_eq (tgt := 34) hx hb dM_program_21 (by decide) (fun c_21 => ?_) (fun c_21 => ?_)
      · skip
        refine lv_bipush (v := (-2)) hx hb dM_program_34 (by decide) ?_
        exact s_iret hC hr hlocks rfl hW dM_program_36 ⟨by rw [f_prM, if_neg c_6, if_neg c_14, if_pos c_21], by rw [f_prM, if_neg c_6, if_neg c_14, if_pos c_21]⟩
      · skip
        refine lv_iload_n hx hb dM_program_24 rfl (lv_at hl 3 rfl) ?_
        refine lv_if_lt (tgt := 34) hx hb dM_program_25 (by decide) (fun c_25 => ?_) (fun c_25 => ?_)
        · skip
          refine lv_bipush (v := (-2)) hx hb dM_program_34 (by decide) ?_
          exact s_iret hC hr hlocks rfl hW dM_program_36 ⟨by rw [f_prM, if_neg c_6, if_neg c_14, if_neg c_21, if_pos c_25], by rw [f_prM, if_neg c_6, if_neg c_14, if_neg c_21, if_pos c_25]⟩
        · skip
          refine lv_iload_n hx hb dM_program_28 rfl (lv_at hl 3 rfl) ?_
          refine lv_bipush (v := 15) hx hb dM_program_29 (by decide) ?_
          refine lv_icmp_le (tgt := 37) hx hb dM_program_31 (by decide) (fun c_31 => ?_) (fun c_31 => ?_)
          · skip
            refine s_aload_n (x := some y) hx hb dM_program_37 rfl (lv_at hl 0 rfl) ?_
            refine s_geti hC hW gc_M iw_M 22 (by decide) uw_408 rfl hT0 (v := nI (m_active (m_0 S y) y)) (e_active (S := m_0 S y) hT hT0) dM_program_38 ?_
            refine lv_if_le (tgt := 47) hx hb dM_program_41 (by decide) (fun c_41 => ?_) (fun c_41 => ?_)
            · skip
              refine s_aload_n (x := some y) hx hb dM_program_47 rfl (lv_at hl 0 rfl) ?_
              refine lv_iload_n hx hb dM_program_48 rfl (lv_at hl 1 rfl) ?_
              refine lv_iload_n hx hb dM_program_49 rfl (lv_at hl 2 rfl) ?_
              refine s_calli hW (s_runV (n := 2) (As := [.int wi, .int nm]) (rest := []) hC (c_M_directly l G (m_0 S y) H.size y wi nm hT hT0) uc_M_directly uw_486 uw_488 us_M_directly uw_4 rfl rfl (by decide +kernel) ⟨by decide, by decide⟩ (g_preV hW gc_M hT0 [.int wi, .int nm]) rfl hl.1 rfl (Nat.le_of_ble_eq_true rfl) dM_program_50 ⟨Nat.le_of_ble_eq_true rfl, Nat.le_of_ble_eq_true rfl⟩) (fun q50 S50 H locs hp50 hW => ?_)
              obtain ⟨hs50, rfl⟩ := hp50
              replace hs50 := hs50.symm
              subst hs50
              have hdy50 := b_dyM (ins := wi) (nm := nm) hT hT0
              refine lv_if_eq (tgt := 59) hx hb dM_program_53 (by decide) (fun c_53 => ?_) (fun c_53 => ?_)
              · skip
                refine s_aload_n (x := some y) hx hb dM_program_59 rfl (lv_at hl 0 rfl) ?_
                refine s_geti hC hW gc_M iw_M 8 (by decide) uw_394 rfl hT0 (v := nI (m_programs (m_0 S y) y)) (e_programs (S := m_0 S y) hT hT0) dM_program_60 ?_
                refine lv_bipush (v := 60) hx hb dM_program_63 (by decide) ?_
                refine lv_icmp_ne (tgt := 70) hx hb dM_program_65 (by decide) (fun c_65 => ?_) (fun c_65 => ?_)
                · skip
                  have hp60 : m_programs (m_0 S y) y ≠ 60 := fun z => c_65 (by rw [z]; rfl)
                  refine s_aload_n (x := some y) hx hb dM_program_70 rfl (lv_at hl 0 rfl) ?_
                  refine lv_dup hx hb dM_program_71 rfl ?_
                  refine s_geti hC hW gc_M iw_M 8 (by decide) uw_394 rfl hT0 (v := nI (m_programs (m_0 S y) y)) (e_programs (S := m_0 S y) hT hT0) dM_program_72 ?_
                  refine lv_iconst (v := 1) hx hb dM_program_75 (by decide) ?_
                  refine lv_iadd hx hb dM_program_76 ?_
                  refine s_topi (nI_1 _) ?_
                  refine s_puti hC hW gc_M iw_M 8 (by decide) uw_394 (Or.inl rfl) rfl rfl rfl hT0 dM_program_77 (fun H locs hW => ?_)
                  refine s_aload_n (x := some y) hx hb dM_program_80 rfl (lv_at hl 0 rfl) ?_
                  obtain ⟨a_within, ea_within, sa_within⟩ := w_m_within hT hT0
                  refine s_getr hC hW gc_M iw_M 2 (by decide) uw_388 rfl hT0 (v := some a_within) ea_within dM_program_81 ?_
                  refine s_aload_n (x := some y) hx hb dM_program_84 rfl (lv_at hl 0 rfl) ?_
                  refine s_geti hC hW gc_M iw_M 8 (by decide) uw_394 rfl hT0 (v := nI ((m_programs (m_0 S y) y) + 1)) (by simp [x_gs]) dM_program_85 ?_
                  refine lv_iload_n hx hb dM_program_88 rfl (lv_at hl 1 rfl) ?_
                  refine k_iast hC hW sa_within rfl rfl (by decide) ((m_programs (m_0 S y) y) + 1) rfl (by omega) dM_program_89 (fun H locs hW => ?_)
                  refine s_aload_n (x := some y) hx hb dM_program_90 rfl (lv_at hl 0 rfl) ?_
                  obtain ⟨a_names, ea_names, sa_names⟩ := w_m_names hT hT0
                  refine s_getr hC hW gc_M iw_M 3 (by decide) uw_389 rfl hT0 (v := some a_names) ea_names dM_program_91 ?_
                  refine s_aload_n (x := some y) hx hb dM_program_94 rfl (lv_at hl 0 rfl) ?_
                  refine s_geti hC hW gc_M iw_M 8 (by decide) uw_394 rfl hT0 (v := nI ((m_programs (m_0 S y) y) + 1)) (by simp [x_gs]) dM_program_95 ?_
                  refine lv_iload_n hx hb dM_program_98 rfl (lv_at hl 2 rfl) ?_
                  refine k_iast hC hW sa_names rfl rfl (by decide) ((m_programs (m_0 S y) y) + 1) rfl (by omega) dM_program_99 (fun H locs hW => ?_)
                  refine s_aload_n (x := some y) hx hb dM_program_100 rfl (lv_at hl 0 rfl) ?_
                  obtain ⟨a_marks, ea_marks, sa_marks⟩ := w_m_marks hT hT0
                  refine s_getr hC hW gc_M iw_M 4 (by decide) uw_390 rfl hT0 (v := some a_marks) ea_marks dM_program_101 ?_
                  refine s_aload_n (x := some y) hx hb dM_program_104 rfl (lv_at hl 0 rfl) ?_
                  refine s_geti hC hW gc_M iw_M 8 (by decide) uw_394 rfl hT0 (v := nI ((m_programs (m_0 S y) y) + 1)) (by simp [x_gs]) dM_program_105 ?_
                  refine lv_iload_n hx hb dM_program_108 rfl (lv_at hl 3 rfl) ?_
                  refine k_iast hC hW sa_marks rfl rfl (by decide) ((m_programs (m_0 S y) y) + 1) rfl (by omega) dM_program_109 (fun H locs hW => ?_)
                  refine s_aload_n (x := some y) hx hb dM_program_110 rfl (lv_at hl 0 rfl) ?_
                  refine s_geti hC hW gc_M iw_M 8 (by decide) uw_394 rfl hT0 (v := nI ((m_programs (m_0 S y) y) + 1)) (by simp [x_gs]) dM_program_111 ?_
                  exact s_iret hC hr hlocks rfl hW dM_program_114 ⟨by rw [f_prM, if_neg c_6, if_neg c_14, if_neg c_21, if_neg c_25, if_pos c_31, if_pos c_41, if_pos c_53, if_neg c_65], by rw [f_prM, if_neg c_6, if_neg c_14, if_neg c_21, if_neg c_25, if_pos c_31, if_pos c_41, if_pos c_53, if_neg c_65, m_q, ea_within, v_a_s, m_q, ea_names, v_a_s, m_q, ea_marks, v_a_s]⟩
                · skip
                  refine lv_iconst (v := (-1)) hx hb dM_program_68 (by decide) ?_
                  exact s_iret hC hr hlocks rfl hW dM_program_69 ⟨by rw [f_prM, if_neg c_6, if_neg c_14, if_neg c_21, if_neg c_25, if_pos c_31, if_pos c_41, if_pos c_53, if_pos c_65], by rw [f_prM, if_neg c_6, if_neg c_14, if_neg c_21, if_neg c_25, if_pos c_31, if_pos c_41, if_pos c_53, if_pos c_65]⟩
              · skip
                refine lv_bipush (v := (-3)) hx hb dM_program_56 (by decide) ?_
                exact s_iret hC hr hlocks rfl hW dM_program_58 ⟨by rw [f_prM, if_neg c_6, if_neg c_14, if_neg c_21, if_neg c_25, if_pos c_31, if_pos c_41, if_neg c_53], by rw [f_prM, if_neg c_6, if_neg c_14, if_neg c_21, if_neg c_25, if_pos c_31, if_pos c_41, if_neg c_53]⟩
            · skip
              refine lv_bipush (v := (-4)) hx hb dM_program_44 (by decide) ?_
              exact s_iret hC hr hlocks rfl hW dM_program_46 ⟨by rw [f_prM, if_neg c_6, if_neg c_14, if_neg c_21, if_neg c_25, if_pos c_31, if_neg c_41], by rw [f_prM, if_neg c_6, if_neg c_14, if_neg c_21, if_neg c_25, if_pos c_31, if_neg c_41]⟩
          · skip
            refine lv_bipush (v := (-2)) hx hb dM_program_34 (by decide) ?_
            exact s_iret hC hr hlocks rfl hW dM_program_36 ⟨by rw [f_prM, if_neg c_6, if_neg c_14, if_neg c_21, if_neg c_25, if_neg c_31], by rw [f_prM, if_neg c_6, if_neg c_14, if_neg c_21, if_neg c_25, if_neg c_31]⟩

/-! M.cell -/
theorem x_isP {S : gs_S} {y : Nat} {p : Int32} (hM : m_t S) (hY : g_sh S y = some (.inl 3)) (h : ¬ f_isP S y p = 0) : ∃ j : Nat, 1 ≤ j ∧ j ≤ m_programs S y ∧ p = nI j := by
  have hb := b_programs hM hY
  unfold f_isP at h
  split at h
  · exact absurd rfl h
  · rename_i c1
    split at h
    · exact absurd rfl h
    · rename_i c2
      have h0 : ¬ p < 0 := fun z => c1 (by rw [Int32.lt_iff_toInt_lt] at z; rw [Int32.le_iff_toInt_le]; omega)
      obtain ⟨j, hj, rfl⟩ := nI_of h0
      rw [nI_ltI (by omega) hj] at c2
      refine ⟨j, ?_, by omega, rfl⟩
      rcases Nat.eq_zero_or_pos j with rfl | z
      · exact absurd (by decide) c1
      · exact z
def f_ck (S : gs_S) (y : Nat) (p : Int32) : Nat → Nat → Nat → Nat
  | 0, _, acc => acc
  | k + 1, i, acc => f_ck S y p k (i + 1) (if nI (m_owner S y i) = p then acc + 1 else acc)
theorem b_ck {S : gs_S} {y : Nat} {p : Int32} : ∀ (k i acc : Nat), f_ck S y p k i acc ≤ acc + k := by
  intro k
  induction k with
  | zero => intro i acc; exact Nat.le_refl _
  | succ k ih =>
    intro i acc
    rw [f_ck]
    split
    · have := ih (i + 1) (acc + 1); omega
    · have := ih (i + 1) acc; omega
def f_ceM (T : gs_S) (y : Nat) (p : Int32) (v : Int64) : Int32 × gs_S := if f_isP T y p = 0 then (-2, T) else if nI (m_active T y) ≤ 0 then (if nI (m_cells T y) = 200 then (-1, T) else (nI (m_cells T y), p_i (p_al (p_al (p_ai (p_ai T 16 (m_q T y 9) (m_cells T y) p) 17 (m_q T y 10) (m_cells T y) (nI (f_ck T y p (m_cells T y) 0 0))) 19 (m_q T y 12) (m_cells T y) v) 22 (m_q T y 16) (m_cells T y) v) 3 13 y (nI (m_cells T y + 1)))) else (-4, T)

set_option maxHeartbeats 4000000 in
set_option maxRecDepth 100000 in
theorem lp_ce (l : Launch) (G : gs_G) (S : gs_S) (T : gs_S) (y : Nat) (p0 : Int32) (v : Int64) (hT : m_t T) (hT0 : g_sh T y = some (.inl 3)) (h_cells : m_cells T y < 200) (hfin : f_ceM T y p0 v = (nI (m_cells T y), p_i (p_al (p_al (p_ai (p_ai T 16 (m_q T y 9) (m_cells T y) p0) 17 (m_q T y 10) (m_cells T y) (nI (f_ck T y p0 (m_cells T y) 0 0))) 19 (m_q T y 12) (m_cells T y) v) 22 (m_q T y 16) (m_cells T y) v) 3 13 y (nI (m_cells T y + 1)))) {p : Program} {e : Env} {s : State} {m : MethodId} {below : List Frame} {meth : Method} {c : Code} (hC : CallFix p m c cM_cell 6 s #[va_rf (some y), Value.int p0, Value.long v] gU yM_cell.cls) (hr : meth.sig.returnType = some .int) (hlocks : meth.locks = false) {H : Heap} {locs : List Loc} (hW : g_W G (g_A S s.heap.size) s T H locs) :
    ∀ (k : Nat) (i acc : Nat), i + k = m_cells T y → acc ≤ i → f_ck T y p0 (m_cells T y) 0 0 = f_ck T y p0 k i acc → ∀ (ls : Array Slot), lv_has ls 6 [(5, .int (nI i)), (4, .int (nI acc)), (0, va_rf (some y)), (1, .int p0), (2, .long v)] → W p l e { frames := 1, cells := 0, slots := 0, locals := 21 } s m #[va_rf (some y), Value.int p0, Value.long v] below meth c H locs 0 0 (MQ below (g_Qi G S s.heap.size (fun r S' => r = (f_ceM T y p0 v).1 ∧ S' = (f_ceM T y p0 v).2)) #[va_rf (some y), Value.int p0, Value.long v] s 0 0 (g_A S s.heap.size)) (F0 m 44 ls []) := by
  obtain ⟨hx, hb, hml, hown, hts⟩ := id hC
  intro k
  induction k with
  | zero =>
    intro i acc  hi hac hf ls hl
    refine lv_iload hx hb dM_cell_44 (lv_at hl 0 rfl) ?_
    refine s_aload_n (x := some y) hx hb dM_cell_46 rfl (lv_at hl 2 rfl) ?_
    refine s_geti hC hW gc_M iw_M 13 (by decide) uw_399 rfl hT0 (v := nI (m_cells T y)) (e_cells (S := T) hT hT0) dM_cell_47 ?_
    refine lv_icmp_ge (tgt := 80) hx hb dM_cell_50 (by decide) (fun c_50 => ?_) (fun c => absurd ((nI_leI (by omega) (by omega)).mpr (by omega)) c)
    refine s_aload_n (x := some y) hx hb dM_cell_80 rfl (lv_at hl 2 rfl) ?_
    obtain ⟨a_owner, ea_owner, sa_owner⟩ := w_m_owner hT hT0
    refine s_getr hC hW gc_M iw_M 9 (by decide) uw_395 rfl hT0 (v := some a_owner) ea_owner dM_cell_81 ?_
    refine s_aload_n (x := some y) hx hb dM_cell_84 rfl (lv_at hl 2 rfl) ?_
    refine s_geti hC hW gc_M iw_M 13 (by decide) uw_399 rfl hT0 (v := nI (m_cells T y)) (e_cells (S := T) hT hT0) dM_cell_85 ?_
    refine lv_iload_n hx hb dM_cell_88 rfl (lv_at hl 3 rfl) ?_
    refine k_iast hC hW sa_owner rfl rfl (by decide) (m_cells T y) rfl (by omega) dM_cell_89 (fun H locs hW => ?_)
    refine s_aload_n (x := some y) hx hb dM_cell_90 rfl (lv_at hl 2 rfl) ?_
    obtain ⟨a_rank, ea_rank, sa_rank⟩ := w_m_rank hT hT0
    refine s_getr hC hW gc_M iw_M 10 (by decide) uw_396 rfl hT0 (v := some a_rank) ea_rank dM_cell_91 ?_
    refine s_aload_n (x := some y) hx hb dM_cell_94 rfl (lv_at hl 2 rfl) ?_
    refine s_geti hC hW gc_M iw_M 13 (by decide) uw_399 rfl hT0 (v := nI (m_cells T y)) (e_cells (S := T) hT hT0) dM_cell_95 ?_
    refine lv_iload hx hb dM_cell_98 (lv_at hl 1 rfl) ?_
    refine k_iast hC hW sa_rank rfl rfl (by decide) (m_cells T y) rfl (by omega) dM_cell_100 (fun H locs hW => ?_)
    refine s_aload_n (x := some y) hx hb dM_cell_101 rfl (lv_at hl 2 rfl) ?_
    obtain ⟨a_first, ea_first, sa_first⟩ := w_m_first hT hT0
    refine s_getr hC hW gc_M iw_M 12 (by decide) uw_398 rfl hT0 (v := some a_first) ea_first dM_cell_102 ?_
    refine s_aload_n (x := some y) hx hb dM_cell_105 rfl (lv_at hl 2 rfl) ?_
    refine s_geti hC hW gc_M iw_M 13 (by decide) uw_399 rfl hT0 (v := nI (m_cells T y)) (e_cells (S := T) hT hT0) dM_cell_106 ?_
    refine lv_lload_n hx hb dM_cell_109 rfl (lv_at hl 4 rfl) ?_
    refine k_last hC hW sa_first rfl rfl (by decide) (m_cells T y) rfl (by omega) dM_cell_110 (fun H locs hW => ?_)
    refine s_aload_n (x := some y) hx hb dM_cell_111 rfl (lv_at hl 2 rfl) ?_
    obtain ⟨a_memory, ea_memory, sa_memory⟩ := w_m_memory hT hT0
    refine s_getr hC hW gc_M iw_M 16 (by decide) uw_402 rfl hT0 (v := some a_memory) ea_memory dM_cell_112 ?_
    refine s_aload_n (x := some y) hx hb dM_cell_115 rfl (lv_at hl 2 rfl) ?_
    refine s_geti hC hW gc_M iw_M 13 (by decide) uw_399 rfl hT0 (v := nI (m_cells T y)) (e_cells (S := T) hT hT0) dM_cell_116 ?_
    refine lv_lload_n hx hb dM_cell_119 rfl (lv_at hl 4 rfl) ?_
    refine k_last hC hW sa_memory rfl rfl (by decide) (m_cells T y) rfl (by omega) dM_cell_120 (fun H locs hW => ?_)
    refine s_aload_n (x := some y) hx hb dM_cell_121 rfl (lv_at hl 2 rfl) ?_
    refine lv_dup hx hb dM_cell_122 rfl ?_
    refine s_geti hC hW gc_M iw_M 13 (by decide) uw_399 rfl hT0 (v := nI (m_cells T y)) (e_cells (S := T) hT hT0) dM_cell_123 ?_
    refine lv_iconst (v := 1) hx hb dM_cell_126 (by decide) ?_
    refine lv_iadd hx hb dM_cell_127 ?_
    refine s_topi (nI_1 _) ?_
    refine s_puti hC hW gc_M iw_M 13 (by decide) uw_399 (Or.inl rfl) rfl rfl rfl hT0 dM_cell_128 (fun H locs hW => ?_)
    refine s_aload_n (x := some y) hx hb dM_cell_131 rfl (lv_at hl 2 rfl) ?_
    refine s_geti hC hW gc_M iw_M 13 (by decide) uw_399 rfl hT0 (v := nI ((m_cells T y) + 1)) (by simp [x_gs]) dM_cell_132 ?_
    refine lv_iconst (v := 1) hx hb dM_cell_135 (by decide) ?_
    refine lv_isub hx hb dM_cell_136 ?_
    refine s_topi (x_sub1 (by omega)) ?_
    exact s_iret hC hr hlocks rfl hW dM_cell_137 ⟨by rw [hfin]; simp, by rw [hfin, m_q, ea_owner, v_a_s, m_q, ea_rank, v_a_s, m_q, ea_first, v_a_s, m_q, ea_memory, v_a_s, hf]; rfl⟩
  | succ k ih =>
    intro i acc  hi hac hf ls hl
    refine lv_iload hx hb dM_cell_44 (lv_at hl 0 rfl) ?_
    refine s_aload_n (x := some y) hx hb dM_cell_46 rfl (lv_at hl 2 rfl) ?_
    refine s_geti hC hW gc_M iw_M 13 (by decide) uw_399 rfl hT0 (v := nI (m_cells T y)) (e_cells (S := T) hT hT0) dM_cell_47 ?_
    refine lv_icmp_ge (tgt := 80) hx hb dM_cell_50 (by decide) (fun c => absurd ((nI_leI (by omega) (by omega)).mp c) (by omega)) (fun c_50 => ?_)
    refine lv_iload hx hb dM_cell_53 (lv_at hl 1 rfl) ?_
    refine s_aload_n (x := some y) hx hb dM_cell_55 rfl (lv_at hl 2 rfl) ?_
    obtain ⟨a_owner, ea_owner, sa_owner⟩ := w_m_owner hT hT0
    refine s_getr hC hW gc_M iw_M 9 (by decide) uw_395 rfl hT0 (v := some a_owner) ea_owner dM_cell_56 ?_
    refine lv_iload hx hb dM_cell_59 (lv_at hl 0 rfl) ?_
    refine k_iald hC hW sa_owner rfl rfl (by decide) i rfl (by omega) (v := nI (m_owner T y i)) (e_owner (S := T) hT hT0 ea_owner (by omega)) dM_cell_61 ?_
    have h61 := b_owner hT hT0 (i := i) (by omega)
    refine lv_iload_n hx hb dM_cell_62 rfl (lv_at hl 3 rfl) ?_
    refine lv_icmp_ne (tgt := 70) hx hb dM_cell_63 (by decide) (fun c_63 => ?_) (fun c_63 => ?_)
    · skip
      refine lv_iconst (v := 0) hx hb dM_cell_70 (by decide) ?_
      refine lv_iadd hx hb dM_cell_71 ?_
      refine s_topi (Int32.add_zero _) ?_
      refine lv_istore (lv' := [(4, .int (nI acc)), (5, .int (nI i)), (0, va_rf (some y)), (1, .int p0), (2, .long v)]) hx hb dM_cell_72 hl (by decide) rfl (fun ls hl => ?_)
      refine lv_iinc (v := nI (i + 1)) (lv' := [(5, .int (nI (i + 1))), (4, .int (nI acc)), (0, va_rf (some y)), (1, .int p0), (2, .long v)]) hx hb dM_cell_74 hl (k := 1) rfl (nI_1 _) (by decide) rfl (fun ls hl => ?_)
      refine lv_goto (tgt := 44) hx hb dM_cell_77 (by decide) ?_
      exact ih (i + 1) acc (by omega) (by omega) (by rw [hf, f_ck, if_neg c_63]) ls (lv_sub hl [0, 1, 2, 3, 4] rfl)
    · skip
      refine lv_iconst (v := 1) hx hb dM_cell_66 (by decide) ?_
      refine lv_goto (tgt := 71) hx hb dM_cell_67 (by decide) ?_
      refine lv_iadd hx hb dM_cell_71 ?_
      refine s_topi (nI_1 _) ?_
      refine lv_istore (lv' := [(4, .int (nI (acc + 1))), (5, .int (nI i)), (0, va_rf (some y)), (1, .int p0), (2, .long v)]) hx hb dM_cell_72 hl (by decide) rfl (fun ls hl => ?_)
      refine lv_iinc (v := nI (i + 1)) (lv' := [(5, .int (nI (i + 1))), (4, .int (nI (acc + 1))), (0, va_rf (some y)), (1, .int p0), (2, .long v)]) hx hb dM_cell_74 hl (k := 1) rfl (nI_1 _) (by decide) rfl (fun ls hl => ?_)
      refine lv_goto (tgt := 44) hx hb dM_cell_77 (by decide) ?_
      exact ih (i + 1) (acc + 1) (by omega) (by omega) (by rw [hf, f_ck, if_pos c_63]) ls (lv_sub hl [0, 1, 2, 3, 4] rfl)

set_option maxHeartbeats 4000000 in
set_option maxRecDepth 100000 in
theorem c_M_cell (l : Launch) (G : gs_G) (S : gs_S) (sz : Nat) (y : Nat) (p0 : Int32) (v : Int64) (hM : m_t S) (hY : g_sh S y = some (.inl 3)) : Met l yM_cell (kM_cell :: gU) { frames := 1, cells := 0, slots := 0, locals := 21 } (g_Pc G S sz [va_rf (some y), .int p0, .long v]) (g_Qi G S sz (fun r S' => r = (f_ceM (m_0 S y) y p0 v).1 ∧ S' = (f_ceM (m_0 S y) y p0 v).2)) 0 0 (g_A S sz) := by
  refine s_head (by decide) (Nat.le_of_ble_eq_true rfl) ?_
  intro p e s m below meth c ls hsz hC hr hlocks hnm hl hW
  subst hsz
  obtain ⟨hx, hb, hml, hown, hts⟩ := id hC
  have hl : lv_has ls 6 [(0, va_rf (some y)), (1, .int p0), (2, .long v)] := hl
  refine s_aload_n (x := some y) hx hb dM_cell_0 rfl (lv_at hl 0 rfl) ?_
  refine lv_iconst (v := 0) hx hb dM_cell_1 (by decide) ?_
  refine s_puti hC hW gc_M iw_M 0 (by decide) uw_386 (Or.inl rfl) rfl rfl rfl hY dM_cell_2 (fun H locs hW => ?_)
  have hT : m_t (m_0 S y) := mt_0 hM
  have hT0 : g_sh (m_0 S y) y = some (.inl 3) := hY
  have hW : g_W G (g_A S s.heap.size) s (m_0 S y) H locs := hW
  have h_programs := b_programs hT hT0
  have h_cells := b_cells hT hT0
  have h_active := b_active hT hT0
  have h_prepared := b_prepared hT hT0
  have h_arguments := b_arguments hT hT0
  have h_used := b_used hT hT0
  have h_preparedAhead := b_preparedAhead hT hT0
  refine s_aload_n (x := some y) hx hb dM_cell_5 rfl (lv_at hl 0 rfl) ?_
  refine lv_iload_n hx hb dM_cell_6 rfl (lv_at hl 1 rfl) ?_
  refine s_calli hW (s_runV (n := 1) (As := [.int p0]) (rest := []) hC (c_M_isProgram l G (m_0 S y) H.size y p0 hT hT0) uc_M_isProgram uw_494 uw_496 us_M_isProgram uw_4 rfl rfl (by decide +kernel) ⟨by decide, by decide⟩ (g_preV hW gc_M hT0 [.int p0]) rfl hl.1 rfl (Nat.le_of_ble_eq_true rfl) dM_cell_7 ⟨Nat.le_of_ble_eq_true rfl, Nat.le_of_ble_eq_true rfl⟩) (fun q7 S7 H locs hp7 hW => ?_)
  obtain ⟨hs7, rfl⟩ := hp7
  replace hs7 := hs7.symm
  subst hs7
  refine lv_if_ne (tgt := 16) hx hb dM_cell_10 (by decide) (fun c_10 => ?_) (fun c_10 => ?_)
  · skip
    refine s_aload_n (x := some y) hx hb dM_cell_16 rfl (lv_at hl 0 rfl) ?_
    refine s_geti hC hW gc_M iw_M 22 (by decide) uw_408 rfl hT0 (v := nI (m_active (m_0 S y) y)) (e_active (S := m_0 S y) hT hT0) dM_cell_17 ?_
    refine lv_if_le (tgt := 26) hx hb dM_cell_20 (by decide) (fun c_20 => ?_) (fun c_20 => ?_)
    · skip
      refine s_aload_n (x := some y) hx hb dM_cell_26 rfl (lv_at hl 0 rfl) ?_
      refine s_geti hC hW gc_M iw_M 13 (by decide) uw_399 rfl hT0 (v := nI (m_cells (m_0 S y) y)) (e_cells (S := m_0 S y) hT hT0) dM_cell_27 ?_
      refine lv_sipush (v := 200) hx hb dM_cell_30 (by decide) ?_
      refine lv_icmp_ne (tgt := 38) hx hb dM_cell_33 (by decide) (fun c_33 => ?_) (fun c_33 => ?_)
      · skip
        refine lv_iconst (v := 0) hx hb dM_cell_38 (by decide) ?_
        refine lv_istore (lv' := [(4, .int 0), (0, va_rf (some y)), (1, .int p0), (2, .long v)]) hx hb dM_cell_39 hl (by decide) rfl (fun ls hl => ?_)
        refine lv_iconst (v := 0) hx hb dM_cell_41 (by decide) ?_
        refine lv_istore (lv' := [(5, .int 0), (4, .int 0), (0, va_rf (some y)), (1, .int p0), (2, .long v)]) hx hb dM_cell_42 hl (by decide) rfl (fun ls hl => ?_)
        have hc200 : m_cells (m_0 S y) y ≠ 200 := fun z => c_33 (by rw [z]; rfl)
        exact lp_ce l G S (m_0 S y) y p0 v hT hT0 (by omega) (by rw [f_ceM, if_neg c_10, if_pos c_20, if_neg c_33]) hC hr hlocks hW (m_cells (m_0 S y) y) 0 0 (by omega) (by omega) rfl ls (lv_sub hl [0, 1, 2, 3, 4] rfl)
      · skip
        refine lv_iconst (v := (-1)) hx hb dM_cell_36 (by decide) ?_
        exact s_iret hC hr hlocks rfl hW dM_cell_37 ⟨by rw [f_ceM, if_neg c_10, if_pos c_20, if_pos c_33], by rw [f_ceM, if_neg c_10, if_pos c_20, if_pos c_33]⟩
    · skip
      refine lv_bipush (v := (-4)) hx hb dM_cell_23 (by decide) ?_
      exact s_iret hC hr hlocks rfl hW dM_cell_25 ⟨by rw [f_ceM, if_neg c_10, if_neg c_20], by rw [f_ceM, if_neg c_10, if_neg c_20]⟩
  · skip
    refine lv_bipush (v := (-2)) hx hb dM_cell_13 (by decide) ?_
    exact s_iret hC hr hlocks rfl hW dM_cell_15 ⟨by rw [f_ceM, if_pos c_10], by rw [f_ceM, if_pos c_10]⟩

/-! M.formal -/
def f_foM (T : gs_S) (y : Nat) (p how size : Int32) : Int32 × gs_S := if f_isP T y p = 0 then (-2, T) else if how < 0 then (-2, T) else if 3 < how then (-2, T) else if size < 1 then (-2, T) else if size ≤ 8 then (if nI (m_active T y) ≤ 0 then (if nI (m_manyFormals T y p.toNatClampNeg) = 16 then (-1, T) else (nI (m_manyFormals T y p.toNatClampNeg), p_ai (p_ai (p_ai T 20 (m_q T y 14) (16 * (p.toNatClampNeg - 1) + m_manyFormals T y p.toNatClampNeg) how) 21 (m_q T y 15) (16 * (p.toNatClampNeg - 1) + m_manyFormals T y p.toNatClampNeg) size) 13 (m_q T y 5) p.toNatClampNeg (nI (m_manyFormals T y p.toNatClampNeg + 1)))) else (-4, T)) else (-2, T)

set_option maxHeartbeats 4000000 in
set_option maxRecDepth 100000 in
theorem c_M_formal (l : Launch) (G : gs_G) (S : gs_S) (sz : Nat) (y : Nat) (p0 how size : Int32) (hM : m_t S) (hY : g_sh S y = some (.inl 3)) : Met l yM_formal (kM_formal :: gU) { frames := 1, cells := 0, slots := 0, locals := 21 } (g_Pc G S sz [va_rf (some y), .int p0, .int how, .int size]) (g_Qi G S sz (fun r S' => r = (f_foM (m_0 S y) y p0 how size).1 ∧ S' = (f_foM (m_0 S y) y p0 how size).2)) 0 0 (g_A S sz) := by
  refine s_head (by decide) (Nat.le_of_ble_eq_true rfl) ?_
  intro p e s m below meth c ls hsz hC hr hlocks hnm hl hW
  subst hsz
  obtain ⟨hx, hb, hml, hown, hts⟩ := id hC
  have hl : lv_has ls 5 [(0, va_rf (some y)), (1, .int p0), (2, .int how), (3, .int size)] := hl
  refine s_aload_n (x := some y) hx hb dM_formal_0 rfl (lv_at hl 0 rfl) ?_
  refine lv_iconst (v := 0) hx hb dM_formal_1 (by decide) ?_
  refine s_puti hC hW gc_M iw_M 0 (by decide) uw_386 (Or.inl rfl) rfl rfl rfl hY dM_formal_2 (fun H locs hW => ?_)
  have hT : m_t (m_0 S y) := mt_0 hM
  have hT0 : g_sh (m_0 S y) y = some (.inl 3) := hY
  have hW : g_W G (g_A S s.heap.size) s (m_0 S y) H locs := hW
  have h_programs := b_programs hT hT0
  have h_cells := b_cells hT hT0
  have h_active := b_active hT hT0
  have h_prepared := b_prepared hT hT0
  have h_arguments := b_arguments hT hT0
  have h_used := b_used hT hT0
  have h_preparedAhead := b_preparedAhead hT hT0
  refine s_aload_n (x := some y) hx hb dM_formal_5 rfl (lv_at hl 0 rfl) ?_
  refine lv_iload_n hx hb dM_formal_6 rfl (lv_at hl 1 rfl) ?_
  refine s_calli hW (s_runV (n := 1) (As := [.int p0]) (rest := []) hC (c_M_isProgram l G (m_0 S y) H.size y p0 hT hT0) uc_M_isProgram uw_494 uw_496 us_M_isProgram uw_4 rfl rfl (by decide +kernel) ⟨by decide, by decide⟩ (g_preV hW gc_M hT0 [.int p0]) rfl hl.1 rfl (Nat.le_of_ble_eq_true rfl) dM_formal_7 ⟨Nat.le_of_ble_eq_true rfl, Nat.le_of_ble_eq_true rfl⟩) (fun q7 S7 H locs hp7 hW => ?_)
  obtain ⟨hs7, rfl⟩ := hp7
  replace hs7 := hs7.symm
  subst hs7
  refine lv_if_eq (tgt := 33) hx hb dM_formal_10 (by decide) (fun c_10 => ?_) (fun c_10 => ?_)
  · skip
    refine lv_bipush (v := (-2)) hx hb dM_formal_33 (by decide) ?_
    exact s_iret hC hr hlocks rfl hW dM_formal_35 ⟨by rw [f_foM, if_pos c_10], by rw [f_foM, if_pos c_10]⟩
  · skip
    refine lv_iload_n hx hb dM_formal_13 rfl (lv_at hl 2 rfl) ?_
    refine lv_if_lt (tgt := 33) hx hb dM_formal_14 (by decide) (fun c_14 => ?_) (fun c_14 => ?_)
    · skip
      refine lv_bipush (v := (-2)) hx hb dM_formal_33 (by decide) ?_
      exact s_iret hC hr hlocks rfl hW dM_formal_35 ⟨by rw [f_foM, if_neg c_10, if_pos c_14], by rw [f_foM, if_neg c_10, if_pos c_14]⟩
    · skip
      refine lv_iload_n hx hb dM_formal_17 rfl (lv_at hl 2 rfl) ?_
      refine lv_iconst (v := 3) hx hb dM_formal_18 (by decide) ?_
      refine lv_icmp_gt (tgt := 33) hx hb dM_formal_19 (by decide) (fun c_19 => ?_) (fun c_19 => ?_)
      · skip
        refine lv_bipush (v := (-2)) hx hb dM_formal_33 (by decide) ?_
        exact s_iret hC hr hlocks rfl hW dM_formal_35 ⟨by rw [f_foM, if_neg c_10, if_neg c_14, if_pos c_19], by rw [f_foM, if_neg c_10, if_neg c_14, if_pos c_19]⟩
      · skip
        refine lv_iload_n hx hb dM_formal_22 rfl (lv_at hl 3 rfl) ?_
        refine lv_iconst (v := 1) hx hb dM_formal_23 (by decide) ?_
        refine lv_icmp_lt (tgt := 33) hx hb dM_formal_24 (by decide) (fun c_24 => ?_) (fun c_24 => ?_)
        · skip
          refine lv_bipush (v := (-2)) hx hb dM_formal_33 (by decide) ?_
          exact s_iret hC hr hlocks rfl hW dM_formal_35 ⟨by rw [f_foM, if_neg c_10, if_neg c_14, if_neg c_19, if_pos c_24], by rw [f_foM, if_neg c_10, if_neg c_14, if_neg c_19, if_pos c_24]⟩
        · skip
          refine lv_iload_n hx hb dM_formal_27 rfl (lv_at hl 3 rfl) ?_
          refine lv_bipush (v := 8) hx hb dM_formal_28 (by decide) ?_
          refine lv_icmp_le (tgt := 36) hx hb dM_formal_30 (by decide) (fun c_30 => ?_) (fun c_30 => ?_)
          · skip
            refine s_aload_n (x := some y) hx hb dM_formal_36 rfl (lv_at hl 0 rfl) ?_
            refine s_geti hC hW gc_M iw_M 22 (by decide) uw_408 rfl hT0 (v := nI (m_active (m_0 S y) y)) (e_active (S := m_0 S y) hT hT0) dM_formal_37 ?_
            refine lv_if_le (tgt := 46) hx hb dM_formal_40 (by decide) (fun c_40 => ?_) (fun c_40 => ?_)
            · skip
              obtain ⟨j, hj1, hj2, rfl⟩ := x_isP hT hT0 c_10
              refine s_aload_n (x := some y) hx hb dM_formal_46 rfl (lv_at hl 0 rfl) ?_
              obtain ⟨a_manyFormals, ea_manyFormals, sa_manyFormals⟩ := w_m_manyFormals hT hT0
              refine s_getr hC hW gc_M iw_M 5 (by decide) uw_391 rfl hT0 (v := some a_manyFormals) ea_manyFormals dM_formal_47 ?_
              refine lv_iload_n hx hb dM_formal_50 rfl (lv_at hl 1 rfl) ?_
              refine k_iald hC hW sa_manyFormals rfl rfl (by decide) j rfl (by omega) (v := nI (m_manyFormals (m_0 S y) y j)) (e_manyFormals (S := m_0 S y) hT hT0 ea_manyFormals (by omega)) dM_formal_51 ?_
              have h51 := b_manyFormals hT hT0 (i := j) (by omega)
              refine lv_bipush (v := 16) hx hb dM_formal_52 (by decide) ?_
              refine lv_icmp_ne (tgt := 59) hx hb dM_formal_54 (by decide) (fun c_54 => ?_) (fun c_54 => ?_)
              · skip
                have hm16 : m_manyFormals (m_0 S y) y j ≠ 16 := fun z => c_54 (by rw [z]; rfl)
                refine lv_bipush (v := 16) hx hb dM_formal_59 (by decide) ?_
                refine lv_iload_n hx hb dM_formal_61 rfl (lv_at hl 1 rfl) ?_
                refine lv_iconst (v := 1) hx hb dM_formal_62 (by decide) ?_
                refine lv_isub hx hb dM_formal_63 ?_
                refine s_topi (x_sub1 (by omega)) ?_
                refine lv_imul hx hb dM_formal_64 ?_
                refine s_topi (x_mul16 _) ?_
                refine s_aload_n (x := some y) hx hb dM_formal_65 rfl (lv_at hl 0 rfl) ?_
                refine s_getr hC hW gc_M iw_M 5 (by decide) uw_391 rfl hT0 (v := some a_manyFormals) ea_manyFormals dM_formal_66 ?_
                refine lv_iload_n hx hb dM_formal_69 rfl (lv_at hl 1 rfl) ?_
                refine k_iald hC hW sa_manyFormals rfl rfl (by decide) j rfl (by omega) (v := nI (m_manyFormals (m_0 S y) y j)) (e_manyFormals (S := m_0 S y) hT hT0 ea_manyFormals (by omega)) dM_formal_70 ?_
                have h70 := b_manyFormals hT hT0 (i := j) (by omega)
                refine lv_iadd hx hb dM_formal_71 ?_
                refine s_topi (nI_add _ _) ?_
                refine lv_istore (lv' := [(4, .int (nI ((16 * (j - 1)) + (m_manyFormals (m_0 S y) y j)))), (0, va_rf (some y)), (1, .int (nI j)), (2, .int how), (3, .int size)]) hx hb dM_formal_72 hl (by decide) rfl (fun ls hl => ?_)
                refine s_aload_n (x := some y) hx hb dM_formal_74 rfl (lv_at hl 1 rfl) ?_
                obtain ⟨a_how, ea_how, sa_how⟩ := w_m_how hT hT0
                refine s_getr hC hW gc_M iw_M 14 (by decide) uw_400 rfl hT0 (v := some a_how) ea_how dM_formal_75 ?_
                refine lv_iload hx hb dM_formal_78 (lv_at hl 0 rfl) ?_
                refine lv_iload_n hx hb dM_formal_80 rfl (lv_at hl 3 rfl) ?_
                refine k_iast hC hW sa_how rfl rfl (by decide) ((16 * (j - 1)) + (m_manyFormals (m_0 S y) y j)) rfl (by omega) dM_formal_81 (fun H locs hW => ?_)
                refine s_aload_n (x := some y) hx hb dM_formal_82 rfl (lv_at hl 1 rfl) ?_
                obtain ⟨a_bytes, ea_bytes, sa_bytes⟩ := w_m_bytes hT hT0
                refine s_getr hC hW gc_M iw_M 15 (by decide) uw_401 rfl hT0 (v := some a_bytes) ea_bytes dM_formal_83 ?_
                refine lv_iload hx hb dM_formal_86 (lv_at hl 0 rfl) ?_
                refine lv_iload_n hx hb dM_formal_88 rfl (lv_at hl 4 rfl) ?_
                refine k_iast hC hW sa_bytes rfl rfl (by decide) ((16 * (j - 1)) + (m_manyFormals (m_0 S y) y j)) rfl (by omega) dM_formal_89 (fun H locs hW => ?_)
                refine s_aload_n (x := some y) hx hb dM_formal_90 rfl (lv_at hl 1 rfl) ?_
                refine s_getr hC hW gc_M iw_M 5 (by decide) uw_391 rfl hT0 (v := some a_manyFormals) ea_manyFormals dM_formal_91 ?_
                refine lv_iload_n hx hb dM_formal_94 rfl (lv_at hl 2 rfl) ?_
                refine lv_dup2_11 hx hb dM_formal_95 rfl rfl ?_
                refine k_iald hC hW sa_manyFormals rfl rfl (by decide) j rfl (by omega) (v := nI (m_manyFormals (m_0 S y) y j)) (e_manyFormals (S := m_0 S y) hT hT0 ea_manyFormals (by omega)) dM_formal_96 ?_
                have h96 := b_manyFormals hT hT0 (i := j) (by omega)
                refine lv_iconst (v := 1) hx hb dM_formal_97 (by decide) ?_
                refine lv_iadd hx hb dM_formal_98 ?_
                refine s_topi (nI_1 _) ?_
                refine k_iast hC hW sa_manyFormals rfl rfl (by decide) j rfl (by omega) dM_formal_99 (fun H locs hW => ?_)
                refine s_aload_n (x := some y) hx hb dM_formal_100 rfl (lv_at hl 1 rfl) ?_
                refine s_getr hC hW gc_M iw_M 5 (by decide) uw_391 rfl hT0 (v := some a_manyFormals) ea_manyFormals dM_formal_101 ?_
                refine lv_iload_n hx hb dM_formal_104 rfl (lv_at hl 2 rfl) ?_
                refine k_iald hC hW sa_manyFormals rfl rfl (by decide) j rfl (by omega) rfl dM_formal_105 ?_
                refine lv_iconst (v := 1) hx hb dM_formal_106 (by decide) ?_
                refine lv_isub hx hb dM_formal_107 ?_
                exact s_iret hC hr hlocks rfl hW dM_formal_108 ⟨by rw [f_foM, if_neg c_10, if_neg c_14, if_neg c_19, if_neg c_24, if_pos c_30, if_pos c_40, nI_clamp (show j < 2 ^ 31 by omega), if_neg c_54]; rw [x_g_ai_p_ai, if_pos ⟨rfl, rfl, rfl⟩, nI_pred], by rw [f_foM, if_neg c_10, if_neg c_14, if_neg c_19, if_neg c_24, if_pos c_30, if_pos c_40, nI_clamp (show j < 2 ^ 31 by omega), if_neg c_54, m_q, ea_how, v_a_s, m_q, ea_bytes, v_a_s, m_q, ea_manyFormals, v_a_s]⟩
              · skip
                refine lv_iconst (v := (-1)) hx hb dM_formal_57 (by decide) ?_
                exact s_iret hC hr hlocks rfl hW dM_formal_58 ⟨by rw [f_foM, if_neg c_10, if_neg c_14, if_neg c_19, if_neg c_24, if_pos c_30, if_pos c_40, nI_clamp (show j < 2 ^ 31 by omega), if_pos c_54], by rw [f_foM, if_neg c_10, if_neg c_14, if_neg c_19, if_neg c_24, if_pos c_30, if_pos c_40, nI_clamp (show j < 2 ^ 31 by omega), if_pos c_54]⟩
            · skip
              refine lv_bipush (v := (-4)) hx hb dM_formal_43 (by decide) ?_
              exact s_iret hC hr hlocks rfl hW dM_formal_45 ⟨by rw [f_foM, if_neg c_10, if_neg c_14, if_neg c_19, if_neg c_24, if_pos c_30, if_neg c_40], by rw [f_foM, if_neg c_10, if_neg c_14, if_neg c_19, if_neg c_24, if_pos c_30, if_neg c_40]⟩
          · skip
            refine lv_bipush (v := (-2)) hx hb dM_formal_33 (by decide) ?_
            exact s_iret hC hr hlocks rfl hW dM_formal_35 ⟨by rw [f_foM, if_neg c_10, if_neg c_14, if_neg c_19, if_neg c_24, if_neg c_30], by rw [f_foM, if_neg c_10, if_neg c_14, if_neg c_19, if_neg c_24, if_neg c_30]⟩

/-! M.state, M.returned -/
def f_staM (T : gs_S) (y : Nat) (p : Int32) : Int32 := if f_isP T y p = 0 then -1 else if m_activeTimes T y p.toNatClampNeg ≤ 0 then (if m_data T y p.toNatClampNeg = 0 then 0 else 1) else 2

set_option maxHeartbeats 4000000 in
set_option maxRecDepth 100000 in
theorem c_M_state (l : Launch) (G : gs_G) (S : gs_S) (sz : Nat) (y : Nat) (p0 : Int32) (hM : m_t S) (hY : g_sh S y = some (.inl 3)) : Met l yM_state (kM_state :: gU) { frames := 1, cells := 0, slots := 0, locals := 21 } (g_Pc G S sz [va_rf (some y), .int p0]) (g_Qi G S sz (fun r S' => S' = m_0 S y ∧ r = f_staM (m_0 S y) y p0)) 0 0 (g_A S sz) := by
  refine s_head (by decide) (Nat.le_of_ble_eq_true rfl) ?_
  intro p e s m below meth c ls hsz hC hr hlocks hnm hl hW
  subst hsz
  obtain ⟨hx, hb, hml, hown, hts⟩ := id hC
  have hl : lv_has ls 2 [(0, va_rf (some y)), (1, .int p0)] := hl
  refine s_aload_n (x := some y) hx hb dM_state_0 rfl (lv_at hl 0 rfl) ?_
  refine lv_iconst (v := 0) hx hb dM_state_1 (by decide) ?_
  refine s_puti hC hW gc_M iw_M 0 (by decide) uw_386 (Or.inl rfl) rfl rfl rfl hY dM_state_2 (fun H locs hW => ?_)
  have hT : m_t (m_0 S y) := mt_0 hM
  have hT0 : g_sh (m_0 S y) y = some (.inl 3) := hY
  have hW : g_W G (g_A S s.heap.size) s (m_0 S y) H locs := hW
  have h_programs := b_programs hT hT0
  have h_cells := b_cells hT hT0
  have h_active := b_active hT hT0
  have h_prepared := b_prepared hT hT0
  have h_arguments := b_arguments hT hT0
  have h_used := b_used hT hT0
  have h_preparedAhead := b_preparedAhead hT hT0
  refine s_aload_n (x := some y) hx hb dM_state_5 rfl (lv_at hl 0 rfl) ?_
  refine lv_iload_n hx hb dM_state_6 rfl (lv_at hl 1 rfl) ?_
  refine s_calli hW (s_runV (n := 1) (As := [.int p0]) (rest := []) hC (c_M_isProgram l G (m_0 S y) H.size y p0 hT hT0) uc_M_isProgram uw_494 uw_496 us_M_isProgram uw_4 rfl rfl (by decide +kernel) ⟨by decide, by decide⟩ (g_preV hW gc_M hT0 [.int p0]) rfl hl.1 rfl (Nat.le_of_ble_eq_true rfl) dM_state_7 ⟨Nat.le_of_ble_eq_true rfl, Nat.le_of_ble_eq_true rfl⟩) (fun q7 S7 H locs hp7 hW => ?_)
  obtain ⟨hs7, rfl⟩ := hp7
  replace hs7 := hs7.symm
  subst hs7
  refine lv_if_ne (tgt := 17) hx hb dM_state_10 (by decide) (fun c_10 => ?_) (fun c_10 => ?_)
  · skip
    obtain ⟨j, hj1, hj2, rfl⟩ := x_isP hT hT0 c_10
    refine s_aload_n (x := some y) hx hb dM_state_17 rfl (lv_at hl 0 rfl) ?_
    obtain ⟨a_activeTimes, ea_activeTimes, sa_activeTimes⟩ := w_m_activeTimes hT hT0
    refine s_getr hC hW gc_M iw_M 6 (by decide) uw_392 rfl hT0 (v := some a_activeTimes) ea_activeTimes dM_state_18 ?_
    refine lv_iload_n hx hb dM_state_21 rfl (lv_at hl 1 rfl) ?_
    refine k_iald hC hW sa_activeTimes rfl rfl (by decide) j rfl (by omega) (v := m_activeTimes (m_0 S y) y j) (e_activeTimes (S := m_0 S y) ea_activeTimes) dM_state_22 ?_
    refine lv_if_le (tgt := 30) hx hb dM_state_23 (by decide) (fun c_23 => ?_) (fun c_23 => ?_)
    · skip
      refine s_aload_n (x := some y) hx hb dM_state_30 rfl (lv_at hl 0 rfl) ?_
      obtain ⟨a_data, ea_data, sa_data⟩ := w_m_data hT hT0
      refine s_getr hC hW gc_M iw_M 7 (by decide) uw_393 rfl hT0 (v := some a_data) ea_data dM_state_31 ?_
      refine lv_iload_n hx hb dM_state_34 rfl (lv_at hl 1 rfl) ?_
      refine k_zald hC hW sa_data rfl rfl (by decide) j rfl (by omega) (v := m_data (m_0 S y) y j) (e_data (S := m_0 S y) ea_data) dM_state_35 ?_
      refine lv_if_eq (tgt := 43) hx hb dM_state_36 (by decide) (fun c_36 => ?_) (fun c_36 => ?_)
      · skip
        refine lv_iconst (v := 0) hx hb dM_state_43 (by decide) ?_
        exact s_iret hC hr hlocks rfl hW dM_state_44 ⟨rfl, by rw [f_staM, if_neg c_10, nI_clamp (show j < 2 ^ 31 by omega), if_pos c_23, if_pos c_36]⟩
      · skip
        refine lv_iconst (v := 1) hx hb dM_state_39 (by decide) ?_
        refine lv_goto (tgt := 44) hx hb dM_state_40 (by decide) ?_
        exact s_iret hC hr hlocks rfl hW dM_state_44 ⟨rfl, by rw [f_staM, if_neg c_10, nI_clamp (show j < 2 ^ 31 by omega), if_pos c_23, if_neg c_36]⟩
    · skip
      refine lv_iconst (v := 2) hx hb dM_state_26 (by decide) ?_
      refine lv_goto (tgt := 44) hx hb dM_state_27 (by decide) ?_
      exact s_iret hC hr hlocks rfl hW dM_state_44 ⟨rfl, by rw [f_staM, if_neg c_10, nI_clamp (show j < 2 ^ 31 by omega), if_neg c_23]⟩
  · skip
    refine lv_iconst (v := (-1)) hx hb dM_state_13 (by decide) ?_
    refine lv_goto (tgt := 44) hx hb dM_state_14 (by decide) ?_
    exact s_iret hC hr hlocks rfl hW dM_state_44 ⟨rfl, by rw [f_staM, if_pos c_10]⟩

set_option maxHeartbeats 4000000 in
set_option maxRecDepth 100000 in
theorem c_M_returned (l : Launch) (G : gs_G) (S : gs_S) (sz : Nat) (y : Nat) (hM : m_t S) (hY : g_sh S y = some (.inl 3)) : Met l yM_returned (kM_returned :: gU) { frames := 0, cells := 0, slots := 0, locals := 0 } (g_Pc G S sz [va_rf (some y)]) (g_Ql G S sz (fun r S' => S' = m_0 S y ∧ r = g_l S 3 28 y)) 0 0 (g_A S sz) := by
  refine s_head (by decide) (Nat.le_of_ble_eq_true rfl) ?_
  intro p e s m below meth c ls hsz hC hr hlocks hnm hl hW
  subst hsz
  obtain ⟨hx, hb, hml, hown, hts⟩ := id hC
  have hl : lv_has ls 1 [(0, va_rf (some y))] := hl
  refine s_aload_n (x := some y) hx hb dM_returned_0 rfl (lv_at hl 0 rfl) ?_
  refine lv_iconst (v := 0) hx hb dM_returned_1 (by decide) ?_
  refine s_puti hC hW gc_M iw_M 0 (by decide) uw_386 (Or.inl rfl) rfl rfl rfl hY dM_returned_2 (fun H locs hW => ?_)
  refine s_aload_n (x := some y) hx hb dM_returned_5 rfl (lv_at hl 0 rfl) ?_
  refine s_getl hC hW gc_M iw_M 28 (by decide) uw_414 rfl hY rfl dM_returned_6 ?_
  exact s_lret hC hr hlocks hW dM_returned_9 ⟨rfl, rfl⟩

/-! M.shared -/
def f_sf (S : gs_S) (y : Nat) (nm : Int32) : Nat → Nat → Option Nat
  | 0, _ => none
  | k + 1, i => if nI (m_owner S y i) = 0 then (if m_external S y i = nm then some i else f_sf S y nm k (i + 1)) else f_sf S y nm k (i + 1)
def f_shM (T : gs_S) (y : Nat) (nm : Int32) : Int32 × gs_S := if f_isName nm = 0 then (-2, T) else match f_sf T y nm (m_cells T y) 0 with
  | some k => (nI k, T)
  | none => if nI (m_cells T y) = 200 then (-1, T) else (nI (m_cells T y), p_i (p_al (p_ai (p_ai T 16 (m_q T y 9) (m_cells T y) 0) 18 (m_q T y 11) (m_cells T y) nm) 22 (m_q T y 16) (m_cells T y) 0) 3 13 y (nI (m_cells T y + 1)))

set_option maxHeartbeats 4000000 in
set_option maxRecDepth 100000 in
theorem lp_sh (l : Launch) (G : gs_G) (S : gs_S) (T : gs_S) (y : Nat) (nm : Int32) (hT : m_t T) (hT0 : g_sh T y = some (.inl 3)) (h_cells : m_cells T y ≤ 200) (hnm0 : ¬ f_isName nm = 0) {p : Program} {e : Env} {s : State} {m : MethodId} {below : List Frame} {meth : Method} {c : Code} (hC : CallFix p m c cM_shared 3 s #[va_rf (some y), Value.int nm] gU yM_shared.cls) (hr : meth.sig.returnType = some .int) (hlocks : meth.locks = false) {H : Heap} {locs : List Loc} (hW : g_W G (g_A S s.heap.size) s T H locs) :
    ∀ (k : Nat) (i : Nat), i + k = m_cells T y → f_sf T y nm (m_cells T y) 0 = f_sf T y nm k i → ∀ (ls : Array Slot), lv_has ls 3 [(2, .int (nI i)), (0, va_rf (some y)), (1, .int nm)] → W p l e { frames := 1, cells := 0, slots := 0, locals := 20 } s m #[va_rf (some y), Value.int nm] below meth c H locs 0 0 (MQ below (g_Qi G S s.heap.size (fun r S' => r = (f_shM T y nm).1 ∧ S' = (f_shM T y nm).2)) #[va_rf (some y), Value.int nm] s 0 0 (g_A S s.heap.size)) (F0 m 17 ls []) := by
  obtain ⟨hx, hb, hml, hown, hts⟩ := id hC
  intro k
  induction k with
  | zero =>
    intro i  hi hf ls hl
    refine lv_iload_n hx hb dM_shared_17 rfl (lv_at hl 0 rfl) ?_
    refine s_aload_n (x := some y) hx hb dM_shared_18 rfl (lv_at hl 1 rfl) ?_
    refine s_geti hC hW gc_M iw_M 13 (by decide) uw_399 rfl hT0 (v := nI (m_cells T y)) (e_cells (S := T) hT hT0) dM_shared_19 ?_
    refine lv_icmp_ge (tgt := 52) hx hb dM_shared_22 (by decide) (fun c_22 => ?_) (fun c => absurd ((nI_leI (by omega) (by omega)).mpr (by omega)) c)
    refine s_aload_n (x := some y) hx hb dM_shared_52 rfl (lv_at hl 1 rfl) ?_
    refine s_geti hC hW gc_M iw_M 13 (by decide) uw_399 rfl hT0 (v := nI (m_cells T y)) (e_cells (S := T) hT hT0) dM_shared_53 ?_
    refine lv_sipush (v := 200) hx hb dM_shared_56 (by decide) ?_
    refine lv_icmp_ne (tgt := 64) hx hb dM_shared_59 (by decide) (fun c_59 => ?_) (fun c_59 => ?_)
    · skip
      have hc200 : m_cells T y ≠ 200 := fun z => c_59 (by rw [z]; rfl)
      refine s_aload_n (x := some y) hx hb dM_shared_64 rfl (lv_at hl 1 rfl) ?_
      obtain ⟨a_owner, ea_owner, sa_owner⟩ := w_m_owner hT hT0
      refine s_getr hC hW gc_M iw_M 9 (by decide) uw_395 rfl hT0 (v := some a_owner) ea_owner dM_shared_65 ?_
      refine s_aload_n (x := some y) hx hb dM_shared_68 rfl (lv_at hl 1 rfl) ?_
      refine s_geti hC hW gc_M iw_M 13 (by decide) uw_399 rfl hT0 (v := nI (m_cells T y)) (e_cells (S := T) hT hT0) dM_shared_69 ?_
      refine lv_iconst (v := 0) hx hb dM_shared_72 (by decide) ?_
      refine k_iast hC hW sa_owner rfl rfl (by decide) (m_cells T y) rfl (by omega) dM_shared_73 (fun H locs hW => ?_)
      refine s_aload_n (x := some y) hx hb dM_shared_74 rfl (lv_at hl 1 rfl) ?_
      obtain ⟨a_external, ea_external, sa_external⟩ := w_m_external hT hT0
      refine s_getr hC hW gc_M iw_M 11 (by decide) uw_397 rfl hT0 (v := some a_external) ea_external dM_shared_75 ?_
      refine s_aload_n (x := some y) hx hb dM_shared_78 rfl (lv_at hl 1 rfl) ?_
      refine s_geti hC hW gc_M iw_M 13 (by decide) uw_399 rfl hT0 (v := nI (m_cells T y)) (e_cells (S := T) hT hT0) dM_shared_79 ?_
      refine lv_iload_n hx hb dM_shared_82 rfl (lv_at hl 2 rfl) ?_
      refine k_iast hC hW sa_external rfl rfl (by decide) (m_cells T y) rfl (by omega) dM_shared_83 (fun H locs hW => ?_)
      refine s_aload_n (x := some y) hx hb dM_shared_84 rfl (lv_at hl 1 rfl) ?_
      obtain ⟨a_memory, ea_memory, sa_memory⟩ := w_m_memory hT hT0
      refine s_getr hC hW gc_M iw_M 16 (by decide) uw_402 rfl hT0 (v := some a_memory) ea_memory dM_shared_85 ?_
      refine s_aload_n (x := some y) hx hb dM_shared_88 rfl (lv_at hl 1 rfl) ?_
      refine s_geti hC hW gc_M iw_M 13 (by decide) uw_399 rfl hT0 (v := nI (m_cells T y)) (e_cells (S := T) hT hT0) dM_shared_89 ?_
      refine lv_lconst (v := 0) hx hb dM_shared_92 (by decide) ?_
      refine k_last hC hW sa_memory rfl rfl (by decide) (m_cells T y) rfl (by omega) dM_shared_93 (fun H locs hW => ?_)
      refine s_aload_n (x := some y) hx hb dM_shared_94 rfl (lv_at hl 1 rfl) ?_
      refine lv_dup hx hb dM_shared_95 rfl ?_
      refine s_geti hC hW gc_M iw_M 13 (by decide) uw_399 rfl hT0 (v := nI (m_cells T y)) (e_cells (S := T) hT hT0) dM_shared_96 ?_
      refine lv_iconst (v := 1) hx hb dM_shared_99 (by decide) ?_
      refine lv_iadd hx hb dM_shared_100 ?_
      refine s_topi (nI_1 _) ?_
      refine s_puti hC hW gc_M iw_M 13 (by decide) uw_399 (Or.inl rfl) rfl rfl rfl hT0 dM_shared_101 (fun H locs hW => ?_)
      refine s_aload_n (x := some y) hx hb dM_shared_104 rfl (lv_at hl 1 rfl) ?_
      refine s_geti hC hW gc_M iw_M 13 (by decide) uw_399 rfl hT0 (v := nI ((m_cells T y) + 1)) (by simp [x_gs]) dM_shared_105 ?_
      refine lv_iconst (v := 1) hx hb dM_shared_108 (by decide) ?_
      refine lv_isub hx hb dM_shared_109 ?_
      refine s_topi (x_sub1 (by omega)) ?_
      exact s_iret hC hr hlocks rfl hW dM_shared_110 ⟨by rw [f_shM, if_neg hnm0, hf, show f_sf T y nm 0 i = none from rfl]; simp only []; rw [if_neg c_59]; simp, by rw [f_shM, if_neg hnm0, hf, show f_sf T y nm 0 i = none from rfl]; simp only []; rw [if_neg c_59, m_q, ea_owner, v_a_s, m_q, ea_external, v_a_s, m_q, ea_memory, v_a_s]⟩
    · skip
      refine lv_iconst (v := (-1)) hx hb dM_shared_62 (by decide) ?_
      exact s_iret hC hr hlocks rfl hW dM_shared_63 ⟨by rw [f_shM, if_neg hnm0, hf, show f_sf T y nm 0 i = none from rfl]; simp only []; rw [if_pos c_59], by rw [f_shM, if_neg hnm0, hf, show f_sf T y nm 0 i = none from rfl]; simp only []; rw [if_pos c_59]⟩
  | succ k ih =>
    intro i  hi hf ls hl
    refine lv_iload_n hx hb dM_shared_17 rfl (lv_at hl 0 rfl) ?_
    refine s_aload_n (x := some y) hx hb dM_shared_18 rfl (lv_at hl 1 rfl) ?_
    refine s_geti hC hW gc_M iw_M 13 (by decide) uw_399 rfl hT0 (v := nI (m_cells T y)) (e_cells (S := T) hT hT0) dM_shared_19 ?_
    refine lv_icmp_ge (tgt := 52) hx hb dM_shared_22 (by decide) (fun c => absurd ((nI_leI (by omega) (by omega)).mp c) (by omega)) (fun c_22 => ?_)
    refine s_aload_n (x := some y) hx hb dM_shared_25 rfl (lv_at hl 1 rfl) ?_
    obtain ⟨a_owner, ea_owner, sa_owner⟩ := w_m_owner hT hT0
    refine s_getr hC hW gc_M iw_M 9 (by decide) uw_395 rfl hT0 (v := some a_owner) ea_owner dM_shared_26 ?_
    refine lv_iload_n hx hb dM_shared_29 rfl (lv_at hl 0 rfl) ?_
    refine k_iald hC hW sa_owner rfl rfl (by decide) i rfl (by omega) (v := nI (m_owner T y i)) (e_owner (S := T) hT hT0 ea_owner (by omega)) dM_shared_30 ?_
    have h30 := b_owner hT hT0 (i := i) (by omega)
    refine lv_if_ne (tgt := 46) hx hb dM_shared_31 (by decide) (fun c_31 => ?_) (fun c_31 => ?_)
    · skip
      refine lv_iinc (v := nI (i + 1)) (lv' := [(2, .int (nI (i + 1))), (0, va_rf (some y)), (1, .int nm)]) hx hb dM_shared_46 hl (k := 0) rfl (nI_1 _) (by decide) rfl (fun ls hl => ?_)
      refine lv_goto (tgt := 17) hx hb dM_shared_49 (by decide) ?_
      exact ih (i + 1) (by omega) (by rw [hf, f_sf, if_neg c_31]) ls (lv_sub hl [0, 1, 2] rfl)
    · skip
      refine s_aload_n (x := some y) hx hb dM_shared_34 rfl (lv_at hl 1 rfl) ?_
      obtain ⟨a_external, ea_external, sa_external⟩ := w_m_external hT hT0
      refine s_getr hC hW gc_M iw_M 11 (by decide) uw_397 rfl hT0 (v := some a_external) ea_external dM_shared_35 ?_
      refine lv_iload_n hx hb dM_shared_38 rfl (lv_at hl 0 rfl) ?_
      refine k_iald hC hW sa_external rfl rfl (by decide) i rfl (by omega) (v := m_external T y i) (e_external (S := T) ea_external) dM_shared_39 ?_
      refine lv_iload_n hx hb dM_shared_40 rfl (lv_at hl 2 rfl) ?_
      refine lv_icmp_ne (tgt := 46) hx hb dM_shared_41 (by decide) (fun c_41 => ?_) (fun c_41 => ?_)
      · skip
        refine lv_iinc (v := nI (i + 1)) (lv' := [(2, .int (nI (i + 1))), (0, va_rf (some y)), (1, .int nm)]) hx hb dM_shared_46 hl (k := 0) rfl (nI_1 _) (by decide) rfl (fun ls hl => ?_)
        refine lv_goto (tgt := 17) hx hb dM_shared_49 (by decide) ?_
        exact ih (i + 1) (by omega) (by rw [hf, f_sf, if_pos c_31, if_neg c_41]) ls (lv_sub hl [0, 1, 2] rfl)
      · skip
        refine lv_iload_n hx hb dM_shared_44 rfl (lv_at hl 0 rfl) ?_
        exact s_iret hC hr hlocks rfl hW dM_shared_45 ⟨by rw [f_shM, if_neg hnm0, hf, f_sf, if_pos c_31, if_pos c_41], by rw [f_shM, if_neg hnm0, hf, f_sf, if_pos c_31, if_pos c_41]⟩

set_option maxHeartbeats 4000000 in
set_option maxRecDepth 100000 in
theorem c_M_shared (l : Launch) (G : gs_G) (S : gs_S) (sz : Nat) (y : Nat) (nm : Int32) (hM : m_t S) (hY : g_sh S y = some (.inl 3)) : Met l yM_shared (kM_shared :: gU) { frames := 1, cells := 0, slots := 0, locals := 20 } (g_Pc G S sz [va_rf (some y), .int nm]) (g_Qi G S sz (fun r S' => r = (f_shM (m_0 S y) y nm).1 ∧ S' = (f_shM (m_0 S y) y nm).2)) 0 0 (g_A S sz) := by
  refine s_head (by decide) (Nat.le_of_ble_eq_true rfl) ?_
  intro p e s m below meth c ls hsz hC hr hlocks hnm hl hW
  subst hsz
  obtain ⟨hx, hb, hml, hown, hts⟩ := id hC
  have hl : lv_has ls 3 [(0, va_rf (some y)), (1, .int nm)] := hl
  refine s_aload_n (x := some y) hx hb dM_shared_0 rfl (lv_at hl 0 rfl) ?_
  refine lv_iconst (v := 0) hx hb dM_shared_1 (by decide) ?_
  refine s_puti hC hW gc_M iw_M 0 (by decide) uw_386 (Or.inl rfl) rfl rfl rfl hY dM_shared_2 (fun H locs hW => ?_)
  have hT : m_t (m_0 S y) := mt_0 hM
  have hT0 : g_sh (m_0 S y) y = some (.inl 3) := hY
  have hW : g_W G (g_A S s.heap.size) s (m_0 S y) H locs := hW
  have h_programs := b_programs hT hT0
  have h_cells := b_cells hT hT0
  have h_active := b_active hT hT0
  have h_prepared := b_prepared hT hT0
  have h_arguments := b_arguments hT hT0
  have h_used := b_used hT hT0
  have h_preparedAhead := b_preparedAhead hT hT0
  refine lv_iload_n hx hb dM_shared_5 rfl (lv_at hl 1 rfl) ?_
  refine s_calli hW (s_runS (n := 1) (As := [.int nm]) (rest := []) hC (c_M_isName l G (m_0 S y) H.size nm) uc_M_isName uw_483 uw_484 uw_4 rfl rfl (by decide +kernel) ⟨by decide, by decide⟩ (g_preS hW [.int nm]) rfl hl.1 rfl (Nat.le_of_ble_eq_true rfl) dM_shared_6 ⟨Nat.le_of_ble_eq_true rfl, Nat.le_of_ble_eq_true rfl⟩) (fun q6 S6 H locs hp6 hW => ?_)
  obtain ⟨hs6, rfl⟩ := hp6
  replace hs6 := hs6.symm
  subst hs6
  refine lv_if_ne (tgt := 15) hx hb dM_shared_9 (by decide) (fun c_9 => ?_) (fun c_9 => ?_)
  · skip
    refine lv_iconst (v := 0) hx hb dM_shared_15 (by decide) ?_
    refine lv_istore_n (lv' := [(2, .int 0), (0, va_rf (some y)), (1, .int nm)]) hx hb dM_shared_16 rfl hl (by decide) rfl (fun ls hl => ?_)
    exact lp_sh l G S (m_0 S y) y nm hT hT0 h_cells c_9 hC hr hlocks hW (m_cells (m_0 S y) y) 0 (by omega) rfl ls hl
  · skip
    refine lv_bipush (v := (-2)) hx hb dM_shared_12 (by decide) ?_
    exact s_iret hC hr hlocks rfl hW dM_shared_14 ⟨by rw [f_shM, if_pos c_9], by rw [f_shM, if_pos c_9]⟩

/-! M.count -/
def f_coM (T : gs_S) (y : Nat) (w : Int32) : Int32 := if w = 0 then nI (m_programs T y) else if w = 1 then nI (m_cells T y) else if w = 2 then nI (m_active T y) else if w = 3 then nI (f_runM T y) else if w = 4 then nI (m_prepared T y) else if w = 5 then nI (m_arguments T y) else if w = 6 then (if f_runM T y = 0 then 0 else nI (m_manyFormals T y (f_runM T y))) else -1

set_option maxHeartbeats 4000000 in
set_option maxRecDepth 100000 in
theorem c_M_count (l : Launch) (G : gs_G) (S : gs_S) (sz : Nat) (y : Nat) (w0 : Int32) (hM : m_t S) (hY : g_sh S y = some (.inl 3)) : Met l yM_count (kM_count :: gU) { frames := 1, cells := 0, slots := 0, locals := 20 } (g_Pc G S sz [va_rf (some y), .int w0]) (g_Qi G S sz (fun r S' => S' = m_0 S y ∧ r = f_coM (m_0 S y) y w0)) 0 0 (g_A S sz) := by
  refine s_head (by decide) (Nat.le_of_ble_eq_true rfl) ?_
  intro p e s m below meth c ls hsz hC hr hlocks hnm hl hW
  subst hsz
  obtain ⟨hx, hb, hml, hown, hts⟩ := id hC
  have hl : lv_has ls 2 [(0, va_rf (some y)), (1, .int w0)] := hl
  refine s_aload_n (x := some y) hx hb dM_count_0 rfl (lv_at hl 0 rfl) ?_
  refine lv_iconst (v := 0) hx hb dM_count_1 (by decide) ?_
  refine s_puti hC hW gc_M iw_M 0 (by decide) uw_386 (Or.inl rfl) rfl rfl rfl hY dM_count_2 (fun H locs hW => ?_)
  have hT : m_t (m_0 S y) := mt_0 hM
  have hT0 : g_sh (m_0 S y) y = some (.inl 3) := hY
  have hW : g_W G (g_A S s.heap.size) s (m_0 S y) H locs := hW
  have h_programs := b_programs hT hT0
  have h_cells := b_cells hT hT0
  have h_active := b_active hT hT0
  have h_prepared := b_prepared hT hT0
  have h_arguments := b_arguments hT hT0
  have h_used := b_used hT hT0
  have h_preparedAhead := b_preparedAhead hT hT0
  refine lv_iload_n hx hb dM_count_5 rfl (lv_at hl 1 rfl) ?_
  rcases x_sw w0 6 (by decide) with ⟨j, hj, rfl⟩ | hout
  · have hj : j = 0 ∨ j = 1 ∨ j = 2 ∨ j = 3 ∨ j = 4 ∨ j = 5 ∨ j = 6 := by omega
    rcases hj with rfl | rfl | rfl | rfl | rfl | rfl | rfl
    · refine lv_tableIn (x := nI 0) (off := 42) (tgt := 48) hx hb dM_count_6 (by decide) (by decide) (by decide) (by decide) ?_
      refine s_aload_n (x := some y) hx hb dM_count_48 rfl (lv_at hl 0 rfl) ?_
      refine s_geti hC hW gc_M iw_M 8 (by decide) uw_394 rfl hT0 (v := nI (m_programs (m_0 S y) y)) (e_programs (S := m_0 S y) hT hT0) dM_count_49 ?_
      exact s_iret hC hr hlocks rfl hW dM_count_52 ⟨rfl, by rw [f_coM, if_pos (show nI 0 = 0 by decide)]⟩
    · refine lv_tableIn (x := nI 1) (off := 47) (tgt := 53) hx hb dM_count_6 (by decide) (by decide) (by decide) (by decide) ?_
      refine s_aload_n (x := some y) hx hb dM_count_53 rfl (lv_at hl 0 rfl) ?_
      refine s_geti hC hW gc_M iw_M 13 (by decide) uw_399 rfl hT0 (v := nI (m_cells (m_0 S y) y)) (e_cells (S := m_0 S y) hT hT0) dM_count_54 ?_
      exact s_iret hC hr hlocks rfl hW dM_count_57 ⟨rfl, by rw [f_coM, if_neg (show ¬ nI 1 = 0 by decide), if_pos (show nI 1 = 1 by decide)]⟩
    · refine lv_tableIn (x := nI 2) (off := 52) (tgt := 58) hx hb dM_count_6 (by decide) (by decide) (by decide) (by decide) ?_
      refine s_aload_n (x := some y) hx hb dM_count_58 rfl (lv_at hl 0 rfl) ?_
      refine s_geti hC hW gc_M iw_M 22 (by decide) uw_408 rfl hT0 (v := nI (m_active (m_0 S y) y)) (e_active (S := m_0 S y) hT hT0) dM_count_59 ?_
      exact s_iret hC hr hlocks rfl hW dM_count_62 ⟨rfl, by rw [f_coM, if_neg (show ¬ nI 2 = 0 by decide), if_neg (show ¬ nI 2 = 1 by decide), if_pos (show nI 2 = 2 by decide)]⟩
    · refine lv_tableIn (x := nI 3) (off := 57) (tgt := 63) hx hb dM_count_6 (by decide) (by decide) (by decide) (by decide) ?_
      refine s_aload_n (x := some y) hx hb dM_count_63 rfl (lv_at hl 0 rfl) ?_
      refine s_calli hW (s_runV (n := 0) (As := []) (rest := []) hC (c_M_running l G (m_0 S y) H.size y hT hT0) uc_M_running uw_514 uw_516 us_M_running uw_4 rfl rfl (by decide +kernel) ⟨by decide, by decide⟩ (g_preV hW gc_M hT0 []) rfl hl.1 rfl (Nat.le_of_ble_eq_true rfl) dM_count_64 ⟨Nat.le_of_ble_eq_true rfl, Nat.le_of_ble_eq_true rfl⟩) (fun q64 S64 H locs hp64 hW => ?_)
      obtain ⟨hs64, rfl⟩ := hp64
      replace hs64 := hs64.symm
      subst hs64
      have hrun64 := b_runM hT hT0
      exact s_iret hC hr hlocks rfl hW dM_count_67 ⟨rfl, by rw [f_coM, if_neg (show ¬ nI 3 = 0 by decide), if_neg (show ¬ nI 3 = 1 by decide), if_neg (show ¬ nI 3 = 2 by decide), if_pos (show nI 3 = 3 by decide)]⟩
    · refine lv_tableIn (x := nI 4) (off := 62) (tgt := 68) hx hb dM_count_6 (by decide) (by decide) (by decide) (by decide) ?_
      refine s_aload_n (x := some y) hx hb dM_count_68 rfl (lv_at hl 0 rfl) ?_
      refine s_geti hC hW gc_M iw_M 23 (by decide) uw_409 rfl hT0 (v := nI (m_prepared (m_0 S y) y)) (e_prepared (S := m_0 S y) hT hT0) dM_count_69 ?_
      exact s_iret hC hr hlocks rfl hW dM_count_72 ⟨rfl, by rw [f_coM, if_neg (show ¬ nI 4 = 0 by decide), if_neg (show ¬ nI 4 = 1 by decide), if_neg (show ¬ nI 4 = 2 by decide), if_neg (show ¬ nI 4 = 3 by decide), if_pos (show nI 4 = 4 by decide)]⟩
    · refine lv_tableIn (x := nI 5) (off := 67) (tgt := 73) hx hb dM_count_6 (by decide) (by decide) (by decide) (by decide) ?_
      refine s_aload_n (x := some y) hx hb dM_count_73 rfl (lv_at hl 0 rfl) ?_
      refine s_geti hC hW gc_M iw_M 24 (by decide) uw_410 rfl hT0 (v := nI (m_arguments (m_0 S y) y)) (e_arguments (S := m_0 S y) hT hT0) dM_count_74 ?_
      exact s_iret hC hr hlocks rfl hW dM_count_77 ⟨rfl, by rw [f_coM, if_neg (show ¬ nI 5 = 0 by decide), if_neg (show ¬ nI 5 = 1 by decide), if_neg (show ¬ nI 5 = 2 by decide), if_neg (show ¬ nI 5 = 3 by decide), if_neg (show ¬ nI 5 = 4 by decide), if_pos (show nI 5 = 5 by decide)]⟩
    · refine lv_tableIn (x := nI 6) (off := 72) (tgt := 78) hx hb dM_count_6 (by decide) (by decide) (by decide) (by decide) ?_
      refine s_aload_n (x := some y) hx hb dM_count_78 rfl (lv_at hl 0 rfl) ?_
      refine s_calli hW (s_runV (n := 0) (As := []) (rest := []) hC (c_M_running l G (m_0 S y) H.size y hT hT0) uc_M_running uw_514 uw_516 us_M_running uw_4 rfl rfl (by decide +kernel) ⟨by decide, by decide⟩ (g_preV hW gc_M hT0 []) rfl hl.1 rfl (Nat.le_of_ble_eq_true rfl) dM_count_79 ⟨Nat.le_of_ble_eq_true rfl, Nat.le_of_ble_eq_true rfl⟩) (fun q79 S79 H locs hp79 hW => ?_)
      obtain ⟨hs79, rfl⟩ := hp79
      replace hs79 := hs79.symm
      subst hs79
      have hrun79 := b_runM hT hT0
      refine lv_if_ne (tgt := 89) hx hb dM_count_82 (by decide) (fun c_82 => ?_) (fun c_82 => ?_)
      · skip
        refine s_aload_n (x := some y) hx hb dM_count_89 rfl (lv_at hl 0 rfl) ?_
        obtain ⟨a_manyFormals, ea_manyFormals, sa_manyFormals⟩ := w_m_manyFormals hT hT0
        refine s_getr hC hW gc_M iw_M 5 (by decide) uw_391 rfl hT0 (v := some a_manyFormals) ea_manyFormals dM_count_90 ?_
        refine s_aload_n (x := some y) hx hb dM_count_93 rfl (lv_at hl 0 rfl) ?_
        refine s_calli hW (s_runV (n := 0) (As := []) (rest := [va_rf (some a_manyFormals)]) hC (c_M_running l G (m_0 S y) H.size y hT hT0) uc_M_running uw_514 uw_516 us_M_running uw_4 rfl rfl (by decide +kernel) ⟨by decide, by decide⟩ (g_preV hW gc_M hT0 []) rfl hl.1 rfl (Nat.le_of_ble_eq_true rfl) dM_count_94 ⟨Nat.le_of_ble_eq_true rfl, Nat.le_of_ble_eq_true rfl⟩) (fun q94 S94 H locs hp94 hW => ?_)
        obtain ⟨hs94, rfl⟩ := hp94
        replace hs94 := hs94.symm
        subst hs94
        have hrun94 := b_runM hT hT0
        refine k_iald hC hW sa_manyFormals rfl rfl (by decide) (f_runM (m_0 S y) y) rfl (by omega) (v := nI (m_manyFormals (m_0 S y) y (f_runM (m_0 S y) y))) (e_manyFormals (S := m_0 S y) hT hT0 ea_manyFormals (by omega)) dM_count_97 ?_
        have h97 := b_manyFormals hT hT0 (i := f_runM (m_0 S y) y) (by omega)
        exact s_iret hC hr hlocks rfl hW dM_count_98 ⟨rfl, by rw [f_coM, if_neg (show ¬ nI 6 = 0 by decide), if_neg (show ¬ nI 6 = 1 by decide), if_neg (show ¬ nI 6 = 2 by decide), if_neg (show ¬ nI 6 = 3 by decide), if_neg (show ¬ nI 6 = 4 by decide), if_neg (show ¬ nI 6 = 5 by decide), if_pos (show nI 6 = 6 by decide), if_neg (fun z => c_82 ((x_n0 (by omega)).mpr z))]⟩
      · skip
        refine lv_iconst (v := 0) hx hb dM_count_85 (by decide) ?_
        refine lv_goto (tgt := 98) hx hb dM_count_86 (by decide) ?_
        exact s_iret hC hr hlocks rfl hW dM_count_98 ⟨rfl, by rw [f_coM, if_neg (show ¬ nI 6 = 0 by decide), if_neg (show ¬ nI 6 = 1 by decide), if_neg (show ¬ nI 6 = 2 by decide), if_neg (show ¬ nI 6 = 3 by decide), if_neg (show ¬ nI 6 = 4 by decide), if_neg (show ¬ nI 6 = 5 by decide), if_pos (show nI 6 = 6 by decide), if_pos ((x_n0 (by omega)).mp c_82)]⟩
  · refine lv_tableOut (tgt := 99) hx hb dM_count_6 hout (by decide) ?_
    refine lv_iconst (v := (-1)) hx hb dM_count_99 (by decide) ?_
    exact s_iret hC hr hlocks rfl hW dM_count_100 ⟨rfl, by rw [f_coM, if_neg (fun z => by subst z; exact absurd hout (by decide)), if_neg (fun z => by subst z; exact absurd hout (by decide)), if_neg (fun z => by subst z; exact absurd hout (by decide)), if_neg (fun z => by subst z; exact absurd hout (by decide)), if_neg (fun z => by subst z; exact absurd hout (by decide)), if_neg (fun z => by subst z; exact absurd hout (by decide)), if_neg (fun z => by subst z; exact absurd hout (by decide))]⟩
end
