section
/-- a private method of a class that the tables say can be made, by its rows of tables_1 -/
def lw_okq (q : MethodName × Nat) : Prop := (q.1.cls ≠ "java/lang/invoke/MethodHandle" ∧ q.1.cls ≠ "java/lang/invoke/VarHandle") ∧ Cond.instantiable q.1.cls q.2 ∈ tables_1 ∧ Cond.privateMethod q.1 ∈ tables_1 ∧ Cond.instanceMethod q.1 ∈ tables_1
theorem lw_p0 : lw_okq (⟨"FieldPitches", "finding", "(I)I"⟩, 9) := ⟨⟨by decide +kernel, by decide +kernel⟩, List.mem_of_getElem? (i := 19) (by decide +kernel), List.mem_of_getElem? (i := 463) (by decide +kernel), List.mem_of_getElem? (i := 464) (by decide +kernel)⟩
theorem lw_p1 : lw_okq (⟨"FieldPitches$Planner", "gather", "(I)V"⟩, 14) := ⟨⟨by decide +kernel, by decide +kernel⟩, List.mem_of_getElem? (i := 283) (by decide +kernel), List.mem_of_getElem? (i := 651) (by decide +kernel), List.mem_of_getElem? (i := 652) (by decide +kernel)⟩
theorem lw_p2 : lw_okq (⟨"FieldPitches$Planner", "lookAt", "(II)V"⟩, 14) := ⟨⟨by decide +kernel, by decide +kernel⟩, List.mem_of_getElem? (i := 283) (by decide +kernel), List.mem_of_getElem? (i := 656) (by decide +kernel), List.mem_of_getElem? (i := 657) (by decide +kernel)⟩
theorem lw_p3 : lw_okq (⟨"FieldPitches$Planner", "addWays", "(II)V"⟩, 14) := ⟨⟨by decide +kernel, by decide +kernel⟩, List.mem_of_getElem? (i := 283) (by decide +kernel), List.mem_of_getElem? (i := 663) (by decide +kernel), List.mem_of_getElem? (i := 664) (by decide +kernel)⟩
theorem lw_p4 : lw_okq (⟨"FieldPitches$Planner", "wishesBetween", "(II)I"⟩, 14) := ⟨⟨by decide +kernel, by decide +kernel⟩, List.mem_of_getElem? (i := 283) (by decide +kernel), List.mem_of_getElem? (i := 667) (by decide +kernel), List.mem_of_getElem? (i := 668) (by decide +kernel)⟩
theorem lw_p5 : lw_okq (⟨"FieldPitches$Planner", "bound", "()V"⟩, 14) := ⟨⟨by decide +kernel, by decide +kernel⟩, List.mem_of_getElem? (i := 283) (by decide +kernel), List.mem_of_getElem? (i := 672) (by decide +kernel), List.mem_of_getElem? (i := 673) (by decide +kernel)⟩
theorem lw_p6 : lw_okq (⟨"FieldPitches$Planner", "tryFrom", "(IIII)V"⟩, 14) := ⟨⟨by decide +kernel, by decide +kernel⟩, List.mem_of_getElem? (i := 283) (by decide +kernel), List.mem_of_getElem? (i := 676) (by decide +kernel), List.mem_of_getElem? (i := 677) (by decide +kernel)⟩
theorem lw_p7 : lw_okq (⟨"FieldPitches$Planner", "canBeat", "(IIII)Z"⟩, 14) := ⟨⟨by decide +kernel, by decide +kernel⟩, List.mem_of_getElem? (i := 283) (by decide +kernel), List.mem_of_getElem? (i := 680) (by decide +kernel), List.mem_of_getElem? (i := 681) (by decide +kernel)⟩
theorem lw_p8 : lw_okq (⟨"FieldPitches$Planner", "remember", "(III)V"⟩, 14) := ⟨⟨by decide +kernel, by decide +kernel⟩, List.mem_of_getElem? (i := 283) (by decide +kernel), List.mem_of_getElem? (i := 684) (by decide +kernel), List.mem_of_getElem? (i := 685) (by decide +kernel)⟩
theorem lw_p9 : lw_okq (⟨"FieldPitches$Planner", "wayOf", "(I)I"⟩, 14) := ⟨⟨by decide +kernel, by decide +kernel⟩, List.mem_of_getElem? (i := 283) (by decide +kernel), List.mem_of_getElem? (i := 690) (by decide +kernel), List.mem_of_getElem? (i := 691) (by decide +kernel)⟩
theorem lw_p10 : lw_okq (⟨"FieldPitches$Tape", "cutIntoTokens", "()V"⟩, 11) := ⟨⟨by decide +kernel, by decide +kernel⟩, List.mem_of_getElem? (i := 362) (by decide +kernel), List.mem_of_getElem? (i := 723) (by decide +kernel), List.mem_of_getElem? (i := 724) (by decide +kernel)⟩
theorem lw_p11 : lw_okq (⟨"FieldPitches$Tape", "cutNumber", "(I)I"⟩, 11) := ⟨⟨by decide +kernel, by decide +kernel⟩, List.mem_of_getElem? (i := 362) (by decide +kernel), List.mem_of_getElem? (i := 730) (by decide +kernel), List.mem_of_getElem? (i := 731) (by decide +kernel)⟩
theorem lw_p12 : lw_okq (⟨"FieldPitches$Tape", "addToken", "(III)V"⟩, 11) := ⟨⟨by decide +kernel, by decide +kernel⟩, List.mem_of_getElem? (i := 362) (by decide +kernel), List.mem_of_getElem? (i := 737) (by decide +kernel), List.mem_of_getElem? (i := 738) (by decide +kernel)⟩
theorem lw_p13 : lw_okq (⟨"FieldPitches$Tape", "cutWord", "(I)I"⟩, 11) := ⟨⟨by decide +kernel, by decide +kernel⟩, List.mem_of_getElem? (i := 362) (by decide +kernel), List.mem_of_getElem? (i := 744) (by decide +kernel), List.mem_of_getElem? (i := 745) (by decide +kernel)⟩
theorem lw_p14 : lw_okq (⟨"FieldPitches$Tape", "readCompared", "(I)Z"⟩, 11) := ⟨⟨by decide +kernel, by decide +kernel⟩, List.mem_of_getElem? (i := 362) (by decide +kernel), List.mem_of_getElem? (i := 759) (by decide +kernel), List.mem_of_getElem? (i := 760) (by decide +kernel)⟩
theorem lw_p15 : lw_okq (⟨"FieldPitches$Tape", "readSum", "(I)Z"⟩, 11) := ⟨⟨by decide +kernel, by decide +kernel⟩, List.mem_of_getElem? (i := 362) (by decide +kernel), List.mem_of_getElem? (i := 763) (by decide +kernel), List.mem_of_getElem? (i := 764) (by decide +kernel)⟩
def lw_privs_1 : List (MethodName × Nat) := [(⟨"FieldPitches", "finding", "(I)I"⟩, 9), (⟨"FieldPitches$Planner", "gather", "(I)V"⟩, 14), (⟨"FieldPitches$Planner", "lookAt", "(II)V"⟩, 14), (⟨"FieldPitches$Planner", "addWays", "(II)V"⟩, 14), (⟨"FieldPitches$Planner", "wishesBetween", "(II)I"⟩, 14), (⟨"FieldPitches$Planner", "bound", "()V"⟩, 14), (⟨"FieldPitches$Planner", "tryFrom", "(IIII)V"⟩, 14), (⟨"FieldPitches$Planner", "canBeat", "(IIII)Z"⟩, 14), (⟨"FieldPitches$Planner", "remember", "(III)V"⟩, 14), (⟨"FieldPitches$Planner", "wayOf", "(I)I"⟩, 14), (⟨"FieldPitches$Tape", "cutIntoTokens", "()V"⟩, 11), (⟨"FieldPitches$Tape", "cutNumber", "(I)I"⟩, 11), (⟨"FieldPitches$Tape", "addToken", "(III)V"⟩, 11), (⟨"FieldPitches$Tape", "cutWord", "(I)I"⟩, 11), (⟨"FieldPitches$Tape", "readCompared", "(I)Z"⟩, 11), (⟨"FieldPitches$Tape", "readSum", "(I)Z"⟩, 11)]
theorem lw_r1 : ∀ q ∈ lw_privs_1, lw_okq q := List.forall_mem_cons.mpr ⟨lw_p0, List.forall_mem_cons.mpr ⟨lw_p1, List.forall_mem_cons.mpr ⟨lw_p2, List.forall_mem_cons.mpr ⟨lw_p3, List.forall_mem_cons.mpr ⟨lw_p4, List.forall_mem_cons.mpr ⟨lw_p5, List.forall_mem_cons.mpr ⟨lw_p6, List.forall_mem_cons.mpr ⟨lw_p7, List.forall_mem_cons.mpr ⟨lw_p8, List.forall_mem_cons.mpr ⟨lw_p9, List.forall_mem_cons.mpr ⟨lw_p10, List.forall_mem_cons.mpr ⟨lw_p11, List.forall_mem_cons.mpr ⟨lw_p12, List.forall_mem_cons.mpr ⟨lw_p13, List.forall_mem_cons.mpr ⟨lw_p14, List.forall_mem_cons.mpr ⟨lw_p15, fun _ h => absurd h List.not_mem_nil⟩⟩⟩⟩⟩⟩⟩⟩⟩⟩⟩⟩⟩⟩⟩⟩
theorem lw_p16 : lw_okq (⟨"FieldPitches$Tape", "readTerm", "(I)Z"⟩, 11) := ⟨⟨by decide +kernel, by decide +kernel⟩, List.mem_of_getElem? (i := 362) (by decide +kernel), List.mem_of_getElem? (i := 767) (by decide +kernel), List.mem_of_getElem? (i := 768) (by decide +kernel)⟩
theorem lw_p17 : lw_okq (⟨"FieldPitches$Tape", "readOne", "(I)Z"⟩, 11) := ⟨⟨by decide +kernel, by decide +kernel⟩, List.mem_of_getElem? (i := 362) (by decide +kernel), List.mem_of_getElem? (i := 771) (by decide +kernel), List.mem_of_getElem? (i := 772) (by decide +kernel)⟩
theorem lw_p18 : lw_okq (⟨"FieldPitches$Tape", "isAt", "(II)Z"⟩, 11) := ⟨⟨by decide +kernel, by decide +kernel⟩, List.mem_of_getElem? (i := 362) (by decide +kernel), List.mem_of_getElem? (i := 775) (by decide +kernel), List.mem_of_getElem? (i := 776) (by decide +kernel)⟩
theorem lw_p19 : lw_okq (⟨"FieldPitches$Tape", "passToken", "()I"⟩, 11) := ⟨⟨by decide +kernel, by decide +kernel⟩, List.mem_of_getElem? (i := 362) (by decide +kernel), List.mem_of_getElem? (i := 779) (by decide +kernel), List.mem_of_getElem? (i := 780) (by decide +kernel)⟩
theorem lw_p20 : lw_okq (⟨"FieldPitches$Tape", "emit", "(I)Z"⟩, 11) := ⟨⟨by decide +kernel, by decide +kernel⟩, List.mem_of_getElem? (i := 362) (by decide +kernel), List.mem_of_getElem? (i := 783) (by decide +kernel), List.mem_of_getElem? (i := 784) (by decide +kernel)⟩
theorem lw_p21 : lw_okq (⟨"FieldPitches$Tape", "isFault", "()Z"⟩, 11) := ⟨⟨by decide +kernel, by decide +kernel⟩, List.mem_of_getElem? (i := 362) (by decide +kernel), List.mem_of_getElem? (i := 787) (by decide +kernel), List.mem_of_getElem? (i := 788) (by decide +kernel)⟩
theorem lw_p22 : lw_okq (⟨"FieldPitches$Tape", "readClosing", "()Z"⟩, 11) := ⟨⟨by decide +kernel, by decide +kernel⟩, List.mem_of_getElem? (i := 362) (by decide +kernel), List.mem_of_getElem? (i := 791) (by decide +kernel), List.mem_of_getElem? (i := 792) (by decide +kernel)⟩
theorem lw_p23 : lw_okq (⟨"FieldPitches$Site", "worthFor", "(ILFieldPitches$Law;)I"⟩, 11) := ⟨⟨by decide +kernel, by decide +kernel⟩, List.mem_of_getElem? (i := 27) (by decide +kernel), List.mem_of_getElem? (i := 818) (by decide +kernel), List.mem_of_getElem? (i := 819) (by decide +kernel)⟩
theorem lw_p24 : lw_okq (⟨"FieldPitches$Site", "othersOn", "(II)I"⟩, 11) := ⟨⟨by decide +kernel, by decide +kernel⟩, List.mem_of_getElem? (i := 27) (by decide +kernel), List.mem_of_getElem? (i := 822) (by decide +kernel), List.mem_of_getElem? (i := 823) (by decide +kernel)⟩
theorem lw_p25 : lw_okq (⟨"FieldPitches$Rescuer", "gather", "(I)V"⟩, 7) := ⟨⟨by decide +kernel, by decide +kernel⟩, List.mem_of_getElem? (i := 334) (by decide +kernel), List.mem_of_getElem? (i := 905) (by decide +kernel), List.mem_of_getElem? (i := 906) (by decide +kernel)⟩
theorem lw_p26 : lw_okq (⟨"FieldPitches$Rescuer", "dryPitches", "(I)I"⟩, 7) := ⟨⟨by decide +kernel, by decide +kernel⟩, List.mem_of_getElem? (i := 334) (by decide +kernel), List.mem_of_getElem? (i := 909) (by decide +kernel), List.mem_of_getElem? (i := 910) (by decide +kernel)⟩
theorem lw_p27 : lw_okq (⟨"FieldPitches$Rescuer", "fitting", "(II)I"⟩, 7) := ⟨⟨by decide +kernel, by decide +kernel⟩, List.mem_of_getElem? (i := 334) (by decide +kernel), List.mem_of_getElem? (i := 915) (by decide +kernel), List.mem_of_getElem? (i := 916) (by decide +kernel)⟩
theorem lw_p28 : lw_okq (⟨"FieldPitches$Rescuer", "mostFrom", "(II)I"⟩, 7) := ⟨⟨by decide +kernel, by decide +kernel⟩, List.mem_of_getElem? (i := 334) (by decide +kernel), List.mem_of_getElem? (i := 920) (by decide +kernel), List.mem_of_getElem? (i := 921) (by decide +kernel)⟩
theorem lw_p29 : lw_okq (⟨"FieldPitches$Rescuer", "finds", "(II)Z"⟩, 7) := ⟨⟨by decide +kernel, by decide +kernel⟩, List.mem_of_getElem? (i := 334) (by decide +kernel), List.mem_of_getElem? (i := 924) (by decide +kernel), List.mem_of_getElem? (i := 925) (by decide +kernel)⟩
theorem lw_p30 : lw_okq (⟨"FieldPitches$Rescuer", "leastGoal", "(III)I"⟩, 7) := ⟨⟨by decide +kernel, by decide +kernel⟩, List.mem_of_getElem? (i := 334) (by decide +kernel), List.mem_of_getElem? (i := 928) (by decide +kernel), List.mem_of_getElem? (i := 929) (by decide +kernel)⟩
theorem lw_p31 : lw_okq (⟨"FieldPitches$Washers", "firstFree", "(I)I"⟩, 7) := ⟨⟨by decide +kernel, by decide +kernel⟩, List.mem_of_getElem? (i := 39) (by decide +kernel), List.mem_of_getElem? (i := 952) (by decide +kernel), List.mem_of_getElem? (i := 953) (by decide +kernel)⟩
def lw_privs_2 : List (MethodName × Nat) := [(⟨"FieldPitches$Tape", "readTerm", "(I)Z"⟩, 11), (⟨"FieldPitches$Tape", "readOne", "(I)Z"⟩, 11), (⟨"FieldPitches$Tape", "isAt", "(II)Z"⟩, 11), (⟨"FieldPitches$Tape", "passToken", "()I"⟩, 11), (⟨"FieldPitches$Tape", "emit", "(I)Z"⟩, 11), (⟨"FieldPitches$Tape", "isFault", "()Z"⟩, 11), (⟨"FieldPitches$Tape", "readClosing", "()Z"⟩, 11), (⟨"FieldPitches$Site", "worthFor", "(ILFieldPitches$Law;)I"⟩, 11), (⟨"FieldPitches$Site", "othersOn", "(II)I"⟩, 11), (⟨"FieldPitches$Rescuer", "gather", "(I)V"⟩, 7), (⟨"FieldPitches$Rescuer", "dryPitches", "(I)I"⟩, 7), (⟨"FieldPitches$Rescuer", "fitting", "(II)I"⟩, 7), (⟨"FieldPitches$Rescuer", "mostFrom", "(II)I"⟩, 7), (⟨"FieldPitches$Rescuer", "finds", "(II)Z"⟩, 7), (⟨"FieldPitches$Rescuer", "leastGoal", "(III)I"⟩, 7), (⟨"FieldPitches$Washers", "firstFree", "(I)I"⟩, 7)]
theorem lw_r2 : ∀ q ∈ lw_privs_2, lw_okq q := List.forall_mem_cons.mpr ⟨lw_p16, List.forall_mem_cons.mpr ⟨lw_p17, List.forall_mem_cons.mpr ⟨lw_p18, List.forall_mem_cons.mpr ⟨lw_p19, List.forall_mem_cons.mpr ⟨lw_p20, List.forall_mem_cons.mpr ⟨lw_p21, List.forall_mem_cons.mpr ⟨lw_p22, List.forall_mem_cons.mpr ⟨lw_p23, List.forall_mem_cons.mpr ⟨lw_p24, List.forall_mem_cons.mpr ⟨lw_p25, List.forall_mem_cons.mpr ⟨lw_p26, List.forall_mem_cons.mpr ⟨lw_p27, List.forall_mem_cons.mpr ⟨lw_p28, List.forall_mem_cons.mpr ⟨lw_p29, List.forall_mem_cons.mpr ⟨lw_p30, List.forall_mem_cons.mpr ⟨lw_p31, fun _ h => absurd h List.not_mem_nil⟩⟩⟩⟩⟩⟩⟩⟩⟩⟩⟩⟩⟩⟩⟩⟩
theorem lw_p32 : lw_okq (⟨"FieldPitches", "areStays", "(LFieldPitches$Sheet;)Z"⟩, 9) := ⟨⟨by decide +kernel, by decide +kernel⟩, List.mem_of_getElem? (i := 19) (by decide +kernel), List.mem_of_getElem? (i := 971) (by decide +kernel), List.mem_of_getElem? (i := 972) (by decide +kernel)⟩
theorem lw_p33 : lw_okq (⟨"FieldPitches", "firstClash", "(LFieldPitches$Sheet;)I"⟩, 9) := ⟨⟨by decide +kernel, by decide +kernel⟩, List.mem_of_getElem? (i := 19) (by decide +kernel), List.mem_of_getElem? (i := 975) (by decide +kernel), List.mem_of_getElem? (i := 976) (by decide +kernel)⟩
theorem lw_p34 : lw_okq (⟨"FieldPitchesModel", "finds", "(I)I"⟩, 46) := ⟨⟨by decide +kernel, by decide +kernel⟩, List.mem_of_getElem? (i := 1066) (by decide +kernel), List.mem_of_getElem? (i := 1220) (by decide +kernel), List.mem_of_getElem? (i := 1221) (by decide +kernel)⟩
theorem lw_p35 : lw_okq (⟨"FieldPitchesModel", "isPitch", "(I)Z"⟩, 46) := ⟨⟨by decide +kernel, by decide +kernel⟩, List.mem_of_getElem? (i := 1066) (by decide +kernel), List.mem_of_getElem? (i := 1229) (by decide +kernel), List.mem_of_getElem? (i := 1230) (by decide +kernel)⟩
theorem lw_p36 : lw_okq (⟨"FieldPitchesModel", "farOf", "(II)I"⟩, 46) := ⟨⟨by decide +kernel, by decide +kernel⟩, List.mem_of_getElem? (i := 1066) (by decide +kernel), List.mem_of_getElem? (i := 1241) (by decide +kernel), List.mem_of_getElem? (i := 1242) (by decide +kernel)⟩
theorem lw_p37 : lw_okq (⟨"FieldPitchesModel", "isParty", "(I)Z"⟩, 46) := ⟨⟨by decide +kernel, by decide +kernel⟩, List.mem_of_getElem? (i := 1066) (by decide +kernel), List.mem_of_getElem? (i := 1256) (by decide +kernel), List.mem_of_getElem? (i := 1257) (by decide +kernel)⟩
theorem lw_p38 : lw_okq (⟨"FieldPitchesModel", "hasCome", "(I)Z"⟩, 46) := ⟨⟨by decide +kernel, by decide +kernel⟩, List.mem_of_getElem? (i := 1066) (by decide +kernel), List.mem_of_getElem? (i := 1260) (by decide +kernel), List.mem_of_getElem? (i := 1261) (by decide +kernel)⟩
theorem lw_p39 : lw_okq (⟨"FieldPitchesModel", "of", "(II)I"⟩, 46) := ⟨⟨by decide +kernel, by decide +kernel⟩, List.mem_of_getElem? (i := 1066) (by decide +kernel), List.mem_of_getElem? (i := 1264) (by decide +kernel), List.mem_of_getElem? (i := 1265) (by decide +kernel)⟩
theorem lw_p40 : lw_okq (⟨"FieldPitchesModel", "whyNot", "(II)I"⟩, 46) := ⟨⟨by decide +kernel, by decide +kernel⟩, List.mem_of_getElem? (i := 1066) (by decide +kernel), List.mem_of_getElem? (i := 1272) (by decide +kernel), List.mem_of_getElem? (i := 1273) (by decide +kernel)⟩
theorem lw_p41 : lw_okq (⟨"FieldPitchesModel", "lacks", "(III)Z"⟩, 46) := ⟨⟨by decide +kernel, by decide +kernel⟩, List.mem_of_getElem? (i := 1066) (by decide +kernel), List.mem_of_getElem? (i := 1276) (by decide +kernel), List.mem_of_getElem? (i := 1277) (by decide +kernel)⟩
theorem lw_p42 : lw_okq (⟨"FieldPitchesModel", "isFreeFor", "(II)Z"⟩, 46) := ⟨⟨by decide +kernel, by decide +kernel⟩, List.mem_of_getElem? (i := 1066) (by decide +kernel), List.mem_of_getElem? (i := 1288) (by decide +kernel), List.mem_of_getElem? (i := 1289) (by decide +kernel)⟩
theorem lw_p43 : lw_okq (⟨"FieldPitchesModel", "meet", "(II)Z"⟩, 46) := ⟨⟨by decide +kernel, by decide +kernel⟩, List.mem_of_getElem? (i := 1066) (by decide +kernel), List.mem_of_getElem? (i := 1292) (by decide +kernel), List.mem_of_getElem? (i := 1293) (by decide +kernel)⟩
theorem lw_p44 : lw_okq (⟨"FieldPitchesModel", "whoIn", "(II)I"⟩, 46) := ⟨⟨by decide +kernel, by decide +kernel⟩, List.mem_of_getElem? (i := 1066) (by decide +kernel), List.mem_of_getElem? (i := 1307) (by decide +kernel), List.mem_of_getElem? (i := 1308) (by decide +kernel)⟩
theorem lw_p45 : lw_okq (⟨"FieldPitchesModel", "staysIn", "(II)Z"⟩, 46) := ⟨⟨by decide +kernel, by decide +kernel⟩, List.mem_of_getElem? (i := 1066) (by decide +kernel), List.mem_of_getElem? (i := 1311) (by decide +kernel), List.mem_of_getElem? (i := 1312) (by decide +kernel)⟩
theorem lw_p46 : lw_okq (⟨"FieldPitchesModel", "gapsOf", "(I)I"⟩, 46) := ⟨⟨by decide +kernel, by decide +kernel⟩, List.mem_of_getElem? (i := 1066) (by decide +kernel), List.mem_of_getElem? (i := 1319) (by decide +kernel), List.mem_of_getElem? (i := 1320) (by decide +kernel)⟩
theorem lw_p47 : lw_okq (⟨"FieldPitchesModel", "apartNow", "()I"⟩, 46) := ⟨⟨by decide +kernel, by decide +kernel⟩, List.mem_of_getElem? (i := 1066) (by decide +kernel), List.mem_of_getElem? (i := 1327) (by decide +kernel), List.mem_of_getElem? (i := 1328) (by decide +kernel)⟩
def lw_privs_3 : List (MethodName × Nat) := [(⟨"FieldPitches", "areStays", "(LFieldPitches$Sheet;)Z"⟩, 9), (⟨"FieldPitches", "firstClash", "(LFieldPitches$Sheet;)I"⟩, 9), (⟨"FieldPitchesModel", "finds", "(I)I"⟩, 46), (⟨"FieldPitchesModel", "isPitch", "(I)Z"⟩, 46), (⟨"FieldPitchesModel", "farOf", "(II)I"⟩, 46), (⟨"FieldPitchesModel", "isParty", "(I)Z"⟩, 46), (⟨"FieldPitchesModel", "hasCome", "(I)Z"⟩, 46), (⟨"FieldPitchesModel", "of", "(II)I"⟩, 46), (⟨"FieldPitchesModel", "whyNot", "(II)I"⟩, 46), (⟨"FieldPitchesModel", "lacks", "(III)Z"⟩, 46), (⟨"FieldPitchesModel", "isFreeFor", "(II)Z"⟩, 46), (⟨"FieldPitchesModel", "meet", "(II)Z"⟩, 46), (⟨"FieldPitchesModel", "whoIn", "(II)I"⟩, 46), (⟨"FieldPitchesModel", "staysIn", "(II)Z"⟩, 46), (⟨"FieldPitchesModel", "gapsOf", "(I)I"⟩, 46), (⟨"FieldPitchesModel", "apartNow", "()I"⟩, 46)]
theorem lw_r3 : ∀ q ∈ lw_privs_3, lw_okq q := List.forall_mem_cons.mpr ⟨lw_p32, List.forall_mem_cons.mpr ⟨lw_p33, List.forall_mem_cons.mpr ⟨lw_p34, List.forall_mem_cons.mpr ⟨lw_p35, List.forall_mem_cons.mpr ⟨lw_p36, List.forall_mem_cons.mpr ⟨lw_p37, List.forall_mem_cons.mpr ⟨lw_p38, List.forall_mem_cons.mpr ⟨lw_p39, List.forall_mem_cons.mpr ⟨lw_p40, List.forall_mem_cons.mpr ⟨lw_p41, List.forall_mem_cons.mpr ⟨lw_p42, List.forall_mem_cons.mpr ⟨lw_p43, List.forall_mem_cons.mpr ⟨lw_p44, List.forall_mem_cons.mpr ⟨lw_p45, List.forall_mem_cons.mpr ⟨lw_p46, List.forall_mem_cons.mpr ⟨lw_p47, fun _ h => absurd h List.not_mem_nil⟩⟩⟩⟩⟩⟩⟩⟩⟩⟩⟩⟩⟩⟩⟩⟩
theorem lw_p48 : lw_okq (⟨"FieldPitchesModel", "lays", "(I)I"⟩, 46) := ⟨⟨by decide +kernel, by decide +kernel⟩, List.mem_of_getElem? (i := 1066) (by decide +kernel), List.mem_of_getElem? (i := 1338) (by decide +kernel), List.mem_of_getElem? (i := 1339) (by decide +kernel)⟩
theorem lw_p49 : lw_okq (⟨"FieldPitchesModel", "gapsNow", "()I"⟩, 46) := ⟨⟨by decide +kernel, by decide +kernel⟩, List.mem_of_getElem? (i := 1066) (by decide +kernel), List.mem_of_getElem? (i := 1342) (by decide +kernel), List.mem_of_getElem? (i := 1343) (by decide +kernel)⟩
theorem lw_p50 : lw_okq (⟨"FieldPitchesModel", "reads", "()I"⟩, 46) := ⟨⟨by decide +kernel, by decide +kernel⟩, List.mem_of_getElem? (i := 1066) (by decide +kernel), List.mem_of_getElem? (i := 1358) (by decide +kernel), List.mem_of_getElem? (i := 1359) (by decide +kernel)⟩
theorem lw_p51 : lw_okq (⟨"FieldPitchesModel", "advance", "()V"⟩, 46) := ⟨⟨by decide +kernel, by decide +kernel⟩, List.mem_of_getElem? (i := 1066) (by decide +kernel), List.mem_of_getElem? (i := 1362) (by decide +kernel), List.mem_of_getElem? (i := 1363) (by decide +kernel)⟩
theorem lw_p52 : lw_okq (⟨"FieldPitchesModel", "byteAt", "(I)I"⟩, 46) := ⟨⟨by decide +kernel, by decide +kernel⟩, List.mem_of_getElem? (i := 1066) (by decide +kernel), List.mem_of_getElem? (i := 1366) (by decide +kernel), List.mem_of_getElem? (i := 1367) (by decide +kernel)⟩
theorem lw_p53 : lw_okq (⟨"FieldPitchesModel", "begins", "()Z"⟩, 46) := ⟨⟨by decide +kernel, by decide +kernel⟩, List.mem_of_getElem? (i := 1066) (by decide +kernel), List.mem_of_getElem? (i := 1382) (by decide +kernel), List.mem_of_getElem? (i := 1383) (by decide +kernel)⟩
theorem lw_p54 : lw_okq (⟨"FieldPitchesModel", "emit", "(I)V"⟩, 46) := ⟨⟨by decide +kernel, by decide +kernel⟩, List.mem_of_getElem? (i := 1066) (by decide +kernel), List.mem_of_getElem? (i := 1386) (by decide +kernel), List.mem_of_getElem? (i := 1387) (by decide +kernel)⟩
theorem lw_p55 : lw_okq (⟨"FieldPitchesModel", "ended", "()V"⟩, 46) := ⟨⟨by decide +kernel, by decide +kernel⟩, List.mem_of_getElem? (i := 1066) (by decide +kernel), List.mem_of_getElem? (i := 1390) (by decide +kernel), List.mem_of_getElem? (i := 1391) (by decide +kernel)⟩
theorem lw_p56 : lw_okq (⟨"FieldPitchesModel", "top", "()I"⟩, 46) := ⟨⟨by decide +kernel, by decide +kernel⟩, List.mem_of_getElem? (i := 1066) (by decide +kernel), List.mem_of_getElem? (i := 1394) (by decide +kernel), List.mem_of_getElem? (i := 1395) (by decide +kernel)⟩
theorem lw_p57 : lw_okq (⟨"FieldPitchesModel", "pend", "(I)V"⟩, 46) := ⟨⟨by decide +kernel, by decide +kernel⟩, List.mem_of_getElem? (i := 1066) (by decide +kernel), List.mem_of_getElem? (i := 1398) (by decide +kernel), List.mem_of_getElem? (i := 1399) (by decide +kernel)⟩
theorem lw_p58 : lw_okq (⟨"FieldPitchesModel", "goesOn", "()Z"⟩, 46) := ⟨⟨by decide +kernel, by decide +kernel⟩, List.mem_of_getElem? (i := 1066) (by decide +kernel), List.mem_of_getElem? (i := 1402) (by decide +kernel), List.mem_of_getElem? (i := 1403) (by decide +kernel)⟩
theorem lw_p59 : lw_okq (⟨"FieldPitchesModel", "settle", "(I)V"⟩, 46) := ⟨⟨by decide +kernel, by decide +kernel⟩, List.mem_of_getElem? (i := 1066) (by decide +kernel), List.mem_of_getElem? (i := 1406) (by decide +kernel), List.mem_of_getElem? (i := 1407) (by decide +kernel)⟩
theorem lw_p60 : lw_okq (⟨"FieldPitchesModel", "saysOf", "(II)I"⟩, 46) := ⟨⟨by decide +kernel, by decide +kernel⟩, List.mem_of_getElem? (i := 1066) (by decide +kernel), List.mem_of_getElem? (i := 1421) (by decide +kernel), List.mem_of_getElem? (i := 1422) (by decide +kernel)⟩
theorem lw_p61 : lw_okq (⟨"FieldPitchesModel", "worked", "(II)I"⟩, 46) := ⟨⟨by decide +kernel, by decide +kernel⟩, List.mem_of_getElem? (i := 1066) (by decide +kernel), List.mem_of_getElem? (i := 1425) (by decide +kernel), List.mem_of_getElem? (i := 1426) (by decide +kernel)⟩
theorem lw_p62 : lw_okq (⟨"FieldPitchesModel", "named", "(II)I"⟩, 46) := ⟨⟨by decide +kernel, by decide +kernel⟩, List.mem_of_getElem? (i := 1066) (by decide +kernel), List.mem_of_getElem? (i := 1432) (by decide +kernel), List.mem_of_getElem? (i := 1433) (by decide +kernel)⟩
theorem lw_p63 : lw_okq (⟨"FieldPitchesModel", "others", "(I)I"⟩, 46) := ⟨⟨by decide +kernel, by decide +kernel⟩, List.mem_of_getElem? (i := 1066) (by decide +kernel), List.mem_of_getElem? (i := 1436) (by decide +kernel), List.mem_of_getElem? (i := 1437) (by decide +kernel)⟩
def lw_privs_4 : List (MethodName × Nat) := [(⟨"FieldPitchesModel", "lays", "(I)I"⟩, 46), (⟨"FieldPitchesModel", "gapsNow", "()I"⟩, 46), (⟨"FieldPitchesModel", "reads", "()I"⟩, 46), (⟨"FieldPitchesModel", "advance", "()V"⟩, 46), (⟨"FieldPitchesModel", "byteAt", "(I)I"⟩, 46), (⟨"FieldPitchesModel", "begins", "()Z"⟩, 46), (⟨"FieldPitchesModel", "emit", "(I)V"⟩, 46), (⟨"FieldPitchesModel", "ended", "()V"⟩, 46), (⟨"FieldPitchesModel", "top", "()I"⟩, 46), (⟨"FieldPitchesModel", "pend", "(I)V"⟩, 46), (⟨"FieldPitchesModel", "goesOn", "()Z"⟩, 46), (⟨"FieldPitchesModel", "settle", "(I)V"⟩, 46), (⟨"FieldPitchesModel", "saysOf", "(II)I"⟩, 46), (⟨"FieldPitchesModel", "worked", "(II)I"⟩, 46), (⟨"FieldPitchesModel", "named", "(II)I"⟩, 46), (⟨"FieldPitchesModel", "others", "(I)I"⟩, 46)]
theorem lw_r4 : ∀ q ∈ lw_privs_4, lw_okq q := List.forall_mem_cons.mpr ⟨lw_p48, List.forall_mem_cons.mpr ⟨lw_p49, List.forall_mem_cons.mpr ⟨lw_p50, List.forall_mem_cons.mpr ⟨lw_p51, List.forall_mem_cons.mpr ⟨lw_p52, List.forall_mem_cons.mpr ⟨lw_p53, List.forall_mem_cons.mpr ⟨lw_p54, List.forall_mem_cons.mpr ⟨lw_p55, List.forall_mem_cons.mpr ⟨lw_p56, List.forall_mem_cons.mpr ⟨lw_p57, List.forall_mem_cons.mpr ⟨lw_p58, List.forall_mem_cons.mpr ⟨lw_p59, List.forall_mem_cons.mpr ⟨lw_p60, List.forall_mem_cons.mpr ⟨lw_p61, List.forall_mem_cons.mpr ⟨lw_p62, List.forall_mem_cons.mpr ⟨lw_p63, fun _ h => absurd h List.not_mem_nil⟩⟩⟩⟩⟩⟩⟩⟩⟩⟩⟩⟩⟩⟩⟩⟩
theorem lw_p64 : lw_okq (⟨"FieldPitchesModel", "priceBy", "(I)I"⟩, 46) := ⟨⟨by decide +kernel, by decide +kernel⟩, List.mem_of_getElem? (i := 1066) (by decide +kernel), List.mem_of_getElem? (i := 1443) (by decide +kernel), List.mem_of_getElem? (i := 1444) (by decide +kernel)⟩
theorem lw_p65 : lw_okq (⟨"FieldPitchesModel", "loadOf", "(II)I"⟩, 46) := ⟨⟨by decide +kernel, by decide +kernel⟩, List.mem_of_getElem? (i := 1066) (by decide +kernel), List.mem_of_getElem? (i := 1479) (by decide +kernel), List.mem_of_getElem? (i := 1480) (by decide +kernel)⟩
theorem lw_p66 : lw_okq (⟨"FieldPitchesModel", "isHere", "(I)Z"⟩, 46) := ⟨⟨by decide +kernel, by decide +kernel⟩, List.mem_of_getElem? (i := 1066) (by decide +kernel), List.mem_of_getElem? (i := 1483) (by decide +kernel), List.mem_of_getElem? (i := 1484) (by decide +kernel)⟩
theorem lw_p67 : lw_okq (⟨"FieldPitchesModel", "postOf", "(I)I"⟩, 46) := ⟨⟨by decide +kernel, by decide +kernel⟩, List.mem_of_getElem? (i := 1066) (by decide +kernel), List.mem_of_getElem? (i := 1487) (by decide +kernel), List.mem_of_getElem? (i := 1488) (by decide +kernel)⟩
theorem lw_p68 : lw_okq (⟨"FieldPitchesModel", "isWet", "(II)Z"⟩, 46) := ⟨⟨by decide +kernel, by decide +kernel⟩, List.mem_of_getElem? (i := 1066) (by decide +kernel), List.mem_of_getElem? (i := 1503) (by decide +kernel), List.mem_of_getElem? (i := 1504) (by decide +kernel)⟩
theorem lw_p69 : lw_okq (⟨"FieldPitchesModel", "isOpen", "(II)Z"⟩, 46) := ⟨⟨by decide +kernel, by decide +kernel⟩, List.mem_of_getElem? (i := 1066) (by decide +kernel), List.mem_of_getElem? (i := 1511) (by decide +kernel), List.mem_of_getElem? (i := 1512) (by decide +kernel)⟩
theorem lw_p70 : lw_okq (⟨"FieldPitchesModel", "moveAll", "(Z)V"⟩, 46) := ⟨⟨by decide +kernel, by decide +kernel⟩, List.mem_of_getElem? (i := 1066) (by decide +kernel), List.mem_of_getElem? (i := 1558) (by decide +kernel), List.mem_of_getElem? (i := 1559) (by decide +kernel)⟩
theorem lw_p71 : lw_okq (⟨"FieldPitchesModel", "move", "([IIZ)V"⟩, 46) := ⟨⟨by decide +kernel, by decide +kernel⟩, List.mem_of_getElem? (i := 1066) (by decide +kernel), List.mem_of_getElem? (i := 1562) (by decide +kernel), List.mem_of_getElem? (i := 1563) (by decide +kernel)⟩
def lw_privs_5 : List (MethodName × Nat) := [(⟨"FieldPitchesModel", "priceBy", "(I)I"⟩, 46), (⟨"FieldPitchesModel", "loadOf", "(II)I"⟩, 46), (⟨"FieldPitchesModel", "isHere", "(I)Z"⟩, 46), (⟨"FieldPitchesModel", "postOf", "(I)I"⟩, 46), (⟨"FieldPitchesModel", "isWet", "(II)Z"⟩, 46), (⟨"FieldPitchesModel", "isOpen", "(II)Z"⟩, 46), (⟨"FieldPitchesModel", "moveAll", "(Z)V"⟩, 46), (⟨"FieldPitchesModel", "move", "([IIZ)V"⟩, 46)]
theorem lw_r5 : ∀ q ∈ lw_privs_5, lw_okq q := List.forall_mem_cons.mpr ⟨lw_p64, List.forall_mem_cons.mpr ⟨lw_p65, List.forall_mem_cons.mpr ⟨lw_p66, List.forall_mem_cons.mpr ⟨lw_p67, List.forall_mem_cons.mpr ⟨lw_p68, List.forall_mem_cons.mpr ⟨lw_p69, List.forall_mem_cons.mpr ⟨lw_p70, List.forall_mem_cons.mpr ⟨lw_p71, fun _ h => absurd h List.not_mem_nil⟩⟩⟩⟩⟩⟩⟩⟩
def lw_privs : List (MethodName × Nat) := lw_privs_1 ++ (lw_privs_2 ++ (lw_privs_3 ++ (lw_privs_4 ++ (lw_privs_5))))
def lw_tbl : List Cond := k2_sels lw_privs ++ tables_1
theorem lw_privs_ok : ∀ q ∈ lw_privs, lw_okq q := by
  show ∀ q ∈ lw_privs_1 ++ (lw_privs_2 ++ (lw_privs_3 ++ (lw_privs_4 ++ (lw_privs_5)))), lw_okq q
  exact List.forall_mem_append.mpr ⟨lw_r1, List.forall_mem_append.mpr ⟨lw_r2, List.forall_mem_append.mpr ⟨lw_r3, List.forall_mem_append.mpr ⟨lw_r4, lw_r5⟩⟩⟩⟩
end
section
def RX0 : String := "FieldPitches$Calendar"
def TX0 : u_T := fun k => match k with
  | 0 => ("FieldPitches$Calendar", "low", "[J", true)
  | _ => ("FieldPitches$Calendar", "high", "[J", true)
def tyX0 : Nat → FieldType := fun k => match k with
  | 0 => .array .long
  | _ => .array .long
abbrev wsX00 : List Cond := u_ws RX0 TX0 2
theorem nmX0 : ∀ a, a < 2 → ∀ b, b < 2 → a ≠ b → (TX0 a).2.1 ≠ (TX0 b).2.1 := by decide +kernel
theorem tyX0_ok : ∀ k, k < 2 → parseFieldDescriptor (TX0 k).2.2.1 = some (tyX0 k) := by decide +kernel
abbrev cX0_init : ByteArray := prog_2_method_1_code
def yX0_init : MethodName := ⟨RX0, "<init>", "()V"⟩
abbrev cX0_lowNights : ByteArray := prog_2_method_2_code
def yX0_lowNights : MethodName := ⟨RX0, "lowNights", "(II)J"⟩
abbrev cX0_highNights : ByteArray := prog_2_method_3_code
def yX0_highNights : MethodName := ⟨RX0, "highNights", "(II)J"⟩
abbrev cX0_below : ByteArray := prog_2_method_4_code
def yX0_below : MethodName := ⟨RX0, "below", "(I)J"⟩
abbrev cX0_empty : ByteArray := prog_2_method_5_code
def yX0_empty : MethodName := ⟨RX0, "empty", "()V"⟩
abbrev cX0_isFree : ByteArray := prog_2_method_6_code
def yX0_isFree : MethodName := ⟨RX0, "isFree", "(IJJ)Z"⟩
abbrev cX0_take : ByteArray := prog_2_method_7_code
def yX0_take : MethodName := ⟨RX0, "take", "(IJJ)V"⟩
abbrev cX0_leave : ByteArray := prog_2_method_8_code
def yX0_leave : MethodName := ⟨RX0, "leave", "(IJJ)V"⟩
abbrev cX0_lonelyNights : ByteArray := prog_2_method_9_code
def yX0_lonelyNights : MethodName := ⟨RX0, "lonelyNights", "(I)I"⟩
def RX1 : String := "FieldPitches$Kinds"
def TX1 : u_T := fun k => match k with
  | _ => ("", "", "", false)
def tyX1 : Nat → FieldType := fun k => match k with
  | _ => .int
abbrev wsX10 : List Cond := u_ws RX1 TX1 0
theorem nmX1 : ∀ a, a < 0 → ∀ b, b < 0 → a ≠ b → (TX1 a).2.1 ≠ (TX1 b).2.1 := by decide +kernel
theorem tyX1_ok : ∀ k, k < 0 → parseFieldDescriptor (TX1 k).2.2.1 = some (tyX1 k) := by decide +kernel
abbrev cX1_isUnder : ByteArray := prog_3_method_2_code
def yX1_isUnder : MethodName := ⟨RX1, "isUnder", "(II)Z"⟩
abbrev cX1_reason : ByteArray := prog_3_method_3_code
def yX1_reason : MethodName := ⟨RX1, "reason", "(LFieldPitches$Party;LFieldPitches$Pitch;)I"⟩
abbrev cX1_reasonOfAll : ByteArray := prog_3_method_4_code
def yX1_reasonOfAll : MethodName := ⟨RX1, "reasonOfAll", "(LFieldPitches$Party;LFieldPitches$Pitch;)I"⟩
abbrev cX1_reasonOfVans : ByteArray := prog_3_method_5_code
def yX1_reasonOfVans : MethodName := ⟨RX1, "reasonOfVans", "(LFieldPitches$Party;LFieldPitches$Pitch;)I"⟩
abbrev cX1_price : ByteArray := prog_3_method_6_code
def yX1_price : MethodName := ⟨RX1, "price", "(LFieldPitches$Party;)I"⟩
def RX2 : String := "FieldPitches$Law"
def TX2 : u_T := fun k => match k with
  | 0 => ("FieldPitches$Law", "stands", "Z", false)
  | 1 => ("FieldPitches$Law", "size", "I", false)
  | 2 => ("FieldPitches$Law", "code", "[I", true)
  | _ => ("FieldPitches$Law", "stack", "[I", true)
def tyX2 : Nat → FieldType := fun k => match k with
  | 0 => .boolean
  | 1 => .int
  | 2 => .array .int
  | _ => .array .int
abbrev wsX20 : List Cond := u_ws RX2 TX2 4
theorem nmX2 : ∀ a, a < 4 → ∀ b, b < 4 → a ≠ b → (TX2 a).2.1 ≠ (TX2 b).2.1 := by decide +kernel
theorem tyX2_ok : ∀ k, k < 4 → parseFieldDescriptor (TX2 k).2.2.1 = some (tyX2 k) := by decide +kernel
abbrev cX2_init : ByteArray := prog_4_method_1_code
def yX2_init : MethodName := ⟨RX2, "<init>", "()V"⟩
abbrev cX2_begin : ByteArray := prog_4_method_2_code
def yX2_begin : MethodName := ⟨RX2, "begin", "([II)V"⟩
abbrev cX2_become : ByteArray := prog_4_method_3_code
def yX2_become : MethodName := ⟨RX2, "become", "(LFieldPitches$Law;)V"⟩
abbrev cX2_worth : ByteArray := prog_4_method_4_code
def yX2_worth : MethodName := ⟨RX2, "worth", "([I)I"⟩
abbrev cX2_operand : ByteArray := prog_4_method_5_code
def yX2_operand : MethodName := ⟨RX2, "operand", "(I[I)I"⟩
abbrev cX2_joined : ByteArray := prog_4_method_6_code
def yX2_joined : MethodName := ⟨RX2, "joined", "(III)I"⟩
def RX3 : String := "FieldPitches$Party"
def TX3 : u_T := fun k => match k with
  | 0 => ("FieldPitches$Party", "kind", "I", false)
  | 1 => ("FieldPitches$Party", "length", "I", false)
  | 2 => ("FieldPitches$Party", "amps", "I", false)
  | 3 => ("FieldPitches$Party", "wishes", "I", false)
  | 4 => ("FieldPitches$Party", "first", "I", false)
  | 5 => ("FieldPitches$Party", "nights", "I", false)
  | 6 => ("FieldPitches$Party", "lowNights", "J", false)
  | 7 => ("FieldPitches$Party", "highNights", "J", false)
  | 8 => ("FieldPitches$Party", "pitch", "I", false)
  | 9 => ("FieldPitches$Party", "near", "I", false)
  | 10 => ("FieldPitches$Party", "paid", "I", false)
  | 11 => ("FieldPitches$Party", "usedHours", "I", false)
  | 12 => ("FieldPitches$Party", "usedAmps", "I", false)
  | _ => ("FieldPitches$Party", "hasReviewed", "Z", false)
def tyX3 : Nat → FieldType := fun k => match k with
  | 0 => .int
  | 1 => .int
  | 2 => .int
  | 3 => .int
  | 4 => .int
  | 5 => .int
  | 6 => .long
  | 7 => .long
  | 8 => .int
  | 9 => .int
  | 10 => .int
  | 11 => .int
  | 12 => .int
  | _ => .boolean
abbrev wsX30 : List Cond := u_ws RX3 TX3 14
theorem nmX3 : ∀ a, a < 14 → ∀ b, b < 14 → a ≠ b → (TX3 a).2.1 ≠ (TX3 b).2.1 := by decide +kernel
theorem tyX3_ok : ∀ k, k < 14 → parseFieldDescriptor (TX3 k).2.2.1 = some (tyX3 k) := by decide +kernel
abbrev cX3_init : ByteArray := prog_5_method_1_code
def yX3_init : MethodName := ⟨RX3, "<init>", "()V"⟩
abbrev cX3_begin : ByteArray := prog_5_method_2_code
def yX3_begin : MethodName := ⟨RX3, "begin", "(IIII)V"⟩
abbrev cX3_become : ByteArray := prog_5_method_3_code
def yX3_become : MethodName := ⟨RX3, "become", "(LFieldPitches$Party;)V"⟩
abbrev cX3_trait : ByteArray := prog_5_method_4_code
def yX3_trait : MethodName := ⟨RX3, "trait", "(I)I"⟩
abbrev cX3_lastNight : ByteArray := prog_5_method_5_code
def yX3_lastNight : MethodName := ⟨RX3, "lastNight", "()I"⟩
abbrev cX3_stays : ByteArray := prog_5_method_6_code
def yX3_stays : MethodName := ⟨RX3, "stays", "(I)Z"⟩
abbrev cX3_wishesFor : ByteArray := prog_5_method_7_code
def yX3_wishesFor : MethodName := ⟨RX3, "wishesFor", "(I)Z"⟩
def RX4 : String := "FieldPitches$Pitch"
def TX4 : u_T := fun k => match k with
  | 0 => ("FieldPitches$Pitch", "x", "I", false)
  | 1 => ("FieldPitches$Pitch", "y", "I", false)
  | 2 => ("FieldPitches$Pitch", "length", "I", false)
  | 3 => ("FieldPitches$Pitch", "height", "I", false)
  | 4 => ("FieldPitches$Pitch", "shade", "I", false)
  | 5 => ("FieldPitches$Pitch", "amps", "I", false)
  | 6 => ("FieldPitches$Pitch", "flags", "I", false)
  | 7 => ("FieldPitches$Pitch", "post", "I", false)
  | 8 => ("FieldPitches$Pitch", "reviews", "I", false)
  | _ => ("FieldPitches$Pitch", "allStars", "I", false)
def tyX4 : Nat → FieldType := fun k => match k with
  | 0 => .int
  | 1 => .int
  | 2 => .int
  | 3 => .int
  | 4 => .int
  | 5 => .int
  | 6 => .int
  | 7 => .int
  | 8 => .int
  | _ => .int
abbrev wsX40 : List Cond := u_ws RX4 TX4 10
theorem nmX4 : ∀ a, a < 10 → ∀ b, b < 10 → a ≠ b → (TX4 a).2.1 ≠ (TX4 b).2.1 := by decide +kernel
theorem tyX4_ok : ∀ k, k < 10 → parseFieldDescriptor (TX4 k).2.2.1 = some (tyX4 k) := by decide +kernel
abbrev cX4_init : ByteArray := prog_6_method_1_code
def yX4_init : MethodName := ⟨RX4, "<init>", "()V"⟩
abbrev cX4_begin : ByteArray := prog_6_method_2_code
def yX4_begin : MethodName := ⟨RX4, "begin", "(IIII)V"⟩
abbrev cX4_become : ByteArray := prog_6_method_3_code
def yX4_become : MethodName := ⟨RX4, "become", "(LFieldPitches$Pitch;)V"⟩
abbrev cX4_trait : ByteArray := prog_6_method_4_code
def yX4_trait : MethodName := ⟨RX4, "trait", "(I)I"⟩
abbrev cX4_offers : ByteArray := prog_6_method_5_code
def yX4_offers : MethodName := ⟨RX4, "offers", "(I)Z"⟩
def RX5 : String := "FieldPitches$Planner"
def TX5 : u_T := fun k => match k with
  | 0 => ("FieldPitches$Planner", "site", "LFieldPitches$Site;", true)
  | 1 => ("FieldPitches$Planner", "calendar", "LFieldPitches$Calendar;", true)
  | 2 => ("FieldPitches$Planner", "size", "I", false)
  | 3 => ("FieldPitches$Planner", "members", "[I", true)
  | 4 => ("FieldPitches$Planner", "open", "[I", true)
  | 5 => ("FieldPitches$Planner", "mostOn", "[I", true)
  | 6 => ("FieldPitches$Planner", "mostFilled", "[I", true)
  | 7 => ("FieldPitches$Planner", "wayToOthers", "[[I", true)
  | 8 => ("FieldPitches$Planner", "bonds", "[[I", true)
  | 9 => ("FieldPitches$Planner", "places", "[I", true)
  | 10 => ("FieldPitches$Planner", "best", "[I", true)
  | 11 => ("FieldPitches$Planner", "bestOn", "I", false)
  | 12 => ("FieldPitches$Planner", "bestGaps", "I", false)
  | _ => ("FieldPitches$Planner", "bestFar", "I", false)
def tyX5 : Nat → FieldType := fun k => match k with
  | 0 => .object "FieldPitches$Site"
  | 1 => .object "FieldPitches$Calendar"
  | 2 => .int
  | 3 => .array .int
  | 4 => .array .int
  | 5 => .array .int
  | 6 => .array .int
  | 7 => .array (.array .int)
  | 8 => .array (.array .int)
  | 9 => .array .int
  | 10 => .array .int
  | 11 => .int
  | 12 => .int
  | _ => .int
abbrev wsX50 : List Cond := u_ws RX5 TX5 14
theorem nmX5 : ∀ a, a < 14 → ∀ b, b < 14 → a ≠ b → (TX5 a).2.1 ≠ (TX5 b).2.1 := by decide +kernel
theorem tyX5_ok : ∀ k, k < 14 → parseFieldDescriptor (TX5 k).2.2.1 = some (tyX5 k) := by decide +kernel
abbrev cX5_init : ByteArray := prog_7_method_1_code
def yX5_init : MethodName := ⟨RX5, "<init>", "(LFieldPitches$Site;LFieldPitches$Calendar;)V"⟩
abbrev cX5_make : ByteArray := prog_7_method_2_code
def yX5_make : MethodName := ⟨RX5, "make", "(I)I"⟩
abbrev cX5_gather : ByteArray := prog_7_method_3_code
def yX5_gather : MethodName := ⟨RX5, "gather", "(I)V"⟩
abbrev cX5_lookAt : ByteArray := prog_7_method_4_code
def yX5_lookAt : MethodName := ⟨RX5, "lookAt", "(II)V"⟩
abbrev cX5_addWays : ByteArray := prog_7_method_5_code
def yX5_addWays : MethodName := ⟨RX5, "addWays", "(II)V"⟩
abbrev cX5_wishesBetween : ByteArray := prog_7_method_6_code
def yX5_wishesBetween : MethodName := ⟨RX5, "wishesBetween", "(II)I"⟩
abbrev cX5_bound : ByteArray := prog_7_method_7_code
def yX5_bound : MethodName := ⟨RX5, "bound", "()V"⟩
abbrev cX5_canBeat : ByteArray := prog_7_method_8_code
def yX5_canBeat : MethodName := ⟨RX5, "canBeat", "(IIII)Z"⟩
abbrev cX5_tryFrom : ByteArray := prog_7_method_9_code
def yX5_tryFrom : MethodName := ⟨RX5, "tryFrom", "(IIII)V"⟩
abbrev cX5_wayOf : ByteArray := prog_7_method_10_code
def yX5_wayOf : MethodName := ⟨RX5, "wayOf", "(I)I"⟩
abbrev cX5_remember : ByteArray := prog_7_method_11_code
def yX5_remember : MethodName := ⟨RX5, "remember", "(III)V"⟩
def RX6 : String := "FieldPitches$Rescuer"
def TX6 : u_T := fun k => match k with
  | 0 => ("FieldPitches$Rescuer", "site", "LFieldPitches$Site;", true)
  | 1 => ("FieldPitches$Rescuer", "size", "I", false)
  | 2 => ("FieldPitches$Rescuer", "wets", "[I", true)
  | 3 => ("FieldPitches$Rescuer", "open", "[I", true)
  | 4 => ("FieldPitches$Rescuer", "goals", "[I", true)
  | 5 => ("FieldPitches$Rescuer", "givenTo", "[I", true)
  | _ => ("FieldPitches$Rescuer", "seen", "I", false)
def tyX6 : Nat → FieldType := fun k => match k with
  | 0 => .object "FieldPitches$Site"
  | 1 => .int
  | 2 => .array .int
  | 3 => .array .int
  | 4 => .array .int
  | 5 => .array .int
  | _ => .int
abbrev wsX60 : List Cond := u_ws RX6 TX6 7
theorem nmX6 : ∀ a, a < 7 → ∀ b, b < 7 → a ≠ b → (TX6 a).2.1 ≠ (TX6 b).2.1 := by decide +kernel
theorem tyX6_ok : ∀ k, k < 7 → parseFieldDescriptor (TX6 k).2.2.1 = some (tyX6 k) := by decide +kernel
abbrev cX6_init : ByteArray := prog_8_method_1_code
def yX6_init : MethodName := ⟨RX6, "<init>", "(LFieldPitches$Site;)V"⟩
abbrev cX6_work : ByteArray := prog_8_method_2_code
def yX6_work : MethodName := ⟨RX6, "work", "(I)I"⟩
abbrev cX6_goalOf : ByteArray := prog_8_method_3_code
def yX6_goalOf : MethodName := ⟨RX6, "goalOf", "(I)I"⟩
abbrev cX6_gather : ByteArray := prog_8_method_4_code
def yX6_gather : MethodName := ⟨RX6, "gather", "(I)V"⟩
abbrev cX6_dryPitches : ByteArray := prog_8_method_5_code
def yX6_dryPitches : MethodName := ⟨RX6, "dryPitches", "(I)I"⟩
abbrev cX6_fitting : ByteArray := prog_8_method_6_code
def yX6_fitting : MethodName := ⟨RX6, "fitting", "(II)I"⟩
abbrev cX6_leastGoal : ByteArray := prog_8_method_7_code
def yX6_leastGoal : MethodName := ⟨RX6, "leastGoal", "(III)I"⟩
abbrev cX6_mostFrom : ByteArray := prog_8_method_8_code
def yX6_mostFrom : MethodName := ⟨RX6, "mostFrom", "(II)I"⟩
abbrev cX6_finds : ByteArray := prog_8_method_9_code
def yX6_finds : MethodName := ⟨RX6, "finds", "(II)Z"⟩
def RX7 : String := "FieldPitches$Sheet"
def TX7 : u_T := fun k => match k with
  | 0 => ("FieldPitches$Sheet", "bits", "I", false)
  | 1 => ("FieldPitches$Sheet", "size", "I", false)
  | _ => ("FieldPitches$Sheet", "numbers", "[I", true)
def tyX7 : Nat → FieldType := fun k => match k with
  | 0 => .int
  | 1 => .int
  | _ => .array .int
abbrev wsX70 : List Cond := u_ws RX7 TX7 3
theorem nmX7 : ∀ a, a < 3 → ∀ b, b < 3 → a ≠ b → (TX7 a).2.1 ≠ (TX7 b).2.1 := by decide +kernel
theorem tyX7_ok : ∀ k, k < 3 → parseFieldDescriptor (TX7 k).2.2.1 = some (tyX7 k) := by decide +kernel
abbrev cX7_init : ByteArray := prog_9_method_1_code
def yX7_init : MethodName := ⟨RX7, "<init>", "()V"⟩
abbrev cX7_begin : ByteArray := prog_9_method_2_code
def yX7_begin : MethodName := ⟨RX7, "begin", "(II)V"⟩
abbrev cX7_isMissing : ByteArray := prog_9_method_3_code
def yX7_isMissing : MethodName := ⟨RX7, "isMissing", "()Z"⟩
abbrev cX7_hasRange : ByteArray := prog_9_method_4_code
def yX7_hasRange : MethodName := ⟨RX7, "hasRange", "(II)Z"⟩
abbrev cX7_change : ByteArray := prog_9_method_5_code
def yX7_change : MethodName := ⟨RX7, "change", "(II)V"⟩
def RX8 : String := "FieldPitches$Site"
def TX8 : u_T := fun k => match k with
  | 0 => ("FieldPitches$Site", "today", "I", false)
  | 1 => ("FieldPitches$Site", "till", "I", false)
  | 2 => ("FieldPitches$Site", "pitchCount", "I", false)
  | 3 => ("FieldPitches$Site", "partyCount", "I", false)
  | 4 => ("FieldPitches$Site", "pitches", "[LFieldPitches$Pitch;", true)
  | 5 => ("FieldPitches$Site", "parties", "[LFieldPitches$Party;", true)
  | 6 => ("FieldPitches$Site", "limits", "[I", true)
  | 7 => ("FieldPitches$Site", "spots", "[I", true)
  | 8 => ("FieldPitches$Site", "laws", "[LFieldPitches$Law;", true)
  | 9 => ("FieldPitches$Site", "washers", "LFieldPitches$Washers;", true)
  | _ => ("FieldPitches$Site", "names", "[I", true)
def tyX8 : Nat → FieldType := fun k => match k with
  | 0 => .int
  | 1 => .int
  | 2 => .int
  | 3 => .int
  | 4 => .array (.object "FieldPitches$Pitch")
  | 5 => .array (.object "FieldPitches$Party")
  | 6 => .array .int
  | 7 => .array .int
  | 8 => .array (.object "FieldPitches$Law")
  | 9 => .object "FieldPitches$Washers"
  | _ => .array .int
abbrev wsX80 : List Cond := u_ws RX8 TX8 11
theorem nmX8 : ∀ a, a < 11 → ∀ b, b < 11 → a ≠ b → (TX8 a).2.1 ≠ (TX8 b).2.1 := by decide +kernel
theorem tyX8_ok : ∀ k, k < 11 → parseFieldDescriptor (TX8 k).2.2.1 = some (tyX8 k) := by decide +kernel
abbrev cX8_init : ByteArray := prog_10_method_1_code
def yX8_init : MethodName := ⟨RX8, "<init>", "()V"⟩
abbrev cX8_become : ByteArray := prog_10_method_2_code
def yX8_become : MethodName := ⟨RX8, "become", "(LFieldPitches$Site;)V"⟩
abbrev cX8_isPitch : ByteArray := prog_10_method_3_code
def yX8_isPitch : MethodName := ⟨RX8, "isPitch", "(I)Z"⟩
abbrev cX8_isParty : ByteArray := prog_10_method_4_code
def yX8_isParty : MethodName := ⟨RX8, "isParty", "(I)Z"⟩
abbrev cX8_isPartyOrNobody : ByteArray := prog_10_method_5_code
def yX8_isPartyOrNobody : MethodName := ⟨RX8, "isPartyOrNobody", "(I)Z"⟩
abbrev cX8_isOn : ByteArray := prog_10_method_6_code
def yX8_isOn : MethodName := ⟨RX8, "isOn", "(I)Z"⟩
abbrev cX8_hasCome : ByteArray := prog_10_method_7_code
def yX8_hasCome : MethodName := ⟨RX8, "hasCome", "(I)Z"⟩
abbrev cX8_isSettled : ByteArray := prog_10_method_8_code
def yX8_isSettled : MethodName := ⟨RX8, "isSettled", "(I)Z"⟩
abbrev cX8_isHere : ByteArray := prog_10_method_9_code
def yX8_isHere : MethodName := ⟨RX8, "isHere", "(I)Z"⟩
abbrev cX8_isWet : ByteArray := prog_10_method_10_code
def yX8_isWet : MethodName := ⟨RX8, "isWet", "(II)Z"⟩
abbrev cX8_partiesHere : ByteArray := prog_10_method_11_code
def yX8_partiesHere : MethodName := ⟨RX8, "partiesHere", "()I"⟩
abbrev cX8_partiesWaiting : ByteArray := prog_10_method_12_code
def yX8_partiesWaiting : MethodName := ⟨RX8, "partiesWaiting", "()I"⟩
abbrev cX8_distance : ByteArray := prog_10_method_13_code
def yX8_distance : MethodName := ⟨RX8, "distance", "(II)I"⟩
abbrev cX8_holder : ByteArray := prog_10_method_14_code
def yX8_holder : MethodName := ⟨RX8, "holder", "(II)I"⟩
abbrev cX8_mark : ByteArray := prog_10_method_15_code
def yX8_mark : MethodName := ⟨RX8, "mark", "(LFieldPitches$Calendar;I)V"⟩
abbrev cX8_loadNow : ByteArray := prog_10_method_16_code
def yX8_loadNow : MethodName := ⟨RX8, "loadNow", "(II)I"⟩
abbrev cX8_priceNow : ByteArray := prog_10_method_17_code
def yX8_priceNow : MethodName := ⟨RX8, "priceNow", "(I)I"⟩
abbrev cX8_refundNow : ByteArray := prog_10_method_18_code
def yX8_refundNow : MethodName := ⟨RX8, "refundNow", "(I)I"⟩
abbrev cX8_worthFor : ByteArray := prog_10_method_19_code
def yX8_worthFor : MethodName := ⟨RX8, "worthFor", "(ILFieldPitches$Law;)I"⟩
abbrev cX8_othersOn : ByteArray := prog_10_method_20_code
def yX8_othersOn : MethodName := ⟨RX8, "othersOn", "(II)I"⟩
def RX9 : String := "FieldPitches$Tape"
def TX9 : u_T := fun k => match k with
  | 0 => ("FieldPitches$Tape", "size", "I", false)
  | 1 => ("FieldPitches$Tape", "fault", "I", false)
  | 2 => ("FieldPitches$Tape", "operands", "I", false)
  | 3 => ("FieldPitches$Tape", "codeSize", "I", false)
  | 4 => ("FieldPitches$Tape", "code", "[I", true)
  | 5 => ("FieldPitches$Tape", "bytes", "[I", true)
  | 6 => ("FieldPitches$Tape", "tokens", "[I", true)
  | 7 => ("FieldPitches$Tape", "values", "[I", true)
  | 8 => ("FieldPitches$Tape", "starts", "[I", true)
  | 9 => ("FieldPitches$Tape", "tokenCount", "I", false)
  | _ => ("FieldPitches$Tape", "at", "I", false)
def tyX9 : Nat → FieldType := fun k => match k with
  | 0 => .int
  | 1 => .int
  | 2 => .int
  | 3 => .int
  | 4 => .array .int
  | 5 => .array .int
  | 6 => .array .int
  | 7 => .array .int
  | 8 => .array .int
  | 9 => .int
  | _ => .int
abbrev wsX90 : List Cond := u_ws RX9 TX9 11
theorem nmX9 : ∀ a, a < 11 → ∀ b, b < 11 → a ≠ b → (TX9 a).2.1 ≠ (TX9 b).2.1 := by decide +kernel
theorem tyX9_ok : ∀ k, k < 11 → parseFieldDescriptor (TX9 k).2.2.1 = some (tyX9 k) := by decide +kernel
abbrev cX9_init : ByteArray := prog_11_method_1_code
def yX9_init : MethodName := ⟨RX9, "<init>", "()V"⟩
abbrev cX9_append : ByteArray := prog_11_method_2_code
def yX9_append : MethodName := ⟨RX9, "append", "(I)V"⟩
abbrev cX9_readText : ByteArray := prog_11_method_3_code
def yX9_readText : MethodName := ⟨RX9, "readText", "()Z"⟩
abbrev cX9_cutIntoTokens : ByteArray := prog_11_method_4_code
def yX9_cutIntoTokens : MethodName := ⟨RX9, "cutIntoTokens", "()V"⟩
abbrev cX9_addToken : ByteArray := prog_11_method_5_code
def yX9_addToken : MethodName := ⟨RX9, "addToken", "(III)V"⟩
abbrev cX9_cutNumber : ByteArray := prog_11_method_6_code
def yX9_cutNumber : MethodName := ⟨RX9, "cutNumber", "(I)I"⟩
abbrev cX9_cutWord : ByteArray := prog_11_method_7_code
def yX9_cutWord : MethodName := ⟨RX9, "cutWord", "(I)I"⟩
abbrev cX9_nameOf : ByteArray := prog_11_method_8_code
def yX9_nameOf : MethodName := ⟨RX9, "nameOf", "(I)I"⟩
abbrev cX9_isDigit : ByteArray := prog_11_method_9_code
def yX9_isDigit : MethodName := ⟨RX9, "isDigit", "(I)Z"⟩
abbrev cX9_isLetter : ByteArray := prog_11_method_10_code
def yX9_isLetter : MethodName := ⟨RX9, "isLetter", "(I)Z"⟩
abbrev cX9_isSign : ByteArray := prog_11_method_11_code
def yX9_isSign : MethodName := ⟨RX9, "isSign", "(I)Z"⟩
abbrev cX9_isAt : ByteArray := prog_11_method_12_code
def yX9_isAt : MethodName := ⟨RX9, "isAt", "(II)Z"⟩
abbrev cX9_passToken : ByteArray := prog_11_method_13_code
def yX9_passToken : MethodName := ⟨RX9, "passToken", "()I"⟩
abbrev cX9_isFault : ByteArray := prog_11_method_14_code
def yX9_isFault : MethodName := ⟨RX9, "isFault", "()Z"⟩
abbrev cX9_emit : ByteArray := prog_11_method_15_code
def yX9_emit : MethodName := ⟨RX9, "emit", "(I)Z"⟩
abbrev cX9_readCompared : ByteArray := prog_11_method_16_code
def yX9_readCompared : MethodName := ⟨RX9, "readCompared", "(I)Z"⟩
abbrev cX9_readSum : ByteArray := prog_11_method_17_code
def yX9_readSum : MethodName := ⟨RX9, "readSum", "(I)Z"⟩
abbrev cX9_readTerm : ByteArray := prog_11_method_18_code
def yX9_readTerm : MethodName := ⟨RX9, "readTerm", "(I)Z"⟩
abbrev cX9_readOne : ByteArray := prog_11_method_19_code
def yX9_readOne : MethodName := ⟨RX9, "readOne", "(I)Z"⟩
abbrev cX9_readClosing : ByteArray := prog_11_method_20_code
def yX9_readClosing : MethodName := ⟨RX9, "readClosing", "()Z"⟩
def RX10 : String := "FieldPitches$Washers"
def TX10 : u_T := fun k => match k with
  | 0 => ("FieldPitches$Washers", "size", "I", false)
  | 1 => ("FieldPitches$Washers", "longestWait", "I", false)
  | 2 => ("FieldPitches$Washers", "allDone", "I", false)
  | 3 => ("FieldPitches$Washers", "waiting", "I", false)
  | 4 => ("FieldPitches$Washers", "minutes", "[I", true)
  | 5 => ("FieldPitches$Washers", "takes", "[I", true)
  | _ => ("FieldPitches$Washers", "freeAt", "[I", true)
def tyX10 : Nat → FieldType := fun k => match k with
  | 0 => .int
  | 1 => .int
  | 2 => .int
  | 3 => .int
  | 4 => .array .int
  | 5 => .array .int
  | _ => .array .int
abbrev wsX100 : List Cond := u_ws RX10 TX10 7
theorem nmX10 : ∀ a, a < 7 → ∀ b, b < 7 → a ≠ b → (TX10 a).2.1 ≠ (TX10 b).2.1 := by decide +kernel
theorem tyX10_ok : ∀ k, k < 7 → parseFieldDescriptor (TX10 k).2.2.1 = some (tyX10 k) := by decide +kernel
abbrev cX10_init : ByteArray := prog_12_method_1_code
def yX10_init : MethodName := ⟨RX10, "<init>", "()V"⟩
abbrev cX10_insert : ByteArray := prog_12_method_2_code
def yX10_insert : MethodName := ⟨RX10, "insert", "(II)V"⟩
abbrev cX10_become : ByteArray := prog_12_method_3_code
def yX10_become : MethodName := ⟨RX10, "become", "(LFieldPitches$Washers;)V"⟩
abbrev cX10_serve : ByteArray := prog_12_method_4_code
def yX10_serve : MethodName := ⟨RX10, "serve", "(I)V"⟩
abbrev cX10_firstFree : ByteArray := prog_12_method_5_code
def yX10_firstFree : MethodName := ⟨RX10, "firstFree", "(I)I"⟩
def RX11 : String := "FieldPitches"
def TX11 : u_T := fun k => match k with
  | 0 => ("FieldPitches", "site", "LFieldPitches$Site;", true)
  | 1 => ("FieldPitches", "kept", "LFieldPitches$Site;", true)
  | 2 => ("FieldPitches", "calendar", "LFieldPitches$Calendar;", true)
  | 3 => ("FieldPitches", "planner", "LFieldPitches$Planner;", true)
  | 4 => ("FieldPitches", "rescuer", "LFieldPitches$Rescuer;", true)
  | 5 => ("FieldPitches", "tape", "LFieldPitches$Tape;", true)
  | 6 => ("FieldPitches", "sheets", "[LFieldPitches$Sheet;", true)
  | 7 => ("FieldPitches", "found", "[I", true)
  | _ => ("FieldPitches", "isKept", "Z", false)
def tyX11 : Nat → FieldType := fun k => match k with
  | 0 => .object "FieldPitches$Site"
  | 1 => .object "FieldPitches$Site"
  | 2 => .object "FieldPitches$Calendar"
  | 3 => .object "FieldPitches$Planner"
  | 4 => .object "FieldPitches$Rescuer"
  | 5 => .object "FieldPitches$Tape"
  | 6 => .array (.object "FieldPitches$Sheet")
  | 7 => .array .int
  | _ => .boolean
abbrev wsX110 : List Cond := u_ws RX11 TX11 9
theorem nmX11 : ∀ a, a < 9 → ∀ b, b < 9 → a ≠ b → (TX11 a).2.1 ≠ (TX11 b).2.1 := by decide +kernel
theorem tyX11_ok : ∀ k, k < 9 → parseFieldDescriptor (TX11 k).2.2.1 = some (tyX11 k) := by decide +kernel
abbrev cX11_init : ByteArray := prog_1_method_1_code
def yX11_init : MethodName := ⟨RX11, "<init>", "()V"⟩
abbrev cX11_pitch : ByteArray := prog_1_method_2_code
def yX11_pitch : MethodName := ⟨RX11, "pitch", "(IIII)I"⟩
abbrev cX11_pitchOf : ByteArray := prog_1_method_3_code
def yX11_pitchOf : MethodName := ⟨RX11, "pitchOf", "(II)I"⟩
abbrev cX11_shade : ByteArray := prog_1_method_4_code
def yX11_shade : MethodName := ⟨RX11, "shade", "(II)I"⟩
abbrev cX11_far : ByteArray := prog_1_method_5_code
def yX11_far : MethodName := ⟨RX11, "far", "(II)I"⟩
abbrev cX11_party : ByteArray := prog_1_method_6_code
def yX11_party : MethodName := ⟨RX11, "party", "(IIII)I"⟩
abbrev cX11_partyOf : ByteArray := prog_1_method_7_code
def yX11_partyOf : MethodName := ⟨RX11, "partyOf", "(II)I"⟩
abbrev cX11_why : ByteArray := prog_1_method_8_code
def yX11_why : MethodName := ⟨RX11, "why", "(II)I"⟩
abbrev cX11_near : ByteArray := prog_1_method_9_code
def yX11_near : MethodName := ⟨RX11, "near", "(II)I"⟩
abbrev cX11_put : ByteArray := prog_1_method_10_code
def yX11_put : MethodName := ⟨RX11, "put", "(II)I"⟩
abbrev cX11_nights : ByteArray := prog_1_method_11_code
def yX11_nights : MethodName := ⟨RX11, "nights", "(I)I"⟩
abbrev cX11_who : ByteArray := prog_1_method_12_code
def yX11_who : MethodName := ⟨RX11, "who", "(II)I"⟩
abbrev cX11_gaps : ByteArray := prog_1_method_13_code
def yX11_gaps : MethodName := ⟨RX11, "gaps", "(I)I"⟩
abbrev cX11_plan : ByteArray := prog_1_method_14_code
def yX11_plan : MethodName := ⟨RX11, "plan", "(I)I"⟩
abbrev cX11_apart : ByteArray := prog_1_method_15_code
def yX11_apart : MethodName := ⟨RX11, "apart", "()I"⟩
abbrev cX11_feed : ByteArray := prog_1_method_16_code
def yX11_feed : MethodName := ⟨RX11, "feed", "(II)I"⟩
abbrev cX11_wipe : ByteArray := prog_1_method_17_code
def yX11_wipe : MethodName := ⟨RX11, "wipe", "()I"⟩
abbrev cX11_law : ByteArray := prog_1_method_18_code
def yX11_law : MethodName := ⟨RX11, "law", "(I)I"⟩
abbrev cX11_repeal : ByteArray := prog_1_method_19_code
def yX11_repeal : MethodName := ⟨RX11, "repeal", "(I)I"⟩
abbrev cX11_says : ByteArray := prog_1_method_20_code
def yX11_says : MethodName := ⟨RX11, "says", "(II)I"⟩
abbrev cX11_pay : ByteArray := prog_1_method_21_code
def yX11_pay : MethodName := ⟨RX11, "pay", "(I)I"⟩
abbrev cX11_cancel : ByteArray := prog_1_method_22_code
def yX11_cancel : MethodName := ⟨RX11, "cancel", "(I)I"⟩
abbrev cX11_review : ByteArray := prog_1_method_23_code
def yX11_review : MethodName := ⟨RX11, "review", "(II)I"⟩
abbrev cX11_stars : ByteArray := prog_1_method_24_code
def yX11_stars : MethodName := ⟨RX11, "stars", "(I)I"⟩
abbrev cX11_use : ByteArray := prog_1_method_25_code
def yX11_use : MethodName := ⟨RX11, "use", "(III)I"⟩
abbrev cX11_limit : ByteArray := prog_1_method_26_code
def yX11_limit : MethodName := ⟨RX11, "limit", "(II)I"⟩
abbrev cX11_load : ByteArray := prog_1_method_27_code
def yX11_load : MethodName := ⟨RX11, "load", "(II)I"⟩
abbrev cX11_trips : ByteArray := prog_1_method_28_code
def yX11_trips : MethodName := ⟨RX11, "trips", "(I)I"⟩
abbrev cX11_may : ByteArray := prog_1_method_29_code
def yX11_may : MethodName := ⟨RX11, "may", "(IIII)I"⟩
abbrev cX11_wet : ByteArray := prog_1_method_30_code
def yX11_wet : MethodName := ⟨RX11, "wet", "(I)I"⟩
abbrev cX11_rescue : ByteArray := prog_1_method_31_code
def yX11_rescue : MethodName := ⟨RX11, "rescue", "(II)I"⟩
abbrev cX11_wash : ByteArray := prog_1_method_32_code
def yX11_wash : MethodName := ⟨RX11, "wash", "(II)I"⟩
abbrev cX11_block : ByteArray := prog_1_method_33_code
def yX11_block : MethodName := ⟨RX11, "block", "(II)I"⟩
abbrev cX11_dry : ByteArray := prog_1_method_34_code
def yX11_dry : MethodName := ⟨RX11, "dry", "()I"⟩
abbrev cX11_join : ByteArray := prog_1_method_35_code
def yX11_join : MethodName := ⟨RX11, "join", "(I)I"⟩
abbrev cX11_hold : ByteArray := prog_1_method_36_code
def yX11_hold : MethodName := ⟨RX11, "hold", "(II)I"⟩
abbrev cX11_as : ByteArray := prog_1_method_37_code
def yX11_as : MethodName := ⟨RX11, "as", "(II)I"⟩
abbrev cX11_sheet : ByteArray := prog_1_method_38_code
def yX11_sheet : MethodName := ⟨RX11, "sheet", "(III)I"⟩
abbrev cX11_write : ByteArray := prog_1_method_39_code
def yX11_write : MethodName := ⟨RX11, "write", "(III)I"⟩
abbrev cX11_copy : ByteArray := prog_1_method_40_code
def yX11_copy : MethodName := ⟨RX11, "copy", "(IIIII)I"⟩
abbrev cX11_image : ByteArray := prog_1_method_41_code
def yX11_image : MethodName := ⟨RX11, "image", "()I"⟩
abbrev cX11_undo : ByteArray := prog_1_method_42_code
def yX11_undo : MethodName := ⟨RX11, "undo", "()I"⟩
abbrev cX11_tear : ByteArray := prog_1_method_43_code
def yX11_tear : MethodName := ⟨RX11, "tear", "()I"⟩
abbrev cX11_count : ByteArray := prog_1_method_44_code
def yX11_count : MethodName := ⟨RX11, "count", "(I)I"⟩
abbrev cX11_status : ByteArray := prog_1_method_45_code
def yX11_status : MethodName := ⟨RX11, "status", "(I)I"⟩
abbrev cX11_finding : ByteArray := prog_1_method_46_code
def yX11_finding : MethodName := ⟨RX11, "finding", "(I)I"⟩
abbrev cX11_areStays : ByteArray := prog_1_method_47_code
def yX11_areStays : MethodName := ⟨RX11, "areStays", "(LFieldPitches$Sheet;)Z"⟩
abbrev cX11_firstClash : ByteArray := prog_1_method_48_code
def yX11_firstClash : MethodName := ⟨RX11, "firstClash", "(LFieldPitches$Sheet;)I"⟩
abbrev cX11_isIn : ByteArray := prog_1_method_49_code
def yX11_isIn : MethodName := ⟨RX11, "isIn", "(III)Z"⟩
abbrev cX11_isStay : ByteArray := prog_1_method_50_code
def yX11_isStay : MethodName := ⟨RX11, "isStay", "(II)Z"⟩
def RX12 : String := "FieldPitchesModel"
def TX12 : u_T := fun k => match k with
  | 0 => ("FieldPitchesModel", "today", "I", false)
  | 1 => ("FieldPitchesModel", "till", "I", false)
  | 2 => ("FieldPitchesModel", "pitches", "I", false)
  | 3 => ("FieldPitchesModel", "pitch", "[I", true)
  | 4 => ("FieldPitchesModel", "starSum", "[I", true)
  | 5 => ("FieldPitchesModel", "starMany", "[I", true)
  | 6 => ("FieldPitchesModel", "parties", "I", false)
  | 7 => ("FieldPitchesModel", "party", "[I", true)
  | 8 => ("FieldPitchesModel", "limits", "[I", true)
  | 9 => ("FieldPitchesModel", "washers", "I", false)
  | 10 => ("FieldPitchesModel", "comes", "[I", true)
  | 11 => ("FieldPitchesModel", "takes", "[I", true)
  | 12 => ("FieldPitchesModel", "spots", "[I", true)
  | 13 => ("FieldPitchesModel", "signMany", "[I", true)
  | 14 => ("FieldPitchesModel", "signs", "[I", true)
  | 15 => ("FieldPitchesModel", "findings", "[I", true)
  | 16 => ("FieldPitchesModel", "taken", "[Z", true)
  | 17 => ("FieldPitchesModel", "planned", "[I", true)
  | 18 => ("FieldPitchesModel", "gapsWithout", "[I", true)
  | 19 => ("FieldPitchesModel", "bestOn", "[I", true)
  | 20 => ("FieldPitchesModel", "plannedMany", "I", false)
  | 21 => ("FieldPitchesModel", "tape", "[I", true)
  | 22 => ("FieldPitchesModel", "tapeMany", "I", false)
  | 23 => ("FieldPitchesModel", "from", "I", false)
  | 24 => ("FieldPitchesModel", "to", "I", false)
  | 25 => ("FieldPitchesModel", "sort", "I", false)
  | 26 => ("FieldPitchesModel", "value", "I", false)
  | 27 => ("FieldPitchesModel", "fresh", "[I", true)
  | 28 => ("FieldPitchesModel", "pending", "[I", true)
  | 29 => ("FieldPitchesModel", "freshMany", "I", false)
  | 30 => ("FieldPitchesModel", "pendingMany", "I", false)
  | 31 => ("FieldPitchesModel", "open", "I", false)
  | 32 => ("FieldPitchesModel", "said", "I", false)
  | 33 => ("FieldPitchesModel", "pile", "[I", true)
  | 34 => ("FieldPitchesModel", "moved", "[I", true)
  | 35 => ("FieldPitchesModel", "wetOnes", "[I", true)
  | 36 => ("FieldPitchesModel", "served", "[Z", true)
  | 37 => ("FieldPitchesModel", "showerFree", "[I", true)
  | 38 => ("FieldPitchesModel", "bits", "[I", true)
  | 39 => ("FieldPitchesModel", "sizes", "[I", true)
  | 40 => ("FieldPitchesModel", "sheets", "[I", true)
  | 41 => ("FieldPitchesModel", "carried", "[I", true)
  | 42 => ("FieldPitchesModel", "isKept", "Z", false)
  | 43 => ("FieldPitchesModel", "kept", "[I", true)
  | 44 => ("FieldPitchesModel", "movedTo", "I", false)
  | _ => ("FieldPitchesModel", "single", "[I", true)
def tyX12 : Nat → FieldType := fun k => match k with
  | 0 => .int
  | 1 => .int
  | 2 => .int
  | 3 => .array .int
  | 4 => .array .int
  | 5 => .array .int
  | 6 => .int
  | 7 => .array .int
  | 8 => .array .int
  | 9 => .int
  | 10 => .array .int
  | 11 => .array .int
  | 12 => .array .int
  | 13 => .array .int
  | 14 => .array .int
  | 15 => .array .int
  | 16 => .array .boolean
  | 17 => .array .int
  | 18 => .array .int
  | 19 => .array .int
  | 20 => .int
  | 21 => .array .int
  | 22 => .int
  | 23 => .int
  | 24 => .int
  | 25 => .int
  | 26 => .int
  | 27 => .array .int
  | 28 => .array .int
  | 29 => .int
  | 30 => .int
  | 31 => .int
  | 32 => .int
  | 33 => .array .int
  | 34 => .array .int
  | 35 => .array .int
  | 36 => .array .boolean
  | 37 => .array .int
  | 38 => .array .int
  | 39 => .array .int
  | 40 => .array .int
  | 41 => .array .int
  | 42 => .boolean
  | 43 => .array .int
  | 44 => .int
  | _ => .array .int
abbrev wsX120 : List Cond := u_ws RX12 TX12 46
theorem nmX12 : ∀ a, a < 46 → ∀ b, b < 46 → a ≠ b → (TX12 a).2.1 ≠ (TX12 b).2.1 := by decide +kernel
theorem tyX12_ok : ∀ k, k < 46 → parseFieldDescriptor (TX12 k).2.2.1 = some (tyX12 k) := by decide +kernel
abbrev cX12_init : ByteArray := prog_14_method_1_code
def yX12_init : MethodName := ⟨RX12, "<init>", "()V"⟩
abbrev cX12_in : ByteArray := prog_14_method_2_code
def yX12_in : MethodName := ⟨RX12, "in", "(III)Z"⟩
abbrev cX12_finds : ByteArray := prog_14_method_3_code
def yX12_finds : MethodName := ⟨RX12, "finds", "(I)I"⟩
abbrev cX12_isPitch : ByteArray := prog_14_method_4_code
def yX12_isPitch : MethodName := ⟨RX12, "isPitch", "(I)Z"⟩
abbrev cX12_isParty : ByteArray := prog_14_method_5_code
def yX12_isParty : MethodName := ⟨RX12, "isParty", "(I)Z"⟩
abbrev cX12_isNight : ByteArray := prog_14_method_6_code
def yX12_isNight : MethodName := ⟨RX12, "isNight", "(I)Z"⟩
abbrev cX12_pitch : ByteArray := prog_14_method_7_code
def yX12_pitch : MethodName := ⟨RX12, "pitch", "(IIII)I"⟩
abbrev cX12_pitchOf : ByteArray := prog_14_method_8_code
def yX12_pitchOf : MethodName := ⟨RX12, "pitchOf", "(II)I"⟩
abbrev cX12_shade : ByteArray := prog_14_method_9_code
def yX12_shade : MethodName := ⟨RX12, "shade", "(II)I"⟩
abbrev cX12_size : ByteArray := prog_14_method_10_code
def yX12_size : MethodName := ⟨RX12, "size", "(I)I"⟩
abbrev cX12_farOf : ByteArray := prog_14_method_11_code
def yX12_farOf : MethodName := ⟨RX12, "farOf", "(II)I"⟩
abbrev cX12_far : ByteArray := prog_14_method_12_code
def yX12_far : MethodName := ⟨RX12, "far", "(II)I"⟩
abbrev cX12_party : ByteArray := prog_14_method_13_code
def yX12_party : MethodName := ⟨RX12, "party", "(IIII)I"⟩
abbrev cX12_of : ByteArray := prog_14_method_14_code
def yX12_of : MethodName := ⟨RX12, "of", "(II)I"⟩
abbrev cX12_hasCome : ByteArray := prog_14_method_15_code
def yX12_hasCome : MethodName := ⟨RX12, "hasCome", "(I)Z"⟩
abbrev cX12_partyOf : ByteArray := prog_14_method_16_code
def yX12_partyOf : MethodName := ⟨RX12, "partyOf", "(II)I"⟩
abbrev cX12_lacks : ByteArray := prog_14_method_17_code
def yX12_lacks : MethodName := ⟨RX12, "lacks", "(III)Z"⟩
abbrev cX12_whyNot : ByteArray := prog_14_method_18_code
def yX12_whyNot : MethodName := ⟨RX12, "whyNot", "(II)I"⟩
abbrev cX12_why : ByteArray := prog_14_method_19_code
def yX12_why : MethodName := ⟨RX12, "why", "(II)I"⟩
abbrev cX12_near : ByteArray := prog_14_method_20_code
def yX12_near : MethodName := ⟨RX12, "near", "(II)I"⟩
abbrev cX12_staysIn : ByteArray := prog_14_method_21_code
def yX12_staysIn : MethodName := ⟨RX12, "staysIn", "(II)Z"⟩
abbrev cX12_meet : ByteArray := prog_14_method_22_code
def yX12_meet : MethodName := ⟨RX12, "meet", "(II)Z"⟩
abbrev cX12_isFreeFor : ByteArray := prog_14_method_23_code
def yX12_isFreeFor : MethodName := ⟨RX12, "isFreeFor", "(II)Z"⟩
abbrev cX12_put : ByteArray := prog_14_method_24_code
def yX12_put : MethodName := ⟨RX12, "put", "(II)I"⟩
abbrev cX12_nights : ByteArray := prog_14_method_25_code
def yX12_nights : MethodName := ⟨RX12, "nights", "(I)I"⟩
abbrev cX12_whoIn : ByteArray := prog_14_method_26_code
def yX12_whoIn : MethodName := ⟨RX12, "whoIn", "(II)I"⟩
abbrev cX12_who : ByteArray := prog_14_method_27_code
def yX12_who : MethodName := ⟨RX12, "who", "(II)I"⟩
abbrev cX12_gapsOf : ByteArray := prog_14_method_28_code
def yX12_gapsOf : MethodName := ⟨RX12, "gapsOf", "(I)I"⟩
abbrev cX12_gaps : ByteArray := prog_14_method_29_code
def yX12_gaps : MethodName := ⟨RX12, "gaps", "(I)I"⟩
abbrev cX12_apartNow : ByteArray := prog_14_method_30_code
def yX12_apartNow : MethodName := ⟨RX12, "apartNow", "()I"⟩
abbrev cX12_apart : ByteArray := prog_14_method_31_code
def yX12_apart : MethodName := ⟨RX12, "apart", "()I"⟩
abbrev cX12_ones : ByteArray := prog_14_method_32_code
def yX12_ones : MethodName := ⟨RX12, "ones", "(I)I"⟩
abbrev cX12_gapsNow : ByteArray := prog_14_method_33_code
def yX12_gapsNow : MethodName := ⟨RX12, "gapsNow", "()I"⟩
abbrev cX12_lays : ByteArray := prog_14_method_34_code
def yX12_lays : MethodName := ⟨RX12, "lays", "(I)I"⟩
abbrev cX12_plan : ByteArray := prog_14_method_35_code
def yX12_plan : MethodName := ⟨RX12, "plan", "(I)I"⟩
abbrev cX12_feed : ByteArray := prog_14_method_36_code
def yX12_feed : MethodName := ⟨RX12, "feed", "(II)I"⟩
abbrev cX12_wipe : ByteArray := prog_14_method_37_code
def yX12_wipe : MethodName := ⟨RX12, "wipe", "()I"⟩
abbrev cX12_byteAt : ByteArray := prog_14_method_38_code
def yX12_byteAt : MethodName := ⟨RX12, "byteAt", "(I)I"⟩
abbrev cX12_isLetter : ByteArray := prog_14_method_39_code
def yX12_isLetter : MethodName := ⟨RX12, "isLetter", "(I)Z"⟩
abbrev cX12_isDigit : ByteArray := prog_14_method_40_code
def yX12_isDigit : MethodName := ⟨RX12, "isDigit", "(I)Z"⟩
abbrev cX12_isName : ByteArray := prog_14_method_41_code
def yX12_isName : MethodName := ⟨RX12, "isName", "(I)Z"⟩
abbrev cX12_isMark : ByteArray := prog_14_method_42_code
def yX12_isMark : MethodName := ⟨RX12, "isMark", "(I)Z"⟩
abbrev cX12_advance : ByteArray := prog_14_method_43_code
def yX12_advance : MethodName := ⟨RX12, "advance", "()V"⟩
abbrev cX12_emit : ByteArray := prog_14_method_44_code
def yX12_emit : MethodName := ⟨RX12, "emit", "(I)V"⟩
abbrev cX12_top : ByteArray := prog_14_method_45_code
def yX12_top : MethodName := ⟨RX12, "top", "()I"⟩
abbrev cX12_pend : ByteArray := prog_14_method_46_code
def yX12_pend : MethodName := ⟨RX12, "pend", "(I)V"⟩
abbrev cX12_ended : ByteArray := prog_14_method_47_code
def yX12_ended : MethodName := ⟨RX12, "ended", "()V"⟩
abbrev cX12_settle : ByteArray := prog_14_method_48_code
def yX12_settle : MethodName := ⟨RX12, "settle", "(I)V"⟩
abbrev cX12_binds : ByteArray := prog_14_method_49_code
def yX12_binds : MethodName := ⟨RX12, "binds", "(I)I"⟩
abbrev cX12_begins : ByteArray := prog_14_method_50_code
def yX12_begins : MethodName := ⟨RX12, "begins", "()Z"⟩
abbrev cX12_goesOn : ByteArray := prog_14_method_51_code
def yX12_goesOn : MethodName := ⟨RX12, "goesOn", "()Z"⟩
abbrev cX12_reads : ByteArray := prog_14_method_52_code
def yX12_reads : MethodName := ⟨RX12, "reads", "()I"⟩
abbrev cX12_law : ByteArray := prog_14_method_53_code
def yX12_law : MethodName := ⟨RX12, "law", "(I)I"⟩
abbrev cX12_repeal : ByteArray := prog_14_method_54_code
def yX12_repeal : MethodName := ⟨RX12, "repeal", "(I)I"⟩
abbrev cX12_others : ByteArray := prog_14_method_55_code
def yX12_others : MethodName := ⟨RX12, "others", "(I)I"⟩
abbrev cX12_named : ByteArray := prog_14_method_56_code
def yX12_named : MethodName := ⟨RX12, "named", "(II)I"⟩
abbrev cX12_joined : ByteArray := prog_14_method_57_code
def yX12_joined : MethodName := ⟨RX12, "joined", "(III)I"⟩
abbrev cX12_worked : ByteArray := prog_14_method_58_code
def yX12_worked : MethodName := ⟨RX12, "worked", "(II)I"⟩
abbrev cX12_priceBy : ByteArray := prog_14_method_59_code
def yX12_priceBy : MethodName := ⟨RX12, "priceBy", "(I)I"⟩
abbrev cX12_held : ByteArray := prog_14_method_60_code
def yX12_held : MethodName := ⟨RX12, "held", "(II)I"⟩
abbrev cX12_saysOf : ByteArray := prog_14_method_61_code
def yX12_saysOf : MethodName := ⟨RX12, "saysOf", "(II)I"⟩
abbrev cX12_says : ByteArray := prog_14_method_62_code
def yX12_says : MethodName := ⟨RX12, "says", "(II)I"⟩
abbrev cX12_pay : ByteArray := prog_14_method_63_code
def yX12_pay : MethodName := ⟨RX12, "pay", "(I)I"⟩
abbrev cX12_cancel : ByteArray := prog_14_method_64_code
def yX12_cancel : MethodName := ⟨RX12, "cancel", "(I)I"⟩
abbrev cX12_review : ByteArray := prog_14_method_65_code
def yX12_review : MethodName := ⟨RX12, "review", "(II)I"⟩
abbrev cX12_stars : ByteArray := prog_14_method_66_code
def yX12_stars : MethodName := ⟨RX12, "stars", "(I)I"⟩
abbrev cX12_use : ByteArray := prog_14_method_67_code
def yX12_use : MethodName := ⟨RX12, "use", "(III)I"⟩
abbrev cX12_isPost : ByteArray := prog_14_method_68_code
def yX12_isPost : MethodName := ⟨RX12, "isPost", "(I)Z"⟩
abbrev cX12_limit : ByteArray := prog_14_method_69_code
def yX12_limit : MethodName := ⟨RX12, "limit", "(II)I"⟩
abbrev cX12_isHere : ByteArray := prog_14_method_70_code
def yX12_isHere : MethodName := ⟨RX12, "isHere", "(I)Z"⟩
abbrev cX12_postOf : ByteArray := prog_14_method_71_code
def yX12_postOf : MethodName := ⟨RX12, "postOf", "(I)I"⟩
abbrev cX12_loadOf : ByteArray := prog_14_method_72_code
def yX12_loadOf : MethodName := ⟨RX12, "loadOf", "(II)I"⟩
abbrev cX12_load : ByteArray := prog_14_method_73_code
def yX12_load : MethodName := ⟨RX12, "load", "(II)I"⟩
abbrev cX12_trips : ByteArray := prog_14_method_74_code
def yX12_trips : MethodName := ⟨RX12, "trips", "(I)I"⟩
abbrev cX12_may : ByteArray := prog_14_method_75_code
def yX12_may : MethodName := ⟨RX12, "may", "(IIII)I"⟩
abbrev cX12_isWet : ByteArray := prog_14_method_76_code
def yX12_isWet : MethodName := ⟨RX12, "isWet", "(II)Z"⟩
abbrev cX12_wet : ByteArray := prog_14_method_77_code
def yX12_wet : MethodName := ⟨RX12, "wet", "(I)I"⟩
abbrev cX12_isOpen : ByteArray := prog_14_method_78_code
def yX12_isOpen : MethodName := ⟨RX12, "isOpen", "(II)Z"⟩
abbrev cX12_rescue : ByteArray := prog_14_method_79_code
def yX12_rescue : MethodName := ⟨RX12, "rescue", "(II)I"⟩
abbrev cX12_wash : ByteArray := prog_14_method_80_code
def yX12_wash : MethodName := ⟨RX12, "wash", "(II)I"⟩
abbrev cX12_block : ByteArray := prog_14_method_81_code
def yX12_block : MethodName := ⟨RX12, "block", "(II)I"⟩
abbrev cX12_dry : ByteArray := prog_14_method_82_code
def yX12_dry : MethodName := ⟨RX12, "dry", "()I"⟩
abbrev cX12_join : ByteArray := prog_14_method_83_code
def yX12_join : MethodName := ⟨RX12, "join", "(I)I"⟩
abbrev cX12_hold : ByteArray := prog_14_method_84_code
def yX12_hold : MethodName := ⟨RX12, "hold", "(II)I"⟩
abbrev cX12_as : ByteArray := prog_14_method_85_code
def yX12_as : MethodName := ⟨RX12, "as", "(II)I"⟩
abbrev cX12_isSheet : ByteArray := prog_14_method_86_code
def yX12_isSheet : MethodName := ⟨RX12, "isSheet", "(I)Z"⟩
abbrev cX12_sheet : ByteArray := prog_14_method_87_code
def yX12_sheet : MethodName := ⟨RX12, "sheet", "(III)I"⟩
abbrev cX12_write : ByteArray := prog_14_method_88_code
def yX12_write : MethodName := ⟨RX12, "write", "(III)I"⟩
abbrev cX12_copy : ByteArray := prog_14_method_89_code
def yX12_copy : MethodName := ⟨RX12, "copy", "(IIIII)I"⟩
abbrev cX12_move : ByteArray := prog_14_method_90_code
def yX12_move : MethodName := ⟨RX12, "move", "([IIZ)V"⟩
abbrev cX12_moveAll : ByteArray := prog_14_method_91_code
def yX12_moveAll : MethodName := ⟨RX12, "moveAll", "(Z)V"⟩
abbrev cX12_image : ByteArray := prog_14_method_92_code
def yX12_image : MethodName := ⟨RX12, "image", "()I"⟩
abbrev cX12_undo : ByteArray := prog_14_method_93_code
def yX12_undo : MethodName := ⟨RX12, "undo", "()I"⟩
abbrev cX12_tear : ByteArray := prog_14_method_94_code
def yX12_tear : MethodName := ⟨RX12, "tear", "()I"⟩
abbrev cX12_count : ByteArray := prog_14_method_95_code
def yX12_count : MethodName := ⟨RX12, "count", "(I)I"⟩
abbrev cX12_status : ByteArray := prog_14_method_96_code
def yX12_status : MethodName := ⟨RX12, "status", "(I)I"⟩
def RJ6 : String := "java/lang/Integer"
def TJ6 : u_T := fun k => match k with
  | _ => ("", "", "", false)
def tyJ6 : Nat → FieldType := fun k => match k with
  | _ => .int
abbrev wsJ60 : List Cond := u_ws RJ6 TJ6 0
theorem nmJ6 : ∀ a, a < 0 → ∀ b, b < 0 → a ≠ b → (TJ6 a).2.1 ≠ (TJ6 b).2.1 := by decide +kernel
theorem tyJ6_ok : ∀ k, k < 0 → parseFieldDescriptor (TJ6 k).2.2.1 = some (tyJ6 k) := by decide +kernel
abbrev cJ6_bitCount_0f7a4 : ByteArray := prog_15_method_49_code
def yJ6_bitCount_0f7a4 : MethodName := ⟨RJ6, "bitCount", "(I)I"⟩
def RJ13 : String := "java/lang/Long"
def TJ13 : u_T := fun k => match k with
  | _ => ("", "", "", false)
def tyJ13 : Nat → FieldType := fun k => match k with
  | _ => .int
abbrev wsJ130 : List Cond := u_ws RJ13 TJ13 0
theorem nmJ13 : ∀ a, a < 0 → ∀ b, b < 0 → a ≠ b → (TJ13 a).2.1 ≠ (TJ13 b).2.1 := by decide +kernel
theorem tyJ13_ok : ∀ k, k < 0 → parseFieldDescriptor (TJ13 k).2.2.1 = some (tyJ13 k) := by decide +kernel
abbrev cJ13_bitCount_95d88 : ByteArray := prog_16_method_50_code
def yJ13_bitCount_95d88 : MethodName := ⟨RJ13, "bitCount", "(J)I"⟩
def RJ9 : String := "java/lang/Math"
def TJ9 : u_T := fun k => match k with
  | _ => ("", "", "", false)
def tyJ9 : Nat → FieldType := fun k => match k with
  | _ => .int
abbrev wsJ90 : List Cond := u_ws RJ9 TJ9 0
theorem nmJ9 : ∀ a, a < 0 → ∀ b, b < 0 → a ≠ b → (TJ9 a).2.1 ≠ (TJ9 b).2.1 := by decide +kernel
theorem tyJ9_ok : ∀ k, k < 0 → parseFieldDescriptor (TJ9 k).2.2.1 = some (tyJ9 k) := by decide +kernel
abbrev cJ9_abs_0f7a4 : ByteArray := prog_17_method_59_code
def yJ9_abs_0f7a4 : MethodName := ⟨RJ9, "abs", "(I)I"⟩
abbrev cJ9_max_7cf53 : ByteArray := prog_17_method_65_code
def yJ9_max_7cf53 : MethodName := ⟨RJ9, "max", "(II)I"⟩
abbrev cJ9_min_7cf53 : ByteArray := prog_17_method_69_code
def yJ9_min_7cf53 : MethodName := ⟨RJ9, "min", "(II)I"⟩
def RJ10 : String := "java/lang/System"
def TJ10 : u_T := fun k => match k with
  | _ => ("", "", "", false)
def tyJ10 : Nat → FieldType := fun k => match k with
  | _ => .int
abbrev wsJ100 : List Cond := u_ws RJ10 TJ10 0
theorem nmJ10 : ∀ a, a < 0 → ∀ b, b < 0 → a ≠ b → (TJ10 a).2.1 ≠ (TJ10 b).2.1 := by decide +kernel
theorem tyJ10_ok : ∀ k, k < 0 → parseFieldDescriptor (TJ10 k).2.2.1 = some (tyJ10 k) := by decide +kernel
def RL : String := "FieldPitchesLaw"
abbrev cL_law : ByteArray := code
def yL_law : MethodName := ⟨RL, "law", "([I)Z"⟩
theorem gt0 : ∀ w ∈ k2_sels lw_privs, w ∈ lw_tbl := fun w h => List.mem_append_left _ h
theorem gt1 : ∀ w ∈ tables_1_1, w ∈ lw_tbl := fun w h => List.mem_append_right _ (List.mem_append_left _ h)
theorem gt2 : ∀ w ∈ tables_1_2, w ∈ lw_tbl := fun w h => List.mem_append_right _ (List.mem_append_right _ (List.mem_append_left _ h))
theorem gt3 : ∀ w ∈ tables_1_3, w ∈ lw_tbl := fun w h => List.mem_append_right _ (List.mem_append_right _ (List.mem_append_right _ (List.mem_append_left _ h)))
theorem gt4 : ∀ w ∈ tables_1_4, w ∈ lw_tbl := fun w h => List.mem_append_right _ (List.mem_append_right _ (List.mem_append_right _ (List.mem_append_right _ (List.mem_append_left _ h))))
theorem gt5 : ∀ w ∈ tables_1_5, w ∈ lw_tbl := fun w h => List.mem_append_right _ (List.mem_append_right _ (List.mem_append_right _ (List.mem_append_right _ (List.mem_append_right _ (List.mem_append_left _ h)))))
theorem gt6 : ∀ w ∈ tables_1_6, w ∈ lw_tbl := fun w h => List.mem_append_right _ (List.mem_append_right _ (List.mem_append_right _ (List.mem_append_right _ (List.mem_append_right _ (List.mem_append_right _ (List.mem_append_left _ h))))))
theorem gt7 : ∀ w ∈ tables_1_7, w ∈ lw_tbl := fun w h => List.mem_append_right _ (List.mem_append_right _ (List.mem_append_right _ (List.mem_append_right _ (List.mem_append_right _ (List.mem_append_right _ (List.mem_append_right _ (h)))))))
/-! numbers for classes: of the objects (as vwCl has them), and of the owners of code -/
abbrev vwCl : List vw_C := [(RX0, TX0, 2), (RX2, TX2, 4), (RX3, TX3, 14), (RX4, TX4, 10), (RX5, TX5, 14), (RX6, TX6, 7), (RX7, TX7, 3), (RX8, TX8, 11), (RX9, TX9, 11), (RX10, TX10, 7), (RX11, TX11, 9), (RX12, TX12, 46)]
def gT (c : Nat) : u_T := match c with
  | 0 => TX0
  | 1 => TX2
  | 2 => TX3
  | 3 => TX4
  | 4 => TX5
  | 5 => TX6
  | 6 => TX7
  | 7 => TX8
  | 8 => TX9
  | 9 => TX10
  | 10 => TX11
  | _ => TX12
def gty (c : Nat) : Nat → FieldType := match c with
  | 0 => tyX0
  | 1 => tyX2
  | 2 => tyX3
  | 3 => tyX4
  | 4 => tyX5
  | 5 => tyX6
  | 6 => tyX7
  | 7 => tyX8
  | 8 => tyX9
  | 9 => tyX10
  | 10 => tyX11
  | _ => tyX12
def gR (c : Nat) : String := match c with
  | 0 => RX0
  | 1 => RX2
  | 2 => RX3
  | 3 => RX4
  | 4 => RX5
  | 5 => RX6
  | 6 => RX7
  | 7 => RX8
  | 8 => RX9
  | 9 => RX10
  | 10 => RX11
  | _ => RX12
def gN (c : Nat) : Nat := match c with
  | 0 => 2
  | 1 => 4
  | 2 => 14
  | 3 => 10
  | 4 => 14
  | 5 => 7
  | 6 => 3
  | 7 => 11
  | 8 => 11
  | 9 => 7
  | 10 => 9
  | _ => 46
def gown (k : Nat) : String := match k with
  | 0 => RX0
  | 1 => RX1
  | 2 => RX2
  | 3 => RX3
  | 4 => RX4
  | 5 => RX5
  | 6 => RX6
  | 7 => RX7
  | 8 => RX8
  | 9 => RX9
  | 10 => RX10
  | 11 => RX11
  | 12 => RX12
  | 13 => RJ6
  | 14 => RJ13
  | 15 => RJ9
  | 16 => RJ10
  | _ => RL
abbrev gHd : Type := MethodName × ByteArray × Nat × Option FieldType × Nat
def gH0 : List gHd := [(yX0_init, cX0_init, 1, none, 0), (yX0_lowNights, cX0_lowNights, 2, (some .long), 0), (yX0_highNights, cX0_highNights, 2, (some .long), 0), (yX0_below, cX0_below, 1, (some .long), 0), (yX0_empty, cX0_empty, 2, none, 0), (yX0_isFree, cX0_isFree, 6, (some .boolean), 0), (yX0_take, cX0_take, 6, none, 0), (yX0_leave, cX0_leave, 6, none, 0), (yX0_lonelyNights, cX0_lonelyNights, 10, (some .int), 0), (yX1_isUnder, cX1_isUnder, 4, (some .boolean), 1), (yX1_reason, cX1_reason, 3, (some .int), 1), (yX1_reasonOfAll, cX1_reasonOfAll, 2, (some .int), 1), (yX1_reasonOfVans, cX1_reasonOfVans, 3, (some .int), 1), (yX1_price, cX1_price, 3, (some .int), 1), (yX2_init, cX2_init, 1, none, 2), (yX2_begin, cX2_begin, 3, none, 2), (yX2_become, cX2_become, 2, none, 2), (yX2_worth, cX2_worth, 5, (some .int), 2), (yX2_operand, cX2_operand, 3, (some .int), 2), (yX2_joined, cX2_joined, 3, (some .int), 2), (yX3_init, cX3_init, 1, none, 3), (yX3_begin, cX3_begin, 5, none, 3), (yX3_become, cX3_become, 2, none, 3), (yX3_trait, cX3_trait, 2, (some .int), 3), (yX3_lastNight, cX3_lastNight, 1, (some .int), 3), (yX3_stays, cX3_stays, 2, (some .boolean), 3), (yX3_wishesFor, cX3_wishesFor, 2, (some .boolean), 3), (yX4_init, cX4_init, 1, none, 4), (yX4_begin, cX4_begin, 5, none, 4), (yX4_become, cX4_become, 2, none, 4), (yX4_trait, cX4_trait, 2, (some .int), 4), (yX4_offers, cX4_offers, 2, (some .boolean), 4)]
def gH1 : List gHd := [(yX5_init, cX5_init, 3, none, 5), (yX5_make, cX5_make, 3, (some .int), 5), (yX5_gather, cX5_gather, 3, none, 5), (yX5_lookAt, cX5_lookAt, 6, none, 5), (yX5_addWays, cX5_addWays, 5, none, 5), (yX5_wishesBetween, cX5_wishesBetween, 3, (some .int), 5), (yX5_bound, cX5_bound, 3, none, 5), (yX5_canBeat, cX5_canBeat, 7, (some .boolean), 5), (yX5_tryFrom, cX5_tryFrom, 10, none, 5), (yX5_wayOf, cX5_wayOf, 4, (some .int), 5), (yX5_remember, cX5_remember, 5, none, 5), (yX6_init, cX6_init, 2, none, 6), (yX6_work, cX6_work, 6, (some .int), 6), (yX6_goalOf, cX6_goalOf, 3, (some .int), 6), (yX6_gather, cX6_gather, 4, none, 6), (yX6_dryPitches, cX6_dryPitches, 5, (some .int), 6), (yX6_fitting, cX6_fitting, 6, (some .int), 6), (yX6_leastGoal, cX6_leastGoal, 6, (some .int), 6), (yX6_mostFrom, cX6_mostFrom, 5, (some .int), 6), (yX6_finds, cX6_finds, 4, (some .boolean), 6), (yX7_init, cX7_init, 1, none, 7), (yX7_begin, cX7_begin, 4, none, 7), (yX7_isMissing, cX7_isMissing, 1, (some .boolean), 7), (yX7_hasRange, cX7_hasRange, 3, (some .boolean), 7), (yX7_change, cX7_change, 3, none, 7), (yX8_init, cX8_init, 2, none, 8), (yX8_become, cX8_become, 3, none, 8), (yX8_isPitch, cX8_isPitch, 2, (some .boolean), 8), (yX8_isParty, cX8_isParty, 2, (some .boolean), 8), (yX8_isPartyOrNobody, cX8_isPartyOrNobody, 2, (some .boolean), 8), (yX8_isOn, cX8_isOn, 2, (some .boolean), 8), (yX8_hasCome, cX8_hasCome, 2, (some .boolean), 8)]
def gH2 : List gHd := [(yX8_isSettled, cX8_isSettled, 2, (some .boolean), 8), (yX8_isHere, cX8_isHere, 2, (some .boolean), 8), (yX8_isWet, cX8_isWet, 3, (some .boolean), 8), (yX8_partiesHere, cX8_partiesHere, 3, (some .int), 8), (yX8_partiesWaiting, cX8_partiesWaiting, 3, (some .int), 8), (yX8_distance, cX8_distance, 3, (some .int), 8), (yX8_holder, cX8_holder, 4, (some .int), 8), (yX8_mark, cX8_mark, 5, none, 8), (yX8_loadNow, cX8_loadNow, 7, (some .int), 8), (yX8_priceNow, cX8_priceNow, 2, (some .int), 8), (yX8_refundNow, cX8_refundNow, 3, (some .int), 8), (yX8_worthFor, cX8_worthFor, 4, (some .int), 8), (yX8_othersOn, cX8_othersOn, 5, (some .int), 8), (yX9_init, cX9_init, 1, none, 9), (yX9_append, cX9_append, 2, none, 9), (yX9_readText, cX9_readText, 1, (some .boolean), 9), (yX9_cutIntoTokens, cX9_cutIntoTokens, 3, none, 9), (yX9_addToken, cX9_addToken, 4, none, 9), (yX9_cutNumber, cX9_cutNumber, 4, (some .int), 9), (yX9_cutWord, cX9_cutWord, 4, (some .int), 9), (yX9_nameOf, cX9_nameOf, 2, (some .int), 9), (yX9_isDigit, cX9_isDigit, 1, (some .boolean), 9), (yX9_isLetter, cX9_isLetter, 1, (some .boolean), 9), (yX9_isSign, cX9_isSign, 1, (some .boolean), 9), (yX9_isAt, cX9_isAt, 3, (some .boolean), 9), (yX9_passToken, cX9_passToken, 2, (some .int), 9), (yX9_isFault, cX9_isFault, 1, (some .boolean), 9), (yX9_emit, cX9_emit, 2, (some .boolean), 9), (yX9_readCompared, cX9_readCompared, 3, (some .boolean), 9), (yX9_readSum, cX9_readSum, 5, (some .boolean), 9), (yX9_readTerm, cX9_readTerm, 5, (some .boolean), 9), (yX9_readOne, cX9_readOne, 3, (some .boolean), 9)]
def gH3 : List gHd := [(yX9_readClosing, cX9_readClosing, 1, (some .boolean), 9), (yX10_init, cX10_init, 1, none, 10), (yX10_insert, cX10_insert, 4, none, 10), (yX10_become, cX10_become, 2, none, 10), (yX10_serve, cX10_serve, 6, none, 10), (yX10_firstFree, cX10_firstFree, 4, (some .int), 10), (yX11_init, cX11_init, 2, none, 11), (yX11_pitch, cX11_pitch, 7, (some .int), 11), (yX11_pitchOf, cX11_pitchOf, 3, (some .int), 11), (yX11_shade, cX11_shade, 4, (some .int), 11), (yX11_far, cX11_far, 3, (some .int), 11), (yX11_party, cX11_party, 7, (some .int), 11), (yX11_partyOf, cX11_partyOf, 3, (some .int), 11), (yX11_why, cX11_why, 3, (some .int), 11), (yX11_near, cX11_near, 4, (some .int), 11), (yX11_put, cX11_put, 5, (some .int), 11), (yX11_nights, cX11_nights, 2, (some .int), 11), (yX11_who, cX11_who, 3, (some .int), 11), (yX11_gaps, cX11_gaps, 4, (some .int), 11), (yX11_plan, cX11_plan, 5, (some .int), 11), (yX11_apart, cX11_apart, 4, (some .int), 11), (yX11_feed, cX11_feed, 4, (some .int), 11), (yX11_wipe, cX11_wipe, 2, (some .int), 11), (yX11_law, cX11_law, 3, (some .int), 11), (yX11_repeal, cX11_repeal, 3, (some .int), 11), (yX11_says, cX11_says, 3, (some .int), 11), (yX11_pay, cX11_pay, 3, (some .int), 11), (yX11_cancel, cX11_cancel, 4, (some .int), 11), (yX11_review, cX11_review, 5, (some .int), 11), (yX11_stars, cX11_stars, 3, (some .int), 11), (yX11_use, cX11_use, 4, (some .int), 11), (yX11_limit, cX11_limit, 4, (some .int), 11)]
def gH4 : List gHd := [(yX11_load, cX11_load, 3, (some .int), 11), (yX11_trips, cX11_trips, 4, (some .int), 11), (yX11_may, cX11_may, 10, (some .int), 11), (yX11_wet, cX11_wet, 4, (some .int), 11), (yX11_rescue, cX11_rescue, 5, (some .int), 11), (yX11_wash, cX11_wash, 3, (some .int), 11), (yX11_block, cX11_block, 4, (some .int), 11), (yX11_dry, cX11_dry, 2, (some .int), 11), (yX11_join, cX11_join, 3, (some .int), 11), (yX11_hold, cX11_hold, 3, (some .int), 11), (yX11_as, cX11_as, 4, (some .int), 11), (yX11_sheet, cX11_sheet, 5, (some .int), 11), (yX11_write, cX11_write, 4, (some .int), 11), (yX11_copy, cX11_copy, 8, (some .int), 11), (yX11_image, cX11_image, 1, (some .int), 11), (yX11_undo, cX11_undo, 1, (some .int), 11), (yX11_tear, cX11_tear, 2, (some .int), 11), (yX11_count, cX11_count, 2, (some .int), 11), (yX11_status, cX11_status, 4, (some .int), 11), (yX11_finding, cX11_finding, 3, (some .int), 11), (yX11_areStays, cX11_areStays, 4, (some .boolean), 11), (yX11_firstClash, cX11_firstClash, 8, (some .int), 11), (yX11_isIn, cX11_isIn, 3, (some .boolean), 11), (yX11_isStay, cX11_isStay, 2, (some .boolean), 11), (yX12_init, cX12_init, 1, none, 12), (yX12_in, cX12_in, 3, (some .boolean), 12), (yX12_finds, cX12_finds, 2, (some .int), 12), (yX12_isPitch, cX12_isPitch, 2, (some .boolean), 12), (yX12_isParty, cX12_isParty, 2, (some .boolean), 12), (yX12_isNight, cX12_isNight, 1, (some .boolean), 12), (yX12_pitch, cX12_pitch, 7, (some .int), 12), (yX12_pitchOf, cX12_pitchOf, 3, (some .int), 12)]
def gH5 : List gHd := [(yX12_shade, cX12_shade, 4, (some .int), 12), (yX12_size, cX12_size, 1, (some .int), 12), (yX12_farOf, cX12_farOf, 3, (some .int), 12), (yX12_far, cX12_far, 3, (some .int), 12), (yX12_party, cX12_party, 7, (some .int), 12), (yX12_of, cX12_of, 3, (some .int), 12), (yX12_hasCome, cX12_hasCome, 2, (some .boolean), 12), (yX12_partyOf, cX12_partyOf, 3, (some .int), 12), (yX12_lacks, cX12_lacks, 4, (some .boolean), 12), (yX12_whyNot, cX12_whyNot, 5, (some .int), 12), (yX12_why, cX12_why, 3, (some .int), 12), (yX12_near, cX12_near, 4, (some .int), 12), (yX12_staysIn, cX12_staysIn, 3, (some .boolean), 12), (yX12_meet, cX12_meet, 3, (some .boolean), 12), (yX12_isFreeFor, cX12_isFreeFor, 4, (some .boolean), 12), (yX12_put, cX12_put, 4, (some .int), 12), (yX12_nights, cX12_nights, 2, (some .int), 12), (yX12_whoIn, cX12_whoIn, 5, (some .int), 12), (yX12_who, cX12_who, 3, (some .int), 12), (yX12_gapsOf, cX12_gapsOf, 4, (some .int), 12), (yX12_gaps, cX12_gaps, 4, (some .int), 12), (yX12_apartNow, cX12_apartNow, 4, (some .int), 12), (yX12_apart, cX12_apart, 1, (some .int), 12), (yX12_ones, cX12_ones, 3, (some .int), 12), (yX12_gapsNow, cX12_gapsNow, 5, (some .int), 12), (yX12_lays, cX12_lays, 6, (some .int), 12), (yX12_plan, cX12_plan, 11, (some .int), 12), (yX12_feed, cX12_feed, 4, (some .int), 12), (yX12_wipe, cX12_wipe, 2, (some .int), 12), (yX12_byteAt, cX12_byteAt, 2, (some .int), 12), (yX12_isLetter, cX12_isLetter, 1, (some .boolean), 12), (yX12_isDigit, cX12_isDigit, 1, (some .boolean), 12)]
def gH6 : List gHd := [(yX12_isName, cX12_isName, 1, (some .boolean), 12), (yX12_isMark, cX12_isMark, 1, (some .boolean), 12), (yX12_advance, cX12_advance, 2, none, 12), (yX12_emit, cX12_emit, 2, none, 12), (yX12_top, cX12_top, 1, (some .int), 12), (yX12_pend, cX12_pend, 2, none, 12), (yX12_ended, cX12_ended, 1, none, 12), (yX12_settle, cX12_settle, 2, none, 12), (yX12_binds, cX12_binds, 2, (some .int), 12), (yX12_begins, cX12_begins, 1, (some .boolean), 12), (yX12_goesOn, cX12_goesOn, 2, (some .boolean), 12), (yX12_reads, cX12_reads, 3, (some .int), 12), (yX12_law, cX12_law, 4, (some .int), 12), (yX12_repeal, cX12_repeal, 3, (some .int), 12), (yX12_others, cX12_others, 4, (some .int), 12), (yX12_named, cX12_named, 3, (some .int), 12), (yX12_joined, cX12_joined, 3, (some .int), 12), (yX12_worked, cX12_worked, 6, (some .int), 12), (yX12_priceBy, cX12_priceBy, 5, (some .int), 12), (yX12_held, cX12_held, 2, (some .int), 12), (yX12_saysOf, cX12_saysOf, 4, (some .int), 12), (yX12_says, cX12_says, 3, (some .int), 12), (yX12_pay, cX12_pay, 3, (some .int), 12), (yX12_cancel, cX12_cancel, 3, (some .int), 12), (yX12_review, cX12_review, 4, (some .int), 12), (yX12_stars, cX12_stars, 2, (some .int), 12), (yX12_use, cX12_use, 4, (some .int), 12), (yX12_isPost, cX12_isPost, 1, (some .boolean), 12), (yX12_limit, cX12_limit, 4, (some .int), 12), (yX12_isHere, cX12_isHere, 2, (some .boolean), 12), (yX12_postOf, cX12_postOf, 2, (some .int), 12), (yX12_loadOf, cX12_loadOf, 5, (some .int), 12)]
def gH7 : List gHd := [(yX12_load, cX12_load, 3, (some .int), 12), (yX12_trips, cX12_trips, 4, (some .int), 12), (yX12_may, cX12_may, 8, (some .int), 12), (yX12_isWet, cX12_isWet, 3, (some .boolean), 12), (yX12_wet, cX12_wet, 4, (some .int), 12), (yX12_isOpen, cX12_isOpen, 3, (some .boolean), 12), (yX12_rescue, cX12_rescue, 11, (some .int), 12), (yX12_wash, cX12_wash, 3, (some .int), 12), (yX12_block, cX12_block, 11, (some .int), 12), (yX12_dry, cX12_dry, 2, (some .int), 12), (yX12_join, cX12_join, 8, (some .int), 12), (yX12_hold, cX12_hold, 3, (some .int), 12), (yX12_as, cX12_as, 5, (some .int), 12), (yX12_isSheet, cX12_isSheet, 1, (some .boolean), 12), (yX12_sheet, cX12_sheet, 5, (some .int), 12), (yX12_write, cX12_write, 4, (some .int), 12), (yX12_copy, cX12_copy, 7, (some .int), 12), (yX12_move, cX12_move, 5, none, 12), (yX12_moveAll, cX12_moveAll, 2, none, 12), (yX12_image, cX12_image, 1, (some .int), 12), (yX12_undo, cX12_undo, 1, (some .int), 12), (yX12_tear, cX12_tear, 2, (some .int), 12), (yX12_count, cX12_count, 4, (some .int), 12), (yX12_status, cX12_status, 4, (some .int), 12), (yJ6_bitCount_0f7a4, cJ6_bitCount_0f7a4, 1, (some .int), 13), (yJ13_bitCount_95d88, cJ13_bitCount_95d88, 2, (some .int), 14), (yJ9_abs_0f7a4, cJ9_abs_0f7a4, 1, (some .int), 15), (yJ9_max_7cf53, cJ9_max_7cf53, 2, (some .int), 15), (yJ9_min_7cf53, cJ9_min_7cf53, 2, (some .int), 15)]
def gHs : List gHd := gH0 ++ (gH1 ++ (gH2 ++ (gH3 ++ (gH4 ++ (gH5 ++ (gH6 ++ (gH7)))))))
def gH (j : Nat) : gHd := (gHs[j]?).getD (yL_law, cL_law, 4, some .boolean, 17)
def gcw (h : gHd) : Cond := .code h.1 h.2.1 h.2.2.1 h.2.2.2.1
set_option maxRecDepth 100000 in
theorem gcw_0 : ∀ h ∈ gH0, gcw h ∈ lw_tbl := (List.forall_mem_cons.mpr ⟨gt2 _ (List.mem_of_getElem? (i := 32) rfl), (List.forall_mem_cons.mpr ⟨gt3 _ (List.mem_of_getElem? (i := 31) rfl), (List.forall_mem_cons.mpr ⟨gt3 _ (List.mem_of_getElem? (i := 38) rfl), (List.forall_mem_cons.mpr ⟨gt3 _ (List.mem_of_getElem? (i := 34) rfl), (List.forall_mem_cons.mpr ⟨gt3 _ (List.mem_of_getElem? (i := 112) rfl), (List.forall_mem_cons.mpr ⟨gt3 _ (List.mem_of_getElem? (i := 120) rfl), (List.forall_mem_cons.mpr ⟨gt3 _ (List.mem_of_getElem? (i := 116) rfl), (List.forall_mem_cons.mpr ⟨gt3 _ (List.mem_of_getElem? (i := 216) rfl), (List.forall_mem_cons.mpr ⟨gt3 _ (List.mem_of_getElem? (i := 149) rfl), (List.forall_mem_cons.mpr ⟨gt3 _ (List.mem_of_getElem? (i := 75) rfl), (List.forall_mem_cons.mpr ⟨gt3 _ (List.mem_of_getElem? (i := 61) rfl), (List.forall_mem_cons.mpr ⟨gt3 _ (List.mem_of_getElem? (i := 64) rfl), (List.forall_mem_cons.mpr ⟨gt3 _ (List.mem_of_getElem? (i := 80) rfl), (List.forall_mem_cons.mpr ⟨gt4 _ (List.mem_of_getElem? (i := 96) rfl), (List.forall_mem_cons.mpr ⟨gt1 _ (List.mem_of_getElem? (i := 198) rfl), (List.forall_mem_cons.mpr ⟨gt4 _ (List.mem_of_getElem? (i := 77) rfl), (List.forall_mem_cons.mpr ⟨gt5 _ (List.mem_of_getElem? (i := 75) rfl), (List.forall_mem_cons.mpr ⟨gt4 _ (List.mem_of_getElem? (i := 108) rfl), (List.forall_mem_cons.mpr ⟨gt4 _ (List.mem_of_getElem? (i := 111) rfl), (List.forall_mem_cons.mpr ⟨gt4 _ (List.mem_of_getElem? (i := 114) rfl), (List.forall_mem_cons.mpr ⟨gt1 _ (List.mem_of_getElem? (i := 122) rfl), (List.forall_mem_cons.mpr ⟨gt3 _ (List.mem_of_getElem? (i := 28) rfl), (List.forall_mem_cons.mpr ⟨gt5 _ (List.mem_of_getElem? (i := 70) rfl), (List.forall_mem_cons.mpr ⟨gt3 _ (List.mem_of_getElem? (i := 54) rfl), (List.forall_mem_cons.mpr ⟨gt3 _ (List.mem_of_getElem? (i := 141) rfl), (List.forall_mem_cons.mpr ⟨gt3 _ (List.mem_of_getElem? (i := 137) rfl), (List.forall_mem_cons.mpr ⟨gt3 _ (List.mem_of_getElem? (i := 68) rfl), (List.forall_mem_cons.mpr ⟨gt1 _ (List.mem_of_getElem? (i := 74) rfl), (List.forall_mem_cons.mpr ⟨gt2 _ (List.mem_of_getElem? (i := 230) rfl), (List.forall_mem_cons.mpr ⟨gt5 _ (List.mem_of_getElem? (i := 66) rfl), (List.forall_mem_cons.mpr ⟨gt3 _ (List.mem_of_getElem? (i := 2) rfl), (List.forall_mem_cons.mpr ⟨gt3 _ (List.mem_of_getElem? (i := 72) rfl), (fun _ h => absurd h List.not_mem_nil)⟩)⟩)⟩)⟩)⟩)⟩)⟩)⟩)⟩)⟩)⟩)⟩)⟩)⟩)⟩)⟩)⟩)⟩)⟩)⟩)⟩)⟩)⟩)⟩)⟩)⟩)⟩)⟩)⟩)⟩)⟩)⟩)
set_option maxRecDepth 100000 in
theorem gcw_1 : ∀ h ∈ gH1, gcw h ∈ lw_tbl := (List.forall_mem_cons.mpr ⟨gt2 _ (List.mem_of_getElem? (i := 46) rfl), (List.forall_mem_cons.mpr ⟨gt3 _ (List.mem_of_getElem? (i := 169) rfl), (List.forall_mem_cons.mpr ⟨gt3 _ (List.mem_of_getElem? (i := 173) rfl), (List.forall_mem_cons.mpr ⟨gt3 _ (List.mem_of_getElem? (i := 178) rfl), (List.forall_mem_cons.mpr ⟨gt3 _ (List.mem_of_getElem? (i := 185) rfl), (List.forall_mem_cons.mpr ⟨gt3 _ (List.mem_of_getElem? (i := 189) rfl), (List.forall_mem_cons.mpr ⟨gt3 _ (List.mem_of_getElem? (i := 194) rfl), (List.forall_mem_cons.mpr ⟨gt3 _ (List.mem_of_getElem? (i := 202) rfl), (List.forall_mem_cons.mpr ⟨gt3 _ (List.mem_of_getElem? (i := 198) rfl), (List.forall_mem_cons.mpr ⟨gt3 _ (List.mem_of_getElem? (i := 212) rfl), (List.forall_mem_cons.mpr ⟨gt3 _ (List.mem_of_getElem? (i := 206) rfl), (List.forall_mem_cons.mpr ⟨gt2 _ (List.mem_of_getElem? (i := 97) rfl), (List.forall_mem_cons.mpr ⟨gt4 _ (List.mem_of_getElem? (i := 183) rfl), (List.forall_mem_cons.mpr ⟨gt4 _ (List.mem_of_getElem? (i := 214) rfl), (List.forall_mem_cons.mpr ⟨gt4 _ (List.mem_of_getElem? (i := 187) rfl), (List.forall_mem_cons.mpr ⟨gt4 _ (List.mem_of_getElem? (i := 191) rfl), (List.forall_mem_cons.mpr ⟨gt4 _ (List.mem_of_getElem? (i := 197) rfl), (List.forall_mem_cons.mpr ⟨gt4 _ (List.mem_of_getElem? (i := 210) rfl), (List.forall_mem_cons.mpr ⟨gt4 _ (List.mem_of_getElem? (i := 202) rfl), (List.forall_mem_cons.mpr ⟨gt4 _ (List.mem_of_getElem? (i := 206) rfl), (List.forall_mem_cons.mpr ⟨gt2 _ (List.mem_of_getElem? (i := 171) rfl), (List.forall_mem_cons.mpr ⟨gt5 _ (List.mem_of_getElem? (i := 37) rfl), (List.forall_mem_cons.mpr ⟨gt5 _ (List.mem_of_getElem? (i := 7) rfl), (List.forall_mem_cons.mpr ⟨gt5 _ (List.mem_of_getElem? (i := 53) rfl), (List.forall_mem_cons.mpr ⟨gt5 _ (List.mem_of_getElem? (i := 45) rfl), (List.forall_mem_cons.mpr ⟨gt1 _ (List.mem_of_getElem? (i := 30) rfl), (List.forall_mem_cons.mpr ⟨gt5 _ (List.mem_of_getElem? (i := 62) rfl), (List.forall_mem_cons.mpr ⟨gt2 _ (List.mem_of_getElem? (i := 238) rfl), (List.forall_mem_cons.mpr ⟨gt3 _ (List.mem_of_getElem? (i := 46) rfl), (List.forall_mem_cons.mpr ⟨gt3 _ (List.mem_of_getElem? (i := 88) rfl), (List.forall_mem_cons.mpr ⟨gt3 _ (List.mem_of_getElem? (i := 101) rfl), (List.forall_mem_cons.mpr ⟨gt3 _ (List.mem_of_getElem? (i := 50) rfl), (fun _ h => absurd h List.not_mem_nil)⟩)⟩)⟩)⟩)⟩)⟩)⟩)⟩)⟩)⟩)⟩)⟩)⟩)⟩)⟩)⟩)⟩)⟩)⟩)⟩)⟩)⟩)⟩)⟩)⟩)⟩)⟩)⟩)⟩)⟩)⟩)⟩)
set_option maxRecDepth 100000 in
theorem gcw_2 : ∀ h ∈ gH2, gcw h ∈ lw_tbl := (List.forall_mem_cons.mpr ⟨gt3 _ (List.mem_of_getElem? (i := 97) rfl), (List.forall_mem_cons.mpr ⟨gt4 _ (List.mem_of_getElem? (i := 158) rfl), (List.forall_mem_cons.mpr ⟨gt4 _ (List.mem_of_getElem? (i := 175) rfl), (List.forall_mem_cons.mpr ⟨gt5 _ (List.mem_of_getElem? (i := 96) rfl), (List.forall_mem_cons.mpr ⟨gt5 _ (List.mem_of_getElem? (i := 100) rfl), (List.forall_mem_cons.mpr ⟨gt3 _ (List.mem_of_getElem? (i := 14) rfl), (List.forall_mem_cons.mpr ⟨gt3 _ (List.mem_of_getElem? (i := 133) rfl), (List.forall_mem_cons.mpr ⟨gt3 _ (List.mem_of_getElem? (i := 108) rfl), (List.forall_mem_cons.mpr ⟨gt4 _ (List.mem_of_getElem? (i := 154) rfl), (List.forall_mem_cons.mpr ⟨gt4 _ (List.mem_of_getElem? (i := 93) rfl), (List.forall_mem_cons.mpr ⟨gt4 _ (List.mem_of_getElem? (i := 120) rfl), (List.forall_mem_cons.mpr ⟨gt4 _ (List.mem_of_getElem? (i := 100) rfl), (List.forall_mem_cons.mpr ⟨gt4 _ (List.mem_of_getElem? (i := 104) rfl), (List.forall_mem_cons.mpr ⟨gt2 _ (List.mem_of_getElem? (i := 125) rfl), (List.forall_mem_cons.mpr ⟨gt3 _ (List.mem_of_getElem? (i := 229) rfl), (List.forall_mem_cons.mpr ⟨gt4 _ (List.mem_of_getElem? (i := 1) rfl), (List.forall_mem_cons.mpr ⟨gt4 _ (List.mem_of_getElem? (i := 5) rfl), (List.forall_mem_cons.mpr ⟨gt4 _ (List.mem_of_getElem? (i := 19) rfl), (List.forall_mem_cons.mpr ⟨gt4 _ (List.mem_of_getElem? (i := 12) rfl), (List.forall_mem_cons.mpr ⟨gt4 _ (List.mem_of_getElem? (i := 26) rfl), (List.forall_mem_cons.mpr ⟨gt4 _ (List.mem_of_getElem? (i := 29) rfl), (List.forall_mem_cons.mpr ⟨gt4 _ (List.mem_of_getElem? (i := 8) rfl), (List.forall_mem_cons.mpr ⟨gt4 _ (List.mem_of_getElem? (i := 22) rfl), (List.forall_mem_cons.mpr ⟨gt4 _ (List.mem_of_getElem? (i := 34) rfl), (List.forall_mem_cons.mpr ⟨gt4 _ (List.mem_of_getElem? (i := 57) rfl), (List.forall_mem_cons.mpr ⟨gt4 _ (List.mem_of_getElem? (i := 61) rfl), (List.forall_mem_cons.mpr ⟨gt4 _ (List.mem_of_getElem? (i := 69) rfl), (List.forall_mem_cons.mpr ⟨gt4 _ (List.mem_of_getElem? (i := 65) rfl), (List.forall_mem_cons.mpr ⟨gt4 _ (List.mem_of_getElem? (i := 41) rfl), (List.forall_mem_cons.mpr ⟨gt4 _ (List.mem_of_getElem? (i := 45) rfl), (List.forall_mem_cons.mpr ⟨gt4 _ (List.mem_of_getElem? (i := 49) rfl), (List.forall_mem_cons.mpr ⟨gt4 _ (List.mem_of_getElem? (i := 53) rfl), (fun _ h => absurd h List.not_mem_nil)⟩)⟩)⟩)⟩)⟩)⟩)⟩)⟩)⟩)⟩)⟩)⟩)⟩)⟩)⟩)⟩)⟩)⟩)⟩)⟩)⟩)⟩)⟩)⟩)⟩)⟩)⟩)⟩)⟩)⟩)⟩)⟩)
set_option maxRecDepth 100000 in
theorem gcw_3 : ∀ h ∈ gH3, gcw h ∈ lw_tbl := (List.forall_mem_cons.mpr ⟨gt4 _ (List.mem_of_getElem? (i := 73) rfl), (List.forall_mem_cons.mpr ⟨gt1 _ (List.mem_of_getElem? (i := 42) rfl), (List.forall_mem_cons.mpr ⟨gt4 _ (List.mem_of_getElem? (i := 222) rfl), (List.forall_mem_cons.mpr ⟨gt5 _ (List.mem_of_getElem? (i := 79) rfl), (List.forall_mem_cons.mpr ⟨gt4 _ (List.mem_of_getElem? (i := 230) rfl), (List.forall_mem_cons.mpr ⟨gt4 _ (List.mem_of_getElem? (i := 234) rfl), (List.forall_mem_cons.mpr ⟨gt1 _ (List.mem_of_getElem? (i := 22) rfl), (List.forall_mem_cons.mpr ⟨gt2 _ (List.mem_of_getElem? (i := 217) rfl), (List.forall_mem_cons.mpr ⟨gt2 _ (List.mem_of_getElem? (i := 234) rfl), (List.forall_mem_cons.mpr ⟨gt3 _ (List.mem_of_getElem? (i := 6) rfl), (List.forall_mem_cons.mpr ⟨gt3 _ (List.mem_of_getElem? (i := 10) rfl), (List.forall_mem_cons.mpr ⟨gt3 _ (List.mem_of_getElem? (i := 21) rfl), (List.forall_mem_cons.mpr ⟨gt3 _ (List.mem_of_getElem? (i := 42) rfl), (List.forall_mem_cons.mpr ⟨gt3 _ (List.mem_of_getElem? (i := 58) rfl), (List.forall_mem_cons.mpr ⟨gt3 _ (List.mem_of_getElem? (i := 84) rfl), (List.forall_mem_cons.mpr ⟨gt3 _ (List.mem_of_getElem? (i := 93) rfl), (List.forall_mem_cons.mpr ⟨gt3 _ (List.mem_of_getElem? (i := 125) rfl), (List.forall_mem_cons.mpr ⟨gt3 _ (List.mem_of_getElem? (i := 129) rfl), (List.forall_mem_cons.mpr ⟨gt3 _ (List.mem_of_getElem? (i := 145) rfl), (List.forall_mem_cons.mpr ⟨gt3 _ (List.mem_of_getElem? (i := 159) rfl), (List.forall_mem_cons.mpr ⟨gt3 _ (List.mem_of_getElem? (i := 220) rfl), (List.forall_mem_cons.mpr ⟨gt3 _ (List.mem_of_getElem? (i := 225) rfl), (List.forall_mem_cons.mpr ⟨gt3 _ (List.mem_of_getElem? (i := 233) rfl), (List.forall_mem_cons.mpr ⟨gt3 _ (List.mem_of_getElem? (i := 237) rfl), (List.forall_mem_cons.mpr ⟨gt4 _ (List.mem_of_getElem? (i := 85) rfl), (List.forall_mem_cons.mpr ⟨gt4 _ (List.mem_of_getElem? (i := 89) rfl), (List.forall_mem_cons.mpr ⟨gt4 _ (List.mem_of_getElem? (i := 124) rfl), (List.forall_mem_cons.mpr ⟨gt4 _ (List.mem_of_getElem? (i := 128) rfl), (List.forall_mem_cons.mpr ⟨gt4 _ (List.mem_of_getElem? (i := 132) rfl), (List.forall_mem_cons.mpr ⟨gt4 _ (List.mem_of_getElem? (i := 137) rfl), (List.forall_mem_cons.mpr ⟨gt4 _ (List.mem_of_getElem? (i := 141) rfl), (List.forall_mem_cons.mpr ⟨gt4 _ (List.mem_of_getElem? (i := 146) rfl), (fun _ h => absurd h List.not_mem_nil)⟩)⟩)⟩)⟩)⟩)⟩)⟩)⟩)⟩)⟩)⟩)⟩)⟩)⟩)⟩)⟩)⟩)⟩)⟩)⟩)⟩)⟩)⟩)⟩)⟩)⟩)⟩)⟩)⟩)⟩)⟩)⟩)
set_option maxRecDepth 100000 in
theorem gcw_4 : ∀ h ∈ gH4, gcw h ∈ lw_tbl := (List.forall_mem_cons.mpr ⟨gt4 _ (List.mem_of_getElem? (i := 150) rfl), (List.forall_mem_cons.mpr ⟨gt4 _ (List.mem_of_getElem? (i := 162) rfl), (List.forall_mem_cons.mpr ⟨gt4 _ (List.mem_of_getElem? (i := 166) rfl), (List.forall_mem_cons.mpr ⟨gt4 _ (List.mem_of_getElem? (i := 171) rfl), (List.forall_mem_cons.mpr ⟨gt4 _ (List.mem_of_getElem? (i := 179) rfl), (List.forall_mem_cons.mpr ⟨gt4 _ (List.mem_of_getElem? (i := 218) rfl), (List.forall_mem_cons.mpr ⟨gt4 _ (List.mem_of_getElem? (i := 226) rfl), (List.forall_mem_cons.mpr ⟨gt4 _ (List.mem_of_getElem? (i := 239) rfl), (List.forall_mem_cons.mpr ⟨gt5 _ (List.mem_of_getElem? (i := 3) rfl), (List.forall_mem_cons.mpr ⟨gt5 _ (List.mem_of_getElem? (i := 24) rfl), (List.forall_mem_cons.mpr ⟨gt5 _ (List.mem_of_getElem? (i := 28) rfl), (List.forall_mem_cons.mpr ⟨gt5 _ (List.mem_of_getElem? (i := 33) rfl), (List.forall_mem_cons.mpr ⟨gt5 _ (List.mem_of_getElem? (i := 41) rfl), (List.forall_mem_cons.mpr ⟨gt5 _ (List.mem_of_getElem? (i := 49) rfl), (List.forall_mem_cons.mpr ⟨gt5 _ (List.mem_of_getElem? (i := 58) rfl), (List.forall_mem_cons.mpr ⟨gt5 _ (List.mem_of_getElem? (i := 84) rfl), (List.forall_mem_cons.mpr ⟨gt5 _ (List.mem_of_getElem? (i := 88) rfl), (List.forall_mem_cons.mpr ⟨gt5 _ (List.mem_of_getElem? (i := 92) rfl), (List.forall_mem_cons.mpr ⟨gt5 _ (List.mem_of_getElem? (i := 104) rfl), (List.forall_mem_cons.mpr ⟨gt2 _ (List.mem_of_getElem? (i := 225) rfl), (List.forall_mem_cons.mpr ⟨gt5 _ (List.mem_of_getElem? (i := 13) rfl), (List.forall_mem_cons.mpr ⟨gt5 _ (List.mem_of_getElem? (i := 17) rfl), (List.forall_mem_cons.mpr ⟨gt2 _ (List.mem_of_getElem? (i := 220) rfl), (List.forall_mem_cons.mpr ⟨gt3 _ (List.mem_of_getElem? (i := 24) rfl), (List.forall_mem_cons.mpr ⟨gt5 _ (List.mem_of_getElem? (i := 109) rfl), (List.forall_mem_cons.mpr ⟨gt6 _ (List.mem_of_getElem? (i := 18) rfl), (List.forall_mem_cons.mpr ⟨gt6 _ (List.mem_of_getElem? (i := 22) rfl), (List.forall_mem_cons.mpr ⟨gt6 _ (List.mem_of_getElem? (i := 31) rfl), (List.forall_mem_cons.mpr ⟨gt6 _ (List.mem_of_getElem? (i := 58) rfl), (List.forall_mem_cons.mpr ⟨gt6 _ (List.mem_of_getElem? (i := 105) rfl), (List.forall_mem_cons.mpr ⟨gt6 _ (List.mem_of_getElem? (i := 15) rfl), (List.forall_mem_cons.mpr ⟨gt6 _ (List.mem_of_getElem? (i := 27) rfl), (fun _ h => absurd h List.not_mem_nil)⟩)⟩)⟩)⟩)⟩)⟩)⟩)⟩)⟩)⟩)⟩)⟩)⟩)⟩)⟩)⟩)⟩)⟩)⟩)⟩)⟩)⟩)⟩)⟩)⟩)⟩)⟩)⟩)⟩)⟩)⟩)⟩)
set_option maxRecDepth 100000 in
theorem gcw_5 : ∀ h ∈ gH5, gcw h ∈ lw_tbl := (List.forall_mem_cons.mpr ⟨gt6 _ (List.mem_of_getElem? (i := 35) rfl), (List.forall_mem_cons.mpr ⟨gt6 _ (List.mem_of_getElem? (i := 46) rfl), (List.forall_mem_cons.mpr ⟨gt6 _ (List.mem_of_getElem? (i := 43) rfl), (List.forall_mem_cons.mpr ⟨gt6 _ (List.mem_of_getElem? (i := 39) rfl), (List.forall_mem_cons.mpr ⟨gt6 _ (List.mem_of_getElem? (i := 50) rfl), (List.forall_mem_cons.mpr ⟨gt6 _ (List.mem_of_getElem? (i := 66) rfl), (List.forall_mem_cons.mpr ⟨gt6 _ (List.mem_of_getElem? (i := 62) rfl), (List.forall_mem_cons.mpr ⟨gt6 _ (List.mem_of_getElem? (i := 54) rfl), (List.forall_mem_cons.mpr ⟨gt6 _ (List.mem_of_getElem? (i := 78) rfl), (List.forall_mem_cons.mpr ⟨gt6 _ (List.mem_of_getElem? (i := 74) rfl), (List.forall_mem_cons.mpr ⟨gt6 _ (List.mem_of_getElem? (i := 70) rfl), (List.forall_mem_cons.mpr ⟨gt6 _ (List.mem_of_getElem? (i := 82) rfl), (List.forall_mem_cons.mpr ⟨gt6 _ (List.mem_of_getElem? (i := 113) rfl), (List.forall_mem_cons.mpr ⟨gt6 _ (List.mem_of_getElem? (i := 94) rfl), (List.forall_mem_cons.mpr ⟨gt6 _ (List.mem_of_getElem? (i := 90) rfl), (List.forall_mem_cons.mpr ⟨gt6 _ (List.mem_of_getElem? (i := 86) rfl), (List.forall_mem_cons.mpr ⟨gt6 _ (List.mem_of_getElem? (i := 98) rfl), (List.forall_mem_cons.mpr ⟨gt6 _ (List.mem_of_getElem? (i := 109) rfl), (List.forall_mem_cons.mpr ⟨gt6 _ (List.mem_of_getElem? (i := 102) rfl), (List.forall_mem_cons.mpr ⟨gt6 _ (List.mem_of_getElem? (i := 121) rfl), (List.forall_mem_cons.mpr ⟨gt6 _ (List.mem_of_getElem? (i := 117) rfl), (List.forall_mem_cons.mpr ⟨gt6 _ (List.mem_of_getElem? (i := 129) rfl), (List.forall_mem_cons.mpr ⟨gt6 _ (List.mem_of_getElem? (i := 125) rfl), (List.forall_mem_cons.mpr ⟨gt6 _ (List.mem_of_getElem? (i := 136) rfl), (List.forall_mem_cons.mpr ⟨gt6 _ (List.mem_of_getElem? (i := 144) rfl), (List.forall_mem_cons.mpr ⟨gt6 _ (List.mem_of_getElem? (i := 140) rfl), (List.forall_mem_cons.mpr ⟨gt6 _ (List.mem_of_getElem? (i := 133) rfl), (List.forall_mem_cons.mpr ⟨gt6 _ (List.mem_of_getElem? (i := 148) rfl), (List.forall_mem_cons.mpr ⟨gt6 _ (List.mem_of_getElem? (i := 152) rfl), (List.forall_mem_cons.mpr ⟨gt6 _ (List.mem_of_getElem? (i := 168) rfl), (List.forall_mem_cons.mpr ⟨gt6 _ (List.mem_of_getElem? (i := 171) rfl), (List.forall_mem_cons.mpr ⟨gt6 _ (List.mem_of_getElem? (i := 177) rfl), (fun _ h => absurd h List.not_mem_nil)⟩)⟩)⟩)⟩)⟩)⟩)⟩)⟩)⟩)⟩)⟩)⟩)⟩)⟩)⟩)⟩)⟩)⟩)⟩)⟩)⟩)⟩)⟩)⟩)⟩)⟩)⟩)⟩)⟩)⟩)⟩)⟩)
set_option maxRecDepth 100000 in
theorem gcw_6 : ∀ h ∈ gH6, gcw h ∈ lw_tbl := (List.forall_mem_cons.mpr ⟨gt6 _ (List.mem_of_getElem? (i := 174) rfl), (List.forall_mem_cons.mpr ⟨gt6 _ (List.mem_of_getElem? (i := 180) rfl), (List.forall_mem_cons.mpr ⟨gt6 _ (List.mem_of_getElem? (i := 164) rfl), (List.forall_mem_cons.mpr ⟨gt6 _ (List.mem_of_getElem? (i := 188) rfl), (List.forall_mem_cons.mpr ⟨gt6 _ (List.mem_of_getElem? (i := 196) rfl), (List.forall_mem_cons.mpr ⟨gt6 _ (List.mem_of_getElem? (i := 200) rfl), (List.forall_mem_cons.mpr ⟨gt6 _ (List.mem_of_getElem? (i := 192) rfl), (List.forall_mem_cons.mpr ⟨gt6 _ (List.mem_of_getElem? (i := 208) rfl), (List.forall_mem_cons.mpr ⟨gt6 _ (List.mem_of_getElem? (i := 211) rfl), (List.forall_mem_cons.mpr ⟨gt6 _ (List.mem_of_getElem? (i := 184) rfl), (List.forall_mem_cons.mpr ⟨gt6 _ (List.mem_of_getElem? (i := 204) rfl), (List.forall_mem_cons.mpr ⟨gt6 _ (List.mem_of_getElem? (i := 160) rfl), (List.forall_mem_cons.mpr ⟨gt6 _ (List.mem_of_getElem? (i := 156) rfl), (List.forall_mem_cons.mpr ⟨gt6 _ (List.mem_of_getElem? (i := 215) rfl), (List.forall_mem_cons.mpr ⟨gt6 _ (List.mem_of_getElem? (i := 238) rfl), (List.forall_mem_cons.mpr ⟨gt6 _ (List.mem_of_getElem? (i := 234) rfl), (List.forall_mem_cons.mpr ⟨gt6 _ (List.mem_of_getElem? (i := 230) rfl), (List.forall_mem_cons.mpr ⟨gt6 _ (List.mem_of_getElem? (i := 227) rfl), (List.forall_mem_cons.mpr ⟨gt7 _ (List.mem_of_getElem? (i := 5) rfl), (List.forall_mem_cons.mpr ⟨gt7 _ (List.mem_of_getElem? (i := 1) rfl), (List.forall_mem_cons.mpr ⟨gt6 _ (List.mem_of_getElem? (i := 223) rfl), (List.forall_mem_cons.mpr ⟨gt6 _ (List.mem_of_getElem? (i := 219) rfl), (List.forall_mem_cons.mpr ⟨gt7 _ (List.mem_of_getElem? (i := 9) rfl), (List.forall_mem_cons.mpr ⟨gt7 _ (List.mem_of_getElem? (i := 13) rfl), (List.forall_mem_cons.mpr ⟨gt7 _ (List.mem_of_getElem? (i := 17) rfl), (List.forall_mem_cons.mpr ⟨gt7 _ (List.mem_of_getElem? (i := 21) rfl), (List.forall_mem_cons.mpr ⟨gt7 _ (List.mem_of_getElem? (i := 25) rfl), (List.forall_mem_cons.mpr ⟨gt7 _ (List.mem_of_getElem? (i := 33) rfl), (List.forall_mem_cons.mpr ⟨gt7 _ (List.mem_of_getElem? (i := 30) rfl), (List.forall_mem_cons.mpr ⟨gt7 _ (List.mem_of_getElem? (i := 45) rfl), (List.forall_mem_cons.mpr ⟨gt7 _ (List.mem_of_getElem? (i := 49) rfl), (List.forall_mem_cons.mpr ⟨gt7 _ (List.mem_of_getElem? (i := 41) rfl), (fun _ h => absurd h List.not_mem_nil)⟩)⟩)⟩)⟩)⟩)⟩)⟩)⟩)⟩)⟩)⟩)⟩)⟩)⟩)⟩)⟩)⟩)⟩)⟩)⟩)⟩)⟩)⟩)⟩)⟩)⟩)⟩)⟩)⟩)⟩)⟩)⟩)
set_option maxRecDepth 100000 in
theorem gcw_7 : ∀ h ∈ gH7, gcw h ∈ lw_tbl := (List.forall_mem_cons.mpr ⟨gt7 _ (List.mem_of_getElem? (i := 37) rfl), (List.forall_mem_cons.mpr ⟨gt7 _ (List.mem_of_getElem? (i := 53) rfl), (List.forall_mem_cons.mpr ⟨gt7 _ (List.mem_of_getElem? (i := 57) rfl), (List.forall_mem_cons.mpr ⟨gt7 _ (List.mem_of_getElem? (i := 65) rfl), (List.forall_mem_cons.mpr ⟨gt7 _ (List.mem_of_getElem? (i := 61) rfl), (List.forall_mem_cons.mpr ⟨gt7 _ (List.mem_of_getElem? (i := 73) rfl), (List.forall_mem_cons.mpr ⟨gt7 _ (List.mem_of_getElem? (i := 69) rfl), (List.forall_mem_cons.mpr ⟨gt7 _ (List.mem_of_getElem? (i := 77) rfl), (List.forall_mem_cons.mpr ⟨gt7 _ (List.mem_of_getElem? (i := 81) rfl), (List.forall_mem_cons.mpr ⟨gt7 _ (List.mem_of_getElem? (i := 85) rfl), (List.forall_mem_cons.mpr ⟨gt7 _ (List.mem_of_getElem? (i := 89) rfl), (List.forall_mem_cons.mpr ⟨gt7 _ (List.mem_of_getElem? (i := 96) rfl), (List.forall_mem_cons.mpr ⟨gt7 _ (List.mem_of_getElem? (i := 100) rfl), (List.forall_mem_cons.mpr ⟨gt7 _ (List.mem_of_getElem? (i := 92) rfl), (List.forall_mem_cons.mpr ⟨gt7 _ (List.mem_of_getElem? (i := 104) rfl), (List.forall_mem_cons.mpr ⟨gt7 _ (List.mem_of_getElem? (i := 108) rfl), (List.forall_mem_cons.mpr ⟨gt7 _ (List.mem_of_getElem? (i := 112) rfl), (List.forall_mem_cons.mpr ⟨gt7 _ (List.mem_of_getElem? (i := 124) rfl), (List.forall_mem_cons.mpr ⟨gt7 _ (List.mem_of_getElem? (i := 120) rfl), (List.forall_mem_cons.mpr ⟨gt7 _ (List.mem_of_getElem? (i := 116) rfl), (List.forall_mem_cons.mpr ⟨gt7 _ (List.mem_of_getElem? (i := 128) rfl), (List.forall_mem_cons.mpr ⟨gt7 _ (List.mem_of_getElem? (i := 132) rfl), (List.forall_mem_cons.mpr ⟨gt7 _ (List.mem_of_getElem? (i := 136) rfl), (List.forall_mem_cons.mpr ⟨gt7 _ (List.mem_of_getElem? (i := 140) rfl), (List.forall_mem_cons.mpr ⟨gt3 _ (List.mem_of_getElem? (i := 162) rfl), (List.forall_mem_cons.mpr ⟨gt3 _ (List.mem_of_getElem? (i := 152) rfl), (List.forall_mem_cons.mpr ⟨gt3 _ (List.mem_of_getElem? (i := 17) rfl), (List.forall_mem_cons.mpr ⟨gt4 _ (List.mem_of_getElem? (i := 37) rfl), (List.forall_mem_cons.mpr ⟨gt4 _ (List.mem_of_getElem? (i := 15) rfl), (fun _ h => absurd h List.not_mem_nil)⟩)⟩)⟩)⟩)⟩)⟩)⟩)⟩)⟩)⟩)⟩)⟩)⟩)⟩)⟩)⟩)⟩)⟩)⟩)⟩)⟩)⟩)⟩)⟩)⟩)⟩)⟩)⟩)⟩)
theorem gcw_in : ∀ h ∈ gHs, gcw h ∈ lw_tbl := by
  intro h hh
  simp only [gHs, List.mem_append] at hh
  rcases hh with hh | hh | hh | hh | hh | hh | hh | hh
  · exact gcw_0 h hh
  · exact gcw_1 h hh
  · exact gcw_2 h hh
  · exact gcw_3 h hh
  · exact gcw_4 h hh
  · exact gcw_5 h hh
  · exact gcw_6 h hh
  · exact gcw_7 h hh
def gFL_0 : List (Nat × Nat × Nat × Nat) := [(10, 21, 9, 0), (11, 276, 9, 0), (10, 31, 9, 1), (11, 286, 9, 1), (10, 34, 9, 2), (11, 289, 9, 2), (10, 37, 9, 3), (11, 292, 9, 3), (10, 9, 9, 4), (10, 15, 9, 5), (10, 18, 9, 6), (4, 7, 3, 0), (8, 106, 3, 0), (4, 13, 3, 1), (8, 115, 3, 1), (4, 16, 3, 2), (1, 40, 3, 2), (4, 19, 3, 3), (6, 67, 3, 3), (8, 103, 3, 3), (4, 22, 3, 4), (1, 32, 3, 4), (11, 97, 3, 4), (4, 25, 3, 5)]
set_option maxRecDepth 100000 in
theorem gFL_0_ok : ∀ q ∈ gFL_0, Cond.fieldLink (gown q.1) q.2.1 (gT q.2.2.1 q.2.2.2).1 (gT q.2.2.1 q.2.2.2).2.1 (gT q.2.2.1 q.2.2.2).2.2.1 ∈ lw_tbl := (List.forall_mem_cons.mpr ⟨gt1 _ (List.mem_of_getElem? (i := 44) rfl), (List.forall_mem_cons.mpr ⟨gt1 _ (List.mem_of_getElem? (i := 45) rfl), (List.forall_mem_cons.mpr ⟨gt1 _ (List.mem_of_getElem? (i := 46) rfl), (List.forall_mem_cons.mpr ⟨gt1 _ (List.mem_of_getElem? (i := 47) rfl), (List.forall_mem_cons.mpr ⟨gt1 _ (List.mem_of_getElem? (i := 48) rfl), (List.forall_mem_cons.mpr ⟨gt1 _ (List.mem_of_getElem? (i := 49) rfl), (List.forall_mem_cons.mpr ⟨gt1 _ (List.mem_of_getElem? (i := 50) rfl), (List.forall_mem_cons.mpr ⟨gt1 _ (List.mem_of_getElem? (i := 51) rfl), (List.forall_mem_cons.mpr ⟨gt1 _ (List.mem_of_getElem? (i := 52) rfl), (List.forall_mem_cons.mpr ⟨gt1 _ (List.mem_of_getElem? (i := 53) rfl), (List.forall_mem_cons.mpr ⟨gt1 _ (List.mem_of_getElem? (i := 54) rfl), (List.forall_mem_cons.mpr ⟨gt1 _ (List.mem_of_getElem? (i := 76) rfl), (List.forall_mem_cons.mpr ⟨gt1 _ (List.mem_of_getElem? (i := 77) rfl), (List.forall_mem_cons.mpr ⟨gt1 _ (List.mem_of_getElem? (i := 78) rfl), (List.forall_mem_cons.mpr ⟨gt1 _ (List.mem_of_getElem? (i := 79) rfl), (List.forall_mem_cons.mpr ⟨gt1 _ (List.mem_of_getElem? (i := 80) rfl), (List.forall_mem_cons.mpr ⟨gt1 _ (List.mem_of_getElem? (i := 81) rfl), (List.forall_mem_cons.mpr ⟨gt1 _ (List.mem_of_getElem? (i := 82) rfl), (List.forall_mem_cons.mpr ⟨gt1 _ (List.mem_of_getElem? (i := 83) rfl), (List.forall_mem_cons.mpr ⟨gt1 _ (List.mem_of_getElem? (i := 84) rfl), (List.forall_mem_cons.mpr ⟨gt1 _ (List.mem_of_getElem? (i := 85) rfl), (List.forall_mem_cons.mpr ⟨gt1 _ (List.mem_of_getElem? (i := 86) rfl), (List.forall_mem_cons.mpr ⟨gt1 _ (List.mem_of_getElem? (i := 87) rfl), (List.forall_mem_cons.mpr ⟨gt1 _ (List.mem_of_getElem? (i := 88) rfl), (fun _ h => absurd h List.not_mem_nil)⟩)⟩)⟩)⟩)⟩)⟩)⟩)⟩)⟩)⟩)⟩)⟩)⟩)⟩)⟩)⟩)⟩)⟩)⟩)⟩)⟩)⟩)⟩)⟩)
def gFL_1 : List (Nat × Nat × Nat × Nat) := [(1, 51, 3, 5), (4, 28, 3, 6), (4, 31, 3, 7), (8, 137, 3, 7), (11, 260, 3, 7), (4, 34, 3, 8), (11, 238, 3, 8), (4, 37, 3, 9), (11, 241, 3, 9), (3, 9, 2, 0), (1, 19, 2, 0), (8, 173, 2, 0), (11, 312, 2, 0), (3, 15, 2, 1), (1, 37, 2, 1), (8, 164, 2, 1), (3, 18, 2, 2), (1, 48, 2, 2), (8, 167, 2, 2), (3, 21, 2, 3), (3, 24, 2, 4), (8, 88, 2, 4), (3, 27, 2, 5), (5, 129, 2, 5)]
set_option maxRecDepth 100000 in
theorem gFL_1_ok : ∀ q ∈ gFL_1, Cond.fieldLink (gown q.1) q.2.1 (gT q.2.2.1 q.2.2.2).1 (gT q.2.2.1 q.2.2.2).2.1 (gT q.2.2.1 q.2.2.2).2.2.1 ∈ lw_tbl := (List.forall_mem_cons.mpr ⟨gt1 _ (List.mem_of_getElem? (i := 89) rfl), (List.forall_mem_cons.mpr ⟨gt1 _ (List.mem_of_getElem? (i := 90) rfl), (List.forall_mem_cons.mpr ⟨gt1 _ (List.mem_of_getElem? (i := 91) rfl), (List.forall_mem_cons.mpr ⟨gt1 _ (List.mem_of_getElem? (i := 92) rfl), (List.forall_mem_cons.mpr ⟨gt1 _ (List.mem_of_getElem? (i := 93) rfl), (List.forall_mem_cons.mpr ⟨gt1 _ (List.mem_of_getElem? (i := 94) rfl), (List.forall_mem_cons.mpr ⟨gt1 _ (List.mem_of_getElem? (i := 95) rfl), (List.forall_mem_cons.mpr ⟨gt1 _ (List.mem_of_getElem? (i := 96) rfl), (List.forall_mem_cons.mpr ⟨gt1 _ (List.mem_of_getElem? (i := 97) rfl), (List.forall_mem_cons.mpr ⟨gt1 _ (List.mem_of_getElem? (i := 124) rfl), (List.forall_mem_cons.mpr ⟨gt1 _ (List.mem_of_getElem? (i := 125) rfl), (List.forall_mem_cons.mpr ⟨gt1 _ (List.mem_of_getElem? (i := 126) rfl), (List.forall_mem_cons.mpr ⟨gt1 _ (List.mem_of_getElem? (i := 127) rfl), (List.forall_mem_cons.mpr ⟨gt1 _ (List.mem_of_getElem? (i := 128) rfl), (List.forall_mem_cons.mpr ⟨gt1 _ (List.mem_of_getElem? (i := 129) rfl), (List.forall_mem_cons.mpr ⟨gt1 _ (List.mem_of_getElem? (i := 130) rfl), (List.forall_mem_cons.mpr ⟨gt1 _ (List.mem_of_getElem? (i := 131) rfl), (List.forall_mem_cons.mpr ⟨gt1 _ (List.mem_of_getElem? (i := 132) rfl), (List.forall_mem_cons.mpr ⟨gt1 _ (List.mem_of_getElem? (i := 133) rfl), (List.forall_mem_cons.mpr ⟨gt1 _ (List.mem_of_getElem? (i := 134) rfl), (List.forall_mem_cons.mpr ⟨gt1 _ (List.mem_of_getElem? (i := 135) rfl), (List.forall_mem_cons.mpr ⟨gt1 _ (List.mem_of_getElem? (i := 136) rfl), (List.forall_mem_cons.mpr ⟨gt1 _ (List.mem_of_getElem? (i := 137) rfl), (List.forall_mem_cons.mpr ⟨gt1 _ (List.mem_of_getElem? (i := 138) rfl), (fun _ h => absurd h List.not_mem_nil)⟩)⟩)⟩)⟩)⟩)⟩)⟩)⟩)⟩)⟩)⟩)⟩)⟩)⟩)⟩)⟩)⟩)⟩)⟩)⟩)⟩)⟩)⟩)⟩)
def gFL_2 : List (Nat × Nat × Nat × Nat) := [(8, 170, 2, 5), (11, 225, 2, 5), (3, 36, 2, 6), (5, 99, 2, 6), (11, 152, 2, 6), (8, 123, 2, 6), (3, 42, 2, 7), (5, 103, 2, 7), (11, 156, 2, 7), (8, 127, 2, 7), (3, 44, 2, 8), (5, 78, 2, 8), (8, 85, 2, 8), (11, 140, 2, 8), (3, 47, 2, 9), (5, 126, 2, 9), (11, 137, 2, 9), (3, 50, 2, 10), (11, 222, 2, 10), (3, 53, 2, 11), (8, 134, 2, 11), (11, 245, 2, 11), (3, 56, 2, 12), (8, 140, 2, 12)]
set_option maxRecDepth 100000 in
theorem gFL_2_ok : ∀ q ∈ gFL_2, Cond.fieldLink (gown q.1) q.2.1 (gT q.2.2.1 q.2.2.2).1 (gT q.2.2.1 q.2.2.2).2.1 (gT q.2.2.1 q.2.2.2).2.2.1 ∈ lw_tbl := (List.forall_mem_cons.mpr ⟨gt1 _ (List.mem_of_getElem? (i := 139) rfl), (List.forall_mem_cons.mpr ⟨gt1 _ (List.mem_of_getElem? (i := 140) rfl), (List.forall_mem_cons.mpr ⟨gt1 _ (List.mem_of_getElem? (i := 141) rfl), (List.forall_mem_cons.mpr ⟨gt1 _ (List.mem_of_getElem? (i := 142) rfl), (List.forall_mem_cons.mpr ⟨gt1 _ (List.mem_of_getElem? (i := 143) rfl), (List.forall_mem_cons.mpr ⟨gt1 _ (List.mem_of_getElem? (i := 144) rfl), (List.forall_mem_cons.mpr ⟨gt1 _ (List.mem_of_getElem? (i := 145) rfl), (List.forall_mem_cons.mpr ⟨gt1 _ (List.mem_of_getElem? (i := 146) rfl), (List.forall_mem_cons.mpr ⟨gt1 _ (List.mem_of_getElem? (i := 147) rfl), (List.forall_mem_cons.mpr ⟨gt1 _ (List.mem_of_getElem? (i := 148) rfl), (List.forall_mem_cons.mpr ⟨gt1 _ (List.mem_of_getElem? (i := 149) rfl), (List.forall_mem_cons.mpr ⟨gt1 _ (List.mem_of_getElem? (i := 150) rfl), (List.forall_mem_cons.mpr ⟨gt1 _ (List.mem_of_getElem? (i := 151) rfl), (List.forall_mem_cons.mpr ⟨gt1 _ (List.mem_of_getElem? (i := 152) rfl), (List.forall_mem_cons.mpr ⟨gt1 _ (List.mem_of_getElem? (i := 153) rfl), (List.forall_mem_cons.mpr ⟨gt1 _ (List.mem_of_getElem? (i := 154) rfl), (List.forall_mem_cons.mpr ⟨gt1 _ (List.mem_of_getElem? (i := 155) rfl), (List.forall_mem_cons.mpr ⟨gt1 _ (List.mem_of_getElem? (i := 156) rfl), (List.forall_mem_cons.mpr ⟨gt1 _ (List.mem_of_getElem? (i := 157) rfl), (List.forall_mem_cons.mpr ⟨gt1 _ (List.mem_of_getElem? (i := 158) rfl), (List.forall_mem_cons.mpr ⟨gt1 _ (List.mem_of_getElem? (i := 159) rfl), (List.forall_mem_cons.mpr ⟨gt1 _ (List.mem_of_getElem? (i := 160) rfl), (List.forall_mem_cons.mpr ⟨gt1 _ (List.mem_of_getElem? (i := 161) rfl), (List.forall_mem_cons.mpr ⟨gt1 _ (List.mem_of_getElem? (i := 162) rfl), (fun _ h => absurd h List.not_mem_nil)⟩)⟩)⟩)⟩)⟩)⟩)⟩)⟩)⟩)⟩)⟩)⟩)⟩)⟩)⟩)⟩)⟩)⟩)⟩)⟩)⟩)⟩)⟩)⟩)
def gFL_3 : List (Nat × Nat × Nat × Nat) := [(11, 248, 2, 12), (3, 59, 2, 13), (11, 235, 2, 13), (2, 18, 1, 0), (8, 143, 1, 0), (11, 213, 1, 0), (2, 28, 1, 1), (2, 11, 1, 2), (2, 15, 1, 3), (8, 49, 7, 0), (6, 72, 7, 0), (11, 108, 7, 0), (8, 53, 7, 1), (11, 228, 7, 1), (8, 56, 7, 2), (11, 75, 7, 2), (5, 86, 7, 2), (6, 60, 7, 2), (8, 59, 7, 3), (5, 83, 7, 3), (6, 48, 7, 3), (11, 111, 7, 3), (8, 11, 7, 4), (11, 80, 7, 4)]
set_option maxRecDepth 100000 in
theorem gFL_3_ok : ∀ q ∈ gFL_3, Cond.fieldLink (gown q.1) q.2.1 (gT q.2.2.1 q.2.2.2).1 (gT q.2.2.1 q.2.2.2).2.1 (gT q.2.2.1 q.2.2.2).2.2.1 ∈ lw_tbl := (List.forall_mem_cons.mpr ⟨gt1 _ (List.mem_of_getElem? (i := 163) rfl), (List.forall_mem_cons.mpr ⟨gt1 _ (List.mem_of_getElem? (i := 164) rfl), (List.forall_mem_cons.mpr ⟨gt1 _ (List.mem_of_getElem? (i := 165) rfl), (List.forall_mem_cons.mpr ⟨gt1 _ (List.mem_of_getElem? (i := 200) rfl), (List.forall_mem_cons.mpr ⟨gt1 _ (List.mem_of_getElem? (i := 201) rfl), (List.forall_mem_cons.mpr ⟨gt1 _ (List.mem_of_getElem? (i := 202) rfl), (List.forall_mem_cons.mpr ⟨gt1 _ (List.mem_of_getElem? (i := 203) rfl), (List.forall_mem_cons.mpr ⟨gt1 _ (List.mem_of_getElem? (i := 204) rfl), (List.forall_mem_cons.mpr ⟨gt1 _ (List.mem_of_getElem? (i := 205) rfl), (List.forall_mem_cons.mpr ⟨gt1 _ (List.mem_of_getElem? (i := 215) rfl), (List.forall_mem_cons.mpr ⟨gt1 _ (List.mem_of_getElem? (i := 216) rfl), (List.forall_mem_cons.mpr ⟨gt1 _ (List.mem_of_getElem? (i := 217) rfl), (List.forall_mem_cons.mpr ⟨gt1 _ (List.mem_of_getElem? (i := 218) rfl), (List.forall_mem_cons.mpr ⟨gt1 _ (List.mem_of_getElem? (i := 219) rfl), (List.forall_mem_cons.mpr ⟨gt1 _ (List.mem_of_getElem? (i := 220) rfl), (List.forall_mem_cons.mpr ⟨gt1 _ (List.mem_of_getElem? (i := 221) rfl), (List.forall_mem_cons.mpr ⟨gt1 _ (List.mem_of_getElem? (i := 222) rfl), (List.forall_mem_cons.mpr ⟨gt1 _ (List.mem_of_getElem? (i := 223) rfl), (List.forall_mem_cons.mpr ⟨gt1 _ (List.mem_of_getElem? (i := 224) rfl), (List.forall_mem_cons.mpr ⟨gt1 _ (List.mem_of_getElem? (i := 225) rfl), (List.forall_mem_cons.mpr ⟨gt1 _ (List.mem_of_getElem? (i := 226) rfl), (List.forall_mem_cons.mpr ⟨gt1 _ (List.mem_of_getElem? (i := 227) rfl), (List.forall_mem_cons.mpr ⟨gt1 _ (List.mem_of_getElem? (i := 228) rfl), (List.forall_mem_cons.mpr ⟨gt1 _ (List.mem_of_getElem? (i := 229) rfl), (fun _ h => absurd h List.not_mem_nil)⟩)⟩)⟩)⟩)⟩)⟩)⟩)⟩)⟩)⟩)⟩)⟩)⟩)⟩)⟩)⟩)⟩)⟩)⟩)⟩)⟩)⟩)⟩)⟩)
def gFL_4 : List (Nat × Nat × Nat × Nat) := [(5, 89, 7, 4), (6, 63, 7, 4), (8, 19, 7, 5), (5, 74, 7, 5), (6, 78, 7, 5), (11, 114, 7, 5), (8, 23, 7, 6), (11, 251, 7, 6), (8, 27, 7, 7), (11, 309, 7, 7), (8, 32, 7, 8), (11, 195, 7, 8), (8, 39, 7, 9), (11, 272, 7, 9), (8, 43, 7, 10), (0, 9, 0, 0), (0, 15, 0, 1), (5, 38, 4, 0), (5, 42, 4, 1), (5, 56, 4, 2), (5, 9, 4, 3), (5, 15, 4, 4), (5, 18, 4, 5), (5, 21, 4, 6)]
set_option maxRecDepth 100000 in
theorem gFL_4_ok : ∀ q ∈ gFL_4, Cond.fieldLink (gown q.1) q.2.1 (gT q.2.2.1 q.2.2.2).1 (gT q.2.2.1 q.2.2.2).2.1 (gT q.2.2.1 q.2.2.2).2.2.1 ∈ lw_tbl := (List.forall_mem_cons.mpr ⟨gt1 _ (List.mem_of_getElem? (i := 230) rfl), (List.forall_mem_cons.mpr ⟨gt1 _ (List.mem_of_getElem? (i := 231) rfl), (List.forall_mem_cons.mpr ⟨gt1 _ (List.mem_of_getElem? (i := 232) rfl), (List.forall_mem_cons.mpr ⟨gt1 _ (List.mem_of_getElem? (i := 233) rfl), (List.forall_mem_cons.mpr ⟨gt1 _ (List.mem_of_getElem? (i := 234) rfl), (List.forall_mem_cons.mpr ⟨gt1 _ (List.mem_of_getElem? (i := 235) rfl), (List.forall_mem_cons.mpr ⟨gt1 _ (List.mem_of_getElem? (i := 236) rfl), (List.forall_mem_cons.mpr ⟨gt1 _ (List.mem_of_getElem? (i := 237) rfl), (List.forall_mem_cons.mpr ⟨gt1 _ (List.mem_of_getElem? (i := 238) rfl), (List.forall_mem_cons.mpr ⟨gt1 _ (List.mem_of_getElem? (i := 239) rfl), (List.forall_mem_cons.mpr ⟨gt2 _ (List.mem_of_getElem? (i := 0) rfl), (List.forall_mem_cons.mpr ⟨gt2 _ (List.mem_of_getElem? (i := 1) rfl), (List.forall_mem_cons.mpr ⟨gt2 _ (List.mem_of_getElem? (i := 2) rfl), (List.forall_mem_cons.mpr ⟨gt2 _ (List.mem_of_getElem? (i := 3) rfl), (List.forall_mem_cons.mpr ⟨gt2 _ (List.mem_of_getElem? (i := 4) rfl), (List.forall_mem_cons.mpr ⟨gt2 _ (List.mem_of_getElem? (i := 34) rfl), (List.forall_mem_cons.mpr ⟨gt2 _ (List.mem_of_getElem? (i := 35) rfl), (List.forall_mem_cons.mpr ⟨gt2 _ (List.mem_of_getElem? (i := 50) rfl), (List.forall_mem_cons.mpr ⟨gt2 _ (List.mem_of_getElem? (i := 51) rfl), (List.forall_mem_cons.mpr ⟨gt2 _ (List.mem_of_getElem? (i := 52) rfl), (List.forall_mem_cons.mpr ⟨gt2 _ (List.mem_of_getElem? (i := 53) rfl), (List.forall_mem_cons.mpr ⟨gt2 _ (List.mem_of_getElem? (i := 54) rfl), (List.forall_mem_cons.mpr ⟨gt2 _ (List.mem_of_getElem? (i := 55) rfl), (List.forall_mem_cons.mpr ⟨gt2 _ (List.mem_of_getElem? (i := 56) rfl), (fun _ h => absurd h List.not_mem_nil)⟩)⟩)⟩)⟩)⟩)⟩)⟩)⟩)⟩)⟩)⟩)⟩)⟩)⟩)⟩)⟩)⟩)⟩)⟩)⟩)⟩)⟩)⟩)⟩)
def gFL_5 : List (Nat × Nat × Nat × Nat) := [(5, 26, 4, 7), (5, 29, 4, 8), (5, 32, 4, 9), (5, 35, 4, 10), (5, 67, 4, 11), (5, 132, 4, 12), (5, 135, 4, 13), (6, 24, 5, 0), (6, 36, 5, 1), (6, 9, 5, 2), (6, 15, 5, 3), (6, 18, 5, 4), (6, 21, 5, 5), (6, 88, 5, 6), (9, 27, 8, 0), (11, 181, 8, 0), (9, 34, 8, 1), (11, 192, 8, 1), (9, 37, 8, 2), (11, 210, 8, 2), (9, 40, 8, 3), (11, 202, 8, 3), (9, 9, 8, 4), (11, 199, 8, 4)]
set_option maxRecDepth 100000 in
theorem gFL_5_ok : ∀ q ∈ gFL_5, Cond.fieldLink (gown q.1) q.2.1 (gT q.2.2.1 q.2.2.2).1 (gT q.2.2.1 q.2.2.2).2.1 (gT q.2.2.1 q.2.2.2).2.2.1 ∈ lw_tbl := (List.forall_mem_cons.mpr ⟨gt2 _ (List.mem_of_getElem? (i := 57) rfl), (List.forall_mem_cons.mpr ⟨gt2 _ (List.mem_of_getElem? (i := 58) rfl), (List.forall_mem_cons.mpr ⟨gt2 _ (List.mem_of_getElem? (i := 59) rfl), (List.forall_mem_cons.mpr ⟨gt2 _ (List.mem_of_getElem? (i := 60) rfl), (List.forall_mem_cons.mpr ⟨gt2 _ (List.mem_of_getElem? (i := 61) rfl), (List.forall_mem_cons.mpr ⟨gt2 _ (List.mem_of_getElem? (i := 62) rfl), (List.forall_mem_cons.mpr ⟨gt2 _ (List.mem_of_getElem? (i := 63) rfl), (List.forall_mem_cons.mpr ⟨gt2 _ (List.mem_of_getElem? (i := 99) rfl), (List.forall_mem_cons.mpr ⟨gt2 _ (List.mem_of_getElem? (i := 100) rfl), (List.forall_mem_cons.mpr ⟨gt2 _ (List.mem_of_getElem? (i := 101) rfl), (List.forall_mem_cons.mpr ⟨gt2 _ (List.mem_of_getElem? (i := 102) rfl), (List.forall_mem_cons.mpr ⟨gt2 _ (List.mem_of_getElem? (i := 103) rfl), (List.forall_mem_cons.mpr ⟨gt2 _ (List.mem_of_getElem? (i := 104) rfl), (List.forall_mem_cons.mpr ⟨gt2 _ (List.mem_of_getElem? (i := 105) rfl), (List.forall_mem_cons.mpr ⟨gt2 _ (List.mem_of_getElem? (i := 127) rfl), (List.forall_mem_cons.mpr ⟨gt2 _ (List.mem_of_getElem? (i := 128) rfl), (List.forall_mem_cons.mpr ⟨gt2 _ (List.mem_of_getElem? (i := 129) rfl), (List.forall_mem_cons.mpr ⟨gt2 _ (List.mem_of_getElem? (i := 130) rfl), (List.forall_mem_cons.mpr ⟨gt2 _ (List.mem_of_getElem? (i := 131) rfl), (List.forall_mem_cons.mpr ⟨gt2 _ (List.mem_of_getElem? (i := 132) rfl), (List.forall_mem_cons.mpr ⟨gt2 _ (List.mem_of_getElem? (i := 133) rfl), (List.forall_mem_cons.mpr ⟨gt2 _ (List.mem_of_getElem? (i := 134) rfl), (List.forall_mem_cons.mpr ⟨gt2 _ (List.mem_of_getElem? (i := 135) rfl), (List.forall_mem_cons.mpr ⟨gt2 _ (List.mem_of_getElem? (i := 136) rfl), (fun _ h => absurd h List.not_mem_nil)⟩)⟩)⟩)⟩)⟩)⟩)⟩)⟩)⟩)⟩)⟩)⟩)⟩)⟩)⟩)⟩)⟩)⟩)⟩)⟩)⟩)⟩)⟩)⟩)
def gFL_6 : List (Nat × Nat × Nat × Nat) := [(9, 15, 8, 5), (9, 18, 8, 6), (9, 21, 8, 7), (9, 24, 8, 8), (9, 54, 8, 9), (9, 43, 8, 10), (7, 15, 6, 0), (11, 323, 6, 0), (7, 19, 6, 1), (11, 299, 6, 1), (7, 9, 6, 2), (11, 329, 6, 2), (11, 12, 10, 0), (11, 16, 10, 1), (11, 22, 10, 2), (11, 31, 10, 3), (11, 40, 10, 4), (11, 47, 10, 5), (11, 53, 10, 6), (11, 58, 10, 7), (11, 62, 10, 8), (12, 126, 11, 0), (12, 275, 11, 1), (12, 100, 11, 2)]
set_option maxRecDepth 100000 in
theorem gFL_6_ok : ∀ q ∈ gFL_6, Cond.fieldLink (gown q.1) q.2.1 (gT q.2.2.1 q.2.2.2).1 (gT q.2.2.1 q.2.2.2).2.1 (gT q.2.2.1 q.2.2.2).2.2.1 ∈ lw_tbl := (List.forall_mem_cons.mpr ⟨gt2 _ (List.mem_of_getElem? (i := 137) rfl), (List.forall_mem_cons.mpr ⟨gt2 _ (List.mem_of_getElem? (i := 138) rfl), (List.forall_mem_cons.mpr ⟨gt2 _ (List.mem_of_getElem? (i := 139) rfl), (List.forall_mem_cons.mpr ⟨gt2 _ (List.mem_of_getElem? (i := 140) rfl), (List.forall_mem_cons.mpr ⟨gt2 _ (List.mem_of_getElem? (i := 141) rfl), (List.forall_mem_cons.mpr ⟨gt2 _ (List.mem_of_getElem? (i := 142) rfl), (List.forall_mem_cons.mpr ⟨gt2 _ (List.mem_of_getElem? (i := 173) rfl), (List.forall_mem_cons.mpr ⟨gt2 _ (List.mem_of_getElem? (i := 174) rfl), (List.forall_mem_cons.mpr ⟨gt2 _ (List.mem_of_getElem? (i := 175) rfl), (List.forall_mem_cons.mpr ⟨gt2 _ (List.mem_of_getElem? (i := 176) rfl), (List.forall_mem_cons.mpr ⟨gt2 _ (List.mem_of_getElem? (i := 177) rfl), (List.forall_mem_cons.mpr ⟨gt2 _ (List.mem_of_getElem? (i := 178) rfl), (List.forall_mem_cons.mpr ⟨gt2 _ (List.mem_of_getElem? (i := 186) rfl), (List.forall_mem_cons.mpr ⟨gt2 _ (List.mem_of_getElem? (i := 187) rfl), (List.forall_mem_cons.mpr ⟨gt2 _ (List.mem_of_getElem? (i := 188) rfl), (List.forall_mem_cons.mpr ⟨gt2 _ (List.mem_of_getElem? (i := 189) rfl), (List.forall_mem_cons.mpr ⟨gt2 _ (List.mem_of_getElem? (i := 190) rfl), (List.forall_mem_cons.mpr ⟨gt2 _ (List.mem_of_getElem? (i := 191) rfl), (List.forall_mem_cons.mpr ⟨gt2 _ (List.mem_of_getElem? (i := 192) rfl), (List.forall_mem_cons.mpr ⟨gt2 _ (List.mem_of_getElem? (i := 193) rfl), (List.forall_mem_cons.mpr ⟨gt2 _ (List.mem_of_getElem? (i := 194) rfl), (List.forall_mem_cons.mpr ⟨gt5 _ (List.mem_of_getElem? (i := 112) rfl), (List.forall_mem_cons.mpr ⟨gt5 _ (List.mem_of_getElem? (i := 113) rfl), (List.forall_mem_cons.mpr ⟨gt5 _ (List.mem_of_getElem? (i := 114) rfl), (fun _ h => absurd h List.not_mem_nil)⟩)⟩)⟩)⟩)⟩)⟩)⟩)⟩)⟩)⟩)⟩)⟩)⟩)⟩)⟩)⟩)⟩)⟩)⟩)⟩)⟩)⟩)⟩)⟩)
def gFL_7 : List (Nat × Nat × Nat × Nat) := [(12, 7, 11, 3), (12, 13, 11, 4), (12, 16, 11, 5), (12, 108, 11, 6), (12, 19, 11, 7), (12, 22, 11, 8), (12, 297, 11, 9), (12, 25, 11, 10), (12, 28, 11, 11), (12, 31, 11, 12), (12, 34, 11, 13), (12, 37, 11, 14), (12, 40, 11, 15), (12, 43, 11, 16), (12, 47, 11, 17), (12, 50, 11, 18), (12, 53, 11, 19), (12, 167, 11, 20), (12, 56, 11, 21), (12, 179, 11, 22), (12, 185, 11, 23), (12, 182, 11, 24), (12, 191, 11, 25), (12, 197, 11, 26)]
set_option maxRecDepth 100000 in
theorem gFL_7_ok : ∀ q ∈ gFL_7, Cond.fieldLink (gown q.1) q.2.1 (gT q.2.2.1 q.2.2.2).1 (gT q.2.2.1 q.2.2.2).2.1 (gT q.2.2.1 q.2.2.2).2.2.1 ∈ lw_tbl := (List.forall_mem_cons.mpr ⟨gt5 _ (List.mem_of_getElem? (i := 115) rfl), (List.forall_mem_cons.mpr ⟨gt5 _ (List.mem_of_getElem? (i := 116) rfl), (List.forall_mem_cons.mpr ⟨gt5 _ (List.mem_of_getElem? (i := 117) rfl), (List.forall_mem_cons.mpr ⟨gt5 _ (List.mem_of_getElem? (i := 118) rfl), (List.forall_mem_cons.mpr ⟨gt5 _ (List.mem_of_getElem? (i := 119) rfl), (List.forall_mem_cons.mpr ⟨gt5 _ (List.mem_of_getElem? (i := 120) rfl), (List.forall_mem_cons.mpr ⟨gt5 _ (List.mem_of_getElem? (i := 121) rfl), (List.forall_mem_cons.mpr ⟨gt5 _ (List.mem_of_getElem? (i := 122) rfl), (List.forall_mem_cons.mpr ⟨gt5 _ (List.mem_of_getElem? (i := 123) rfl), (List.forall_mem_cons.mpr ⟨gt5 _ (List.mem_of_getElem? (i := 124) rfl), (List.forall_mem_cons.mpr ⟨gt5 _ (List.mem_of_getElem? (i := 125) rfl), (List.forall_mem_cons.mpr ⟨gt5 _ (List.mem_of_getElem? (i := 126) rfl), (List.forall_mem_cons.mpr ⟨gt5 _ (List.mem_of_getElem? (i := 127) rfl), (List.forall_mem_cons.mpr ⟨gt5 _ (List.mem_of_getElem? (i := 128) rfl), (List.forall_mem_cons.mpr ⟨gt5 _ (List.mem_of_getElem? (i := 129) rfl), (List.forall_mem_cons.mpr ⟨gt5 _ (List.mem_of_getElem? (i := 130) rfl), (List.forall_mem_cons.mpr ⟨gt5 _ (List.mem_of_getElem? (i := 131) rfl), (List.forall_mem_cons.mpr ⟨gt5 _ (List.mem_of_getElem? (i := 132) rfl), (List.forall_mem_cons.mpr ⟨gt5 _ (List.mem_of_getElem? (i := 133) rfl), (List.forall_mem_cons.mpr ⟨gt5 _ (List.mem_of_getElem? (i := 134) rfl), (List.forall_mem_cons.mpr ⟨gt5 _ (List.mem_of_getElem? (i := 135) rfl), (List.forall_mem_cons.mpr ⟨gt5 _ (List.mem_of_getElem? (i := 136) rfl), (List.forall_mem_cons.mpr ⟨gt5 _ (List.mem_of_getElem? (i := 137) rfl), (List.forall_mem_cons.mpr ⟨gt5 _ (List.mem_of_getElem? (i := 138) rfl), (fun _ h => absurd h List.not_mem_nil)⟩)⟩)⟩)⟩)⟩)⟩)⟩)⟩)⟩)⟩)⟩)⟩)⟩)⟩)⟩)⟩)⟩)⟩)⟩)⟩)⟩)⟩)⟩)⟩)
def gFL_8 : List (Nat × Nat × Nat × Nat) := [(12, 59, 11, 27), (12, 62, 11, 28), (12, 209, 11, 29), (12, 212, 11, 30), (12, 222, 11, 31), (12, 228, 11, 32), (12, 65, 11, 33), (12, 69, 11, 34), (12, 72, 11, 35), (12, 75, 11, 36), (12, 78, 11, 37), (12, 81, 11, 38), (12, 84, 11, 39), (12, 87, 11, 40), (12, 90, 11, 41), (12, 314, 11, 42), (12, 93, 11, 43), (12, 303, 11, 44), (12, 96, 11, 45)]
set_option maxRecDepth 100000 in
theorem gFL_8_ok : ∀ q ∈ gFL_8, Cond.fieldLink (gown q.1) q.2.1 (gT q.2.2.1 q.2.2.2).1 (gT q.2.2.1 q.2.2.2).2.1 (gT q.2.2.1 q.2.2.2).2.2.1 ∈ lw_tbl := (List.forall_mem_cons.mpr ⟨gt5 _ (List.mem_of_getElem? (i := 139) rfl), (List.forall_mem_cons.mpr ⟨gt5 _ (List.mem_of_getElem? (i := 140) rfl), (List.forall_mem_cons.mpr ⟨gt5 _ (List.mem_of_getElem? (i := 141) rfl), (List.forall_mem_cons.mpr ⟨gt5 _ (List.mem_of_getElem? (i := 142) rfl), (List.forall_mem_cons.mpr ⟨gt5 _ (List.mem_of_getElem? (i := 143) rfl), (List.forall_mem_cons.mpr ⟨gt5 _ (List.mem_of_getElem? (i := 144) rfl), (List.forall_mem_cons.mpr ⟨gt5 _ (List.mem_of_getElem? (i := 145) rfl), (List.forall_mem_cons.mpr ⟨gt5 _ (List.mem_of_getElem? (i := 146) rfl), (List.forall_mem_cons.mpr ⟨gt5 _ (List.mem_of_getElem? (i := 147) rfl), (List.forall_mem_cons.mpr ⟨gt5 _ (List.mem_of_getElem? (i := 148) rfl), (List.forall_mem_cons.mpr ⟨gt5 _ (List.mem_of_getElem? (i := 149) rfl), (List.forall_mem_cons.mpr ⟨gt5 _ (List.mem_of_getElem? (i := 150) rfl), (List.forall_mem_cons.mpr ⟨gt5 _ (List.mem_of_getElem? (i := 151) rfl), (List.forall_mem_cons.mpr ⟨gt5 _ (List.mem_of_getElem? (i := 152) rfl), (List.forall_mem_cons.mpr ⟨gt5 _ (List.mem_of_getElem? (i := 153) rfl), (List.forall_mem_cons.mpr ⟨gt5 _ (List.mem_of_getElem? (i := 154) rfl), (List.forall_mem_cons.mpr ⟨gt5 _ (List.mem_of_getElem? (i := 155) rfl), (List.forall_mem_cons.mpr ⟨gt5 _ (List.mem_of_getElem? (i := 156) rfl), (List.forall_mem_cons.mpr ⟨gt5 _ (List.mem_of_getElem? (i := 157) rfl), (fun _ h => absurd h List.not_mem_nil)⟩)⟩)⟩)⟩)⟩)⟩)⟩)⟩)⟩)⟩)⟩)⟩)⟩)⟩)⟩)⟩)⟩)⟩)⟩)
def gFL : List (Nat × Nat × Nat × Nat) := gFL_0 ++ (gFL_1 ++ (gFL_2 ++ (gFL_3 ++ (gFL_4 ++ (gFL_5 ++ (gFL_6 ++ (gFL_7 ++ (gFL_8))))))))
theorem gFL_ok : ∀ q ∈ gFL, Cond.fieldLink (gown q.1) q.2.1 (gT q.2.2.1 q.2.2.2).1 (gT q.2.2.1 q.2.2.2).2.1 (gT q.2.2.1 q.2.2.2).2.2.1 ∈ lw_tbl := by
  intro q hq
  simp only [gFL, List.mem_append] at hq
  rcases hq with hq | hq | hq | hq | hq | hq | hq | hq | hq
  · exact gFL_0_ok q hq
  · exact gFL_1_ok q hq
  · exact gFL_2_ok q hq
  · exact gFL_3_ok q hq
  · exact gFL_4_ok q hq
  · exact gFL_5_ok q hq
  · exact gFL_6_ok q hq
  · exact gFL_7_ok q hq
  · exact gFL_8_ok q hq
def gVL_0 : List (Nat × Nat × Nat) := [(17, 13, 103), (11, 71, 147), (11, 84, 28), (17, 18, 104), (11, 90, 59), (11, 94, 30), (17, 23, 105), (17, 27, 106), (11, 100, 69), (17, 31, 107), (11, 118, 21), (17, 35, 108), (11, 121, 60), (11, 124, 63), (11, 127, 23), (17, 39, 109), (1, 41, 26), (1, 45, 31), (17, 43, 110), (11, 134, 61), (8, 81, 60), (17, 47, 111), (11, 143, 64), (8, 91, 62)]
set_option maxRecDepth 100000 in
theorem gVL_0_ok : ∀ q ∈ gVL_0, Cond.methodLink (gown q.1) q.2.1 (gH q.2.2).1 ∈ lw_tbl ∧ Cond.instanceMethod (gH q.2.2).1 ∈ lw_tbl ∧ Cond.selects (gH q.2.2).1.cls (gH q.2.2).1 (gH q.2.2).1 ∈ lw_tbl ∧ Cond.initialized (gH q.2.2).1.cls ∈ lw_tbl := (List.forall_mem_cons.mpr ⟨⟨gt2 _ (List.mem_of_getElem? (i := 214) rfl), gt2 _ (List.mem_of_getElem? (i := 215) rfl), gt2 _ (List.mem_of_getElem? (i := 216) rfl), gt1 _ (List.mem_of_getElem? (i := 1) rfl)⟩, (List.forall_mem_cons.mpr ⟨⟨gt2 _ (List.mem_of_getElem? (i := 222) rfl), gt2 _ (List.mem_of_getElem? (i := 224) rfl), gt0 _ (List.mem_of_getElem? (i := 0) rfl), gt1 _ (List.mem_of_getElem? (i := 1) rfl)⟩, (List.forall_mem_cons.mpr ⟨⟨gt2 _ (List.mem_of_getElem? (i := 227) rfl), gt2 _ (List.mem_of_getElem? (i := 228) rfl), gt2 _ (List.mem_of_getElem? (i := 229) rfl), gt1 _ (List.mem_of_getElem? (i := 4) rfl)⟩, (List.forall_mem_cons.mpr ⟨⟨gt2 _ (List.mem_of_getElem? (i := 231) rfl), gt2 _ (List.mem_of_getElem? (i := 232) rfl), gt2 _ (List.mem_of_getElem? (i := 233) rfl), gt1 _ (List.mem_of_getElem? (i := 1) rfl)⟩, (List.forall_mem_cons.mpr ⟨⟨gt2 _ (List.mem_of_getElem? (i := 235) rfl), gt2 _ (List.mem_of_getElem? (i := 236) rfl), gt2 _ (List.mem_of_getElem? (i := 237) rfl), gt1 _ (List.mem_of_getElem? (i := 2) rfl)⟩, (List.forall_mem_cons.mpr ⟨⟨gt2 _ (List.mem_of_getElem? (i := 239) rfl), gt3 _ (List.mem_of_getElem? (i := 0) rfl), gt3 _ (List.mem_of_getElem? (i := 1) rfl), gt1 _ (List.mem_of_getElem? (i := 4) rfl)⟩, (List.forall_mem_cons.mpr ⟨⟨gt3 _ (List.mem_of_getElem? (i := 3) rfl), gt3 _ (List.mem_of_getElem? (i := 4) rfl), gt3 _ (List.mem_of_getElem? (i := 5) rfl), gt1 _ (List.mem_of_getElem? (i := 1) rfl)⟩, (List.forall_mem_cons.mpr ⟨⟨gt3 _ (List.mem_of_getElem? (i := 7) rfl), gt3 _ (List.mem_of_getElem? (i := 8) rfl), gt3 _ (List.mem_of_getElem? (i := 9) rfl), gt1 _ (List.mem_of_getElem? (i := 1) rfl)⟩, (List.forall_mem_cons.mpr ⟨⟨gt3 _ (List.mem_of_getElem? (i := 11) rfl), gt3 _ (List.mem_of_getElem? (i := 12) rfl), gt3 _ (List.mem_of_getElem? (i := 13) rfl), gt1 _ (List.mem_of_getElem? (i := 2) rfl)⟩, (List.forall_mem_cons.mpr ⟨⟨gt3 _ (List.mem_of_getElem? (i := 18) rfl), gt3 _ (List.mem_of_getElem? (i := 19) rfl), gt3 _ (List.mem_of_getElem? (i := 20) rfl), gt1 _ (List.mem_of_getElem? (i := 1) rfl)⟩, (List.forall_mem_cons.mpr ⟨⟨gt3 _ (List.mem_of_getElem? (i := 25) rfl), gt3 _ (List.mem_of_getElem? (i := 26) rfl), gt3 _ (List.mem_of_getElem? (i := 27) rfl), gt1 _ (List.mem_of_getElem? (i := 5) rfl)⟩, (List.forall_mem_cons.mpr ⟨⟨gt3 _ (List.mem_of_getElem? (i := 39) rfl), gt3 _ (List.mem_of_getElem? (i := 40) rfl), gt3 _ (List.mem_of_getElem? (i := 41) rfl), gt1 _ (List.mem_of_getElem? (i := 1) rfl)⟩, (List.forall_mem_cons.mpr ⟨⟨gt3 _ (List.mem_of_getElem? (i := 43) rfl), gt3 _ (List.mem_of_getElem? (i := 44) rfl), gt3 _ (List.mem_of_getElem? (i := 45) rfl), gt1 _ (List.mem_of_getElem? (i := 2) rfl)⟩, (List.forall_mem_cons.mpr ⟨⟨gt3 _ (List.mem_of_getElem? (i := 47) rfl), gt3 _ (List.mem_of_getElem? (i := 48) rfl), gt3 _ (List.mem_of_getElem? (i := 49) rfl), gt1 _ (List.mem_of_getElem? (i := 2) rfl)⟩, (List.forall_mem_cons.mpr ⟨⟨gt3 _ (List.mem_of_getElem? (i := 51) rfl), gt3 _ (List.mem_of_getElem? (i := 52) rfl), gt3 _ (List.mem_of_getElem? (i := 53) rfl), gt1 _ (List.mem_of_getElem? (i := 5) rfl)⟩, (List.forall_mem_cons.mpr ⟨⟨gt3 _ (List.mem_of_getElem? (i := 55) rfl), gt3 _ (List.mem_of_getElem? (i := 56) rfl), gt3 _ (List.mem_of_getElem? (i := 57) rfl), gt1 _ (List.mem_of_getElem? (i := 1) rfl)⟩, (List.forall_mem_cons.mpr ⟨⟨gt3 _ (List.mem_of_getElem? (i := 65) rfl), gt3 _ (List.mem_of_getElem? (i := 66) rfl), gt3 _ (List.mem_of_getElem? (i := 67) rfl), gt1 _ (List.mem_of_getElem? (i := 5) rfl)⟩, (List.forall_mem_cons.mpr ⟨⟨gt3 _ (List.mem_of_getElem? (i := 69) rfl), gt3 _ (List.mem_of_getElem? (i := 70) rfl), gt3 _ (List.mem_of_getElem? (i := 71) rfl), gt1 _ (List.mem_of_getElem? (i := 4) rfl)⟩, (List.forall_mem_cons.mpr ⟨⟨gt3 _ (List.mem_of_getElem? (i := 81) rfl), gt3 _ (List.mem_of_getElem? (i := 82) rfl), gt3 _ (List.mem_of_getElem? (i := 83) rfl), gt1 _ (List.mem_of_getElem? (i := 1) rfl)⟩, (List.forall_mem_cons.mpr ⟨⟨gt3 _ (List.mem_of_getElem? (i := 85) rfl), gt3 _ (List.mem_of_getElem? (i := 86) rfl), gt3 _ (List.mem_of_getElem? (i := 87) rfl), gt1 _ (List.mem_of_getElem? (i := 2) rfl)⟩, (List.forall_mem_cons.mpr ⟨⟨gt3 _ (List.mem_of_getElem? (i := 89) rfl), gt3 _ (List.mem_of_getElem? (i := 44) rfl), gt3 _ (List.mem_of_getElem? (i := 45) rfl), gt1 _ (List.mem_of_getElem? (i := 2) rfl)⟩, (List.forall_mem_cons.mpr ⟨⟨gt3 _ (List.mem_of_getElem? (i := 90) rfl), gt3 _ (List.mem_of_getElem? (i := 91) rfl), gt3 _ (List.mem_of_getElem? (i := 92) rfl), gt1 _ (List.mem_of_getElem? (i := 1) rfl)⟩, (List.forall_mem_cons.mpr ⟨⟨gt3 _ (List.mem_of_getElem? (i := 94) rfl), gt3 _ (List.mem_of_getElem? (i := 95) rfl), gt3 _ (List.mem_of_getElem? (i := 96) rfl), gt1 _ (List.mem_of_getElem? (i := 2) rfl)⟩, (List.forall_mem_cons.mpr ⟨⟨gt3 _ (List.mem_of_getElem? (i := 98) rfl), gt3 _ (List.mem_of_getElem? (i := 99) rfl), gt3 _ (List.mem_of_getElem? (i := 100) rfl), gt1 _ (List.mem_of_getElem? (i := 2) rfl)⟩, (fun _ h => absurd h List.not_mem_nil)⟩)⟩)⟩)⟩)⟩)⟩)⟩)⟩)⟩)⟩)⟩)⟩)⟩)⟩)⟩)⟩)⟩)⟩)⟩)⟩)⟩)⟩)⟩)⟩)
def gVL_1 : List (Nat × Nat × Nat) := [(8, 94, 63), (11, 148, 71), (8, 118, 4), (8, 130, 6), (11, 159, 5), (17, 51, 112), (17, 56, 113), (11, 164, 70), (8, 97, 25), (3, 63, 24), (17, 60, 114), (11, 167, 8), (17, 64, 115), (11, 175, 33), (5, 46, 34), (5, 50, 71), (5, 60, 35), (5, 106, 5), (5, 112, 62), (5, 116, 36), (5, 119, 37), (5, 123, 69), (5, 64, 38), (5, 70, 40)]
set_option maxRecDepth 100000 in
theorem gVL_1_ok : ∀ q ∈ gVL_1, Cond.methodLink (gown q.1) q.2.1 (gH q.2.2).1 ∈ lw_tbl ∧ Cond.instanceMethod (gH q.2.2).1 ∈ lw_tbl ∧ Cond.selects (gH q.2.2).1.cls (gH q.2.2).1 (gH q.2.2).1 ∈ lw_tbl ∧ Cond.initialized (gH q.2.2).1.cls ∈ lw_tbl := (List.forall_mem_cons.mpr ⟨⟨gt3 _ (List.mem_of_getElem? (i := 102) rfl), gt3 _ (List.mem_of_getElem? (i := 48) rfl), gt3 _ (List.mem_of_getElem? (i := 49) rfl), gt1 _ (List.mem_of_getElem? (i := 2) rfl)⟩, (List.forall_mem_cons.mpr ⟨⟨gt3 _ (List.mem_of_getElem? (i := 105) rfl), gt3 _ (List.mem_of_getElem? (i := 106) rfl), gt3 _ (List.mem_of_getElem? (i := 107) rfl), gt1 _ (List.mem_of_getElem? (i := 2) rfl)⟩, (List.forall_mem_cons.mpr ⟨⟨gt3 _ (List.mem_of_getElem? (i := 109) rfl), gt3 _ (List.mem_of_getElem? (i := 110) rfl), gt3 _ (List.mem_of_getElem? (i := 111) rfl), gt1 _ (List.mem_of_getElem? (i := 7) rfl)⟩, (List.forall_mem_cons.mpr ⟨⟨gt3 _ (List.mem_of_getElem? (i := 113) rfl), gt3 _ (List.mem_of_getElem? (i := 114) rfl), gt3 _ (List.mem_of_getElem? (i := 115) rfl), gt1 _ (List.mem_of_getElem? (i := 7) rfl)⟩, (List.forall_mem_cons.mpr ⟨⟨gt3 _ (List.mem_of_getElem? (i := 117) rfl), gt3 _ (List.mem_of_getElem? (i := 118) rfl), gt3 _ (List.mem_of_getElem? (i := 119) rfl), gt1 _ (List.mem_of_getElem? (i := 7) rfl)⟩, (List.forall_mem_cons.mpr ⟨⟨gt3 _ (List.mem_of_getElem? (i := 122) rfl), gt3 _ (List.mem_of_getElem? (i := 123) rfl), gt3 _ (List.mem_of_getElem? (i := 124) rfl), gt1 _ (List.mem_of_getElem? (i := 1) rfl)⟩, (List.forall_mem_cons.mpr ⟨⟨gt3 _ (List.mem_of_getElem? (i := 126) rfl), gt3 _ (List.mem_of_getElem? (i := 127) rfl), gt3 _ (List.mem_of_getElem? (i := 128) rfl), gt1 _ (List.mem_of_getElem? (i := 1) rfl)⟩, (List.forall_mem_cons.mpr ⟨⟨gt3 _ (List.mem_of_getElem? (i := 130) rfl), gt3 _ (List.mem_of_getElem? (i := 131) rfl), gt3 _ (List.mem_of_getElem? (i := 132) rfl), gt1 _ (List.mem_of_getElem? (i := 2) rfl)⟩, (List.forall_mem_cons.mpr ⟨⟨gt3 _ (List.mem_of_getElem? (i := 134) rfl), gt3 _ (List.mem_of_getElem? (i := 135) rfl), gt3 _ (List.mem_of_getElem? (i := 136) rfl), gt1 _ (List.mem_of_getElem? (i := 5) rfl)⟩, (List.forall_mem_cons.mpr ⟨⟨gt3 _ (List.mem_of_getElem? (i := 138) rfl), gt3 _ (List.mem_of_getElem? (i := 139) rfl), gt3 _ (List.mem_of_getElem? (i := 140) rfl), gt1 _ (List.mem_of_getElem? (i := 5) rfl)⟩, (List.forall_mem_cons.mpr ⟨⟨gt3 _ (List.mem_of_getElem? (i := 142) rfl), gt3 _ (List.mem_of_getElem? (i := 143) rfl), gt3 _ (List.mem_of_getElem? (i := 144) rfl), gt1 _ (List.mem_of_getElem? (i := 1) rfl)⟩, (List.forall_mem_cons.mpr ⟨⟨gt3 _ (List.mem_of_getElem? (i := 146) rfl), gt3 _ (List.mem_of_getElem? (i := 147) rfl), gt3 _ (List.mem_of_getElem? (i := 148) rfl), gt1 _ (List.mem_of_getElem? (i := 7) rfl)⟩, (List.forall_mem_cons.mpr ⟨⟨gt3 _ (List.mem_of_getElem? (i := 156) rfl), gt3 _ (List.mem_of_getElem? (i := 157) rfl), gt3 _ (List.mem_of_getElem? (i := 158) rfl), gt1 _ (List.mem_of_getElem? (i := 1) rfl)⟩, (List.forall_mem_cons.mpr ⟨⟨gt3 _ (List.mem_of_getElem? (i := 166) rfl), gt3 _ (List.mem_of_getElem? (i := 167) rfl), gt3 _ (List.mem_of_getElem? (i := 168) rfl), gt1 _ (List.mem_of_getElem? (i := 8) rfl)⟩, (List.forall_mem_cons.mpr ⟨⟨gt3 _ (List.mem_of_getElem? (i := 170) rfl), gt3 _ (List.mem_of_getElem? (i := 172) rfl), gt0 _ (List.mem_of_getElem? (i := 1) rfl), gt1 _ (List.mem_of_getElem? (i := 8) rfl)⟩, (List.forall_mem_cons.mpr ⟨⟨gt3 _ (List.mem_of_getElem? (i := 174) rfl), gt3 _ (List.mem_of_getElem? (i := 106) rfl), gt3 _ (List.mem_of_getElem? (i := 107) rfl), gt1 _ (List.mem_of_getElem? (i := 2) rfl)⟩, (List.forall_mem_cons.mpr ⟨⟨gt3 _ (List.mem_of_getElem? (i := 175) rfl), gt3 _ (List.mem_of_getElem? (i := 177) rfl), gt0 _ (List.mem_of_getElem? (i := 2) rfl), gt1 _ (List.mem_of_getElem? (i := 8) rfl)⟩, (List.forall_mem_cons.mpr ⟨⟨gt3 _ (List.mem_of_getElem? (i := 180) rfl), gt3 _ (List.mem_of_getElem? (i := 118) rfl), gt3 _ (List.mem_of_getElem? (i := 119) rfl), gt1 _ (List.mem_of_getElem? (i := 7) rfl)⟩, (List.forall_mem_cons.mpr ⟨⟨gt3 _ (List.mem_of_getElem? (i := 181) rfl), gt3 _ (List.mem_of_getElem? (i := 99) rfl), gt3 _ (List.mem_of_getElem? (i := 100) rfl), gt1 _ (List.mem_of_getElem? (i := 2) rfl)⟩, (List.forall_mem_cons.mpr ⟨⟨gt3 _ (List.mem_of_getElem? (i := 182) rfl), gt3 _ (List.mem_of_getElem? (i := 184) rfl), gt0 _ (List.mem_of_getElem? (i := 3) rfl), gt1 _ (List.mem_of_getElem? (i := 8) rfl)⟩, (List.forall_mem_cons.mpr ⟨⟨gt3 _ (List.mem_of_getElem? (i := 186) rfl), gt3 _ (List.mem_of_getElem? (i := 188) rfl), gt0 _ (List.mem_of_getElem? (i := 4) rfl), gt1 _ (List.mem_of_getElem? (i := 8) rfl)⟩, (List.forall_mem_cons.mpr ⟨⟨gt3 _ (List.mem_of_getElem? (i := 190) rfl), gt3 _ (List.mem_of_getElem? (i := 12) rfl), gt3 _ (List.mem_of_getElem? (i := 13) rfl), gt1 _ (List.mem_of_getElem? (i := 2) rfl)⟩, (List.forall_mem_cons.mpr ⟨⟨gt3 _ (List.mem_of_getElem? (i := 191) rfl), gt3 _ (List.mem_of_getElem? (i := 193) rfl), gt0 _ (List.mem_of_getElem? (i := 5) rfl), gt1 _ (List.mem_of_getElem? (i := 8) rfl)⟩, (List.forall_mem_cons.mpr ⟨⟨gt3 _ (List.mem_of_getElem? (i := 195) rfl), gt3 _ (List.mem_of_getElem? (i := 197) rfl), gt0 _ (List.mem_of_getElem? (i := 6) rfl), gt1 _ (List.mem_of_getElem? (i := 8) rfl)⟩, (fun _ h => absurd h List.not_mem_nil)⟩)⟩)⟩)⟩)⟩)⟩)⟩)⟩)⟩)⟩)⟩)⟩)⟩)⟩)⟩)⟩)⟩)⟩)⟩)⟩)⟩)⟩)⟩)⟩)
def gVL_2 : List (Nat × Nat × Nat) := [(5, 138, 39), (5, 142, 42), (5, 146, 8), (5, 150, 6), (5, 154, 41), (5, 157, 7), (17, 68, 116), (11, 178, 62), (17, 73, 117), (11, 184, 78), (17, 77, 118), (17, 81, 119), (11, 188, 79), (9, 31, 80), (9, 60, 82), (9, 73, 81), (9, 67, 83), (9, 46, 92), (9, 93, 93), (9, 109, 94), (9, 112, 95), (9, 96, 88), (9, 100, 89), (9, 106, 91)]
set_option maxRecDepth 100000 in
theorem gVL_2_ok : ∀ q ∈ gVL_2, Cond.methodLink (gown q.1) q.2.1 (gH q.2.2).1 ∈ lw_tbl ∧ Cond.instanceMethod (gH q.2.2).1 ∈ lw_tbl ∧ Cond.selects (gH q.2.2).1.cls (gH q.2.2).1 (gH q.2.2).1 ∈ lw_tbl ∧ Cond.initialized (gH q.2.2).1.cls ∈ lw_tbl := (List.forall_mem_cons.mpr ⟨⟨gt3 _ (List.mem_of_getElem? (i := 199) rfl), gt3 _ (List.mem_of_getElem? (i := 201) rfl), gt0 _ (List.mem_of_getElem? (i := 7) rfl), gt1 _ (List.mem_of_getElem? (i := 8) rfl)⟩, (List.forall_mem_cons.mpr ⟨⟨gt3 _ (List.mem_of_getElem? (i := 203) rfl), gt3 _ (List.mem_of_getElem? (i := 205) rfl), gt0 _ (List.mem_of_getElem? (i := 8) rfl), gt1 _ (List.mem_of_getElem? (i := 8) rfl)⟩, (List.forall_mem_cons.mpr ⟨⟨gt3 _ (List.mem_of_getElem? (i := 207) rfl), gt3 _ (List.mem_of_getElem? (i := 147) rfl), gt3 _ (List.mem_of_getElem? (i := 148) rfl), gt1 _ (List.mem_of_getElem? (i := 7) rfl)⟩, (List.forall_mem_cons.mpr ⟨⟨gt3 _ (List.mem_of_getElem? (i := 208) rfl), gt3 _ (List.mem_of_getElem? (i := 114) rfl), gt3 _ (List.mem_of_getElem? (i := 115) rfl), gt1 _ (List.mem_of_getElem? (i := 7) rfl)⟩, (List.forall_mem_cons.mpr ⟨⟨gt3 _ (List.mem_of_getElem? (i := 209) rfl), gt3 _ (List.mem_of_getElem? (i := 211) rfl), gt0 _ (List.mem_of_getElem? (i := 9) rfl), gt1 _ (List.mem_of_getElem? (i := 8) rfl)⟩, (List.forall_mem_cons.mpr ⟨⟨gt3 _ (List.mem_of_getElem? (i := 213) rfl), gt3 _ (List.mem_of_getElem? (i := 214) rfl), gt3 _ (List.mem_of_getElem? (i := 215) rfl), gt1 _ (List.mem_of_getElem? (i := 7) rfl)⟩, (List.forall_mem_cons.mpr ⟨⟨gt3 _ (List.mem_of_getElem? (i := 217) rfl), gt3 _ (List.mem_of_getElem? (i := 218) rfl), gt3 _ (List.mem_of_getElem? (i := 219) rfl), gt1 _ (List.mem_of_getElem? (i := 1) rfl)⟩, (List.forall_mem_cons.mpr ⟨⟨gt3 _ (List.mem_of_getElem? (i := 221) rfl), gt3 _ (List.mem_of_getElem? (i := 99) rfl), gt3 _ (List.mem_of_getElem? (i := 100) rfl), gt1 _ (List.mem_of_getElem? (i := 2) rfl)⟩, (List.forall_mem_cons.mpr ⟨⟨gt3 _ (List.mem_of_getElem? (i := 222) rfl), gt3 _ (List.mem_of_getElem? (i := 223) rfl), gt3 _ (List.mem_of_getElem? (i := 224) rfl), gt1 _ (List.mem_of_getElem? (i := 1) rfl)⟩, (List.forall_mem_cons.mpr ⟨⟨gt3 _ (List.mem_of_getElem? (i := 226) rfl), gt3 _ (List.mem_of_getElem? (i := 227) rfl), gt3 _ (List.mem_of_getElem? (i := 228) rfl), gt1 _ (List.mem_of_getElem? (i := 10) rfl)⟩, (List.forall_mem_cons.mpr ⟨⟨gt3 _ (List.mem_of_getElem? (i := 230) rfl), gt3 _ (List.mem_of_getElem? (i := 231) rfl), gt3 _ (List.mem_of_getElem? (i := 232) rfl), gt1 _ (List.mem_of_getElem? (i := 1) rfl)⟩, (List.forall_mem_cons.mpr ⟨⟨gt3 _ (List.mem_of_getElem? (i := 234) rfl), gt3 _ (List.mem_of_getElem? (i := 235) rfl), gt3 _ (List.mem_of_getElem? (i := 236) rfl), gt1 _ (List.mem_of_getElem? (i := 1) rfl)⟩, (List.forall_mem_cons.mpr ⟨⟨gt3 _ (List.mem_of_getElem? (i := 238) rfl), gt3 _ (List.mem_of_getElem? (i := 239) rfl), gt4 _ (List.mem_of_getElem? (i := 0) rfl), gt1 _ (List.mem_of_getElem? (i := 10) rfl)⟩, (List.forall_mem_cons.mpr ⟨⟨gt4 _ (List.mem_of_getElem? (i := 2) rfl), gt4 _ (List.mem_of_getElem? (i := 4) rfl), gt0 _ (List.mem_of_getElem? (i := 10) rfl), gt1 _ (List.mem_of_getElem? (i := 10) rfl)⟩, (List.forall_mem_cons.mpr ⟨⟨gt4 _ (List.mem_of_getElem? (i := 9) rfl), gt4 _ (List.mem_of_getElem? (i := 11) rfl), gt0 _ (List.mem_of_getElem? (i := 11) rfl), gt1 _ (List.mem_of_getElem? (i := 10) rfl)⟩, (List.forall_mem_cons.mpr ⟨⟨gt4 _ (List.mem_of_getElem? (i := 16) rfl), gt4 _ (List.mem_of_getElem? (i := 18) rfl), gt0 _ (List.mem_of_getElem? (i := 12) rfl), gt1 _ (List.mem_of_getElem? (i := 10) rfl)⟩, (List.forall_mem_cons.mpr ⟨⟨gt4 _ (List.mem_of_getElem? (i := 23) rfl), gt4 _ (List.mem_of_getElem? (i := 25) rfl), gt0 _ (List.mem_of_getElem? (i := 13) rfl), gt1 _ (List.mem_of_getElem? (i := 10) rfl)⟩, (List.forall_mem_cons.mpr ⟨⟨gt4 _ (List.mem_of_getElem? (i := 38) rfl), gt4 _ (List.mem_of_getElem? (i := 40) rfl), gt0 _ (List.mem_of_getElem? (i := 14) rfl), gt1 _ (List.mem_of_getElem? (i := 10) rfl)⟩, (List.forall_mem_cons.mpr ⟨⟨gt4 _ (List.mem_of_getElem? (i := 42) rfl), gt4 _ (List.mem_of_getElem? (i := 44) rfl), gt0 _ (List.mem_of_getElem? (i := 15) rfl), gt1 _ (List.mem_of_getElem? (i := 10) rfl)⟩, (List.forall_mem_cons.mpr ⟨⟨gt4 _ (List.mem_of_getElem? (i := 46) rfl), gt4 _ (List.mem_of_getElem? (i := 48) rfl), gt0 _ (List.mem_of_getElem? (i := 16) rfl), gt1 _ (List.mem_of_getElem? (i := 10) rfl)⟩, (List.forall_mem_cons.mpr ⟨⟨gt4 _ (List.mem_of_getElem? (i := 50) rfl), gt4 _ (List.mem_of_getElem? (i := 52) rfl), gt0 _ (List.mem_of_getElem? (i := 17) rfl), gt1 _ (List.mem_of_getElem? (i := 10) rfl)⟩, (List.forall_mem_cons.mpr ⟨⟨gt4 _ (List.mem_of_getElem? (i := 54) rfl), gt4 _ (List.mem_of_getElem? (i := 56) rfl), gt0 _ (List.mem_of_getElem? (i := 18) rfl), gt1 _ (List.mem_of_getElem? (i := 10) rfl)⟩, (List.forall_mem_cons.mpr ⟨⟨gt4 _ (List.mem_of_getElem? (i := 58) rfl), gt4 _ (List.mem_of_getElem? (i := 60) rfl), gt0 _ (List.mem_of_getElem? (i := 19) rfl), gt1 _ (List.mem_of_getElem? (i := 10) rfl)⟩, (List.forall_mem_cons.mpr ⟨⟨gt4 _ (List.mem_of_getElem? (i := 62) rfl), gt4 _ (List.mem_of_getElem? (i := 64) rfl), gt0 _ (List.mem_of_getElem? (i := 20) rfl), gt1 _ (List.mem_of_getElem? (i := 10) rfl)⟩, (fun _ h => absurd h List.not_mem_nil)⟩)⟩)⟩)⟩)⟩)⟩)⟩)⟩)⟩)⟩)⟩)⟩)⟩)⟩)⟩)⟩)⟩)⟩)⟩)⟩)⟩)⟩)⟩)⟩)
def gVL_3 : List (Nat × Nat × Nat) := [(9, 50, 90), (9, 115, 96), (11, 205, 15), (17, 85, 120), (17, 89, 121), (11, 216, 73), (8, 153, 75), (8, 176, 76), (8, 179, 17), (11, 219, 74), (17, 93, 122), (17, 97, 123), (17, 101, 124), (11, 231, 24), (17, 105, 125), (17, 109, 126), (17, 114, 127), (17, 118, 128), (11, 254, 72), (8, 100, 65), (17, 122, 129), (17, 126, 130), (11, 257, 65), (17, 130, 131)]
set_option maxRecDepth 100000 in
theorem gVL_3_ok : ∀ q ∈ gVL_3, Cond.methodLink (gown q.1) q.2.1 (gH q.2.2).1 ∈ lw_tbl ∧ Cond.instanceMethod (gH q.2.2).1 ∈ lw_tbl ∧ Cond.selects (gH q.2.2).1.cls (gH q.2.2).1 (gH q.2.2).1 ∈ lw_tbl ∧ Cond.initialized (gH q.2.2).1.cls ∈ lw_tbl := (List.forall_mem_cons.mpr ⟨⟨gt4 _ (List.mem_of_getElem? (i := 66) rfl), gt4 _ (List.mem_of_getElem? (i := 68) rfl), gt0 _ (List.mem_of_getElem? (i := 21) rfl), gt1 _ (List.mem_of_getElem? (i := 10) rfl)⟩, (List.forall_mem_cons.mpr ⟨⟨gt4 _ (List.mem_of_getElem? (i := 70) rfl), gt4 _ (List.mem_of_getElem? (i := 72) rfl), gt0 _ (List.mem_of_getElem? (i := 22) rfl), gt1 _ (List.mem_of_getElem? (i := 10) rfl)⟩, (List.forall_mem_cons.mpr ⟨⟨gt4 _ (List.mem_of_getElem? (i := 74) rfl), gt4 _ (List.mem_of_getElem? (i := 75) rfl), gt4 _ (List.mem_of_getElem? (i := 76) rfl), gt1 _ (List.mem_of_getElem? (i := 6) rfl)⟩, (List.forall_mem_cons.mpr ⟨⟨gt4 _ (List.mem_of_getElem? (i := 82) rfl), gt4 _ (List.mem_of_getElem? (i := 83) rfl), gt4 _ (List.mem_of_getElem? (i := 84) rfl), gt1 _ (List.mem_of_getElem? (i := 1) rfl)⟩, (List.forall_mem_cons.mpr ⟨⟨gt4 _ (List.mem_of_getElem? (i := 86) rfl), gt4 _ (List.mem_of_getElem? (i := 87) rfl), gt4 _ (List.mem_of_getElem? (i := 88) rfl), gt1 _ (List.mem_of_getElem? (i := 1) rfl)⟩, (List.forall_mem_cons.mpr ⟨⟨gt4 _ (List.mem_of_getElem? (i := 90) rfl), gt4 _ (List.mem_of_getElem? (i := 91) rfl), gt4 _ (List.mem_of_getElem? (i := 92) rfl), gt1 _ (List.mem_of_getElem? (i := 2) rfl)⟩, (List.forall_mem_cons.mpr ⟨⟨gt4 _ (List.mem_of_getElem? (i := 97) rfl), gt4 _ (List.mem_of_getElem? (i := 99) rfl), gt0 _ (List.mem_of_getElem? (i := 23) rfl), gt1 _ (List.mem_of_getElem? (i := 2) rfl)⟩, (List.forall_mem_cons.mpr ⟨⟨gt4 _ (List.mem_of_getElem? (i := 101) rfl), gt4 _ (List.mem_of_getElem? (i := 103) rfl), gt0 _ (List.mem_of_getElem? (i := 24) rfl), gt1 _ (List.mem_of_getElem? (i := 2) rfl)⟩, (List.forall_mem_cons.mpr ⟨⟨gt4 _ (List.mem_of_getElem? (i := 105) rfl), gt4 _ (List.mem_of_getElem? (i := 106) rfl), gt4 _ (List.mem_of_getElem? (i := 107) rfl), gt1 _ (List.mem_of_getElem? (i := 6) rfl)⟩, (List.forall_mem_cons.mpr ⟨⟨gt4 _ (List.mem_of_getElem? (i := 117) rfl), gt4 _ (List.mem_of_getElem? (i := 118) rfl), gt4 _ (List.mem_of_getElem? (i := 119) rfl), gt1 _ (List.mem_of_getElem? (i := 2) rfl)⟩, (List.forall_mem_cons.mpr ⟨⟨gt4 _ (List.mem_of_getElem? (i := 121) rfl), gt4 _ (List.mem_of_getElem? (i := 122) rfl), gt4 _ (List.mem_of_getElem? (i := 123) rfl), gt1 _ (List.mem_of_getElem? (i := 1) rfl)⟩, (List.forall_mem_cons.mpr ⟨⟨gt4 _ (List.mem_of_getElem? (i := 125) rfl), gt4 _ (List.mem_of_getElem? (i := 126) rfl), gt4 _ (List.mem_of_getElem? (i := 127) rfl), gt1 _ (List.mem_of_getElem? (i := 1) rfl)⟩, (List.forall_mem_cons.mpr ⟨⟨gt4 _ (List.mem_of_getElem? (i := 129) rfl), gt4 _ (List.mem_of_getElem? (i := 130) rfl), gt4 _ (List.mem_of_getElem? (i := 131) rfl), gt1 _ (List.mem_of_getElem? (i := 1) rfl)⟩, (List.forall_mem_cons.mpr ⟨⟨gt4 _ (List.mem_of_getElem? (i := 133) rfl), gt3 _ (List.mem_of_getElem? (i := 139) rfl), gt3 _ (List.mem_of_getElem? (i := 140) rfl), gt1 _ (List.mem_of_getElem? (i := 5) rfl)⟩, (List.forall_mem_cons.mpr ⟨⟨gt4 _ (List.mem_of_getElem? (i := 134) rfl), gt4 _ (List.mem_of_getElem? (i := 135) rfl), gt4 _ (List.mem_of_getElem? (i := 136) rfl), gt1 _ (List.mem_of_getElem? (i := 1) rfl)⟩, (List.forall_mem_cons.mpr ⟨⟨gt4 _ (List.mem_of_getElem? (i := 138) rfl), gt4 _ (List.mem_of_getElem? (i := 139) rfl), gt4 _ (List.mem_of_getElem? (i := 140) rfl), gt1 _ (List.mem_of_getElem? (i := 1) rfl)⟩, (List.forall_mem_cons.mpr ⟨⟨gt4 _ (List.mem_of_getElem? (i := 143) rfl), gt4 _ (List.mem_of_getElem? (i := 144) rfl), gt4 _ (List.mem_of_getElem? (i := 145) rfl), gt1 _ (List.mem_of_getElem? (i := 1) rfl)⟩, (List.forall_mem_cons.mpr ⟨⟨gt4 _ (List.mem_of_getElem? (i := 147) rfl), gt4 _ (List.mem_of_getElem? (i := 148) rfl), gt4 _ (List.mem_of_getElem? (i := 149) rfl), gt1 _ (List.mem_of_getElem? (i := 1) rfl)⟩, (List.forall_mem_cons.mpr ⟨⟨gt4 _ (List.mem_of_getElem? (i := 151) rfl), gt4 _ (List.mem_of_getElem? (i := 152) rfl), gt4 _ (List.mem_of_getElem? (i := 153) rfl), gt1 _ (List.mem_of_getElem? (i := 2) rfl)⟩, (List.forall_mem_cons.mpr ⟨⟨gt4 _ (List.mem_of_getElem? (i := 155) rfl), gt4 _ (List.mem_of_getElem? (i := 156) rfl), gt4 _ (List.mem_of_getElem? (i := 157) rfl), gt1 _ (List.mem_of_getElem? (i := 2) rfl)⟩, (List.forall_mem_cons.mpr ⟨⟨gt4 _ (List.mem_of_getElem? (i := 159) rfl), gt4 _ (List.mem_of_getElem? (i := 160) rfl), gt4 _ (List.mem_of_getElem? (i := 161) rfl), gt1 _ (List.mem_of_getElem? (i := 1) rfl)⟩, (List.forall_mem_cons.mpr ⟨⟨gt4 _ (List.mem_of_getElem? (i := 163) rfl), gt4 _ (List.mem_of_getElem? (i := 164) rfl), gt4 _ (List.mem_of_getElem? (i := 165) rfl), gt1 _ (List.mem_of_getElem? (i := 1) rfl)⟩, (List.forall_mem_cons.mpr ⟨⟨gt4 _ (List.mem_of_getElem? (i := 167) rfl), gt4 _ (List.mem_of_getElem? (i := 156) rfl), gt4 _ (List.mem_of_getElem? (i := 157) rfl), gt1 _ (List.mem_of_getElem? (i := 2) rfl)⟩, (List.forall_mem_cons.mpr ⟨⟨gt4 _ (List.mem_of_getElem? (i := 168) rfl), gt4 _ (List.mem_of_getElem? (i := 169) rfl), gt4 _ (List.mem_of_getElem? (i := 170) rfl), gt1 _ (List.mem_of_getElem? (i := 1) rfl)⟩, (fun _ h => absurd h List.not_mem_nil)⟩)⟩)⟩)⟩)⟩)⟩)⟩)⟩)⟩)⟩)⟩)⟩)⟩)⟩)⟩)⟩)⟩)⟩)⟩)⟩)⟩)⟩)⟩)⟩)
def gVL_4 : List (Nat × Nat × Nat) := [(11, 263, 66), (17, 134, 132), (11, 266, 44), (6, 28, 46), (6, 44, 47), (6, 75, 70), (6, 53, 66), (6, 57, 48), (6, 32, 50), (6, 91, 51), (6, 40, 49), (11, 269, 45), (17, 138, 133), (11, 279, 98), (17, 142, 134), (11, 283, 100), (10, 40, 101), (17, 146, 135), (17, 150, 136), (11, 295, 54), (11, 301, 148), (11, 305, 149), (11, 352, 6), (17, 154, 137)]
set_option maxRecDepth 100000 in
theorem gVL_4_ok : ∀ q ∈ gVL_4, Cond.methodLink (gown q.1) q.2.1 (gH q.2.2).1 ∈ lw_tbl ∧ Cond.instanceMethod (gH q.2.2).1 ∈ lw_tbl ∧ Cond.selects (gH q.2.2).1.cls (gH q.2.2).1 (gH q.2.2).1 ∈ lw_tbl ∧ Cond.initialized (gH q.2.2).1.cls ∈ lw_tbl := (List.forall_mem_cons.mpr ⟨⟨gt4 _ (List.mem_of_getElem? (i := 172) rfl), gt4 _ (List.mem_of_getElem? (i := 173) rfl), gt4 _ (List.mem_of_getElem? (i := 174) rfl), gt1 _ (List.mem_of_getElem? (i := 2) rfl)⟩, (List.forall_mem_cons.mpr ⟨⟨gt4 _ (List.mem_of_getElem? (i := 176) rfl), gt4 _ (List.mem_of_getElem? (i := 177) rfl), gt4 _ (List.mem_of_getElem? (i := 178) rfl), gt1 _ (List.mem_of_getElem? (i := 1) rfl)⟩, (List.forall_mem_cons.mpr ⟨⟨gt4 _ (List.mem_of_getElem? (i := 180) rfl), gt4 _ (List.mem_of_getElem? (i := 181) rfl), gt4 _ (List.mem_of_getElem? (i := 182) rfl), gt1 _ (List.mem_of_getElem? (i := 9) rfl)⟩, (List.forall_mem_cons.mpr ⟨⟨gt4 _ (List.mem_of_getElem? (i := 184) rfl), gt4 _ (List.mem_of_getElem? (i := 186) rfl), gt0 _ (List.mem_of_getElem? (i := 25) rfl), gt1 _ (List.mem_of_getElem? (i := 9) rfl)⟩, (List.forall_mem_cons.mpr ⟨⟨gt4 _ (List.mem_of_getElem? (i := 188) rfl), gt4 _ (List.mem_of_getElem? (i := 190) rfl), gt0 _ (List.mem_of_getElem? (i := 26) rfl), gt1 _ (List.mem_of_getElem? (i := 9) rfl)⟩, (List.forall_mem_cons.mpr ⟨⟨gt4 _ (List.mem_of_getElem? (i := 192) rfl), gt3 _ (List.mem_of_getElem? (i := 131) rfl), gt3 _ (List.mem_of_getElem? (i := 132) rfl), gt1 _ (List.mem_of_getElem? (i := 2) rfl)⟩, (List.forall_mem_cons.mpr ⟨⟨gt4 _ (List.mem_of_getElem? (i := 193) rfl), gt4 _ (List.mem_of_getElem? (i := 173) rfl), gt4 _ (List.mem_of_getElem? (i := 174) rfl), gt1 _ (List.mem_of_getElem? (i := 2) rfl)⟩, (List.forall_mem_cons.mpr ⟨⟨gt4 _ (List.mem_of_getElem? (i := 194) rfl), gt4 _ (List.mem_of_getElem? (i := 196) rfl), gt0 _ (List.mem_of_getElem? (i := 27) rfl), gt1 _ (List.mem_of_getElem? (i := 9) rfl)⟩, (List.forall_mem_cons.mpr ⟨⟨gt4 _ (List.mem_of_getElem? (i := 199) rfl), gt4 _ (List.mem_of_getElem? (i := 201) rfl), gt0 _ (List.mem_of_getElem? (i := 28) rfl), gt1 _ (List.mem_of_getElem? (i := 9) rfl)⟩, (List.forall_mem_cons.mpr ⟨⟨gt4 _ (List.mem_of_getElem? (i := 203) rfl), gt4 _ (List.mem_of_getElem? (i := 205) rfl), gt0 _ (List.mem_of_getElem? (i := 29) rfl), gt1 _ (List.mem_of_getElem? (i := 9) rfl)⟩, (List.forall_mem_cons.mpr ⟨⟨gt4 _ (List.mem_of_getElem? (i := 207) rfl), gt4 _ (List.mem_of_getElem? (i := 209) rfl), gt0 _ (List.mem_of_getElem? (i := 30) rfl), gt1 _ (List.mem_of_getElem? (i := 9) rfl)⟩, (List.forall_mem_cons.mpr ⟨⟨gt4 _ (List.mem_of_getElem? (i := 211) rfl), gt4 _ (List.mem_of_getElem? (i := 212) rfl), gt4 _ (List.mem_of_getElem? (i := 213) rfl), gt1 _ (List.mem_of_getElem? (i := 9) rfl)⟩, (List.forall_mem_cons.mpr ⟨⟨gt4 _ (List.mem_of_getElem? (i := 215) rfl), gt4 _ (List.mem_of_getElem? (i := 216) rfl), gt4 _ (List.mem_of_getElem? (i := 217) rfl), gt1 _ (List.mem_of_getElem? (i := 1) rfl)⟩, (List.forall_mem_cons.mpr ⟨⟨gt4 _ (List.mem_of_getElem? (i := 219) rfl), gt4 _ (List.mem_of_getElem? (i := 220) rfl), gt4 _ (List.mem_of_getElem? (i := 221) rfl), gt1 _ (List.mem_of_getElem? (i := 3) rfl)⟩, (List.forall_mem_cons.mpr ⟨⟨gt4 _ (List.mem_of_getElem? (i := 223) rfl), gt4 _ (List.mem_of_getElem? (i := 224) rfl), gt4 _ (List.mem_of_getElem? (i := 225) rfl), gt1 _ (List.mem_of_getElem? (i := 1) rfl)⟩, (List.forall_mem_cons.mpr ⟨⟨gt4 _ (List.mem_of_getElem? (i := 227) rfl), gt4 _ (List.mem_of_getElem? (i := 228) rfl), gt4 _ (List.mem_of_getElem? (i := 229) rfl), gt1 _ (List.mem_of_getElem? (i := 3) rfl)⟩, (List.forall_mem_cons.mpr ⟨⟨gt4 _ (List.mem_of_getElem? (i := 231) rfl), gt4 _ (List.mem_of_getElem? (i := 233) rfl), gt0 _ (List.mem_of_getElem? (i := 31) rfl), gt1 _ (List.mem_of_getElem? (i := 3) rfl)⟩, (List.forall_mem_cons.mpr ⟨⟨gt4 _ (List.mem_of_getElem? (i := 236) rfl), gt4 _ (List.mem_of_getElem? (i := 237) rfl), gt4 _ (List.mem_of_getElem? (i := 238) rfl), gt1 _ (List.mem_of_getElem? (i := 1) rfl)⟩, (List.forall_mem_cons.mpr ⟨⟨gt5 _ (List.mem_of_getElem? (i := 0) rfl), gt5 _ (List.mem_of_getElem? (i := 1) rfl), gt5 _ (List.mem_of_getElem? (i := 2) rfl), gt1 _ (List.mem_of_getElem? (i := 1) rfl)⟩, (List.forall_mem_cons.mpr ⟨⟨gt5 _ (List.mem_of_getElem? (i := 4) rfl), gt5 _ (List.mem_of_getElem? (i := 5) rfl), gt5 _ (List.mem_of_getElem? (i := 6) rfl), gt1 _ (List.mem_of_getElem? (i := 11) rfl)⟩, (List.forall_mem_cons.mpr ⟨⟨gt5 _ (List.mem_of_getElem? (i := 10) rfl), gt5 _ (List.mem_of_getElem? (i := 12) rfl), gt0 _ (List.mem_of_getElem? (i := 32) rfl), gt1 _ (List.mem_of_getElem? (i := 1) rfl)⟩, (List.forall_mem_cons.mpr ⟨⟨gt5 _ (List.mem_of_getElem? (i := 14) rfl), gt5 _ (List.mem_of_getElem? (i := 16) rfl), gt0 _ (List.mem_of_getElem? (i := 33) rfl), gt1 _ (List.mem_of_getElem? (i := 1) rfl)⟩, (List.forall_mem_cons.mpr ⟨⟨gt5 _ (List.mem_of_getElem? (i := 20) rfl), gt3 _ (List.mem_of_getElem? (i := 114) rfl), gt3 _ (List.mem_of_getElem? (i := 115) rfl), gt1 _ (List.mem_of_getElem? (i := 7) rfl)⟩, (List.forall_mem_cons.mpr ⟨⟨gt5 _ (List.mem_of_getElem? (i := 21) rfl), gt5 _ (List.mem_of_getElem? (i := 22) rfl), gt5 _ (List.mem_of_getElem? (i := 23) rfl), gt1 _ (List.mem_of_getElem? (i := 1) rfl)⟩, (fun _ h => absurd h List.not_mem_nil)⟩)⟩)⟩)⟩)⟩)⟩)⟩)⟩)⟩)⟩)⟩)⟩)⟩)⟩)⟩)⟩)⟩)⟩)⟩)⟩)⟩)⟩)⟩)⟩)
def gVL_5 : List (Nat × Nat × Nat) := [(17, 158, 138), (17, 162, 139), (11, 318, 53), (17, 166, 140), (11, 320, 56), (17, 170, 141), (11, 326, 55), (17, 175, 142), (11, 338, 58), (8, 62, 29), (8, 66, 22), (8, 75, 16), (8, 78, 99), (17, 179, 143), (17, 183, 144), (17, 187, 145), (11, 341, 67), (11, 344, 68), (17, 191, 146), (17, 17, 158), (12, 111, 154), (17, 22, 159), (12, 115, 155), (17, 26, 160)]
set_option maxRecDepth 100000 in
theorem gVL_5_ok : ∀ q ∈ gVL_5, Cond.methodLink (gown q.1) q.2.1 (gH q.2.2).1 ∈ lw_tbl ∧ Cond.instanceMethod (gH q.2.2).1 ∈ lw_tbl ∧ Cond.selects (gH q.2.2).1.cls (gH q.2.2).1 (gH q.2.2).1 ∈ lw_tbl ∧ Cond.initialized (gH q.2.2).1.cls ∈ lw_tbl := (List.forall_mem_cons.mpr ⟨⟨gt5 _ (List.mem_of_getElem? (i := 25) rfl), gt5 _ (List.mem_of_getElem? (i := 26) rfl), gt5 _ (List.mem_of_getElem? (i := 27) rfl), gt1 _ (List.mem_of_getElem? (i := 1) rfl)⟩, (List.forall_mem_cons.mpr ⟨⟨gt5 _ (List.mem_of_getElem? (i := 30) rfl), gt5 _ (List.mem_of_getElem? (i := 31) rfl), gt5 _ (List.mem_of_getElem? (i := 32) rfl), gt1 _ (List.mem_of_getElem? (i := 1) rfl)⟩, (List.forall_mem_cons.mpr ⟨⟨gt5 _ (List.mem_of_getElem? (i := 34) rfl), gt5 _ (List.mem_of_getElem? (i := 35) rfl), gt5 _ (List.mem_of_getElem? (i := 36) rfl), gt1 _ (List.mem_of_getElem? (i := 11) rfl)⟩, (List.forall_mem_cons.mpr ⟨⟨gt5 _ (List.mem_of_getElem? (i := 38) rfl), gt5 _ (List.mem_of_getElem? (i := 39) rfl), gt5 _ (List.mem_of_getElem? (i := 40) rfl), gt1 _ (List.mem_of_getElem? (i := 1) rfl)⟩, (List.forall_mem_cons.mpr ⟨⟨gt5 _ (List.mem_of_getElem? (i := 42) rfl), gt5 _ (List.mem_of_getElem? (i := 43) rfl), gt5 _ (List.mem_of_getElem? (i := 44) rfl), gt1 _ (List.mem_of_getElem? (i := 11) rfl)⟩, (List.forall_mem_cons.mpr ⟨⟨gt5 _ (List.mem_of_getElem? (i := 46) rfl), gt5 _ (List.mem_of_getElem? (i := 47) rfl), gt5 _ (List.mem_of_getElem? (i := 48) rfl), gt1 _ (List.mem_of_getElem? (i := 1) rfl)⟩, (List.forall_mem_cons.mpr ⟨⟨gt5 _ (List.mem_of_getElem? (i := 50) rfl), gt5 _ (List.mem_of_getElem? (i := 51) rfl), gt5 _ (List.mem_of_getElem? (i := 52) rfl), gt1 _ (List.mem_of_getElem? (i := 11) rfl)⟩, (List.forall_mem_cons.mpr ⟨⟨gt5 _ (List.mem_of_getElem? (i := 55) rfl), gt5 _ (List.mem_of_getElem? (i := 56) rfl), gt5 _ (List.mem_of_getElem? (i := 57) rfl), gt1 _ (List.mem_of_getElem? (i := 1) rfl)⟩, (List.forall_mem_cons.mpr ⟨⟨gt5 _ (List.mem_of_getElem? (i := 59) rfl), gt5 _ (List.mem_of_getElem? (i := 60) rfl), gt5 _ (List.mem_of_getElem? (i := 61) rfl), gt1 _ (List.mem_of_getElem? (i := 2) rfl)⟩, (List.forall_mem_cons.mpr ⟨⟨gt5 _ (List.mem_of_getElem? (i := 63) rfl), gt5 _ (List.mem_of_getElem? (i := 64) rfl), gt5 _ (List.mem_of_getElem? (i := 65) rfl), gt1 _ (List.mem_of_getElem? (i := 4) rfl)⟩, (List.forall_mem_cons.mpr ⟨⟨gt5 _ (List.mem_of_getElem? (i := 67) rfl), gt5 _ (List.mem_of_getElem? (i := 68) rfl), gt5 _ (List.mem_of_getElem? (i := 69) rfl), gt1 _ (List.mem_of_getElem? (i := 5) rfl)⟩, (List.forall_mem_cons.mpr ⟨⟨gt5 _ (List.mem_of_getElem? (i := 72) rfl), gt5 _ (List.mem_of_getElem? (i := 73) rfl), gt5 _ (List.mem_of_getElem? (i := 74) rfl), gt1 _ (List.mem_of_getElem? (i := 6) rfl)⟩, (List.forall_mem_cons.mpr ⟨⟨gt5 _ (List.mem_of_getElem? (i := 76) rfl), gt5 _ (List.mem_of_getElem? (i := 77) rfl), gt5 _ (List.mem_of_getElem? (i := 78) rfl), gt1 _ (List.mem_of_getElem? (i := 3) rfl)⟩, (List.forall_mem_cons.mpr ⟨⟨gt5 _ (List.mem_of_getElem? (i := 81) rfl), gt5 _ (List.mem_of_getElem? (i := 82) rfl), gt5 _ (List.mem_of_getElem? (i := 83) rfl), gt1 _ (List.mem_of_getElem? (i := 1) rfl)⟩, (List.forall_mem_cons.mpr ⟨⟨gt5 _ (List.mem_of_getElem? (i := 85) rfl), gt5 _ (List.mem_of_getElem? (i := 86) rfl), gt5 _ (List.mem_of_getElem? (i := 87) rfl), gt1 _ (List.mem_of_getElem? (i := 1) rfl)⟩, (List.forall_mem_cons.mpr ⟨⟨gt5 _ (List.mem_of_getElem? (i := 89) rfl), gt5 _ (List.mem_of_getElem? (i := 90) rfl), gt5 _ (List.mem_of_getElem? (i := 91) rfl), gt1 _ (List.mem_of_getElem? (i := 1) rfl)⟩, (List.forall_mem_cons.mpr ⟨⟨gt5 _ (List.mem_of_getElem? (i := 93) rfl), gt5 _ (List.mem_of_getElem? (i := 94) rfl), gt5 _ (List.mem_of_getElem? (i := 95) rfl), gt1 _ (List.mem_of_getElem? (i := 2) rfl)⟩, (List.forall_mem_cons.mpr ⟨⟨gt5 _ (List.mem_of_getElem? (i := 97) rfl), gt5 _ (List.mem_of_getElem? (i := 98) rfl), gt5 _ (List.mem_of_getElem? (i := 99) rfl), gt1 _ (List.mem_of_getElem? (i := 2) rfl)⟩, (List.forall_mem_cons.mpr ⟨⟨gt5 _ (List.mem_of_getElem? (i := 101) rfl), gt5 _ (List.mem_of_getElem? (i := 102) rfl), gt5 _ (List.mem_of_getElem? (i := 103) rfl), gt1 _ (List.mem_of_getElem? (i := 1) rfl)⟩, (List.forall_mem_cons.mpr ⟨⟨gt6 _ (List.mem_of_getElem? (i := 12) rfl), gt6 _ (List.mem_of_getElem? (i := 13) rfl), gt6 _ (List.mem_of_getElem? (i := 14) rfl), gt1 _ (List.mem_of_getElem? (i := 12) rfl)⟩, (List.forall_mem_cons.mpr ⟨⟨gt6 _ (List.mem_of_getElem? (i := 19) rfl), gt6 _ (List.mem_of_getElem? (i := 21) rfl), gt0 _ (List.mem_of_getElem? (i := 34) rfl), gt1 _ (List.mem_of_getElem? (i := 12) rfl)⟩, (List.forall_mem_cons.mpr ⟨⟨gt6 _ (List.mem_of_getElem? (i := 24) rfl), gt6 _ (List.mem_of_getElem? (i := 25) rfl), gt6 _ (List.mem_of_getElem? (i := 26) rfl), gt1 _ (List.mem_of_getElem? (i := 12) rfl)⟩, (List.forall_mem_cons.mpr ⟨⟨gt6 _ (List.mem_of_getElem? (i := 28) rfl), gt6 _ (List.mem_of_getElem? (i := 30) rfl), gt0 _ (List.mem_of_getElem? (i := 35) rfl), gt1 _ (List.mem_of_getElem? (i := 12) rfl)⟩, (List.forall_mem_cons.mpr ⟨⟨gt6 _ (List.mem_of_getElem? (i := 32) rfl), gt6 _ (List.mem_of_getElem? (i := 33) rfl), gt6 _ (List.mem_of_getElem? (i := 34) rfl), gt1 _ (List.mem_of_getElem? (i := 12) rfl)⟩, (fun _ h => absurd h List.not_mem_nil)⟩)⟩)⟩)⟩)⟩)⟩)⟩)⟩)⟩)⟩)⟩)⟩)⟩)⟩)⟩)⟩)⟩)⟩)⟩)⟩)⟩)⟩)⟩)⟩)
def gVL_6 : List (Nat × Nat × Nat) := [(17, 30, 163), (12, 122, 162), (17, 34, 164), (17, 38, 167), (12, 132, 156), (12, 135, 166), (12, 129, 165), (17, 42, 170), (12, 141, 169), (12, 138, 168), (17, 46, 171), (17, 50, 175), (12, 148, 174), (12, 144, 173), (17, 55, 176), (17, 59, 178), (12, 157, 177), (12, 151, 172), (17, 63, 180), (12, 160, 179), (17, 72, 182), (12, 163, 181), (17, 67, 186), (12, 173, 185)]
set_option maxRecDepth 100000 in
theorem gVL_6_ok : ∀ q ∈ gVL_6, Cond.methodLink (gown q.1) q.2.1 (gH q.2.2).1 ∈ lw_tbl ∧ Cond.instanceMethod (gH q.2.2).1 ∈ lw_tbl ∧ Cond.selects (gH q.2.2).1.cls (gH q.2.2).1 (gH q.2.2).1 ∈ lw_tbl ∧ Cond.initialized (gH q.2.2).1.cls ∈ lw_tbl := (List.forall_mem_cons.mpr ⟨⟨gt6 _ (List.mem_of_getElem? (i := 36) rfl), gt6 _ (List.mem_of_getElem? (i := 37) rfl), gt6 _ (List.mem_of_getElem? (i := 38) rfl), gt1 _ (List.mem_of_getElem? (i := 12) rfl)⟩, (List.forall_mem_cons.mpr ⟨⟨gt6 _ (List.mem_of_getElem? (i := 40) rfl), gt6 _ (List.mem_of_getElem? (i := 42) rfl), gt0 _ (List.mem_of_getElem? (i := 36) rfl), gt1 _ (List.mem_of_getElem? (i := 12) rfl)⟩, (List.forall_mem_cons.mpr ⟨⟨gt6 _ (List.mem_of_getElem? (i := 47) rfl), gt6 _ (List.mem_of_getElem? (i := 48) rfl), gt6 _ (List.mem_of_getElem? (i := 49) rfl), gt1 _ (List.mem_of_getElem? (i := 12) rfl)⟩, (List.forall_mem_cons.mpr ⟨⟨gt6 _ (List.mem_of_getElem? (i := 51) rfl), gt6 _ (List.mem_of_getElem? (i := 52) rfl), gt6 _ (List.mem_of_getElem? (i := 53) rfl), gt1 _ (List.mem_of_getElem? (i := 12) rfl)⟩, (List.forall_mem_cons.mpr ⟨⟨gt6 _ (List.mem_of_getElem? (i := 55) rfl), gt6 _ (List.mem_of_getElem? (i := 57) rfl), gt0 _ (List.mem_of_getElem? (i := 37) rfl), gt1 _ (List.mem_of_getElem? (i := 12) rfl)⟩, (List.forall_mem_cons.mpr ⟨⟨gt6 _ (List.mem_of_getElem? (i := 59) rfl), gt6 _ (List.mem_of_getElem? (i := 61) rfl), gt0 _ (List.mem_of_getElem? (i := 38) rfl), gt1 _ (List.mem_of_getElem? (i := 12) rfl)⟩, (List.forall_mem_cons.mpr ⟨⟨gt6 _ (List.mem_of_getElem? (i := 63) rfl), gt6 _ (List.mem_of_getElem? (i := 65) rfl), gt0 _ (List.mem_of_getElem? (i := 39) rfl), gt1 _ (List.mem_of_getElem? (i := 12) rfl)⟩, (List.forall_mem_cons.mpr ⟨⟨gt6 _ (List.mem_of_getElem? (i := 67) rfl), gt6 _ (List.mem_of_getElem? (i := 68) rfl), gt6 _ (List.mem_of_getElem? (i := 69) rfl), gt1 _ (List.mem_of_getElem? (i := 12) rfl)⟩, (List.forall_mem_cons.mpr ⟨⟨gt6 _ (List.mem_of_getElem? (i := 71) rfl), gt6 _ (List.mem_of_getElem? (i := 73) rfl), gt0 _ (List.mem_of_getElem? (i := 40) rfl), gt1 _ (List.mem_of_getElem? (i := 12) rfl)⟩, (List.forall_mem_cons.mpr ⟨⟨gt6 _ (List.mem_of_getElem? (i := 75) rfl), gt6 _ (List.mem_of_getElem? (i := 77) rfl), gt0 _ (List.mem_of_getElem? (i := 41) rfl), gt1 _ (List.mem_of_getElem? (i := 12) rfl)⟩, (List.forall_mem_cons.mpr ⟨⟨gt6 _ (List.mem_of_getElem? (i := 79) rfl), gt6 _ (List.mem_of_getElem? (i := 80) rfl), gt6 _ (List.mem_of_getElem? (i := 81) rfl), gt1 _ (List.mem_of_getElem? (i := 12) rfl)⟩, (List.forall_mem_cons.mpr ⟨⟨gt6 _ (List.mem_of_getElem? (i := 83) rfl), gt6 _ (List.mem_of_getElem? (i := 84) rfl), gt6 _ (List.mem_of_getElem? (i := 85) rfl), gt1 _ (List.mem_of_getElem? (i := 12) rfl)⟩, (List.forall_mem_cons.mpr ⟨⟨gt6 _ (List.mem_of_getElem? (i := 87) rfl), gt6 _ (List.mem_of_getElem? (i := 89) rfl), gt0 _ (List.mem_of_getElem? (i := 42) rfl), gt1 _ (List.mem_of_getElem? (i := 12) rfl)⟩, (List.forall_mem_cons.mpr ⟨⟨gt6 _ (List.mem_of_getElem? (i := 91) rfl), gt6 _ (List.mem_of_getElem? (i := 93) rfl), gt0 _ (List.mem_of_getElem? (i := 43) rfl), gt1 _ (List.mem_of_getElem? (i := 12) rfl)⟩, (List.forall_mem_cons.mpr ⟨⟨gt6 _ (List.mem_of_getElem? (i := 95) rfl), gt6 _ (List.mem_of_getElem? (i := 96) rfl), gt6 _ (List.mem_of_getElem? (i := 97) rfl), gt1 _ (List.mem_of_getElem? (i := 12) rfl)⟩, (List.forall_mem_cons.mpr ⟨⟨gt6 _ (List.mem_of_getElem? (i := 99) rfl), gt6 _ (List.mem_of_getElem? (i := 100) rfl), gt6 _ (List.mem_of_getElem? (i := 101) rfl), gt1 _ (List.mem_of_getElem? (i := 12) rfl)⟩, (List.forall_mem_cons.mpr ⟨⟨gt6 _ (List.mem_of_getElem? (i := 106) rfl), gt6 _ (List.mem_of_getElem? (i := 108) rfl), gt0 _ (List.mem_of_getElem? (i := 44) rfl), gt1 _ (List.mem_of_getElem? (i := 12) rfl)⟩, (List.forall_mem_cons.mpr ⟨⟨gt6 _ (List.mem_of_getElem? (i := 110) rfl), gt6 _ (List.mem_of_getElem? (i := 112) rfl), gt0 _ (List.mem_of_getElem? (i := 45) rfl), gt1 _ (List.mem_of_getElem? (i := 12) rfl)⟩, (List.forall_mem_cons.mpr ⟨⟨gt6 _ (List.mem_of_getElem? (i := 114) rfl), gt6 _ (List.mem_of_getElem? (i := 115) rfl), gt6 _ (List.mem_of_getElem? (i := 116) rfl), gt1 _ (List.mem_of_getElem? (i := 12) rfl)⟩, (List.forall_mem_cons.mpr ⟨⟨gt6 _ (List.mem_of_getElem? (i := 118) rfl), gt6 _ (List.mem_of_getElem? (i := 120) rfl), gt0 _ (List.mem_of_getElem? (i := 46) rfl), gt1 _ (List.mem_of_getElem? (i := 12) rfl)⟩, (List.forall_mem_cons.mpr ⟨⟨gt6 _ (List.mem_of_getElem? (i := 122) rfl), gt6 _ (List.mem_of_getElem? (i := 123) rfl), gt6 _ (List.mem_of_getElem? (i := 124) rfl), gt1 _ (List.mem_of_getElem? (i := 12) rfl)⟩, (List.forall_mem_cons.mpr ⟨⟨gt6 _ (List.mem_of_getElem? (i := 126) rfl), gt6 _ (List.mem_of_getElem? (i := 128) rfl), gt0 _ (List.mem_of_getElem? (i := 47) rfl), gt1 _ (List.mem_of_getElem? (i := 12) rfl)⟩, (List.forall_mem_cons.mpr ⟨⟨gt6 _ (List.mem_of_getElem? (i := 130) rfl), gt6 _ (List.mem_of_getElem? (i := 131) rfl), gt6 _ (List.mem_of_getElem? (i := 132) rfl), gt1 _ (List.mem_of_getElem? (i := 12) rfl)⟩, (List.forall_mem_cons.mpr ⟨⟨gt6 _ (List.mem_of_getElem? (i := 137) rfl), gt6 _ (List.mem_of_getElem? (i := 139) rfl), gt0 _ (List.mem_of_getElem? (i := 48) rfl), gt1 _ (List.mem_of_getElem? (i := 12) rfl)⟩, (fun _ h => absurd h List.not_mem_nil)⟩)⟩)⟩)⟩)⟩)⟩)⟩)⟩)⟩)⟩)⟩)⟩)⟩)⟩)⟩)⟩)⟩)⟩)⟩)⟩)⟩)⟩)⟩)⟩)
def gVL_7 : List (Nat × Nat × Nat) := [(12, 176, 184), (17, 76, 187), (17, 80, 188), (17, 84, 204), (12, 250, 203), (12, 240, 194), (12, 188, 189), (12, 243, 201), (12, 218, 195), (12, 231, 198), (12, 215, 196), (12, 234, 197), (12, 247, 202), (12, 237, 199), (17, 88, 205), (17, 92, 213), (12, 272, 212), (12, 263, 209), (12, 260, 207), (12, 253, 206), (12, 269, 210), (17, 96, 214), (17, 100, 215), (17, 104, 216)]
set_option maxRecDepth 100000 in
theorem gVL_7_ok : ∀ q ∈ gVL_7, Cond.methodLink (gown q.1) q.2.1 (gH q.2.2).1 ∈ lw_tbl ∧ Cond.instanceMethod (gH q.2.2).1 ∈ lw_tbl ∧ Cond.selects (gH q.2.2).1.cls (gH q.2.2).1 (gH q.2.2).1 ∈ lw_tbl ∧ Cond.initialized (gH q.2.2).1.cls ∈ lw_tbl := (List.forall_mem_cons.mpr ⟨⟨gt6 _ (List.mem_of_getElem? (i := 141) rfl), gt6 _ (List.mem_of_getElem? (i := 143) rfl), gt0 _ (List.mem_of_getElem? (i := 49) rfl), gt1 _ (List.mem_of_getElem? (i := 12) rfl)⟩, (List.forall_mem_cons.mpr ⟨⟨gt6 _ (List.mem_of_getElem? (i := 145) rfl), gt6 _ (List.mem_of_getElem? (i := 146) rfl), gt6 _ (List.mem_of_getElem? (i := 147) rfl), gt1 _ (List.mem_of_getElem? (i := 12) rfl)⟩, (List.forall_mem_cons.mpr ⟨⟨gt6 _ (List.mem_of_getElem? (i := 149) rfl), gt6 _ (List.mem_of_getElem? (i := 150) rfl), gt6 _ (List.mem_of_getElem? (i := 151) rfl), gt1 _ (List.mem_of_getElem? (i := 12) rfl)⟩, (List.forall_mem_cons.mpr ⟨⟨gt6 _ (List.mem_of_getElem? (i := 153) rfl), gt6 _ (List.mem_of_getElem? (i := 154) rfl), gt6 _ (List.mem_of_getElem? (i := 155) rfl), gt1 _ (List.mem_of_getElem? (i := 12) rfl)⟩, (List.forall_mem_cons.mpr ⟨⟨gt6 _ (List.mem_of_getElem? (i := 157) rfl), gt6 _ (List.mem_of_getElem? (i := 159) rfl), gt0 _ (List.mem_of_getElem? (i := 50) rfl), gt1 _ (List.mem_of_getElem? (i := 12) rfl)⟩, (List.forall_mem_cons.mpr ⟨⟨gt6 _ (List.mem_of_getElem? (i := 161) rfl), gt6 _ (List.mem_of_getElem? (i := 163) rfl), gt0 _ (List.mem_of_getElem? (i := 51) rfl), gt1 _ (List.mem_of_getElem? (i := 12) rfl)⟩, (List.forall_mem_cons.mpr ⟨⟨gt6 _ (List.mem_of_getElem? (i := 165) rfl), gt6 _ (List.mem_of_getElem? (i := 167) rfl), gt0 _ (List.mem_of_getElem? (i := 52) rfl), gt1 _ (List.mem_of_getElem? (i := 12) rfl)⟩, (List.forall_mem_cons.mpr ⟨⟨gt6 _ (List.mem_of_getElem? (i := 181) rfl), gt6 _ (List.mem_of_getElem? (i := 183) rfl), gt0 _ (List.mem_of_getElem? (i := 53) rfl), gt1 _ (List.mem_of_getElem? (i := 12) rfl)⟩, (List.forall_mem_cons.mpr ⟨⟨gt6 _ (List.mem_of_getElem? (i := 185) rfl), gt6 _ (List.mem_of_getElem? (i := 187) rfl), gt0 _ (List.mem_of_getElem? (i := 54) rfl), gt1 _ (List.mem_of_getElem? (i := 12) rfl)⟩, (List.forall_mem_cons.mpr ⟨⟨gt6 _ (List.mem_of_getElem? (i := 189) rfl), gt6 _ (List.mem_of_getElem? (i := 191) rfl), gt0 _ (List.mem_of_getElem? (i := 55) rfl), gt1 _ (List.mem_of_getElem? (i := 12) rfl)⟩, (List.forall_mem_cons.mpr ⟨⟨gt6 _ (List.mem_of_getElem? (i := 193) rfl), gt6 _ (List.mem_of_getElem? (i := 195) rfl), gt0 _ (List.mem_of_getElem? (i := 56) rfl), gt1 _ (List.mem_of_getElem? (i := 12) rfl)⟩, (List.forall_mem_cons.mpr ⟨⟨gt6 _ (List.mem_of_getElem? (i := 197) rfl), gt6 _ (List.mem_of_getElem? (i := 199) rfl), gt0 _ (List.mem_of_getElem? (i := 57) rfl), gt1 _ (List.mem_of_getElem? (i := 12) rfl)⟩, (List.forall_mem_cons.mpr ⟨⟨gt6 _ (List.mem_of_getElem? (i := 201) rfl), gt6 _ (List.mem_of_getElem? (i := 203) rfl), gt0 _ (List.mem_of_getElem? (i := 58) rfl), gt1 _ (List.mem_of_getElem? (i := 12) rfl)⟩, (List.forall_mem_cons.mpr ⟨⟨gt6 _ (List.mem_of_getElem? (i := 205) rfl), gt6 _ (List.mem_of_getElem? (i := 207) rfl), gt0 _ (List.mem_of_getElem? (i := 59) rfl), gt1 _ (List.mem_of_getElem? (i := 12) rfl)⟩, (List.forall_mem_cons.mpr ⟨⟨gt6 _ (List.mem_of_getElem? (i := 212) rfl), gt6 _ (List.mem_of_getElem? (i := 213) rfl), gt6 _ (List.mem_of_getElem? (i := 214) rfl), gt1 _ (List.mem_of_getElem? (i := 12) rfl)⟩, (List.forall_mem_cons.mpr ⟨⟨gt6 _ (List.mem_of_getElem? (i := 216) rfl), gt6 _ (List.mem_of_getElem? (i := 217) rfl), gt6 _ (List.mem_of_getElem? (i := 218) rfl), gt1 _ (List.mem_of_getElem? (i := 12) rfl)⟩, (List.forall_mem_cons.mpr ⟨⟨gt6 _ (List.mem_of_getElem? (i := 220) rfl), gt6 _ (List.mem_of_getElem? (i := 222) rfl), gt0 _ (List.mem_of_getElem? (i := 60) rfl), gt1 _ (List.mem_of_getElem? (i := 12) rfl)⟩, (List.forall_mem_cons.mpr ⟨⟨gt6 _ (List.mem_of_getElem? (i := 224) rfl), gt6 _ (List.mem_of_getElem? (i := 226) rfl), gt0 _ (List.mem_of_getElem? (i := 61) rfl), gt1 _ (List.mem_of_getElem? (i := 12) rfl)⟩, (List.forall_mem_cons.mpr ⟨⟨gt6 _ (List.mem_of_getElem? (i := 231) rfl), gt6 _ (List.mem_of_getElem? (i := 233) rfl), gt0 _ (List.mem_of_getElem? (i := 62) rfl), gt1 _ (List.mem_of_getElem? (i := 12) rfl)⟩, (List.forall_mem_cons.mpr ⟨⟨gt6 _ (List.mem_of_getElem? (i := 235) rfl), gt6 _ (List.mem_of_getElem? (i := 237) rfl), gt0 _ (List.mem_of_getElem? (i := 63) rfl), gt1 _ (List.mem_of_getElem? (i := 12) rfl)⟩, (List.forall_mem_cons.mpr ⟨⟨gt7 _ (List.mem_of_getElem? (i := 2) rfl), gt7 _ (List.mem_of_getElem? (i := 4) rfl), gt0 _ (List.mem_of_getElem? (i := 64) rfl), gt1 _ (List.mem_of_getElem? (i := 12) rfl)⟩, (List.forall_mem_cons.mpr ⟨⟨gt7 _ (List.mem_of_getElem? (i := 6) rfl), gt7 _ (List.mem_of_getElem? (i := 7) rfl), gt7 _ (List.mem_of_getElem? (i := 8) rfl), gt1 _ (List.mem_of_getElem? (i := 12) rfl)⟩, (List.forall_mem_cons.mpr ⟨⟨gt7 _ (List.mem_of_getElem? (i := 10) rfl), gt7 _ (List.mem_of_getElem? (i := 11) rfl), gt7 _ (List.mem_of_getElem? (i := 12) rfl), gt1 _ (List.mem_of_getElem? (i := 12) rfl)⟩, (List.forall_mem_cons.mpr ⟨⟨gt7 _ (List.mem_of_getElem? (i := 14) rfl), gt7 _ (List.mem_of_getElem? (i := 15) rfl), gt7 _ (List.mem_of_getElem? (i := 16) rfl), gt1 _ (List.mem_of_getElem? (i := 12) rfl)⟩, (fun _ h => absurd h List.not_mem_nil)⟩)⟩)⟩)⟩)⟩)⟩)⟩)⟩)⟩)⟩)⟩)⟩)⟩)⟩)⟩)⟩)⟩)⟩)⟩)⟩)⟩)⟩)⟩)⟩)
def gVL_8 : List (Nat × Nat × Nat) := [(17, 108, 217), (17, 113, 218), (17, 117, 220), (17, 121, 224), (12, 288, 223), (12, 282, 221), (12, 285, 222), (17, 125, 225), (17, 129, 226), (17, 133, 228), (12, 291, 227), (17, 137, 230), (12, 294, 229), (17, 141, 231), (17, 145, 232), (17, 149, 233), (17, 153, 234), (17, 157, 235), (17, 161, 236), (17, 165, 238), (17, 169, 239), (17, 174, 240), (17, 178, 243), (12, 310, 242)]
set_option maxRecDepth 100000 in
theorem gVL_8_ok : ∀ q ∈ gVL_8, Cond.methodLink (gown q.1) q.2.1 (gH q.2.2).1 ∈ lw_tbl ∧ Cond.instanceMethod (gH q.2.2).1 ∈ lw_tbl ∧ Cond.selects (gH q.2.2).1.cls (gH q.2.2).1 (gH q.2.2).1 ∈ lw_tbl ∧ Cond.initialized (gH q.2.2).1.cls ∈ lw_tbl := (List.forall_mem_cons.mpr ⟨⟨gt7 _ (List.mem_of_getElem? (i := 18) rfl), gt7 _ (List.mem_of_getElem? (i := 19) rfl), gt7 _ (List.mem_of_getElem? (i := 20) rfl), gt1 _ (List.mem_of_getElem? (i := 12) rfl)⟩, (List.forall_mem_cons.mpr ⟨⟨gt7 _ (List.mem_of_getElem? (i := 22) rfl), gt7 _ (List.mem_of_getElem? (i := 23) rfl), gt7 _ (List.mem_of_getElem? (i := 24) rfl), gt1 _ (List.mem_of_getElem? (i := 12) rfl)⟩, (List.forall_mem_cons.mpr ⟨⟨gt7 _ (List.mem_of_getElem? (i := 27) rfl), gt7 _ (List.mem_of_getElem? (i := 28) rfl), gt7 _ (List.mem_of_getElem? (i := 29) rfl), gt1 _ (List.mem_of_getElem? (i := 12) rfl)⟩, (List.forall_mem_cons.mpr ⟨⟨gt7 _ (List.mem_of_getElem? (i := 34) rfl), gt7 _ (List.mem_of_getElem? (i := 35) rfl), gt7 _ (List.mem_of_getElem? (i := 36) rfl), gt1 _ (List.mem_of_getElem? (i := 12) rfl)⟩, (List.forall_mem_cons.mpr ⟨⟨gt7 _ (List.mem_of_getElem? (i := 38) rfl), gt7 _ (List.mem_of_getElem? (i := 40) rfl), gt0 _ (List.mem_of_getElem? (i := 65) rfl), gt1 _ (List.mem_of_getElem? (i := 12) rfl)⟩, (List.forall_mem_cons.mpr ⟨⟨gt7 _ (List.mem_of_getElem? (i := 42) rfl), gt7 _ (List.mem_of_getElem? (i := 44) rfl), gt0 _ (List.mem_of_getElem? (i := 66) rfl), gt1 _ (List.mem_of_getElem? (i := 12) rfl)⟩, (List.forall_mem_cons.mpr ⟨⟨gt7 _ (List.mem_of_getElem? (i := 46) rfl), gt7 _ (List.mem_of_getElem? (i := 48) rfl), gt0 _ (List.mem_of_getElem? (i := 67) rfl), gt1 _ (List.mem_of_getElem? (i := 12) rfl)⟩, (List.forall_mem_cons.mpr ⟨⟨gt7 _ (List.mem_of_getElem? (i := 50) rfl), gt7 _ (List.mem_of_getElem? (i := 51) rfl), gt7 _ (List.mem_of_getElem? (i := 52) rfl), gt1 _ (List.mem_of_getElem? (i := 12) rfl)⟩, (List.forall_mem_cons.mpr ⟨⟨gt7 _ (List.mem_of_getElem? (i := 54) rfl), gt7 _ (List.mem_of_getElem? (i := 55) rfl), gt7 _ (List.mem_of_getElem? (i := 56) rfl), gt1 _ (List.mem_of_getElem? (i := 12) rfl)⟩, (List.forall_mem_cons.mpr ⟨⟨gt7 _ (List.mem_of_getElem? (i := 58) rfl), gt7 _ (List.mem_of_getElem? (i := 59) rfl), gt7 _ (List.mem_of_getElem? (i := 60) rfl), gt1 _ (List.mem_of_getElem? (i := 12) rfl)⟩, (List.forall_mem_cons.mpr ⟨⟨gt7 _ (List.mem_of_getElem? (i := 62) rfl), gt7 _ (List.mem_of_getElem? (i := 64) rfl), gt0 _ (List.mem_of_getElem? (i := 68) rfl), gt1 _ (List.mem_of_getElem? (i := 12) rfl)⟩, (List.forall_mem_cons.mpr ⟨⟨gt7 _ (List.mem_of_getElem? (i := 66) rfl), gt7 _ (List.mem_of_getElem? (i := 67) rfl), gt7 _ (List.mem_of_getElem? (i := 68) rfl), gt1 _ (List.mem_of_getElem? (i := 12) rfl)⟩, (List.forall_mem_cons.mpr ⟨⟨gt7 _ (List.mem_of_getElem? (i := 70) rfl), gt7 _ (List.mem_of_getElem? (i := 72) rfl), gt0 _ (List.mem_of_getElem? (i := 69) rfl), gt1 _ (List.mem_of_getElem? (i := 12) rfl)⟩, (List.forall_mem_cons.mpr ⟨⟨gt7 _ (List.mem_of_getElem? (i := 74) rfl), gt7 _ (List.mem_of_getElem? (i := 75) rfl), gt7 _ (List.mem_of_getElem? (i := 76) rfl), gt1 _ (List.mem_of_getElem? (i := 12) rfl)⟩, (List.forall_mem_cons.mpr ⟨⟨gt7 _ (List.mem_of_getElem? (i := 78) rfl), gt7 _ (List.mem_of_getElem? (i := 79) rfl), gt7 _ (List.mem_of_getElem? (i := 80) rfl), gt1 _ (List.mem_of_getElem? (i := 12) rfl)⟩, (List.forall_mem_cons.mpr ⟨⟨gt7 _ (List.mem_of_getElem? (i := 82) rfl), gt7 _ (List.mem_of_getElem? (i := 83) rfl), gt7 _ (List.mem_of_getElem? (i := 84) rfl), gt1 _ (List.mem_of_getElem? (i := 12) rfl)⟩, (List.forall_mem_cons.mpr ⟨⟨gt7 _ (List.mem_of_getElem? (i := 86) rfl), gt7 _ (List.mem_of_getElem? (i := 87) rfl), gt7 _ (List.mem_of_getElem? (i := 88) rfl), gt1 _ (List.mem_of_getElem? (i := 12) rfl)⟩, (List.forall_mem_cons.mpr ⟨⟨gt7 _ (List.mem_of_getElem? (i := 93) rfl), gt7 _ (List.mem_of_getElem? (i := 94) rfl), gt7 _ (List.mem_of_getElem? (i := 95) rfl), gt1 _ (List.mem_of_getElem? (i := 12) rfl)⟩, (List.forall_mem_cons.mpr ⟨⟨gt7 _ (List.mem_of_getElem? (i := 97) rfl), gt7 _ (List.mem_of_getElem? (i := 98) rfl), gt7 _ (List.mem_of_getElem? (i := 99) rfl), gt1 _ (List.mem_of_getElem? (i := 12) rfl)⟩, (List.forall_mem_cons.mpr ⟨⟨gt7 _ (List.mem_of_getElem? (i := 101) rfl), gt7 _ (List.mem_of_getElem? (i := 102) rfl), gt7 _ (List.mem_of_getElem? (i := 103) rfl), gt1 _ (List.mem_of_getElem? (i := 12) rfl)⟩, (List.forall_mem_cons.mpr ⟨⟨gt7 _ (List.mem_of_getElem? (i := 105) rfl), gt7 _ (List.mem_of_getElem? (i := 106) rfl), gt7 _ (List.mem_of_getElem? (i := 107) rfl), gt1 _ (List.mem_of_getElem? (i := 12) rfl)⟩, (List.forall_mem_cons.mpr ⟨⟨gt7 _ (List.mem_of_getElem? (i := 109) rfl), gt7 _ (List.mem_of_getElem? (i := 110) rfl), gt7 _ (List.mem_of_getElem? (i := 111) rfl), gt1 _ (List.mem_of_getElem? (i := 12) rfl)⟩, (List.forall_mem_cons.mpr ⟨⟨gt7 _ (List.mem_of_getElem? (i := 113) rfl), gt7 _ (List.mem_of_getElem? (i := 114) rfl), gt7 _ (List.mem_of_getElem? (i := 115) rfl), gt1 _ (List.mem_of_getElem? (i := 12) rfl)⟩, (List.forall_mem_cons.mpr ⟨⟨gt7 _ (List.mem_of_getElem? (i := 117) rfl), gt7 _ (List.mem_of_getElem? (i := 119) rfl), gt0 _ (List.mem_of_getElem? (i := 70) rfl), gt1 _ (List.mem_of_getElem? (i := 12) rfl)⟩, (fun _ h => absurd h List.not_mem_nil)⟩)⟩)⟩)⟩)⟩)⟩)⟩)⟩)⟩)⟩)⟩)⟩)⟩)⟩)⟩)⟩)⟩)⟩)⟩)⟩)⟩)⟩)⟩)⟩)
def gVL_9 : List (Nat × Nat × Nat) := [(12, 306, 241), (17, 182, 244), (17, 186, 245), (17, 190, 246), (17, 194, 247)]
set_option maxRecDepth 100000 in
theorem gVL_9_ok : ∀ q ∈ gVL_9, Cond.methodLink (gown q.1) q.2.1 (gH q.2.2).1 ∈ lw_tbl ∧ Cond.instanceMethod (gH q.2.2).1 ∈ lw_tbl ∧ Cond.selects (gH q.2.2).1.cls (gH q.2.2).1 (gH q.2.2).1 ∈ lw_tbl ∧ Cond.initialized (gH q.2.2).1.cls ∈ lw_tbl := (List.forall_mem_cons.mpr ⟨⟨gt7 _ (List.mem_of_getElem? (i := 121) rfl), gt7 _ (List.mem_of_getElem? (i := 123) rfl), gt0 _ (List.mem_of_getElem? (i := 71) rfl), gt1 _ (List.mem_of_getElem? (i := 12) rfl)⟩, (List.forall_mem_cons.mpr ⟨⟨gt7 _ (List.mem_of_getElem? (i := 125) rfl), gt7 _ (List.mem_of_getElem? (i := 126) rfl), gt7 _ (List.mem_of_getElem? (i := 127) rfl), gt1 _ (List.mem_of_getElem? (i := 12) rfl)⟩, (List.forall_mem_cons.mpr ⟨⟨gt7 _ (List.mem_of_getElem? (i := 129) rfl), gt7 _ (List.mem_of_getElem? (i := 130) rfl), gt7 _ (List.mem_of_getElem? (i := 131) rfl), gt1 _ (List.mem_of_getElem? (i := 12) rfl)⟩, (List.forall_mem_cons.mpr ⟨⟨gt7 _ (List.mem_of_getElem? (i := 133) rfl), gt7 _ (List.mem_of_getElem? (i := 134) rfl), gt7 _ (List.mem_of_getElem? (i := 135) rfl), gt1 _ (List.mem_of_getElem? (i := 12) rfl)⟩, (List.forall_mem_cons.mpr ⟨⟨gt7 _ (List.mem_of_getElem? (i := 137) rfl), gt7 _ (List.mem_of_getElem? (i := 138) rfl), gt7 _ (List.mem_of_getElem? (i := 139) rfl), gt1 _ (List.mem_of_getElem? (i := 12) rfl)⟩, (fun _ h => absurd h List.not_mem_nil)⟩)⟩)⟩)⟩)⟩)
def gVL : List (Nat × Nat × Nat) := gVL_0 ++ (gVL_1 ++ (gVL_2 ++ (gVL_3 ++ (gVL_4 ++ (gVL_5 ++ (gVL_6 ++ (gVL_7 ++ (gVL_8 ++ (gVL_9)))))))))
theorem gVL_ok : ∀ q ∈ gVL, Cond.methodLink (gown q.1) q.2.1 (gH q.2.2).1 ∈ lw_tbl ∧ Cond.instanceMethod (gH q.2.2).1 ∈ lw_tbl ∧ Cond.selects (gH q.2.2).1.cls (gH q.2.2).1 (gH q.2.2).1 ∈ lw_tbl ∧ Cond.initialized (gH q.2.2).1.cls ∈ lw_tbl := by
  intro q hq
  simp only [gVL, List.mem_append] at hq
  rcases hq with hq | hq | hq | hq | hq | hq | hq | hq | hq | hq
  · exact gVL_0_ok q hq
  · exact gVL_1_ok q hq
  · exact gVL_2_ok q hq
  · exact gVL_3_ok q hq
  · exact gVL_4_ok q hq
  · exact gVL_5_ok q hq
  · exact gVL_6_ok q hq
  · exact gVL_7_ok q hq
  · exact gVL_8_ok q hq
  · exact gVL_9_ok q hq
def gSL_0 : List (Nat × Nat × Nat) := [(11, 66, 150), (8, 109, 250), (11, 104, 151), (3, 30, 1), (0, 18, 3), (3, 39, 2), (11, 128, 10), (1, 15, 11), (1, 25, 9), (1, 29, 12), (0, 24, 249), (11, 170, 248), (5, 93, 10), (9, 57, 85), (9, 83, 252), (9, 64, 86), (9, 86, 84), (9, 70, 87), (9, 77, 251), (2, 22, 252), (8, 147, 13), (2, 38, 18), (2, 42, 19), (8, 157, 252)]
set_option maxRecDepth 100000 in
theorem gSL_0_ok : ∀ q ∈ gSL_0, Cond.methodLink (gown q.1) q.2.1 (gH q.2.2).1 ∈ lw_tbl ∧ Cond.static (gH q.2.2).1 ∈ lw_tbl ∧ Cond.initialized (gH q.2.2).1.cls ∈ lw_tbl := (List.forall_mem_cons.mpr ⟨⟨gt2 _ (List.mem_of_getElem? (i := 218) rfl), gt2 _ (List.mem_of_getElem? (i := 219) rfl), gt1 _ (List.mem_of_getElem? (i := 1) rfl)⟩, (List.forall_mem_cons.mpr ⟨⟨gt3 _ (List.mem_of_getElem? (i := 15) rfl), gt3 _ (List.mem_of_getElem? (i := 16) rfl), gt1 _ (List.mem_of_getElem? (i := 13) rfl)⟩, (List.forall_mem_cons.mpr ⟨⟨gt3 _ (List.mem_of_getElem? (i := 22) rfl), gt3 _ (List.mem_of_getElem? (i := 23) rfl), gt1 _ (List.mem_of_getElem? (i := 1) rfl)⟩, (List.forall_mem_cons.mpr ⟨⟨gt3 _ (List.mem_of_getElem? (i := 29) rfl), gt3 _ (List.mem_of_getElem? (i := 30) rfl), gt1 _ (List.mem_of_getElem? (i := 7) rfl)⟩, (List.forall_mem_cons.mpr ⟨⟨gt3 _ (List.mem_of_getElem? (i := 32) rfl), gt3 _ (List.mem_of_getElem? (i := 33) rfl), gt1 _ (List.mem_of_getElem? (i := 7) rfl)⟩, (List.forall_mem_cons.mpr ⟨⟨gt3 _ (List.mem_of_getElem? (i := 36) rfl), gt3 _ (List.mem_of_getElem? (i := 37) rfl), gt1 _ (List.mem_of_getElem? (i := 7) rfl)⟩, (List.forall_mem_cons.mpr ⟨⟨gt3 _ (List.mem_of_getElem? (i := 59) rfl), gt3 _ (List.mem_of_getElem? (i := 60) rfl), gt1 _ (List.mem_of_getElem? (i := 14) rfl)⟩, (List.forall_mem_cons.mpr ⟨⟨gt3 _ (List.mem_of_getElem? (i := 62) rfl), gt3 _ (List.mem_of_getElem? (i := 63) rfl), gt1 _ (List.mem_of_getElem? (i := 14) rfl)⟩, (List.forall_mem_cons.mpr ⟨⟨gt3 _ (List.mem_of_getElem? (i := 73) rfl), gt3 _ (List.mem_of_getElem? (i := 74) rfl), gt1 _ (List.mem_of_getElem? (i := 14) rfl)⟩, (List.forall_mem_cons.mpr ⟨⟨gt3 _ (List.mem_of_getElem? (i := 78) rfl), gt3 _ (List.mem_of_getElem? (i := 79) rfl), gt1 _ (List.mem_of_getElem? (i := 14) rfl)⟩, (List.forall_mem_cons.mpr ⟨⟨gt3 _ (List.mem_of_getElem? (i := 150) rfl), gt3 _ (List.mem_of_getElem? (i := 151) rfl), gt1 _ (List.mem_of_getElem? (i := 15) rfl)⟩, (List.forall_mem_cons.mpr ⟨⟨gt3 _ (List.mem_of_getElem? (i := 160) rfl), gt3 _ (List.mem_of_getElem? (i := 161) rfl), gt1 _ (List.mem_of_getElem? (i := 16) rfl)⟩, (List.forall_mem_cons.mpr ⟨⟨gt3 _ (List.mem_of_getElem? (i := 179) rfl), gt3 _ (List.mem_of_getElem? (i := 60) rfl), gt1 _ (List.mem_of_getElem? (i := 14) rfl)⟩, (List.forall_mem_cons.mpr ⟨⟨gt4 _ (List.mem_of_getElem? (i := 6) rfl), gt4 _ (List.mem_of_getElem? (i := 7) rfl), gt1 _ (List.mem_of_getElem? (i := 10) rfl)⟩, (List.forall_mem_cons.mpr ⟨⟨gt4 _ (List.mem_of_getElem? (i := 13) rfl), gt4 _ (List.mem_of_getElem? (i := 14) rfl), gt1 _ (List.mem_of_getElem? (i := 13) rfl)⟩, (List.forall_mem_cons.mpr ⟨⟨gt4 _ (List.mem_of_getElem? (i := 20) rfl), gt4 _ (List.mem_of_getElem? (i := 21) rfl), gt1 _ (List.mem_of_getElem? (i := 10) rfl)⟩, (List.forall_mem_cons.mpr ⟨⟨gt4 _ (List.mem_of_getElem? (i := 27) rfl), gt4 _ (List.mem_of_getElem? (i := 28) rfl), gt1 _ (List.mem_of_getElem? (i := 10) rfl)⟩, (List.forall_mem_cons.mpr ⟨⟨gt4 _ (List.mem_of_getElem? (i := 32) rfl), gt4 _ (List.mem_of_getElem? (i := 33) rfl), gt1 _ (List.mem_of_getElem? (i := 10) rfl)⟩, (List.forall_mem_cons.mpr ⟨⟨gt4 _ (List.mem_of_getElem? (i := 35) rfl), gt4 _ (List.mem_of_getElem? (i := 36) rfl), gt1 _ (List.mem_of_getElem? (i := 13) rfl)⟩, (List.forall_mem_cons.mpr ⟨⟨gt4 _ (List.mem_of_getElem? (i := 78) rfl), gt4 _ (List.mem_of_getElem? (i := 14) rfl), gt1 _ (List.mem_of_getElem? (i := 13) rfl)⟩, (List.forall_mem_cons.mpr ⟨⟨gt4 _ (List.mem_of_getElem? (i := 94) rfl), gt4 _ (List.mem_of_getElem? (i := 95) rfl), gt1 _ (List.mem_of_getElem? (i := 14) rfl)⟩, (List.forall_mem_cons.mpr ⟨⟨gt4 _ (List.mem_of_getElem? (i := 109) rfl), gt4 _ (List.mem_of_getElem? (i := 110) rfl), gt1 _ (List.mem_of_getElem? (i := 6) rfl)⟩, (List.forall_mem_cons.mpr ⟨⟨gt4 _ (List.mem_of_getElem? (i := 112) rfl), gt4 _ (List.mem_of_getElem? (i := 113) rfl), gt1 _ (List.mem_of_getElem? (i := 6) rfl)⟩, (List.forall_mem_cons.mpr ⟨⟨gt4 _ (List.mem_of_getElem? (i := 115) rfl), gt4 _ (List.mem_of_getElem? (i := 14) rfl), gt1 _ (List.mem_of_getElem? (i := 13) rfl)⟩, (fun _ h => absurd h List.not_mem_nil)⟩)⟩)⟩)⟩)⟩)⟩)⟩)⟩)⟩)⟩)⟩)⟩)⟩)⟩)⟩)⟩)⟩)⟩)⟩)⟩)⟩)⟩)⟩)⟩)
def gSL_1 : List (Nat × Nat × Nat) := [(8, 161, 251), (6, 82, 10), (10, 44, 251), (11, 347, 1), (11, 350, 2), (11, 315, 9), (12, 104, 153), (12, 119, 161), (12, 154, 157), (12, 170, 183), (12, 194, 190), (12, 200, 192), (12, 203, 191), (12, 206, 193), (12, 225, 200), (12, 256, 208), (12, 266, 211), (12, 279, 219), (12, 300, 237)]
set_option maxRecDepth 100000 in
theorem gSL_1_ok : ∀ q ∈ gSL_1, Cond.methodLink (gown q.1) q.2.1 (gH q.2.2).1 ∈ lw_tbl ∧ Cond.static (gH q.2.2).1 ∈ lw_tbl ∧ Cond.initialized (gH q.2.2).1.cls ∈ lw_tbl := (List.forall_mem_cons.mpr ⟨⟨gt4 _ (List.mem_of_getElem? (i := 116) rfl), gt4 _ (List.mem_of_getElem? (i := 36) rfl), gt1 _ (List.mem_of_getElem? (i := 13) rfl)⟩, (List.forall_mem_cons.mpr ⟨⟨gt4 _ (List.mem_of_getElem? (i := 198) rfl), gt3 _ (List.mem_of_getElem? (i := 60) rfl), gt1 _ (List.mem_of_getElem? (i := 14) rfl)⟩, (List.forall_mem_cons.mpr ⟨⟨gt4 _ (List.mem_of_getElem? (i := 235) rfl), gt4 _ (List.mem_of_getElem? (i := 36) rfl), gt1 _ (List.mem_of_getElem? (i := 13) rfl)⟩, (List.forall_mem_cons.mpr ⟨⟨gt5 _ (List.mem_of_getElem? (i := 18) rfl), gt3 _ (List.mem_of_getElem? (i := 30) rfl), gt1 _ (List.mem_of_getElem? (i := 7) rfl)⟩, (List.forall_mem_cons.mpr ⟨⟨gt5 _ (List.mem_of_getElem? (i := 19) rfl), gt3 _ (List.mem_of_getElem? (i := 37) rfl), gt1 _ (List.mem_of_getElem? (i := 7) rfl)⟩, (List.forall_mem_cons.mpr ⟨⟨gt5 _ (List.mem_of_getElem? (i := 29) rfl), gt3 _ (List.mem_of_getElem? (i := 74) rfl), gt1 _ (List.mem_of_getElem? (i := 14) rfl)⟩, (List.forall_mem_cons.mpr ⟨⟨gt6 _ (List.mem_of_getElem? (i := 16) rfl), gt6 _ (List.mem_of_getElem? (i := 17) rfl), gt1 _ (List.mem_of_getElem? (i := 12) rfl)⟩, (List.forall_mem_cons.mpr ⟨⟨gt6 _ (List.mem_of_getElem? (i := 44) rfl), gt6 _ (List.mem_of_getElem? (i := 45) rfl), gt1 _ (List.mem_of_getElem? (i := 12) rfl)⟩, (List.forall_mem_cons.mpr ⟨⟨gt6 _ (List.mem_of_getElem? (i := 103) rfl), gt6 _ (List.mem_of_getElem? (i := 104) rfl), gt1 _ (List.mem_of_getElem? (i := 12) rfl)⟩, (List.forall_mem_cons.mpr ⟨⟨gt6 _ (List.mem_of_getElem? (i := 134) rfl), gt6 _ (List.mem_of_getElem? (i := 135) rfl), gt1 _ (List.mem_of_getElem? (i := 12) rfl)⟩, (List.forall_mem_cons.mpr ⟨⟨gt6 _ (List.mem_of_getElem? (i := 169) rfl), gt6 _ (List.mem_of_getElem? (i := 170) rfl), gt1 _ (List.mem_of_getElem? (i := 12) rfl)⟩, (List.forall_mem_cons.mpr ⟨⟨gt6 _ (List.mem_of_getElem? (i := 172) rfl), gt6 _ (List.mem_of_getElem? (i := 173) rfl), gt1 _ (List.mem_of_getElem? (i := 12) rfl)⟩, (List.forall_mem_cons.mpr ⟨⟨gt6 _ (List.mem_of_getElem? (i := 175) rfl), gt6 _ (List.mem_of_getElem? (i := 176) rfl), gt1 _ (List.mem_of_getElem? (i := 12) rfl)⟩, (List.forall_mem_cons.mpr ⟨⟨gt6 _ (List.mem_of_getElem? (i := 178) rfl), gt6 _ (List.mem_of_getElem? (i := 179) rfl), gt1 _ (List.mem_of_getElem? (i := 12) rfl)⟩, (List.forall_mem_cons.mpr ⟨⟨gt6 _ (List.mem_of_getElem? (i := 209) rfl), gt6 _ (List.mem_of_getElem? (i := 210) rfl), gt1 _ (List.mem_of_getElem? (i := 12) rfl)⟩, (List.forall_mem_cons.mpr ⟨⟨gt6 _ (List.mem_of_getElem? (i := 228) rfl), gt6 _ (List.mem_of_getElem? (i := 229) rfl), gt1 _ (List.mem_of_getElem? (i := 12) rfl)⟩, (List.forall_mem_cons.mpr ⟨⟨gt6 _ (List.mem_of_getElem? (i := 239) rfl), gt7 _ (List.mem_of_getElem? (i := 0) rfl), gt1 _ (List.mem_of_getElem? (i := 12) rfl)⟩, (List.forall_mem_cons.mpr ⟨⟨gt7 _ (List.mem_of_getElem? (i := 31) rfl), gt7 _ (List.mem_of_getElem? (i := 32) rfl), gt1 _ (List.mem_of_getElem? (i := 12) rfl)⟩, (List.forall_mem_cons.mpr ⟨⟨gt7 _ (List.mem_of_getElem? (i := 90) rfl), gt7 _ (List.mem_of_getElem? (i := 91) rfl), gt1 _ (List.mem_of_getElem? (i := 12) rfl)⟩, (fun _ h => absurd h List.not_mem_nil)⟩)⟩)⟩)⟩)⟩)⟩)⟩)⟩)⟩)⟩)⟩)⟩)⟩)⟩)⟩)⟩)⟩)⟩)⟩)
def gSL : List (Nat × Nat × Nat) := gSL_0 ++ (gSL_1)
theorem gSL_ok : ∀ q ∈ gSL, Cond.methodLink (gown q.1) q.2.1 (gH q.2.2).1 ∈ lw_tbl ∧ Cond.static (gH q.2.2).1 ∈ lw_tbl ∧ Cond.initialized (gH q.2.2).1.cls ∈ lw_tbl := by
  intro q hq
  simp only [gSL, List.mem_append] at hq
  rcases hq with hq | hq
  · exact gSL_0_ok q hq
  · exact gSL_1_ok q hq
def gIL_0 : List (Nat × Nat × Nat) := [(17, 9, 102), (11, 11, 57), (11, 28, 32), (11, 37, 43), (17, 12, 152)]
set_option maxRecDepth 100000 in
theorem gIL_0_ok : ∀ q ∈ gIL_0, Cond.methodLink (gown q.1) q.2.1 (gH q.2.2).1 ∈ lw_tbl ∧ Cond.instanceMethod (gH q.2.2).1 ∈ lw_tbl ∧ Cond.initialized (gH q.2.2).1.cls ∈ lw_tbl := (List.forall_mem_cons.mpr ⟨⟨gt1 _ (List.mem_of_getElem? (i := 20) rfl), gt1 _ (List.mem_of_getElem? (i := 21) rfl), gt1 _ (List.mem_of_getElem? (i := 1) rfl)⟩, (List.forall_mem_cons.mpr ⟨⟨gt1 _ (List.mem_of_getElem? (i := 28) rfl), gt1 _ (List.mem_of_getElem? (i := 29) rfl), gt1 _ (List.mem_of_getElem? (i := 2) rfl)⟩, (List.forall_mem_cons.mpr ⟨⟨gt2 _ (List.mem_of_getElem? (i := 44) rfl), gt2 _ (List.mem_of_getElem? (i := 45) rfl), gt1 _ (List.mem_of_getElem? (i := 8) rfl)⟩, (List.forall_mem_cons.mpr ⟨⟨gt2 _ (List.mem_of_getElem? (i := 95) rfl), gt2 _ (List.mem_of_getElem? (i := 96) rfl), gt1 _ (List.mem_of_getElem? (i := 9) rfl)⟩, (List.forall_mem_cons.mpr ⟨⟨gt5 _ (List.mem_of_getElem? (i := 107) rfl), gt5 _ (List.mem_of_getElem? (i := 108) rfl), gt1 _ (List.mem_of_getElem? (i := 12) rfl)⟩, (fun _ h => absurd h List.not_mem_nil)⟩)⟩)⟩)⟩)⟩)
def gIL : List (Nat × Nat × Nat) := gIL_0
theorem gIL_ok : ∀ q ∈ gIL, Cond.methodLink (gown q.1) q.2.1 (gH q.2.2).1 ∈ lw_tbl ∧ Cond.instanceMethod (gH q.2.2).1 ∈ lw_tbl ∧ Cond.initialized (gH q.2.2).1.cls ∈ lw_tbl := gIL_0_ok
def gNL_0 : List (Nat × Nat × Nat) := [(8, 38, 97), (8, 46, 27), (8, 47, 20), (8, 48, 14), (11, 21, 0), (11, 46, 77), (11, 57, 52)]
set_option maxRecDepth 100000 in
theorem gNL_0_ok : ∀ q ∈ gNL_0, Cond.methodLinkNest (gown q.1) q.2.1 (gH q.2.2).1 "FieldPitches" ∈ lw_tbl ∧ Cond.instanceMethod (gH q.2.2).1 ∈ lw_tbl ∧ Cond.initialized (gH q.2.2).1.cls ∈ lw_tbl := (List.forall_mem_cons.mpr ⟨⟨gt1 _ (List.mem_of_getElem? (i := 40) rfl), gt1 _ (List.mem_of_getElem? (i := 41) rfl), gt1 _ (List.mem_of_getElem? (i := 3) rfl)⟩, (List.forall_mem_cons.mpr ⟨⟨gt1 _ (List.mem_of_getElem? (i := 72) rfl), gt1 _ (List.mem_of_getElem? (i := 73) rfl), gt1 _ (List.mem_of_getElem? (i := 4) rfl)⟩, (List.forall_mem_cons.mpr ⟨⟨gt1 _ (List.mem_of_getElem? (i := 120) rfl), gt1 _ (List.mem_of_getElem? (i := 121) rfl), gt1 _ (List.mem_of_getElem? (i := 5) rfl)⟩, (List.forall_mem_cons.mpr ⟨⟨gt1 _ (List.mem_of_getElem? (i := 196) rfl), gt1 _ (List.mem_of_getElem? (i := 197) rfl), gt1 _ (List.mem_of_getElem? (i := 6) rfl)⟩, (List.forall_mem_cons.mpr ⟨⟨gt2 _ (List.mem_of_getElem? (i := 30) rfl), gt2 _ (List.mem_of_getElem? (i := 31) rfl), gt1 _ (List.mem_of_getElem? (i := 7) rfl)⟩, (List.forall_mem_cons.mpr ⟨⟨gt2 _ (List.mem_of_getElem? (i := 123) rfl), gt2 _ (List.mem_of_getElem? (i := 124) rfl), gt1 _ (List.mem_of_getElem? (i := 10) rfl)⟩, (List.forall_mem_cons.mpr ⟨⟨gt2 _ (List.mem_of_getElem? (i := 169) rfl), gt2 _ (List.mem_of_getElem? (i := 170) rfl), gt1 _ (List.mem_of_getElem? (i := 11) rfl)⟩, (fun _ h => absurd h List.not_mem_nil)⟩)⟩)⟩)⟩)⟩)⟩)⟩)
def gNL : List (Nat × Nat × Nat) := gNL_0
theorem gNL_ok : ∀ q ∈ gNL, Cond.methodLinkNest (gown q.1) q.2.1 (gH q.2.2).1 "FieldPitches" ∈ lw_tbl ∧ Cond.instanceMethod (gH q.2.2).1 ∈ lw_tbl ∧ Cond.initialized (gH q.2.2).1.cls ∈ lw_tbl := gNL_0_ok
def gOL_0 : List (Nat × Nat) := [(11, 3), (8, 3), (10, 3), (4, 1), (3, 3), (2, 5), (0, 3), (5, 3), (6, 3), (9, 3), (7, 3), (12, 1)]
set_option maxRecDepth 100000 in
theorem gOL_0_ok : ∀ q ∈ gOL_0, Cond.methodLink (gown q.1) q.2 Lib.objectInit ∈ lw_tbl := (List.forall_mem_cons.mpr ⟨gt1 _ (List.mem_of_getElem? (i := 23) rfl), (List.forall_mem_cons.mpr ⟨gt1 _ (List.mem_of_getElem? (i := 31) rfl), (List.forall_mem_cons.mpr ⟨gt1 _ (List.mem_of_getElem? (i := 43) rfl), (List.forall_mem_cons.mpr ⟨gt1 _ (List.mem_of_getElem? (i := 75) rfl), (List.forall_mem_cons.mpr ⟨gt1 _ (List.mem_of_getElem? (i := 123) rfl), (List.forall_mem_cons.mpr ⟨gt1 _ (List.mem_of_getElem? (i := 199) rfl), (List.forall_mem_cons.mpr ⟨gt2 _ (List.mem_of_getElem? (i := 33) rfl), (List.forall_mem_cons.mpr ⟨gt2 _ (List.mem_of_getElem? (i := 47) rfl), (List.forall_mem_cons.mpr ⟨gt2 _ (List.mem_of_getElem? (i := 98) rfl), (List.forall_mem_cons.mpr ⟨gt2 _ (List.mem_of_getElem? (i := 126) rfl), (List.forall_mem_cons.mpr ⟨gt2 _ (List.mem_of_getElem? (i := 172) rfl), (List.forall_mem_cons.mpr ⟨gt5 _ (List.mem_of_getElem? (i := 110) rfl), (fun _ h => absurd h List.not_mem_nil)⟩)⟩)⟩)⟩)⟩)⟩)⟩)⟩)⟩)⟩)⟩)⟩)
def gOL : List (Nat × Nat) := gOL_0
theorem gOL_ok : ∀ q ∈ gOL, Cond.methodLink (gown q.1) q.2 Lib.objectInit ∈ lw_tbl := gOL_0_ok
def gAL_0 : List (Nat × Nat) := [(2, 32), (11, 332), (8, 69), (10, 25)]
set_option maxRecDepth 100000 in
theorem gAL_0_ok : ∀ q ∈ gAL_0, Cond.methodLink (gown q.1) q.2 arraycopyName ∈ lw_tbl := (List.forall_mem_cons.mpr ⟨gt4 _ (List.mem_of_getElem? (i := 79) rfl), (List.forall_mem_cons.mpr ⟨gt5 _ (List.mem_of_getElem? (i := 54) rfl), (List.forall_mem_cons.mpr ⟨gt5 _ (List.mem_of_getElem? (i := 71) rfl), (List.forall_mem_cons.mpr ⟨gt5 _ (List.mem_of_getElem? (i := 80) rfl), (fun _ h => absurd h List.not_mem_nil)⟩)⟩)⟩)⟩)
def gAL : List (Nat × Nat) := gAL_0
theorem gAL_ok : ∀ q ∈ gAL, Cond.methodLink (gown q.1) q.2 arraycopyName ∈ lw_tbl := gAL_0_ok
theorem gO_inst : Cond.instanceMethod Lib.objectInit ∈ lw_tbl := gt1 _ (List.mem_of_getElem? (i := 24) rfl)
theorem gO_code : Cond.code Lib.objectInit ⟨#[0xb1]⟩ 1 none ∈ lw_tbl := gt1 _ (List.mem_of_getElem? (i := 25) rfl)
theorem gA_nat : Cond.native arraycopyName ∈ lw_tbl := gt4 _ (List.mem_of_getElem? (i := 81) rfl)
theorem gA_stat : Cond.static arraycopyName ∈ lw_tbl := gt4 _ (List.mem_of_getElem? (i := 80) rfl)
theorem gA_ini : Cond.initialized "java/lang/System" ∈ lw_tbl := gt1 _ (List.mem_of_getElem? (i := 17) rfl)
def gix_MN : Nat := 24
theorem gMN : Cond.classLink RX5 24 "[[I" ∈ lw_tbl := gt2 _ (List.mem_of_getElem? (i := 48) rfl)
def gaC (t : Nat) : String := match t with
  | 3 => "FieldPitches$Pitch"
  | 4 => "FieldPitches$Party"
  | 5 => "FieldPitches$Law"
  | _ => "FieldPitches$Sheet"
def gQL_0 : List (Nat × Nat × Nat) := [(8, 9, 3), (8, 17, 4), (8, 30, 5), (11, 51, 6)]
set_option maxRecDepth 100000 in
theorem gQL_0_ok : ∀ q ∈ gQL_0, Cond.classLink (gown q.1) q.2.1 (gaC q.2.2) ∈ lw_tbl ∧ 3 ≤ q.2.2 ∧ q.2.2 ≤ 6 := (List.forall_mem_cons.mpr ⟨⟨gt1 _ (List.mem_of_getElem? (i := 32) rfl), by decide, by decide⟩, (List.forall_mem_cons.mpr ⟨⟨gt1 _ (List.mem_of_getElem? (i := 34) rfl), by decide, by decide⟩, (List.forall_mem_cons.mpr ⟨⟨gt1 _ (List.mem_of_getElem? (i := 36) rfl), by decide, by decide⟩, (List.forall_mem_cons.mpr ⟨⟨gt2 _ (List.mem_of_getElem? (i := 166) rfl), by decide, by decide⟩, (fun _ h => absurd h List.not_mem_nil)⟩)⟩)⟩)⟩)
def gQL : List (Nat × Nat × Nat) := gQL_0
theorem gQL_ok : ∀ q ∈ gQL, Cond.classLink (gown q.1) q.2.1 (gaC q.2.2) ∈ lw_tbl ∧ 3 ≤ q.2.2 ∧ q.2.2 ≤ 6 := gQL_0_ok
def gCL_0 : List (Nat × Nat × Nat) := [(17, 7, 10), (11, 9, 7), (8, 9, 3), (8, 17, 2), (8, 30, 1), (8, 36, 9), (11, 19, 0), (11, 26, 4), (11, 35, 5), (11, 44, 8), (11, 51, 6), (17, 10, 11)]
set_option maxRecDepth 100000 in
theorem gCL_0_ok : ∀ q ∈ gCL_0, Cond.classLink (gown q.1) q.2.1 (gR q.2.2) ∈ lw_tbl ∧ Cond.instantiable (gR q.2.2) (gN q.2.2) ∈ lw_tbl ∧ Cond.initialized (gR q.2.2) ∈ lw_tbl := (List.forall_mem_cons.mpr ⟨⟨gt1 _ (List.mem_of_getElem? (i := 18) rfl), gt1 _ (List.mem_of_getElem? (i := 19) rfl), gt1 _ (List.mem_of_getElem? (i := 1) rfl)⟩, (List.forall_mem_cons.mpr ⟨⟨gt1 _ (List.mem_of_getElem? (i := 26) rfl), gt1 _ (List.mem_of_getElem? (i := 27) rfl), gt1 _ (List.mem_of_getElem? (i := 2) rfl)⟩, (List.forall_mem_cons.mpr ⟨⟨gt1 _ (List.mem_of_getElem? (i := 32) rfl), gt1 _ (List.mem_of_getElem? (i := 71) rfl), gt1 _ (List.mem_of_getElem? (i := 4) rfl)⟩, (List.forall_mem_cons.mpr ⟨⟨gt1 _ (List.mem_of_getElem? (i := 34) rfl), gt1 _ (List.mem_of_getElem? (i := 119) rfl), gt1 _ (List.mem_of_getElem? (i := 5) rfl)⟩, (List.forall_mem_cons.mpr ⟨⟨gt1 _ (List.mem_of_getElem? (i := 36) rfl), gt1 _ (List.mem_of_getElem? (i := 195) rfl), gt1 _ (List.mem_of_getElem? (i := 6) rfl)⟩, (List.forall_mem_cons.mpr ⟨⟨gt1 _ (List.mem_of_getElem? (i := 38) rfl), gt1 _ (List.mem_of_getElem? (i := 39) rfl), gt1 _ (List.mem_of_getElem? (i := 3) rfl)⟩, (List.forall_mem_cons.mpr ⟨⟨gt2 _ (List.mem_of_getElem? (i := 28) rfl), gt2 _ (List.mem_of_getElem? (i := 29) rfl), gt1 _ (List.mem_of_getElem? (i := 7) rfl)⟩, (List.forall_mem_cons.mpr ⟨⟨gt2 _ (List.mem_of_getElem? (i := 42) rfl), gt2 _ (List.mem_of_getElem? (i := 43) rfl), gt1 _ (List.mem_of_getElem? (i := 8) rfl)⟩, (List.forall_mem_cons.mpr ⟨⟨gt2 _ (List.mem_of_getElem? (i := 93) rfl), gt2 _ (List.mem_of_getElem? (i := 94) rfl), gt1 _ (List.mem_of_getElem? (i := 9) rfl)⟩, (List.forall_mem_cons.mpr ⟨⟨gt2 _ (List.mem_of_getElem? (i := 121) rfl), gt2 _ (List.mem_of_getElem? (i := 122) rfl), gt1 _ (List.mem_of_getElem? (i := 10) rfl)⟩, (List.forall_mem_cons.mpr ⟨⟨gt2 _ (List.mem_of_getElem? (i := 166) rfl), gt2 _ (List.mem_of_getElem? (i := 168) rfl), gt1 _ (List.mem_of_getElem? (i := 11) rfl)⟩, (List.forall_mem_cons.mpr ⟨⟨gt5 _ (List.mem_of_getElem? (i := 105) rfl), gt5 _ (List.mem_of_getElem? (i := 106) rfl), gt1 _ (List.mem_of_getElem? (i := 12) rfl)⟩, (fun _ h => absurd h List.not_mem_nil)⟩)⟩)⟩)⟩)⟩)⟩)⟩)⟩)⟩)⟩)⟩)⟩)
def gCL : List (Nat × Nat × Nat) := gCL_0
theorem gCL_ok : ∀ q ∈ gCL, Cond.classLink (gown q.1) q.2.1 (gR q.2.2) ∈ lw_tbl ∧ Cond.instantiable (gR q.2.2) (gN q.2.2) ∈ lw_tbl ∧ Cond.initialized (gR q.2.2) ∈ lw_tbl := gCL_0_ok
def gKC_0 : List (Nat × Nat × Int) := [(11, 70, -1000001), (11, 79, -1000002), (11, 146, -1000005), (11, 147, -1000003), (11, 163, -1000004), (13, 265, 1431655765), (13, 266, 858993459), (13, 267, 252645135), (11, 244, 16777215), (11, 298, -1000006), (11, 300, -1000007), (12, 68, 53248), (12, 99, -1000001), (12, 278, 16777215)]
set_option maxRecDepth 100000 in
theorem gKC_0_ok : ∀ q ∈ gKC_0, Cond.constant (gown q.1) q.2.1 (Int32.ofInt q.2.2) ∈ lw_tbl := (List.forall_mem_cons.mpr ⟨gt2 _ (List.mem_of_getElem? (i := 221) rfl), (List.forall_mem_cons.mpr ⟨gt2 _ (List.mem_of_getElem? (i := 226) rfl), (List.forall_mem_cons.mpr ⟨gt3 _ (List.mem_of_getElem? (i := 103) rfl), (List.forall_mem_cons.mpr ⟨gt3 _ (List.mem_of_getElem? (i := 104) rfl), (List.forall_mem_cons.mpr ⟨gt3 _ (List.mem_of_getElem? (i := 121) rfl), (List.forall_mem_cons.mpr ⟨gt3 _ (List.mem_of_getElem? (i := 163) rfl), (List.forall_mem_cons.mpr ⟨gt3 _ (List.mem_of_getElem? (i := 164) rfl), (List.forall_mem_cons.mpr ⟨gt3 _ (List.mem_of_getElem? (i := 165) rfl), (List.forall_mem_cons.mpr ⟨gt4 _ (List.mem_of_getElem? (i := 142) rfl), (List.forall_mem_cons.mpr ⟨gt5 _ (List.mem_of_getElem? (i := 8) rfl), (List.forall_mem_cons.mpr ⟨gt5 _ (List.mem_of_getElem? (i := 9) rfl), (List.forall_mem_cons.mpr ⟨gt5 _ (List.mem_of_getElem? (i := 111) rfl), (List.forall_mem_cons.mpr ⟨gt6 _ (List.mem_of_getElem? (i := 23) rfl), (List.forall_mem_cons.mpr ⟨gt7 _ (List.mem_of_getElem? (i := 26) rfl), (fun _ h => absurd h List.not_mem_nil)⟩)⟩)⟩)⟩)⟩)⟩)⟩)⟩)⟩)⟩)⟩)⟩)⟩)⟩)
def gKC : List (Nat × Nat × Int) := gKC_0
theorem gKC_ok : ∀ q ∈ gKC, Cond.constant (gown q.1) q.2.1 (Int32.ofInt q.2.2) ∈ lw_tbl := gKC_0_ok
def gKL_0 : List (Nat × Nat × Int) := [(0, 22, -1), (14, 314, 6148914691236517205), (14, 316, 3689348814741910323), (14, 318, 1085102592571150095)]
set_option maxRecDepth 100000 in
theorem gKL_0_ok : ∀ q ∈ gKL_0, Cond.constantLong (gown q.1) q.2.1 (Int64.ofInt q.2.2) ∈ lw_tbl := (List.forall_mem_cons.mpr ⟨gt3 _ (List.mem_of_getElem? (i := 35) rfl), (List.forall_mem_cons.mpr ⟨gt3 _ (List.mem_of_getElem? (i := 153) rfl), (List.forall_mem_cons.mpr ⟨gt3 _ (List.mem_of_getElem? (i := 154) rfl), (List.forall_mem_cons.mpr ⟨gt3 _ (List.mem_of_getElem? (i := 155) rfl), (fun _ h => absurd h List.not_mem_nil)⟩)⟩)⟩)⟩)
def gKL : List (Nat × Nat × Int) := gKL_0
theorem gKL_ok : ∀ q ∈ gKL, Cond.constantLong (gown q.1) q.2.1 (Int64.ofInt q.2.2) ∈ lw_tbl := gKL_0_ok
def gix_ABOVE : Nat := 9
theorem gSt_ABOVE : Cond.fieldLink "FieldPitches$Kinds" 9 "FieldPitches$Kinds" "ABOVE" "[I" ∈ lw_tbl := gt3 _ (List.mem_of_getElem? (i := 76) rfl)
theorem gSl_ABOVE : Cond.laysStatic "FieldPitches$Kinds" "ABOVE" "[I" ∈ lw_tbl := gt3 _ (List.mem_of_getElem? (i := 77) rfl)
theorem gSi_ABOVE : Cond.initialized "FieldPitches$Kinds" ∈ lw_tbl := gt1 _ (List.mem_of_getElem? (i := 14) rfl)
def gix_NAMES : Nat := 89
theorem gSt_NAMES : Cond.fieldLink "FieldPitches$Tape" 89 "FieldPitches$Tape" "NAMES" "[C" ∈ lw_tbl := gt4 _ (List.mem_of_getElem? (i := 30) rfl)
theorem gSl_NAMES : Cond.laysStatic "FieldPitches$Tape" "NAMES" "[C" ∈ lw_tbl := gt4 _ (List.mem_of_getElem? (i := 31) rfl)
theorem gSi_NAMES : Cond.initialized "FieldPitches$Tape" ∈ lw_tbl := gt1 _ (List.mem_of_getElem? (i := 10) rfl)
set_option maxRecDepth 100000 in
theorem gin0 : ∀ w ∈ u_ws RX0 TX0 2, w ∈ lw_tbl := (List.forall_mem_cons.mpr ⟨gt2 _ (List.mem_of_getElem? (i := 36) rfl), (List.forall_mem_cons.mpr ⟨gt2 _ (List.mem_of_getElem? (i := 38) rfl), (fun _ h => absurd h List.not_mem_nil)⟩)⟩)
set_option maxRecDepth 100000 in
theorem gin1 : ∀ w ∈ u_ws RX2 TX2 4, w ∈ lw_tbl := (List.forall_mem_cons.mpr ⟨gt1 _ (List.mem_of_getElem? (i := 206) rfl), (List.forall_mem_cons.mpr ⟨gt1 _ (List.mem_of_getElem? (i := 208) rfl), (List.forall_mem_cons.mpr ⟨gt1 _ (List.mem_of_getElem? (i := 210) rfl), (List.forall_mem_cons.mpr ⟨gt1 _ (List.mem_of_getElem? (i := 212) rfl), (fun _ h => absurd h List.not_mem_nil)⟩)⟩)⟩)⟩)
set_option maxRecDepth 100000 in
theorem gin2 : ∀ w ∈ u_ws RX3 TX3 14, w ∈ lw_tbl := (List.forall_mem_cons.mpr ⟨gt1 _ (List.mem_of_getElem? (i := 166) rfl), (List.forall_mem_cons.mpr ⟨gt1 _ (List.mem_of_getElem? (i := 168) rfl), (List.forall_mem_cons.mpr ⟨gt1 _ (List.mem_of_getElem? (i := 170) rfl), (List.forall_mem_cons.mpr ⟨gt1 _ (List.mem_of_getElem? (i := 172) rfl), (List.forall_mem_cons.mpr ⟨gt1 _ (List.mem_of_getElem? (i := 174) rfl), (List.forall_mem_cons.mpr ⟨gt1 _ (List.mem_of_getElem? (i := 176) rfl), (List.forall_mem_cons.mpr ⟨gt1 _ (List.mem_of_getElem? (i := 178) rfl), (List.forall_mem_cons.mpr ⟨gt1 _ (List.mem_of_getElem? (i := 180) rfl), (List.forall_mem_cons.mpr ⟨gt1 _ (List.mem_of_getElem? (i := 182) rfl), (List.forall_mem_cons.mpr ⟨gt1 _ (List.mem_of_getElem? (i := 184) rfl), (List.forall_mem_cons.mpr ⟨gt1 _ (List.mem_of_getElem? (i := 186) rfl), (List.forall_mem_cons.mpr ⟨gt1 _ (List.mem_of_getElem? (i := 188) rfl), (List.forall_mem_cons.mpr ⟨gt1 _ (List.mem_of_getElem? (i := 190) rfl), (List.forall_mem_cons.mpr ⟨gt1 _ (List.mem_of_getElem? (i := 192) rfl), (fun _ h => absurd h List.not_mem_nil)⟩)⟩)⟩)⟩)⟩)⟩)⟩)⟩)⟩)⟩)⟩)⟩)⟩)⟩)
set_option maxRecDepth 100000 in
theorem gin3 : ∀ w ∈ u_ws RX4 TX4 10, w ∈ lw_tbl := (List.forall_mem_cons.mpr ⟨gt1 _ (List.mem_of_getElem? (i := 98) rfl), (List.forall_mem_cons.mpr ⟨gt1 _ (List.mem_of_getElem? (i := 100) rfl), (List.forall_mem_cons.mpr ⟨gt1 _ (List.mem_of_getElem? (i := 102) rfl), (List.forall_mem_cons.mpr ⟨gt1 _ (List.mem_of_getElem? (i := 104) rfl), (List.forall_mem_cons.mpr ⟨gt1 _ (List.mem_of_getElem? (i := 106) rfl), (List.forall_mem_cons.mpr ⟨gt1 _ (List.mem_of_getElem? (i := 108) rfl), (List.forall_mem_cons.mpr ⟨gt1 _ (List.mem_of_getElem? (i := 110) rfl), (List.forall_mem_cons.mpr ⟨gt1 _ (List.mem_of_getElem? (i := 112) rfl), (List.forall_mem_cons.mpr ⟨gt1 _ (List.mem_of_getElem? (i := 114) rfl), (List.forall_mem_cons.mpr ⟨gt1 _ (List.mem_of_getElem? (i := 116) rfl), (fun _ h => absurd h List.not_mem_nil)⟩)⟩)⟩)⟩)⟩)⟩)⟩)⟩)⟩)⟩)
set_option maxRecDepth 100000 in
theorem gin4 : ∀ w ∈ u_ws RX5 TX5 14, w ∈ lw_tbl := (List.forall_mem_cons.mpr ⟨gt2 _ (List.mem_of_getElem? (i := 64) rfl), (List.forall_mem_cons.mpr ⟨gt2 _ (List.mem_of_getElem? (i := 66) rfl), (List.forall_mem_cons.mpr ⟨gt2 _ (List.mem_of_getElem? (i := 68) rfl), (List.forall_mem_cons.mpr ⟨gt2 _ (List.mem_of_getElem? (i := 70) rfl), (List.forall_mem_cons.mpr ⟨gt2 _ (List.mem_of_getElem? (i := 72) rfl), (List.forall_mem_cons.mpr ⟨gt2 _ (List.mem_of_getElem? (i := 74) rfl), (List.forall_mem_cons.mpr ⟨gt2 _ (List.mem_of_getElem? (i := 76) rfl), (List.forall_mem_cons.mpr ⟨gt2 _ (List.mem_of_getElem? (i := 78) rfl), (List.forall_mem_cons.mpr ⟨gt2 _ (List.mem_of_getElem? (i := 80) rfl), (List.forall_mem_cons.mpr ⟨gt2 _ (List.mem_of_getElem? (i := 82) rfl), (List.forall_mem_cons.mpr ⟨gt2 _ (List.mem_of_getElem? (i := 84) rfl), (List.forall_mem_cons.mpr ⟨gt2 _ (List.mem_of_getElem? (i := 86) rfl), (List.forall_mem_cons.mpr ⟨gt2 _ (List.mem_of_getElem? (i := 88) rfl), (List.forall_mem_cons.mpr ⟨gt2 _ (List.mem_of_getElem? (i := 90) rfl), (fun _ h => absurd h List.not_mem_nil)⟩)⟩)⟩)⟩)⟩)⟩)⟩)⟩)⟩)⟩)⟩)⟩)⟩)⟩)
set_option maxRecDepth 100000 in
theorem gin5 : ∀ w ∈ u_ws RX6 TX6 7, w ∈ lw_tbl := (List.forall_mem_cons.mpr ⟨gt2 _ (List.mem_of_getElem? (i := 106) rfl), (List.forall_mem_cons.mpr ⟨gt2 _ (List.mem_of_getElem? (i := 108) rfl), (List.forall_mem_cons.mpr ⟨gt2 _ (List.mem_of_getElem? (i := 110) rfl), (List.forall_mem_cons.mpr ⟨gt2 _ (List.mem_of_getElem? (i := 112) rfl), (List.forall_mem_cons.mpr ⟨gt2 _ (List.mem_of_getElem? (i := 114) rfl), (List.forall_mem_cons.mpr ⟨gt2 _ (List.mem_of_getElem? (i := 116) rfl), (List.forall_mem_cons.mpr ⟨gt2 _ (List.mem_of_getElem? (i := 118) rfl), (fun _ h => absurd h List.not_mem_nil)⟩)⟩)⟩)⟩)⟩)⟩)⟩)
set_option maxRecDepth 100000 in
theorem gin6 : ∀ w ∈ u_ws RX7 TX7 3, w ∈ lw_tbl := (List.forall_mem_cons.mpr ⟨gt2 _ (List.mem_of_getElem? (i := 179) rfl), (List.forall_mem_cons.mpr ⟨gt2 _ (List.mem_of_getElem? (i := 181) rfl), (List.forall_mem_cons.mpr ⟨gt2 _ (List.mem_of_getElem? (i := 183) rfl), (fun _ h => absurd h List.not_mem_nil)⟩)⟩)⟩)
set_option maxRecDepth 100000 in
theorem gin7 : ∀ w ∈ u_ws RX8 TX8 11, w ∈ lw_tbl := (List.forall_mem_cons.mpr ⟨gt2 _ (List.mem_of_getElem? (i := 5) rfl), (List.forall_mem_cons.mpr ⟨gt2 _ (List.mem_of_getElem? (i := 7) rfl), (List.forall_mem_cons.mpr ⟨gt2 _ (List.mem_of_getElem? (i := 9) rfl), (List.forall_mem_cons.mpr ⟨gt2 _ (List.mem_of_getElem? (i := 11) rfl), (List.forall_mem_cons.mpr ⟨gt2 _ (List.mem_of_getElem? (i := 13) rfl), (List.forall_mem_cons.mpr ⟨gt2 _ (List.mem_of_getElem? (i := 15) rfl), (List.forall_mem_cons.mpr ⟨gt2 _ (List.mem_of_getElem? (i := 17) rfl), (List.forall_mem_cons.mpr ⟨gt2 _ (List.mem_of_getElem? (i := 19) rfl), (List.forall_mem_cons.mpr ⟨gt2 _ (List.mem_of_getElem? (i := 21) rfl), (List.forall_mem_cons.mpr ⟨gt2 _ (List.mem_of_getElem? (i := 23) rfl), (List.forall_mem_cons.mpr ⟨gt2 _ (List.mem_of_getElem? (i := 25) rfl), (fun _ h => absurd h List.not_mem_nil)⟩)⟩)⟩)⟩)⟩)⟩)⟩)⟩)⟩)⟩)⟩)
set_option maxRecDepth 100000 in
theorem gin8 : ∀ w ∈ u_ws RX9 TX9 11, w ∈ lw_tbl := (List.forall_mem_cons.mpr ⟨gt2 _ (List.mem_of_getElem? (i := 143) rfl), (List.forall_mem_cons.mpr ⟨gt2 _ (List.mem_of_getElem? (i := 145) rfl), (List.forall_mem_cons.mpr ⟨gt2 _ (List.mem_of_getElem? (i := 147) rfl), (List.forall_mem_cons.mpr ⟨gt2 _ (List.mem_of_getElem? (i := 149) rfl), (List.forall_mem_cons.mpr ⟨gt2 _ (List.mem_of_getElem? (i := 151) rfl), (List.forall_mem_cons.mpr ⟨gt2 _ (List.mem_of_getElem? (i := 153) rfl), (List.forall_mem_cons.mpr ⟨gt2 _ (List.mem_of_getElem? (i := 155) rfl), (List.forall_mem_cons.mpr ⟨gt2 _ (List.mem_of_getElem? (i := 157) rfl), (List.forall_mem_cons.mpr ⟨gt2 _ (List.mem_of_getElem? (i := 159) rfl), (List.forall_mem_cons.mpr ⟨gt2 _ (List.mem_of_getElem? (i := 161) rfl), (List.forall_mem_cons.mpr ⟨gt2 _ (List.mem_of_getElem? (i := 163) rfl), (fun _ h => absurd h List.not_mem_nil)⟩)⟩)⟩)⟩)⟩)⟩)⟩)⟩)⟩)⟩)⟩)
set_option maxRecDepth 100000 in
theorem gin9 : ∀ w ∈ u_ws RX10 TX10 7, w ∈ lw_tbl := (List.forall_mem_cons.mpr ⟨gt1 _ (List.mem_of_getElem? (i := 55) rfl), (List.forall_mem_cons.mpr ⟨gt1 _ (List.mem_of_getElem? (i := 57) rfl), (List.forall_mem_cons.mpr ⟨gt1 _ (List.mem_of_getElem? (i := 59) rfl), (List.forall_mem_cons.mpr ⟨gt1 _ (List.mem_of_getElem? (i := 61) rfl), (List.forall_mem_cons.mpr ⟨gt1 _ (List.mem_of_getElem? (i := 63) rfl), (List.forall_mem_cons.mpr ⟨gt1 _ (List.mem_of_getElem? (i := 65) rfl), (List.forall_mem_cons.mpr ⟨gt1 _ (List.mem_of_getElem? (i := 67) rfl), (fun _ h => absurd h List.not_mem_nil)⟩)⟩)⟩)⟩)⟩)⟩)⟩)
set_option maxRecDepth 100000 in
theorem gin10 : ∀ w ∈ u_ws RX11 TX11 9, w ∈ lw_tbl := (List.forall_mem_cons.mpr ⟨gt2 _ (List.mem_of_getElem? (i := 195) rfl), (List.forall_mem_cons.mpr ⟨gt2 _ (List.mem_of_getElem? (i := 197) rfl), (List.forall_mem_cons.mpr ⟨gt2 _ (List.mem_of_getElem? (i := 199) rfl), (List.forall_mem_cons.mpr ⟨gt2 _ (List.mem_of_getElem? (i := 201) rfl), (List.forall_mem_cons.mpr ⟨gt2 _ (List.mem_of_getElem? (i := 203) rfl), (List.forall_mem_cons.mpr ⟨gt2 _ (List.mem_of_getElem? (i := 205) rfl), (List.forall_mem_cons.mpr ⟨gt2 _ (List.mem_of_getElem? (i := 207) rfl), (List.forall_mem_cons.mpr ⟨gt2 _ (List.mem_of_getElem? (i := 209) rfl), (List.forall_mem_cons.mpr ⟨gt2 _ (List.mem_of_getElem? (i := 211) rfl), (fun _ h => absurd h List.not_mem_nil)⟩)⟩)⟩)⟩)⟩)⟩)⟩)⟩)⟩)
set_option maxRecDepth 100000 in
theorem gin11 : ∀ w ∈ u_ws RX12 TX12 46, w ∈ lw_tbl := (List.forall_mem_cons.mpr ⟨gt5 _ (List.mem_of_getElem? (i := 158) rfl), (List.forall_mem_cons.mpr ⟨gt5 _ (List.mem_of_getElem? (i := 160) rfl), (List.forall_mem_cons.mpr ⟨gt5 _ (List.mem_of_getElem? (i := 162) rfl), (List.forall_mem_cons.mpr ⟨gt5 _ (List.mem_of_getElem? (i := 164) rfl), (List.forall_mem_cons.mpr ⟨gt5 _ (List.mem_of_getElem? (i := 166) rfl), (List.forall_mem_cons.mpr ⟨gt5 _ (List.mem_of_getElem? (i := 168) rfl), (List.forall_mem_cons.mpr ⟨gt5 _ (List.mem_of_getElem? (i := 170) rfl), (List.forall_mem_cons.mpr ⟨gt5 _ (List.mem_of_getElem? (i := 172) rfl), (List.forall_mem_cons.mpr ⟨gt5 _ (List.mem_of_getElem? (i := 174) rfl), (List.forall_mem_cons.mpr ⟨gt5 _ (List.mem_of_getElem? (i := 176) rfl), (List.forall_mem_cons.mpr ⟨gt5 _ (List.mem_of_getElem? (i := 178) rfl), (List.forall_mem_cons.mpr ⟨gt5 _ (List.mem_of_getElem? (i := 180) rfl), (List.forall_mem_cons.mpr ⟨gt5 _ (List.mem_of_getElem? (i := 182) rfl), (List.forall_mem_cons.mpr ⟨gt5 _ (List.mem_of_getElem? (i := 184) rfl), (List.forall_mem_cons.mpr ⟨gt5 _ (List.mem_of_getElem? (i := 186) rfl), (List.forall_mem_cons.mpr ⟨gt5 _ (List.mem_of_getElem? (i := 188) rfl), (List.forall_mem_cons.mpr ⟨gt5 _ (List.mem_of_getElem? (i := 190) rfl), (List.forall_mem_cons.mpr ⟨gt5 _ (List.mem_of_getElem? (i := 192) rfl), (List.forall_mem_cons.mpr ⟨gt5 _ (List.mem_of_getElem? (i := 194) rfl), (List.forall_mem_cons.mpr ⟨gt5 _ (List.mem_of_getElem? (i := 196) rfl), (List.forall_mem_cons.mpr ⟨gt5 _ (List.mem_of_getElem? (i := 198) rfl), (List.forall_mem_cons.mpr ⟨gt5 _ (List.mem_of_getElem? (i := 200) rfl), (List.forall_mem_cons.mpr ⟨gt5 _ (List.mem_of_getElem? (i := 202) rfl), (List.forall_mem_cons.mpr ⟨gt5 _ (List.mem_of_getElem? (i := 204) rfl), (List.forall_mem_cons.mpr ⟨gt5 _ (List.mem_of_getElem? (i := 206) rfl), (List.forall_mem_cons.mpr ⟨gt5 _ (List.mem_of_getElem? (i := 208) rfl), (List.forall_mem_cons.mpr ⟨gt5 _ (List.mem_of_getElem? (i := 210) rfl), (List.forall_mem_cons.mpr ⟨gt5 _ (List.mem_of_getElem? (i := 212) rfl), (List.forall_mem_cons.mpr ⟨gt5 _ (List.mem_of_getElem? (i := 214) rfl), (List.forall_mem_cons.mpr ⟨gt5 _ (List.mem_of_getElem? (i := 216) rfl), (List.forall_mem_cons.mpr ⟨gt5 _ (List.mem_of_getElem? (i := 218) rfl), (List.forall_mem_cons.mpr ⟨gt5 _ (List.mem_of_getElem? (i := 220) rfl), (List.forall_mem_cons.mpr ⟨gt5 _ (List.mem_of_getElem? (i := 222) rfl), (List.forall_mem_cons.mpr ⟨gt5 _ (List.mem_of_getElem? (i := 224) rfl), (List.forall_mem_cons.mpr ⟨gt5 _ (List.mem_of_getElem? (i := 226) rfl), (List.forall_mem_cons.mpr ⟨gt5 _ (List.mem_of_getElem? (i := 228) rfl), (List.forall_mem_cons.mpr ⟨gt5 _ (List.mem_of_getElem? (i := 230) rfl), (List.forall_mem_cons.mpr ⟨gt5 _ (List.mem_of_getElem? (i := 232) rfl), (List.forall_mem_cons.mpr ⟨gt5 _ (List.mem_of_getElem? (i := 234) rfl), (List.forall_mem_cons.mpr ⟨gt5 _ (List.mem_of_getElem? (i := 236) rfl), (List.forall_mem_cons.mpr ⟨gt5 _ (List.mem_of_getElem? (i := 238) rfl), (List.forall_mem_cons.mpr ⟨gt6 _ (List.mem_of_getElem? (i := 0) rfl), (List.forall_mem_cons.mpr ⟨gt6 _ (List.mem_of_getElem? (i := 2) rfl), (List.forall_mem_cons.mpr ⟨gt6 _ (List.mem_of_getElem? (i := 4) rfl), (List.forall_mem_cons.mpr ⟨gt6 _ (List.mem_of_getElem? (i := 6) rfl), (List.forall_mem_cons.mpr ⟨gt6 _ (List.mem_of_getElem? (i := 8) rfl), (fun _ h => absurd h List.not_mem_nil)⟩)⟩)⟩)⟩)⟩)⟩)⟩)⟩)⟩)⟩)⟩)⟩)⟩)⟩)⟩)⟩)⟩)⟩)⟩)⟩)⟩)⟩)⟩)⟩)⟩)⟩)⟩)⟩)⟩)⟩)⟩)⟩)⟩)⟩)⟩)⟩)⟩)⟩)⟩)⟩)⟩)⟩)⟩)⟩)⟩)⟩)
theorem gac_int : Cond.arrayClass .int ∈ lw_tbl := gt1 _ (List.mem_of_getElem? (i := 70) rfl)
theorem gac_boolean : Cond.arrayClass .boolean ∈ lw_tbl := gt6 _ (List.mem_of_getElem? (i := 11) rfl)
theorem gac_long : Cond.arrayClass .long ∈ lw_tbl := gt2 _ (List.mem_of_getElem? (i := 41) rfl)
theorem gao_Pitch : Cond.arrayOver (.object "FieldPitches$Pitch") ∈ lw_tbl := gt1 _ (List.mem_of_getElem? (i := 33) rfl)
theorem gao_Party : Cond.arrayOver (.object "FieldPitches$Party") ∈ lw_tbl := gt1 _ (List.mem_of_getElem? (i := 35) rfl)
theorem gao_Law : Cond.arrayOver (.object "FieldPitches$Law") ∈ lw_tbl := gt1 _ (List.mem_of_getElem? (i := 37) rfl)
theorem gao_Sheet : Cond.arrayOver (.object "FieldPitches$Sheet") ∈ lw_tbl := gt2 _ (List.mem_of_getElem? (i := 167) rfl)
theorem gao_int : Cond.arrayOver (.array .int) ∈ lw_tbl := gt2 _ (List.mem_of_getElem? (i := 49) rfl)
end
section
/-! ===== ints as numbers ===== -/
def iI (z : Int) : Int32 := Int32.ofInt z
def rng (z : Int) : Prop := -2147483648 ≤ z ∧ z < 2147483648
theorem iI_add (a b : Int) : iI a + iI b = iI (a + b) := by unfold iI; rw [Int32.ofInt_add]
theorem iI_sub (a b : Int) : iI a - iI b = iI (a - b) := by unfold iI; rw [Int32.ofInt_sub]
theorem iI_mul (a b : Int) : iI a * iI b = iI (a * b) := by unfold iI; rw [Int32.ofInt_mul]
theorem iI_neg (a : Int) : - iI a = iI (- a) := by unfold iI; rw [Int32.ofInt_neg]
theorem iI_toInt {z : Int} (h : rng z) : (iI z).toInt = z := by unfold iI; exact Int32.toInt_ofInt_of_le h.1 h.2
theorem iI_of (x : Int32) : iI x.toInt = x := by unfold iI; simp
theorem rng_of (x : Int32) : rng x.toInt := ⟨Int32.le_toInt x, Int32.toInt_lt x⟩
theorem iI_inj {a b : Int} (ha : rng a) (hb : rng b) : iI a = iI b ↔ a = b := ⟨fun h => by rw [← iI_toInt ha, ← iI_toInt hb, h], fun h => by rw [h]⟩
theorem iI_lt {a b : Int} (ha : rng a) (hb : rng b) : iI a < iI b ↔ a < b := by rw [Int32.lt_iff_toInt_lt, iI_toInt ha, iI_toInt hb]
theorem iI_le {a b : Int} (ha : rng a) (hb : rng b) : iI a ≤ iI b ↔ a ≤ b := by rw [Int32.le_iff_toInt_le, iI_toInt ha, iI_toInt hb]
theorem iI_div {a b : Int} (ha : rng a) (hb : rng b) (hr : rng (a.tdiv b)) : iI a / iI b = iI (a.tdiv b) := by
  apply Int32.toInt_inj.mp
  rw [iI_toInt hr, Int32.toInt_div, iI_toInt ha, iI_toInt hb]
  exact Int.bmod_eq_of_le (by have := hr.1; simpa using this) (by have := hr.2; simpa using this)
theorem iI_mod {a b : Int} (ha : rng a) (hb : rng b) (hr : rng (a.tmod b)) : iI a % iI b = iI (a.tmod b) := by
  apply Int32.toInt_inj.mp
  rw [iI_toInt hr, Int32.toInt_mod, iI_toInt ha, iI_toInt hb]
theorem iI_clamp {z : Int} (h : rng z) : (iI z).toNatClampNeg = z.toNat := by
  show (iI z).toInt.toNat = z.toNat
  rw [iI_toInt h]
theorem iI_in {z : Int} {n : Nat} (h0 : 0 ≤ z) (h1 : z < n) (hn : n < 2147483648) : vp_in (iI z) n := by
  have hr : rng z := ⟨by omega, by omega⟩
  unfold vp_in
  rintro (h | h)
  · rw [show (0 : Int32) = iI 0 from rfl, iI_lt hr ⟨by omega, by omega⟩] at h
    omega
  · rw [iI_clamp hr] at h
    omega
end
section
/-! ===== THE ABSTRACT MACHINE. Values: numbers (ints as Int), longs, cells by their place in the world, static rows. ===== -/
abbrev gV : Type := Int ⊕ (Int64 ⊕ (Option Nat ⊕ Nat))
abbrev gi (z : Int) : gV := .inl z
abbrev gl (x : Int64) : gV := .inr (.inl x)
abbrev gr (a : Nat) : gV := .inr (.inr (.inl (some a)))
abbrev gn : gV := .inr (.inr (.inl none))
abbrev gs (k : Nat) : gV := .inr (.inr (.inr k))
/-- the world: a cell's kind (below 100: an object of that class; 100 and on: an array of that type) and length; what ints, longs and references the cells hold -/
abbrev gMe : Type := List (Nat × Nat) × (Nat → Nat → Int) × (Nat → Nat → Int64) × (Nat → Nat → Option Nat)
/-- what is fixed: classes and slots; array classes; the world's first address; the static rows' addresses; the script's length and ints; whether cells may still be made -/
abbrev gG : Type := va_G × (Nat → ClassId) × Nat × (Nat → Nat) × Nat × (Nat → Int) × Bool
def gb (G : gG) : Nat := G.2.2.1
def gA (G : gG) : Nat → Prop := fun q => gb G ≤ q
def gup (G : gG) : gV → Value
  | .inl z => .int (iI z)
  | .inr (.inl x) => .long x
  | .inr (.inr (.inl r)) => va_rf (r.map (fun a => gb G + a))
  | .inr (.inr (.inr k)) => .ref (G.2.2.2.1 k)
def gaty (t : Nat) : FieldType := match t with
  | 0 => .int
  | 1 => .boolean
  | 2 => .long
  | 3 => .object "FieldPitches$Pitch"
  | 4 => .object "FieldPitches$Party"
  | 5 => .object "FieldPitches$Law"
  | 6 => .object "FieldPitches$Sheet"
  | _ => .array .int
def gtys (G : gG) : List (ClassId × FieldType) := [(G.2.1 0, gaty 0), (G.2.1 1, gaty 1), (G.2.1 2, gaty 2), (G.2.1 3, gaty 3), (G.2.1 4, gaty 4), (G.2.1 5, gaty 5), (G.2.1 6, gaty 6), (G.2.1 7, gaty 7)]
def gfv (G : gG) (M : gMe) (a c k : Nat) : Value := match gty c k with
  | .int => .int (iI (M.2.1 a k))
  | .boolean => .int (iI (M.2.1 a k))
  | .long => .long (M.2.2.1 a k)
  | _ => va_rf ((M.2.2.2 a k).map (fun x => gb G + x))
def gent (G : gG) (M : gMe) (a : Nat) (q : Nat × Nat) : va_E := if q.1 < 100 then .inr (q.1, (List.range (gN q.1)).map (gfv G M a q.1)) else .inl (G.2.1 (q.1 - 100), q.2, if q.1 ≤ 101 then .inl (fun j => iI (M.2.1 a j)) else if q.1 = 102 then .inr (.inl (M.2.2.1 a)) else .inr (.inr (.inr (.inr (fun j => (M.2.2.2 a j).map (fun x => gb G + x))))))
def gWd (G : gG) (M : gMe) (H : Heap) : Prop := gb G + M.1.length ≤ H.size ∧ (G.2.2.2.2.2.2 = true → H.size = gb G + M.1.length) ∧ ∀ (a : Nat) (q : Nat × Nat), M.1[a]? = some q → va_at G.1 vwCl (gb G + a, gent G M a q) H
/-- the static rows: ABOVE, NAMES, the script -/
def gsn (G : gG) (k : Nat) : Nat := match k with
  | 0 => 5
  | 1 => 6
  | _ => G.2.2.2.2.1
def gsc (G : gG) (k : Nat) : Nat → Int := match k with
  | 0 => fun j => match j with
    | 0 => -1
    | 1 => 0
    | 2 => 0
    | _ => 2
  | 1 => fun j => match j with
    | 0 => 108
    | 1 => 97
    | 2 => 110
    | 3 => 107
    | 4 => 100
    | _ => 111
  | _ => G.2.2.2.2.2.1
def gsT (G : gG) (k : Nat) (ty : FieldType) (s : State) : Prop := va_T ty (G.2.2.2.1 k) (gsn G k) (fun j => .int (iI (gsc G k j))) (gA G) s s.heap
def gSt (G : gG) (s : State) : Prop := gb G ≤ s.heap.size ∧ va_Z "FieldPitches$Kinds" "ABOVE" "[I" (.ref (G.2.2.2.1 0)) (gA G) s s.heap ∧ gsT G 0 .int s ∧ va_Z "FieldPitches$Tape" "NAMES" "[C" (.ref (G.2.2.2.1 1)) (gA G) s s.heap ∧ gsT G 1 .char s ∧ gsT G 2 .int s
def gAOA (U : State) : Prop := (Cond.arrayOver (.array .int)).before #[] U = true
theorem gAOA_moved {u U : State} (hvm : u.vm.Alike U.vm) (h : gAOA u) : gAOA U := by
  obtain ⟨comp, c, k, h1, h2, h3, h4, h5⟩ := arrayOverA_spec h
  obtain ⟨k', hk', he⟩ := hvm.2.2 _ _ h3
  have hi : (U.vm.classes.findIdx? fun (x : Class) => match x.kind with | .array component _ => component == comp | _ => false) = some c := by
    rw [hvm.findIdx?_eq _ (fun _ => rfl)]
    exact h2
  have hkind : k'.kind = .array comp (.array .int) := by rw [he]; exact h4
  have f1 : U.vm.findClass (FieldType.array .int).toString = some comp := by rw [hvm.findClass]; exact h1
  have f2 : U.vm.findClass ("[" ++ (FieldType.array .int).toString) = some c := by rw [hvm.findClass]; exact h5
  unfold gAOA Cond.before Cond.holds
  simp only [Cond.value]
  rw [f1, Option.bind_some]
  refine (congrArg (fun o : Option Nat => (o.bind (fun c => (U.vm.classes[c]?).map fun (k : Class) => match k.kind with | .array _ ty => decide (ty = FieldType.array .int) && decide (U.vm.findClass ("[" ++ (FieldType.array .int).toString) = some c) | _ => false) == some true)) hi).trans ?_
  simp [hk', hkind, f2]
def gNs (s : State) : Prop := (∀ q ∈ gNL, va_Nw (.methodLinkNest (gown q.1) q.2.1 (gH q.2.2).1 "FieldPitches") s) ∧ va_AO "FieldPitches$Pitch" s ∧ va_AO "FieldPitches$Party" s ∧ va_AO "FieldPitches$Law" s ∧ va_AO "FieldPitches$Sheet" s ∧ gAOA s
theorem gNs_moved {s U : State} (hW : s.WarmedH U.vm) (h : gNs s) : gNs U := ⟨fun q hq => va_Nw.warmM hW (h.1 q hq), h.2.1.moved hW.alike, h.2.2.1.moved hW.alike, h.2.2.2.1.moved hW.alike, h.2.2.2.2.1.moved hW.alike, gAOA_moved hW.alike h.2.2.2.2.2⟩
def gTB : List Cond := lw_tbl.filter goodWord
theorem gTB_in {w : Cond} (h : w ∈ lw_tbl) (hg : goodWord w = true) : w ∈ gTB := List.mem_filter.mpr ⟨h, hg⟩
theorem gTB_good (h : gHd) (hh : gcw h ∈ lw_tbl) : GoodIn gTB (gcw h :: gTB) := by
  intro w hw
  rcases List.mem_cons.mp hw with rfl | hw
  · exact ⟨gTB_in hh rfl, good_of_word rfl⟩
  · exact ⟨hw, good_of_word (List.mem_filter.mp hw).2⟩
/-- the statics stay -/
theorem gSt_moved {G : gG} {s U : State} (hvm : s.vm.Alike U.vm) (hz : s.heap.size ≤ U.heap.size) (hq : ∀ a : Nat, a < s.heap.size → ¬ gA G a → U.heap[a]? = s.heap[a]?) (h : gSt G s) : gSt G U :=
  ⟨Nat.le_trans h.1 hz, (h.2.1.moved hvm).kept hq, (va_T.moved hvm h.2.2.1).kept hq, (h.2.2.2.1.moved hvm).kept hq, (va_T.moved hvm h.2.2.2.2.1).kept hq, (va_T.moved hvm h.2.2.2.2.2).kept hq⟩
/-! ===== instructions, resolved: a number for what it does, a number, two places, where it goes on ===== -/
abbrev gRI : Type := Nat × Int × Nat × Nat × Nat
abbrev gMt : Type := Nat × List (Nat × gRI) × List (Nat × List (Int × Nat))
def gcc (j : Nat) : ByteArray := (gH j).2.1
def gok (j : Nat) (sw : List (Nat × List (Int × Nat))) (pc op : Nat) (z : Int) (x y nx : Nat) : Bool :=
  let d := decode (gcc j) pc
  let o := (gH j).2.2.2.2
  let f4 : Fin 4 := Fin.ofNat 4 x
  match op with
  | 0 => (decide (d = .ok (.iconst z, 1)) && decide (nx = pc + 1)) || (decide (d = .ok (.bipush z, 2)) && decide (nx = pc + 2) && decide (-128 ≤ z) && decide (z < 128)) || (decide (d = .ok (.sipush z, 3)) && decide (nx = pc + 3) && decide (-32768 ≤ z) && decide (z < 32768)) || gKC.any (fun q => decide (q.1 = o) && decide (q.2.2 = z) && ((decide (d = .ok (.ldc q.2.1, 2)) && decide (nx = pc + 2)) || (decide (d = .ok (.ldc_w q.2.1, 3)) && decide (nx = pc + 3))))
  | 1 => (decide (d = .ok (.lconst 0, 1)) && decide (nx = pc + 1) && decide (z = 0)) || (decide (d = .ok (.lconst 1, 1)) && decide (nx = pc + 1) && decide (z = 1)) || gKL.any (fun q => decide (q.1 = o) && decide (q.2.2 = z) && decide (d = .ok (.ldc2_w q.2.1, 3)) && decide (nx = pc + 3))
  | 2 => (decide (x < 4) && decide (nx = pc + 1) && (decide (d = .ok (.iload_n f4, 1)) && decide (y = 0) || decide (d = .ok (.lload_n f4, 1)) && decide (y = 1) || decide (d = .ok (.aload_n f4, 1)) && decide (y = 2))) || (decide (nx = pc + 2) && (decide (d = .ok (.iload x, 2)) && decide (y = 0) || decide (d = .ok (.lload x, 2)) && decide (y = 1) || decide (d = .ok (.aload x, 2)) && decide (y = 2)))
  | 3 => (decide (x < 4) && decide (nx = pc + 1) && (decide (d = .ok (.istore_n f4, 1)) && decide (y = 0) || decide (d = .ok (.astore_n f4, 1)) && decide (y = 2))) || (decide (nx = pc + 2) && (decide (d = .ok (.istore x, 2)) && decide (y = 0) || decide (d = .ok (.astore x, 2)) && decide (y = 2)))
  | 4 => (decide (x < 4) && decide (nx = pc + 1) && decide (d = .ok (.lstore_n f4, 1))) || (decide (nx = pc + 2) && decide (d = .ok (.lstore x, 2)))
  | 5 => decide (d = .ok (.iinc x z, 3)) && decide (nx = pc + 3)
  | 6 => decide (d = .ok (.dup, 1)) && decide (nx = pc + 1)
  | 7 => decide (d = .ok (.dup2, 1)) && decide (nx = pc + 1)
  | 8 => decide (d = .ok (.pop, 1)) && decide (nx = pc + 1)
  | 10 => decide (d = .ok (.iadd, 1)) && decide (nx = pc + 1)
  | 11 => decide (d = .ok (.isub, 1)) && decide (nx = pc + 1)
  | 12 => decide (d = .ok (.imul, 1)) && decide (nx = pc + 1)
  | 13 => decide (d = .ok (.ineg, 1)) && decide (nx = pc + 1)
  | 14 => decide (d = .ok (.idiv, 1)) && decide (nx = pc + 1)
  | 15 => decide (d = .ok (.irem, 1)) && decide (nx = pc + 1)
  | 16 => decide (d = .ok (.iand, 1)) && decide (nx = pc + 1)
  | 17 => decide (d = .ok (.ior, 1)) && decide (nx = pc + 1)
  | 18 => decide (d = .ok (.ixor, 1)) && decide (nx = pc + 1)
  | 19 => decide (d = .ok (.ishl, 1)) && decide (nx = pc + 1)
  | 20 => decide (d = .ok (.ishr, 1)) && decide (nx = pc + 1)
  | 21 => decide (d = .ok (.iushr, 1)) && decide (nx = pc + 1)
  | 22 => decide (d = .ok (.i2l, 1)) && decide (nx = pc + 1)
  | 23 => decide (d = .ok (.i2b, 1)) && decide (nx = pc + 1)
  | 24 => decide (d = .ok (.i2s, 1)) && decide (nx = pc + 1)
  | 30 => decide (d = .ok (.ladd, 1)) && decide (nx = pc + 1)
  | 31 => decide (d = .ok (.lsub, 1)) && decide (nx = pc + 1)
  | 32 => decide (d = .ok (.land, 1)) && decide (nx = pc + 1)
  | 33 => decide (d = .ok (.lor, 1)) && decide (nx = pc + 1)
  | 34 => decide (d = .ok (.lxor, 1)) && decide (nx = pc + 1)
  | 35 => decide (d = .ok (.lshl, 1)) && decide (nx = pc + 1)
  | 36 => decide (d = .ok (.lushr, 1)) && decide (nx = pc + 1)
  | 37 => decide (d = .ok (.lcmp, 1)) && decide (nx = pc + 1)
  | 38 => decide (d = .ok (.l2i, 1)) && decide (nx = pc + 1)
  | 40 => decide (nx = pc + 3) && gFL.any (fun q => decide (q.1 = o) && decide (q.2.2 = (x, y)) && decide (y < gN x) && decide (x < 12) && decide (d = .ok (.getfield q.2.1, 3)))
  | 41 => decide (nx = pc + 3) && gFL.any (fun q => decide (q.1 = o) && decide (q.2.2 = (x, y)) && decide (y < gN x) && decide (x < 12) && decide ((gT x y).2.2.2 = false) && decide (d = .ok (.putfield q.2.1, 3)))
  | 42 => decide (nx = pc + 3) && gFL.any (fun q => decide (q.1 = o) && decide (q.2.2 = (x, y)) && decide (y < gN x) && decide (x < 12) && decide ((gT x y).2.2.2 = true) && decide ((gT x y).1 = gown o) && decide ((gH j).1.name = "<init>") && decide (d = .ok (.putfield q.2.1, 3)))
  | 43 => decide (d = .ok (.iaload, 1)) && decide (nx = pc + 1)
  | 44 => decide (d = .ok (.baload, 1)) && decide (nx = pc + 1)
  | 45 => decide (d = .ok (.laload, 1)) && decide (nx = pc + 1)
  | 46 => decide (d = .ok (.aaload, 1)) && decide (nx = pc + 1)
  | 47 => decide (d = .ok (.caload, 1)) && decide (nx = pc + 1)
  | 48 => decide (d = .ok (.iastore, 1)) && decide (nx = pc + 1)
  | 49 => decide (d = .ok (.bastore, 1)) && decide (nx = pc + 1)
  | 50 => decide (d = .ok (.lastore, 1)) && decide (nx = pc + 1)
  | 51 => decide (d = .ok (.aastore, 1)) && decide (nx = pc + 1)
  | 52 => decide (d = .ok (.arraylength, 1)) && decide (nx = pc + 1)
  | 60 => decide (d = .ok (.goto ((x : Int) - pc), 3))
  | 61 => decide (nx = pc + 3) && decide (d = .ok (.ifCond (match y with | 0 => .eq | 1 => .ne | 2 => .lt | 3 => .ge | 4 => .gt | _ => .le) ((x : Int) - pc), 3)) && decide (y < 6)
  | 62 => decide (nx = pc + 3) && decide (d = .ok (.if_icmp (match y with | 0 => .eq | 1 => .ne | 2 => .lt | 3 => .ge | 4 => .gt | _ => .le) ((x : Int) - pc), 3)) && decide (y < 6)
  | 64 => (match sw.lookup pc with | some l => decide (l = (l.zipIdx.map (fun q => (z + q.2, q.1.2)))) && decide (l.length = y) && decide (0 < y) && decide (d = .ok (.tableswitch ((x : Int) - pc) z (z + y - 1) (l.map (fun q => ((q.2 : Int) - pc))).toArray, nx - pc)) | none => false)
  | 65 => (match sw.lookup pc with | some l => decide (d = .ok (.lookupswitch ((x : Int) - pc) (l.map (fun q => (q.1, ((q.2 : Int) - pc)))).toArray, nx - pc)) && (((l.map (fun q => (q.1, ((q.2 : Int) - pc)))).toArray.toList.zip ((l.map (fun q => (q.1, ((q.2 : Int) - pc)))).toArray.toList.drop 1)).all (fun (a, next) => a.1 < next.1)) | none => false)
  | 70 => decide (d = .ok (.ireturn, 1)) && (decide ((gH j).2.2.2.1 = some .int) && decide (y = 0) || decide ((gH j).2.2.2.1 = some .boolean) && decide (y = 1))
  | 71 => decide (d = .ok (.lreturn, 1)) && decide ((gH j).2.2.2.1 = some .long)
  | 72 => decide (d = .ok (.return_, 1)) && decide ((gH j).2.2.2.1 = none)
  | 80 => decide (nx = pc + 3) && gVL.any (fun q => decide (q.1 = o) && decide (q.2.2 = x) && decide (d = .ok (.invokevirtual q.2.1, 3))) && decide (x < gHs.length) && decide ((parseMethodDescriptor (gH x).1.desc).map (fun d => d.parameters.length) = some y)
  | 81 => decide (nx = pc + 3) && gSL.any (fun q => decide (q.1 = o) && decide (q.2.2 = x) && decide (d = .ok (.invokestatic q.2.1, 3))) && decide (x < gHs.length) && decide ((parseMethodDescriptor (gH x).1.desc).map (fun d => d.parameters.length) = some y)
  | 82 => decide (nx = pc + 3) && gIL.any (fun q => decide (q.1 = o) && decide (q.2.2 = x) && decide (d = .ok (.invokespecial q.2.1, 3))) && decide (x < gHs.length) && decide ((parseMethodDescriptor (gH x).1.desc).map (fun d => d.parameters.length) = some y) && decide ((gH x).1.name = "<init>") && decide ((gH x).2.2.2.1 = none)
  | 83 => decide (nx = pc + 3) && gNL.any (fun q => decide (q.1 = o) && decide (q.2.2 = x) && decide (d = .ok (.invokespecial q.2.1, 3))) && decide (x < gHs.length) && decide ((parseMethodDescriptor (gH x).1.desc).map (fun d => d.parameters.length) = some y) && decide ((gH x).1.name = "<init>") && decide ((gH x).2.2.2.1 = none)
  | 84 => decide (nx = pc + 3) && gOL.any (fun q => decide (q.1 = o) && decide (d = .ok (.invokespecial q.2, 3)))
  | 85 => decide (nx = pc + 3) && gAL.any (fun q => decide (q.1 = o) && decide (d = .ok (.invokestatic q.2, 3)))
  | 90 => decide (nx = pc + 3) && gCL.any (fun q => decide (q.1 = o) && decide (q.2.2 = x) && decide (x < 12) && decide (d = .ok (.new q.2.1, 3)))
  | 91 => decide (nx = pc + 2) && (decide (d = .ok (.newarray .int, 2)) && decide (x = 0) || decide (d = .ok (.newarray .boolean, 2)) && decide (x = 1) || decide (d = .ok (.newarray .long, 2)) && decide (x = 2))
  | 92 => decide (nx = pc + 3) && gQL.any (fun q => decide (q.1 = o) && decide (q.2.2 = x) && decide (d = .ok (.anewarray q.2.1, 3)))
  | 93 => decide (nx = pc + 4) && decide (o = 5) && decide (d = .ok (.multianewarray gix_MN 2, 4))
  | 95 => decide (nx = pc + 3) && (decide (o = 1) && decide (x = 0) && decide (d = .ok (.getstatic gix_ABOVE, 3)) || decide (o = 9) && decide (x = 1) && decide (d = .ok (.getstatic gix_NAMES, 3)))
  | _ => false
def gOK (mt : gMt) : Bool := mt.2.1.all (fun q => gok mt.1 mt.2.2 q.1 q.2.1 q.2.2.1 q.2.2.2.1 q.2.2.2.2.1 q.2.2.2.2.2)
def gat (mt : gMt) (pc : Nat) : Option gRI := mt.2.1.lookup pc
theorem gat_mem : ∀ (l : List (Nat × gRI)) {pc : Nat} {r : gRI}, l.lookup pc = some r → (pc, r) ∈ l
  | [], _, _, h => by simp at h
  | (a, b) :: l, pc, r, h => by
    rw [List.lookup_cons] at h
    by_cases e : pc == a
    · simp only [e] at h
      have : pc = a := by simpa using e
      subst this
      cases h
      exact List.mem_cons_self
    · simp only [e] at h
      exact List.mem_cons_of_mem _ (gat_mem l (by simpa using h))
theorem gat_ok {mt : gMt} (hk : gOK mt = true) {pc op : Nat} {z : Int} {x y nx : Nat} (h : gat mt pc = some (op, z, x, y, nx)) : gok mt.1 mt.2.2 pc op z x y nx = true := List.all_eq_true.mp hk _ (gat_mem _ h)
/-! ===== the judgement ===== -/
def gLs (G : gG) (ls : Array Slot) (nL : Nat) (lv : List (Option gV)) : Prop := ls.size = nL ∧ lv_wf ls ∧ ∀ (i : Nat) (v : gV), lv[i]? = some (some v) → ls[i]? = some (.val (gup G v))
def gCx (G : gG) (mt : gMt) (n : Nat) (p : Program) (R : Room) (s : State) (m : MethodId) (args : Array Value) (meth : Method) (c : Code) : Prop :=
  p.tables.exec = Jvm.exec ∧ c.code = gcc mt.1 ∧ meth.sig.returnType = (gH mt.1).2.2.2.1 ∧ c.maxLocals = (gH mt.1).2.2.1 ∧ s.vm.findClass (gown (gH mt.1).2.2.2.2) = some m.cls ∧ (∀ w ∈ gTB, w.before args s = true) ∧ meth.locks = false ∧ meth.name = (gH mt.1).1.name ∧ va_K G.1 vwCl (gtys G) s ∧ gSt G s ∧ gNs s ∧ (n ≤ R.frames ∧ 60 * n ≤ R.locals) ∧ gOK mt = true
def gQ (G : gG) (P : Option gV → gMe → Prop) : Array Value → State → Outcome → State → Prop := fun _ st oc t => (∃ (r : Option gV) (M : gMe), P r M ∧ oc = .returned (r.map (gup G)) ∧ gWd G M t.heap) ∧ va_F (gA G) st t
def Go (G : gG) (mt : gMt) (n mc ms pc : Nat) (lv : List (Option gV)) (st : List gV) (M : gMe) (P : Option gV → gMe → Prop) : Prop :=
  ∀ (p : Program) (l : Launch) (e : Env) (R : Room) (s : State) (m : MethodId) (args : Array Value) (below : List Frame) (meth : Method) (c : Code) (H : Heap) (locs : List Loc) (cells slots : Nat) (ls : Array Slot),
    gCx G mt n p R s m args meth c → va_S (gA G) s.heap H locs → gWd G M H → gLs G ls (gH mt.1).2.2.1 lv → cells + mc ≤ R.cells → slots + ms ≤ R.slots →
    W p l e R s m args below meth c H locs cells slots (MQ below (gQ G P) args s (cells + mc) (slots + ms) (gA G)) (F0 m pc ls (st.map (gup G)))
end
section
def tbX0_init : List (Nat × gRI) := [(0, 2, 0, 0, 2, 1), (1, 84, 0, 0, 0, 4), (4, 2, 0, 0, 2, 5), (5, 0, 12, 0, 0, 7), (7, 91, 0, 2, 0, 9), (9, 42, 0, 0, 0, 12), (12, 2, 0, 0, 2, 13), (13, 0, 12, 0, 0, 15), (15, 91, 0, 2, 0, 17), (17, 42, 0, 0, 1, 20), (20, 72, 0, 0, 0, 21)]
def mX0_init : gMt := (0, tbX0_init, [])
set_option maxRecDepth 100000 in
theorem okX0_init : gOK mX0_init = true := by decide +kernel
def tbX0_lowNights : List (Nat × gRI) := [(0, 2, 0, 0, 0, 1), (1, 2, 0, 1, 0, 2), (2, 10, 0, 0, 0, 3), (3, 81, 0, 3, 1, 6), (6, 2, 0, 0, 0, 7), (7, 81, 0, 3, 1, 10), (10, 1, -1, 0, 0, 13), (13, 34, 0, 0, 0, 14), (14, 32, 0, 0, 0, 15), (15, 71, 0, 0, 0, 16)]
def mX0_lowNights : gMt := (1, tbX0_lowNights, [])
set_option maxRecDepth 100000 in
theorem okX0_lowNights : gOK mX0_lowNights = true := by decide +kernel
def tbX0_highNights : List (Nat × gRI) := [(0, 2, 0, 0, 0, 1), (1, 2, 0, 1, 0, 2), (2, 10, 0, 0, 0, 3), (3, 0, 64, 0, 0, 5), (5, 11, 0, 0, 0, 6), (6, 81, 0, 3, 1, 9), (9, 2, 0, 0, 0, 10), (10, 0, 64, 0, 0, 12), (12, 11, 0, 0, 0, 13), (13, 81, 0, 3, 1, 16), (16, 1, -1, 0, 0, 19), (19, 34, 0, 0, 0, 20), (20, 32, 0, 0, 0, 21), (21, 71, 0, 0, 0, 22)]
def mX0_highNights : gMt := (2, tbX0_highNights, [])
set_option maxRecDepth 100000 in
theorem okX0_highNights : gOK mX0_highNights = true := by decide +kernel
def tbX0_below : List (Nat × gRI) := [(0, 2, 0, 0, 0, 1), (1, 61, 0, 6, 4, 4), (4, 1, 0, 0, 0, 5), (5, 71, 0, 0, 0, 6), (6, 2, 0, 0, 0, 7), (7, 0, 64, 0, 0, 9), (9, 62, 0, 18, 2, 12), (12, 1, -1, 0, 0, 15), (15, 60, 0, 23, 0, 18), (18, 1, 1, 0, 0, 19), (19, 2, 0, 0, 0, 20), (20, 35, 0, 0, 0, 21), (21, 1, 1, 0, 0, 22), (22, 31, 0, 0, 0, 23), (23, 71, 0, 0, 0, 24)]
def mX0_below : gMt := (3, tbX0_below, [])
set_option maxRecDepth 100000 in
theorem okX0_below : gOK mX0_below = true := by decide +kernel
def tbX0_empty : List (Nat × gRI) := [(0, 0, 0, 0, 0, 1), (1, 3, 0, 1, 0, 2), (2, 2, 0, 1, 0, 3), (3, 0, 12, 0, 0, 5), (5, 62, 0, 28, 3, 8), (8, 2, 0, 0, 2, 9), (9, 40, 0, 0, 0, 12), (12, 2, 0, 1, 0, 13), (13, 1, 0, 0, 0, 14), (14, 50, 0, 0, 0, 15), (15, 2, 0, 0, 2, 16), (16, 40, 0, 0, 1, 19), (19, 2, 0, 1, 0, 20), (20, 1, 0, 0, 0, 21), (21, 50, 0, 0, 0, 22), (22, 5, 1, 1, 0, 25), (25, 60, 0, 2, 0, 28), (28, 72, 0, 0, 0, 29)]
def mX0_empty : gMt := (4, tbX0_empty, [])
set_option maxRecDepth 100000 in
theorem okX0_empty : gOK mX0_empty = true := by decide +kernel
def tbX0_isFree : List (Nat × gRI) := [(0, 2, 0, 0, 2, 1), (1, 40, 0, 0, 0, 4), (4, 2, 0, 1, 0, 5), (5, 45, 0, 0, 0, 6), (6, 2, 0, 2, 1, 7), (7, 32, 0, 0, 0, 8), (8, 1, 0, 0, 0, 9), (9, 37, 0, 0, 0, 10), (10, 61, 0, 31, 1, 13), (13, 2, 0, 0, 2, 14), (14, 40, 0, 0, 1, 17), (17, 2, 0, 1, 0, 18), (18, 45, 0, 0, 0, 19), (19, 2, 0, 4, 1, 21), (21, 32, 0, 0, 0, 22), (22, 1, 0, 0, 0, 23), (23, 37, 0, 0, 0, 24), (24, 61, 0, 31, 1, 27), (27, 0, 1, 0, 0, 28), (28, 60, 0, 32, 0, 31), (31, 0, 0, 0, 0, 32), (32, 70, 0, 0, 1, 33)]
def mX0_isFree : gMt := (5, tbX0_isFree, [])
set_option maxRecDepth 100000 in
theorem okX0_isFree : gOK mX0_isFree = true := by decide +kernel
def tbX0_take : List (Nat × gRI) := [(0, 2, 0, 0, 2, 1), (1, 40, 0, 0, 0, 4), (4, 2, 0, 1, 0, 5), (5, 7, 0, 0, 0, 6), (6, 45, 0, 0, 0, 7), (7, 2, 0, 2, 1, 8), (8, 33, 0, 0, 0, 9), (9, 50, 0, 0, 0, 10), (10, 2, 0, 0, 2, 11), (11, 40, 0, 0, 1, 14), (14, 2, 0, 1, 0, 15), (15, 7, 0, 0, 0, 16), (16, 45, 0, 0, 0, 17), (17, 2, 0, 4, 1, 19), (19, 33, 0, 0, 0, 20), (20, 50, 0, 0, 0, 21), (21, 72, 0, 0, 0, 22)]
def mX0_take : gMt := (6, tbX0_take, [])
set_option maxRecDepth 100000 in
theorem okX0_take : gOK mX0_take = true := by decide +kernel
def tbX0_leave : List (Nat × gRI) := [(0, 2, 0, 0, 2, 1), (1, 40, 0, 0, 0, 4), (4, 2, 0, 1, 0, 5), (5, 7, 0, 0, 0, 6), (6, 45, 0, 0, 0, 7), (7, 2, 0, 2, 1, 8), (8, 1, -1, 0, 0, 11), (11, 34, 0, 0, 0, 12), (12, 32, 0, 0, 0, 13), (13, 50, 0, 0, 0, 14), (14, 2, 0, 0, 2, 15), (15, 40, 0, 0, 1, 18), (18, 2, 0, 1, 0, 19), (19, 7, 0, 0, 0, 20), (20, 45, 0, 0, 0, 21), (21, 2, 0, 4, 1, 23), (23, 1, -1, 0, 0, 26), (26, 34, 0, 0, 0, 27), (27, 32, 0, 0, 0, 28), (28, 50, 0, 0, 0, 29), (29, 72, 0, 0, 0, 30)]
def mX0_leave : gMt := (7, tbX0_leave, [])
set_option maxRecDepth 100000 in
theorem okX0_leave : gOK mX0_leave = true := by decide +kernel
def tbX0_lonelyNights : List (Nat × gRI) := [(0, 2, 0, 0, 2, 1), (1, 40, 0, 0, 0, 4), (4, 2, 0, 1, 0, 5), (5, 45, 0, 0, 0, 6), (6, 0, 1, 0, 0, 7), (7, 35, 0, 0, 0, 8), (8, 4, 0, 2, 0, 9), (9, 2, 0, 0, 2, 10), (10, 40, 0, 0, 1, 13), (13, 2, 0, 1, 0, 14), (14, 45, 0, 0, 0, 15), (15, 0, 1, 0, 0, 16), (16, 35, 0, 0, 0, 17), (17, 2, 0, 0, 2, 18), (18, 40, 0, 0, 0, 21), (21, 2, 0, 1, 0, 22), (22, 45, 0, 0, 0, 23), (23, 0, 63, 0, 0, 25), (25, 36, 0, 0, 0, 26), (26, 33, 0, 0, 0, 27), (27, 4, 0, 4, 0, 29), (29, 2, 0, 0, 2, 30), (30, 40, 0, 0, 0, 33), (33, 2, 0, 1, 0, 34), (34, 45, 0, 0, 0, 35), (35, 0, 1, 0, 0, 36), (36, 36, 0, 0, 0, 37), (37, 2, 0, 0, 2, 38), (38, 40, 0, 0, 1, 41), (41, 2, 0, 1, 0, 42), (42, 45, 0, 0, 0, 43), (43, 0, 63, 0, 0, 45), (45, 35, 0, 0, 0, 46), (46, 33, 0, 0, 0, 47), (47, 4, 0, 6, 0, 49), (49, 2, 0, 0, 2, 50), (50, 40, 0, 0, 1, 53), (53, 2, 0, 1, 0, 54), (54, 45, 0, 0, 0, 55), (55, 0, 1, 0, 0, 56), (56, 36, 0, 0, 0, 57), (57, 4, 0, 8, 0, 59), (59, 2, 0, 2, 1, 60), (60, 2, 0, 6, 1, 62), (62, 32, 0, 0, 0, 63), (63, 2, 0, 0, 2, 64), (64, 40, 0, 0, 0, 67), (67, 2, 0, 1, 0, 68), (68, 45, 0, 0, 0, 69), (69, 1, -1, 0, 0, 72), (72, 34, 0, 0, 0, 73), (73, 32, 0, 0, 0, 74), (74, 81, 0, 249, 1, 77), (77, 2, 0, 4, 1, 79), (79, 2, 0, 8, 1, 81), (81, 32, 0, 0, 0, 82), (82, 2, 0, 0, 2, 83), (83, 40, 0, 0, 1, 86), (86, 2, 0, 1, 0, 87), (87, 45, 0, 0, 0, 88), (88, 1, -1, 0, 0, 91), (91, 34, 0, 0, 0, 92), (92, 32, 0, 0, 0, 93), (93, 81, 0, 249, 1, 96), (96, 10, 0, 0, 0, 97), (97, 70, 0, 0, 0, 98)]
def mX0_lonelyNights : gMt := (8, tbX0_lonelyNights, [])
set_option maxRecDepth 100000 in
theorem okX0_lonelyNights : gOK mX0_lonelyNights = true := by decide +kernel
def tbX1_isUnder : List (Nat × gRI) := [(0, 2, 0, 0, 0, 1), (1, 3, 0, 2, 0, 2), (2, 0, 0, 0, 0, 3), (3, 3, 0, 3, 0, 4), (4, 2, 0, 3, 0, 5), (5, 0, 5, 0, 0, 6), (6, 62, 0, 37, 3, 9), (9, 2, 0, 2, 0, 10), (10, 61, 0, 37, 2, 13), (13, 2, 0, 2, 0, 14), (14, 0, 5, 0, 0, 15), (15, 62, 0, 37, 3, 18), (18, 2, 0, 2, 0, 19), (19, 2, 0, 1, 0, 20), (20, 62, 0, 25, 1, 23), (23, 0, 1, 0, 0, 24), (24, 70, 0, 0, 1, 25), (25, 95, 0, 0, 0, 28), (28, 2, 0, 2, 0, 29), (29, 43, 0, 0, 0, 30), (30, 3, 0, 2, 0, 31), (31, 5, 1, 3, 0, 34), (34, 60, 0, 4, 0, 37), (37, 0, 0, 0, 0, 38), (38, 70, 0, 0, 1, 39)]
def mX1_isUnder : gMt := (9, tbX1_isUnder, [])
set_option maxRecDepth 100000 in
theorem okX1_isUnder : gOK mX1_isUnder = true := by decide +kernel
def tbX1_reason : List (Nat × gRI) := [(0, 2, 0, 0, 2, 1), (1, 2, 0, 1, 2, 2), (2, 81, 0, 11, 2, 5), (5, 3, 0, 2, 0, 6), (6, 2, 0, 2, 0, 7), (7, 61, 0, 12, 0, 10), (10, 2, 0, 2, 0, 11), (11, 70, 0, 0, 0, 12), (12, 2, 0, 0, 2, 13), (13, 40, 0, 2, 0, 16), (16, 0, 2, 0, 0, 17), (17, 81, 0, 9, 2, 20), (20, 61, 0, 29, 0, 23), (23, 2, 0, 0, 2, 24), (24, 2, 0, 1, 2, 25), (25, 81, 0, 12, 2, 28), (28, 70, 0, 0, 0, 29), (29, 2, 0, 0, 2, 30), (30, 40, 0, 2, 0, 33), (33, 0, 1, 0, 0, 34), (34, 62, 0, 50, 1, 37), (37, 2, 0, 1, 2, 38), (38, 40, 0, 3, 4, 41), (41, 0, 6, 0, 0, 43), (43, 62, 0, 50, 5, 46), (46, 0, 4, 0, 0, 47), (47, 60, 0, 51, 0, 50), (50, 0, 0, 0, 0, 51), (51, 70, 0, 0, 0, 52)]
def mX1_reason : gMt := (10, tbX1_reason, [])
set_option maxRecDepth 100000 in
theorem okX1_reason : gOK mX1_reason = true := by decide +kernel
def tbX1_reasonOfAll : List (Nat × gRI) := [(0, 2, 0, 0, 2, 1), (1, 40, 0, 2, 1, 4), (4, 2, 0, 1, 2, 5), (5, 40, 0, 3, 2, 8), (8, 62, 0, 13, 5, 11), (11, 0, 1, 0, 0, 12), (12, 70, 0, 0, 0, 13), (13, 2, 0, 0, 2, 14), (14, 0, 1, 0, 0, 15), (15, 80, 0, 26, 1, 18), (18, 61, 0, 31, 0, 21), (21, 2, 0, 1, 2, 22), (22, 0, 1, 0, 0, 23), (23, 80, 0, 31, 1, 26), (26, 61, 0, 31, 1, 29), (29, 0, 2, 0, 0, 30), (30, 70, 0, 0, 0, 31), (31, 2, 0, 0, 2, 32), (32, 0, 2, 0, 0, 33), (33, 80, 0, 26, 1, 36), (36, 61, 0, 51, 0, 39), (39, 2, 0, 1, 2, 40), (40, 0, 2, 0, 0, 41), (41, 80, 0, 31, 1, 44), (44, 61, 0, 51, 1, 47), (47, 0, 3, 0, 0, 48), (48, 60, 0, 52, 0, 51), (51, 0, 0, 0, 0, 52), (52, 70, 0, 0, 0, 53)]
def mX1_reasonOfAll : gMt := (11, tbX1_reasonOfAll, [])
set_option maxRecDepth 100000 in
theorem okX1_reasonOfAll : gOK mX1_reasonOfAll = true := by decide +kernel
def tbX1_reasonOfVans : List (Nat × gRI) := [(0, 2, 0, 0, 2, 1), (1, 40, 0, 2, 2, 4), (4, 2, 0, 1, 2, 5), (5, 40, 0, 3, 5, 8), (8, 62, 0, 13, 5, 11), (11, 0, 5, 0, 0, 12), (12, 70, 0, 0, 0, 13), (13, 2, 0, 0, 2, 14), (14, 0, 4, 0, 0, 15), (15, 80, 0, 26, 1, 18), (18, 61, 0, 29, 1, 21), (21, 2, 0, 0, 2, 22), (22, 40, 0, 2, 0, 25), (25, 0, 4, 0, 0, 26), (26, 62, 0, 33, 1, 29), (29, 0, 1, 0, 0, 30), (30, 60, 0, 34, 0, 33), (33, 0, 0, 0, 0, 34), (34, 3, 0, 2, 0, 35), (35, 2, 0, 2, 0, 36), (36, 61, 0, 50, 0, 39), (39, 2, 0, 1, 2, 40), (40, 0, 4, 0, 0, 41), (41, 80, 0, 31, 1, 44), (44, 61, 0, 50, 1, 47), (47, 0, 6, 0, 0, 49), (49, 70, 0, 0, 0, 50), (50, 2, 0, 0, 2, 51), (51, 40, 0, 2, 0, 54), (54, 0, 3, 0, 0, 55), (55, 62, 0, 76, 1, 58), (58, 2, 0, 0, 2, 59), (59, 40, 0, 2, 1, 62), (62, 0, 3, 0, 0, 63), (63, 10, 0, 0, 0, 64), (64, 2, 0, 1, 2, 65), (65, 40, 0, 3, 2, 68), (68, 62, 0, 76, 5, 71), (71, 0, 7, 0, 0, 73), (73, 60, 0, 77, 0, 76), (76, 0, 0, 0, 0, 77), (77, 70, 0, 0, 0, 78)]
def mX1_reasonOfVans : gMt := (12, tbX1_reasonOfVans, [])
set_option maxRecDepth 100000 in
theorem okX1_reasonOfVans : gOK mX1_reasonOfVans = true := by decide +kernel
def tbX1_price : List (Nat × gRI) := [(0, 0, 10, 0, 0, 2), (2, 2, 0, 0, 2, 3), (3, 40, 0, 2, 1, 6), (6, 10, 0, 0, 0, 7), (7, 3, 0, 1, 0, 8), (8, 2, 0, 1, 0, 9), (9, 0, 2, 0, 0, 10), (10, 2, 0, 0, 2, 11), (11, 40, 0, 2, 2, 14), (14, 12, 0, 0, 0, 15), (15, 10, 0, 0, 0, 16), (16, 3, 0, 2, 0, 17), (17, 2, 0, 0, 2, 18), (18, 40, 0, 2, 0, 21), (21, 64, 1, 68, 4, 52), (52, 2, 0, 1, 0, 53), (53, 0, 3, 0, 0, 54), (54, 11, 0, 0, 0, 55), (55, 70, 0, 0, 0, 56), (56, 2, 0, 2, 0, 57), (57, 70, 0, 0, 0, 58), (58, 0, 2, 0, 0, 59), (59, 2, 0, 2, 0, 60), (60, 12, 0, 0, 0, 61), (61, 70, 0, 0, 0, 62), (62, 2, 0, 2, 0, 63), (63, 2, 0, 2, 0, 64), (64, 0, 3, 0, 0, 65), (65, 14, 0, 0, 0, 66), (66, 11, 0, 0, 0, 67), (67, 70, 0, 0, 0, 68), (68, 2, 0, 1, 0, 69), (69, 70, 0, 0, 0, 70)]
def mX1_price : gMt := (13, tbX1_price, [(21, [(1, 52), (2, 56), (3, 58), (4, 62)])])
set_option maxRecDepth 100000 in
theorem okX1_price : gOK mX1_price = true := by decide +kernel
def tbX2_init : List (Nat × gRI) := [(0, 2, 0, 0, 2, 1), (1, 84, 0, 0, 0, 4), (4, 2, 0, 0, 2, 5), (5, 0, 120, 0, 0, 7), (7, 91, 0, 0, 0, 9), (9, 42, 0, 1, 2, 12), (12, 2, 0, 0, 2, 13), (13, 0, 120, 0, 0, 15), (15, 91, 0, 0, 0, 17), (17, 42, 0, 1, 3, 20), (20, 72, 0, 0, 0, 21)]
def mX2_init : gMt := (14, tbX2_init, [])
set_option maxRecDepth 100000 in
theorem okX2_init : gOK mX2_init = true := by decide +kernel
def tbX2_begin : List (Nat × gRI) := [(0, 2, 0, 0, 2, 1), (1, 0, 1, 0, 0, 2), (2, 41, 0, 1, 0, 5), (5, 2, 0, 0, 2, 6), (6, 2, 0, 2, 0, 7), (7, 0, 120, 0, 0, 9), (9, 81, 0, 252, 2, 12), (12, 41, 0, 1, 1, 15), (15, 2, 0, 1, 2, 16), (16, 0, 0, 0, 0, 17), (17, 2, 0, 0, 2, 18), (18, 40, 0, 1, 2, 21), (21, 0, 0, 0, 0, 22), (22, 2, 0, 0, 2, 23), (23, 40, 0, 1, 1, 26), (26, 85, 0, 0, 0, 29), (29, 72, 0, 0, 0, 30)]
def mX2_begin : gMt := (15, tbX2_begin, [])
set_option maxRecDepth 100000 in
theorem okX2_begin : gOK mX2_begin = true := by decide +kernel
def tbX2_become : List (Nat × gRI) := [(0, 2, 0, 0, 2, 1), (1, 2, 0, 1, 2, 2), (2, 40, 0, 1, 0, 5), (5, 41, 0, 1, 0, 8), (8, 2, 0, 0, 2, 9), (9, 2, 0, 1, 2, 10), (10, 40, 0, 1, 1, 13), (13, 41, 0, 1, 1, 16), (16, 2, 0, 1, 2, 17), (17, 40, 0, 1, 2, 20), (20, 0, 0, 0, 0, 21), (21, 2, 0, 0, 2, 22), (22, 40, 0, 1, 2, 25), (25, 0, 0, 0, 0, 26), (26, 2, 0, 0, 2, 27), (27, 40, 0, 1, 1, 30), (30, 85, 0, 0, 0, 33), (33, 72, 0, 0, 0, 34)]
def mX2_become : gMt := (16, tbX2_become, [])
set_option maxRecDepth 100000 in
theorem okX2_become : gOK mX2_become = true := by decide +kernel
def tbX2_worth : List (Nat × gRI) := [(0, 0, 0, 0, 0, 1), (1, 3, 0, 2, 0, 2), (2, 0, 0, 0, 0, 3), (3, 3, 0, 3, 0, 4), (4, 2, 0, 3, 0, 5), (5, 2, 0, 0, 2, 6), (6, 40, 0, 1, 1, 9), (9, 62, 0, 130, 3, 12), (12, 2, 0, 0, 2, 13), (13, 40, 0, 1, 2, 16), (16, 2, 0, 3, 0, 17), (17, 43, 0, 0, 0, 18), (18, 3, 0, 4, 0, 20), (20, 2, 0, 4, 0, 22), (22, 0, 20000, 0, 0, 25), (25, 62, 0, 52, 3, 28), (28, 2, 0, 2, 0, 29), (29, 0, 120, 0, 0, 31), (31, 62, 0, 52, 3, 34), (34, 2, 0, 0, 2, 35), (35, 40, 0, 1, 3, 38), (38, 2, 0, 2, 0, 39), (39, 2, 0, 4, 0, 41), (41, 2, 0, 1, 2, 42), (42, 81, 0, 18, 2, 45), (45, 48, 0, 0, 0, 46), (46, 5, 1, 2, 0, 49), (49, 60, 0, 124, 0, 52), (52, 2, 0, 4, 0, 54), (54, 0, 20000, 0, 0, 57), (57, 62, 0, 85, 1, 60), (60, 2, 0, 2, 0, 61), (61, 0, 1, 0, 0, 62), (62, 62, 0, 85, 2, 65), (65, 2, 0, 0, 2, 66), (66, 40, 0, 1, 3, 69), (69, 2, 0, 2, 0, 70), (70, 0, 1, 0, 0, 71), (71, 11, 0, 0, 0, 72), (72, 2, 0, 0, 2, 73), (73, 40, 0, 1, 3, 76), (76, 2, 0, 2, 0, 77), (77, 0, 1, 0, 0, 78), (78, 11, 0, 0, 0, 79), (79, 43, 0, 0, 0, 80), (80, 13, 0, 0, 0, 81), (81, 48, 0, 0, 0, 82), (82, 60, 0, 124, 0, 85), (85, 2, 0, 2, 0, 86), (86, 0, 2, 0, 0, 87), (87, 62, 0, 124, 2, 90), (90, 5, -1, 2, 0, 93), (93, 2, 0, 0, 2, 94), (94, 40, 0, 1, 3, 97), (97, 2, 0, 2, 0, 98), (98, 0, 1, 0, 0, 99), (99, 11, 0, 0, 0, 100), (100, 2, 0, 4, 0, 102), (102, 0, 20000, 0, 0, 105), (105, 11, 0, 0, 0, 106), (106, 2, 0, 0, 2, 107), (107, 40, 0, 1, 3, 110), (110, 2, 0, 2, 0, 111), (111, 0, 1, 0, 0, 112), (112, 11, 0, 0, 0, 113), (113, 43, 0, 0, 0, 114), (114, 2, 0, 0, 2, 115), (115, 40, 0, 1, 3, 118), (118, 2, 0, 2, 0, 119), (119, 43, 0, 0, 0, 120), (120, 81, 0, 19, 3, 123), (123, 48, 0, 0, 0, 124), (124, 5, 1, 3, 0, 127), (127, 60, 0, 4, 0, 130), (130, 2, 0, 0, 2, 131), (131, 40, 0, 1, 3, 134), (134, 0, 0, 0, 0, 135), (135, 43, 0, 0, 0, 136), (136, 70, 0, 0, 0, 137)]
def mX2_worth : gMt := (17, tbX2_worth, [])
set_option maxRecDepth 100000 in
theorem okX2_worth : gOK mX2_worth = true := by decide +kernel
def tbX2_operand : List (Nat × gRI) := [(0, 2, 0, 0, 0, 1), (1, 0, 10000, 0, 0, 4), (4, 62, 0, 9, 3, 7), (7, 2, 0, 0, 0, 8), (8, 70, 0, 0, 0, 9), (9, 2, 0, 0, 0, 10), (10, 0, 10000, 0, 0, 13), (13, 11, 0, 0, 0, 14), (14, 3, 0, 2, 0, 15), (15, 2, 0, 2, 0, 16), (16, 2, 0, 1, 2, 17), (17, 52, 0, 0, 0, 18), (18, 62, 0, 27, 3, 21), (21, 2, 0, 1, 2, 22), (22, 2, 0, 2, 0, 23), (23, 43, 0, 0, 0, 24), (24, 60, 0, 28, 0, 27), (27, 0, 0, 0, 0, 28), (28, 70, 0, 0, 0, 29)]
def mX2_operand : gMt := (18, tbX2_operand, [])
set_option maxRecDepth 100000 in
theorem okX2_operand : gOK mX2_operand = true := by decide +kernel
def tbX2_joined : List (Nat × gRI) := [(0, 2, 0, 0, 0, 1), (1, 65, 0, 86, 0, 52), (52, 2, 0, 1, 0, 53), (53, 2, 0, 2, 0, 54), (54, 62, 0, 61, 3, 57), (57, 0, 1, 0, 0, 58), (58, 60, 0, 62, 0, 61), (61, 0, 0, 0, 0, 62), (62, 70, 0, 0, 0, 63), (63, 2, 0, 1, 0, 64), (64, 2, 0, 2, 0, 65), (65, 62, 0, 72, 1, 68), (68, 0, 1, 0, 0, 69), (69, 60, 0, 73, 0, 72), (72, 0, 0, 0, 0, 73), (73, 70, 0, 0, 0, 74), (74, 2, 0, 1, 0, 75), (75, 2, 0, 2, 0, 76), (76, 10, 0, 0, 0, 77), (77, 70, 0, 0, 0, 78), (78, 2, 0, 1, 0, 79), (79, 2, 0, 2, 0, 80), (80, 11, 0, 0, 0, 81), (81, 70, 0, 0, 0, 82), (82, 2, 0, 1, 0, 83), (83, 2, 0, 2, 0, 84), (84, 12, 0, 0, 0, 85), (85, 70, 0, 0, 0, 86), (86, 2, 0, 2, 0, 87), (87, 61, 0, 94, 1, 90), (90, 0, 0, 0, 0, 91), (91, 60, 0, 97, 0, 94), (94, 2, 0, 1, 0, 95), (95, 2, 0, 2, 0, 96), (96, 14, 0, 0, 0, 97), (97, 70, 0, 0, 0, 98)]
def mX2_joined : gMt := (19, tbX2_joined, [(1, [(42, 82), (43, 74), (45, 78), (60, 52), (61, 63)])])
set_option maxRecDepth 100000 in
theorem okX2_joined : gOK mX2_joined = true := by decide +kernel
def tbX3_init : List (Nat × gRI) := [(0, 2, 0, 0, 2, 1), (1, 84, 0, 0, 0, 4), (4, 72, 0, 0, 0, 5)]
def mX3_init : gMt := (20, tbX3_init, [])
set_option maxRecDepth 100000 in
theorem okX3_init : gOK mX3_init = true := by decide +kernel
def tbX3_begin : List (Nat × gRI) := [(0, 2, 0, 0, 2, 1), (1, 2, 0, 1, 0, 2), (2, 41, 0, 2, 0, 5), (5, 2, 0, 0, 2, 6), (6, 2, 0, 2, 0, 7), (7, 0, 100, 0, 0, 9), (9, 14, 0, 0, 0, 10), (10, 41, 0, 2, 1, 13), (13, 2, 0, 0, 2, 14), (14, 2, 0, 2, 0, 15), (15, 0, 100, 0, 0, 17), (17, 15, 0, 0, 0, 18), (18, 41, 0, 2, 2, 21), (21, 2, 0, 0, 2, 22), (22, 2, 0, 3, 0, 23), (23, 41, 0, 2, 3, 26), (26, 2, 0, 0, 2, 27), (27, 2, 0, 4, 0, 29), (29, 0, 100, 0, 0, 31), (31, 14, 0, 0, 0, 32), (32, 41, 0, 2, 4, 35), (35, 2, 0, 0, 2, 36), (36, 2, 0, 4, 0, 38), (38, 0, 100, 0, 0, 40), (40, 15, 0, 0, 0, 41), (41, 41, 0, 2, 5, 44), (44, 2, 0, 0, 2, 45), (45, 2, 0, 0, 2, 46), (46, 40, 0, 2, 4, 49), (49, 2, 0, 0, 2, 50), (50, 40, 0, 2, 5, 53), (53, 81, 0, 1, 2, 56), (56, 41, 0, 2, 6, 59), (59, 2, 0, 0, 2, 60), (60, 2, 0, 0, 2, 61), (61, 40, 0, 2, 4, 64), (64, 2, 0, 0, 2, 65), (65, 40, 0, 2, 5, 68), (68, 81, 0, 2, 2, 71), (71, 41, 0, 2, 7, 74), (74, 2, 0, 0, 2, 75), (75, 0, -1, 0, 0, 76), (76, 41, 0, 2, 8, 79), (79, 2, 0, 0, 2, 80), (80, 0, -1, 0, 0, 81), (81, 41, 0, 2, 9, 84), (84, 2, 0, 0, 2, 85), (85, 0, -1, 0, 0, 86), (86, 41, 0, 2, 10, 89), (89, 2, 0, 0, 2, 90), (90, 0, 0, 0, 0, 91), (91, 41, 0, 2, 11, 94), (94, 2, 0, 0, 2, 95), (95, 0, 0, 0, 0, 96), (96, 41, 0, 2, 12, 99), (99, 2, 0, 0, 2, 100), (100, 0, 0, 0, 0, 101), (101, 41, 0, 2, 13, 104), (104, 72, 0, 0, 0, 105)]
def mX3_begin : gMt := (21, tbX3_begin, [])
set_option maxRecDepth 100000 in
theorem okX3_begin : gOK mX3_begin = true := by decide +kernel
def tbX3_become : List (Nat × gRI) := [(0, 2, 0, 0, 2, 1), (1, 2, 0, 1, 2, 2), (2, 40, 0, 2, 0, 5), (5, 41, 0, 2, 0, 8), (8, 2, 0, 0, 2, 9), (9, 2, 0, 1, 2, 10), (10, 40, 0, 2, 1, 13), (13, 41, 0, 2, 1, 16), (16, 2, 0, 0, 2, 17), (17, 2, 0, 1, 2, 18), (18, 40, 0, 2, 2, 21), (21, 41, 0, 2, 2, 24), (24, 2, 0, 0, 2, 25), (25, 2, 0, 1, 2, 26), (26, 40, 0, 2, 3, 29), (29, 41, 0, 2, 3, 32), (32, 2, 0, 0, 2, 33), (33, 2, 0, 1, 2, 34), (34, 40, 0, 2, 4, 37), (37, 41, 0, 2, 4, 40), (40, 2, 0, 0, 2, 41), (41, 2, 0, 1, 2, 42), (42, 40, 0, 2, 5, 45), (45, 41, 0, 2, 5, 48), (48, 2, 0, 0, 2, 49), (49, 2, 0, 1, 2, 50), (50, 40, 0, 2, 6, 53), (53, 41, 0, 2, 6, 56), (56, 2, 0, 0, 2, 57), (57, 2, 0, 1, 2, 58), (58, 40, 0, 2, 7, 61), (61, 41, 0, 2, 7, 64), (64, 2, 0, 0, 2, 65), (65, 2, 0, 1, 2, 66), (66, 40, 0, 2, 8, 69), (69, 41, 0, 2, 8, 72), (72, 2, 0, 0, 2, 73), (73, 2, 0, 1, 2, 74), (74, 40, 0, 2, 9, 77), (77, 41, 0, 2, 9, 80), (80, 2, 0, 0, 2, 81), (81, 2, 0, 1, 2, 82), (82, 40, 0, 2, 10, 85), (85, 41, 0, 2, 10, 88), (88, 2, 0, 0, 2, 89), (89, 2, 0, 1, 2, 90), (90, 40, 0, 2, 11, 93), (93, 41, 0, 2, 11, 96), (96, 2, 0, 0, 2, 97), (97, 2, 0, 1, 2, 98), (98, 40, 0, 2, 12, 101), (101, 41, 0, 2, 12, 104), (104, 2, 0, 0, 2, 105), (105, 2, 0, 1, 2, 106), (106, 40, 0, 2, 13, 109), (109, 41, 0, 2, 13, 112), (112, 72, 0, 0, 0, 113)]
def mX3_become : gMt := (22, tbX3_become, [])
set_option maxRecDepth 100000 in
theorem okX3_become : gOK mX3_become = true := by decide +kernel
def tbX3_trait : List (Nat × gRI) := [(0, 2, 0, 1, 0, 1), (1, 64, 0, 88, 8, 48), (48, 2, 0, 0, 2, 49), (49, 40, 0, 2, 0, 52), (52, 70, 0, 0, 0, 53), (53, 2, 0, 0, 2, 54), (54, 40, 0, 2, 1, 57), (57, 70, 0, 0, 0, 58), (58, 2, 0, 0, 2, 59), (59, 40, 0, 2, 2, 62), (62, 70, 0, 0, 0, 63), (63, 2, 0, 0, 2, 64), (64, 40, 0, 2, 3, 67), (67, 70, 0, 0, 0, 68), (68, 2, 0, 0, 2, 69), (69, 40, 0, 2, 4, 72), (72, 70, 0, 0, 0, 73), (73, 2, 0, 0, 2, 74), (74, 40, 0, 2, 5, 77), (77, 70, 0, 0, 0, 78), (78, 2, 0, 0, 2, 79), (79, 40, 0, 2, 8, 82), (82, 70, 0, 0, 0, 83), (83, 2, 0, 0, 2, 84), (84, 40, 0, 2, 9, 87), (87, 70, 0, 0, 0, 88), (88, 2, 0, 0, 2, 89), (89, 40, 0, 2, 10, 92), (92, 70, 0, 0, 0, 93)]
def mX3_trait : gMt := (23, tbX3_trait, [(1, [(0, 48), (1, 53), (2, 58), (3, 63), (4, 68), (5, 73), (6, 78), (7, 83)])])
set_option maxRecDepth 100000 in
theorem okX3_trait : gOK mX3_trait = true := by decide +kernel
def tbX3_lastNight : List (Nat × gRI) := [(0, 2, 0, 0, 2, 1), (1, 40, 0, 2, 4, 4), (4, 2, 0, 0, 2, 5), (5, 40, 0, 2, 5, 8), (8, 10, 0, 0, 0, 9), (9, 0, 1, 0, 0, 10), (10, 11, 0, 0, 0, 11), (11, 70, 0, 0, 0, 12)]
def mX3_lastNight : gMt := (24, tbX3_lastNight, [])
set_option maxRecDepth 100000 in
theorem okX3_lastNight : gOK mX3_lastNight = true := by decide +kernel
def tbX3_stays : List (Nat × gRI) := [(0, 2, 0, 1, 0, 1), (1, 2, 0, 0, 2, 2), (2, 40, 0, 2, 4, 5), (5, 62, 0, 20, 2, 8), (8, 2, 0, 1, 0, 9), (9, 2, 0, 0, 2, 10), (10, 80, 0, 24, 0, 13), (13, 62, 0, 20, 4, 16), (16, 0, 1, 0, 0, 17), (17, 60, 0, 21, 0, 20), (20, 0, 0, 0, 0, 21), (21, 70, 0, 0, 1, 22)]
def mX3_stays : gMt := (25, tbX3_stays, [])
set_option maxRecDepth 100000 in
theorem okX3_stays : gOK mX3_stays = true := by decide +kernel
def tbX3_wishesFor : List (Nat × gRI) := [(0, 2, 0, 0, 2, 1), (1, 40, 0, 2, 3, 4), (4, 2, 0, 1, 0, 5), (5, 16, 0, 0, 0, 6), (6, 61, 0, 13, 0, 9), (9, 0, 1, 0, 0, 10), (10, 60, 0, 14, 0, 13), (13, 0, 0, 0, 0, 14), (14, 70, 0, 0, 1, 15)]
def mX3_wishesFor : gMt := (26, tbX3_wishesFor, [])
set_option maxRecDepth 100000 in
theorem okX3_wishesFor : gOK mX3_wishesFor = true := by decide +kernel
def tbX4_init : List (Nat × gRI) := [(0, 2, 0, 0, 2, 1), (1, 84, 0, 0, 0, 4), (4, 72, 0, 0, 0, 5)]
def mX4_init : gMt := (27, tbX4_init, [])
set_option maxRecDepth 100000 in
theorem okX4_init : gOK mX4_init = true := by decide +kernel
def tbX4_begin : List (Nat × gRI) := [(0, 2, 0, 0, 2, 1), (1, 2, 0, 1, 0, 2), (2, 0, 100, 0, 0, 4), (4, 14, 0, 0, 0, 5), (5, 41, 0, 3, 0, 8), (8, 2, 0, 0, 2, 9), (9, 2, 0, 1, 0, 10), (10, 0, 100, 0, 0, 12), (12, 15, 0, 0, 0, 13), (13, 41, 0, 3, 1, 16), (16, 2, 0, 0, 2, 17), (17, 2, 0, 2, 0, 18), (18, 0, 100, 0, 0, 20), (20, 14, 0, 0, 0, 21), (21, 41, 0, 3, 2, 24), (24, 2, 0, 0, 2, 25), (25, 2, 0, 2, 0, 26), (26, 0, 100, 0, 0, 28), (28, 15, 0, 0, 0, 29), (29, 41, 0, 3, 3, 32), (32, 2, 0, 0, 2, 33), (33, 2, 0, 3, 0, 34), (34, 0, 100, 0, 0, 36), (36, 14, 0, 0, 0, 37), (37, 41, 0, 3, 4, 40), (40, 2, 0, 0, 2, 41), (41, 2, 0, 3, 0, 42), (42, 0, 100, 0, 0, 44), (44, 15, 0, 0, 0, 45), (45, 41, 0, 3, 5, 48), (48, 2, 0, 0, 2, 49), (49, 2, 0, 4, 0, 51), (51, 0, 10, 0, 0, 53), (53, 14, 0, 0, 0, 54), (54, 41, 0, 3, 6, 57), (57, 2, 0, 0, 2, 58), (58, 2, 0, 4, 0, 60), (60, 0, 10, 0, 0, 62), (62, 15, 0, 0, 0, 63), (63, 41, 0, 3, 7, 66), (66, 2, 0, 0, 2, 67), (67, 0, 0, 0, 0, 68), (68, 41, 0, 3, 8, 71), (71, 2, 0, 0, 2, 72), (72, 0, 0, 0, 0, 73), (73, 41, 0, 3, 9, 76), (76, 72, 0, 0, 0, 77)]
def mX4_begin : gMt := (28, tbX4_begin, [])
set_option maxRecDepth 100000 in
theorem okX4_begin : gOK mX4_begin = true := by decide +kernel
def tbX4_become : List (Nat × gRI) := [(0, 2, 0, 0, 2, 1), (1, 2, 0, 1, 2, 2), (2, 40, 0, 3, 0, 5), (5, 41, 0, 3, 0, 8), (8, 2, 0, 0, 2, 9), (9, 2, 0, 1, 2, 10), (10, 40, 0, 3, 1, 13), (13, 41, 0, 3, 1, 16), (16, 2, 0, 0, 2, 17), (17, 2, 0, 1, 2, 18), (18, 40, 0, 3, 2, 21), (21, 41, 0, 3, 2, 24), (24, 2, 0, 0, 2, 25), (25, 2, 0, 1, 2, 26), (26, 40, 0, 3, 3, 29), (29, 41, 0, 3, 3, 32), (32, 2, 0, 0, 2, 33), (33, 2, 0, 1, 2, 34), (34, 40, 0, 3, 4, 37), (37, 41, 0, 3, 4, 40), (40, 2, 0, 0, 2, 41), (41, 2, 0, 1, 2, 42), (42, 40, 0, 3, 5, 45), (45, 41, 0, 3, 5, 48), (48, 2, 0, 0, 2, 49), (49, 2, 0, 1, 2, 50), (50, 40, 0, 3, 6, 53), (53, 41, 0, 3, 6, 56), (56, 2, 0, 0, 2, 57), (57, 2, 0, 1, 2, 58), (58, 40, 0, 3, 7, 61), (61, 41, 0, 3, 7, 64), (64, 2, 0, 0, 2, 65), (65, 2, 0, 1, 2, 66), (66, 40, 0, 3, 8, 69), (69, 41, 0, 3, 8, 72), (72, 2, 0, 0, 2, 73), (73, 2, 0, 1, 2, 74), (74, 40, 0, 3, 9, 77), (77, 41, 0, 3, 9, 80), (80, 72, 0, 0, 0, 81)]
def mX4_become : gMt := (29, tbX4_become, [])
set_option maxRecDepth 100000 in
theorem okX4_become : gOK mX4_become = true := by decide +kernel
def tbX4_trait : List (Nat × gRI) := [(0, 2, 0, 1, 0, 1), (1, 64, 0, 79, 7, 44), (44, 2, 0, 0, 2, 45), (45, 40, 0, 3, 0, 48), (48, 70, 0, 0, 0, 49), (49, 2, 0, 0, 2, 50), (50, 40, 0, 3, 1, 53), (53, 70, 0, 0, 0, 54), (54, 2, 0, 0, 2, 55), (55, 40, 0, 3, 2, 58), (58, 70, 0, 0, 0, 59), (59, 2, 0, 0, 2, 60), (60, 40, 0, 3, 3, 63), (63, 70, 0, 0, 0, 64), (64, 2, 0, 0, 2, 65), (65, 40, 0, 3, 4, 68), (68, 70, 0, 0, 0, 69), (69, 2, 0, 0, 2, 70), (70, 40, 0, 3, 5, 73), (73, 70, 0, 0, 0, 74), (74, 2, 0, 0, 2, 75), (75, 40, 0, 3, 6, 78), (78, 70, 0, 0, 0, 79), (79, 2, 0, 0, 2, 80), (80, 40, 0, 3, 7, 83), (83, 70, 0, 0, 0, 84)]
def mX4_trait : gMt := (30, tbX4_trait, [(1, [(0, 44), (1, 49), (2, 54), (3, 59), (4, 64), (5, 69), (6, 74)])])
set_option maxRecDepth 100000 in
theorem okX4_trait : gOK mX4_trait = true := by decide +kernel
def tbX4_offers : List (Nat × gRI) := [(0, 2, 0, 0, 2, 1), (1, 40, 0, 3, 6, 4), (4, 2, 0, 1, 0, 5), (5, 16, 0, 0, 0, 6), (6, 61, 0, 13, 0, 9), (9, 0, 1, 0, 0, 10), (10, 60, 0, 14, 0, 13), (13, 0, 0, 0, 0, 14), (14, 70, 0, 0, 1, 15)]
def mX4_offers : gMt := (31, tbX4_offers, [])
set_option maxRecDepth 100000 in
theorem okX4_offers : gOK mX4_offers = true := by decide +kernel
def tbX5_init : List (Nat × gRI) := [(0, 2, 0, 0, 2, 1), (1, 84, 0, 0, 0, 4), (4, 2, 0, 0, 2, 5), (5, 0, 4, 0, 0, 6), (6, 91, 0, 0, 0, 8), (8, 42, 0, 4, 3, 11), (11, 2, 0, 0, 2, 12), (12, 0, 4, 0, 0, 13), (13, 91, 0, 0, 0, 15), (15, 42, 0, 4, 4, 18), (18, 2, 0, 0, 2, 19), (19, 0, 5, 0, 0, 20), (20, 91, 0, 0, 0, 22), (22, 42, 0, 4, 5, 25), (25, 2, 0, 0, 2, 26), (26, 0, 5, 0, 0, 27), (27, 91, 0, 0, 0, 29), (29, 42, 0, 4, 6, 32), (32, 2, 0, 0, 2, 33), (33, 0, 4, 0, 0, 34), (34, 0, 12, 0, 0, 36), (36, 93, 0, 7, 0, 40), (40, 42, 0, 4, 7, 43), (43, 2, 0, 0, 2, 44), (44, 0, 4, 0, 0, 45), (45, 0, 4, 0, 0, 46), (46, 93, 0, 7, 0, 50), (50, 42, 0, 4, 8, 53), (53, 2, 0, 0, 2, 54), (54, 0, 4, 0, 0, 55), (55, 91, 0, 0, 0, 57), (57, 42, 0, 4, 9, 60), (60, 2, 0, 0, 2, 61), (61, 0, 4, 0, 0, 62), (62, 91, 0, 0, 0, 64), (64, 42, 0, 4, 10, 67), (67, 2, 0, 0, 2, 68), (68, 2, 0, 1, 2, 69), (69, 42, 0, 4, 0, 72), (72, 2, 0, 0, 2, 73), (73, 2, 0, 2, 2, 74), (74, 42, 0, 4, 1, 77), (77, 72, 0, 0, 0, 78)]
def mX5_init : gMt := (32, tbX5_init, [])
set_option maxRecDepth 100000 in
theorem okX5_init : gOK mX5_init = true := by decide +kernel
def tbX5_make : List (Nat × gRI) := [(0, 2, 0, 0, 2, 1), (1, 2, 0, 1, 0, 2), (2, 80, 0, 34, 1, 5), (5, 2, 0, 0, 2, 6), (6, 40, 0, 4, 0, 9), (9, 2, 0, 0, 2, 10), (10, 40, 0, 4, 1, 13), (13, 2, 0, 1, 0, 14), (14, 80, 0, 71, 2, 17), (17, 0, 0, 0, 0, 18), (18, 3, 0, 2, 0, 19), (19, 2, 0, 2, 0, 20), (20, 2, 0, 0, 2, 21), (21, 40, 0, 4, 2, 24), (24, 62, 0, 39, 3, 27), (27, 2, 0, 0, 2, 28), (28, 2, 0, 2, 0, 29), (29, 2, 0, 1, 0, 30), (30, 80, 0, 35, 2, 33), (33, 5, 1, 2, 0, 36), (36, 60, 0, 19, 0, 39), (39, 2, 0, 0, 2, 40), (40, 80, 0, 38, 0, 43), (43, 2, 0, 0, 2, 44), (44, 0, -1, 0, 0, 45), (45, 41, 0, 4, 11, 48), (48, 2, 0, 0, 2, 49), (49, 0, 0, 0, 0, 50), (50, 0, 0, 0, 0, 51), (51, 0, 0, 0, 0, 52), (52, 0, 0, 0, 0, 53), (53, 80, 0, 40, 4, 56), (56, 0, 0, 0, 0, 57), (57, 3, 0, 2, 0, 58), (58, 2, 0, 2, 0, 59), (59, 2, 0, 0, 2, 60), (60, 40, 0, 4, 2, 63), (63, 62, 0, 95, 3, 66), (66, 2, 0, 0, 2, 67), (67, 40, 0, 4, 0, 70), (70, 40, 0, 7, 5, 73), (73, 2, 0, 0, 2, 74), (74, 40, 0, 4, 3, 77), (77, 2, 0, 2, 0, 78), (78, 43, 0, 0, 0, 79), (79, 46, 0, 0, 0, 80), (80, 2, 0, 0, 2, 81), (81, 40, 0, 4, 10, 84), (84, 2, 0, 2, 0, 85), (85, 43, 0, 0, 0, 86), (86, 41, 0, 2, 8, 89), (89, 5, 1, 2, 0, 92), (92, 60, 0, 58, 0, 95), (95, 2, 0, 0, 2, 96), (96, 40, 0, 4, 11, 99), (99, 70, 0, 0, 0, 100)]
def mX5_make : gMt := (33, tbX5_make, [])
set_option maxRecDepth 100000 in
theorem okX5_make : gOK mX5_make = true := by decide +kernel
def tbX5_gather : List (Nat × gRI) := [(0, 2, 0, 0, 2, 1), (1, 0, 0, 0, 0, 2), (2, 41, 0, 4, 2, 5), (5, 0, 0, 0, 0, 6), (6, 3, 0, 2, 0, 7), (7, 2, 0, 2, 0, 8), (8, 2, 0, 0, 2, 9), (9, 40, 0, 4, 0, 12), (12, 40, 0, 7, 3, 15), (15, 62, 0, 60, 3, 18), (18, 2, 0, 1, 0, 19), (19, 2, 0, 2, 0, 20), (20, 20, 0, 0, 0, 21), (21, 0, 1, 0, 0, 22), (22, 16, 0, 0, 0, 23), (23, 61, 0, 54, 0, 26), (26, 2, 0, 0, 2, 27), (27, 40, 0, 4, 2, 30), (30, 0, 4, 0, 0, 31), (31, 62, 0, 54, 3, 34), (34, 2, 0, 0, 2, 35), (35, 40, 0, 4, 3, 38), (38, 2, 0, 0, 2, 39), (39, 40, 0, 4, 2, 42), (42, 2, 0, 2, 0, 43), (43, 48, 0, 0, 0, 44), (44, 2, 0, 0, 2, 45), (45, 6, 0, 0, 0, 46), (46, 40, 0, 4, 2, 49), (49, 0, 1, 0, 0, 50), (50, 10, 0, 0, 0, 51), (51, 41, 0, 4, 2, 54), (54, 5, 1, 2, 0, 57), (57, 60, 0, 7, 0, 60), (60, 72, 0, 0, 0, 61)]
def mX5_gather : gMt := (34, tbX5_gather, [])
set_option maxRecDepth 100000 in
theorem okX5_gather : gOK mX5_gather = true := by decide +kernel
def tbX5_lookAt : List (Nat × gRI) := [(0, 2, 0, 0, 2, 1), (1, 40, 0, 4, 0, 4), (4, 40, 0, 7, 5, 7), (7, 2, 0, 0, 2, 8), (8, 40, 0, 4, 3, 11), (11, 2, 0, 1, 0, 12), (12, 43, 0, 0, 0, 13), (13, 46, 0, 0, 0, 14), (14, 3, 0, 3, 2, 15), (15, 2, 0, 0, 2, 16), (16, 40, 0, 4, 4, 19), (19, 2, 0, 1, 0, 20), (20, 0, 0, 0, 0, 21), (21, 48, 0, 0, 0, 22), (22, 0, 0, 0, 0, 23), (23, 3, 0, 4, 0, 25), (25, 2, 0, 4, 0, 27), (27, 2, 0, 0, 2, 28), (28, 40, 0, 4, 0, 31), (31, 40, 0, 7, 2, 34), (34, 62, 0, 115, 3, 37), (37, 2, 0, 3, 2, 38), (38, 2, 0, 0, 2, 39), (39, 40, 0, 4, 0, 42), (42, 40, 0, 7, 4, 45), (45, 2, 0, 4, 0, 47), (47, 46, 0, 0, 0, 48), (48, 81, 0, 10, 2, 51), (51, 61, 0, 58, 1, 54), (54, 0, 1, 0, 0, 55), (55, 60, 0, 59, 0, 58), (58, 0, 0, 0, 0, 59), (59, 3, 0, 5, 0, 61), (61, 2, 0, 5, 0, 63), (63, 61, 0, 99, 0, 66), (66, 2, 0, 0, 2, 67), (67, 40, 0, 4, 1, 70), (70, 2, 0, 4, 0, 72), (72, 2, 0, 3, 2, 73), (73, 40, 0, 2, 6, 76), (76, 2, 0, 3, 2, 77), (77, 40, 0, 2, 7, 80), (80, 80, 0, 5, 3, 83), (83, 61, 0, 99, 0, 86), (86, 2, 0, 0, 2, 87), (87, 40, 0, 4, 4, 90), (90, 2, 0, 1, 0, 91), (91, 7, 0, 0, 0, 92), (92, 43, 0, 0, 0, 93), (93, 0, 1, 0, 0, 94), (94, 2, 0, 4, 0, 96), (96, 19, 0, 0, 0, 97), (97, 17, 0, 0, 0, 98), (98, 48, 0, 0, 0, 99), (99, 2, 0, 0, 2, 100), (100, 40, 0, 4, 7, 103), (103, 2, 0, 1, 0, 104), (104, 46, 0, 0, 0, 105), (105, 2, 0, 4, 0, 107), (107, 0, 0, 0, 0, 108), (108, 48, 0, 0, 0, 109), (109, 5, 1, 4, 0, 112), (112, 60, 0, 25, 0, 115), (115, 0, 0, 0, 0, 116), (116, 3, 0, 4, 0, 118), (118, 2, 0, 4, 0, 120), (120, 2, 0, 0, 2, 121), (121, 40, 0, 4, 0, 124), (124, 40, 0, 7, 3, 127), (127, 62, 0, 164, 3, 130), (130, 2, 0, 2, 0, 131), (131, 2, 0, 4, 0, 133), (133, 20, 0, 0, 0, 134), (134, 0, 1, 0, 0, 135), (135, 16, 0, 0, 0, 136), (136, 61, 0, 158, 1, 139), (139, 2, 0, 0, 2, 140), (140, 40, 0, 4, 0, 143), (143, 2, 0, 4, 0, 145), (145, 80, 0, 62, 1, 148), (148, 61, 0, 158, 0, 151), (151, 2, 0, 0, 2, 152), (152, 2, 0, 1, 0, 153), (153, 2, 0, 4, 0, 155), (155, 80, 0, 36, 2, 158), (158, 5, 1, 4, 0, 161), (161, 60, 0, 118, 0, 164), (164, 0, 0, 0, 0, 165), (165, 3, 0, 4, 0, 167), (167, 2, 0, 4, 0, 169), (169, 2, 0, 0, 2, 170), (170, 40, 0, 4, 2, 173), (173, 62, 0, 208, 3, 176), (176, 2, 0, 0, 2, 177), (177, 40, 0, 4, 8, 180), (180, 2, 0, 1, 0, 181), (181, 46, 0, 0, 0, 182), (182, 2, 0, 4, 0, 184), (184, 2, 0, 0, 2, 185), (185, 2, 0, 0, 2, 186), (186, 40, 0, 4, 3, 189), (189, 2, 0, 1, 0, 190), (190, 43, 0, 0, 0, 191), (191, 2, 0, 0, 2, 192), (192, 40, 0, 4, 3, 195), (195, 2, 0, 4, 0, 197), (197, 43, 0, 0, 0, 198), (198, 80, 0, 37, 2, 201), (201, 48, 0, 0, 0, 202), (202, 5, 1, 4, 0, 205), (205, 60, 0, 167, 0, 208), (208, 72, 0, 0, 0, 209)]
def mX5_lookAt : gMt := (35, tbX5_lookAt, [])
set_option maxRecDepth 100000 in
theorem okX5_lookAt : gOK mX5_lookAt = true := by decide +kernel
def tbX5_addWays : List (Nat × gRI) := [(0, 2, 0, 0, 2, 1), (1, 2, 0, 0, 2, 2), (2, 40, 0, 4, 3, 5), (5, 2, 0, 1, 0, 6), (6, 43, 0, 0, 0, 7), (7, 2, 0, 2, 0, 8), (8, 80, 0, 37, 2, 11), (11, 3, 0, 3, 0, 12), (12, 0, 0, 0, 0, 13), (13, 3, 0, 4, 0, 15), (15, 2, 0, 3, 0, 16), (16, 61, 0, 72, 5, 19), (19, 2, 0, 4, 0, 21), (21, 2, 0, 0, 2, 22), (22, 40, 0, 4, 0, 25), (25, 40, 0, 7, 2, 28), (28, 62, 0, 72, 3, 31), (31, 2, 0, 0, 2, 32), (32, 40, 0, 4, 7, 35), (35, 2, 0, 1, 0, 36), (36, 46, 0, 0, 0, 37), (37, 2, 0, 4, 0, 39), (39, 7, 0, 0, 0, 40), (40, 43, 0, 0, 0, 41), (41, 2, 0, 3, 0, 42), (42, 2, 0, 0, 2, 43), (43, 40, 0, 4, 0, 46), (46, 2, 0, 4, 0, 48), (48, 2, 0, 0, 2, 49), (49, 40, 0, 4, 0, 52), (52, 40, 0, 7, 5, 55), (55, 2, 0, 2, 0, 56), (56, 46, 0, 0, 0, 57), (57, 40, 0, 2, 8, 60), (60, 80, 0, 69, 2, 63), (63, 12, 0, 0, 0, 64), (64, 10, 0, 0, 0, 65), (65, 48, 0, 0, 0, 66), (66, 5, 1, 4, 0, 69), (69, 60, 0, 15, 0, 72), (72, 72, 0, 0, 0, 73)]
def mX5_addWays : gMt := (36, tbX5_addWays, [])
set_option maxRecDepth 100000 in
theorem okX5_addWays : gOK mX5_addWays = true := by decide +kernel
def tbX5_wishesBetween : List (Nat × gRI) := [(0, 2, 0, 0, 2, 1), (1, 40, 0, 4, 0, 4), (4, 40, 0, 7, 5, 7), (7, 2, 0, 1, 0, 8), (8, 46, 0, 0, 0, 9), (9, 40, 0, 2, 9, 12), (12, 2, 0, 2, 0, 13), (13, 62, 0, 20, 1, 16), (16, 0, 1, 0, 0, 17), (17, 60, 0, 21, 0, 20), (20, 0, 0, 0, 0, 21), (21, 2, 0, 0, 2, 22), (22, 40, 0, 4, 0, 25), (25, 40, 0, 7, 5, 28), (28, 2, 0, 2, 0, 29), (29, 46, 0, 0, 0, 30), (30, 40, 0, 2, 9, 33), (33, 2, 0, 1, 0, 34), (34, 62, 0, 41, 1, 37), (37, 0, 1, 0, 0, 38), (38, 60, 0, 42, 0, 41), (41, 0, 0, 0, 0, 42), (42, 10, 0, 0, 0, 43), (43, 70, 0, 0, 0, 44)]
def mX5_wishesBetween : gMt := (37, tbX5_wishesBetween, [])
set_option maxRecDepth 100000 in
theorem okX5_wishesBetween : gOK mX5_wishesBetween = true := by decide +kernel
def tbX5_bound : List (Nat × gRI) := [(0, 2, 0, 0, 2, 1), (1, 40, 0, 4, 5, 4), (4, 2, 0, 0, 2, 5), (5, 40, 0, 4, 2, 8), (8, 0, 0, 0, 0, 9), (9, 48, 0, 0, 0, 10), (10, 2, 0, 0, 2, 11), (11, 40, 0, 4, 6, 14), (14, 2, 0, 0, 2, 15), (15, 40, 0, 4, 2, 18), (18, 0, 0, 0, 0, 19), (19, 48, 0, 0, 0, 20), (20, 2, 0, 0, 2, 21), (21, 40, 0, 4, 2, 24), (24, 0, 1, 0, 0, 25), (25, 11, 0, 0, 0, 26), (26, 3, 0, 1, 0, 27), (27, 2, 0, 1, 0, 28), (28, 61, 0, 126, 2, 31), (31, 2, 0, 0, 2, 32), (32, 40, 0, 4, 0, 35), (35, 40, 0, 7, 5, 38), (38, 2, 0, 0, 2, 39), (39, 40, 0, 4, 3, 42), (42, 2, 0, 1, 0, 43), (43, 43, 0, 0, 0, 44), (44, 46, 0, 0, 0, 45), (45, 40, 0, 2, 5, 48), (48, 0, 1, 0, 0, 49), (49, 62, 0, 56, 1, 52), (52, 0, 1, 0, 0, 53), (53, 60, 0, 57, 0, 56), (56, 0, 0, 0, 0, 57), (57, 3, 0, 2, 0, 58), (58, 2, 0, 0, 2, 59), (59, 40, 0, 4, 5, 62), (62, 2, 0, 1, 0, 63), (63, 2, 0, 0, 2, 64), (64, 40, 0, 4, 5, 67), (67, 2, 0, 1, 0, 68), (68, 0, 1, 0, 0, 69), (69, 10, 0, 0, 0, 70), (70, 43, 0, 0, 0, 71), (71, 2, 0, 0, 2, 72), (72, 40, 0, 4, 4, 75), (75, 2, 0, 1, 0, 76), (76, 43, 0, 0, 0, 77), (77, 61, 0, 84, 0, 80), (80, 0, 1, 0, 0, 81), (81, 60, 0, 85, 0, 84), (84, 0, 0, 0, 0, 85), (85, 10, 0, 0, 0, 86), (86, 48, 0, 0, 0, 87), (87, 2, 0, 0, 2, 88), (88, 40, 0, 4, 6, 91), (91, 2, 0, 1, 0, 92), (92, 2, 0, 0, 2, 93), (93, 40, 0, 4, 6, 96), (96, 2, 0, 1, 0, 97), (97, 0, 1, 0, 0, 98), (98, 10, 0, 0, 0, 99), (99, 43, 0, 0, 0, 100), (100, 2, 0, 0, 2, 101), (101, 40, 0, 4, 4, 104), (104, 2, 0, 1, 0, 105), (105, 43, 0, 0, 0, 106), (106, 61, 0, 117, 0, 109), (109, 2, 0, 2, 0, 110), (110, 61, 0, 117, 0, 113), (113, 0, 1, 0, 0, 114), (114, 60, 0, 118, 0, 117), (117, 0, 0, 0, 0, 118), (118, 10, 0, 0, 0, 119), (119, 48, 0, 0, 0, 120), (120, 5, -1, 1, 0, 123), (123, 60, 0, 27, 0, 126), (126, 72, 0, 0, 0, 127)]
def mX5_bound : gMt := (38, tbX5_bound, [])
set_option maxRecDepth 100000 in
theorem okX5_bound : gOK mX5_bound = true := by decide +kernel
def tbX5_canBeat : List (Nat × gRI) := [(0, 2, 0, 2, 0, 1), (1, 2, 0, 0, 2, 2), (2, 40, 0, 4, 5, 5), (5, 2, 0, 1, 0, 6), (6, 43, 0, 0, 0, 7), (7, 10, 0, 0, 0, 8), (8, 3, 0, 5, 0, 10), (10, 2, 0, 5, 0, 12), (12, 2, 0, 0, 2, 13), (13, 40, 0, 4, 11, 16), (16, 62, 0, 34, 0, 19), (19, 2, 0, 5, 0, 21), (21, 2, 0, 0, 2, 22), (22, 40, 0, 4, 11, 25), (25, 62, 0, 32, 5, 28), (28, 0, 1, 0, 0, 29), (29, 60, 0, 33, 0, 32), (32, 0, 0, 0, 0, 33), (33, 70, 0, 0, 1, 34), (34, 2, 0, 3, 0, 35), (35, 2, 0, 0, 2, 36), (36, 40, 0, 4, 6, 39), (39, 2, 0, 1, 0, 40), (40, 43, 0, 0, 0, 41), (41, 11, 0, 0, 0, 42), (42, 3, 0, 6, 0, 44), (44, 2, 0, 6, 0, 46), (46, 2, 0, 0, 2, 47), (47, 40, 0, 4, 12, 50), (50, 62, 0, 68, 0, 53), (53, 2, 0, 6, 0, 55), (55, 2, 0, 0, 2, 56), (56, 40, 0, 4, 12, 59), (59, 62, 0, 66, 3, 62), (62, 0, 1, 0, 0, 63), (63, 60, 0, 67, 0, 66), (66, 0, 0, 0, 0, 67), (67, 70, 0, 0, 1, 68), (68, 2, 0, 4, 0, 70), (70, 2, 0, 0, 2, 71), (71, 40, 0, 4, 13, 74), (74, 62, 0, 81, 3, 77), (77, 0, 1, 0, 0, 78), (78, 60, 0, 82, 0, 81), (81, 0, 0, 0, 0, 82), (82, 70, 0, 0, 1, 83)]
def mX5_canBeat : gMt := (39, tbX5_canBeat, [])
set_option maxRecDepth 100000 in
theorem okX5_canBeat : gOK mX5_canBeat = true := by decide +kernel
def tbX5_tryFrom : List (Nat × gRI) := [(0, 2, 0, 0, 2, 1), (1, 2, 0, 1, 0, 2), (2, 2, 0, 2, 0, 3), (3, 2, 0, 3, 0, 4), (4, 2, 0, 4, 0, 6), (6, 80, 0, 39, 4, 9), (9, 61, 0, 13, 1, 12), (12, 72, 0, 0, 0, 13), (13, 2, 0, 1, 0, 14), (14, 2, 0, 0, 2, 15), (15, 40, 0, 4, 2, 18), (18, 62, 0, 30, 2, 21), (21, 2, 0, 0, 2, 22), (22, 2, 0, 2, 0, 23), (23, 2, 0, 3, 0, 24), (24, 2, 0, 4, 0, 26), (26, 80, 0, 42, 3, 29), (29, 72, 0, 0, 0, 30), (30, 2, 0, 0, 2, 31), (31, 40, 0, 4, 0, 34), (34, 40, 0, 7, 5, 37), (37, 2, 0, 0, 2, 38), (38, 40, 0, 4, 3, 41), (41, 2, 0, 1, 0, 42), (42, 43, 0, 0, 0, 43), (43, 46, 0, 0, 0, 44), (44, 3, 0, 5, 2, 46), (46, 0, 0, 0, 0, 47), (47, 3, 0, 6, 0, 49), (49, 2, 0, 6, 0, 51), (51, 2, 0, 0, 2, 52), (52, 40, 0, 4, 0, 55), (55, 40, 0, 7, 2, 58), (58, 62, 0, 208, 3, 61), (61, 2, 0, 0, 2, 62), (62, 40, 0, 4, 4, 65), (65, 2, 0, 1, 0, 66), (66, 43, 0, 0, 0, 67), (67, 2, 0, 6, 0, 69), (69, 20, 0, 0, 0, 70), (70, 0, 1, 0, 0, 71), (71, 16, 0, 0, 0, 72), (72, 61, 0, 79, 0, 75), (75, 0, 1, 0, 0, 76), (76, 60, 0, 80, 0, 79), (79, 0, 0, 0, 0, 80), (80, 3, 0, 7, 0, 82), (82, 2, 0, 7, 0, 84), (84, 61, 0, 202, 0, 87), (87, 2, 0, 0, 2, 88), (88, 40, 0, 4, 1, 91), (91, 2, 0, 6, 0, 93), (93, 2, 0, 5, 2, 95), (95, 40, 0, 2, 6, 98), (98, 2, 0, 5, 2, 100), (100, 40, 0, 2, 7, 103), (103, 80, 0, 5, 3, 106), (106, 61, 0, 202, 0, 109), (109, 2, 0, 0, 2, 110), (110, 40, 0, 4, 1, 113), (113, 2, 0, 6, 0, 115), (115, 80, 0, 8, 1, 118), (118, 3, 0, 8, 0, 120), (120, 2, 0, 0, 2, 121), (121, 40, 0, 4, 1, 124), (124, 2, 0, 6, 0, 126), (126, 2, 0, 5, 2, 128), (128, 40, 0, 2, 6, 131), (131, 2, 0, 5, 2, 133), (133, 40, 0, 2, 7, 136), (136, 80, 0, 6, 3, 139), (139, 2, 0, 0, 2, 140), (140, 40, 0, 4, 1, 143), (143, 2, 0, 6, 0, 145), (145, 80, 0, 8, 1, 148), (148, 2, 0, 8, 0, 150), (150, 11, 0, 0, 0, 151), (151, 3, 0, 9, 0, 153), (153, 2, 0, 0, 2, 154), (154, 40, 0, 4, 9, 157), (157, 2, 0, 1, 0, 158), (158, 2, 0, 6, 0, 160), (160, 48, 0, 0, 0, 161), (161, 2, 0, 0, 2, 162), (162, 2, 0, 1, 0, 163), (163, 0, 1, 0, 0, 164), (164, 10, 0, 0, 0, 165), (165, 2, 0, 2, 0, 166), (166, 0, 1, 0, 0, 167), (167, 10, 0, 0, 0, 168), (168, 2, 0, 3, 0, 169), (169, 2, 0, 9, 0, 171), (171, 10, 0, 0, 0, 172), (172, 2, 0, 4, 0, 174), (174, 2, 0, 0, 2, 175), (175, 2, 0, 1, 0, 176), (176, 80, 0, 41, 1, 179), (179, 10, 0, 0, 0, 180), (180, 80, 0, 40, 4, 183), (183, 2, 0, 0, 2, 184), (184, 40, 0, 4, 1, 187), (187, 2, 0, 6, 0, 189), (189, 2, 0, 5, 2, 191), (191, 40, 0, 2, 6, 194), (194, 2, 0, 5, 2, 196), (196, 40, 0, 2, 7, 199), (199, 80, 0, 7, 3, 202), (202, 5, 1, 6, 0, 205), (205, 60, 0, 49, 0, 208), (208, 2, 0, 0, 2, 209), (209, 40, 0, 4, 9, 212), (212, 2, 0, 1, 0, 213), (213, 0, -1, 0, 0, 214), (214, 48, 0, 0, 0, 215), (215, 2, 0, 0, 2, 216), (216, 2, 0, 1, 0, 217), (217, 0, 1, 0, 0, 218), (218, 10, 0, 0, 0, 219), (219, 2, 0, 2, 0, 220), (220, 2, 0, 3, 0, 221), (221, 2, 0, 4, 0, 223), (223, 80, 0, 40, 4, 226), (226, 72, 0, 0, 0, 227)]
def mX5_tryFrom : gMt := (40, tbX5_tryFrom, [])
set_option maxRecDepth 100000 in
theorem okX5_tryFrom : gOK mX5_tryFrom = true := by decide +kernel
def tbX5_wayOf : List (Nat × gRI) := [(0, 2, 0, 0, 2, 1), (1, 40, 0, 4, 7, 4), (4, 2, 0, 1, 0, 5), (5, 46, 0, 0, 0, 6), (6, 2, 0, 0, 2, 7), (7, 40, 0, 4, 9, 10), (10, 2, 0, 1, 0, 11), (11, 43, 0, 0, 0, 12), (12, 43, 0, 0, 0, 13), (13, 3, 0, 2, 0, 14), (14, 0, 0, 0, 0, 15), (15, 3, 0, 3, 0, 16), (16, 2, 0, 3, 0, 17), (17, 2, 0, 1, 0, 18), (18, 62, 0, 79, 3, 21), (21, 2, 0, 0, 2, 22), (22, 40, 0, 4, 8, 25), (25, 2, 0, 1, 0, 26), (26, 46, 0, 0, 0, 27), (27, 2, 0, 3, 0, 28), (28, 43, 0, 0, 0, 29), (29, 61, 0, 73, 0, 32), (32, 2, 0, 0, 2, 33), (33, 40, 0, 4, 9, 36), (36, 2, 0, 3, 0, 37), (37, 43, 0, 0, 0, 38), (38, 0, -1, 0, 0, 39), (39, 62, 0, 73, 0, 42), (42, 2, 0, 2, 0, 43), (43, 2, 0, 0, 2, 44), (44, 40, 0, 4, 8, 47), (47, 2, 0, 1, 0, 48), (48, 46, 0, 0, 0, 49), (49, 2, 0, 3, 0, 50), (50, 43, 0, 0, 0, 51), (51, 2, 0, 0, 2, 52), (52, 40, 0, 4, 0, 55), (55, 2, 0, 0, 2, 56), (56, 40, 0, 4, 9, 59), (59, 2, 0, 1, 0, 60), (60, 43, 0, 0, 0, 61), (61, 2, 0, 0, 2, 62), (62, 40, 0, 4, 9, 65), (65, 2, 0, 3, 0, 66), (66, 43, 0, 0, 0, 67), (67, 80, 0, 69, 2, 70), (70, 12, 0, 0, 0, 71), (71, 10, 0, 0, 0, 72), (72, 3, 0, 2, 0, 73), (73, 5, 1, 3, 0, 76), (76, 60, 0, 16, 0, 79), (79, 2, 0, 2, 0, 80), (80, 70, 0, 0, 0, 81)]
def mX5_wayOf : gMt := (41, tbX5_wayOf, [])
set_option maxRecDepth 100000 in
theorem okX5_wayOf : gOK mX5_wayOf = true := by decide +kernel
def tbX5_remember : List (Nat × gRI) := [(0, 2, 0, 0, 2, 1), (1, 2, 0, 1, 0, 2), (2, 41, 0, 4, 11, 5), (5, 2, 0, 0, 2, 6), (6, 2, 0, 2, 0, 7), (7, 41, 0, 4, 12, 10), (10, 2, 0, 0, 2, 11), (11, 2, 0, 3, 0, 12), (12, 41, 0, 4, 13, 15), (15, 0, 0, 0, 0, 16), (16, 3, 0, 4, 0, 18), (18, 2, 0, 4, 0, 20), (20, 2, 0, 0, 2, 21), (21, 40, 0, 4, 2, 24), (24, 62, 0, 47, 3, 27), (27, 2, 0, 0, 2, 28), (28, 40, 0, 4, 10, 31), (31, 2, 0, 4, 0, 33), (33, 2, 0, 0, 2, 34), (34, 40, 0, 4, 9, 37), (37, 2, 0, 4, 0, 39), (39, 43, 0, 0, 0, 40), (40, 48, 0, 0, 0, 41), (41, 5, 1, 4, 0, 44), (44, 60, 0, 18, 0, 47), (47, 72, 0, 0, 0, 48)]
def mX5_remember : gMt := (42, tbX5_remember, [])
set_option maxRecDepth 100000 in
theorem okX5_remember : gOK mX5_remember = true := by decide +kernel
def tbX6_init : List (Nat × gRI) := [(0, 2, 0, 0, 2, 1), (1, 84, 0, 0, 0, 4), (4, 2, 0, 0, 2, 5), (5, 0, 24, 0, 0, 7), (7, 91, 0, 0, 0, 9), (9, 42, 0, 5, 2, 12), (12, 2, 0, 0, 2, 13), (13, 0, 24, 0, 0, 15), (15, 91, 0, 0, 0, 17), (17, 42, 0, 5, 3, 20), (20, 2, 0, 0, 2, 21), (21, 0, 24, 0, 0, 23), (23, 91, 0, 0, 0, 25), (25, 42, 0, 5, 4, 28), (28, 2, 0, 0, 2, 29), (29, 0, 12, 0, 0, 31), (31, 91, 0, 0, 0, 33), (33, 42, 0, 5, 5, 36), (36, 2, 0, 0, 2, 37), (37, 2, 0, 1, 2, 38), (38, 42, 0, 5, 0, 41), (41, 72, 0, 0, 0, 42)]
def mX6_init : gMt := (43, tbX6_init, [])
set_option maxRecDepth 100000 in
theorem okX6_init : gOK mX6_init = true := by decide +kernel
def tbX6_work : List (Nat × gRI) := [(0, 2, 0, 0, 2, 1), (1, 2, 0, 1, 0, 2), (2, 80, 0, 46, 1, 5), (5, 2, 0, 0, 2, 6), (6, 0, 0, 0, 0, 7), (7, 0, 0, 0, 0, 8), (8, 80, 0, 50, 2, 11), (11, 3, 0, 2, 0, 12), (12, 2, 0, 2, 0, 13), (13, 3, 0, 3, 0, 14), (14, 0, 0, 0, 0, 15), (15, 3, 0, 4, 0, 17), (17, 0, 0, 0, 0, 18), (18, 3, 0, 5, 0, 20), (20, 2, 0, 5, 0, 22), (22, 2, 0, 0, 2, 23), (23, 40, 0, 5, 1, 26), (26, 62, 0, 78, 3, 29), (29, 2, 0, 0, 2, 30), (30, 40, 0, 5, 4, 33), (33, 2, 0, 5, 0, 35), (35, 2, 0, 0, 2, 36), (36, 2, 0, 5, 0, 38), (38, 2, 0, 4, 0, 40), (40, 2, 0, 3, 0, 41), (41, 80, 0, 49, 3, 44), (44, 48, 0, 0, 0, 45), (45, 2, 0, 0, 2, 46), (46, 40, 0, 5, 4, 49), (49, 2, 0, 5, 0, 51), (51, 43, 0, 0, 0, 52), (52, 61, 0, 72, 2, 55), (55, 2, 0, 4, 0, 57), (57, 0, 1, 0, 0, 58), (58, 2, 0, 0, 2, 59), (59, 40, 0, 5, 4, 62), (62, 2, 0, 5, 0, 64), (64, 43, 0, 0, 0, 65), (65, 19, 0, 0, 0, 66), (66, 17, 0, 0, 0, 67), (67, 3, 0, 4, 0, 69), (69, 5, -1, 3, 0, 72), (72, 5, 1, 5, 0, 75), (75, 60, 0, 20, 0, 78), (78, 2, 0, 2, 0, 79), (79, 70, 0, 0, 0, 80)]
def mX6_work : gMt := (44, tbX6_work, [])
set_option maxRecDepth 100000 in
theorem okX6_work : gOK mX6_work = true := by decide +kernel
def tbX6_goalOf : List (Nat × gRI) := [(0, 0, 0, 0, 0, 1), (1, 3, 0, 2, 0, 2), (2, 2, 0, 2, 0, 3), (3, 2, 0, 0, 2, 4), (4, 40, 0, 5, 1, 7), (7, 62, 0, 33, 3, 10), (10, 2, 0, 0, 2, 11), (11, 40, 0, 5, 2, 14), (14, 2, 0, 2, 0, 15), (15, 43, 0, 0, 0, 16), (16, 2, 0, 1, 0, 17), (17, 62, 0, 27, 1, 20), (20, 2, 0, 0, 2, 21), (21, 40, 0, 5, 4, 24), (24, 2, 0, 2, 0, 25), (25, 43, 0, 0, 0, 26), (26, 70, 0, 0, 0, 27), (27, 5, 1, 2, 0, 30), (30, 60, 0, 2, 0, 33), (33, 0, -1, 0, 0, 34), (34, 70, 0, 0, 0, 35)]
def mX6_goalOf : gMt := (45, tbX6_goalOf, [])
set_option maxRecDepth 100000 in
theorem okX6_goalOf : gOK mX6_goalOf = true := by decide +kernel
def tbX6_gather : List (Nat × gRI) := [(0, 2, 0, 0, 2, 1), (1, 2, 0, 1, 0, 2), (2, 80, 0, 47, 1, 5), (5, 3, 0, 2, 0, 6), (6, 2, 0, 0, 2, 7), (7, 0, 0, 0, 0, 8), (8, 41, 0, 5, 1, 11), (11, 0, 0, 0, 0, 12), (12, 3, 0, 3, 0, 13), (13, 2, 0, 3, 0, 14), (14, 2, 0, 0, 2, 15), (15, 40, 0, 5, 0, 18), (18, 40, 0, 7, 3, 21), (21, 62, 0, 77, 3, 24), (24, 2, 0, 0, 2, 25), (25, 40, 0, 5, 0, 28), (28, 2, 0, 3, 0, 29), (29, 2, 0, 1, 0, 30), (30, 80, 0, 66, 2, 33), (33, 61, 0, 71, 0, 36), (36, 2, 0, 0, 2, 37), (37, 40, 0, 5, 2, 40), (40, 2, 0, 0, 2, 41), (41, 40, 0, 5, 1, 44), (44, 2, 0, 3, 0, 45), (45, 48, 0, 0, 0, 46), (46, 2, 0, 0, 2, 47), (47, 40, 0, 5, 3, 50), (50, 2, 0, 0, 2, 51), (51, 40, 0, 5, 1, 54), (54, 2, 0, 0, 2, 55), (55, 2, 0, 3, 0, 56), (56, 2, 0, 2, 0, 57), (57, 80, 0, 48, 2, 60), (60, 48, 0, 0, 0, 61), (61, 2, 0, 0, 2, 62), (62, 6, 0, 0, 0, 63), (63, 40, 0, 5, 1, 66), (66, 0, 1, 0, 0, 67), (67, 10, 0, 0, 0, 68), (68, 41, 0, 5, 1, 71), (71, 5, 1, 3, 0, 74), (74, 60, 0, 13, 0, 77), (77, 72, 0, 0, 0, 78)]
def mX6_gather : gMt := (46, tbX6_gather, [])
set_option maxRecDepth 100000 in
theorem okX6_gather : gOK mX6_gather = true := by decide +kernel
def tbX6_dryPitches : List (Nat × gRI) := [(0, 0, 0, 0, 0, 1), (1, 3, 0, 2, 0, 2), (2, 0, 0, 0, 0, 3), (3, 3, 0, 3, 0, 4), (4, 2, 0, 3, 0, 5), (5, 2, 0, 0, 2, 6), (6, 40, 0, 5, 0, 9), (9, 40, 0, 7, 2, 12), (12, 62, 0, 74, 3, 15), (15, 2, 0, 0, 2, 16), (16, 40, 0, 5, 0, 19), (19, 40, 0, 7, 4, 22), (22, 2, 0, 3, 0, 23), (23, 46, 0, 0, 0, 24), (24, 40, 0, 3, 3, 27), (27, 2, 0, 1, 0, 28), (28, 62, 0, 35, 2, 31), (31, 0, 1, 0, 0, 32), (32, 60, 0, 36, 0, 35), (35, 0, 0, 0, 0, 36), (36, 3, 0, 4, 0, 38), (38, 2, 0, 4, 0, 40), (40, 61, 0, 68, 0, 43), (43, 2, 0, 0, 2, 44), (44, 40, 0, 5, 0, 47), (47, 2, 0, 3, 0, 48), (48, 2, 0, 0, 2, 49), (49, 40, 0, 5, 0, 52), (52, 40, 0, 7, 0, 55), (55, 80, 0, 70, 2, 58), (58, 0, -1, 0, 0, 59), (59, 62, 0, 68, 1, 62), (62, 2, 0, 2, 0, 63), (63, 0, 1, 0, 0, 64), (64, 2, 0, 3, 0, 65), (65, 19, 0, 0, 0, 66), (66, 17, 0, 0, 0, 67), (67, 3, 0, 2, 0, 68), (68, 5, 1, 3, 0, 71), (71, 60, 0, 4, 0, 74), (74, 2, 0, 2, 0, 75), (75, 70, 0, 0, 0, 76)]
def mX6_dryPitches : gMt := (47, tbX6_dryPitches, [])
set_option maxRecDepth 100000 in
theorem okX6_dryPitches : gOK mX6_dryPitches = true := by decide +kernel
def tbX6_fitting : List (Nat × gRI) := [(0, 0, 0, 0, 0, 1), (1, 3, 0, 3, 0, 2), (2, 0, 0, 0, 0, 3), (3, 3, 0, 4, 0, 5), (5, 2, 0, 4, 0, 7), (7, 2, 0, 0, 2, 8), (8, 40, 0, 5, 0, 11), (11, 40, 0, 7, 2, 14), (14, 62, 0, 76, 3, 17), (17, 2, 0, 2, 0, 18), (18, 2, 0, 4, 0, 20), (20, 20, 0, 0, 0, 21), (21, 0, 1, 0, 0, 22), (22, 16, 0, 0, 0, 23), (23, 61, 0, 30, 0, 26), (26, 0, 1, 0, 0, 27), (27, 60, 0, 31, 0, 30), (30, 0, 0, 0, 0, 31), (31, 3, 0, 5, 0, 33), (33, 2, 0, 5, 0, 35), (35, 61, 0, 70, 0, 38), (38, 2, 0, 0, 2, 39), (39, 40, 0, 5, 0, 42), (42, 40, 0, 7, 5, 45), (45, 2, 0, 1, 0, 46), (46, 46, 0, 0, 0, 47), (47, 2, 0, 0, 2, 48), (48, 40, 0, 5, 0, 51), (51, 40, 0, 7, 4, 54), (54, 2, 0, 4, 0, 56), (56, 46, 0, 0, 0, 57), (57, 81, 0, 10, 2, 60), (60, 61, 0, 70, 1, 63), (63, 2, 0, 3, 0, 64), (64, 0, 1, 0, 0, 65), (65, 2, 0, 4, 0, 67), (67, 19, 0, 0, 0, 68), (68, 17, 0, 0, 0, 69), (69, 3, 0, 3, 0, 70), (70, 5, 1, 4, 0, 73), (73, 60, 0, 5, 0, 76), (76, 2, 0, 3, 0, 77), (77, 70, 0, 0, 0, 78)]
def mX6_fitting : gMt := (48, tbX6_fitting, [])
set_option maxRecDepth 100000 in
theorem okX6_fitting : gOK mX6_fitting = true := by decide +kernel
def tbX6_leastGoal : List (Nat × gRI) := [(0, 0, 0, 0, 0, 1), (1, 3, 0, 4, 0, 3), (3, 2, 0, 4, 0, 5), (5, 2, 0, 0, 2, 6), (6, 40, 0, 5, 0, 9), (9, 40, 0, 7, 2, 12), (12, 62, 0, 73, 3, 15), (15, 2, 0, 0, 2, 16), (16, 40, 0, 5, 3, 19), (19, 2, 0, 1, 0, 20), (20, 43, 0, 0, 0, 21), (21, 2, 0, 2, 0, 22), (22, 0, -1, 0, 0, 23), (23, 18, 0, 0, 0, 24), (24, 16, 0, 0, 0, 25), (25, 2, 0, 4, 0, 27), (27, 20, 0, 0, 0, 28), (28, 0, 1, 0, 0, 29), (29, 16, 0, 0, 0, 30), (30, 61, 0, 37, 0, 33), (33, 0, 1, 0, 0, 34), (34, 60, 0, 38, 0, 37), (37, 0, 0, 0, 0, 38), (38, 3, 0, 5, 0, 40), (40, 2, 0, 5, 0, 42), (42, 61, 0, 67, 0, 45), (45, 0, 1, 0, 0, 46), (46, 2, 0, 0, 2, 47), (47, 2, 0, 1, 0, 48), (48, 0, 1, 0, 0, 49), (49, 10, 0, 0, 0, 50), (50, 2, 0, 2, 0, 51), (51, 0, 1, 0, 0, 52), (52, 2, 0, 4, 0, 54), (54, 19, 0, 0, 0, 55), (55, 17, 0, 0, 0, 56), (56, 80, 0, 50, 2, 59), (59, 10, 0, 0, 0, 60), (60, 2, 0, 3, 0, 61), (61, 62, 0, 67, 1, 64), (64, 2, 0, 4, 0, 66), (66, 70, 0, 0, 0, 67), (67, 5, 1, 4, 0, 70), (70, 60, 0, 3, 0, 73), (73, 0, -1, 0, 0, 74), (74, 70, 0, 0, 0, 75)]
def mX6_leastGoal : gMt := (49, tbX6_leastGoal, [])
set_option maxRecDepth 100000 in
theorem okX6_leastGoal : gOK mX6_leastGoal = true := by decide +kernel
def tbX6_mostFrom : List (Nat × gRI) := [(0, 0, 0, 0, 0, 1), (1, 3, 0, 3, 0, 2), (2, 2, 0, 3, 0, 3), (3, 0, 12, 0, 0, 5), (5, 62, 0, 21, 3, 8), (8, 2, 0, 0, 2, 9), (9, 40, 0, 5, 5, 12), (12, 2, 0, 3, 0, 13), (13, 0, -1, 0, 0, 14), (14, 48, 0, 0, 0, 15), (15, 5, 1, 3, 0, 18), (18, 60, 0, 2, 0, 21), (21, 0, 0, 0, 0, 22), (22, 3, 0, 3, 0, 23), (23, 2, 0, 1, 0, 24), (24, 3, 0, 4, 0, 26), (26, 2, 0, 4, 0, 28), (28, 2, 0, 0, 2, 29), (29, 40, 0, 5, 1, 32), (32, 62, 0, 59, 3, 35), (35, 2, 0, 0, 2, 36), (36, 2, 0, 2, 0, 37), (37, 41, 0, 5, 6, 40), (40, 2, 0, 0, 2, 41), (41, 2, 0, 4, 0, 43), (43, 0, 0, 0, 0, 44), (44, 80, 0, 51, 2, 47), (47, 61, 0, 53, 0, 50), (50, 5, 1, 3, 0, 53), (53, 5, 1, 4, 0, 56), (56, 60, 0, 26, 0, 59), (59, 2, 0, 3, 0, 60), (60, 70, 0, 0, 0, 61)]
def mX6_mostFrom : gMt := (50, tbX6_mostFrom, [])
set_option maxRecDepth 100000 in
theorem okX6_mostFrom : gOK mX6_mostFrom = true := by decide +kernel
def tbX6_finds : List (Nat × gRI) := [(0, 0, 0, 0, 0, 1), (1, 3, 0, 3, 0, 2), (2, 2, 0, 2, 0, 3), (3, 0, 12, 0, 0, 5), (5, 62, 0, 92, 4, 8), (8, 2, 0, 3, 0, 9), (9, 2, 0, 0, 2, 10), (10, 40, 0, 5, 0, 13), (13, 40, 0, 7, 2, 16), (16, 62, 0, 92, 3, 19), (19, 2, 0, 0, 2, 20), (20, 40, 0, 5, 3, 23), (23, 2, 0, 1, 0, 24), (24, 43, 0, 0, 0, 25), (25, 2, 0, 0, 2, 26), (26, 40, 0, 5, 6, 29), (29, 0, -1, 0, 0, 30), (30, 18, 0, 0, 0, 31), (31, 16, 0, 0, 0, 32), (32, 2, 0, 3, 0, 33), (33, 20, 0, 0, 0, 34), (34, 0, 1, 0, 0, 35), (35, 16, 0, 0, 0, 36), (36, 61, 0, 86, 0, 39), (39, 2, 0, 0, 2, 40), (40, 6, 0, 0, 0, 41), (41, 40, 0, 5, 6, 44), (44, 0, 1, 0, 0, 45), (45, 2, 0, 3, 0, 46), (46, 19, 0, 0, 0, 47), (47, 17, 0, 0, 0, 48), (48, 41, 0, 5, 6, 51), (51, 2, 0, 0, 2, 52), (52, 40, 0, 5, 5, 55), (55, 2, 0, 3, 0, 56), (56, 43, 0, 0, 0, 57), (57, 0, -1, 0, 0, 58), (58, 62, 0, 77, 0, 61), (61, 2, 0, 0, 2, 62), (62, 2, 0, 0, 2, 63), (63, 40, 0, 5, 5, 66), (66, 2, 0, 3, 0, 67), (67, 43, 0, 0, 0, 68), (68, 2, 0, 2, 0, 69), (69, 0, 1, 0, 0, 70), (70, 10, 0, 0, 0, 71), (71, 80, 0, 51, 2, 74), (74, 61, 0, 86, 0, 77), (77, 2, 0, 0, 2, 78), (78, 40, 0, 5, 5, 81), (81, 2, 0, 3, 0, 82), (82, 2, 0, 1, 0, 83), (83, 48, 0, 0, 0, 84), (84, 0, 1, 0, 0, 85), (85, 70, 0, 0, 1, 86), (86, 5, 1, 3, 0, 89), (89, 60, 0, 2, 0, 92), (92, 0, 0, 0, 0, 93), (93, 70, 0, 0, 1, 94)]
def mX6_finds : gMt := (51, tbX6_finds, [])
set_option maxRecDepth 100000 in
theorem okX6_finds : gOK mX6_finds = true := by decide +kernel
def tbX7_init : List (Nat × gRI) := [(0, 2, 0, 0, 2, 1), (1, 84, 0, 0, 0, 4), (4, 2, 0, 0, 2, 5), (5, 0, 60, 0, 0, 7), (7, 91, 0, 0, 0, 9), (9, 42, 0, 6, 2, 12), (12, 72, 0, 0, 0, 13)]
def mX7_init : gMt := (52, tbX7_init, [])
set_option maxRecDepth 100000 in
theorem okX7_init : gOK mX7_init = true := by decide +kernel
def tbX7_begin : List (Nat × gRI) := [(0, 2, 0, 0, 2, 1), (1, 2, 0, 1, 0, 2), (2, 41, 0, 6, 0, 5), (5, 2, 0, 0, 2, 6), (6, 2, 0, 2, 0, 7), (7, 41, 0, 6, 1, 10), (10, 0, 0, 0, 0, 11), (11, 3, 0, 3, 0, 12), (12, 2, 0, 3, 0, 13), (13, 0, 60, 0, 0, 15), (15, 62, 0, 31, 3, 18), (18, 2, 0, 0, 2, 19), (19, 40, 0, 6, 2, 22), (22, 2, 0, 3, 0, 23), (23, 0, 0, 0, 0, 24), (24, 48, 0, 0, 0, 25), (25, 5, 1, 3, 0, 28), (28, 60, 0, 12, 0, 31), (31, 72, 0, 0, 0, 32)]
def mX7_begin : gMt := (53, tbX7_begin, [])
set_option maxRecDepth 100000 in
theorem okX7_begin : gOK mX7_begin = true := by decide +kernel
def tbX7_isMissing : List (Nat × gRI) := [(0, 2, 0, 0, 2, 1), (1, 40, 0, 6, 0, 4), (4, 61, 0, 11, 1, 7), (7, 0, 1, 0, 0, 8), (8, 60, 0, 12, 0, 11), (11, 0, 0, 0, 0, 12), (12, 70, 0, 0, 1, 13)]
def mX7_isMissing : gMt := (54, tbX7_isMissing, [])
set_option maxRecDepth 100000 in
theorem okX7_isMissing : gOK mX7_isMissing = true := by decide +kernel
def tbX7_hasRange : List (Nat × gRI) := [(0, 2, 0, 1, 0, 1), (1, 61, 0, 30, 2, 4), (4, 2, 0, 2, 0, 5), (5, 61, 0, 30, 2, 8), (8, 2, 0, 1, 0, 9), (9, 2, 0, 0, 2, 10), (10, 40, 0, 6, 1, 13), (13, 62, 0, 30, 4, 16), (16, 2, 0, 2, 0, 17), (17, 2, 0, 0, 2, 18), (18, 40, 0, 6, 1, 21), (21, 2, 0, 1, 0, 22), (22, 11, 0, 0, 0, 23), (23, 62, 0, 30, 4, 26), (26, 0, 1, 0, 0, 27), (27, 60, 0, 31, 0, 30), (30, 0, 0, 0, 0, 31), (31, 70, 0, 0, 1, 32)]
def mX7_hasRange : gMt := (55, tbX7_hasRange, [])
set_option maxRecDepth 100000 in
theorem okX7_hasRange : gOK mX7_hasRange = true := by decide +kernel
def tbX7_change : List (Nat × gRI) := [(0, 2, 0, 1, 0, 1), (1, 61, 0, 10, 2, 4), (4, 2, 0, 1, 0, 5), (5, 0, 60, 0, 0, 7), (7, 62, 0, 11, 2, 10), (10, 72, 0, 0, 0, 11), (11, 2, 0, 0, 2, 12), (12, 40, 0, 6, 2, 15), (15, 2, 0, 1, 0, 16), (16, 2, 0, 0, 2, 17), (17, 40, 0, 6, 0, 20), (20, 0, 32, 0, 0, 22), (22, 62, 0, 29, 1, 25), (25, 2, 0, 2, 0, 26), (26, 60, 0, 39, 0, 29), (29, 2, 0, 2, 0, 30), (30, 0, 1, 0, 0, 31), (31, 2, 0, 0, 2, 32), (32, 40, 0, 6, 0, 35), (35, 19, 0, 0, 0, 36), (36, 0, 1, 0, 0, 37), (37, 11, 0, 0, 0, 38), (38, 16, 0, 0, 0, 39), (39, 48, 0, 0, 0, 40), (40, 72, 0, 0, 0, 41)]
def mX7_change : gMt := (56, tbX7_change, [])
set_option maxRecDepth 100000 in
theorem okX7_change : gOK mX7_change = true := by decide +kernel
def tbX8_init : List (Nat × gRI) := [(0, 2, 0, 0, 2, 1), (1, 84, 0, 0, 0, 4), (4, 2, 0, 0, 2, 5), (5, 0, 12, 0, 0, 7), (7, 92, 0, 3, 0, 10), (10, 42, 0, 7, 4, 13), (13, 2, 0, 0, 2, 14), (14, 0, 24, 0, 0, 16), (16, 92, 0, 4, 0, 19), (19, 42, 0, 7, 5, 22), (22, 2, 0, 0, 2, 23), (23, 0, 4, 0, 0, 24), (24, 91, 0, 0, 0, 26), (26, 42, 0, 7, 6, 29), (29, 2, 0, 0, 2, 30), (30, 0, 10, 0, 0, 32), (32, 91, 0, 0, 0, 34), (34, 42, 0, 7, 7, 37), (37, 2, 0, 0, 2, 38), (38, 0, 2, 0, 0, 39), (39, 92, 0, 5, 0, 42), (42, 42, 0, 7, 8, 45), (45, 2, 0, 0, 2, 46), (46, 90, 0, 9, 0, 49), (49, 6, 0, 0, 0, 50), (50, 83, 0, 97, 0, 53), (53, 42, 0, 7, 9, 56), (56, 2, 0, 0, 2, 57), (57, 0, 6, 0, 0, 59), (59, 91, 0, 0, 0, 61), (61, 42, 0, 7, 10, 64), (64, 0, 0, 0, 0, 65), (65, 3, 0, 1, 0, 66), (66, 2, 0, 1, 0, 67), (67, 0, 12, 0, 0, 69), (69, 62, 0, 91, 3, 72), (72, 2, 0, 0, 2, 73), (73, 40, 0, 7, 4, 76), (76, 2, 0, 1, 0, 77), (77, 90, 0, 3, 0, 80), (80, 6, 0, 0, 0, 81), (81, 83, 0, 27, 0, 84), (84, 51, 0, 0, 0, 85), (85, 5, 1, 1, 0, 88), (88, 60, 0, 66, 0, 91), (91, 0, 0, 0, 0, 92), (92, 3, 0, 1, 0, 93), (93, 2, 0, 1, 0, 94), (94, 0, 24, 0, 0, 96), (96, 62, 0, 118, 3, 99), (99, 2, 0, 0, 2, 100), (100, 40, 0, 7, 5, 103), (103, 2, 0, 1, 0, 104), (104, 90, 0, 2, 0, 107), (107, 6, 0, 0, 0, 108), (108, 83, 0, 20, 0, 111), (111, 51, 0, 0, 0, 112), (112, 5, 1, 1, 0, 115), (115, 60, 0, 93, 0, 118), (118, 0, 0, 0, 0, 119), (119, 3, 0, 1, 0, 120), (120, 2, 0, 1, 0, 121), (121, 0, 4, 0, 0, 122), (122, 62, 0, 139, 3, 125), (125, 2, 0, 0, 2, 126), (126, 40, 0, 7, 6, 129), (129, 2, 0, 1, 0, 130), (130, 0, 32, 0, 0, 132), (132, 48, 0, 0, 0, 133), (133, 5, 1, 1, 0, 136), (136, 60, 0, 120, 0, 139), (139, 0, 0, 0, 0, 140), (140, 3, 0, 1, 0, 141), (141, 2, 0, 1, 0, 142), (142, 0, 10, 0, 0, 144), (144, 62, 0, 160, 3, 147), (147, 2, 0, 0, 2, 148), (148, 40, 0, 7, 7, 151), (151, 2, 0, 1, 0, 152), (152, 0, -1, 0, 0, 153), (153, 48, 0, 0, 0, 154), (154, 5, 1, 1, 0, 157), (157, 60, 0, 141, 0, 160), (160, 0, 0, 0, 0, 161), (161, 3, 0, 1, 0, 162), (162, 2, 0, 1, 0, 163), (163, 0, 2, 0, 0, 164), (164, 62, 0, 186, 3, 167), (167, 2, 0, 0, 2, 168), (168, 40, 0, 7, 8, 171), (171, 2, 0, 1, 0, 172), (172, 90, 0, 1, 0, 175), (175, 6, 0, 0, 0, 176), (176, 83, 0, 14, 0, 179), (179, 51, 0, 0, 0, 180), (180, 5, 1, 1, 0, 183), (183, 60, 0, 162, 0, 186), (186, 72, 0, 0, 0, 187)]
def mX8_init : gMt := (57, tbX8_init, [])
set_option maxRecDepth 100000 in
theorem okX8_init : gOK mX8_init = true := by decide +kernel
def tbX8_become : List (Nat × gRI) := [(0, 2, 0, 0, 2, 1), (1, 2, 0, 1, 2, 2), (2, 40, 0, 7, 0, 5), (5, 41, 0, 7, 0, 8), (8, 2, 0, 0, 2, 9), (9, 2, 0, 1, 2, 10), (10, 40, 0, 7, 1, 13), (13, 41, 0, 7, 1, 16), (16, 2, 0, 0, 2, 17), (17, 2, 0, 1, 2, 18), (18, 40, 0, 7, 2, 21), (21, 41, 0, 7, 2, 24), (24, 2, 0, 0, 2, 25), (25, 2, 0, 1, 2, 26), (26, 40, 0, 7, 3, 29), (29, 41, 0, 7, 3, 32), (32, 0, 0, 0, 0, 33), (33, 3, 0, 2, 0, 34), (34, 2, 0, 2, 0, 35), (35, 2, 0, 0, 2, 36), (36, 40, 0, 7, 2, 39), (39, 62, 0, 63, 3, 42), (42, 2, 0, 0, 2, 43), (43, 40, 0, 7, 4, 46), (46, 2, 0, 2, 0, 47), (47, 46, 0, 0, 0, 48), (48, 2, 0, 1, 2, 49), (49, 40, 0, 7, 4, 52), (52, 2, 0, 2, 0, 53), (53, 46, 0, 0, 0, 54), (54, 80, 0, 29, 1, 57), (57, 5, 1, 2, 0, 60), (60, 60, 0, 34, 0, 63), (63, 0, 0, 0, 0, 64), (64, 3, 0, 2, 0, 65), (65, 2, 0, 2, 0, 66), (66, 2, 0, 0, 2, 67), (67, 40, 0, 7, 3, 70), (70, 62, 0, 94, 3, 73), (73, 2, 0, 0, 2, 74), (74, 40, 0, 7, 5, 77), (77, 2, 0, 2, 0, 78), (78, 46, 0, 0, 0, 79), (79, 2, 0, 1, 2, 80), (80, 40, 0, 7, 5, 83), (83, 2, 0, 2, 0, 84), (84, 46, 0, 0, 0, 85), (85, 80, 0, 22, 1, 88), (88, 5, 1, 2, 0, 91), (91, 60, 0, 65, 0, 94), (94, 2, 0, 1, 2, 95), (95, 40, 0, 7, 6, 98), (98, 0, 0, 0, 0, 99), (99, 2, 0, 0, 2, 100), (100, 40, 0, 7, 6, 103), (103, 0, 0, 0, 0, 104), (104, 0, 4, 0, 0, 105), (105, 85, 0, 0, 0, 108), (108, 2, 0, 1, 2, 109), (109, 40, 0, 7, 7, 112), (112, 0, 0, 0, 0, 113), (113, 2, 0, 0, 2, 114), (114, 40, 0, 7, 7, 117), (117, 0, 0, 0, 0, 118), (118, 0, 10, 0, 0, 120), (120, 85, 0, 0, 0, 123), (123, 0, 0, 0, 0, 124), (124, 3, 0, 2, 0, 125), (125, 2, 0, 2, 0, 126), (126, 0, 2, 0, 0, 127), (127, 62, 0, 151, 3, 130), (130, 2, 0, 0, 2, 131), (131, 40, 0, 7, 8, 134), (134, 2, 0, 2, 0, 135), (135, 46, 0, 0, 0, 136), (136, 2, 0, 1, 2, 137), (137, 40, 0, 7, 8, 140), (140, 2, 0, 2, 0, 141), (141, 46, 0, 0, 0, 142), (142, 80, 0, 16, 1, 145), (145, 5, 1, 2, 0, 148), (148, 60, 0, 125, 0, 151), (151, 2, 0, 0, 2, 152), (152, 40, 0, 7, 9, 155), (155, 2, 0, 1, 2, 156), (156, 40, 0, 7, 9, 159), (159, 80, 0, 99, 1, 162), (162, 72, 0, 0, 0, 163)]
def mX8_become : gMt := (58, tbX8_become, [])
set_option maxRecDepth 100000 in
theorem okX8_become : gOK mX8_become = true := by decide +kernel
def tbX8_isPitch : List (Nat × gRI) := [(0, 2, 0, 1, 0, 1), (1, 61, 0, 16, 2, 4), (4, 2, 0, 1, 0, 5), (5, 2, 0, 0, 2, 6), (6, 40, 0, 7, 2, 9), (9, 62, 0, 16, 3, 12), (12, 0, 1, 0, 0, 13), (13, 60, 0, 17, 0, 16), (16, 0, 0, 0, 0, 17), (17, 70, 0, 0, 1, 18)]
def mX8_isPitch : gMt := (59, tbX8_isPitch, [])
set_option maxRecDepth 100000 in
theorem okX8_isPitch : gOK mX8_isPitch = true := by decide +kernel
def tbX8_isParty : List (Nat × gRI) := [(0, 2, 0, 1, 0, 1), (1, 61, 0, 16, 2, 4), (4, 2, 0, 1, 0, 5), (5, 2, 0, 0, 2, 6), (6, 40, 0, 7, 3, 9), (9, 62, 0, 16, 3, 12), (12, 0, 1, 0, 0, 13), (13, 60, 0, 17, 0, 16), (16, 0, 0, 0, 0, 17), (17, 70, 0, 0, 1, 18)]
def mX8_isParty : gMt := (60, tbX8_isParty, [])
set_option maxRecDepth 100000 in
theorem okX8_isParty : gOK mX8_isParty = true := by decide +kernel
def tbX8_isPartyOrNobody : List (Nat × gRI) := [(0, 2, 0, 1, 0, 1), (1, 0, -1, 0, 0, 2), (2, 62, 0, 13, 0, 5), (5, 2, 0, 0, 2, 6), (6, 2, 0, 1, 0, 7), (7, 80, 0, 60, 1, 10), (10, 61, 0, 17, 0, 13), (13, 0, 1, 0, 0, 14), (14, 60, 0, 18, 0, 17), (17, 0, 0, 0, 0, 18), (18, 70, 0, 0, 1, 19)]
def mX8_isPartyOrNobody : gMt := (61, tbX8_isPartyOrNobody, [])
set_option maxRecDepth 100000 in
theorem okX8_isPartyOrNobody : gOK mX8_isPartyOrNobody = true := by decide +kernel
def tbX8_isOn : List (Nat × gRI) := [(0, 2, 0, 0, 2, 1), (1, 40, 0, 7, 5, 4), (4, 2, 0, 1, 0, 5), (5, 46, 0, 0, 0, 6), (6, 40, 0, 2, 8, 9), (9, 61, 0, 16, 2, 12), (12, 0, 1, 0, 0, 13), (13, 60, 0, 17, 0, 16), (16, 0, 0, 0, 0, 17), (17, 70, 0, 0, 1, 18)]
def mX8_isOn : gMt := (62, tbX8_isOn, [])
set_option maxRecDepth 100000 in
theorem okX8_isOn : gOK mX8_isOn = true := by decide +kernel
def tbX8_hasCome : List (Nat × gRI) := [(0, 2, 0, 0, 2, 1), (1, 40, 0, 7, 5, 4), (4, 2, 0, 1, 0, 5), (5, 46, 0, 0, 0, 6), (6, 40, 0, 2, 4, 9), (9, 2, 0, 0, 2, 10), (10, 40, 0, 7, 0, 13), (13, 62, 0, 20, 4, 16), (16, 0, 1, 0, 0, 17), (17, 60, 0, 21, 0, 20), (20, 0, 0, 0, 0, 21), (21, 70, 0, 0, 1, 22)]
def mX8_hasCome : gMt := (63, tbX8_hasCome, [])
set_option maxRecDepth 100000 in
theorem okX8_hasCome : gOK mX8_hasCome = true := by decide +kernel
end
section
def tbX8_isSettled : List (Nat × gRI) := [(0, 2, 0, 0, 2, 1), (1, 2, 0, 1, 0, 2), (2, 80, 0, 62, 1, 5), (5, 61, 0, 20, 0, 8), (8, 2, 0, 0, 2, 9), (9, 2, 0, 1, 0, 10), (10, 80, 0, 63, 1, 13), (13, 61, 0, 20, 0, 16), (16, 0, 1, 0, 0, 17), (17, 60, 0, 21, 0, 20), (20, 0, 0, 0, 0, 21), (21, 70, 0, 0, 1, 22)]
def mX8_isSettled : gMt := (64, tbX8_isSettled, [])
set_option maxRecDepth 100000 in
theorem okX8_isSettled : gOK mX8_isSettled = true := by decide +kernel
def tbX8_isHere : List (Nat × gRI) := [(0, 2, 0, 0, 2, 1), (1, 2, 0, 1, 0, 2), (2, 80, 0, 62, 1, 5), (5, 61, 0, 28, 0, 8), (8, 2, 0, 0, 2, 9), (9, 40, 0, 7, 5, 12), (12, 2, 0, 1, 0, 13), (13, 46, 0, 0, 0, 14), (14, 2, 0, 0, 2, 15), (15, 40, 0, 7, 0, 18), (18, 80, 0, 25, 1, 21), (21, 61, 0, 28, 0, 24), (24, 0, 1, 0, 0, 25), (25, 60, 0, 29, 0, 28), (28, 0, 0, 0, 0, 29), (29, 70, 0, 0, 1, 30)]
def mX8_isHere : gMt := (65, tbX8_isHere, [])
set_option maxRecDepth 100000 in
theorem okX8_isHere : gOK mX8_isHere = true := by decide +kernel
def tbX8_isWet : List (Nat × gRI) := [(0, 2, 0, 0, 2, 1), (1, 2, 0, 1, 0, 2), (2, 80, 0, 65, 1, 5), (5, 61, 0, 33, 0, 8), (8, 2, 0, 0, 2, 9), (9, 40, 0, 7, 4, 12), (12, 2, 0, 0, 2, 13), (13, 40, 0, 7, 5, 16), (16, 2, 0, 1, 0, 17), (17, 46, 0, 0, 0, 18), (18, 40, 0, 2, 8, 21), (21, 46, 0, 0, 0, 22), (22, 40, 0, 3, 3, 25), (25, 2, 0, 2, 0, 26), (26, 62, 0, 33, 3, 29), (29, 0, 1, 0, 0, 30), (30, 60, 0, 34, 0, 33), (33, 0, 0, 0, 0, 34), (34, 70, 0, 0, 1, 35)]
def mX8_isWet : gMt := (66, tbX8_isWet, [])
set_option maxRecDepth 100000 in
theorem okX8_isWet : gOK mX8_isWet = true := by decide +kernel
def tbX8_partiesHere : List (Nat × gRI) := [(0, 0, 0, 0, 0, 1), (1, 3, 0, 1, 0, 2), (2, 0, 0, 0, 0, 3), (3, 3, 0, 2, 0, 4), (4, 2, 0, 2, 0, 5), (5, 2, 0, 0, 2, 6), (6, 40, 0, 7, 3, 9), (9, 62, 0, 29, 3, 12), (12, 2, 0, 0, 2, 13), (13, 2, 0, 2, 0, 14), (14, 80, 0, 65, 1, 17), (17, 61, 0, 23, 0, 20), (20, 5, 1, 1, 0, 23), (23, 5, 1, 2, 0, 26), (26, 60, 0, 4, 0, 29), (29, 2, 0, 1, 0, 30), (30, 70, 0, 0, 0, 31)]
def mX8_partiesHere : gMt := (67, tbX8_partiesHere, [])
set_option maxRecDepth 100000 in
theorem okX8_partiesHere : gOK mX8_partiesHere = true := by decide +kernel
def tbX8_partiesWaiting : List (Nat × gRI) := [(0, 0, 0, 0, 0, 1), (1, 3, 0, 1, 0, 2), (2, 0, 0, 0, 0, 3), (3, 3, 0, 2, 0, 4), (4, 2, 0, 2, 0, 5), (5, 2, 0, 0, 2, 6), (6, 40, 0, 7, 3, 9), (9, 62, 0, 34, 3, 12), (12, 2, 0, 0, 2, 13), (13, 40, 0, 7, 5, 16), (16, 2, 0, 2, 0, 17), (17, 46, 0, 0, 0, 18), (18, 40, 0, 2, 8, 21), (21, 0, -1, 0, 0, 22), (22, 62, 0, 28, 1, 25), (25, 5, 1, 1, 0, 28), (28, 5, 1, 2, 0, 31), (31, 60, 0, 4, 0, 34), (34, 2, 0, 1, 0, 35), (35, 70, 0, 0, 0, 36)]
def mX8_partiesWaiting : gMt := (68, tbX8_partiesWaiting, [])
set_option maxRecDepth 100000 in
theorem okX8_partiesWaiting : gOK mX8_partiesWaiting = true := by decide +kernel
def tbX8_distance : List (Nat × gRI) := [(0, 2, 0, 0, 2, 1), (1, 40, 0, 7, 4, 4), (4, 2, 0, 1, 0, 5), (5, 46, 0, 0, 0, 6), (6, 40, 0, 3, 0, 9), (9, 2, 0, 0, 2, 10), (10, 40, 0, 7, 4, 13), (13, 2, 0, 2, 0, 14), (14, 46, 0, 0, 0, 15), (15, 40, 0, 3, 0, 18), (18, 11, 0, 0, 0, 19), (19, 81, 0, 250, 1, 22), (22, 2, 0, 0, 2, 23), (23, 40, 0, 7, 4, 26), (26, 2, 0, 1, 0, 27), (27, 46, 0, 0, 0, 28), (28, 40, 0, 3, 1, 31), (31, 2, 0, 0, 2, 32), (32, 40, 0, 7, 4, 35), (35, 2, 0, 2, 0, 36), (36, 46, 0, 0, 0, 37), (37, 40, 0, 3, 1, 40), (40, 11, 0, 0, 0, 41), (41, 81, 0, 250, 1, 44), (44, 10, 0, 0, 0, 45), (45, 70, 0, 0, 0, 46)]
def mX8_distance : gMt := (69, tbX8_distance, [])
set_option maxRecDepth 100000 in
theorem okX8_distance : gOK mX8_distance = true := by decide +kernel
def tbX8_holder : List (Nat × gRI) := [(0, 0, 0, 0, 0, 1), (1, 3, 0, 3, 0, 2), (2, 2, 0, 3, 0, 3), (3, 2, 0, 0, 2, 4), (4, 40, 0, 7, 3, 7), (7, 62, 0, 44, 3, 10), (10, 2, 0, 0, 2, 11), (11, 40, 0, 7, 5, 14), (14, 2, 0, 3, 0, 15), (15, 46, 0, 0, 0, 16), (16, 40, 0, 2, 8, 19), (19, 2, 0, 1, 0, 20), (20, 62, 0, 38, 1, 23), (23, 2, 0, 0, 2, 24), (24, 40, 0, 7, 5, 27), (27, 2, 0, 3, 0, 28), (28, 46, 0, 0, 0, 29), (29, 2, 0, 2, 0, 30), (30, 80, 0, 25, 1, 33), (33, 61, 0, 38, 0, 36), (36, 2, 0, 3, 0, 37), (37, 70, 0, 0, 0, 38), (38, 5, 1, 3, 0, 41), (41, 60, 0, 2, 0, 44), (44, 0, -1, 0, 0, 45), (45, 70, 0, 0, 0, 46)]
def mX8_holder : gMt := (70, tbX8_holder, [])
set_option maxRecDepth 100000 in
theorem okX8_holder : gOK mX8_holder = true := by decide +kernel
def tbX8_mark : List (Nat × gRI) := [(0, 2, 0, 1, 2, 1), (1, 80, 0, 4, 0, 4), (4, 0, 0, 0, 0, 5), (5, 3, 0, 3, 0, 6), (6, 2, 0, 3, 0, 7), (7, 2, 0, 0, 2, 8), (8, 40, 0, 7, 3, 11), (11, 62, 0, 63, 3, 14), (14, 2, 0, 0, 2, 15), (15, 40, 0, 7, 5, 18), (18, 2, 0, 3, 0, 19), (19, 46, 0, 0, 0, 20), (20, 3, 0, 4, 2, 22), (22, 2, 0, 4, 2, 24), (24, 40, 0, 2, 8, 27), (27, 61, 0, 57, 2, 30), (30, 2, 0, 2, 0, 31), (31, 2, 0, 3, 0, 32), (32, 20, 0, 0, 0, 33), (33, 0, 1, 0, 0, 34), (34, 16, 0, 0, 0, 35), (35, 61, 0, 57, 1, 38), (38, 2, 0, 1, 2, 39), (39, 2, 0, 4, 2, 41), (41, 40, 0, 2, 8, 44), (44, 2, 0, 4, 2, 46), (46, 40, 0, 2, 6, 49), (49, 2, 0, 4, 2, 51), (51, 40, 0, 2, 7, 54), (54, 80, 0, 6, 3, 57), (57, 5, 1, 3, 0, 60), (60, 60, 0, 6, 0, 63), (63, 72, 0, 0, 0, 64)]
def mX8_mark : gMt := (71, tbX8_mark, [])
set_option maxRecDepth 100000 in
theorem okX8_mark : gOK mX8_mark = true := by decide +kernel
def tbX8_loadNow : List (Nat × gRI) := [(0, 0, 0, 0, 0, 1), (1, 3, 0, 3, 0, 2), (2, 0, 0, 0, 0, 3), (3, 3, 0, 4, 0, 5), (5, 2, 0, 4, 0, 7), (7, 2, 0, 0, 2, 8), (8, 40, 0, 7, 3, 11), (11, 62, 0, 87, 3, 14), (14, 2, 0, 0, 2, 15), (15, 40, 0, 7, 5, 18), (18, 2, 0, 4, 0, 20), (20, 46, 0, 0, 0, 21), (21, 3, 0, 5, 2, 23), (23, 2, 0, 5, 2, 25), (25, 40, 0, 2, 11, 28), (28, 2, 0, 2, 0, 29), (29, 20, 0, 0, 0, 30), (30, 0, 1, 0, 0, 31), (31, 16, 0, 0, 0, 32), (32, 61, 0, 39, 0, 35), (35, 0, 1, 0, 0, 36), (36, 60, 0, 40, 0, 39), (39, 0, 0, 0, 0, 40), (40, 3, 0, 6, 0, 42), (42, 2, 0, 6, 0, 44), (44, 61, 0, 81, 0, 47), (47, 2, 0, 0, 2, 48), (48, 2, 0, 4, 0, 50), (50, 80, 0, 65, 1, 53), (53, 61, 0, 81, 0, 56), (56, 2, 0, 0, 2, 57), (57, 40, 0, 7, 4, 60), (60, 2, 0, 5, 2, 62), (62, 40, 0, 2, 8, 65), (65, 46, 0, 0, 0, 66), (66, 40, 0, 3, 7, 69), (69, 2, 0, 1, 0, 70), (70, 62, 0, 81, 1, 73), (73, 2, 0, 3, 0, 74), (74, 2, 0, 5, 2, 76), (76, 40, 0, 2, 12, 79), (79, 10, 0, 0, 0, 80), (80, 3, 0, 3, 0, 81), (81, 5, 1, 4, 0, 84), (84, 60, 0, 5, 0, 87), (87, 2, 0, 3, 0, 88), (88, 70, 0, 0, 0, 89)]
def mX8_loadNow : gMt := (72, tbX8_loadNow, [])
set_option maxRecDepth 100000 in
theorem okX8_loadNow : gOK mX8_loadNow = true := by decide +kernel
def tbX8_priceNow : List (Nat × gRI) := [(0, 2, 0, 0, 2, 1), (1, 40, 0, 7, 8, 4), (4, 0, 0, 0, 0, 5), (5, 46, 0, 0, 0, 6), (6, 40, 0, 1, 0, 9), (9, 61, 0, 22, 1, 12), (12, 2, 0, 0, 2, 13), (13, 40, 0, 7, 5, 16), (16, 2, 0, 1, 0, 17), (17, 46, 0, 0, 0, 18), (18, 81, 0, 13, 1, 21), (21, 70, 0, 0, 0, 22), (22, 0, 0, 0, 0, 23), (23, 0, 9999, 0, 0, 26), (26, 2, 0, 0, 2, 27), (27, 2, 0, 1, 0, 28), (28, 2, 0, 0, 2, 29), (29, 40, 0, 7, 8, 32), (32, 0, 0, 0, 0, 33), (33, 46, 0, 0, 0, 34), (34, 80, 0, 75, 2, 37), (37, 81, 0, 252, 2, 40), (40, 81, 0, 251, 2, 43), (43, 70, 0, 0, 0, 44)]
def mX8_priceNow : gMt := (73, tbX8_priceNow, [])
set_option maxRecDepth 100000 in
theorem okX8_priceNow : gOK mX8_priceNow = true := by decide +kernel
def tbX8_refundNow : List (Nat × gRI) := [(0, 2, 0, 0, 2, 1), (1, 40, 0, 7, 8, 4), (4, 0, 1, 0, 0, 5), (5, 46, 0, 0, 0, 6), (6, 40, 0, 1, 0, 9), (9, 61, 0, 33, 0, 12), (12, 0, 0, 0, 0, 13), (13, 0, 100, 0, 0, 15), (15, 2, 0, 0, 2, 16), (16, 2, 0, 1, 0, 17), (17, 2, 0, 0, 2, 18), (18, 40, 0, 7, 8, 21), (21, 0, 1, 0, 0, 22), (22, 46, 0, 0, 0, 23), (23, 80, 0, 75, 2, 26), (26, 81, 0, 252, 2, 29), (29, 81, 0, 251, 2, 32), (32, 70, 0, 0, 0, 33), (33, 2, 0, 0, 2, 34), (34, 40, 0, 7, 5, 37), (37, 2, 0, 1, 0, 38), (38, 46, 0, 0, 0, 39), (39, 40, 0, 2, 4, 42), (42, 2, 0, 0, 2, 43), (43, 40, 0, 7, 0, 46), (46, 11, 0, 0, 0, 47), (47, 3, 0, 2, 0, 48), (48, 2, 0, 2, 0, 49), (49, 0, 7, 0, 0, 51), (51, 62, 0, 57, 2, 54), (54, 0, 100, 0, 0, 56), (56, 70, 0, 0, 0, 57), (57, 2, 0, 2, 0, 58), (58, 0, 1, 0, 0, 59), (59, 62, 0, 67, 2, 62), (62, 0, 50, 0, 0, 64), (64, 60, 0, 68, 0, 67), (67, 0, 0, 0, 0, 68), (68, 70, 0, 0, 0, 69)]
def mX8_refundNow : gMt := (74, tbX8_refundNow, [])
set_option maxRecDepth 100000 in
theorem okX8_refundNow : gOK mX8_refundNow = true := by decide +kernel
def tbX8_worthFor : List (Nat × gRI) := [(0, 2, 0, 0, 2, 1), (1, 40, 0, 7, 5, 4), (4, 2, 0, 1, 0, 5), (5, 46, 0, 0, 0, 6), (6, 3, 0, 3, 2, 7), (7, 2, 0, 0, 2, 8), (8, 40, 0, 7, 10, 11), (11, 0, 0, 0, 0, 12), (12, 2, 0, 3, 2, 13), (13, 40, 0, 2, 1, 16), (16, 48, 0, 0, 0, 17), (17, 2, 0, 0, 2, 18), (18, 40, 0, 7, 10, 21), (21, 0, 1, 0, 0, 22), (22, 2, 0, 3, 2, 23), (23, 40, 0, 2, 2, 26), (26, 48, 0, 0, 0, 27), (27, 2, 0, 0, 2, 28), (28, 40, 0, 7, 10, 31), (31, 0, 2, 0, 0, 32), (32, 2, 0, 3, 2, 33), (33, 40, 0, 2, 5, 36), (36, 48, 0, 0, 0, 37), (37, 2, 0, 0, 2, 38), (38, 40, 0, 7, 10, 41), (41, 0, 3, 0, 0, 42), (42, 2, 0, 3, 2, 43), (43, 40, 0, 2, 0, 46), (46, 48, 0, 0, 0, 47), (47, 2, 0, 0, 2, 48), (48, 40, 0, 7, 10, 51), (51, 0, 4, 0, 0, 52), (52, 2, 0, 3, 2, 53), (53, 40, 0, 2, 4, 56), (56, 2, 0, 0, 2, 57), (57, 40, 0, 7, 0, 60), (60, 11, 0, 0, 0, 61), (61, 48, 0, 0, 0, 62), (62, 2, 0, 0, 2, 63), (63, 40, 0, 7, 10, 66), (66, 0, 5, 0, 0, 67), (67, 2, 0, 0, 2, 68), (68, 2, 0, 1, 0, 69), (69, 2, 0, 3, 2, 70), (70, 40, 0, 2, 4, 73), (73, 80, 0, 76, 2, 76), (76, 48, 0, 0, 0, 77), (77, 2, 0, 2, 2, 78), (78, 2, 0, 0, 2, 79), (79, 40, 0, 7, 10, 82), (82, 80, 0, 17, 1, 85), (85, 70, 0, 0, 0, 86)]
def mX8_worthFor : gMt := (75, tbX8_worthFor, [])
set_option maxRecDepth 100000 in
theorem okX8_worthFor : gOK mX8_worthFor = true := by decide +kernel
def tbX8_othersOn : List (Nat × gRI) := [(0, 0, 0, 0, 0, 1), (1, 3, 0, 3, 0, 2), (2, 0, 0, 0, 0, 3), (3, 3, 0, 4, 0, 5), (5, 2, 0, 4, 0, 7), (7, 2, 0, 0, 2, 8), (8, 40, 0, 7, 3, 11), (11, 62, 0, 52, 3, 14), (14, 2, 0, 4, 0, 16), (16, 2, 0, 1, 0, 17), (17, 62, 0, 46, 0, 20), (20, 2, 0, 0, 2, 21), (21, 2, 0, 4, 0, 23), (23, 80, 0, 62, 1, 26), (26, 61, 0, 46, 0, 29), (29, 2, 0, 0, 2, 30), (30, 40, 0, 7, 5, 33), (33, 2, 0, 4, 0, 35), (35, 46, 0, 0, 0, 36), (36, 2, 0, 2, 0, 37), (37, 80, 0, 25, 1, 40), (40, 61, 0, 46, 0, 43), (43, 5, 1, 3, 0, 46), (46, 5, 1, 4, 0, 49), (49, 60, 0, 5, 0, 52), (52, 2, 0, 3, 0, 53), (53, 70, 0, 0, 0, 54)]
def mX8_othersOn : gMt := (76, tbX8_othersOn, [])
set_option maxRecDepth 100000 in
theorem okX8_othersOn : gOK mX8_othersOn = true := by decide +kernel
def tbX9_init : List (Nat × gRI) := [(0, 2, 0, 0, 2, 1), (1, 84, 0, 0, 0, 4), (4, 2, 0, 0, 2, 5), (5, 0, 120, 0, 0, 7), (7, 91, 0, 0, 0, 9), (9, 42, 0, 8, 4, 12), (12, 2, 0, 0, 2, 13), (13, 0, 120, 0, 0, 15), (15, 91, 0, 0, 0, 17), (17, 42, 0, 8, 5, 20), (20, 2, 0, 0, 2, 21), (21, 0, 121, 0, 0, 23), (23, 91, 0, 0, 0, 25), (25, 42, 0, 8, 6, 28), (28, 2, 0, 0, 2, 29), (29, 0, 121, 0, 0, 31), (31, 91, 0, 0, 0, 33), (33, 42, 0, 8, 7, 36), (36, 2, 0, 0, 2, 37), (37, 0, 121, 0, 0, 39), (39, 91, 0, 0, 0, 41), (41, 42, 0, 8, 8, 44), (44, 72, 0, 0, 0, 45)]
def mX9_init : gMt := (77, tbX9_init, [])
set_option maxRecDepth 100000 in
theorem okX9_init : gOK mX9_init = true := by decide +kernel
def tbX9_append : List (Nat × gRI) := [(0, 2, 0, 0, 2, 1), (1, 40, 0, 8, 0, 4), (4, 0, 120, 0, 0, 6), (6, 62, 0, 29, 3, 9), (9, 2, 0, 0, 2, 10), (10, 40, 0, 8, 5, 13), (13, 2, 0, 0, 2, 14), (14, 40, 0, 8, 0, 17), (17, 2, 0, 1, 0, 18), (18, 48, 0, 0, 0, 19), (19, 2, 0, 0, 2, 20), (20, 6, 0, 0, 0, 21), (21, 40, 0, 8, 0, 24), (24, 0, 1, 0, 0, 25), (25, 10, 0, 0, 0, 26), (26, 41, 0, 8, 0, 29), (29, 72, 0, 0, 0, 30)]
def mX9_append : gMt := (78, tbX9_append, [])
set_option maxRecDepth 100000 in
theorem okX9_append : gOK mX9_append = true := by decide +kernel
def tbX9_readText : List (Nat × gRI) := [(0, 2, 0, 0, 2, 1), (1, 80, 0, 80, 0, 4), (4, 2, 0, 0, 2, 5), (5, 0, 0, 0, 0, 6), (6, 41, 0, 8, 1, 9), (9, 2, 0, 0, 2, 10), (10, 0, 0, 0, 0, 11), (11, 41, 0, 8, 2, 14), (14, 2, 0, 0, 2, 15), (15, 0, 0, 0, 0, 16), (16, 41, 0, 8, 3, 19), (19, 2, 0, 0, 2, 20), (20, 0, 0, 0, 0, 21), (21, 41, 0, 8, 10, 24), (24, 2, 0, 0, 2, 25), (25, 0, 0, 0, 0, 26), (26, 80, 0, 92, 1, 29), (29, 61, 0, 55, 0, 32), (32, 2, 0, 0, 2, 33), (33, 40, 0, 8, 6, 36), (36, 2, 0, 0, 2, 37), (37, 40, 0, 8, 10, 40), (40, 43, 0, 0, 0, 41), (41, 61, 0, 51, 0, 44), (44, 2, 0, 0, 2, 45), (45, 80, 0, 90, 0, 48), (48, 61, 0, 55, 0, 51), (51, 0, 1, 0, 0, 52), (52, 60, 0, 56, 0, 55), (55, 0, 0, 0, 0, 56), (56, 70, 0, 0, 1, 57)]
def mX9_readText : gMt := (79, tbX9_readText, [])
set_option maxRecDepth 100000 in
theorem okX9_readText : gOK mX9_readText = true := by decide +kernel
def tbX9_cutIntoTokens : List (Nat × gRI) := [(0, 2, 0, 0, 2, 1), (1, 0, 0, 0, 0, 2), (2, 41, 0, 8, 9, 5), (5, 0, 0, 0, 0, 6), (6, 3, 0, 1, 0, 7), (7, 2, 0, 1, 0, 8), (8, 2, 0, 0, 2, 9), (9, 40, 0, 8, 0, 12), (12, 62, 0, 111, 3, 15), (15, 2, 0, 1, 0, 16), (16, 0, 1, 0, 0, 17), (17, 10, 0, 0, 0, 18), (18, 3, 0, 2, 0, 19), (19, 2, 0, 0, 2, 20), (20, 40, 0, 8, 5, 23), (23, 2, 0, 1, 0, 24), (24, 43, 0, 0, 0, 25), (25, 81, 0, 85, 1, 28), (28, 61, 0, 40, 0, 31), (31, 2, 0, 0, 2, 32), (32, 2, 0, 1, 0, 33), (33, 80, 0, 82, 1, 36), (36, 3, 0, 2, 0, 37), (37, 60, 0, 100, 0, 40), (40, 2, 0, 0, 2, 41), (41, 40, 0, 8, 5, 44), (44, 2, 0, 1, 0, 45), (45, 43, 0, 0, 0, 46), (46, 81, 0, 86, 1, 49), (49, 61, 0, 61, 0, 52), (52, 2, 0, 0, 2, 53), (53, 2, 0, 1, 0, 54), (54, 80, 0, 83, 1, 57), (57, 3, 0, 2, 0, 58), (58, 60, 0, 100, 0, 61), (61, 2, 0, 0, 2, 62), (62, 40, 0, 8, 5, 65), (65, 2, 0, 1, 0, 66), (66, 43, 0, 0, 0, 67), (67, 0, 32, 0, 0, 69), (69, 62, 0, 100, 0, 72), (72, 2, 0, 0, 2, 73), (73, 2, 0, 0, 2, 74), (74, 40, 0, 8, 5, 77), (77, 2, 0, 1, 0, 78), (78, 43, 0, 0, 0, 79), (79, 81, 0, 87, 1, 82), (82, 61, 0, 94, 0, 85), (85, 2, 0, 0, 2, 86), (86, 40, 0, 8, 5, 89), (89, 2, 0, 1, 0, 90), (90, 43, 0, 0, 0, 91), (91, 60, 0, 95, 0, 94), (94, 0, 3, 0, 0, 95), (95, 0, 0, 0, 0, 96), (96, 2, 0, 1, 0, 97), (97, 80, 0, 81, 3, 100), (100, 2, 0, 2, 0, 101), (101, 2, 0, 1, 0, 102), (102, 0, 1, 0, 0, 103), (103, 10, 0, 0, 0, 104), (104, 81, 0, 251, 2, 107), (107, 3, 0, 1, 0, 108), (108, 60, 0, 7, 0, 111), (111, 2, 0, 0, 2, 112), (112, 0, 0, 0, 0, 113), (113, 0, 0, 0, 0, 114), (114, 2, 0, 0, 2, 115), (115, 40, 0, 8, 0, 118), (118, 80, 0, 81, 3, 121), (121, 72, 0, 0, 0, 122)]
def mX9_cutIntoTokens : gMt := (80, tbX9_cutIntoTokens, [])
set_option maxRecDepth 100000 in
theorem okX9_cutIntoTokens : gOK mX9_cutIntoTokens = true := by decide +kernel
def tbX9_addToken : List (Nat × gRI) := [(0, 2, 0, 0, 2, 1), (1, 40, 0, 8, 9, 4), (4, 0, 120, 0, 0, 6), (6, 62, 0, 49, 4, 9), (9, 2, 0, 0, 2, 10), (10, 40, 0, 8, 6, 13), (13, 2, 0, 0, 2, 14), (14, 40, 0, 8, 9, 17), (17, 2, 0, 1, 0, 18), (18, 48, 0, 0, 0, 19), (19, 2, 0, 0, 2, 20), (20, 40, 0, 8, 7, 23), (23, 2, 0, 0, 2, 24), (24, 40, 0, 8, 9, 27), (27, 2, 0, 2, 0, 28), (28, 48, 0, 0, 0, 29), (29, 2, 0, 0, 2, 30), (30, 40, 0, 8, 8, 33), (33, 2, 0, 0, 2, 34), (34, 40, 0, 8, 9, 37), (37, 2, 0, 3, 0, 38), (38, 48, 0, 0, 0, 39), (39, 2, 0, 0, 2, 40), (40, 6, 0, 0, 0, 41), (41, 40, 0, 8, 9, 44), (44, 0, 1, 0, 0, 45), (45, 10, 0, 0, 0, 46), (46, 41, 0, 8, 9, 49), (49, 72, 0, 0, 0, 50)]
def mX9_addToken : gMt := (81, tbX9_addToken, [])
set_option maxRecDepth 100000 in
theorem okX9_addToken : gOK mX9_addToken = true := by decide +kernel
def tbX9_cutNumber : List (Nat × gRI) := [(0, 0, 0, 0, 0, 1), (1, 3, 0, 2, 0, 2), (2, 2, 0, 1, 0, 3), (3, 3, 0, 3, 0, 4), (4, 2, 0, 3, 0, 5), (5, 2, 0, 0, 2, 6), (6, 40, 0, 8, 0, 9), (9, 62, 0, 51, 3, 12), (12, 2, 0, 0, 2, 13), (13, 40, 0, 8, 5, 16), (16, 2, 0, 3, 0, 17), (17, 43, 0, 0, 0, 18), (18, 81, 0, 85, 1, 21), (21, 61, 0, 51, 0, 24), (24, 0, 10000, 0, 0, 27), (27, 0, 10, 0, 0, 29), (29, 2, 0, 2, 0, 30), (30, 12, 0, 0, 0, 31), (31, 2, 0, 0, 2, 32), (32, 40, 0, 8, 5, 35), (35, 2, 0, 3, 0, 36), (36, 43, 0, 0, 0, 37), (37, 10, 0, 0, 0, 38), (38, 0, 48, 0, 0, 40), (40, 11, 0, 0, 0, 41), (41, 81, 0, 252, 2, 44), (44, 3, 0, 2, 0, 45), (45, 5, 1, 3, 0, 48), (48, 60, 0, 4, 0, 51), (51, 2, 0, 0, 2, 52), (52, 2, 0, 2, 0, 53), (53, 0, 9999, 0, 0, 56), (56, 62, 0, 63, 5, 59), (59, 0, 3, 0, 0, 60), (60, 60, 0, 64, 0, 63), (63, 0, 1, 0, 0, 64), (64, 2, 0, 2, 0, 65), (65, 2, 0, 1, 0, 66), (66, 80, 0, 81, 3, 69), (69, 2, 0, 3, 0, 70), (70, 70, 0, 0, 0, 71)]
def mX9_cutNumber : gMt := (82, tbX9_cutNumber, [])
set_option maxRecDepth 100000 in
theorem okX9_cutNumber : gOK mX9_cutNumber = true := by decide +kernel
def tbX9_cutWord : List (Nat × gRI) := [(0, 2, 0, 1, 0, 1), (1, 3, 0, 2, 0, 2), (2, 2, 0, 2, 0, 3), (3, 2, 0, 0, 2, 4), (4, 40, 0, 8, 0, 7), (7, 62, 0, 28, 3, 10), (10, 2, 0, 0, 2, 11), (11, 40, 0, 8, 5, 14), (14, 2, 0, 2, 0, 15), (15, 43, 0, 0, 0, 16), (16, 81, 0, 86, 1, 19), (19, 61, 0, 28, 0, 22), (22, 5, 1, 2, 0, 25), (25, 60, 0, 2, 0, 28), (28, 2, 0, 0, 2, 29), (29, 40, 0, 8, 5, 32), (32, 2, 0, 1, 0, 33), (33, 43, 0, 0, 0, 34), (34, 81, 0, 84, 1, 37), (37, 3, 0, 3, 0, 38), (38, 2, 0, 0, 2, 39), (39, 2, 0, 2, 0, 40), (40, 2, 0, 1, 0, 41), (41, 0, 1, 0, 0, 42), (42, 10, 0, 0, 0, 43), (43, 62, 0, 54, 1, 46), (46, 2, 0, 3, 0, 47), (47, 61, 0, 54, 2, 50), (50, 0, 2, 0, 0, 51), (51, 60, 0, 55, 0, 54), (54, 0, 3, 0, 0, 55), (55, 2, 0, 3, 0, 56), (56, 2, 0, 1, 0, 57), (57, 80, 0, 81, 3, 60), (60, 2, 0, 2, 0, 61), (61, 70, 0, 0, 0, 62)]
def mX9_cutWord : gMt := (83, tbX9_cutWord, [])
set_option maxRecDepth 100000 in
theorem okX9_cutWord : gOK mX9_cutWord = true := by decide +kernel
def tbX9_nameOf : List (Nat × gRI) := [(0, 0, 0, 0, 0, 1), (1, 3, 0, 1, 0, 2), (2, 2, 0, 1, 0, 3), (3, 95, 0, 1, 0, 6), (6, 52, 0, 0, 0, 7), (7, 62, 0, 27, 3, 10), (10, 95, 0, 1, 0, 13), (13, 2, 0, 1, 0, 14), (14, 47, 0, 0, 0, 15), (15, 2, 0, 0, 0, 16), (16, 62, 0, 21, 1, 19), (19, 2, 0, 1, 0, 20), (20, 70, 0, 0, 0, 21), (21, 5, 1, 1, 0, 24), (24, 60, 0, 2, 0, 27), (27, 0, -1, 0, 0, 28), (28, 70, 0, 0, 0, 29)]
def mX9_nameOf : gMt := (84, tbX9_nameOf, [])
set_option maxRecDepth 100000 in
theorem okX9_nameOf : gOK mX9_nameOf = true := by decide +kernel
def tbX9_isDigit : List (Nat × gRI) := [(0, 2, 0, 0, 0, 1), (1, 0, 48, 0, 0, 3), (3, 62, 0, 16, 2, 6), (6, 2, 0, 0, 0, 7), (7, 0, 57, 0, 0, 9), (9, 62, 0, 16, 4, 12), (12, 0, 1, 0, 0, 13), (13, 60, 0, 17, 0, 16), (16, 0, 0, 0, 0, 17), (17, 70, 0, 0, 1, 18)]
def mX9_isDigit : gMt := (85, tbX9_isDigit, [])
set_option maxRecDepth 100000 in
theorem okX9_isDigit : gOK mX9_isDigit = true := by decide +kernel
def tbX9_isLetter : List (Nat × gRI) := [(0, 2, 0, 0, 0, 1), (1, 0, 97, 0, 0, 3), (3, 62, 0, 16, 2, 6), (6, 2, 0, 0, 0, 7), (7, 0, 122, 0, 0, 9), (9, 62, 0, 16, 4, 12), (12, 0, 1, 0, 0, 13), (13, 60, 0, 17, 0, 16), (16, 0, 0, 0, 0, 17), (17, 70, 0, 0, 1, 18)]
def mX9_isLetter : gMt := (86, tbX9_isLetter, [])
set_option maxRecDepth 100000 in
theorem okX9_isLetter : gOK mX9_isLetter = true := by decide +kernel
def tbX9_isSign : List (Nat × gRI) := [(0, 2, 0, 0, 0, 1), (1, 64, 40, 106, 22, 104), (104, 0, 1, 0, 0, 105), (105, 70, 0, 0, 1, 106), (106, 0, 0, 0, 0, 107), (107, 70, 0, 0, 1, 108)]
def mX9_isSign : gMt := (87, tbX9_isSign, [(1, [(40, 104), (41, 104), (42, 104), (43, 104), (44, 106), (45, 104), (46, 106), (47, 104), (48, 106), (49, 106), (50, 106), (51, 106), (52, 106), (53, 106), (54, 106), (55, 106), (56, 106), (57, 106), (58, 106), (59, 106), (60, 104), (61, 104)])])
set_option maxRecDepth 100000 in
theorem okX9_isSign : gOK mX9_isSign = true := by decide +kernel
def tbX9_isAt : List (Nat × gRI) := [(0, 2, 0, 0, 2, 1), (1, 40, 0, 8, 6, 4), (4, 2, 0, 0, 2, 5), (5, 40, 0, 8, 10, 8), (8, 43, 0, 0, 0, 9), (9, 2, 0, 1, 0, 10), (10, 62, 0, 26, 0, 13), (13, 2, 0, 0, 2, 14), (14, 40, 0, 8, 6, 17), (17, 2, 0, 0, 2, 18), (18, 40, 0, 8, 10, 21), (21, 43, 0, 0, 0, 22), (22, 2, 0, 2, 0, 23), (23, 62, 0, 30, 1, 26), (26, 0, 1, 0, 0, 27), (27, 60, 0, 31, 0, 30), (30, 0, 0, 0, 0, 31), (31, 70, 0, 0, 1, 32)]
def mX9_isAt : gMt := (88, tbX9_isAt, [])
set_option maxRecDepth 100000 in
theorem okX9_isAt : gOK mX9_isAt = true := by decide +kernel
def tbX9_passToken : List (Nat × gRI) := [(0, 2, 0, 0, 2, 1), (1, 40, 0, 8, 6, 4), (4, 2, 0, 0, 2, 5), (5, 40, 0, 8, 10, 8), (8, 43, 0, 0, 0, 9), (9, 3, 0, 1, 0, 10), (10, 2, 0, 1, 0, 11), (11, 61, 0, 33, 0, 14), (14, 2, 0, 0, 2, 15), (15, 40, 0, 8, 10, 18), (18, 0, 120, 0, 0, 20), (20, 62, 0, 33, 3, 23), (23, 2, 0, 0, 2, 24), (24, 6, 0, 0, 0, 25), (25, 40, 0, 8, 10, 28), (28, 0, 1, 0, 0, 29), (29, 10, 0, 0, 0, 30), (30, 41, 0, 8, 10, 33), (33, 2, 0, 1, 0, 34), (34, 70, 0, 0, 0, 35)]
def mX9_passToken : gMt := (89, tbX9_passToken, [])
set_option maxRecDepth 100000 in
theorem okX9_passToken : gOK mX9_passToken = true := by decide +kernel
def tbX9_isFault : List (Nat × gRI) := [(0, 2, 0, 0, 2, 1), (1, 2, 0, 0, 2, 2), (2, 40, 0, 8, 8, 5), (5, 2, 0, 0, 2, 6), (6, 40, 0, 8, 10, 9), (9, 43, 0, 0, 0, 10), (10, 41, 0, 8, 1, 13), (13, 0, 0, 0, 0, 14), (14, 70, 0, 0, 1, 15)]
def mX9_isFault : gMt := (90, tbX9_isFault, [])
set_option maxRecDepth 100000 in
theorem okX9_isFault : gOK mX9_isFault = true := by decide +kernel
def tbX9_emit : List (Nat × gRI) := [(0, 2, 0, 0, 2, 1), (1, 40, 0, 8, 3, 4), (4, 0, 120, 0, 0, 6), (6, 62, 0, 29, 3, 9), (9, 2, 0, 0, 2, 10), (10, 40, 0, 8, 4, 13), (13, 2, 0, 0, 2, 14), (14, 40, 0, 8, 3, 17), (17, 2, 0, 1, 0, 18), (18, 48, 0, 0, 0, 19), (19, 2, 0, 0, 2, 20), (20, 6, 0, 0, 0, 21), (21, 40, 0, 8, 3, 24), (24, 0, 1, 0, 0, 25), (25, 10, 0, 0, 0, 26), (26, 41, 0, 8, 3, 29), (29, 0, 1, 0, 0, 30), (30, 70, 0, 0, 1, 31)]
def mX9_emit : gMt := (91, tbX9_emit, [])
set_option maxRecDepth 100000 in
theorem okX9_emit : gOK mX9_emit = true := by decide +kernel
def tbX9_readCompared : List (Nat × gRI) := [(0, 2, 0, 0, 2, 1), (1, 2, 0, 1, 0, 2), (2, 80, 0, 93, 1, 5), (5, 61, 0, 10, 1, 8), (8, 0, 0, 0, 0, 9), (9, 70, 0, 0, 1, 10), (10, 2, 0, 0, 2, 11), (11, 0, 60, 0, 0, 13), (13, 0, 61, 0, 0, 15), (15, 80, 0, 88, 2, 18), (18, 61, 0, 23, 1, 21), (21, 0, 1, 0, 0, 22), (22, 70, 0, 0, 1, 23), (23, 2, 0, 0, 2, 24), (24, 80, 0, 89, 0, 27), (27, 3, 0, 2, 0, 28), (28, 2, 0, 0, 2, 29), (29, 2, 0, 1, 0, 30), (30, 80, 0, 93, 1, 33), (33, 61, 0, 52, 0, 36), (36, 2, 0, 0, 2, 37), (37, 0, 20000, 0, 0, 40), (40, 2, 0, 2, 0, 41), (41, 10, 0, 0, 0, 42), (42, 80, 0, 91, 1, 45), (45, 61, 0, 52, 0, 48), (48, 0, 1, 0, 0, 49), (49, 60, 0, 53, 0, 52), (52, 0, 0, 0, 0, 53), (53, 70, 0, 0, 1, 54)]
def mX9_readCompared : gMt := (92, tbX9_readCompared, [])
set_option maxRecDepth 100000 in
theorem okX9_readCompared : gOK mX9_readCompared = true := by decide +kernel
def tbX9_readSum : List (Nat × gRI) := [(0, 2, 0, 0, 2, 1), (1, 2, 0, 1, 0, 2), (2, 80, 0, 94, 1, 5), (5, 3, 0, 2, 0, 6), (6, 0, 0, 0, 0, 7), (7, 3, 0, 3, 0, 8), (8, 2, 0, 3, 0, 9), (9, 0, 120, 0, 0, 11), (11, 62, 0, 68, 3, 14), (14, 2, 0, 2, 0, 15), (15, 61, 0, 68, 0, 18), (18, 2, 0, 0, 2, 19), (19, 0, 43, 0, 0, 21), (21, 0, 45, 0, 0, 23), (23, 80, 0, 88, 2, 26), (26, 61, 0, 68, 0, 29), (29, 2, 0, 0, 2, 30), (30, 80, 0, 89, 0, 33), (33, 3, 0, 4, 0, 35), (35, 2, 0, 0, 2, 36), (36, 2, 0, 1, 0, 37), (37, 80, 0, 94, 1, 40), (40, 61, 0, 60, 0, 43), (43, 2, 0, 0, 2, 44), (44, 0, 20000, 0, 0, 47), (47, 2, 0, 4, 0, 49), (49, 10, 0, 0, 0, 50), (50, 80, 0, 91, 1, 53), (53, 61, 0, 60, 0, 56), (56, 0, 1, 0, 0, 57), (57, 60, 0, 61, 0, 60), (60, 0, 0, 0, 0, 61), (61, 3, 0, 2, 0, 62), (62, 5, 1, 3, 0, 65), (65, 60, 0, 8, 0, 68), (68, 2, 0, 2, 0, 69), (69, 70, 0, 0, 1, 70)]
def mX9_readSum : gMt := (93, tbX9_readSum, [])
set_option maxRecDepth 100000 in
theorem okX9_readSum : gOK mX9_readSum = true := by decide +kernel
def tbX9_readTerm : List (Nat × gRI) := [(0, 2, 0, 0, 2, 1), (1, 2, 0, 1, 0, 2), (2, 80, 0, 95, 1, 5), (5, 3, 0, 2, 0, 6), (6, 0, 0, 0, 0, 7), (7, 3, 0, 3, 0, 8), (8, 2, 0, 3, 0, 9), (9, 0, 120, 0, 0, 11), (11, 62, 0, 68, 3, 14), (14, 2, 0, 2, 0, 15), (15, 61, 0, 68, 0, 18), (18, 2, 0, 0, 2, 19), (19, 0, 42, 0, 0, 21), (21, 0, 47, 0, 0, 23), (23, 80, 0, 88, 2, 26), (26, 61, 0, 68, 0, 29), (29, 2, 0, 0, 2, 30), (30, 80, 0, 89, 0, 33), (33, 3, 0, 4, 0, 35), (35, 2, 0, 0, 2, 36), (36, 2, 0, 1, 0, 37), (37, 80, 0, 95, 1, 40), (40, 61, 0, 60, 0, 43), (43, 2, 0, 0, 2, 44), (44, 0, 20000, 0, 0, 47), (47, 2, 0, 4, 0, 49), (49, 10, 0, 0, 0, 50), (50, 80, 0, 91, 1, 53), (53, 61, 0, 60, 0, 56), (56, 0, 1, 0, 0, 57), (57, 60, 0, 61, 0, 60), (60, 0, 0, 0, 0, 61), (61, 3, 0, 2, 0, 62), (62, 5, 1, 3, 0, 65), (65, 60, 0, 8, 0, 68), (68, 2, 0, 2, 0, 69), (69, 70, 0, 0, 1, 70)]
def mX9_readTerm : gMt := (94, tbX9_readTerm, [])
set_option maxRecDepth 100000 in
theorem okX9_readTerm : gOK mX9_readTerm = true := by decide +kernel
def tbX9_readOne : List (Nat × gRI) := [(0, 2, 0, 0, 2, 1), (1, 0, 1, 0, 0, 2), (2, 0, 2, 0, 0, 3), (3, 80, 0, 88, 2, 6), (6, 61, 0, 51, 0, 9), (9, 2, 0, 0, 2, 10), (10, 40, 0, 8, 7, 13), (13, 2, 0, 0, 2, 14), (14, 40, 0, 8, 10, 17), (17, 43, 0, 0, 0, 18), (18, 3, 0, 2, 0, 19), (19, 2, 0, 0, 2, 20), (20, 6, 0, 0, 0, 21), (21, 40, 0, 8, 2, 24), (24, 0, 1, 0, 0, 25), (25, 10, 0, 0, 0, 26), (26, 41, 0, 8, 2, 29), (29, 2, 0, 0, 2, 30), (30, 2, 0, 0, 2, 31), (31, 80, 0, 89, 0, 34), (34, 0, 1, 0, 0, 35), (35, 62, 0, 42, 1, 38), (38, 2, 0, 2, 0, 39), (39, 60, 0, 47, 0, 42), (42, 0, 10000, 0, 0, 45), (45, 2, 0, 2, 0, 46), (46, 10, 0, 0, 0, 47), (47, 80, 0, 91, 1, 50), (50, 70, 0, 0, 1, 51), (51, 2, 0, 0, 2, 52), (52, 0, 40, 0, 0, 54), (54, 0, 45, 0, 0, 56), (56, 80, 0, 88, 2, 59), (59, 61, 0, 68, 0, 62), (62, 2, 0, 1, 0, 63), (63, 0, 8, 0, 0, 65), (65, 62, 0, 73, 2, 68), (68, 2, 0, 0, 2, 69), (69, 80, 0, 90, 0, 72), (72, 70, 0, 0, 1, 73), (73, 2, 0, 0, 2, 74), (74, 80, 0, 89, 0, 77), (77, 0, 45, 0, 0, 79), (79, 62, 0, 108, 1, 82), (82, 2, 0, 0, 2, 83), (83, 2, 0, 1, 0, 84), (84, 0, 1, 0, 0, 85), (85, 10, 0, 0, 0, 86), (86, 80, 0, 95, 1, 89), (89, 61, 0, 106, 0, 92), (92, 2, 0, 0, 2, 93), (93, 0, 20000, 0, 0, 96), (96, 80, 0, 91, 1, 99), (99, 61, 0, 106, 0, 102), (102, 0, 1, 0, 0, 103), (103, 60, 0, 107, 0, 106), (106, 0, 0, 0, 0, 107), (107, 70, 0, 0, 1, 108), (108, 2, 0, 0, 2, 109), (109, 2, 0, 1, 0, 110), (110, 0, 1, 0, 0, 111), (111, 10, 0, 0, 0, 112), (112, 80, 0, 92, 1, 115), (115, 61, 0, 129, 0, 118), (118, 2, 0, 0, 2, 119), (119, 80, 0, 96, 0, 122), (122, 61, 0, 129, 0, 125), (125, 0, 1, 0, 0, 126), (126, 60, 0, 130, 0, 129), (129, 0, 0, 0, 0, 130), (130, 70, 0, 0, 1, 131)]
def mX9_readOne : gMt := (95, tbX9_readOne, [])
set_option maxRecDepth 100000 in
theorem okX9_readOne : gOK mX9_readOne = true := by decide +kernel
def tbX9_readClosing : List (Nat × gRI) := [(0, 2, 0, 0, 2, 1), (1, 40, 0, 8, 6, 4), (4, 2, 0, 0, 2, 5), (5, 40, 0, 8, 10, 8), (8, 43, 0, 0, 0, 9), (9, 0, 41, 0, 0, 11), (11, 62, 0, 19, 0, 14), (14, 2, 0, 0, 2, 15), (15, 80, 0, 90, 0, 18), (18, 70, 0, 0, 1, 19), (19, 2, 0, 0, 2, 20), (20, 80, 0, 89, 0, 23), (23, 8, 0, 0, 0, 24), (24, 0, 1, 0, 0, 25), (25, 70, 0, 0, 1, 26)]
def mX9_readClosing : gMt := (96, tbX9_readClosing, [])
set_option maxRecDepth 100000 in
theorem okX9_readClosing : gOK mX9_readClosing = true := by decide +kernel
def tbX10_init : List (Nat × gRI) := [(0, 2, 0, 0, 2, 1), (1, 84, 0, 0, 0, 4), (4, 2, 0, 0, 2, 5), (5, 0, 20, 0, 0, 7), (7, 91, 0, 0, 0, 9), (9, 42, 0, 9, 4, 12), (12, 2, 0, 0, 2, 13), (13, 0, 20, 0, 0, 15), (15, 91, 0, 0, 0, 17), (17, 42, 0, 9, 5, 20), (20, 2, 0, 0, 2, 21), (21, 0, 6, 0, 0, 23), (23, 91, 0, 0, 0, 25), (25, 42, 0, 9, 6, 28), (28, 72, 0, 0, 0, 29)]
def mX10_init : gMt := (97, tbX10_init, [])
set_option maxRecDepth 100000 in
theorem okX10_init : gOK mX10_init = true := by decide +kernel
def tbX10_insert : List (Nat × gRI) := [(0, 2, 0, 0, 2, 1), (1, 40, 0, 9, 0, 4), (4, 0, 20, 0, 0, 6), (6, 62, 0, 10, 2, 9), (9, 72, 0, 0, 0, 10), (10, 2, 0, 0, 2, 11), (11, 40, 0, 9, 0, 14), (14, 3, 0, 3, 0, 15), (15, 2, 0, 3, 0, 16), (16, 61, 0, 65, 5, 19), (19, 2, 0, 0, 2, 20), (20, 40, 0, 9, 4, 23), (23, 2, 0, 3, 0, 24), (24, 0, 1, 0, 0, 25), (25, 11, 0, 0, 0, 26), (26, 43, 0, 0, 0, 27), (27, 2, 0, 1, 0, 28), (28, 62, 0, 65, 5, 31), (31, 2, 0, 0, 2, 32), (32, 40, 0, 9, 4, 35), (35, 2, 0, 3, 0, 36), (36, 2, 0, 0, 2, 37), (37, 40, 0, 9, 4, 40), (40, 2, 0, 3, 0, 41), (41, 0, 1, 0, 0, 42), (42, 11, 0, 0, 0, 43), (43, 43, 0, 0, 0, 44), (44, 48, 0, 0, 0, 45), (45, 2, 0, 0, 2, 46), (46, 40, 0, 9, 5, 49), (49, 2, 0, 3, 0, 50), (50, 2, 0, 0, 2, 51), (51, 40, 0, 9, 5, 54), (54, 2, 0, 3, 0, 55), (55, 0, 1, 0, 0, 56), (56, 11, 0, 0, 0, 57), (57, 43, 0, 0, 0, 58), (58, 48, 0, 0, 0, 59), (59, 5, -1, 3, 0, 62), (62, 60, 0, 15, 0, 65), (65, 2, 0, 0, 2, 66), (66, 40, 0, 9, 4, 69), (69, 2, 0, 3, 0, 70), (70, 2, 0, 1, 0, 71), (71, 48, 0, 0, 0, 72), (72, 2, 0, 0, 2, 73), (73, 40, 0, 9, 5, 76), (76, 2, 0, 3, 0, 77), (77, 2, 0, 2, 0, 78), (78, 48, 0, 0, 0, 79), (79, 2, 0, 0, 2, 80), (80, 6, 0, 0, 0, 81), (81, 40, 0, 9, 0, 84), (84, 0, 1, 0, 0, 85), (85, 10, 0, 0, 0, 86), (86, 41, 0, 9, 0, 89), (89, 72, 0, 0, 0, 90)]
def mX10_insert : gMt := (98, tbX10_insert, [])
set_option maxRecDepth 100000 in
theorem okX10_insert : gOK mX10_insert = true := by decide +kernel
def tbX10_become : List (Nat × gRI) := [(0, 2, 0, 0, 2, 1), (1, 2, 0, 1, 2, 2), (2, 40, 0, 9, 0, 5), (5, 41, 0, 9, 0, 8), (8, 2, 0, 1, 2, 9), (9, 40, 0, 9, 4, 12), (12, 0, 0, 0, 0, 13), (13, 2, 0, 0, 2, 14), (14, 40, 0, 9, 4, 17), (17, 0, 0, 0, 0, 18), (18, 2, 0, 0, 2, 19), (19, 40, 0, 9, 0, 22), (22, 85, 0, 0, 0, 25), (25, 2, 0, 1, 2, 26), (26, 40, 0, 9, 5, 29), (29, 0, 0, 0, 0, 30), (30, 2, 0, 0, 2, 31), (31, 40, 0, 9, 5, 34), (34, 0, 0, 0, 0, 35), (35, 2, 0, 0, 2, 36), (36, 40, 0, 9, 0, 39), (39, 85, 0, 0, 0, 42), (42, 72, 0, 0, 0, 43)]
def mX10_become : gMt := (99, tbX10_become, [])
set_option maxRecDepth 100000 in
theorem okX10_become : gOK mX10_become = true := by decide +kernel
def tbX10_serve : List (Nat × gRI) := [(0, 2, 0, 0, 2, 1), (1, 0, 0, 0, 0, 2), (2, 41, 0, 9, 1, 5), (5, 2, 0, 0, 2, 6), (6, 0, 0, 0, 0, 7), (7, 41, 0, 9, 2, 10), (10, 2, 0, 0, 2, 11), (11, 0, 0, 0, 0, 12), (12, 41, 0, 9, 3, 15), (15, 0, 0, 0, 0, 16), (16, 3, 0, 2, 0, 17), (17, 2, 0, 2, 0, 18), (18, 0, 6, 0, 0, 20), (20, 62, 0, 36, 3, 23), (23, 2, 0, 0, 2, 24), (24, 40, 0, 9, 6, 27), (27, 2, 0, 2, 0, 28), (28, 0, 0, 0, 0, 29), (29, 48, 0, 0, 0, 30), (30, 5, 1, 2, 0, 33), (33, 60, 0, 17, 0, 36), (36, 0, 0, 0, 0, 37), (37, 3, 0, 2, 0, 38), (38, 2, 0, 2, 0, 39), (39, 2, 0, 0, 2, 40), (40, 40, 0, 9, 0, 43), (43, 62, 0, 150, 3, 46), (46, 2, 0, 0, 2, 47), (47, 2, 0, 1, 0, 48), (48, 80, 0, 101, 1, 51), (51, 3, 0, 3, 0, 52), (52, 2, 0, 0, 2, 53), (53, 40, 0, 9, 4, 56), (56, 2, 0, 2, 0, 57), (57, 43, 0, 0, 0, 58), (58, 2, 0, 0, 2, 59), (59, 40, 0, 9, 6, 62), (62, 2, 0, 3, 0, 63), (63, 43, 0, 0, 0, 64), (64, 81, 0, 251, 2, 67), (67, 3, 0, 4, 0, 69), (69, 2, 0, 4, 0, 71), (71, 2, 0, 0, 2, 72), (72, 40, 0, 9, 4, 75), (75, 2, 0, 2, 0, 76), (76, 43, 0, 0, 0, 77), (77, 11, 0, 0, 0, 78), (78, 3, 0, 5, 0, 80), (80, 2, 0, 0, 2, 81), (81, 40, 0, 9, 6, 84), (84, 2, 0, 3, 0, 85), (85, 2, 0, 4, 0, 87), (87, 2, 0, 0, 2, 88), (88, 40, 0, 9, 5, 91), (91, 2, 0, 2, 0, 92), (92, 43, 0, 0, 0, 93), (93, 10, 0, 0, 0, 94), (94, 48, 0, 0, 0, 95), (95, 2, 0, 0, 2, 96), (96, 2, 0, 0, 2, 97), (97, 40, 0, 9, 1, 100), (100, 2, 0, 5, 0, 102), (102, 81, 0, 251, 2, 105), (105, 41, 0, 9, 1, 108), (108, 2, 0, 0, 2, 109), (109, 2, 0, 0, 2, 110), (110, 40, 0, 9, 2, 113), (113, 2, 0, 0, 2, 114), (114, 40, 0, 9, 6, 117), (117, 2, 0, 3, 0, 118), (118, 43, 0, 0, 0, 119), (119, 81, 0, 251, 2, 122), (122, 41, 0, 9, 2, 125), (125, 2, 0, 0, 2, 126), (126, 6, 0, 0, 0, 127), (127, 40, 0, 9, 3, 130), (130, 2, 0, 5, 0, 132), (132, 61, 0, 139, 5, 135), (135, 0, 1, 0, 0, 136), (136, 60, 0, 140, 0, 139), (139, 0, 0, 0, 0, 140), (140, 10, 0, 0, 0, 141), (141, 41, 0, 9, 3, 144), (144, 5, 1, 2, 0, 147), (147, 60, 0, 38, 0, 150), (150, 72, 0, 0, 0, 151)]
def mX10_serve : gMt := (100, tbX10_serve, [])
set_option maxRecDepth 100000 in
theorem okX10_serve : gOK mX10_serve = true := by decide +kernel
def tbX10_firstFree : List (Nat × gRI) := [(0, 0, 0, 0, 0, 1), (1, 3, 0, 2, 0, 2), (2, 0, 1, 0, 0, 3), (3, 3, 0, 3, 0, 4), (4, 2, 0, 3, 0, 5), (5, 2, 0, 1, 0, 6), (6, 62, 0, 38, 3, 9), (9, 2, 0, 3, 0, 10), (10, 0, 6, 0, 0, 12), (12, 62, 0, 38, 3, 15), (15, 2, 0, 0, 2, 16), (16, 40, 0, 9, 6, 19), (19, 2, 0, 3, 0, 20), (20, 43, 0, 0, 0, 21), (21, 2, 0, 0, 2, 22), (22, 40, 0, 9, 6, 25), (25, 2, 0, 2, 0, 26), (26, 43, 0, 0, 0, 27), (27, 62, 0, 32, 3, 30), (30, 2, 0, 3, 0, 31), (31, 3, 0, 2, 0, 32), (32, 5, 1, 3, 0, 35), (35, 60, 0, 4, 0, 38), (38, 2, 0, 2, 0, 39), (39, 70, 0, 0, 0, 40)]
def mX10_firstFree : gMt := (101, tbX10_firstFree, [])
set_option maxRecDepth 100000 in
theorem okX10_firstFree : gOK mX10_firstFree = true := by decide +kernel
def tbX11_init : List (Nat × gRI) := [(0, 2, 0, 0, 2, 1), (1, 84, 0, 0, 0, 4), (4, 2, 0, 0, 2, 5), (5, 90, 0, 7, 0, 8), (8, 6, 0, 0, 0, 9), (9, 82, 0, 57, 0, 12), (12, 42, 0, 10, 0, 15), (15, 2, 0, 0, 2, 16), (16, 90, 0, 7, 0, 19), (19, 6, 0, 0, 0, 20), (20, 82, 0, 57, 0, 23), (23, 42, 0, 10, 1, 26), (26, 2, 0, 0, 2, 27), (27, 90, 0, 0, 0, 30), (30, 6, 0, 0, 0, 31), (31, 83, 0, 0, 0, 34), (34, 42, 0, 10, 2, 37), (37, 2, 0, 0, 2, 38), (38, 90, 0, 4, 0, 41), (41, 6, 0, 0, 0, 42), (42, 2, 0, 0, 2, 43), (43, 40, 0, 10, 0, 46), (46, 2, 0, 0, 2, 47), (47, 40, 0, 10, 2, 50), (50, 82, 0, 32, 2, 53), (53, 42, 0, 10, 3, 56), (56, 2, 0, 0, 2, 57), (57, 90, 0, 5, 0, 60), (60, 6, 0, 0, 0, 61), (61, 2, 0, 0, 2, 62), (62, 40, 0, 10, 0, 65), (65, 82, 0, 43, 1, 68), (68, 42, 0, 10, 4, 71), (71, 2, 0, 0, 2, 72), (72, 90, 0, 8, 0, 75), (75, 6, 0, 0, 0, 76), (76, 83, 0, 77, 0, 79), (79, 42, 0, 10, 5, 82), (82, 2, 0, 0, 2, 83), (83, 0, 4, 0, 0, 84), (84, 92, 0, 6, 0, 87), (87, 42, 0, 10, 6, 90), (90, 0, 0, 0, 0, 91), (91, 3, 0, 1, 0, 92), (92, 2, 0, 1, 0, 93), (93, 0, 4, 0, 0, 94), (94, 62, 0, 116, 3, 97), (97, 2, 0, 0, 2, 98), (98, 40, 0, 10, 6, 101), (101, 2, 0, 1, 0, 102), (102, 90, 0, 6, 0, 105), (105, 6, 0, 0, 0, 106), (106, 83, 0, 52, 0, 109), (109, 51, 0, 0, 0, 110), (110, 5, 1, 1, 0, 113), (113, 60, 0, 92, 0, 116), (116, 2, 0, 0, 2, 117), (117, 0, 7, 0, 0, 119), (119, 91, 0, 0, 0, 121), (121, 42, 0, 10, 7, 124), (124, 2, 0, 0, 2, 125), (125, 0, 0, 0, 0, 126), (126, 41, 0, 10, 8, 129), (129, 72, 0, 0, 0, 130)]
def mX11_init : gMt := (102, tbX11_init, [])
set_option maxRecDepth 100000 in
theorem okX11_init : gOK mX11_init = true := by decide +kernel
def tbX11_pitch : List (Nat × gRI) := [(0, 2, 0, 1, 0, 1), (1, 0, 0, 0, 0, 2), (2, 0, 9999, 0, 0, 5), (5, 81, 0, 150, 3, 8), (8, 61, 0, 67, 0, 11), (11, 2, 0, 2, 0, 12), (12, 0, 100, 0, 0, 14), (14, 0, 3099, 0, 0, 17), (17, 81, 0, 150, 3, 20), (20, 61, 0, 67, 0, 23), (23, 2, 0, 3, 0, 24), (24, 0, 0, 0, 0, 25), (25, 0, 932, 0, 0, 28), (28, 81, 0, 150, 3, 31), (31, 61, 0, 67, 0, 34), (34, 2, 0, 3, 0, 35), (35, 0, 100, 0, 0, 37), (37, 15, 0, 0, 0, 38), (38, 0, 32, 0, 0, 40), (40, 62, 0, 67, 4, 43), (43, 2, 0, 4, 0, 45), (45, 0, 0, 0, 0, 46), (46, 0, 73, 0, 0, 48), (48, 81, 0, 150, 3, 51), (51, 61, 0, 67, 0, 54), (54, 2, 0, 4, 0, 56), (56, 0, 10, 0, 0, 58), (58, 15, 0, 0, 0, 59), (59, 0, 4, 0, 0, 60), (60, 62, 0, 67, 3, 63), (63, 0, 1, 0, 0, 64), (64, 60, 0, 68, 0, 67), (67, 0, 0, 0, 0, 68), (68, 3, 0, 5, 0, 70), (70, 2, 0, 5, 0, 72), (72, 61, 0, 82, 1, 75), (75, 2, 0, 0, 2, 76), (76, 0, -1000001, 0, 0, 78), (78, 80, 0, 147, 1, 81), (81, 70, 0, 0, 0, 82), (82, 2, 0, 0, 2, 83), (83, 40, 0, 10, 0, 86), (86, 40, 0, 7, 2, 89), (89, 0, 12, 0, 0, 91), (91, 62, 0, 101, 2, 94), (94, 2, 0, 0, 2, 95), (95, 0, -1000002, 0, 0, 97), (97, 80, 0, 147, 1, 100), (100, 70, 0, 0, 0, 101), (101, 2, 0, 0, 2, 102), (102, 40, 0, 10, 0, 105), (105, 40, 0, 7, 2, 108), (108, 3, 0, 6, 0, 110), (110, 2, 0, 0, 2, 111), (111, 40, 0, 10, 0, 114), (114, 40, 0, 7, 4, 117), (117, 2, 0, 6, 0, 119), (119, 46, 0, 0, 0, 120), (120, 2, 0, 1, 0, 121), (121, 2, 0, 2, 0, 122), (122, 2, 0, 3, 0, 123), (123, 2, 0, 4, 0, 125), (125, 80, 0, 28, 4, 128), (128, 2, 0, 0, 2, 129), (129, 40, 0, 10, 0, 132), (132, 2, 0, 6, 0, 134), (134, 0, 1, 0, 0, 135), (135, 10, 0, 0, 0, 136), (136, 41, 0, 7, 2, 139), (139, 2, 0, 6, 0, 141), (141, 70, 0, 0, 0, 142)]
def mX11_pitch : gMt := (103, tbX11_pitch, [])
set_option maxRecDepth 100000 in
theorem okX11_pitch : gOK mX11_pitch = true := by decide +kernel
def tbX11_pitchOf : List (Nat × gRI) := [(0, 2, 0, 0, 2, 1), (1, 40, 0, 10, 0, 4), (4, 2, 0, 1, 0, 5), (5, 80, 0, 59, 1, 8), (8, 61, 0, 21, 0, 11), (11, 2, 0, 2, 0, 12), (12, 0, 0, 0, 0, 13), (13, 0, 7, 0, 0, 15), (15, 81, 0, 150, 3, 18), (18, 61, 0, 28, 1, 21), (21, 2, 0, 0, 2, 22), (22, 0, -1000001, 0, 0, 24), (24, 80, 0, 147, 1, 27), (27, 70, 0, 0, 0, 28), (28, 2, 0, 0, 2, 29), (29, 40, 0, 10, 0, 32), (32, 40, 0, 7, 4, 35), (35, 2, 0, 1, 0, 36), (36, 46, 0, 0, 0, 37), (37, 2, 0, 2, 0, 38), (38, 80, 0, 30, 1, 41), (41, 70, 0, 0, 0, 42)]
def mX11_pitchOf : gMt := (104, tbX11_pitchOf, [])
set_option maxRecDepth 100000 in
theorem okX11_pitchOf : gOK mX11_pitchOf = true := by decide +kernel
def tbX11_shade : List (Nat × gRI) := [(0, 2, 0, 0, 2, 1), (1, 40, 0, 10, 0, 4), (4, 2, 0, 1, 0, 5), (5, 80, 0, 59, 1, 8), (8, 61, 0, 21, 0, 11), (11, 2, 0, 2, 0, 12), (12, 0, 0, 0, 0, 13), (13, 0, 9, 0, 0, 15), (15, 81, 0, 150, 3, 18), (18, 61, 0, 28, 1, 21), (21, 2, 0, 0, 2, 22), (22, 0, -1000001, 0, 0, 24), (24, 80, 0, 147, 1, 27), (27, 70, 0, 0, 0, 28), (28, 2, 0, 0, 2, 29), (29, 40, 0, 10, 0, 32), (32, 40, 0, 7, 4, 35), (35, 2, 0, 1, 0, 36), (36, 46, 0, 0, 0, 37), (37, 40, 0, 3, 4, 40), (40, 3, 0, 3, 0, 41), (41, 2, 0, 0, 2, 42), (42, 40, 0, 10, 0, 45), (45, 40, 0, 7, 4, 48), (48, 2, 0, 1, 0, 49), (49, 46, 0, 0, 0, 50), (50, 2, 0, 2, 0, 51), (51, 41, 0, 3, 4, 54), (54, 2, 0, 3, 0, 55), (55, 70, 0, 0, 0, 56)]
def mX11_shade : gMt := (105, tbX11_shade, [])
set_option maxRecDepth 100000 in
theorem okX11_shade : gOK mX11_shade = true := by decide +kernel
def tbX11_far : List (Nat × gRI) := [(0, 2, 0, 0, 2, 1), (1, 40, 0, 10, 0, 4), (4, 2, 0, 1, 0, 5), (5, 80, 0, 59, 1, 8), (8, 61, 0, 22, 0, 11), (11, 2, 0, 0, 2, 12), (12, 40, 0, 10, 0, 15), (15, 2, 0, 2, 0, 16), (16, 80, 0, 59, 1, 19), (19, 61, 0, 29, 1, 22), (22, 2, 0, 0, 2, 23), (23, 0, -1000001, 0, 0, 25), (25, 80, 0, 147, 1, 28), (28, 70, 0, 0, 0, 29), (29, 2, 0, 0, 2, 30), (30, 40, 0, 10, 0, 33), (33, 2, 0, 1, 0, 34), (34, 2, 0, 2, 0, 35), (35, 80, 0, 69, 2, 38), (38, 70, 0, 0, 0, 39)]
def mX11_far : gMt := (106, tbX11_far, [])
set_option maxRecDepth 100000 in
theorem okX11_far : gOK mX11_far = true := by decide +kernel
def tbX11_party : List (Nat × gRI) := [(0, 2, 0, 1, 0, 1), (1, 0, 0, 0, 0, 2), (2, 0, 4, 0, 0, 3), (3, 81, 0, 150, 3, 6), (6, 61, 0, 80, 0, 9), (9, 2, 0, 2, 0, 10), (10, 0, 100, 0, 0, 12), (12, 0, 3032, 0, 0, 15), (15, 81, 0, 150, 3, 18), (18, 61, 0, 80, 0, 21), (21, 2, 0, 2, 0, 22), (22, 0, 100, 0, 0, 24), (24, 15, 0, 0, 0, 25), (25, 0, 32, 0, 0, 27), (27, 62, 0, 80, 4, 30), (30, 2, 0, 3, 0, 31), (31, 0, 0, 0, 0, 32), (32, 0, 7, 0, 0, 34), (34, 81, 0, 150, 3, 37), (37, 61, 0, 80, 0, 40), (40, 2, 0, 4, 0, 42), (42, 61, 0, 80, 2, 45), (45, 2, 0, 4, 0, 47), (47, 0, 100, 0, 0, 49), (49, 14, 0, 0, 0, 50), (50, 2, 0, 4, 0, 52), (52, 0, 100, 0, 0, 54), (54, 15, 0, 0, 0, 55), (55, 81, 0, 151, 2, 58), (58, 61, 0, 80, 0, 61), (61, 2, 0, 4, 0, 63), (63, 0, 100, 0, 0, 65), (65, 14, 0, 0, 0, 66), (66, 2, 0, 0, 2, 67), (67, 40, 0, 10, 0, 70), (70, 40, 0, 7, 0, 73), (73, 62, 0, 80, 2, 76), (76, 0, 1, 0, 0, 77), (77, 60, 0, 81, 0, 80), (80, 0, 0, 0, 0, 81), (81, 3, 0, 5, 0, 83), (83, 2, 0, 5, 0, 85), (85, 61, 0, 95, 1, 88), (88, 2, 0, 0, 2, 89), (89, 0, -1000001, 0, 0, 91), (91, 80, 0, 147, 1, 94), (94, 70, 0, 0, 0, 95), (95, 2, 0, 0, 2, 96), (96, 40, 0, 10, 0, 99), (99, 40, 0, 7, 3, 102), (102, 0, 24, 0, 0, 104), (104, 62, 0, 114, 2, 107), (107, 2, 0, 0, 2, 108), (108, 0, -1000002, 0, 0, 110), (110, 80, 0, 147, 1, 113), (113, 70, 0, 0, 0, 114), (114, 2, 0, 0, 2, 115), (115, 40, 0, 10, 0, 118), (118, 40, 0, 7, 3, 121), (121, 3, 0, 6, 0, 123), (123, 2, 0, 0, 2, 124), (124, 40, 0, 10, 0, 127), (127, 40, 0, 7, 5, 130), (130, 2, 0, 6, 0, 132), (132, 46, 0, 0, 0, 133), (133, 2, 0, 1, 0, 134), (134, 2, 0, 2, 0, 135), (135, 2, 0, 3, 0, 136), (136, 2, 0, 4, 0, 138), (138, 80, 0, 21, 4, 141), (141, 2, 0, 0, 2, 142), (142, 40, 0, 10, 0, 145), (145, 2, 0, 6, 0, 147), (147, 0, 1, 0, 0, 148), (148, 10, 0, 0, 0, 149), (149, 41, 0, 7, 3, 152), (152, 2, 0, 6, 0, 154), (154, 70, 0, 0, 0, 155)]
def mX11_party : gMt := (107, tbX11_party, [])
set_option maxRecDepth 100000 in
theorem okX11_party : gOK mX11_party = true := by decide +kernel
def tbX11_partyOf : List (Nat × gRI) := [(0, 2, 0, 0, 2, 1), (1, 40, 0, 10, 0, 4), (4, 2, 0, 1, 0, 5), (5, 80, 0, 60, 1, 8), (8, 61, 0, 21, 0, 11), (11, 2, 0, 2, 0, 12), (12, 0, 0, 0, 0, 13), (13, 0, 9, 0, 0, 15), (15, 81, 0, 150, 3, 18), (18, 61, 0, 28, 1, 21), (21, 2, 0, 0, 2, 22), (22, 0, -1000001, 0, 0, 24), (24, 80, 0, 147, 1, 27), (27, 70, 0, 0, 0, 28), (28, 2, 0, 2, 0, 29), (29, 0, 9, 0, 0, 31), (31, 62, 0, 51, 1, 34), (34, 2, 0, 0, 2, 35), (35, 40, 0, 10, 0, 38), (38, 2, 0, 1, 0, 39), (39, 80, 0, 63, 1, 42), (42, 61, 0, 49, 0, 45), (45, 0, 1, 0, 0, 46), (46, 60, 0, 50, 0, 49), (49, 0, 0, 0, 0, 50), (50, 70, 0, 0, 0, 51), (51, 2, 0, 0, 2, 52), (52, 40, 0, 10, 0, 55), (55, 40, 0, 7, 5, 58), (58, 2, 0, 1, 0, 59), (59, 46, 0, 0, 0, 60), (60, 2, 0, 2, 0, 61), (61, 80, 0, 23, 1, 64), (64, 70, 0, 0, 0, 65)]
def mX11_partyOf : gMt := (108, tbX11_partyOf, [])
set_option maxRecDepth 100000 in
theorem okX11_partyOf : gOK mX11_partyOf = true := by decide +kernel
def tbX11_why : List (Nat × gRI) := [(0, 2, 0, 0, 2, 1), (1, 40, 0, 10, 0, 4), (4, 2, 0, 1, 0, 5), (5, 80, 0, 60, 1, 8), (8, 61, 0, 22, 0, 11), (11, 2, 0, 0, 2, 12), (12, 40, 0, 10, 0, 15), (15, 2, 0, 2, 0, 16), (16, 80, 0, 59, 1, 19), (19, 61, 0, 29, 1, 22), (22, 2, 0, 0, 2, 23), (23, 0, -1000001, 0, 0, 25), (25, 80, 0, 147, 1, 28), (28, 70, 0, 0, 0, 29), (29, 2, 0, 0, 2, 30), (30, 40, 0, 10, 0, 33), (33, 40, 0, 7, 5, 36), (36, 2, 0, 1, 0, 37), (37, 46, 0, 0, 0, 38), (38, 2, 0, 0, 2, 39), (39, 40, 0, 10, 0, 42), (42, 40, 0, 7, 4, 45), (45, 2, 0, 2, 0, 46), (46, 46, 0, 0, 0, 47), (47, 81, 0, 10, 2, 50), (50, 70, 0, 0, 0, 51)]
def mX11_why : gMt := (109, tbX11_why, [])
set_option maxRecDepth 100000 in
theorem okX11_why : gOK mX11_why = true := by decide +kernel
def tbX11_near : List (Nat × gRI) := [(0, 2, 0, 0, 2, 1), (1, 40, 0, 10, 0, 4), (4, 2, 0, 1, 0, 5), (5, 80, 0, 60, 1, 8), (8, 61, 0, 27, 0, 11), (11, 2, 0, 0, 2, 12), (12, 40, 0, 10, 0, 15), (15, 2, 0, 2, 0, 16), (16, 80, 0, 61, 1, 19), (19, 61, 0, 27, 0, 22), (22, 2, 0, 1, 0, 23), (23, 2, 0, 2, 0, 24), (24, 62, 0, 34, 1, 27), (27, 2, 0, 0, 2, 28), (28, 0, -1000001, 0, 0, 30), (30, 80, 0, 147, 1, 33), (33, 70, 0, 0, 0, 34), (34, 2, 0, 0, 2, 35), (35, 40, 0, 10, 0, 38), (38, 40, 0, 7, 5, 41), (41, 2, 0, 1, 0, 42), (42, 46, 0, 0, 0, 43), (43, 40, 0, 2, 9, 46), (46, 3, 0, 3, 0, 47), (47, 2, 0, 0, 2, 48), (48, 40, 0, 10, 0, 51), (51, 40, 0, 7, 5, 54), (54, 2, 0, 1, 0, 55), (55, 46, 0, 0, 0, 56), (56, 2, 0, 2, 0, 57), (57, 41, 0, 2, 9, 60), (60, 2, 0, 3, 0, 61), (61, 70, 0, 0, 0, 62)]
def mX11_near : gMt := (110, tbX11_near, [])
set_option maxRecDepth 100000 in
theorem okX11_near : gOK mX11_near = true := by decide +kernel
def tbX11_put : List (Nat × gRI) := [(0, 2, 0, 0, 2, 1), (1, 40, 0, 10, 0, 4), (4, 2, 0, 1, 0, 5), (5, 80, 0, 60, 1, 8), (8, 61, 0, 22, 0, 11), (11, 2, 0, 0, 2, 12), (12, 40, 0, 10, 0, 15), (15, 2, 0, 2, 0, 16), (16, 80, 0, 59, 1, 19), (19, 61, 0, 29, 1, 22), (22, 2, 0, 0, 2, 23), (23, 0, -1000001, 0, 0, 25), (25, 80, 0, 147, 1, 28), (28, 70, 0, 0, 0, 29), (29, 2, 0, 0, 2, 30), (30, 40, 0, 10, 0, 33), (33, 40, 0, 7, 5, 36), (36, 2, 0, 1, 0, 37), (37, 46, 0, 0, 0, 38), (38, 3, 0, 3, 2, 39), (39, 2, 0, 3, 2, 40), (40, 40, 0, 2, 8, 43), (43, 0, -2, 0, 0, 45), (45, 62, 0, 59, 0, 48), (48, 2, 0, 0, 2, 49), (49, 40, 0, 10, 0, 52), (52, 2, 0, 1, 0, 53), (53, 80, 0, 64, 1, 56), (56, 61, 0, 66, 0, 59), (59, 2, 0, 0, 2, 60), (60, 0, -1000005, 0, 0, 62), (62, 80, 0, 147, 1, 65), (65, 70, 0, 0, 0, 66), (66, 2, 0, 3, 2, 67), (67, 2, 0, 0, 2, 68), (68, 40, 0, 10, 0, 71), (71, 40, 0, 7, 4, 74), (74, 2, 0, 2, 0, 75), (75, 46, 0, 0, 0, 76), (76, 81, 0, 10, 2, 79), (79, 61, 0, 89, 0, 82), (82, 2, 0, 0, 2, 83), (83, 0, -1000003, 0, 0, 85), (85, 80, 0, 147, 1, 88), (88, 70, 0, 0, 0, 89), (89, 2, 0, 0, 2, 90), (90, 40, 0, 10, 0, 93), (93, 2, 0, 0, 2, 94), (94, 40, 0, 10, 2, 97), (97, 0, 1, 0, 0, 98), (98, 2, 0, 1, 0, 99), (99, 19, 0, 0, 0, 100), (100, 80, 0, 71, 2, 103), (103, 2, 0, 0, 2, 104), (104, 40, 0, 10, 2, 107), (107, 2, 0, 2, 0, 108), (108, 2, 0, 3, 2, 109), (109, 40, 0, 2, 6, 112), (112, 2, 0, 3, 2, 113), (113, 40, 0, 2, 7, 116), (116, 80, 0, 5, 3, 119), (119, 61, 0, 129, 1, 122), (122, 2, 0, 0, 2, 123), (123, 0, -1000004, 0, 0, 125), (125, 80, 0, 147, 1, 128), (128, 70, 0, 0, 0, 129), (129, 2, 0, 3, 2, 130), (130, 40, 0, 2, 8, 133), (133, 3, 0, 4, 0, 135), (135, 2, 0, 3, 2, 136), (136, 2, 0, 2, 0, 137), (137, 41, 0, 2, 8, 140), (140, 2, 0, 4, 0, 142), (142, 70, 0, 0, 0, 143)]
def mX11_put : gMt := (111, tbX11_put, [])
set_option maxRecDepth 100000 in
theorem okX11_put : gOK mX11_put = true := by decide +kernel
def tbX11_nights : List (Nat × gRI) := [(0, 2, 0, 1, 0, 1), (1, 0, 1, 0, 0, 2), (2, 0, 50, 0, 0, 4), (4, 81, 0, 150, 3, 7), (7, 61, 0, 17, 1, 10), (10, 2, 0, 0, 2, 11), (11, 0, -1000001, 0, 0, 13), (13, 80, 0, 147, 1, 16), (16, 70, 0, 0, 0, 17), (17, 2, 0, 0, 2, 18), (18, 40, 0, 10, 0, 21), (21, 40, 0, 7, 0, 24), (24, 2, 0, 1, 0, 25), (25, 10, 0, 0, 0, 26), (26, 0, 99, 0, 0, 28), (28, 62, 0, 38, 5, 31), (31, 2, 0, 0, 2, 32), (32, 0, -1000005, 0, 0, 34), (34, 80, 0, 147, 1, 37), (37, 70, 0, 0, 0, 38), (38, 2, 0, 0, 2, 39), (39, 40, 0, 10, 0, 42), (42, 6, 0, 0, 0, 43), (43, 40, 0, 7, 0, 46), (46, 2, 0, 1, 0, 47), (47, 10, 0, 0, 0, 48), (48, 41, 0, 7, 0, 51), (51, 2, 0, 0, 2, 52), (52, 40, 0, 10, 0, 55), (55, 40, 0, 7, 0, 58), (58, 70, 0, 0, 0, 59)]
def mX11_nights : gMt := (112, tbX11_nights, [])
set_option maxRecDepth 100000 in
theorem okX11_nights : gOK mX11_nights = true := by decide +kernel
def tbX11_who : List (Nat × gRI) := [(0, 2, 0, 0, 2, 1), (1, 40, 0, 10, 0, 4), (4, 2, 0, 1, 0, 5), (5, 80, 0, 59, 1, 8), (8, 61, 0, 21, 0, 11), (11, 2, 0, 2, 0, 12), (12, 0, 0, 0, 0, 13), (13, 0, 99, 0, 0, 15), (15, 81, 0, 150, 3, 18), (18, 61, 0, 28, 1, 21), (21, 2, 0, 0, 2, 22), (22, 0, -1000001, 0, 0, 24), (24, 80, 0, 147, 1, 27), (27, 70, 0, 0, 0, 28), (28, 2, 0, 0, 2, 29), (29, 40, 0, 10, 0, 32), (32, 2, 0, 1, 0, 33), (33, 2, 0, 2, 0, 34), (34, 80, 0, 70, 2, 37), (37, 70, 0, 0, 0, 38)]
def mX11_who : gMt := (113, tbX11_who, [])
set_option maxRecDepth 100000 in
theorem okX11_who : gOK mX11_who = true := by decide +kernel
def tbX11_gaps : List (Nat × gRI) := [(0, 2, 0, 1, 0, 1), (1, 0, -1, 0, 0, 2), (2, 62, 0, 23, 0, 5), (5, 2, 0, 0, 2, 6), (6, 40, 0, 10, 0, 9), (9, 2, 0, 1, 0, 10), (10, 80, 0, 59, 1, 13), (13, 61, 0, 23, 1, 16), (16, 2, 0, 0, 2, 17), (17, 0, -1000001, 0, 0, 19), (19, 80, 0, 147, 1, 22), (22, 70, 0, 0, 0, 23), (23, 2, 0, 0, 2, 24), (24, 40, 0, 10, 0, 27), (27, 2, 0, 0, 2, 28), (28, 40, 0, 10, 2, 31), (31, 0, 0, 0, 0, 32), (32, 80, 0, 71, 2, 35), (35, 2, 0, 1, 0, 36), (36, 0, -1, 0, 0, 37), (37, 62, 0, 49, 0, 40), (40, 2, 0, 0, 2, 41), (41, 40, 0, 10, 2, 44), (44, 2, 0, 1, 0, 45), (45, 80, 0, 8, 1, 48), (48, 70, 0, 0, 0, 49), (49, 0, 0, 0, 0, 50), (50, 3, 0, 2, 0, 51), (51, 0, 0, 0, 0, 52), (52, 3, 0, 3, 0, 53), (53, 2, 0, 3, 0, 54), (54, 2, 0, 0, 2, 55), (55, 40, 0, 10, 0, 58), (58, 40, 0, 7, 2, 61), (61, 62, 0, 81, 3, 64), (64, 2, 0, 2, 0, 65), (65, 2, 0, 0, 2, 66), (66, 40, 0, 10, 2, 69), (69, 2, 0, 3, 0, 70), (70, 80, 0, 8, 1, 73), (73, 10, 0, 0, 0, 74), (74, 3, 0, 2, 0, 75), (75, 5, 1, 3, 0, 78), (78, 60, 0, 53, 0, 81), (81, 2, 0, 2, 0, 82), (82, 70, 0, 0, 0, 83)]
def mX11_gaps : gMt := (114, tbX11_gaps, [])
set_option maxRecDepth 100000 in
theorem okX11_gaps : gOK mX11_gaps = true := by decide +kernel
def tbX11_plan : List (Nat × gRI) := [(0, 0, 1, 0, 0, 1), (1, 2, 0, 0, 2, 2), (2, 40, 0, 10, 0, 5), (5, 40, 0, 7, 3, 8), (8, 19, 0, 0, 0, 9), (9, 0, 1, 0, 0, 10), (10, 11, 0, 0, 0, 11), (11, 3, 0, 2, 0, 12), (12, 2, 0, 1, 0, 13), (13, 2, 0, 2, 0, 14), (14, 0, -1, 0, 0, 15), (15, 18, 0, 0, 0, 16), (16, 16, 0, 0, 0, 17), (17, 61, 0, 32, 1, 20), (20, 2, 0, 1, 0, 21), (21, 81, 0, 248, 1, 24), (24, 0, 1, 0, 0, 25), (25, 0, 4, 0, 0, 26), (26, 81, 0, 150, 3, 29), (29, 61, 0, 39, 1, 32), (32, 2, 0, 0, 2, 33), (33, 0, -1000001, 0, 0, 35), (35, 80, 0, 147, 1, 38), (38, 70, 0, 0, 0, 39), (39, 0, 0, 0, 0, 40), (40, 3, 0, 3, 0, 41), (41, 2, 0, 3, 0, 42), (42, 2, 0, 0, 2, 43), (43, 40, 0, 10, 0, 46), (46, 40, 0, 7, 3, 49), (49, 62, 0, 113, 3, 52), (52, 2, 0, 1, 0, 53), (53, 2, 0, 3, 0, 54), (54, 20, 0, 0, 0, 55), (55, 0, 1, 0, 0, 56), (56, 16, 0, 0, 0, 57), (57, 61, 0, 64, 0, 60), (60, 0, 1, 0, 0, 61), (61, 60, 0, 65, 0, 64), (64, 0, 0, 0, 0, 65), (65, 3, 0, 4, 0, 67), (67, 2, 0, 4, 0, 69), (69, 61, 0, 107, 0, 72), (72, 2, 0, 0, 2, 73), (73, 40, 0, 10, 0, 76), (76, 40, 0, 7, 5, 79), (79, 2, 0, 3, 0, 80), (80, 46, 0, 0, 0, 81), (81, 40, 0, 2, 8, 84), (84, 0, -2, 0, 0, 86), (86, 62, 0, 100, 0, 89), (89, 2, 0, 0, 2, 90), (90, 40, 0, 10, 0, 93), (93, 2, 0, 3, 0, 94), (94, 80, 0, 63, 1, 97), (97, 61, 0, 107, 0, 100), (100, 2, 0, 0, 2, 101), (101, 0, -1000005, 0, 0, 103), (103, 80, 0, 147, 1, 106), (106, 70, 0, 0, 0, 107), (107, 5, 1, 3, 0, 110), (110, 60, 0, 41, 0, 113), (113, 2, 0, 0, 2, 114), (114, 40, 0, 10, 3, 117), (117, 2, 0, 1, 0, 118), (118, 80, 0, 33, 1, 121), (121, 70, 0, 0, 0, 122)]
def mX11_plan : gMt := (115, tbX11_plan, [])
set_option maxRecDepth 100000 in
theorem okX11_plan : gOK mX11_plan = true := by decide +kernel
def tbX11_apart : List (Nat × gRI) := [(0, 0, 0, 0, 0, 1), (1, 3, 0, 1, 0, 2), (2, 0, 0, 0, 0, 3), (3, 3, 0, 2, 0, 4), (4, 2, 0, 2, 0, 5), (5, 2, 0, 0, 2, 6), (6, 40, 0, 10, 0, 9), (9, 40, 0, 7, 3, 12), (12, 62, 0, 95, 3, 15), (15, 2, 0, 0, 2, 16), (16, 40, 0, 10, 0, 19), (19, 40, 0, 7, 5, 22), (22, 2, 0, 2, 0, 23), (23, 46, 0, 0, 0, 24), (24, 40, 0, 2, 9, 27), (27, 3, 0, 3, 0, 28), (28, 2, 0, 3, 0, 29), (29, 0, -1, 0, 0, 30), (30, 62, 0, 89, 0, 33), (33, 2, 0, 0, 2, 34), (34, 40, 0, 10, 0, 37), (37, 2, 0, 2, 0, 38), (38, 80, 0, 62, 1, 41), (41, 61, 0, 89, 0, 44), (44, 2, 0, 0, 2, 45), (45, 40, 0, 10, 0, 48), (48, 2, 0, 3, 0, 49), (49, 80, 0, 62, 1, 52), (52, 61, 0, 89, 0, 55), (55, 2, 0, 1, 0, 56), (56, 2, 0, 0, 2, 57), (57, 40, 0, 10, 0, 60), (60, 2, 0, 0, 2, 61), (61, 40, 0, 10, 0, 64), (64, 40, 0, 7, 5, 67), (67, 2, 0, 2, 0, 68), (68, 46, 0, 0, 0, 69), (69, 40, 0, 2, 8, 72), (72, 2, 0, 0, 2, 73), (73, 40, 0, 10, 0, 76), (76, 40, 0, 7, 5, 79), (79, 2, 0, 3, 0, 80), (80, 46, 0, 0, 0, 81), (81, 40, 0, 2, 8, 84), (84, 80, 0, 69, 2, 87), (87, 10, 0, 0, 0, 88), (88, 3, 0, 1, 0, 89), (89, 5, 1, 2, 0, 92), (92, 60, 0, 4, 0, 95), (95, 2, 0, 1, 0, 96), (96, 70, 0, 0, 0, 97)]
def mX11_apart : gMt := (116, tbX11_apart, [])
set_option maxRecDepth 100000 in
theorem okX11_apart : gOK mX11_apart = true := by decide +kernel
def tbX11_feed : List (Nat × gRI) := [(0, 2, 0, 2, 0, 1), (1, 0, 1, 0, 0, 2), (2, 0, 4, 0, 0, 3), (3, 81, 0, 150, 3, 6), (6, 61, 0, 16, 1, 9), (9, 2, 0, 0, 2, 10), (10, 0, -1000001, 0, 0, 12), (12, 80, 0, 147, 1, 15), (15, 70, 0, 0, 0, 16), (16, 2, 0, 0, 2, 17), (17, 40, 0, 10, 5, 20), (20, 40, 0, 8, 0, 23), (23, 2, 0, 2, 0, 24), (24, 10, 0, 0, 0, 25), (25, 0, 120, 0, 0, 27), (27, 62, 0, 37, 5, 30), (30, 2, 0, 0, 2, 31), (31, 0, -1000002, 0, 0, 33), (33, 80, 0, 147, 1, 36), (36, 70, 0, 0, 0, 37), (37, 2, 0, 2, 0, 38), (38, 0, 1, 0, 0, 39), (39, 11, 0, 0, 0, 40), (40, 3, 0, 3, 0, 41), (41, 2, 0, 3, 0, 42), (42, 61, 0, 68, 2, 45), (45, 2, 0, 0, 2, 46), (46, 40, 0, 10, 5, 49), (49, 2, 0, 1, 0, 50), (50, 0, 8, 0, 0, 52), (52, 2, 0, 3, 0, 53), (53, 12, 0, 0, 0, 54), (54, 21, 0, 0, 0, 55), (55, 0, 255, 0, 0, 58), (58, 16, 0, 0, 0, 59), (59, 80, 0, 78, 1, 62), (62, 5, -1, 3, 0, 65), (65, 60, 0, 41, 0, 68), (68, 2, 0, 0, 2, 69), (69, 40, 0, 10, 5, 72), (72, 40, 0, 8, 0, 75), (75, 70, 0, 0, 0, 76)]
def mX11_feed : gMt := (117, tbX11_feed, [])
set_option maxRecDepth 100000 in
theorem okX11_feed : gOK mX11_feed = true := by decide +kernel
def tbX11_wipe : List (Nat × gRI) := [(0, 2, 0, 0, 2, 1), (1, 40, 0, 10, 5, 4), (4, 40, 0, 8, 0, 7), (7, 3, 0, 1, 0, 8), (8, 2, 0, 0, 2, 9), (9, 40, 0, 10, 5, 12), (12, 0, 0, 0, 0, 13), (13, 41, 0, 8, 0, 16), (16, 2, 0, 1, 0, 17), (17, 70, 0, 0, 0, 18)]
def mX11_wipe : gMt := (118, tbX11_wipe, [])
set_option maxRecDepth 100000 in
theorem okX11_wipe : gOK mX11_wipe = true := by decide +kernel
def tbX11_law : List (Nat × gRI) := [(0, 2, 0, 1, 0, 1), (1, 0, 0, 0, 0, 2), (2, 0, 1, 0, 0, 3), (3, 81, 0, 150, 3, 6), (6, 61, 0, 16, 1, 9), (9, 2, 0, 0, 2, 10), (10, 0, -1000001, 0, 0, 12), (12, 80, 0, 147, 1, 15), (15, 70, 0, 0, 0, 16), (16, 2, 0, 0, 2, 17), (17, 40, 0, 10, 5, 20), (20, 80, 0, 79, 0, 23), (23, 3, 0, 2, 0, 24), (24, 2, 0, 0, 2, 25), (25, 40, 0, 10, 5, 28), (28, 0, 0, 0, 0, 29), (29, 41, 0, 8, 0, 32), (32, 2, 0, 2, 0, 33), (33, 61, 0, 46, 1, 36), (36, 0, -1, 0, 0, 37), (37, 2, 0, 0, 2, 38), (38, 40, 0, 10, 5, 41), (41, 40, 0, 8, 1, 44), (44, 11, 0, 0, 0, 45), (45, 70, 0, 0, 0, 46), (46, 2, 0, 0, 2, 47), (47, 40, 0, 10, 0, 50), (50, 40, 0, 7, 8, 53), (53, 2, 0, 1, 0, 54), (54, 46, 0, 0, 0, 55), (55, 2, 0, 0, 2, 56), (56, 40, 0, 10, 5, 59), (59, 40, 0, 8, 4, 62), (62, 2, 0, 0, 2, 63), (63, 40, 0, 10, 5, 66), (66, 40, 0, 8, 3, 69), (69, 80, 0, 15, 2, 72), (72, 2, 0, 0, 2, 73), (73, 40, 0, 10, 5, 76), (76, 40, 0, 8, 2, 79), (79, 70, 0, 0, 0, 80)]
def mX11_law : gMt := (119, tbX11_law, [])
set_option maxRecDepth 100000 in
theorem okX11_law : gOK mX11_law = true := by decide +kernel
def tbX11_repeal : List (Nat × gRI) := [(0, 2, 0, 1, 0, 1), (1, 0, 0, 0, 0, 2), (2, 0, 1, 0, 0, 3), (3, 81, 0, 150, 3, 6), (6, 61, 0, 16, 1, 9), (9, 2, 0, 0, 2, 10), (10, 0, -1000001, 0, 0, 12), (12, 80, 0, 147, 1, 15), (15, 70, 0, 0, 0, 16), (16, 2, 0, 0, 2, 17), (17, 40, 0, 10, 0, 20), (20, 40, 0, 7, 8, 23), (23, 2, 0, 1, 0, 24), (24, 46, 0, 0, 0, 25), (25, 40, 0, 1, 0, 28), (28, 3, 0, 2, 0, 29), (29, 2, 0, 0, 2, 30), (30, 40, 0, 10, 0, 33), (33, 40, 0, 7, 8, 36), (36, 2, 0, 1, 0, 37), (37, 46, 0, 0, 0, 38), (38, 0, 0, 0, 0, 39), (39, 41, 0, 1, 0, 42), (42, 2, 0, 2, 0, 43), (43, 61, 0, 50, 0, 46), (46, 0, 1, 0, 0, 47), (47, 60, 0, 51, 0, 50), (50, 0, 0, 0, 0, 51), (51, 70, 0, 0, 0, 52)]
def mX11_repeal : gMt := (120, tbX11_repeal, [])
set_option maxRecDepth 100000 in
theorem okX11_repeal : gOK mX11_repeal = true := by decide +kernel
def tbX11_says : List (Nat × gRI) := [(0, 2, 0, 1, 0, 1), (1, 0, 0, 0, 0, 2), (2, 0, 1, 0, 0, 3), (3, 81, 0, 150, 3, 6), (6, 61, 0, 20, 0, 9), (9, 2, 0, 0, 2, 10), (10, 40, 0, 10, 0, 13), (13, 2, 0, 2, 0, 14), (14, 80, 0, 60, 1, 17), (17, 61, 0, 27, 1, 20), (20, 2, 0, 0, 2, 21), (21, 0, -1000001, 0, 0, 23), (23, 80, 0, 147, 1, 26), (26, 70, 0, 0, 0, 27), (27, 2, 0, 1, 0, 28), (28, 61, 0, 42, 1, 31), (31, 2, 0, 0, 2, 32), (32, 40, 0, 10, 0, 35), (35, 2, 0, 2, 0, 36), (36, 80, 0, 73, 1, 39), (39, 60, 0, 50, 0, 42), (42, 2, 0, 0, 2, 43), (43, 40, 0, 10, 0, 46), (46, 2, 0, 2, 0, 47), (47, 80, 0, 74, 1, 50), (50, 70, 0, 0, 0, 51)]
def mX11_says : gMt := (121, tbX11_says, [])
set_option maxRecDepth 100000 in
theorem okX11_says : gOK mX11_says = true := by decide +kernel
def tbX11_pay : List (Nat × gRI) := [(0, 2, 0, 0, 2, 1), (1, 40, 0, 10, 0, 4), (4, 2, 0, 1, 0, 5), (5, 80, 0, 60, 1, 8), (8, 61, 0, 18, 1, 11), (11, 2, 0, 0, 2, 12), (12, 0, -1000001, 0, 0, 14), (14, 80, 0, 147, 1, 17), (17, 70, 0, 0, 0, 18), (18, 2, 0, 0, 2, 19), (19, 40, 0, 10, 0, 22), (22, 40, 0, 7, 5, 25), (25, 2, 0, 1, 0, 26), (26, 46, 0, 0, 0, 27), (27, 3, 0, 2, 2, 28), (28, 2, 0, 2, 2, 29), (29, 40, 0, 2, 8, 32), (32, 0, -2, 0, 0, 34), (34, 62, 0, 45, 0, 37), (37, 2, 0, 2, 2, 38), (38, 40, 0, 2, 10, 41), (41, 0, -1, 0, 0, 42), (42, 62, 0, 52, 0, 45), (45, 2, 0, 0, 2, 46), (46, 0, -1000005, 0, 0, 48), (48, 80, 0, 147, 1, 51), (51, 70, 0, 0, 0, 52), (52, 2, 0, 2, 2, 53), (53, 2, 0, 2, 2, 54), (54, 40, 0, 2, 5, 57), (57, 2, 0, 0, 2, 58), (58, 40, 0, 10, 0, 61), (61, 2, 0, 1, 0, 62), (62, 80, 0, 73, 1, 65), (65, 12, 0, 0, 0, 66), (66, 41, 0, 2, 10, 69), (69, 2, 0, 0, 2, 70), (70, 40, 0, 10, 0, 73), (73, 6, 0, 0, 0, 74), (74, 40, 0, 7, 1, 77), (77, 2, 0, 2, 2, 78), (78, 40, 0, 2, 10, 81), (81, 10, 0, 0, 0, 82), (82, 41, 0, 7, 1, 85), (85, 2, 0, 2, 2, 86), (86, 40, 0, 2, 10, 89), (89, 70, 0, 0, 0, 90)]
def mX11_pay : gMt := (122, tbX11_pay, [])
set_option maxRecDepth 100000 in
theorem okX11_pay : gOK mX11_pay = true := by decide +kernel
def tbX11_cancel : List (Nat × gRI) := [(0, 2, 0, 0, 2, 1), (1, 40, 0, 10, 0, 4), (4, 2, 0, 1, 0, 5), (5, 80, 0, 60, 1, 8), (8, 61, 0, 18, 1, 11), (11, 2, 0, 0, 2, 12), (12, 0, -1000001, 0, 0, 14), (14, 80, 0, 147, 1, 17), (17, 70, 0, 0, 0, 18), (18, 2, 0, 0, 2, 19), (19, 40, 0, 10, 0, 22), (22, 40, 0, 7, 5, 25), (25, 2, 0, 1, 0, 26), (26, 46, 0, 0, 0, 27), (27, 3, 0, 2, 2, 28), (28, 2, 0, 2, 2, 29), (29, 40, 0, 2, 8, 32), (32, 0, -2, 0, 0, 34), (34, 62, 0, 48, 0, 37), (37, 2, 0, 0, 2, 38), (38, 40, 0, 10, 0, 41), (41, 2, 0, 1, 0, 42), (42, 80, 0, 64, 1, 45), (45, 61, 0, 55, 0, 48), (48, 2, 0, 0, 2, 49), (49, 0, -1000005, 0, 0, 51), (51, 80, 0, 147, 1, 54), (54, 70, 0, 0, 0, 55), (55, 2, 0, 2, 2, 56), (56, 40, 0, 2, 10, 59), (59, 0, -1, 0, 0, 60), (60, 62, 0, 67, 1, 63), (63, 0, 0, 0, 0, 64), (64, 60, 0, 83, 0, 67), (67, 2, 0, 2, 2, 68), (68, 40, 0, 2, 10, 71), (71, 2, 0, 0, 2, 72), (72, 40, 0, 10, 0, 75), (75, 2, 0, 1, 0, 76), (76, 80, 0, 74, 1, 79), (79, 12, 0, 0, 0, 80), (80, 0, 100, 0, 0, 82), (82, 14, 0, 0, 0, 83), (83, 3, 0, 3, 0, 84), (84, 2, 0, 2, 2, 85), (85, 0, -2, 0, 0, 87), (87, 41, 0, 2, 8, 90), (90, 2, 0, 0, 2, 91), (91, 40, 0, 10, 0, 94), (94, 6, 0, 0, 0, 95), (95, 40, 0, 7, 1, 98), (98, 2, 0, 3, 0, 99), (99, 11, 0, 0, 0, 100), (100, 41, 0, 7, 1, 103), (103, 2, 0, 3, 0, 104), (104, 70, 0, 0, 0, 105)]
def mX11_cancel : gMt := (123, tbX11_cancel, [])
set_option maxRecDepth 100000 in
theorem okX11_cancel : gOK mX11_cancel = true := by decide +kernel
def tbX11_review : List (Nat × gRI) := [(0, 2, 0, 0, 2, 1), (1, 40, 0, 10, 0, 4), (4, 2, 0, 1, 0, 5), (5, 80, 0, 60, 1, 8), (8, 61, 0, 20, 0, 11), (11, 2, 0, 2, 0, 12), (12, 0, 1, 0, 0, 13), (13, 0, 5, 0, 0, 14), (14, 81, 0, 150, 3, 17), (17, 61, 0, 27, 1, 20), (20, 2, 0, 0, 2, 21), (21, 0, -1000001, 0, 0, 23), (23, 80, 0, 147, 1, 26), (26, 70, 0, 0, 0, 27), (27, 2, 0, 0, 2, 28), (28, 40, 0, 10, 0, 31), (31, 40, 0, 7, 5, 34), (34, 2, 0, 1, 0, 35), (35, 46, 0, 0, 0, 36), (36, 3, 0, 3, 2, 37), (37, 2, 0, 0, 2, 38), (38, 40, 0, 10, 0, 41), (41, 2, 0, 1, 0, 42), (42, 80, 0, 62, 1, 45), (45, 61, 0, 69, 0, 48), (48, 2, 0, 3, 2, 49), (49, 80, 0, 24, 0, 52), (52, 2, 0, 0, 2, 53), (53, 40, 0, 10, 0, 56), (56, 40, 0, 7, 0, 59), (59, 62, 0, 69, 3, 62), (62, 2, 0, 3, 2, 63), (63, 40, 0, 2, 13, 66), (66, 61, 0, 76, 0, 69), (69, 2, 0, 0, 2, 70), (70, 0, -1000005, 0, 0, 72), (72, 80, 0, 147, 1, 75), (75, 70, 0, 0, 0, 76), (76, 2, 0, 3, 2, 77), (77, 0, 1, 0, 0, 78), (78, 41, 0, 2, 13, 81), (81, 2, 0, 0, 2, 82), (82, 40, 0, 10, 0, 85), (85, 40, 0, 7, 4, 88), (88, 2, 0, 3, 2, 89), (89, 40, 0, 2, 8, 92), (92, 46, 0, 0, 0, 93), (93, 3, 0, 4, 2, 95), (95, 2, 0, 4, 2, 97), (97, 6, 0, 0, 0, 98), (98, 40, 0, 3, 8, 101), (101, 0, 1, 0, 0, 102), (102, 10, 0, 0, 0, 103), (103, 41, 0, 3, 8, 106), (106, 2, 0, 4, 2, 108), (108, 6, 0, 0, 0, 109), (109, 40, 0, 3, 9, 112), (112, 2, 0, 2, 0, 113), (113, 10, 0, 0, 0, 114), (114, 41, 0, 3, 9, 117), (117, 2, 0, 4, 2, 119), (119, 40, 0, 3, 8, 122), (122, 70, 0, 0, 0, 123)]
def mX11_review : gMt := (124, tbX11_review, [])
set_option maxRecDepth 100000 in
theorem okX11_review : gOK mX11_review = true := by decide +kernel
def tbX11_stars : List (Nat × gRI) := [(0, 2, 0, 0, 2, 1), (1, 40, 0, 10, 0, 4), (4, 2, 0, 1, 0, 5), (5, 80, 0, 59, 1, 8), (8, 61, 0, 18, 1, 11), (11, 2, 0, 0, 2, 12), (12, 0, -1000001, 0, 0, 14), (14, 80, 0, 147, 1, 17), (17, 70, 0, 0, 0, 18), (18, 2, 0, 0, 2, 19), (19, 40, 0, 10, 0, 22), (22, 40, 0, 7, 4, 25), (25, 2, 0, 1, 0, 26), (26, 46, 0, 0, 0, 27), (27, 3, 0, 2, 2, 28), (28, 2, 0, 2, 2, 29), (29, 40, 0, 3, 8, 32), (32, 61, 0, 42, 1, 35), (35, 2, 0, 0, 2, 36), (36, 0, -1000004, 0, 0, 38), (38, 80, 0, 147, 1, 41), (41, 70, 0, 0, 0, 42), (42, 0, 100, 0, 0, 44), (44, 2, 0, 2, 2, 45), (45, 40, 0, 3, 9, 48), (48, 12, 0, 0, 0, 49), (49, 2, 0, 2, 2, 50), (50, 40, 0, 3, 8, 53), (53, 14, 0, 0, 0, 54), (54, 70, 0, 0, 0, 55)]
def mX11_stars : gMt := (125, tbX11_stars, [])
set_option maxRecDepth 100000 in
theorem okX11_stars : gOK mX11_stars = true := by decide +kernel
def tbX11_use : List (Nat × gRI) := [(0, 2, 0, 0, 2, 1), (1, 40, 0, 10, 0, 4), (4, 2, 0, 1, 0, 5), (5, 80, 0, 60, 1, 8), (8, 61, 0, 31, 0, 11), (11, 2, 0, 2, 0, 12), (12, 0, 0, 0, 0, 13), (13, 0, 16777215, 0, 0, 15), (15, 81, 0, 150, 3, 18), (18, 61, 0, 31, 0, 21), (21, 2, 0, 3, 0, 22), (22, 0, 0, 0, 0, 23), (23, 0, 40, 0, 0, 25), (25, 81, 0, 150, 3, 28), (28, 61, 0, 38, 1, 31), (31, 2, 0, 0, 2, 32), (32, 0, -1000001, 0, 0, 34), (34, 80, 0, 147, 1, 37), (37, 70, 0, 0, 0, 38), (38, 2, 0, 0, 2, 39), (39, 40, 0, 10, 0, 42), (42, 40, 0, 7, 5, 45), (45, 2, 0, 1, 0, 46), (46, 46, 0, 0, 0, 47), (47, 2, 0, 2, 0, 48), (48, 41, 0, 2, 11, 51), (51, 2, 0, 0, 2, 52), (52, 40, 0, 10, 0, 55), (55, 40, 0, 7, 5, 58), (58, 2, 0, 1, 0, 59), (59, 46, 0, 0, 0, 60), (60, 2, 0, 3, 0, 61), (61, 41, 0, 2, 12, 64), (64, 0, 1, 0, 0, 65), (65, 70, 0, 0, 0, 66)]
def mX11_use : gMt := (126, tbX11_use, [])
set_option maxRecDepth 100000 in
theorem okX11_use : gOK mX11_use = true := by decide +kernel
def tbX11_limit : List (Nat × gRI) := [(0, 2, 0, 1, 0, 1), (1, 0, 0, 0, 0, 2), (2, 0, 3, 0, 0, 3), (3, 81, 0, 150, 3, 6), (6, 61, 0, 20, 0, 9), (9, 2, 0, 2, 0, 10), (10, 0, 0, 0, 0, 11), (11, 0, 200, 0, 0, 14), (14, 81, 0, 150, 3, 17), (17, 61, 0, 27, 1, 20), (20, 2, 0, 0, 2, 21), (21, 0, -1000001, 0, 0, 23), (23, 80, 0, 147, 1, 26), (26, 70, 0, 0, 0, 27), (27, 2, 0, 0, 2, 28), (28, 40, 0, 10, 0, 31), (31, 40, 0, 7, 6, 34), (34, 2, 0, 1, 0, 35), (35, 43, 0, 0, 0, 36), (36, 3, 0, 3, 0, 37), (37, 2, 0, 0, 2, 38), (38, 40, 0, 10, 0, 41), (41, 40, 0, 7, 6, 44), (44, 2, 0, 1, 0, 45), (45, 2, 0, 2, 0, 46), (46, 48, 0, 0, 0, 47), (47, 2, 0, 3, 0, 48), (48, 70, 0, 0, 0, 49)]
def mX11_limit : gMt := (127, tbX11_limit, [])
set_option maxRecDepth 100000 in
theorem okX11_limit : gOK mX11_limit = true := by decide +kernel
end
section
def tbX11_load : List (Nat × gRI) := [(0, 2, 0, 1, 0, 1), (1, 0, 0, 0, 0, 2), (2, 0, 3, 0, 0, 3), (3, 81, 0, 150, 3, 6), (6, 61, 0, 19, 0, 9), (9, 2, 0, 2, 0, 10), (10, 0, 0, 0, 0, 11), (11, 0, 23, 0, 0, 13), (13, 81, 0, 150, 3, 16), (16, 61, 0, 26, 1, 19), (19, 2, 0, 0, 2, 20), (20, 0, -1000001, 0, 0, 22), (22, 80, 0, 147, 1, 25), (25, 70, 0, 0, 0, 26), (26, 2, 0, 0, 2, 27), (27, 40, 0, 10, 0, 30), (30, 2, 0, 1, 0, 31), (31, 2, 0, 2, 0, 32), (32, 80, 0, 72, 2, 35), (35, 70, 0, 0, 0, 36)]
def mX11_load : gMt := (128, tbX11_load, [])
set_option maxRecDepth 100000 in
theorem okX11_load : gOK mX11_load = true := by decide +kernel
def tbX11_trips : List (Nat × gRI) := [(0, 2, 0, 1, 0, 1), (1, 0, 0, 0, 0, 2), (2, 0, 3, 0, 0, 3), (3, 81, 0, 150, 3, 6), (6, 61, 0, 16, 1, 9), (9, 2, 0, 0, 2, 10), (10, 0, -1000001, 0, 0, 12), (12, 80, 0, 147, 1, 15), (15, 70, 0, 0, 0, 16), (16, 0, 0, 0, 0, 17), (17, 3, 0, 2, 0, 18), (18, 0, 0, 0, 0, 19), (19, 3, 0, 3, 0, 20), (20, 2, 0, 3, 0, 21), (21, 0, 24, 0, 0, 23), (23, 62, 0, 59, 3, 26), (26, 2, 0, 0, 2, 27), (27, 40, 0, 10, 0, 30), (30, 2, 0, 1, 0, 31), (31, 2, 0, 3, 0, 32), (32, 80, 0, 72, 2, 35), (35, 2, 0, 0, 2, 36), (36, 40, 0, 10, 0, 39), (39, 40, 0, 7, 6, 42), (42, 2, 0, 1, 0, 43), (43, 43, 0, 0, 0, 44), (44, 62, 0, 53, 5, 47), (47, 2, 0, 2, 0, 48), (48, 0, 1, 0, 0, 49), (49, 2, 0, 3, 0, 50), (50, 19, 0, 0, 0, 51), (51, 17, 0, 0, 0, 52), (52, 3, 0, 2, 0, 53), (53, 5, 1, 3, 0, 56), (56, 60, 0, 20, 0, 59), (59, 2, 0, 2, 0, 60), (60, 70, 0, 0, 0, 61)]
def mX11_trips : gMt := (129, tbX11_trips, [])
set_option maxRecDepth 100000 in
theorem okX11_trips : gOK mX11_trips = true := by decide +kernel
def tbX11_may : List (Nat × gRI) := [(0, 2, 0, 0, 2, 1), (1, 40, 0, 10, 0, 4), (4, 2, 0, 1, 0, 5), (5, 80, 0, 60, 1, 8), (8, 61, 0, 46, 0, 11), (11, 2, 0, 2, 0, 12), (12, 0, 0, 0, 0, 13), (13, 0, 23, 0, 0, 15), (15, 81, 0, 150, 3, 18), (18, 61, 0, 46, 0, 21), (21, 2, 0, 3, 0, 22), (22, 0, 1, 0, 0, 23), (23, 0, 24, 0, 0, 25), (25, 81, 0, 150, 3, 28), (28, 61, 0, 46, 0, 31), (31, 2, 0, 4, 0, 33), (33, 0, 0, 0, 0, 34), (34, 0, 40, 0, 0, 36), (36, 81, 0, 150, 3, 39), (39, 61, 0, 46, 0, 42), (42, 0, 1, 0, 0, 43), (43, 60, 0, 47, 0, 46), (46, 0, 0, 0, 0, 47), (47, 3, 0, 5, 0, 49), (49, 2, 0, 5, 0, 51), (51, 61, 0, 61, 1, 54), (54, 2, 0, 0, 2, 55), (55, 0, -1000001, 0, 0, 57), (57, 80, 0, 147, 1, 60), (60, 70, 0, 0, 0, 61), (61, 2, 0, 0, 2, 62), (62, 40, 0, 10, 0, 65), (65, 2, 0, 1, 0, 66), (66, 80, 0, 65, 1, 69), (69, 61, 0, 79, 1, 72), (72, 2, 0, 0, 2, 73), (73, 0, -1000005, 0, 0, 75), (75, 80, 0, 147, 1, 78), (78, 70, 0, 0, 0, 79), (79, 2, 0, 0, 2, 80), (80, 40, 0, 10, 0, 83), (83, 40, 0, 7, 4, 86), (86, 2, 0, 0, 2, 87), (87, 40, 0, 10, 0, 90), (90, 40, 0, 7, 5, 93), (93, 2, 0, 1, 0, 94), (94, 46, 0, 0, 0, 95), (95, 40, 0, 2, 8, 98), (98, 46, 0, 0, 0, 99), (99, 40, 0, 3, 7, 102), (102, 3, 0, 6, 0, 104), (104, 0, 0, 0, 0, 105), (105, 3, 0, 7, 0, 107), (107, 2, 0, 2, 0, 108), (108, 3, 0, 8, 0, 110), (110, 2, 0, 8, 0, 112), (112, 0, 24, 0, 0, 114), (114, 62, 0, 185, 3, 117), (117, 2, 0, 0, 2, 118), (118, 40, 0, 10, 0, 121), (121, 2, 0, 6, 0, 123), (123, 2, 0, 8, 0, 125), (125, 80, 0, 72, 2, 128), (128, 2, 0, 4, 0, 130), (130, 10, 0, 0, 0, 131), (131, 2, 0, 0, 2, 132), (132, 40, 0, 10, 0, 135), (135, 40, 0, 7, 6, 138), (138, 2, 0, 6, 0, 140), (140, 43, 0, 0, 0, 141), (141, 62, 0, 148, 4, 144), (144, 0, 1, 0, 0, 145), (145, 60, 0, 149, 0, 148), (148, 0, 0, 0, 0, 149), (149, 3, 0, 9, 0, 151), (151, 2, 0, 9, 0, 153), (153, 61, 0, 163, 0, 156), (156, 2, 0, 7, 0, 158), (158, 0, 1, 0, 0, 159), (159, 10, 0, 0, 0, 160), (160, 60, 0, 164, 0, 163), (163, 0, 0, 0, 0, 164), (164, 3, 0, 7, 0, 166), (166, 2, 0, 7, 0, 168), (168, 2, 0, 3, 0, 169), (169, 62, 0, 179, 1, 172), (172, 2, 0, 8, 0, 174), (174, 2, 0, 3, 0, 175), (175, 11, 0, 0, 0, 176), (176, 0, 1, 0, 0, 177), (177, 10, 0, 0, 0, 178), (178, 70, 0, 0, 0, 179), (179, 5, 1, 8, 0, 182), (182, 60, 0, 110, 0, 185), (185, 2, 0, 0, 2, 186), (186, 0, -1000004, 0, 0, 188), (188, 80, 0, 147, 1, 191), (191, 70, 0, 0, 0, 192)]
def mX11_may : gMt := (130, tbX11_may, [])
set_option maxRecDepth 100000 in
theorem okX11_may : gOK mX11_may = true := by decide +kernel
def tbX11_wet : List (Nat × gRI) := [(0, 2, 0, 1, 0, 1), (1, 0, 0, 0, 0, 2), (2, 0, 99, 0, 0, 4), (4, 81, 0, 150, 3, 7), (7, 61, 0, 17, 1, 10), (10, 2, 0, 0, 2, 11), (11, 0, -1000001, 0, 0, 13), (13, 80, 0, 147, 1, 16), (16, 70, 0, 0, 0, 17), (17, 0, 0, 0, 0, 18), (18, 3, 0, 2, 0, 19), (19, 0, 0, 0, 0, 20), (20, 3, 0, 3, 0, 21), (21, 2, 0, 3, 0, 22), (22, 2, 0, 0, 2, 23), (23, 40, 0, 10, 0, 26), (26, 40, 0, 7, 3, 29), (29, 62, 0, 56, 3, 32), (32, 2, 0, 0, 2, 33), (33, 40, 0, 10, 0, 36), (36, 2, 0, 3, 0, 37), (37, 2, 0, 1, 0, 38), (38, 80, 0, 66, 2, 41), (41, 61, 0, 50, 0, 44), (44, 2, 0, 2, 0, 45), (45, 0, 1, 0, 0, 46), (46, 2, 0, 3, 0, 47), (47, 19, 0, 0, 0, 48), (48, 17, 0, 0, 0, 49), (49, 3, 0, 2, 0, 50), (50, 5, 1, 3, 0, 53), (53, 60, 0, 21, 0, 56), (56, 2, 0, 2, 0, 57), (57, 70, 0, 0, 0, 58)]
def mX11_wet : gMt := (131, tbX11_wet, [])
set_option maxRecDepth 100000 in
theorem okX11_wet : gOK mX11_wet = true := by decide +kernel
def tbX11_rescue : List (Nat × gRI) := [(0, 2, 0, 1, 0, 1), (1, 0, 0, 0, 0, 2), (2, 0, 99, 0, 0, 4), (4, 81, 0, 150, 3, 7), (7, 61, 0, 21, 0, 10), (10, 2, 0, 0, 2, 11), (11, 40, 0, 10, 0, 14), (14, 2, 0, 2, 0, 15), (15, 80, 0, 61, 1, 18), (18, 61, 0, 28, 1, 21), (21, 2, 0, 0, 2, 22), (22, 0, -1000001, 0, 0, 24), (24, 80, 0, 147, 1, 27), (27, 70, 0, 0, 0, 28), (28, 2, 0, 0, 2, 29), (29, 40, 0, 10, 4, 32), (32, 2, 0, 1, 0, 33), (33, 80, 0, 44, 1, 36), (36, 3, 0, 3, 0, 37), (37, 2, 0, 2, 0, 38), (38, 0, -1, 0, 0, 39), (39, 62, 0, 44, 1, 42), (42, 2, 0, 3, 0, 43), (43, 70, 0, 0, 0, 44), (44, 2, 0, 0, 2, 45), (45, 40, 0, 10, 4, 48), (48, 2, 0, 2, 0, 49), (49, 80, 0, 45, 1, 52), (52, 3, 0, 4, 0, 54), (54, 2, 0, 4, 0, 56), (56, 61, 0, 68, 3, 59), (59, 2, 0, 0, 2, 60), (60, 0, -1000004, 0, 0, 62), (62, 80, 0, 147, 1, 65), (65, 60, 0, 70, 0, 68), (68, 2, 0, 4, 0, 70), (70, 70, 0, 0, 0, 71)]
def mX11_rescue : gMt := (132, tbX11_rescue, [])
set_option maxRecDepth 100000 in
theorem okX11_rescue : gOK mX11_rescue = true := by decide +kernel
def tbX11_wash : List (Nat × gRI) := [(0, 2, 0, 1, 0, 1), (1, 0, 0, 0, 0, 2), (2, 0, 999, 0, 0, 5), (5, 81, 0, 150, 3, 8), (8, 61, 0, 21, 0, 11), (11, 2, 0, 2, 0, 12), (12, 0, 1, 0, 0, 13), (13, 0, 60, 0, 0, 15), (15, 81, 0, 150, 3, 18), (18, 61, 0, 28, 1, 21), (21, 2, 0, 0, 2, 22), (22, 0, -1000001, 0, 0, 24), (24, 80, 0, 147, 1, 27), (27, 70, 0, 0, 0, 28), (28, 2, 0, 0, 2, 29), (29, 40, 0, 10, 0, 32), (32, 40, 0, 7, 9, 35), (35, 40, 0, 9, 0, 38), (38, 0, 20, 0, 0, 40), (40, 62, 0, 50, 2, 43), (43, 2, 0, 0, 2, 44), (44, 0, -1000002, 0, 0, 46), (46, 80, 0, 147, 1, 49), (49, 70, 0, 0, 0, 50), (50, 2, 0, 0, 2, 51), (51, 40, 0, 10, 0, 54), (54, 40, 0, 7, 9, 57), (57, 2, 0, 1, 0, 58), (58, 2, 0, 2, 0, 59), (59, 80, 0, 98, 2, 62), (62, 2, 0, 0, 2, 63), (63, 40, 0, 10, 0, 66), (66, 40, 0, 7, 9, 69), (69, 40, 0, 9, 0, 72), (72, 70, 0, 0, 0, 73)]
def mX11_wash : gMt := (133, tbX11_wash, [])
set_option maxRecDepth 100000 in
theorem okX11_wash : gOK mX11_wash = true := by decide +kernel
def tbX11_block : List (Nat × gRI) := [(0, 2, 0, 1, 0, 1), (1, 0, 1, 0, 0, 2), (2, 0, 6, 0, 0, 4), (4, 81, 0, 150, 3, 7), (7, 61, 0, 19, 0, 10), (10, 2, 0, 2, 0, 11), (11, 0, 0, 0, 0, 12), (12, 0, 2, 0, 0, 13), (13, 81, 0, 150, 3, 16), (16, 61, 0, 26, 1, 19), (19, 2, 0, 0, 2, 20), (20, 0, -1000001, 0, 0, 22), (22, 80, 0, 147, 1, 25), (25, 70, 0, 0, 0, 26), (26, 2, 0, 0, 2, 27), (27, 40, 0, 10, 0, 30), (30, 40, 0, 7, 9, 33), (33, 3, 0, 3, 2, 34), (34, 2, 0, 3, 2, 35), (35, 2, 0, 1, 0, 36), (36, 80, 0, 100, 1, 39), (39, 2, 0, 2, 0, 40), (40, 61, 0, 48, 1, 43), (43, 2, 0, 3, 2, 44), (44, 40, 0, 9, 1, 47), (47, 70, 0, 0, 0, 48), (48, 2, 0, 2, 0, 49), (49, 0, 1, 0, 0, 50), (50, 62, 0, 60, 1, 53), (53, 2, 0, 3, 2, 54), (54, 40, 0, 9, 2, 57), (57, 60, 0, 64, 0, 60), (60, 2, 0, 3, 2, 61), (61, 40, 0, 9, 3, 64), (64, 70, 0, 0, 0, 65)]
def mX11_block : gMt := (134, tbX11_block, [])
set_option maxRecDepth 100000 in
theorem okX11_block : gOK mX11_block = true := by decide +kernel
def tbX11_dry : List (Nat × gRI) := [(0, 2, 0, 0, 2, 1), (1, 40, 0, 10, 0, 4), (4, 40, 0, 7, 9, 7), (7, 40, 0, 9, 0, 10), (10, 3, 0, 1, 0, 11), (11, 2, 0, 0, 2, 12), (12, 40, 0, 10, 0, 15), (15, 40, 0, 7, 9, 18), (18, 0, 0, 0, 0, 19), (19, 41, 0, 9, 0, 22), (22, 2, 0, 1, 0, 23), (23, 70, 0, 0, 0, 24)]
def mX11_dry : gMt := (135, tbX11_dry, [])
set_option maxRecDepth 100000 in
theorem okX11_dry : gOK mX11_dry = true := by decide +kernel
def tbX11_join : List (Nat × gRI) := [(0, 2, 0, 1, 0, 1), (1, 0, 0, 0, 0, 2), (2, 0, 3, 0, 0, 3), (3, 81, 0, 150, 3, 6), (6, 61, 0, 16, 1, 9), (9, 2, 0, 0, 2, 10), (10, 0, -1000001, 0, 0, 12), (12, 80, 0, 147, 1, 15), (15, 70, 0, 0, 0, 16), (16, 2, 0, 0, 2, 17), (17, 40, 0, 10, 6, 20), (20, 2, 0, 1, 0, 21), (21, 46, 0, 0, 0, 22), (22, 3, 0, 2, 2, 23), (23, 2, 0, 2, 2, 24), (24, 80, 0, 54, 0, 27), (27, 61, 0, 38, 0, 30), (30, 2, 0, 0, 2, 31), (31, 0, -1000006, 0, 0, 34), (34, 80, 0, 147, 1, 37), (37, 70, 0, 0, 0, 38), (38, 2, 0, 2, 2, 39), (39, 40, 0, 6, 1, 42), (42, 0, 3, 0, 0, 43), (43, 15, 0, 0, 0, 44), (44, 61, 0, 55, 0, 47), (47, 2, 0, 0, 2, 48), (48, 0, -1000007, 0, 0, 51), (51, 80, 0, 147, 1, 54), (54, 70, 0, 0, 0, 55), (55, 2, 0, 0, 2, 56), (56, 2, 0, 2, 2, 57), (57, 80, 0, 148, 1, 60), (60, 61, 0, 70, 1, 63), (63, 2, 0, 0, 2, 64), (64, 0, -1000001, 0, 0, 66), (66, 80, 0, 147, 1, 69), (69, 70, 0, 0, 0, 70), (70, 2, 0, 0, 2, 71), (71, 2, 0, 2, 2, 72), (72, 80, 0, 149, 1, 75), (75, 70, 0, 0, 0, 76)]
def mX11_join : gMt := (136, tbX11_join, [])
set_option maxRecDepth 100000 in
theorem okX11_join : gOK mX11_join = true := by decide +kernel
def tbX11_hold : List (Nat × gRI) := [(0, 2, 0, 1, 0, 1), (1, 0, 0, 0, 0, 2), (2, 0, 9, 0, 0, 4), (4, 81, 0, 150, 3, 7), (7, 61, 0, 21, 0, 10), (10, 2, 0, 0, 2, 11), (11, 40, 0, 10, 0, 14), (14, 2, 0, 2, 0, 15), (15, 80, 0, 61, 1, 18), (18, 61, 0, 28, 1, 21), (21, 2, 0, 0, 2, 22), (22, 0, -1000001, 0, 0, 24), (24, 80, 0, 147, 1, 27), (27, 70, 0, 0, 0, 28), (28, 2, 0, 0, 2, 29), (29, 40, 0, 10, 0, 32), (32, 40, 0, 7, 7, 35), (35, 2, 0, 1, 0, 36), (36, 2, 0, 2, 0, 37), (37, 48, 0, 0, 0, 38), (38, 0, 1, 0, 0, 39), (39, 70, 0, 0, 0, 40)]
def mX11_hold : gMt := (137, tbX11_hold, [])
set_option maxRecDepth 100000 in
theorem okX11_hold : gOK mX11_hold = true := by decide +kernel
def tbX11_as : List (Nat × gRI) := [(0, 2, 0, 1, 0, 1), (1, 0, 0, 0, 0, 2), (2, 0, 9, 0, 0, 4), (4, 81, 0, 150, 3, 7), (7, 61, 0, 19, 0, 10), (10, 2, 0, 2, 0, 11), (11, 0, 0, 0, 0, 12), (12, 0, 4, 0, 0, 13), (13, 81, 0, 150, 3, 16), (16, 61, 0, 26, 1, 19), (19, 2, 0, 0, 2, 20), (20, 0, -1000001, 0, 0, 22), (22, 80, 0, 147, 1, 25), (25, 70, 0, 0, 0, 26), (26, 2, 0, 0, 2, 27), (27, 40, 0, 10, 0, 30), (30, 40, 0, 7, 7, 33), (33, 2, 0, 1, 0, 34), (34, 43, 0, 0, 0, 35), (35, 3, 0, 3, 0, 36), (36, 2, 0, 3, 0, 37), (37, 0, -1, 0, 0, 38), (38, 62, 0, 49, 1, 41), (41, 2, 0, 0, 2, 42), (42, 0, -1000006, 0, 0, 45), (45, 80, 0, 147, 1, 48), (48, 70, 0, 0, 0, 49), (49, 2, 0, 0, 2, 50), (50, 40, 0, 10, 0, 53), (53, 40, 0, 7, 5, 56), (56, 2, 0, 3, 0, 57), (57, 46, 0, 0, 0, 58), (58, 40, 0, 2, 0, 61), (61, 2, 0, 2, 0, 62), (62, 81, 0, 9, 2, 65), (65, 61, 0, 75, 1, 68), (68, 2, 0, 0, 2, 69), (69, 0, -1000003, 0, 0, 71), (71, 80, 0, 147, 1, 74), (74, 70, 0, 0, 0, 75), (75, 2, 0, 3, 0, 76), (76, 70, 0, 0, 0, 77)]
def mX11_as : gMt := (138, tbX11_as, [])
set_option maxRecDepth 100000 in
theorem okX11_as : gOK mX11_as = true := by decide +kernel
def tbX11_sheet : List (Nat × gRI) := [(0, 2, 0, 2, 0, 1), (1, 61, 0, 22, 0, 4), (4, 2, 0, 2, 0, 5), (5, 0, 8, 0, 0, 7), (7, 62, 0, 22, 0, 10), (10, 2, 0, 2, 0, 11), (11, 0, 16, 0, 0, 13), (13, 62, 0, 22, 0, 16), (16, 2, 0, 2, 0, 17), (17, 0, 32, 0, 0, 19), (19, 62, 0, 26, 1, 22), (22, 0, 1, 0, 0, 23), (23, 60, 0, 27, 0, 26), (26, 0, 0, 0, 0, 27), (27, 3, 0, 4, 0, 29), (29, 2, 0, 1, 0, 30), (30, 0, 0, 0, 0, 31), (31, 0, 3, 0, 0, 32), (32, 81, 0, 150, 3, 35), (35, 61, 0, 43, 0, 38), (38, 2, 0, 4, 0, 40), (40, 61, 0, 50, 1, 43), (43, 2, 0, 0, 2, 44), (44, 0, -1000001, 0, 0, 46), (46, 80, 0, 147, 1, 49), (49, 70, 0, 0, 0, 50), (50, 2, 0, 3, 0, 51), (51, 61, 0, 62, 3, 54), (54, 2, 0, 0, 2, 55), (55, 0, -1000007, 0, 0, 58), (58, 80, 0, 147, 1, 61), (61, 70, 0, 0, 0, 62), (62, 2, 0, 3, 0, 63), (63, 0, 60, 0, 0, 65), (65, 62, 0, 75, 5, 68), (68, 2, 0, 0, 2, 69), (69, 0, -1000001, 0, 0, 71), (71, 80, 0, 147, 1, 74), (74, 70, 0, 0, 0, 75), (75, 2, 0, 0, 2, 76), (76, 40, 0, 10, 6, 79), (79, 2, 0, 1, 0, 80), (80, 46, 0, 0, 0, 81), (81, 2, 0, 2, 0, 82), (82, 2, 0, 2, 0, 83), (83, 61, 0, 90, 1, 86), (86, 0, 0, 0, 0, 87), (87, 60, 0, 91, 0, 90), (90, 2, 0, 3, 0, 91), (91, 80, 0, 53, 2, 94), (94, 2, 0, 0, 2, 95), (95, 40, 0, 10, 6, 98), (98, 2, 0, 1, 0, 99), (99, 46, 0, 0, 0, 100), (100, 40, 0, 6, 1, 103), (103, 70, 0, 0, 0, 104)]
def mX11_sheet : gMt := (139, tbX11_sheet, [])
set_option maxRecDepth 100000 in
theorem okX11_sheet : gOK mX11_sheet = true := by decide +kernel
def tbX11_write : List (Nat × gRI) := [(0, 2, 0, 1, 0, 1), (1, 0, 0, 0, 0, 2), (2, 0, 3, 0, 0, 3), (3, 81, 0, 150, 3, 6), (6, 61, 0, 16, 1, 9), (9, 2, 0, 0, 2, 10), (10, 0, -1000001, 0, 0, 12), (12, 80, 0, 147, 1, 15), (15, 70, 0, 0, 0, 16), (16, 2, 0, 0, 2, 17), (17, 40, 0, 10, 6, 20), (20, 2, 0, 1, 0, 21), (21, 46, 0, 0, 0, 22), (22, 80, 0, 54, 0, 25), (25, 61, 0, 36, 0, 28), (28, 2, 0, 0, 2, 29), (29, 0, -1000006, 0, 0, 32), (32, 80, 0, 147, 1, 35), (35, 70, 0, 0, 0, 36), (36, 2, 0, 2, 0, 37), (37, 0, 0, 0, 0, 38), (38, 2, 0, 0, 2, 39), (39, 40, 0, 10, 6, 42), (42, 2, 0, 1, 0, 43), (43, 46, 0, 0, 0, 44), (44, 40, 0, 6, 1, 47), (47, 0, 1, 0, 0, 48), (48, 11, 0, 0, 0, 49), (49, 81, 0, 150, 3, 52), (52, 61, 0, 62, 1, 55), (55, 2, 0, 0, 2, 56), (56, 0, -1000001, 0, 0, 58), (58, 80, 0, 147, 1, 61), (61, 70, 0, 0, 0, 62), (62, 2, 0, 0, 2, 63), (63, 40, 0, 10, 6, 66), (66, 2, 0, 1, 0, 67), (67, 46, 0, 0, 0, 68), (68, 2, 0, 2, 0, 69), (69, 2, 0, 3, 0, 70), (70, 80, 0, 56, 2, 73), (73, 0, 1, 0, 0, 74), (74, 70, 0, 0, 0, 75)]
def mX11_write : gMt := (140, tbX11_write, [])
set_option maxRecDepth 100000 in
theorem okX11_write : gOK mX11_write = true := by decide +kernel
def tbX11_copy : List (Nat × gRI) := [(0, 2, 0, 1, 0, 1), (1, 0, 0, 0, 0, 2), (2, 0, 3, 0, 0, 3), (3, 81, 0, 150, 3, 6), (6, 61, 0, 18, 0, 9), (9, 2, 0, 3, 0, 10), (10, 0, 0, 0, 0, 11), (11, 0, 3, 0, 0, 12), (12, 81, 0, 150, 3, 15), (15, 61, 0, 25, 1, 18), (18, 2, 0, 0, 2, 19), (19, 0, -1000001, 0, 0, 21), (21, 80, 0, 147, 1, 24), (24, 70, 0, 0, 0, 25), (25, 2, 0, 0, 2, 26), (26, 40, 0, 10, 6, 29), (29, 2, 0, 1, 0, 30), (30, 46, 0, 0, 0, 31), (31, 3, 0, 6, 2, 33), (33, 2, 0, 0, 2, 34), (34, 40, 0, 10, 6, 37), (37, 2, 0, 3, 0, 38), (38, 46, 0, 0, 0, 39), (39, 3, 0, 7, 2, 41), (41, 2, 0, 6, 2, 43), (43, 80, 0, 54, 0, 46), (46, 61, 0, 57, 1, 49), (49, 2, 0, 7, 2, 51), (51, 80, 0, 54, 0, 54), (54, 61, 0, 65, 0, 57), (57, 2, 0, 0, 2, 58), (58, 0, -1000006, 0, 0, 61), (61, 80, 0, 147, 1, 64), (64, 70, 0, 0, 0, 65), (65, 2, 0, 6, 2, 67), (67, 40, 0, 6, 0, 70), (70, 2, 0, 7, 2, 72), (72, 40, 0, 6, 0, 75), (75, 62, 0, 85, 0, 78), (78, 2, 0, 0, 2, 79), (79, 0, -1000003, 0, 0, 81), (81, 80, 0, 147, 1, 84), (84, 70, 0, 0, 0, 85), (85, 2, 0, 6, 2, 87), (87, 2, 0, 2, 0, 88), (88, 2, 0, 5, 0, 90), (90, 80, 0, 55, 2, 93), (93, 61, 0, 108, 0, 96), (96, 2, 0, 7, 2, 98), (98, 2, 0, 4, 0, 100), (100, 2, 0, 5, 0, 102), (102, 80, 0, 55, 2, 105), (105, 61, 0, 115, 1, 108), (108, 2, 0, 0, 2, 109), (109, 0, -1000001, 0, 0, 111), (111, 80, 0, 147, 1, 114), (114, 70, 0, 0, 0, 115), (115, 2, 0, 6, 2, 117), (117, 40, 0, 6, 2, 120), (120, 2, 0, 2, 0, 121), (121, 2, 0, 7, 2, 123), (123, 40, 0, 6, 2, 126), (126, 2, 0, 4, 0, 128), (128, 2, 0, 5, 0, 130), (130, 85, 0, 0, 0, 133), (133, 2, 0, 5, 0, 135), (135, 70, 0, 0, 0, 136)]
def mX11_copy : gMt := (141, tbX11_copy, [])
set_option maxRecDepth 100000 in
theorem okX11_copy : gOK mX11_copy = true := by decide +kernel
def tbX11_image : List (Nat × gRI) := [(0, 2, 0, 0, 2, 1), (1, 40, 0, 10, 1, 4), (4, 2, 0, 0, 2, 5), (5, 40, 0, 10, 0, 8), (8, 80, 0, 58, 1, 11), (11, 2, 0, 0, 2, 12), (12, 0, 1, 0, 0, 13), (13, 41, 0, 10, 8, 16), (16, 0, 1, 0, 0, 17), (17, 70, 0, 0, 0, 18)]
def mX11_image : gMt := (142, tbX11_image, [])
set_option maxRecDepth 100000 in
theorem okX11_image : gOK mX11_image = true := by decide +kernel
def tbX11_undo : List (Nat × gRI) := [(0, 2, 0, 0, 2, 1), (1, 40, 0, 10, 8, 4), (4, 61, 0, 14, 1, 7), (7, 2, 0, 0, 2, 8), (8, 0, -1000004, 0, 0, 10), (10, 80, 0, 147, 1, 13), (13, 70, 0, 0, 0, 14), (14, 2, 0, 0, 2, 15), (15, 40, 0, 10, 0, 18), (18, 2, 0, 0, 2, 19), (19, 40, 0, 10, 1, 22), (22, 80, 0, 58, 1, 25), (25, 2, 0, 0, 2, 26), (26, 40, 0, 10, 0, 29), (29, 40, 0, 7, 0, 32), (32, 70, 0, 0, 0, 33)]
def mX11_undo : gMt := (143, tbX11_undo, [])
set_option maxRecDepth 100000 in
theorem okX11_undo : gOK mX11_undo = true := by decide +kernel
def tbX11_tear : List (Nat × gRI) := [(0, 2, 0, 0, 2, 1), (1, 40, 0, 10, 8, 4), (4, 3, 0, 1, 0, 5), (5, 2, 0, 0, 2, 6), (6, 0, 0, 0, 0, 7), (7, 41, 0, 10, 8, 10), (10, 2, 0, 1, 0, 11), (11, 61, 0, 18, 0, 14), (14, 0, 1, 0, 0, 15), (15, 60, 0, 19, 0, 18), (18, 0, 0, 0, 0, 19), (19, 70, 0, 0, 0, 20)]
def mX11_tear : gMt := (144, tbX11_tear, [])
set_option maxRecDepth 100000 in
theorem okX11_tear : gOK mX11_tear = true := by decide +kernel
def tbX11_count : List (Nat × gRI) := [(0, 2, 0, 1, 0, 1), (1, 64, 0, 115, 8, 48), (48, 2, 0, 0, 2, 49), (49, 40, 0, 10, 0, 52), (52, 40, 0, 7, 0, 55), (55, 70, 0, 0, 0, 56), (56, 2, 0, 0, 2, 57), (57, 40, 0, 10, 0, 60), (60, 40, 0, 7, 2, 63), (63, 70, 0, 0, 0, 64), (64, 2, 0, 0, 2, 65), (65, 40, 0, 10, 0, 68), (68, 40, 0, 7, 3, 71), (71, 70, 0, 0, 0, 72), (72, 2, 0, 0, 2, 73), (73, 40, 0, 10, 0, 76), (76, 40, 0, 7, 1, 79), (79, 70, 0, 0, 0, 80), (80, 2, 0, 0, 2, 81), (81, 40, 0, 10, 5, 84), (84, 40, 0, 8, 0, 87), (87, 70, 0, 0, 0, 88), (88, 2, 0, 0, 2, 89), (89, 40, 0, 10, 0, 92), (92, 40, 0, 7, 9, 95), (95, 40, 0, 9, 0, 98), (98, 70, 0, 0, 0, 99), (99, 2, 0, 0, 2, 100), (100, 40, 0, 10, 0, 103), (103, 80, 0, 67, 0, 106), (106, 70, 0, 0, 0, 107), (107, 2, 0, 0, 2, 108), (108, 40, 0, 10, 0, 111), (111, 80, 0, 68, 0, 114), (114, 70, 0, 0, 0, 115), (115, 2, 0, 0, 2, 116), (116, 0, -1000001, 0, 0, 118), (118, 80, 0, 147, 1, 121), (121, 70, 0, 0, 0, 122)]
def mX11_count : gMt := (145, tbX11_count, [(1, [(0, 48), (1, 56), (2, 64), (3, 72), (4, 80), (5, 88), (6, 99), (7, 107)])])
set_option maxRecDepth 100000 in
theorem okX11_count : gOK mX11_count = true := by decide +kernel
def tbX11_status : List (Nat × gRI) := [(0, 2, 0, 1, 0, 1), (1, 0, -1, 0, 0, 2), (2, 0, 6, 0, 0, 4), (4, 81, 0, 150, 3, 7), (7, 61, 0, 17, 1, 10), (10, 2, 0, 0, 2, 11), (11, 0, -1000001, 0, 0, 13), (13, 80, 0, 147, 1, 16), (16, 70, 0, 0, 0, 17), (17, 2, 0, 1, 0, 18), (18, 61, 0, 28, 2, 21), (21, 2, 0, 0, 2, 22), (22, 40, 0, 10, 7, 25), (25, 2, 0, 1, 0, 26), (26, 43, 0, 0, 0, 27), (27, 70, 0, 0, 0, 28), (28, 0, 0, 0, 0, 29), (29, 3, 0, 2, 0, 30), (30, 0, 0, 0, 0, 31), (31, 3, 0, 3, 0, 32), (32, 2, 0, 3, 0, 33), (33, 0, 7, 0, 0, 35), (35, 62, 0, 53, 3, 38), (38, 2, 0, 2, 0, 39), (39, 2, 0, 0, 2, 40), (40, 40, 0, 10, 7, 43), (43, 2, 0, 3, 0, 44), (44, 43, 0, 0, 0, 45), (45, 10, 0, 0, 0, 46), (46, 3, 0, 2, 0, 47), (47, 5, 1, 3, 0, 50), (50, 60, 0, 32, 0, 53), (53, 2, 0, 2, 0, 54), (54, 70, 0, 0, 0, 55)]
def mX11_status : gMt := (146, tbX11_status, [])
set_option maxRecDepth 100000 in
theorem okX11_status : gOK mX11_status = true := by decide +kernel
def tbX11_finding : List (Nat × gRI) := [(0, 0, -1000001, 0, 0, 2), (2, 2, 0, 1, 0, 3), (3, 11, 0, 0, 0, 4), (4, 3, 0, 2, 0, 5), (5, 2, 0, 2, 0, 6), (6, 61, 0, 25, 2, 9), (9, 2, 0, 2, 0, 10), (10, 0, 7, 0, 0, 12), (12, 62, 0, 25, 3, 15), (15, 2, 0, 0, 2, 16), (16, 40, 0, 10, 7, 19), (19, 2, 0, 2, 0, 20), (20, 7, 0, 0, 0, 21), (21, 43, 0, 0, 0, 22), (22, 0, 1, 0, 0, 23), (23, 10, 0, 0, 0, 24), (24, 48, 0, 0, 0, 25), (25, 2, 0, 1, 0, 26), (26, 70, 0, 0, 0, 27)]
def mX11_finding : gMt := (147, tbX11_finding, [])
set_option maxRecDepth 100000 in
theorem okX11_finding : gOK mX11_finding = true := by decide +kernel
def tbX11_areStays : List (Nat × gRI) := [(0, 0, 0, 0, 0, 1), (1, 3, 0, 2, 0, 2), (2, 2, 0, 2, 0, 3), (3, 0, 2, 0, 0, 4), (4, 10, 0, 0, 0, 5), (5, 2, 0, 1, 2, 6), (6, 40, 0, 6, 1, 9), (9, 62, 0, 68, 3, 12), (12, 2, 0, 0, 2, 13), (13, 40, 0, 10, 0, 16), (16, 2, 0, 1, 2, 17), (17, 40, 0, 6, 2, 20), (20, 2, 0, 2, 0, 21), (21, 43, 0, 0, 0, 22), (22, 80, 0, 59, 1, 25), (25, 61, 0, 54, 0, 28), (28, 2, 0, 1, 2, 29), (29, 40, 0, 6, 2, 32), (32, 2, 0, 2, 0, 33), (33, 0, 1, 0, 0, 34), (34, 10, 0, 0, 0, 35), (35, 43, 0, 0, 0, 36), (36, 2, 0, 1, 2, 37), (37, 40, 0, 6, 2, 40), (40, 2, 0, 2, 0, 41), (41, 0, 2, 0, 0, 42), (42, 10, 0, 0, 0, 43), (43, 43, 0, 0, 0, 44), (44, 81, 0, 151, 2, 47), (47, 61, 0, 54, 0, 50), (50, 0, 1, 0, 0, 51), (51, 60, 0, 55, 0, 54), (54, 0, 0, 0, 0, 55), (55, 3, 0, 3, 0, 56), (56, 2, 0, 3, 0, 57), (57, 61, 0, 62, 1, 60), (60, 0, 0, 0, 0, 61), (61, 70, 0, 0, 1, 62), (62, 5, 3, 2, 0, 65), (65, 60, 0, 2, 0, 68), (68, 0, 1, 0, 0, 69), (69, 70, 0, 0, 1, 70)]
def mX11_areStays : gMt := (148, tbX11_areStays, [])
set_option maxRecDepth 100000 in
theorem okX11_areStays : gOK mX11_areStays = true := by decide +kernel
def tbX11_firstClash : List (Nat × gRI) := [(0, 2, 0, 0, 2, 1), (1, 40, 0, 10, 0, 4), (4, 2, 0, 0, 2, 5), (5, 40, 0, 10, 2, 8), (8, 0, 0, 0, 0, 9), (9, 80, 0, 71, 2, 12), (12, 0, 0, 0, 0, 13), (13, 3, 0, 2, 0, 14), (14, 2, 0, 2, 0, 15), (15, 0, 2, 0, 0, 16), (16, 10, 0, 0, 0, 17), (17, 2, 0, 1, 2, 18), (18, 40, 0, 6, 1, 21), (21, 62, 0, 110, 3, 24), (24, 2, 0, 1, 2, 25), (25, 40, 0, 6, 2, 28), (28, 2, 0, 2, 0, 29), (29, 43, 0, 0, 0, 30), (30, 3, 0, 3, 0, 31), (31, 2, 0, 1, 2, 32), (32, 40, 0, 6, 2, 35), (35, 2, 0, 2, 0, 36), (36, 0, 1, 0, 0, 37), (37, 10, 0, 0, 0, 38), (38, 43, 0, 0, 0, 39), (39, 2, 0, 1, 2, 40), (40, 40, 0, 6, 2, 43), (43, 2, 0, 2, 0, 44), (44, 0, 2, 0, 0, 45), (45, 10, 0, 0, 0, 46), (46, 43, 0, 0, 0, 47), (47, 81, 0, 1, 2, 50), (50, 4, 0, 4, 0, 52), (52, 2, 0, 1, 2, 53), (53, 40, 0, 6, 2, 56), (56, 2, 0, 2, 0, 57), (57, 0, 1, 0, 0, 58), (58, 10, 0, 0, 0, 59), (59, 43, 0, 0, 0, 60), (60, 2, 0, 1, 2, 61), (61, 40, 0, 6, 2, 64), (64, 2, 0, 2, 0, 65), (65, 0, 2, 0, 0, 66), (66, 10, 0, 0, 0, 67), (67, 43, 0, 0, 0, 68), (68, 81, 0, 2, 2, 71), (71, 4, 0, 6, 0, 73), (73, 2, 0, 0, 2, 74), (74, 40, 0, 10, 2, 77), (77, 2, 0, 3, 0, 78), (78, 2, 0, 4, 1, 80), (80, 2, 0, 6, 1, 82), (82, 80, 0, 5, 3, 85), (85, 61, 0, 92, 1, 88), (88, 2, 0, 2, 0, 89), (89, 0, 3, 0, 0, 90), (90, 14, 0, 0, 0, 91), (91, 70, 0, 0, 0, 92), (92, 2, 0, 0, 2, 93), (93, 40, 0, 10, 2, 96), (96, 2, 0, 3, 0, 97), (97, 2, 0, 4, 1, 99), (99, 2, 0, 6, 1, 101), (101, 80, 0, 6, 3, 104), (104, 5, 3, 2, 0, 107), (107, 60, 0, 14, 0, 110), (110, 0, -1, 0, 0, 111), (111, 70, 0, 0, 0, 112)]
def mX11_firstClash : gMt := (149, tbX11_firstClash, [])
set_option maxRecDepth 100000 in
theorem okX11_firstClash : gOK mX11_firstClash = true := by decide +kernel
def tbX11_isIn : List (Nat × gRI) := [(0, 2, 0, 0, 0, 1), (1, 2, 0, 1, 0, 2), (2, 62, 0, 14, 2, 5), (5, 2, 0, 0, 0, 6), (6, 2, 0, 2, 0, 7), (7, 62, 0, 14, 4, 10), (10, 0, 1, 0, 0, 11), (11, 60, 0, 15, 0, 14), (14, 0, 0, 0, 0, 15), (15, 70, 0, 0, 1, 16)]
def mX11_isIn : gMt := (150, tbX11_isIn, [])
set_option maxRecDepth 100000 in
theorem okX11_isIn : gOK mX11_isIn = true := by decide +kernel
def tbX11_isStay : List (Nat × gRI) := [(0, 2, 0, 0, 0, 1), (1, 0, 0, 0, 0, 2), (2, 0, 99, 0, 0, 4), (4, 81, 0, 150, 3, 7), (7, 61, 0, 34, 0, 10), (10, 2, 0, 1, 0, 11), (11, 0, 1, 0, 0, 12), (12, 0, 30, 0, 0, 14), (14, 81, 0, 150, 3, 17), (17, 61, 0, 34, 0, 20), (20, 2, 0, 0, 0, 21), (21, 2, 0, 1, 0, 22), (22, 10, 0, 0, 0, 23), (23, 0, 1, 0, 0, 24), (24, 11, 0, 0, 0, 25), (25, 0, 99, 0, 0, 27), (27, 62, 0, 34, 4, 30), (30, 0, 1, 0, 0, 31), (31, 60, 0, 35, 0, 34), (34, 0, 0, 0, 0, 35), (35, 70, 0, 0, 1, 36)]
def mX11_isStay : gMt := (151, tbX11_isStay, [])
set_option maxRecDepth 100000 in
theorem okX11_isStay : gOK mX11_isStay = true := by decide +kernel
def tbX12_init : List (Nat × gRI) := [(0, 2, 0, 0, 2, 1), (1, 84, 0, 0, 0, 4), (4, 2, 0, 0, 2, 5), (5, 0, 96, 0, 0, 7), (7, 91, 0, 0, 0, 9), (9, 42, 0, 11, 3, 12), (12, 2, 0, 0, 2, 13), (13, 0, 12, 0, 0, 15), (15, 91, 0, 0, 0, 17), (17, 42, 0, 11, 4, 20), (20, 2, 0, 0, 2, 21), (21, 0, 12, 0, 0, 23), (23, 91, 0, 0, 0, 25), (25, 42, 0, 11, 5, 28), (28, 2, 0, 0, 2, 29), (29, 0, 288, 0, 0, 32), (32, 91, 0, 0, 0, 34), (34, 42, 0, 11, 7, 37), (37, 2, 0, 0, 2, 38), (38, 0, 4, 0, 0, 39), (39, 91, 0, 0, 0, 41), (41, 6, 0, 0, 0, 42), (42, 0, 0, 0, 0, 43), (43, 0, 32, 0, 0, 45), (45, 48, 0, 0, 0, 46), (46, 6, 0, 0, 0, 47), (47, 0, 1, 0, 0, 48), (48, 0, 32, 0, 0, 50), (50, 48, 0, 0, 0, 51), (51, 6, 0, 0, 0, 52), (52, 0, 2, 0, 0, 53), (53, 0, 32, 0, 0, 55), (55, 48, 0, 0, 0, 56), (56, 6, 0, 0, 0, 57), (57, 0, 3, 0, 0, 58), (58, 0, 32, 0, 0, 60), (60, 48, 0, 0, 0, 61), (61, 42, 0, 11, 8, 64), (64, 2, 0, 0, 2, 65), (65, 0, 20, 0, 0, 67), (67, 91, 0, 0, 0, 69), (69, 42, 0, 11, 10, 72), (72, 2, 0, 0, 2, 73), (73, 0, 20, 0, 0, 75), (75, 91, 0, 0, 0, 77), (77, 42, 0, 11, 11, 80), (80, 2, 0, 0, 2, 81), (81, 0, 10, 0, 0, 83), (83, 91, 0, 0, 0, 85), (85, 6, 0, 0, 0, 86), (86, 0, 0, 0, 0, 87), (87, 0, -1, 0, 0, 88), (88, 48, 0, 0, 0, 89), (89, 6, 0, 0, 0, 90), (90, 0, 1, 0, 0, 91), (91, 0, -1, 0, 0, 92), (92, 48, 0, 0, 0, 93), (93, 6, 0, 0, 0, 94), (94, 0, 2, 0, 0, 95), (95, 0, -1, 0, 0, 96), (96, 48, 0, 0, 0, 97), (97, 6, 0, 0, 0, 98), (98, 0, 3, 0, 0, 99), (99, 0, -1, 0, 0, 100), (100, 48, 0, 0, 0, 101), (101, 6, 0, 0, 0, 102), (102, 0, 4, 0, 0, 103), (103, 0, -1, 0, 0, 104), (104, 48, 0, 0, 0, 105), (105, 6, 0, 0, 0, 106), (106, 0, 5, 0, 0, 107), (107, 0, -1, 0, 0, 108), (108, 48, 0, 0, 0, 109), (109, 6, 0, 0, 0, 110), (110, 0, 6, 0, 0, 112), (112, 0, -1, 0, 0, 113), (113, 48, 0, 0, 0, 114), (114, 6, 0, 0, 0, 115), (115, 0, 7, 0, 0, 117), (117, 0, -1, 0, 0, 118), (118, 48, 0, 0, 0, 119), (119, 6, 0, 0, 0, 120), (120, 0, 8, 0, 0, 122), (122, 0, -1, 0, 0, 123), (123, 48, 0, 0, 0, 124), (124, 6, 0, 0, 0, 125), (125, 0, 9, 0, 0, 127), (127, 0, -1, 0, 0, 128), (128, 48, 0, 0, 0, 129), (129, 42, 0, 11, 12, 132), (132, 2, 0, 0, 2, 133), (133, 0, 2, 0, 0, 134), (134, 91, 0, 0, 0, 136), (136, 42, 0, 11, 13, 139), (139, 2, 0, 0, 2, 140), (140, 0, 240, 0, 0, 143), (143, 91, 0, 0, 0, 145), (145, 42, 0, 11, 14, 148), (148, 2, 0, 0, 2, 149), (149, 0, 7, 0, 0, 151), (151, 91, 0, 0, 0, 153), (153, 42, 0, 11, 15, 156), (156, 2, 0, 0, 2, 157), (157, 0, 100, 0, 0, 159), (159, 91, 0, 1, 0, 161), (161, 42, 0, 11, 16, 164), (164, 2, 0, 0, 2, 165), (165, 0, 4, 0, 0, 166), (166, 91, 0, 0, 0, 168), (168, 42, 0, 11, 17, 171), (171, 2, 0, 0, 2, 172), (172, 0, 12, 0, 0, 174), (174, 91, 0, 0, 0, 176), (176, 42, 0, 11, 18, 179), (179, 2, 0, 0, 2, 180), (180, 0, 4, 0, 0, 181), (181, 91, 0, 0, 0, 183), (183, 42, 0, 11, 19, 186), (186, 2, 0, 0, 2, 187), (187, 0, 120, 0, 0, 189), (189, 91, 0, 0, 0, 191), (191, 42, 0, 11, 21, 194), (194, 2, 0, 0, 2, 195), (195, 0, 120, 0, 0, 197), (197, 91, 0, 0, 0, 199), (199, 42, 0, 11, 27, 202), (202, 2, 0, 0, 2, 203), (203, 0, 120, 0, 0, 205), (205, 91, 0, 0, 0, 207), (207, 42, 0, 11, 28, 210), (210, 2, 0, 0, 2, 211), (211, 0, 120, 0, 0, 213), (213, 91, 0, 0, 0, 215), (215, 42, 0, 11, 33, 218), (218, 2, 0, 0, 2, 219), (219, 0, 53248, 0, 0, 221), (221, 91, 0, 0, 0, 223), (223, 42, 0, 11, 34, 226), (226, 2, 0, 0, 2, 227), (227, 0, 12, 0, 0, 229), (229, 91, 0, 0, 0, 231), (231, 42, 0, 11, 35, 234), (234, 2, 0, 0, 2, 235), (235, 0, 20, 0, 0, 237), (237, 91, 0, 1, 0, 239), (239, 42, 0, 11, 36, 242), (242, 2, 0, 0, 2, 243), (243, 0, 6, 0, 0, 245), (245, 91, 0, 0, 0, 247), (247, 42, 0, 11, 37, 250), (250, 2, 0, 0, 2, 251), (251, 0, 4, 0, 0, 252), (252, 91, 0, 0, 0, 254), (254, 42, 0, 11, 38, 257), (257, 2, 0, 0, 2, 258), (258, 0, 4, 0, 0, 259), (259, 91, 0, 0, 0, 261), (261, 42, 0, 11, 39, 264), (264, 2, 0, 0, 2, 265), (265, 0, 240, 0, 0, 268), (268, 91, 0, 0, 0, 270), (270, 42, 0, 11, 40, 273), (273, 2, 0, 0, 2, 274), (274, 0, 60, 0, 0, 276), (276, 91, 0, 0, 0, 278), (278, 42, 0, 11, 41, 281), (281, 2, 0, 0, 2, 282), (282, 0, 760, 0, 0, 285), (285, 91, 0, 0, 0, 287), (287, 42, 0, 11, 43, 290), (290, 2, 0, 0, 2, 291), (291, 0, 5, 0, 0, 292), (292, 91, 0, 0, 0, 294), (294, 42, 0, 11, 45, 297), (297, 72, 0, 0, 0, 298)]
def mX12_init : gMt := (152, tbX12_init, [])
set_option maxRecDepth 100000 in
theorem okX12_init : gOK mX12_init = true := by decide +kernel
def tbX12_in : List (Nat × gRI) := [(0, 2, 0, 0, 0, 1), (1, 2, 0, 1, 0, 2), (2, 62, 0, 14, 2, 5), (5, 2, 0, 0, 0, 6), (6, 2, 0, 2, 0, 7), (7, 62, 0, 14, 4, 10), (10, 0, 1, 0, 0, 11), (11, 60, 0, 15, 0, 14), (14, 0, 0, 0, 0, 15), (15, 70, 0, 0, 1, 16)]
def mX12_in : gMt := (153, tbX12_in, [])
set_option maxRecDepth 100000 in
theorem okX12_in : gOK mX12_in = true := by decide +kernel
def tbX12_finds : List (Nat × gRI) := [(0, 2, 0, 0, 2, 1), (1, 40, 0, 11, 15, 4), (4, 2, 0, 1, 0, 5), (5, 7, 0, 0, 0, 6), (6, 43, 0, 0, 0, 7), (7, 0, 1, 0, 0, 8), (8, 10, 0, 0, 0, 9), (9, 48, 0, 0, 0, 10), (10, 0, -1000001, 0, 0, 12), (12, 2, 0, 1, 0, 13), (13, 11, 0, 0, 0, 14), (14, 70, 0, 0, 0, 15)]
def mX12_finds : gMt := (154, tbX12_finds, [])
set_option maxRecDepth 100000 in
theorem okX12_finds : gOK mX12_finds = true := by decide +kernel
def tbX12_isPitch : List (Nat × gRI) := [(0, 2, 0, 1, 0, 1), (1, 0, 0, 0, 0, 2), (2, 2, 0, 0, 2, 3), (3, 40, 0, 11, 2, 6), (6, 0, 1, 0, 0, 7), (7, 11, 0, 0, 0, 8), (8, 81, 0, 153, 3, 11), (11, 70, 0, 0, 1, 12)]
def mX12_isPitch : gMt := (155, tbX12_isPitch, [])
set_option maxRecDepth 100000 in
theorem okX12_isPitch : gOK mX12_isPitch = true := by decide +kernel
def tbX12_isParty : List (Nat × gRI) := [(0, 2, 0, 1, 0, 1), (1, 0, 0, 0, 0, 2), (2, 2, 0, 0, 2, 3), (3, 40, 0, 11, 6, 6), (6, 0, 1, 0, 0, 7), (7, 11, 0, 0, 0, 8), (8, 81, 0, 153, 3, 11), (11, 70, 0, 0, 1, 12)]
def mX12_isParty : gMt := (156, tbX12_isParty, [])
set_option maxRecDepth 100000 in
theorem okX12_isParty : gOK mX12_isParty = true := by decide +kernel
def tbX12_isNight : List (Nat × gRI) := [(0, 2, 0, 0, 0, 1), (1, 0, 0, 0, 0, 2), (2, 0, 99, 0, 0, 4), (4, 81, 0, 153, 3, 7), (7, 70, 0, 0, 1, 8)]
def mX12_isNight : gMt := (157, tbX12_isNight, [])
set_option maxRecDepth 100000 in
theorem okX12_isNight : gOK mX12_isNight = true := by decide +kernel
def tbX12_pitch : List (Nat × gRI) := [(0, 2, 0, 1, 0, 1), (1, 0, 0, 0, 0, 2), (2, 0, 9999, 0, 0, 5), (5, 81, 0, 153, 3, 8), (8, 61, 0, 94, 0, 11), (11, 2, 0, 2, 0, 12), (12, 61, 0, 94, 2, 15), (15, 2, 0, 2, 0, 16), (16, 0, 100, 0, 0, 18), (18, 14, 0, 0, 0, 19), (19, 0, 1, 0, 0, 20), (20, 0, 30, 0, 0, 22), (22, 81, 0, 153, 3, 25), (25, 61, 0, 94, 0, 28), (28, 2, 0, 3, 0, 29), (29, 61, 0, 94, 2, 32), (32, 2, 0, 3, 0, 33), (33, 0, 100, 0, 0, 35), (35, 14, 0, 0, 0, 36), (36, 0, 0, 0, 0, 37), (37, 0, 9, 0, 0, 39), (39, 81, 0, 153, 3, 42), (42, 61, 0, 94, 0, 45), (45, 2, 0, 3, 0, 46), (46, 0, 100, 0, 0, 48), (48, 15, 0, 0, 0, 49), (49, 0, 0, 0, 0, 50), (50, 0, 32, 0, 0, 52), (52, 81, 0, 153, 3, 55), (55, 61, 0, 94, 0, 58), (58, 2, 0, 4, 0, 60), (60, 61, 0, 94, 2, 63), (63, 2, 0, 4, 0, 65), (65, 0, 10, 0, 0, 67), (67, 14, 0, 0, 0, 68), (68, 0, 0, 0, 0, 69), (69, 0, 7, 0, 0, 71), (71, 81, 0, 153, 3, 74), (74, 61, 0, 94, 0, 77), (77, 2, 0, 4, 0, 79), (79, 0, 10, 0, 0, 81), (81, 15, 0, 0, 0, 82), (82, 0, 0, 0, 0, 83), (83, 0, 3, 0, 0, 84), (84, 81, 0, 153, 3, 87), (87, 61, 0, 94, 0, 90), (90, 0, 1, 0, 0, 91), (91, 60, 0, 95, 0, 94), (94, 0, 0, 0, 0, 95), (95, 3, 0, 5, 0, 97), (97, 2, 0, 5, 0, 99), (99, 61, 0, 108, 1, 102), (102, 2, 0, 0, 2, 103), (103, 0, 0, 0, 0, 104), (104, 80, 0, 154, 1, 107), (107, 70, 0, 0, 0, 108), (108, 2, 0, 0, 2, 109), (109, 40, 0, 11, 2, 112), (112, 0, 12, 0, 0, 114), (114, 62, 0, 123, 1, 117), (117, 2, 0, 0, 2, 118), (118, 0, 1, 0, 0, 119), (119, 80, 0, 154, 1, 122), (122, 70, 0, 0, 0, 123), (123, 0, 8, 0, 0, 125), (125, 2, 0, 0, 2, 126), (126, 40, 0, 11, 2, 129), (129, 12, 0, 0, 0, 130), (130, 3, 0, 6, 0, 132), (132, 2, 0, 0, 2, 133), (133, 40, 0, 11, 3, 136), (136, 2, 0, 6, 0, 138), (138, 2, 0, 1, 0, 139), (139, 0, 100, 0, 0, 141), (141, 14, 0, 0, 0, 142), (142, 48, 0, 0, 0, 143), (143, 2, 0, 0, 2, 144), (144, 40, 0, 11, 3, 147), (147, 2, 0, 6, 0, 149), (149, 0, 1, 0, 0, 150), (150, 10, 0, 0, 0, 151), (151, 2, 0, 1, 0, 152), (152, 0, 100, 0, 0, 154), (154, 15, 0, 0, 0, 155), (155, 48, 0, 0, 0, 156), (156, 2, 0, 0, 2, 157), (157, 40, 0, 11, 3, 160), (160, 2, 0, 6, 0, 162), (162, 0, 2, 0, 0, 163), (163, 10, 0, 0, 0, 164), (164, 2, 0, 2, 0, 165), (165, 0, 100, 0, 0, 167), (167, 14, 0, 0, 0, 168), (168, 48, 0, 0, 0, 169), (169, 2, 0, 0, 2, 170), (170, 40, 0, 11, 3, 173), (173, 2, 0, 6, 0, 175), (175, 0, 3, 0, 0, 176), (176, 10, 0, 0, 0, 177), (177, 2, 0, 2, 0, 178), (178, 0, 100, 0, 0, 180), (180, 15, 0, 0, 0, 181), (181, 48, 0, 0, 0, 182), (182, 2, 0, 0, 2, 183), (183, 40, 0, 11, 3, 186), (186, 2, 0, 6, 0, 188), (188, 0, 4, 0, 0, 189), (189, 10, 0, 0, 0, 190), (190, 2, 0, 3, 0, 191), (191, 0, 100, 0, 0, 193), (193, 14, 0, 0, 0, 194), (194, 48, 0, 0, 0, 195), (195, 2, 0, 0, 2, 196), (196, 40, 0, 11, 3, 199), (199, 2, 0, 6, 0, 201), (201, 0, 5, 0, 0, 202), (202, 10, 0, 0, 0, 203), (203, 2, 0, 3, 0, 204), (204, 0, 100, 0, 0, 206), (206, 15, 0, 0, 0, 207), (207, 48, 0, 0, 0, 208), (208, 2, 0, 0, 2, 209), (209, 40, 0, 11, 3, 212), (212, 2, 0, 6, 0, 214), (214, 0, 6, 0, 0, 216), (216, 10, 0, 0, 0, 217), (217, 2, 0, 4, 0, 219), (219, 0, 10, 0, 0, 221), (221, 14, 0, 0, 0, 222), (222, 48, 0, 0, 0, 223), (223, 2, 0, 0, 2, 224), (224, 40, 0, 11, 3, 227), (227, 2, 0, 6, 0, 229), (229, 0, 7, 0, 0, 231), (231, 10, 0, 0, 0, 232), (232, 2, 0, 4, 0, 234), (234, 0, 10, 0, 0, 236), (236, 15, 0, 0, 0, 237), (237, 48, 0, 0, 0, 238), (238, 2, 0, 0, 2, 239), (239, 40, 0, 11, 4, 242), (242, 2, 0, 0, 2, 243), (243, 40, 0, 11, 2, 246), (246, 0, 0, 0, 0, 247), (247, 48, 0, 0, 0, 248), (248, 2, 0, 0, 2, 249), (249, 40, 0, 11, 5, 252), (252, 2, 0, 0, 2, 253), (253, 40, 0, 11, 2, 256), (256, 0, 0, 0, 0, 257), (257, 48, 0, 0, 0, 258), (258, 2, 0, 0, 2, 259), (259, 6, 0, 0, 0, 260), (260, 40, 0, 11, 2, 263), (263, 0, 1, 0, 0, 264), (264, 10, 0, 0, 0, 265), (265, 41, 0, 11, 2, 268), (268, 2, 0, 0, 2, 269), (269, 40, 0, 11, 2, 272), (272, 0, 1, 0, 0, 273), (273, 11, 0, 0, 0, 274), (274, 70, 0, 0, 0, 275)]
def mX12_pitch : gMt := (158, tbX12_pitch, [])
set_option maxRecDepth 100000 in
theorem okX12_pitch : gOK mX12_pitch = true := by decide +kernel
def tbX12_pitchOf : List (Nat × gRI) := [(0, 2, 0, 0, 2, 1), (1, 2, 0, 1, 0, 2), (2, 80, 0, 155, 1, 5), (5, 61, 0, 32, 0, 8), (8, 2, 0, 2, 0, 9), (9, 0, 0, 0, 0, 10), (10, 0, 7, 0, 0, 12), (12, 81, 0, 153, 3, 15), (15, 61, 0, 32, 0, 18), (18, 2, 0, 0, 2, 19), (19, 40, 0, 11, 3, 22), (22, 0, 8, 0, 0, 24), (24, 2, 0, 1, 0, 25), (25, 12, 0, 0, 0, 26), (26, 2, 0, 2, 0, 27), (27, 10, 0, 0, 0, 28), (28, 43, 0, 0, 0, 29), (29, 60, 0, 37, 0, 32), (32, 2, 0, 0, 2, 33), (33, 0, 0, 0, 0, 34), (34, 80, 0, 154, 1, 37), (37, 70, 0, 0, 0, 38)]
def mX12_pitchOf : gMt := (159, tbX12_pitchOf, [])
set_option maxRecDepth 100000 in
theorem okX12_pitchOf : gOK mX12_pitchOf = true := by decide +kernel
def tbX12_shade : List (Nat × gRI) := [(0, 2, 0, 0, 2, 1), (1, 2, 0, 1, 0, 2), (2, 80, 0, 155, 1, 5), (5, 61, 0, 18, 0, 8), (8, 2, 0, 2, 0, 9), (9, 0, 0, 0, 0, 10), (10, 0, 9, 0, 0, 12), (12, 81, 0, 153, 3, 15), (15, 61, 0, 24, 1, 18), (18, 2, 0, 0, 2, 19), (19, 0, 0, 0, 0, 20), (20, 80, 0, 154, 1, 23), (23, 70, 0, 0, 0, 24), (24, 2, 0, 0, 2, 25), (25, 40, 0, 11, 3, 28), (28, 0, 8, 0, 0, 30), (30, 2, 0, 1, 0, 31), (31, 12, 0, 0, 0, 32), (32, 0, 4, 0, 0, 33), (33, 10, 0, 0, 0, 34), (34, 43, 0, 0, 0, 35), (35, 3, 0, 3, 0, 36), (36, 2, 0, 0, 2, 37), (37, 40, 0, 11, 3, 40), (40, 0, 8, 0, 0, 42), (42, 2, 0, 1, 0, 43), (43, 12, 0, 0, 0, 44), (44, 0, 4, 0, 0, 45), (45, 10, 0, 0, 0, 46), (46, 2, 0, 2, 0, 47), (47, 48, 0, 0, 0, 48), (48, 2, 0, 3, 0, 49), (49, 70, 0, 0, 0, 50)]
def mX12_shade : gMt := (160, tbX12_shade, [])
set_option maxRecDepth 100000 in
theorem okX12_shade : gOK mX12_shade = true := by decide +kernel
def tbX12_size : List (Nat × gRI) := [(0, 2, 0, 0, 0, 1), (1, 61, 0, 9, 3, 4), (4, 2, 0, 0, 0, 5), (5, 13, 0, 0, 0, 6), (6, 60, 0, 10, 0, 9), (9, 2, 0, 0, 0, 10), (10, 70, 0, 0, 0, 11)]
def mX12_size : gMt := (161, tbX12_size, [])
set_option maxRecDepth 100000 in
theorem okX12_size : gOK mX12_size = true := by decide +kernel
def tbX12_farOf : List (Nat × gRI) := [(0, 2, 0, 0, 2, 1), (1, 40, 0, 11, 3, 4), (4, 0, 8, 0, 0, 6), (6, 2, 0, 1, 0, 7), (7, 12, 0, 0, 0, 8), (8, 43, 0, 0, 0, 9), (9, 2, 0, 0, 2, 10), (10, 40, 0, 11, 3, 13), (13, 0, 8, 0, 0, 15), (15, 2, 0, 2, 0, 16), (16, 12, 0, 0, 0, 17), (17, 43, 0, 0, 0, 18), (18, 11, 0, 0, 0, 19), (19, 81, 0, 161, 1, 22), (22, 2, 0, 0, 2, 23), (23, 40, 0, 11, 3, 26), (26, 0, 8, 0, 0, 28), (28, 2, 0, 1, 0, 29), (29, 12, 0, 0, 0, 30), (30, 0, 1, 0, 0, 31), (31, 10, 0, 0, 0, 32), (32, 43, 0, 0, 0, 33), (33, 2, 0, 0, 2, 34), (34, 40, 0, 11, 3, 37), (37, 0, 8, 0, 0, 39), (39, 2, 0, 2, 0, 40), (40, 12, 0, 0, 0, 41), (41, 0, 1, 0, 0, 42), (42, 10, 0, 0, 0, 43), (43, 43, 0, 0, 0, 44), (44, 11, 0, 0, 0, 45), (45, 81, 0, 161, 1, 48), (48, 10, 0, 0, 0, 49), (49, 70, 0, 0, 0, 50)]
def mX12_farOf : gMt := (162, tbX12_farOf, [])
set_option maxRecDepth 100000 in
theorem okX12_farOf : gOK mX12_farOf = true := by decide +kernel
def tbX12_far : List (Nat × gRI) := [(0, 2, 0, 0, 2, 1), (1, 2, 0, 1, 0, 2), (2, 80, 0, 155, 1, 5), (5, 61, 0, 25, 0, 8), (8, 2, 0, 0, 2, 9), (9, 2, 0, 2, 0, 10), (10, 80, 0, 155, 1, 13), (13, 61, 0, 25, 0, 16), (16, 2, 0, 0, 2, 17), (17, 2, 0, 1, 0, 18), (18, 2, 0, 2, 0, 19), (19, 80, 0, 162, 2, 22), (22, 60, 0, 30, 0, 25), (25, 2, 0, 0, 2, 26), (26, 0, 0, 0, 0, 27), (27, 80, 0, 154, 1, 30), (30, 70, 0, 0, 0, 31)]
def mX12_far : gMt := (163, tbX12_far, [])
set_option maxRecDepth 100000 in
theorem okX12_far : gOK mX12_far = true := by decide +kernel
def tbX12_party : List (Nat × gRI) := [(0, 2, 0, 1, 0, 1), (1, 0, 0, 0, 0, 2), (2, 0, 4, 0, 0, 3), (3, 81, 0, 153, 3, 6), (6, 61, 0, 58, 0, 9), (9, 2, 0, 2, 0, 10), (10, 61, 0, 58, 2, 13), (13, 2, 0, 2, 0, 14), (14, 0, 100, 0, 0, 16), (16, 14, 0, 0, 0, 17), (17, 0, 1, 0, 0, 18), (18, 0, 30, 0, 0, 20), (20, 81, 0, 153, 3, 23), (23, 61, 0, 58, 0, 26), (26, 2, 0, 2, 0, 27), (27, 0, 100, 0, 0, 29), (29, 15, 0, 0, 0, 30), (30, 0, 0, 0, 0, 31), (31, 0, 32, 0, 0, 33), (33, 81, 0, 153, 3, 36), (36, 61, 0, 58, 0, 39), (39, 2, 0, 3, 0, 40), (40, 0, 0, 0, 0, 41), (41, 0, 7, 0, 0, 43), (43, 81, 0, 153, 3, 46), (46, 61, 0, 58, 0, 49), (49, 2, 0, 4, 0, 51), (51, 61, 0, 58, 2, 54), (54, 0, 1, 0, 0, 55), (55, 60, 0, 59, 0, 58), (58, 0, 0, 0, 0, 59), (59, 3, 0, 5, 0, 61), (61, 2, 0, 5, 0, 63), (63, 61, 0, 117, 0, 66), (66, 2, 0, 4, 0, 68), (68, 0, 100, 0, 0, 70), (70, 14, 0, 0, 0, 71), (71, 2, 0, 0, 2, 72), (72, 40, 0, 11, 0, 75), (75, 0, 99, 0, 0, 77), (77, 81, 0, 153, 3, 80), (80, 61, 0, 117, 0, 83), (83, 2, 0, 4, 0, 85), (85, 0, 100, 0, 0, 87), (87, 15, 0, 0, 0, 88), (88, 0, 1, 0, 0, 89), (89, 0, 30, 0, 0, 91), (91, 81, 0, 153, 3, 94), (94, 61, 0, 117, 0, 97), (97, 2, 0, 4, 0, 99), (99, 0, 100, 0, 0, 101), (101, 14, 0, 0, 0, 102), (102, 2, 0, 4, 0, 104), (104, 0, 100, 0, 0, 106), (106, 15, 0, 0, 0, 107), (107, 10, 0, 0, 0, 108), (108, 0, 100, 0, 0, 110), (110, 62, 0, 117, 4, 113), (113, 0, 1, 0, 0, 114), (114, 60, 0, 118, 0, 117), (117, 0, 0, 0, 0, 118), (118, 3, 0, 5, 0, 120), (120, 2, 0, 5, 0, 122), (122, 61, 0, 131, 1, 125), (125, 2, 0, 0, 2, 126), (126, 0, 0, 0, 0, 127), (127, 80, 0, 154, 1, 130), (130, 70, 0, 0, 0, 131), (131, 2, 0, 0, 2, 132), (132, 40, 0, 11, 6, 135), (135, 0, 24, 0, 0, 137), (137, 62, 0, 146, 1, 140), (140, 2, 0, 0, 2, 141), (141, 0, 1, 0, 0, 142), (142, 80, 0, 154, 1, 145), (145, 70, 0, 0, 0, 146), (146, 0, 12, 0, 0, 148), (148, 2, 0, 0, 2, 149), (149, 40, 0, 11, 6, 152), (152, 12, 0, 0, 0, 153), (153, 3, 0, 6, 0, 155), (155, 2, 0, 0, 2, 156), (156, 40, 0, 11, 7, 159), (159, 2, 0, 6, 0, 161), (161, 2, 0, 1, 0, 162), (162, 48, 0, 0, 0, 163), (163, 2, 0, 0, 2, 164), (164, 40, 0, 11, 7, 167), (167, 2, 0, 6, 0, 169), (169, 0, 1, 0, 0, 170), (170, 10, 0, 0, 0, 171), (171, 2, 0, 2, 0, 172), (172, 0, 100, 0, 0, 174), (174, 14, 0, 0, 0, 175), (175, 48, 0, 0, 0, 176), (176, 2, 0, 0, 2, 177), (177, 40, 0, 11, 7, 180), (180, 2, 0, 6, 0, 182), (182, 0, 2, 0, 0, 183), (183, 10, 0, 0, 0, 184), (184, 2, 0, 2, 0, 185), (185, 0, 100, 0, 0, 187), (187, 15, 0, 0, 0, 188), (188, 48, 0, 0, 0, 189), (189, 2, 0, 0, 2, 190), (190, 40, 0, 11, 7, 193), (193, 2, 0, 6, 0, 195), (195, 0, 3, 0, 0, 196), (196, 10, 0, 0, 0, 197), (197, 2, 0, 3, 0, 198), (198, 48, 0, 0, 0, 199), (199, 2, 0, 0, 2, 200), (200, 40, 0, 11, 7, 203), (203, 2, 0, 6, 0, 205), (205, 0, 4, 0, 0, 206), (206, 10, 0, 0, 0, 207), (207, 2, 0, 4, 0, 209), (209, 0, 100, 0, 0, 211), (211, 14, 0, 0, 0, 212), (212, 48, 0, 0, 0, 213), (213, 2, 0, 0, 2, 214), (214, 40, 0, 11, 7, 217), (217, 2, 0, 6, 0, 219), (219, 0, 5, 0, 0, 220), (220, 10, 0, 0, 0, 221), (221, 2, 0, 4, 0, 223), (223, 0, 100, 0, 0, 225), (225, 15, 0, 0, 0, 226), (226, 48, 0, 0, 0, 227), (227, 2, 0, 0, 2, 228), (228, 40, 0, 11, 7, 231), (231, 2, 0, 6, 0, 233), (233, 0, 6, 0, 0, 235), (235, 10, 0, 0, 0, 236), (236, 0, -1, 0, 0, 237), (237, 48, 0, 0, 0, 238), (238, 2, 0, 0, 2, 239), (239, 40, 0, 11, 7, 242), (242, 2, 0, 6, 0, 244), (244, 0, 7, 0, 0, 246), (246, 10, 0, 0, 0, 247), (247, 0, -1, 0, 0, 248), (248, 48, 0, 0, 0, 249), (249, 2, 0, 0, 2, 250), (250, 40, 0, 11, 7, 253), (253, 2, 0, 6, 0, 255), (255, 0, 8, 0, 0, 257), (257, 10, 0, 0, 0, 258), (258, 0, -1, 0, 0, 259), (259, 48, 0, 0, 0, 260), (260, 2, 0, 0, 2, 261), (261, 40, 0, 11, 7, 264), (264, 2, 0, 6, 0, 266), (266, 0, 9, 0, 0, 268), (268, 10, 0, 0, 0, 269), (269, 0, 0, 0, 0, 270), (270, 48, 0, 0, 0, 271), (271, 2, 0, 0, 2, 272), (272, 40, 0, 11, 7, 275), (275, 2, 0, 6, 0, 277), (277, 0, 10, 0, 0, 279), (279, 10, 0, 0, 0, 280), (280, 0, 0, 0, 0, 281), (281, 48, 0, 0, 0, 282), (282, 2, 0, 0, 2, 283), (283, 40, 0, 11, 7, 286), (286, 2, 0, 6, 0, 288), (288, 0, 11, 0, 0, 290), (290, 10, 0, 0, 0, 291), (291, 0, 0, 0, 0, 292), (292, 48, 0, 0, 0, 293), (293, 2, 0, 0, 2, 294), (294, 6, 0, 0, 0, 295), (295, 40, 0, 11, 6, 298), (298, 0, 1, 0, 0, 299), (299, 10, 0, 0, 0, 300), (300, 41, 0, 11, 6, 303), (303, 2, 0, 0, 2, 304), (304, 40, 0, 11, 6, 307), (307, 0, 1, 0, 0, 308), (308, 11, 0, 0, 0, 309), (309, 70, 0, 0, 0, 310)]
def mX12_party : gMt := (164, tbX12_party, [])
set_option maxRecDepth 100000 in
theorem okX12_party : gOK mX12_party = true := by decide +kernel
def tbX12_of : List (Nat × gRI) := [(0, 2, 0, 0, 2, 1), (1, 40, 0, 11, 7, 4), (4, 0, 12, 0, 0, 6), (6, 2, 0, 1, 0, 7), (7, 12, 0, 0, 0, 8), (8, 2, 0, 2, 0, 9), (9, 10, 0, 0, 0, 10), (10, 43, 0, 0, 0, 11), (11, 70, 0, 0, 0, 12)]
def mX12_of : gMt := (165, tbX12_of, [])
set_option maxRecDepth 100000 in
theorem okX12_of : gOK mX12_of = true := by decide +kernel
def tbX12_hasCome : List (Nat × gRI) := [(0, 2, 0, 0, 2, 1), (1, 2, 0, 1, 0, 2), (2, 0, 4, 0, 0, 3), (3, 80, 0, 165, 2, 6), (6, 2, 0, 0, 2, 7), (7, 40, 0, 11, 0, 10), (10, 62, 0, 17, 4, 13), (13, 0, 1, 0, 0, 14), (14, 60, 0, 18, 0, 17), (17, 0, 0, 0, 0, 18), (18, 70, 0, 0, 1, 19)]
def mX12_hasCome : gMt := (166, tbX12_hasCome, [])
set_option maxRecDepth 100000 in
theorem okX12_hasCome : gOK mX12_hasCome = true := by decide +kernel
def tbX12_partyOf : List (Nat × gRI) := [(0, 2, 0, 0, 2, 1), (1, 2, 0, 1, 0, 2), (2, 80, 0, 156, 1, 5), (5, 61, 0, 18, 0, 8), (8, 2, 0, 2, 0, 9), (9, 0, 0, 0, 0, 10), (10, 0, 9, 0, 0, 12), (12, 81, 0, 153, 3, 15), (15, 61, 0, 24, 1, 18), (18, 2, 0, 0, 2, 19), (19, 0, 0, 0, 0, 20), (20, 80, 0, 154, 1, 23), (23, 70, 0, 0, 0, 24), (24, 2, 0, 2, 0, 25), (25, 0, 9, 0, 0, 27), (27, 62, 0, 46, 1, 30), (30, 2, 0, 0, 2, 31), (31, 2, 0, 1, 0, 32), (32, 80, 0, 166, 1, 35), (35, 61, 0, 42, 0, 38), (38, 0, 1, 0, 0, 39), (39, 60, 0, 52, 0, 42), (42, 0, 0, 0, 0, 43), (43, 60, 0, 52, 0, 46), (46, 2, 0, 0, 2, 47), (47, 2, 0, 1, 0, 48), (48, 2, 0, 2, 0, 49), (49, 80, 0, 165, 2, 52), (52, 70, 0, 0, 0, 53)]
def mX12_partyOf : gMt := (167, tbX12_partyOf, [])
set_option maxRecDepth 100000 in
theorem okX12_partyOf : gOK mX12_partyOf = true := by decide +kernel
def tbX12_lacks : List (Nat × gRI) := [(0, 2, 0, 0, 2, 1), (1, 2, 0, 1, 0, 2), (2, 0, 3, 0, 0, 3), (3, 80, 0, 165, 2, 6), (6, 2, 0, 3, 0, 7), (7, 16, 0, 0, 0, 8), (8, 61, 0, 32, 0, 11), (11, 2, 0, 0, 2, 12), (12, 40, 0, 11, 3, 15), (15, 0, 8, 0, 0, 17), (17, 2, 0, 2, 0, 18), (18, 12, 0, 0, 0, 19), (19, 0, 6, 0, 0, 21), (21, 10, 0, 0, 0, 22), (22, 43, 0, 0, 0, 23), (23, 2, 0, 3, 0, 24), (24, 16, 0, 0, 0, 25), (25, 61, 0, 32, 1, 28), (28, 0, 1, 0, 0, 29), (29, 60, 0, 33, 0, 32), (32, 0, 0, 0, 0, 33), (33, 70, 0, 0, 1, 34)]
def mX12_lacks : gMt := (168, tbX12_lacks, [])
set_option maxRecDepth 100000 in
theorem okX12_lacks : gOK mX12_lacks = true := by decide +kernel
def tbX12_whyNot : List (Nat × gRI) := [(0, 2, 0, 0, 2, 1), (1, 2, 0, 1, 0, 2), (2, 0, 0, 0, 0, 3), (3, 80, 0, 165, 2, 6), (6, 3, 0, 3, 0, 7), (7, 0, 8, 0, 0, 9), (9, 2, 0, 2, 0, 10), (10, 12, 0, 0, 0, 11), (11, 3, 0, 4, 0, 13), (13, 2, 0, 0, 2, 14), (14, 2, 0, 1, 0, 15), (15, 0, 1, 0, 0, 16), (16, 80, 0, 165, 2, 19), (19, 2, 0, 0, 2, 20), (20, 40, 0, 11, 3, 23), (23, 2, 0, 4, 0, 25), (25, 0, 2, 0, 0, 26), (26, 10, 0, 0, 0, 27), (27, 43, 0, 0, 0, 28), (28, 62, 0, 33, 5, 31), (31, 0, 1, 0, 0, 32), (32, 70, 0, 0, 0, 33), (33, 2, 0, 0, 2, 34), (34, 2, 0, 1, 0, 35), (35, 2, 0, 2, 0, 36), (36, 0, 1, 0, 0, 37), (37, 80, 0, 168, 3, 40), (40, 61, 0, 45, 0, 43), (43, 0, 2, 0, 0, 44), (44, 70, 0, 0, 0, 45), (45, 2, 0, 0, 2, 46), (46, 2, 0, 1, 0, 47), (47, 2, 0, 2, 0, 48), (48, 0, 2, 0, 0, 49), (49, 80, 0, 168, 3, 52), (52, 61, 0, 57, 0, 55), (55, 0, 3, 0, 0, 56), (56, 70, 0, 0, 0, 57), (57, 2, 0, 3, 0, 58), (58, 0, 1, 0, 0, 59), (59, 62, 0, 82, 1, 62), (62, 2, 0, 0, 2, 63), (63, 40, 0, 11, 3, 66), (66, 2, 0, 4, 0, 68), (68, 0, 4, 0, 0, 69), (69, 10, 0, 0, 0, 70), (70, 43, 0, 0, 0, 71), (71, 0, 6, 0, 0, 73), (73, 62, 0, 80, 5, 76), (76, 0, 4, 0, 0, 77), (77, 60, 0, 81, 0, 80), (80, 0, 0, 0, 0, 81), (81, 70, 0, 0, 0, 82), (82, 2, 0, 3, 0, 83), (83, 61, 0, 88, 1, 86), (86, 0, 0, 0, 0, 87), (87, 70, 0, 0, 0, 88), (88, 2, 0, 0, 2, 89), (89, 2, 0, 1, 0, 90), (90, 0, 2, 0, 0, 91), (91, 80, 0, 165, 2, 94), (94, 2, 0, 0, 2, 95), (95, 40, 0, 11, 3, 98), (98, 2, 0, 4, 0, 100), (100, 0, 5, 0, 0, 101), (101, 10, 0, 0, 0, 102), (102, 43, 0, 0, 0, 103), (103, 62, 0, 108, 5, 106), (106, 0, 5, 0, 0, 107), (107, 70, 0, 0, 0, 108), (108, 2, 0, 0, 2, 109), (109, 2, 0, 1, 0, 110), (110, 2, 0, 2, 0, 111), (111, 0, 4, 0, 0, 112), (112, 80, 0, 168, 3, 115), (115, 61, 0, 138, 1, 118), (118, 2, 0, 3, 0, 119), (119, 0, 4, 0, 0, 120), (120, 62, 0, 141, 1, 123), (123, 2, 0, 0, 2, 124), (124, 40, 0, 11, 3, 127), (127, 2, 0, 4, 0, 129), (129, 0, 6, 0, 0, 131), (131, 10, 0, 0, 0, 132), (132, 43, 0, 0, 0, 133), (133, 0, 4, 0, 0, 134), (134, 16, 0, 0, 0, 135), (135, 61, 0, 141, 1, 138), (138, 0, 6, 0, 0, 140), (140, 70, 0, 0, 0, 141), (141, 2, 0, 3, 0, 142), (142, 0, 3, 0, 0, 143), (143, 62, 0, 171, 1, 146), (146, 2, 0, 0, 2, 147), (147, 2, 0, 1, 0, 148), (148, 0, 1, 0, 0, 149), (149, 80, 0, 165, 2, 152), (152, 0, 3, 0, 0, 153), (153, 10, 0, 0, 0, 154), (154, 2, 0, 0, 2, 155), (155, 40, 0, 11, 3, 158), (158, 2, 0, 4, 0, 160), (160, 0, 2, 0, 0, 161), (161, 10, 0, 0, 0, 162), (162, 43, 0, 0, 0, 163), (163, 62, 0, 171, 5, 166), (166, 0, 7, 0, 0, 168), (168, 60, 0, 172, 0, 171), (171, 0, 0, 0, 0, 172), (172, 70, 0, 0, 0, 173)]
def mX12_whyNot : gMt := (169, tbX12_whyNot, [])
set_option maxRecDepth 100000 in
theorem okX12_whyNot : gOK mX12_whyNot = true := by decide +kernel
def tbX12_why : List (Nat × gRI) := [(0, 2, 0, 0, 2, 1), (1, 2, 0, 1, 0, 2), (2, 80, 0, 156, 1, 5), (5, 61, 0, 25, 0, 8), (8, 2, 0, 0, 2, 9), (9, 2, 0, 2, 0, 10), (10, 80, 0, 155, 1, 13), (13, 61, 0, 25, 0, 16), (16, 2, 0, 0, 2, 17), (17, 2, 0, 1, 0, 18), (18, 2, 0, 2, 0, 19), (19, 80, 0, 169, 2, 22), (22, 60, 0, 30, 0, 25), (25, 2, 0, 0, 2, 26), (26, 0, 0, 0, 0, 27), (27, 80, 0, 154, 1, 30), (30, 70, 0, 0, 0, 31)]
def mX12_why : gMt := (170, tbX12_why, [])
set_option maxRecDepth 100000 in
theorem okX12_why : gOK mX12_why = true := by decide +kernel
def tbX12_near : List (Nat × gRI) := [(0, 2, 0, 0, 2, 1), (1, 2, 0, 1, 0, 2), (2, 80, 0, 156, 1, 5), (5, 61, 0, 26, 0, 8), (8, 2, 0, 2, 0, 9), (9, 0, -1, 0, 0, 10), (10, 62, 0, 21, 0, 13), (13, 2, 0, 0, 2, 14), (14, 2, 0, 2, 0, 15), (15, 80, 0, 156, 1, 18), (18, 61, 0, 26, 0, 21), (21, 2, 0, 1, 0, 22), (22, 2, 0, 2, 0, 23), (23, 62, 0, 32, 1, 26), (26, 2, 0, 0, 2, 27), (27, 0, 0, 0, 0, 28), (28, 80, 0, 154, 1, 31), (31, 70, 0, 0, 0, 32), (32, 2, 0, 0, 2, 33), (33, 2, 0, 1, 0, 34), (34, 0, 7, 0, 0, 36), (36, 80, 0, 165, 2, 39), (39, 3, 0, 3, 0, 40), (40, 2, 0, 0, 2, 41), (41, 40, 0, 11, 7, 44), (44, 0, 12, 0, 0, 46), (46, 2, 0, 1, 0, 47), (47, 12, 0, 0, 0, 48), (48, 0, 7, 0, 0, 50), (50, 10, 0, 0, 0, 51), (51, 2, 0, 2, 0, 52), (52, 48, 0, 0, 0, 53), (53, 2, 0, 3, 0, 54), (54, 70, 0, 0, 0, 55)]
def mX12_near : gMt := (171, tbX12_near, [])
set_option maxRecDepth 100000 in
theorem okX12_near : gOK mX12_near = true := by decide +kernel
def tbX12_staysIn : List (Nat × gRI) := [(0, 2, 0, 2, 0, 1), (1, 2, 0, 0, 2, 2), (2, 2, 0, 1, 0, 3), (3, 0, 4, 0, 0, 4), (4, 80, 0, 165, 2, 7), (7, 62, 0, 31, 2, 10), (10, 2, 0, 2, 0, 11), (11, 2, 0, 0, 2, 12), (12, 2, 0, 1, 0, 13), (13, 0, 4, 0, 0, 14), (14, 80, 0, 165, 2, 17), (17, 2, 0, 0, 2, 18), (18, 2, 0, 1, 0, 19), (19, 0, 5, 0, 0, 20), (20, 80, 0, 165, 2, 23), (23, 10, 0, 0, 0, 24), (24, 62, 0, 31, 3, 27), (27, 0, 1, 0, 0, 28), (28, 60, 0, 32, 0, 31), (31, 0, 0, 0, 0, 32), (32, 70, 0, 0, 1, 33)]
def mX12_staysIn : gMt := (172, tbX12_staysIn, [])
set_option maxRecDepth 100000 in
theorem okX12_staysIn : gOK mX12_staysIn = true := by decide +kernel
def tbX12_meet : List (Nat × gRI) := [(0, 2, 0, 0, 2, 1), (1, 2, 0, 1, 0, 2), (2, 0, 4, 0, 0, 3), (3, 80, 0, 165, 2, 6), (6, 2, 0, 0, 2, 7), (7, 2, 0, 2, 0, 8), (8, 0, 4, 0, 0, 9), (9, 80, 0, 165, 2, 12), (12, 2, 0, 0, 2, 13), (13, 2, 0, 2, 0, 14), (14, 0, 5, 0, 0, 15), (15, 80, 0, 165, 2, 18), (18, 10, 0, 0, 0, 19), (19, 62, 0, 48, 3, 22), (22, 2, 0, 0, 2, 23), (23, 2, 0, 2, 0, 24), (24, 0, 4, 0, 0, 25), (25, 80, 0, 165, 2, 28), (28, 2, 0, 0, 2, 29), (29, 2, 0, 1, 0, 30), (30, 0, 4, 0, 0, 31), (31, 80, 0, 165, 2, 34), (34, 2, 0, 0, 2, 35), (35, 2, 0, 1, 0, 36), (36, 0, 5, 0, 0, 37), (37, 80, 0, 165, 2, 40), (40, 10, 0, 0, 0, 41), (41, 62, 0, 48, 3, 44), (44, 0, 1, 0, 0, 45), (45, 60, 0, 49, 0, 48), (48, 0, 0, 0, 0, 49), (49, 70, 0, 0, 1, 50)]
def mX12_meet : gMt := (173, tbX12_meet, [])
set_option maxRecDepth 100000 in
theorem okX12_meet : gOK mX12_meet = true := by decide +kernel
def tbX12_isFreeFor : List (Nat × gRI) := [(0, 0, 0, 0, 0, 1), (1, 3, 0, 3, 0, 2), (2, 2, 0, 3, 0, 3), (3, 2, 0, 0, 2, 4), (4, 40, 0, 11, 6, 7), (7, 62, 0, 43, 3, 10), (10, 2, 0, 3, 0, 11), (11, 2, 0, 1, 0, 12), (12, 62, 0, 37, 0, 15), (15, 2, 0, 0, 2, 16), (16, 2, 0, 3, 0, 17), (17, 0, 6, 0, 0, 19), (19, 80, 0, 165, 2, 22), (22, 2, 0, 2, 0, 23), (23, 62, 0, 37, 1, 26), (26, 2, 0, 0, 2, 27), (27, 2, 0, 1, 0, 28), (28, 2, 0, 3, 0, 29), (29, 80, 0, 173, 2, 32), (32, 61, 0, 37, 0, 35), (35, 0, 0, 0, 0, 36), (36, 70, 0, 0, 1, 37), (37, 5, 1, 3, 0, 40), (40, 60, 0, 2, 0, 43), (43, 0, 1, 0, 0, 44), (44, 70, 0, 0, 1, 45)]
def mX12_isFreeFor : gMt := (174, tbX12_isFreeFor, [])
set_option maxRecDepth 100000 in
theorem okX12_isFreeFor : gOK mX12_isFreeFor = true := by decide +kernel
def tbX12_put : List (Nat × gRI) := [(0, 2, 0, 0, 2, 1), (1, 2, 0, 1, 0, 2), (2, 80, 0, 156, 1, 5), (5, 61, 0, 16, 0, 8), (8, 2, 0, 0, 2, 9), (9, 2, 0, 2, 0, 10), (10, 80, 0, 155, 1, 13), (13, 61, 0, 22, 1, 16), (16, 2, 0, 0, 2, 17), (17, 0, 0, 0, 0, 18), (18, 80, 0, 154, 1, 21), (21, 70, 0, 0, 0, 22), (22, 2, 0, 0, 2, 23), (23, 2, 0, 1, 0, 24), (24, 0, 6, 0, 0, 26), (26, 80, 0, 165, 2, 29), (29, 3, 0, 3, 0, 30), (30, 2, 0, 3, 0, 31), (31, 0, -2, 0, 0, 33), (33, 62, 0, 48, 0, 36), (36, 2, 0, 3, 0, 37), (37, 61, 0, 54, 2, 40), (40, 2, 0, 0, 2, 41), (41, 2, 0, 1, 0, 42), (42, 80, 0, 166, 1, 45), (45, 61, 0, 54, 0, 48), (48, 2, 0, 0, 2, 49), (49, 0, 4, 0, 0, 50), (50, 80, 0, 154, 1, 53), (53, 70, 0, 0, 0, 54), (54, 2, 0, 0, 2, 55), (55, 2, 0, 1, 0, 56), (56, 2, 0, 2, 0, 57), (57, 80, 0, 169, 2, 60), (60, 61, 0, 69, 0, 63), (63, 2, 0, 0, 2, 64), (64, 0, 2, 0, 0, 65), (65, 80, 0, 154, 1, 68), (68, 70, 0, 0, 0, 69), (69, 2, 0, 0, 2, 70), (70, 2, 0, 1, 0, 71), (71, 2, 0, 2, 0, 72), (72, 80, 0, 174, 2, 75), (75, 61, 0, 84, 1, 78), (78, 2, 0, 0, 2, 79), (79, 0, 3, 0, 0, 80), (80, 80, 0, 154, 1, 83), (83, 70, 0, 0, 0, 84), (84, 2, 0, 0, 2, 85), (85, 40, 0, 11, 7, 88), (88, 0, 12, 0, 0, 90), (90, 2, 0, 1, 0, 91), (91, 12, 0, 0, 0, 92), (92, 0, 6, 0, 0, 94), (94, 10, 0, 0, 0, 95), (95, 2, 0, 2, 0, 96), (96, 48, 0, 0, 0, 97), (97, 2, 0, 3, 0, 98), (98, 70, 0, 0, 0, 99)]
def mX12_put : gMt := (175, tbX12_put, [])
set_option maxRecDepth 100000 in
theorem okX12_put : gOK mX12_put = true := by decide +kernel
def tbX12_nights : List (Nat × gRI) := [(0, 2, 0, 1, 0, 1), (1, 0, 1, 0, 0, 2), (2, 0, 50, 0, 0, 4), (4, 81, 0, 153, 3, 7), (7, 61, 0, 16, 1, 10), (10, 2, 0, 0, 2, 11), (11, 0, 0, 0, 0, 12), (12, 80, 0, 154, 1, 15), (15, 70, 0, 0, 0, 16), (16, 2, 0, 0, 2, 17), (17, 40, 0, 11, 0, 20), (20, 2, 0, 1, 0, 21), (21, 10, 0, 0, 0, 22), (22, 0, 99, 0, 0, 24), (24, 62, 0, 33, 5, 27), (27, 2, 0, 0, 2, 28), (28, 0, 4, 0, 0, 29), (29, 80, 0, 154, 1, 32), (32, 70, 0, 0, 0, 33), (33, 2, 0, 0, 2, 34), (34, 6, 0, 0, 0, 35), (35, 40, 0, 11, 0, 38), (38, 2, 0, 1, 0, 39), (39, 10, 0, 0, 0, 40), (40, 41, 0, 11, 0, 43), (43, 2, 0, 0, 2, 44), (44, 40, 0, 11, 0, 47), (47, 70, 0, 0, 0, 48)]
def mX12_nights : gMt := (176, tbX12_nights, [])
set_option maxRecDepth 100000 in
theorem okX12_nights : gOK mX12_nights = true := by decide +kernel
def tbX12_whoIn : List (Nat × gRI) := [(0, 0, -1, 0, 0, 1), (1, 3, 0, 3, 0, 2), (2, 0, 0, 0, 0, 3), (3, 3, 0, 4, 0, 5), (5, 2, 0, 4, 0, 7), (7, 2, 0, 0, 2, 8), (8, 40, 0, 11, 6, 11), (11, 62, 0, 49, 3, 14), (14, 2, 0, 0, 2, 15), (15, 2, 0, 4, 0, 17), (17, 0, 6, 0, 0, 19), (19, 80, 0, 165, 2, 22), (22, 2, 0, 1, 0, 23), (23, 62, 0, 41, 1, 26), (26, 2, 0, 0, 2, 27), (27, 2, 0, 4, 0, 29), (29, 2, 0, 2, 0, 30), (30, 80, 0, 172, 2, 33), (33, 61, 0, 41, 0, 36), (36, 2, 0, 4, 0, 38), (38, 60, 0, 42, 0, 41), (41, 2, 0, 3, 0, 42), (42, 3, 0, 3, 0, 43), (43, 5, 1, 4, 0, 46), (46, 60, 0, 5, 0, 49), (49, 2, 0, 3, 0, 50), (50, 70, 0, 0, 0, 51)]
def mX12_whoIn : gMt := (177, tbX12_whoIn, [])
set_option maxRecDepth 100000 in
theorem okX12_whoIn : gOK mX12_whoIn = true := by decide +kernel
def tbX12_who : List (Nat × gRI) := [(0, 2, 0, 0, 2, 1), (1, 2, 0, 1, 0, 2), (2, 80, 0, 155, 1, 5), (5, 61, 0, 24, 0, 8), (8, 2, 0, 2, 0, 9), (9, 81, 0, 157, 1, 12), (12, 61, 0, 24, 0, 15), (15, 2, 0, 0, 2, 16), (16, 2, 0, 1, 0, 17), (17, 2, 0, 2, 0, 18), (18, 80, 0, 177, 2, 21), (21, 60, 0, 29, 0, 24), (24, 2, 0, 0, 2, 25), (25, 0, 0, 0, 0, 26), (26, 80, 0, 154, 1, 29), (29, 70, 0, 0, 0, 30)]
def mX12_who : gMt := (178, tbX12_who, [])
set_option maxRecDepth 100000 in
theorem okX12_who : gOK mX12_who = true := by decide +kernel
def tbX12_gapsOf : List (Nat × gRI) := [(0, 0, 0, 0, 0, 1), (1, 3, 0, 2, 0, 2), (2, 2, 0, 2, 0, 3), (3, 0, 100, 0, 0, 5), (5, 62, 0, 21, 3, 8), (8, 2, 0, 0, 2, 9), (9, 40, 0, 11, 16, 12), (12, 2, 0, 2, 0, 13), (13, 0, 0, 0, 0, 14), (14, 49, 0, 0, 0, 15), (15, 5, 1, 2, 0, 18), (18, 60, 0, 2, 0, 21), (21, 0, 0, 0, 0, 22), (22, 3, 0, 2, 0, 23), (23, 2, 0, 2, 0, 24), (24, 2, 0, 0, 2, 25), (25, 40, 0, 11, 6, 28), (28, 62, 0, 80, 3, 31), (31, 0, 0, 0, 0, 32), (32, 3, 0, 3, 0, 33), (33, 2, 0, 3, 0, 34), (34, 2, 0, 0, 2, 35), (35, 2, 0, 2, 0, 36), (36, 0, 5, 0, 0, 37), (37, 80, 0, 165, 2, 40), (40, 62, 0, 74, 3, 43), (43, 2, 0, 0, 2, 44), (44, 2, 0, 2, 0, 45), (45, 0, 6, 0, 0, 47), (47, 80, 0, 165, 2, 50), (50, 2, 0, 1, 0, 51), (51, 62, 0, 74, 1, 54), (54, 2, 0, 0, 2, 55), (55, 40, 0, 11, 16, 58), (58, 2, 0, 0, 2, 59), (59, 2, 0, 2, 0, 60), (60, 0, 4, 0, 0, 61), (61, 80, 0, 165, 2, 64), (64, 2, 0, 3, 0, 65), (65, 10, 0, 0, 0, 66), (66, 0, 1, 0, 0, 67), (67, 49, 0, 0, 0, 68), (68, 5, 1, 3, 0, 71), (71, 60, 0, 33, 0, 74), (74, 5, 1, 2, 0, 77), (77, 60, 0, 23, 0, 80), (80, 0, 0, 0, 0, 81), (81, 3, 0, 2, 0, 82), (82, 0, 1, 0, 0, 83), (83, 3, 0, 3, 0, 84), (84, 2, 0, 3, 0, 85), (85, 0, 99, 0, 0, 87), (87, 62, 0, 135, 3, 90), (90, 2, 0, 2, 0, 91), (91, 2, 0, 0, 2, 92), (92, 40, 0, 11, 16, 95), (95, 2, 0, 3, 0, 96), (96, 0, 1, 0, 0, 97), (97, 11, 0, 0, 0, 98), (98, 44, 0, 0, 0, 99), (99, 61, 0, 126, 0, 102), (102, 2, 0, 0, 2, 103), (103, 40, 0, 11, 16, 106), (106, 2, 0, 3, 0, 107), (107, 44, 0, 0, 0, 108), (108, 61, 0, 126, 1, 111), (111, 2, 0, 0, 2, 112), (112, 40, 0, 11, 16, 115), (115, 2, 0, 3, 0, 116), (116, 0, 1, 0, 0, 117), (117, 10, 0, 0, 0, 118), (118, 44, 0, 0, 0, 119), (119, 61, 0, 126, 0, 122), (122, 0, 1, 0, 0, 123), (123, 60, 0, 127, 0, 126), (126, 0, 0, 0, 0, 127), (127, 10, 0, 0, 0, 128), (128, 3, 0, 2, 0, 129), (129, 5, 1, 3, 0, 132), (132, 60, 0, 84, 0, 135), (135, 2, 0, 2, 0, 136), (136, 70, 0, 0, 0, 137)]
def mX12_gapsOf : gMt := (179, tbX12_gapsOf, [])
set_option maxRecDepth 100000 in
theorem okX12_gapsOf : gOK mX12_gapsOf = true := by decide +kernel
def tbX12_gaps : List (Nat × gRI) := [(0, 2, 0, 1, 0, 1), (1, 0, -1, 0, 0, 2), (2, 62, 0, 19, 0, 5), (5, 2, 0, 0, 2, 6), (6, 2, 0, 1, 0, 7), (7, 80, 0, 155, 1, 10), (10, 61, 0, 19, 1, 13), (13, 2, 0, 0, 2, 14), (14, 0, 0, 0, 0, 15), (15, 80, 0, 154, 1, 18), (18, 70, 0, 0, 0, 19), (19, 0, 0, 0, 0, 20), (20, 3, 0, 2, 0, 21), (21, 0, 0, 0, 0, 22), (22, 3, 0, 3, 0, 23), (23, 2, 0, 3, 0, 24), (24, 2, 0, 0, 2, 25), (25, 40, 0, 11, 2, 28), (28, 62, 0, 59, 3, 31), (31, 2, 0, 2, 0, 32), (32, 2, 0, 1, 0, 33), (33, 0, -1, 0, 0, 34), (34, 62, 0, 42, 0, 37), (37, 2, 0, 3, 0, 38), (38, 2, 0, 1, 0, 39), (39, 62, 0, 50, 1, 42), (42, 2, 0, 0, 2, 43), (43, 2, 0, 3, 0, 44), (44, 80, 0, 179, 1, 47), (47, 60, 0, 51, 0, 50), (50, 0, 0, 0, 0, 51), (51, 10, 0, 0, 0, 52), (52, 3, 0, 2, 0, 53), (53, 5, 1, 3, 0, 56), (56, 60, 0, 23, 0, 59), (59, 2, 0, 2, 0, 60), (60, 70, 0, 0, 0, 61)]
def mX12_gaps : gMt := (180, tbX12_gaps, [])
set_option maxRecDepth 100000 in
theorem okX12_gaps : gOK mX12_gaps = true := by decide +kernel
def tbX12_apartNow : List (Nat × gRI) := [(0, 0, 0, 0, 0, 1), (1, 3, 0, 1, 0, 2), (2, 0, 0, 0, 0, 3), (3, 3, 0, 2, 0, 4), (4, 2, 0, 2, 0, 5), (5, 2, 0, 0, 2, 6), (6, 40, 0, 11, 6, 9), (9, 62, 0, 83, 3, 12), (12, 2, 0, 0, 2, 13), (13, 2, 0, 2, 0, 14), (14, 0, 7, 0, 0, 16), (16, 80, 0, 165, 2, 19), (19, 3, 0, 3, 0, 20), (20, 2, 0, 1, 0, 21), (21, 2, 0, 3, 0, 22), (22, 61, 0, 74, 2, 25), (25, 2, 0, 0, 2, 26), (26, 2, 0, 2, 0, 27), (27, 0, 6, 0, 0, 29), (29, 80, 0, 165, 2, 32), (32, 61, 0, 74, 2, 35), (35, 2, 0, 0, 2, 36), (36, 2, 0, 3, 0, 37), (37, 61, 0, 44, 3, 40), (40, 0, 0, 0, 0, 41), (41, 60, 0, 45, 0, 44), (44, 2, 0, 3, 0, 45), (45, 0, 6, 0, 0, 47), (47, 80, 0, 165, 2, 50), (50, 61, 0, 74, 2, 53), (53, 2, 0, 0, 2, 54), (54, 2, 0, 0, 2, 55), (55, 2, 0, 2, 0, 56), (56, 0, 6, 0, 0, 58), (58, 80, 0, 165, 2, 61), (61, 2, 0, 0, 2, 62), (62, 2, 0, 3, 0, 63), (63, 0, 6, 0, 0, 65), (65, 80, 0, 165, 2, 68), (68, 80, 0, 162, 2, 71), (71, 60, 0, 75, 0, 74), (74, 0, 0, 0, 0, 75), (75, 10, 0, 0, 0, 76), (76, 3, 0, 1, 0, 77), (77, 5, 1, 2, 0, 80), (80, 60, 0, 4, 0, 83), (83, 2, 0, 1, 0, 84), (84, 70, 0, 0, 0, 85)]
def mX12_apartNow : gMt := (181, tbX12_apartNow, [])
set_option maxRecDepth 100000 in
theorem okX12_apartNow : gOK mX12_apartNow = true := by decide +kernel
def tbX12_apart : List (Nat × gRI) := [(0, 2, 0, 0, 2, 1), (1, 80, 0, 181, 0, 4), (4, 70, 0, 0, 0, 5)]
def mX12_apart : gMt := (182, tbX12_apart, [])
set_option maxRecDepth 100000 in
theorem okX12_apart : gOK mX12_apart = true := by decide +kernel
def tbX12_ones : List (Nat × gRI) := [(0, 0, 0, 0, 0, 1), (1, 3, 0, 1, 0, 2), (2, 0, 0, 0, 0, 3), (3, 3, 0, 2, 0, 4), (4, 2, 0, 2, 0, 5), (5, 0, 24, 0, 0, 7), (7, 62, 0, 24, 3, 10), (10, 2, 0, 1, 0, 11), (11, 2, 0, 0, 0, 12), (12, 2, 0, 2, 0, 13), (13, 20, 0, 0, 0, 14), (14, 0, 1, 0, 0, 15), (15, 16, 0, 0, 0, 16), (16, 10, 0, 0, 0, 17), (17, 3, 0, 1, 0, 18), (18, 5, 1, 2, 0, 21), (21, 60, 0, 4, 0, 24), (24, 2, 0, 1, 0, 25), (25, 70, 0, 0, 0, 26)]
def mX12_ones : gMt := (183, tbX12_ones, [])
set_option maxRecDepth 100000 in
theorem okX12_ones : gOK mX12_ones = true := by decide +kernel
def tbX12_gapsNow : List (Nat × gRI) := [(0, 0, 0, 0, 0, 1), (1, 3, 0, 1, 0, 2), (2, 0, 0, 0, 0, 3), (3, 3, 0, 2, 0, 4), (4, 2, 0, 2, 0, 5), (5, 2, 0, 0, 2, 6), (6, 40, 0, 11, 2, 9), (9, 62, 0, 86, 3, 12), (12, 0, 0, 0, 0, 13), (13, 3, 0, 3, 0, 14), (14, 0, 0, 0, 0, 15), (15, 3, 0, 4, 0, 17), (17, 2, 0, 4, 0, 19), (19, 2, 0, 0, 2, 20), (20, 40, 0, 11, 20, 23), (23, 62, 0, 59, 3, 26), (26, 2, 0, 3, 0, 27), (27, 61, 0, 47, 1, 30), (30, 2, 0, 0, 2, 31), (31, 2, 0, 0, 2, 32), (32, 40, 0, 11, 17, 35), (35, 2, 0, 4, 0, 37), (37, 43, 0, 0, 0, 38), (38, 0, 6, 0, 0, 40), (40, 80, 0, 165, 2, 43), (43, 2, 0, 2, 0, 44), (44, 62, 0, 51, 1, 47), (47, 0, 1, 0, 0, 48), (48, 60, 0, 52, 0, 51), (51, 0, 0, 0, 0, 52), (52, 3, 0, 3, 0, 53), (53, 5, 1, 4, 0, 56), (56, 60, 0, 17, 0, 59), (59, 2, 0, 1, 0, 60), (60, 2, 0, 3, 0, 61), (61, 61, 0, 72, 0, 64), (64, 2, 0, 0, 2, 65), (65, 2, 0, 2, 0, 66), (66, 80, 0, 179, 1, 69), (69, 60, 0, 78, 0, 72), (72, 2, 0, 0, 2, 73), (73, 40, 0, 11, 18, 76), (76, 2, 0, 2, 0, 77), (77, 43, 0, 0, 0, 78), (78, 10, 0, 0, 0, 79), (79, 3, 0, 1, 0, 80), (80, 5, 1, 2, 0, 83), (83, 60, 0, 4, 0, 86), (86, 2, 0, 1, 0, 87), (87, 70, 0, 0, 0, 88)]
def mX12_gapsNow : gMt := (184, tbX12_gapsNow, [])
set_option maxRecDepth 100000 in
theorem okX12_gapsNow : gOK mX12_gapsNow = true := by decide +kernel
def tbX12_lays : List (Nat × gRI) := [(0, 2, 0, 1, 0, 1), (1, 3, 0, 2, 0, 2), (2, 2, 0, 0, 2, 3), (3, 40, 0, 11, 20, 6), (6, 0, 1, 0, 0, 7), (7, 11, 0, 0, 0, 8), (8, 3, 0, 3, 0, 9), (9, 2, 0, 3, 0, 10), (10, 61, 0, 70, 2, 13), (13, 2, 0, 2, 0, 14), (14, 2, 0, 0, 2, 15), (15, 40, 0, 11, 2, 18), (18, 0, 1, 0, 0, 19), (19, 10, 0, 0, 0, 20), (20, 15, 0, 0, 0, 21), (21, 3, 0, 4, 0, 23), (23, 2, 0, 0, 2, 24), (24, 40, 0, 11, 7, 27), (27, 0, 12, 0, 0, 29), (29, 2, 0, 0, 2, 30), (30, 40, 0, 11, 17, 33), (33, 2, 0, 3, 0, 34), (34, 43, 0, 0, 0, 35), (35, 12, 0, 0, 0, 36), (36, 0, 6, 0, 0, 38), (38, 10, 0, 0, 0, 39), (39, 2, 0, 4, 0, 41), (41, 2, 0, 0, 2, 42), (42, 40, 0, 11, 2, 45), (45, 62, 0, 52, 1, 48), (48, 0, -1, 0, 0, 49), (49, 60, 0, 54, 0, 52), (52, 2, 0, 4, 0, 54), (54, 48, 0, 0, 0, 55), (55, 2, 0, 2, 0, 56), (56, 2, 0, 0, 2, 57), (57, 40, 0, 11, 2, 60), (60, 0, 1, 0, 0, 61), (61, 10, 0, 0, 0, 62), (62, 14, 0, 0, 0, 63), (63, 3, 0, 2, 0, 64), (64, 5, -1, 3, 0, 67), (67, 60, 0, 9, 0, 70), (70, 0, 0, 0, 0, 71), (71, 3, 0, 3, 0, 72), (72, 0, 0, 0, 0, 73), (73, 3, 0, 4, 0, 75), (75, 2, 0, 4, 0, 77), (77, 2, 0, 0, 2, 78), (78, 40, 0, 11, 20, 81), (81, 62, 0, 157, 3, 84), (84, 2, 0, 0, 2, 85), (85, 2, 0, 0, 2, 86), (86, 40, 0, 11, 17, 89), (89, 2, 0, 4, 0, 91), (91, 43, 0, 0, 0, 92), (92, 0, 6, 0, 0, 94), (94, 80, 0, 165, 2, 97), (97, 3, 0, 5, 0, 99), (99, 2, 0, 5, 0, 101), (101, 61, 0, 138, 2, 104), (104, 2, 0, 0, 2, 105), (105, 2, 0, 0, 2, 106), (106, 40, 0, 11, 17, 109), (109, 2, 0, 4, 0, 111), (111, 43, 0, 0, 0, 112), (112, 2, 0, 5, 0, 114), (114, 80, 0, 169, 2, 117), (117, 61, 0, 136, 1, 120), (120, 2, 0, 0, 2, 121), (121, 2, 0, 0, 2, 122), (122, 40, 0, 11, 17, 125), (125, 2, 0, 4, 0, 127), (127, 43, 0, 0, 0, 128), (128, 2, 0, 5, 0, 130), (130, 80, 0, 174, 2, 133), (133, 61, 0, 138, 1, 136), (136, 0, -1, 0, 0, 137), (137, 70, 0, 0, 0, 138), (138, 2, 0, 3, 0, 139), (139, 2, 0, 5, 0, 141), (141, 61, 0, 148, 2, 144), (144, 0, 1, 0, 0, 145), (145, 60, 0, 149, 0, 148), (148, 0, 0, 0, 0, 149), (149, 10, 0, 0, 0, 150), (150, 3, 0, 3, 0, 151), (151, 5, 1, 4, 0, 154), (154, 60, 0, 75, 0, 157), (157, 2, 0, 3, 0, 158), (158, 70, 0, 0, 0, 159)]
def mX12_lays : gMt := (185, tbX12_lays, [])
set_option maxRecDepth 100000 in
theorem okX12_lays : gOK mX12_lays = true := by decide +kernel
def tbX12_plan : List (Nat × gRI) := [(0, 2, 0, 1, 0, 1), (1, 61, 0, 22, 5, 4), (4, 2, 0, 1, 0, 5), (5, 0, 1, 0, 0, 6), (6, 2, 0, 0, 2, 7), (7, 40, 0, 11, 6, 10), (10, 19, 0, 0, 0, 11), (11, 62, 0, 22, 3, 14), (14, 2, 0, 1, 0, 15), (15, 81, 0, 183, 1, 18), (18, 0, 4, 0, 0, 19), (19, 62, 0, 28, 5, 22), (22, 2, 0, 0, 2, 23), (23, 0, 0, 0, 0, 24), (24, 80, 0, 154, 1, 27), (27, 70, 0, 0, 0, 28), (28, 2, 0, 0, 2, 29), (29, 0, 0, 0, 0, 30), (30, 41, 0, 11, 20, 33), (33, 0, 0, 0, 0, 34), (34, 3, 0, 2, 0, 35), (35, 2, 0, 2, 0, 36), (36, 2, 0, 0, 2, 37), (37, 40, 0, 11, 6, 40), (40, 62, 0, 104, 3, 43), (43, 2, 0, 1, 0, 44), (44, 2, 0, 2, 0, 45), (45, 20, 0, 0, 0, 46), (46, 0, 1, 0, 0, 47), (47, 16, 0, 0, 0, 48), (48, 0, 1, 0, 0, 49), (49, 62, 0, 98, 1, 52), (52, 2, 0, 0, 2, 53), (53, 2, 0, 2, 0, 54), (54, 0, 6, 0, 0, 56), (56, 80, 0, 165, 2, 59), (59, 0, -2, 0, 0, 61), (61, 62, 0, 72, 0, 64), (64, 2, 0, 0, 2, 65), (65, 2, 0, 2, 0, 66), (66, 80, 0, 166, 1, 69), (69, 61, 0, 78, 0, 72), (72, 2, 0, 0, 2, 73), (73, 0, 4, 0, 0, 74), (74, 80, 0, 154, 1, 77), (77, 70, 0, 0, 0, 78), (78, 2, 0, 0, 2, 79), (79, 40, 0, 11, 17, 82), (82, 2, 0, 0, 2, 83), (83, 40, 0, 11, 20, 86), (86, 2, 0, 2, 0, 87), (87, 48, 0, 0, 0, 88), (88, 2, 0, 0, 2, 89), (89, 6, 0, 0, 0, 90), (90, 40, 0, 11, 20, 93), (93, 0, 1, 0, 0, 94), (94, 10, 0, 0, 0, 95), (95, 41, 0, 11, 20, 98), (98, 5, 1, 2, 0, 101), (101, 60, 0, 35, 0, 104), (104, 0, 1, 0, 0, 105), (105, 3, 0, 2, 0, 106), (106, 0, 0, 0, 0, 107), (107, 3, 0, 3, 0, 108), (108, 2, 0, 3, 0, 109), (109, 2, 0, 0, 2, 110), (110, 40, 0, 11, 20, 113), (113, 62, 0, 149, 3, 116), (116, 2, 0, 0, 2, 117), (117, 40, 0, 11, 7, 120), (120, 0, 12, 0, 0, 122), (122, 2, 0, 0, 2, 123), (123, 40, 0, 11, 17, 126), (126, 2, 0, 3, 0, 127), (127, 43, 0, 0, 0, 128), (128, 12, 0, 0, 0, 129), (129, 0, 6, 0, 0, 131), (131, 10, 0, 0, 0, 132), (132, 0, -1, 0, 0, 133), (133, 48, 0, 0, 0, 134), (134, 2, 0, 2, 0, 135), (135, 2, 0, 0, 2, 136), (136, 40, 0, 11, 2, 139), (139, 0, 1, 0, 0, 140), (140, 10, 0, 0, 0, 141), (141, 12, 0, 0, 0, 142), (142, 3, 0, 2, 0, 143), (143, 5, 1, 3, 0, 146), (146, 60, 0, 108, 0, 149), (149, 0, 0, 0, 0, 150), (150, 3, 0, 3, 0, 151), (151, 2, 0, 3, 0, 152), (152, 2, 0, 0, 2, 153), (153, 40, 0, 11, 2, 156), (156, 62, 0, 176, 3, 159), (159, 2, 0, 0, 2, 160), (160, 40, 0, 11, 18, 163), (163, 2, 0, 3, 0, 164), (164, 2, 0, 0, 2, 165), (165, 2, 0, 3, 0, 166), (166, 80, 0, 179, 1, 169), (169, 48, 0, 0, 0, 170), (170, 5, 1, 3, 0, 173), (173, 60, 0, 151, 0, 176), (176, 0, -1, 0, 0, 177), (177, 3, 0, 3, 0, 178), (178, 0, 0, 0, 0, 179), (179, 3, 0, 4, 0, 181), (181, 0, 0, 0, 0, 182), (182, 3, 0, 5, 0, 184), (184, 0, 0, 0, 0, 185), (185, 3, 0, 6, 0, 187), (187, 0, 0, 0, 0, 188), (188, 3, 0, 7, 0, 190), (190, 2, 0, 7, 0, 192), (192, 2, 0, 2, 0, 193), (193, 62, 0, 295, 3, 196), (196, 2, 0, 0, 2, 197), (197, 2, 0, 7, 0, 199), (199, 80, 0, 185, 1, 202), (202, 3, 0, 8, 0, 204), (204, 2, 0, 8, 0, 206), (206, 61, 0, 289, 2, 209), (209, 2, 0, 8, 0, 211), (211, 2, 0, 3, 0, 212), (212, 62, 0, 218, 3, 215), (215, 60, 0, 289, 0, 218), (218, 2, 0, 0, 2, 219), (219, 80, 0, 184, 0, 222), (222, 3, 0, 9, 0, 224), (224, 2, 0, 8, 0, 226), (226, 2, 0, 3, 0, 227), (227, 62, 0, 237, 4, 230), (230, 2, 0, 9, 0, 232), (232, 2, 0, 4, 0, 234), (234, 62, 0, 244, 4, 237), (237, 2, 0, 0, 2, 238), (238, 80, 0, 181, 0, 241), (241, 60, 0, 245, 0, 244), (244, 0, 0, 0, 0, 245), (245, 3, 0, 10, 0, 247), (247, 2, 0, 8, 0, 249), (249, 2, 0, 3, 0, 250), (250, 62, 0, 274, 4, 253), (253, 2, 0, 9, 0, 255), (255, 2, 0, 4, 0, 257), (257, 62, 0, 274, 2, 260), (260, 2, 0, 9, 0, 262), (262, 2, 0, 4, 0, 264), (264, 62, 0, 289, 1, 267), (267, 2, 0, 10, 0, 269), (269, 2, 0, 5, 0, 271), (271, 62, 0, 289, 3, 274), (274, 2, 0, 8, 0, 276), (276, 3, 0, 3, 0, 277), (277, 2, 0, 9, 0, 279), (279, 3, 0, 4, 0, 281), (281, 2, 0, 10, 0, 283), (283, 3, 0, 5, 0, 285), (285, 2, 0, 7, 0, 287), (287, 3, 0, 6, 0, 289), (289, 5, 1, 7, 0, 292), (292, 60, 0, 190, 0, 295), (295, 2, 0, 0, 2, 296), (296, 2, 0, 6, 0, 298), (298, 80, 0, 185, 1, 301), (301, 70, 0, 0, 0, 302)]
def mX12_plan : gMt := (186, tbX12_plan, [])
set_option maxRecDepth 100000 in
theorem okX12_plan : gOK mX12_plan = true := by decide +kernel
def tbX12_feed : List (Nat × gRI) := [(0, 2, 0, 2, 0, 1), (1, 0, 1, 0, 0, 2), (2, 0, 4, 0, 0, 3), (3, 81, 0, 153, 3, 6), (6, 61, 0, 15, 1, 9), (9, 2, 0, 0, 2, 10), (10, 0, 0, 0, 0, 11), (11, 80, 0, 154, 1, 14), (14, 70, 0, 0, 0, 15), (15, 2, 0, 0, 2, 16), (16, 40, 0, 11, 22, 19), (19, 2, 0, 2, 0, 20), (20, 10, 0, 0, 0, 21), (21, 0, 120, 0, 0, 23), (23, 62, 0, 32, 5, 26), (26, 2, 0, 0, 2, 27), (27, 0, 1, 0, 0, 28), (28, 80, 0, 154, 1, 31), (31, 70, 0, 0, 0, 32), (32, 2, 0, 2, 0, 33), (33, 0, 1, 0, 0, 34), (34, 11, 0, 0, 0, 35), (35, 3, 0, 3, 0, 36), (36, 2, 0, 3, 0, 37), (37, 61, 0, 75, 2, 40), (40, 2, 0, 0, 2, 41), (41, 40, 0, 11, 21, 44), (44, 2, 0, 0, 2, 45), (45, 40, 0, 11, 22, 48), (48, 2, 0, 1, 0, 49), (49, 0, 8, 0, 0, 51), (51, 2, 0, 3, 0, 52), (52, 12, 0, 0, 0, 53), (53, 20, 0, 0, 0, 54), (54, 0, 255, 0, 0, 57), (57, 16, 0, 0, 0, 58), (58, 48, 0, 0, 0, 59), (59, 2, 0, 0, 2, 60), (60, 6, 0, 0, 0, 61), (61, 40, 0, 11, 22, 64), (64, 0, 1, 0, 0, 65), (65, 10, 0, 0, 0, 66), (66, 41, 0, 11, 22, 69), (69, 5, -1, 3, 0, 72), (72, 60, 0, 36, 0, 75), (75, 2, 0, 0, 2, 76), (76, 40, 0, 11, 22, 79), (79, 70, 0, 0, 0, 80)]
def mX12_feed : gMt := (187, tbX12_feed, [])
set_option maxRecDepth 100000 in
theorem okX12_feed : gOK mX12_feed = true := by decide +kernel
def tbX12_wipe : List (Nat × gRI) := [(0, 2, 0, 0, 2, 1), (1, 40, 0, 11, 22, 4), (4, 3, 0, 1, 0, 5), (5, 2, 0, 0, 2, 6), (6, 0, 0, 0, 0, 7), (7, 41, 0, 11, 22, 10), (10, 2, 0, 1, 0, 11), (11, 70, 0, 0, 0, 12)]
def mX12_wipe : gMt := (188, tbX12_wipe, [])
set_option maxRecDepth 100000 in
theorem okX12_wipe : gOK mX12_wipe = true := by decide +kernel
def tbX12_byteAt : List (Nat × gRI) := [(0, 2, 0, 1, 0, 1), (1, 2, 0, 0, 2, 2), (2, 40, 0, 11, 22, 5), (5, 62, 0, 17, 3, 8), (8, 2, 0, 0, 2, 9), (9, 40, 0, 11, 21, 12), (12, 2, 0, 1, 0, 13), (13, 43, 0, 0, 0, 14), (14, 60, 0, 18, 0, 17), (17, 0, -1, 0, 0, 18), (18, 70, 0, 0, 0, 19)]
def mX12_byteAt : gMt := (189, tbX12_byteAt, [])
set_option maxRecDepth 100000 in
theorem okX12_byteAt : gOK mX12_byteAt = true := by decide +kernel
def tbX12_isLetter : List (Nat × gRI) := [(0, 2, 0, 0, 0, 1), (1, 0, 97, 0, 0, 3), (3, 0, 122, 0, 0, 5), (5, 81, 0, 153, 3, 8), (8, 70, 0, 0, 1, 9)]
def mX12_isLetter : gMt := (190, tbX12_isLetter, [])
set_option maxRecDepth 100000 in
theorem okX12_isLetter : gOK mX12_isLetter = true := by decide +kernel
def tbX12_isDigit : List (Nat × gRI) := [(0, 2, 0, 0, 0, 1), (1, 0, 48, 0, 0, 3), (3, 0, 57, 0, 0, 5), (5, 81, 0, 153, 3, 8), (8, 70, 0, 0, 1, 9)]
def mX12_isDigit : gMt := (191, tbX12_isDigit, [])
set_option maxRecDepth 100000 in
theorem okX12_isDigit : gOK mX12_isDigit = true := by decide +kernel
end
section
def tbX12_isName : List (Nat × gRI) := [(0, 2, 0, 0, 0, 1), (1, 0, 108, 0, 0, 3), (3, 62, 0, 36, 0, 6), (6, 2, 0, 0, 0, 7), (7, 0, 97, 0, 0, 9), (9, 62, 0, 36, 0, 12), (12, 2, 0, 0, 0, 13), (13, 0, 110, 0, 0, 15), (15, 62, 0, 36, 0, 18), (18, 2, 0, 0, 0, 19), (19, 0, 107, 0, 0, 21), (21, 62, 0, 36, 0, 24), (24, 2, 0, 0, 0, 25), (25, 0, 100, 0, 0, 27), (27, 62, 0, 36, 0, 30), (30, 2, 0, 0, 0, 31), (31, 0, 111, 0, 0, 33), (33, 62, 0, 40, 1, 36), (36, 0, 1, 0, 0, 37), (37, 60, 0, 41, 0, 40), (40, 0, 0, 0, 0, 41), (41, 70, 0, 0, 1, 42)]
def mX12_isName : gMt := (192, tbX12_isName, [])
set_option maxRecDepth 100000 in
theorem okX12_isName : gOK mX12_isName = true := by decide +kernel
def tbX12_isMark : List (Nat × gRI) := [(0, 2, 0, 0, 0, 1), (1, 0, 60, 0, 0, 3), (3, 62, 0, 35, 0, 6), (6, 2, 0, 0, 0, 7), (7, 0, 61, 0, 0, 9), (9, 62, 0, 35, 0, 12), (12, 2, 0, 0, 0, 13), (13, 0, 40, 0, 0, 15), (15, 0, 43, 0, 0, 17), (17, 81, 0, 153, 3, 20), (20, 61, 0, 35, 1, 23), (23, 2, 0, 0, 0, 24), (24, 0, 45, 0, 0, 26), (26, 62, 0, 35, 0, 29), (29, 2, 0, 0, 0, 30), (30, 0, 47, 0, 0, 32), (32, 62, 0, 39, 1, 35), (35, 0, 1, 0, 0, 36), (36, 60, 0, 40, 0, 39), (39, 0, 0, 0, 0, 40), (40, 70, 0, 0, 1, 41)]
def mX12_isMark : gMt := (193, tbX12_isMark, [])
set_option maxRecDepth 100000 in
theorem okX12_isMark : gOK mX12_isMark = true := by decide +kernel
def tbX12_advance : List (Nat × gRI) := [(0, 2, 0, 0, 2, 1), (1, 2, 0, 0, 2, 2), (2, 40, 0, 11, 24, 5), (5, 41, 0, 11, 23, 8), (8, 2, 0, 0, 2, 9), (9, 2, 0, 0, 2, 10), (10, 40, 0, 11, 23, 13), (13, 80, 0, 189, 1, 16), (16, 0, 32, 0, 0, 18), (18, 62, 0, 34, 1, 21), (21, 2, 0, 0, 2, 22), (22, 6, 0, 0, 0, 23), (23, 40, 0, 11, 23, 26), (26, 0, 1, 0, 0, 27), (27, 10, 0, 0, 0, 28), (28, 41, 0, 11, 23, 31), (31, 60, 0, 8, 0, 34), (34, 2, 0, 0, 2, 35), (35, 2, 0, 0, 2, 36), (36, 40, 0, 11, 23, 39), (39, 41, 0, 11, 24, 42), (42, 2, 0, 0, 2, 43), (43, 2, 0, 0, 2, 44), (44, 40, 0, 11, 23, 47), (47, 80, 0, 189, 1, 50), (50, 3, 0, 1, 0, 51), (51, 2, 0, 1, 0, 52), (52, 61, 0, 63, 3, 55), (55, 2, 0, 0, 2, 56), (56, 0, 0, 0, 0, 57), (57, 41, 0, 11, 25, 60), (60, 60, 0, 265, 0, 63), (63, 2, 0, 1, 0, 64), (64, 81, 0, 190, 1, 67), (67, 61, 0, 134, 0, 70), (70, 2, 0, 0, 2, 71), (71, 2, 0, 0, 2, 72), (72, 40, 0, 11, 24, 75), (75, 80, 0, 189, 1, 78), (78, 81, 0, 190, 1, 81), (81, 61, 0, 97, 0, 84), (84, 2, 0, 0, 2, 85), (85, 6, 0, 0, 0, 86), (86, 40, 0, 11, 24, 89), (89, 0, 1, 0, 0, 90), (90, 10, 0, 0, 0, 91), (91, 41, 0, 11, 24, 94), (94, 60, 0, 70, 0, 97), (97, 2, 0, 0, 2, 98), (98, 2, 0, 1, 0, 99), (99, 41, 0, 11, 26, 102), (102, 2, 0, 0, 2, 103), (103, 2, 0, 0, 2, 104), (104, 40, 0, 11, 24, 107), (107, 2, 0, 0, 2, 108), (108, 40, 0, 11, 23, 111), (111, 11, 0, 0, 0, 112), (112, 0, 1, 0, 0, 113), (113, 62, 0, 127, 1, 116), (116, 2, 0, 1, 0, 117), (117, 81, 0, 192, 1, 120), (120, 61, 0, 127, 0, 123), (123, 0, 1, 0, 0, 124), (124, 60, 0, 128, 0, 127), (127, 0, 4, 0, 0, 128), (128, 41, 0, 11, 25, 131), (131, 60, 0, 265, 0, 134), (134, 2, 0, 1, 0, 135), (135, 81, 0, 191, 1, 138), (138, 61, 0, 234, 0, 141), (141, 2, 0, 0, 2, 142), (142, 0, 0, 0, 0, 143), (143, 41, 0, 11, 26, 146), (146, 2, 0, 0, 2, 147), (147, 2, 0, 0, 2, 148), (148, 40, 0, 11, 24, 151), (151, 80, 0, 189, 1, 154), (154, 81, 0, 191, 1, 157), (157, 61, 0, 212, 0, 160), (160, 2, 0, 0, 2, 161), (161, 2, 0, 0, 2, 162), (162, 40, 0, 11, 26, 165), (165, 0, 9999, 0, 0, 168), (168, 62, 0, 177, 5, 171), (171, 0, 10000, 0, 0, 174), (174, 60, 0, 196, 0, 177), (177, 0, 10, 0, 0, 179), (179, 2, 0, 0, 2, 180), (180, 40, 0, 11, 26, 183), (183, 12, 0, 0, 0, 184), (184, 2, 0, 0, 2, 185), (185, 2, 0, 0, 2, 186), (186, 40, 0, 11, 24, 189), (189, 80, 0, 189, 1, 192), (192, 10, 0, 0, 0, 193), (193, 0, 48, 0, 0, 195), (195, 11, 0, 0, 0, 196), (196, 41, 0, 11, 26, 199), (199, 2, 0, 0, 2, 200), (200, 6, 0, 0, 0, 201), (201, 40, 0, 11, 24, 204), (204, 0, 1, 0, 0, 205), (205, 10, 0, 0, 0, 206), (206, 41, 0, 11, 24, 209), (209, 60, 0, 146, 0, 212), (212, 2, 0, 0, 2, 213), (213, 2, 0, 0, 2, 214), (214, 40, 0, 11, 26, 217), (217, 0, 9999, 0, 0, 220), (220, 62, 0, 227, 5, 223), (223, 0, 4, 0, 0, 224), (224, 60, 0, 228, 0, 227), (227, 0, 2, 0, 0, 228), (228, 41, 0, 11, 25, 231), (231, 60, 0, 265, 0, 234), (234, 2, 0, 0, 2, 235), (235, 6, 0, 0, 0, 236), (236, 40, 0, 11, 24, 239), (239, 0, 1, 0, 0, 240), (240, 10, 0, 0, 0, 241), (241, 41, 0, 11, 24, 244), (244, 2, 0, 0, 2, 245), (245, 2, 0, 1, 0, 246), (246, 41, 0, 11, 26, 249), (249, 2, 0, 0, 2, 250), (250, 2, 0, 1, 0, 251), (251, 81, 0, 193, 1, 254), (254, 61, 0, 261, 0, 257), (257, 0, 3, 0, 0, 258), (258, 60, 0, 262, 0, 261), (261, 0, 4, 0, 0, 262), (262, 41, 0, 11, 25, 265), (265, 72, 0, 0, 0, 266)]
def mX12_advance : gMt := (194, tbX12_advance, [])
set_option maxRecDepth 100000 in
theorem okX12_advance : gOK mX12_advance = true := by decide +kernel
def tbX12_emit : List (Nat × gRI) := [(0, 2, 0, 0, 2, 1), (1, 40, 0, 11, 27, 4), (4, 2, 0, 0, 2, 5), (5, 40, 0, 11, 29, 8), (8, 2, 0, 1, 0, 9), (9, 48, 0, 0, 0, 10), (10, 2, 0, 0, 2, 11), (11, 6, 0, 0, 0, 12), (12, 40, 0, 11, 29, 15), (15, 0, 1, 0, 0, 16), (16, 10, 0, 0, 0, 17), (17, 41, 0, 11, 29, 20), (20, 72, 0, 0, 0, 21)]
def mX12_emit : gMt := (195, tbX12_emit, [])
set_option maxRecDepth 100000 in
theorem okX12_emit : gOK mX12_emit = true := by decide +kernel
def tbX12_top : List (Nat × gRI) := [(0, 2, 0, 0, 2, 1), (1, 40, 0, 11, 30, 4), (4, 61, 0, 11, 1, 7), (7, 0, 0, 0, 0, 8), (8, 60, 0, 22, 0, 11), (11, 2, 0, 0, 2, 12), (12, 40, 0, 11, 28, 15), (15, 2, 0, 0, 2, 16), (16, 40, 0, 11, 30, 19), (19, 0, 1, 0, 0, 20), (20, 11, 0, 0, 0, 21), (21, 43, 0, 0, 0, 22), (22, 70, 0, 0, 0, 23)]
def mX12_top : gMt := (196, tbX12_top, [])
set_option maxRecDepth 100000 in
theorem okX12_top : gOK mX12_top = true := by decide +kernel
def tbX12_pend : List (Nat × gRI) := [(0, 2, 0, 0, 2, 1), (1, 40, 0, 11, 28, 4), (4, 2, 0, 0, 2, 5), (5, 40, 0, 11, 30, 8), (8, 2, 0, 1, 0, 9), (9, 48, 0, 0, 0, 10), (10, 2, 0, 0, 2, 11), (11, 6, 0, 0, 0, 12), (12, 40, 0, 11, 30, 15), (15, 0, 1, 0, 0, 16), (16, 10, 0, 0, 0, 17), (17, 41, 0, 11, 30, 20), (20, 72, 0, 0, 0, 21)]
def mX12_pend : gMt := (197, tbX12_pend, [])
set_option maxRecDepth 100000 in
theorem okX12_pend : gOK mX12_pend = true := by decide +kernel
def tbX12_ended : List (Nat × gRI) := [(0, 2, 0, 0, 2, 1), (1, 80, 0, 196, 0, 4), (4, 0, 30000, 0, 0, 7), (7, 62, 0, 40, 1, 10), (10, 2, 0, 0, 2, 11), (11, 0, 30000, 0, 0, 14), (14, 80, 0, 195, 1, 17), (17, 2, 0, 0, 2, 18), (18, 6, 0, 0, 0, 19), (19, 40, 0, 11, 30, 22), (22, 0, 1, 0, 0, 23), (23, 11, 0, 0, 0, 24), (24, 41, 0, 11, 30, 27), (27, 2, 0, 0, 2, 28), (28, 6, 0, 0, 0, 29), (29, 40, 0, 11, 31, 32), (32, 0, 1, 0, 0, 33), (33, 11, 0, 0, 0, 34), (34, 41, 0, 11, 31, 37), (37, 60, 0, 0, 0, 40), (40, 72, 0, 0, 0, 41)]
def mX12_ended : gMt := (198, tbX12_ended, [])
set_option maxRecDepth 100000 in
theorem okX12_ended : gOK mX12_ended = true := by decide +kernel
def tbX12_settle : List (Nat × gRI) := [(0, 2, 0, 0, 2, 1), (1, 80, 0, 196, 0, 4), (4, 61, 0, 39, 0, 7), (7, 2, 0, 0, 2, 8), (8, 80, 0, 196, 0, 11), (11, 81, 0, 200, 1, 14), (14, 2, 0, 1, 0, 15), (15, 62, 0, 39, 2, 18), (18, 2, 0, 0, 2, 19), (19, 2, 0, 0, 2, 20), (20, 80, 0, 196, 0, 23), (23, 80, 0, 195, 1, 26), (26, 2, 0, 0, 2, 27), (27, 6, 0, 0, 0, 28), (28, 40, 0, 11, 30, 31), (31, 0, 1, 0, 0, 32), (32, 11, 0, 0, 0, 33), (33, 41, 0, 11, 30, 36), (36, 60, 0, 0, 0, 39), (39, 72, 0, 0, 0, 40)]
def mX12_settle : gMt := (199, tbX12_settle, [])
set_option maxRecDepth 100000 in
theorem okX12_settle : gOK mX12_settle = true := by decide +kernel
def tbX12_binds : List (Nat × gRI) := [(0, 2, 0, 0, 0, 1), (1, 0, 20000, 0, 0, 4), (4, 11, 0, 0, 0, 5), (5, 3, 0, 1, 0, 6), (6, 2, 0, 1, 0, 7), (7, 0, 42, 0, 0, 9), (9, 62, 0, 18, 0, 12), (12, 2, 0, 1, 0, 13), (13, 0, 47, 0, 0, 15), (15, 62, 0, 22, 1, 18), (18, 0, 3, 0, 0, 19), (19, 60, 0, 55, 0, 22), (22, 2, 0, 1, 0, 23), (23, 0, 43, 0, 0, 25), (25, 62, 0, 34, 0, 28), (28, 2, 0, 1, 0, 29), (29, 0, 45, 0, 0, 31), (31, 62, 0, 38, 1, 34), (34, 0, 2, 0, 0, 35), (35, 60, 0, 55, 0, 38), (38, 2, 0, 1, 0, 39), (39, 0, 60, 0, 0, 41), (41, 62, 0, 50, 0, 44), (44, 2, 0, 1, 0, 45), (45, 0, 61, 0, 0, 47), (47, 62, 0, 54, 1, 50), (50, 0, 1, 0, 0, 51), (51, 60, 0, 55, 0, 54), (54, 0, 0, 0, 0, 55), (55, 70, 0, 0, 0, 56)]
def mX12_binds : gMt := (200, tbX12_binds, [])
set_option maxRecDepth 100000 in
theorem okX12_binds : gOK mX12_binds = true := by decide +kernel
def tbX12_begins : List (Nat × gRI) := [(0, 2, 0, 0, 2, 1), (1, 40, 0, 11, 25, 4), (4, 0, 1, 0, 0, 5), (5, 62, 0, 16, 0, 8), (8, 2, 0, 0, 2, 9), (9, 40, 0, 11, 25, 12), (12, 0, 2, 0, 0, 13), (13, 62, 0, 59, 1, 16), (16, 2, 0, 0, 2, 17), (17, 2, 0, 0, 2, 18), (18, 40, 0, 11, 25, 21), (21, 0, 1, 0, 0, 22), (22, 62, 0, 36, 1, 25), (25, 0, 10000, 0, 0, 28), (28, 2, 0, 0, 2, 29), (29, 40, 0, 11, 26, 32), (32, 10, 0, 0, 0, 33), (33, 60, 0, 40, 0, 36), (36, 2, 0, 0, 2, 37), (37, 40, 0, 11, 26, 40), (40, 80, 0, 195, 1, 43), (43, 2, 0, 0, 2, 44), (44, 6, 0, 0, 0, 45), (45, 40, 0, 11, 32, 48), (48, 0, 1, 0, 0, 49), (49, 10, 0, 0, 0, 50), (50, 41, 0, 11, 32, 53), (53, 2, 0, 0, 2, 54), (54, 80, 0, 198, 0, 57), (57, 0, 1, 0, 0, 58), (58, 70, 0, 0, 1, 59), (59, 2, 0, 0, 2, 60), (60, 40, 0, 11, 25, 63), (63, 0, 3, 0, 0, 64), (64, 62, 0, 94, 1, 67), (67, 2, 0, 0, 2, 68), (68, 40, 0, 11, 26, 71), (71, 0, 40, 0, 0, 73), (73, 62, 0, 85, 0, 76), (76, 2, 0, 0, 2, 77), (77, 40, 0, 11, 26, 80), (80, 0, 45, 0, 0, 82), (82, 62, 0, 94, 1, 85), (85, 2, 0, 0, 2, 86), (86, 40, 0, 11, 31, 89), (89, 0, 8, 0, 0, 91), (91, 62, 0, 96, 1, 94), (94, 0, 0, 0, 0, 95), (95, 70, 0, 0, 1, 96), (96, 2, 0, 0, 2, 97), (97, 6, 0, 0, 0, 98), (98, 40, 0, 11, 31, 101), (101, 0, 1, 0, 0, 102), (102, 10, 0, 0, 0, 103), (103, 41, 0, 11, 31, 106), (106, 2, 0, 0, 2, 107), (107, 2, 0, 0, 2, 108), (108, 40, 0, 11, 26, 111), (111, 0, 40, 0, 0, 113), (113, 62, 0, 122, 1, 116), (116, 0, 20040, 0, 0, 119), (119, 60, 0, 125, 0, 122), (122, 0, 30000, 0, 0, 125), (125, 80, 0, 197, 1, 128), (128, 0, 1, 0, 0, 129), (129, 70, 0, 0, 1, 130)]
def mX12_begins : gMt := (201, tbX12_begins, [])
set_option maxRecDepth 100000 in
theorem okX12_begins : gOK mX12_begins = true := by decide +kernel
def tbX12_goesOn : List (Nat × gRI) := [(0, 2, 0, 0, 2, 1), (1, 40, 0, 11, 25, 4), (4, 0, 3, 0, 0, 5), (5, 62, 0, 17, 1, 8), (8, 2, 0, 0, 2, 9), (9, 40, 0, 11, 26, 12), (12, 0, 40, 0, 0, 14), (14, 62, 0, 19, 1, 17), (17, 0, 0, 0, 0, 18), (18, 70, 0, 0, 1, 19), (19, 2, 0, 0, 2, 20), (20, 40, 0, 11, 26, 23), (23, 0, 41, 0, 0, 25), (25, 62, 0, 68, 1, 28), (28, 2, 0, 0, 2, 29), (29, 0, 1, 0, 0, 30), (30, 80, 0, 199, 1, 33), (33, 2, 0, 0, 2, 34), (34, 80, 0, 196, 0, 37), (37, 61, 0, 42, 1, 40), (40, 0, 0, 0, 0, 41), (41, 70, 0, 0, 1, 42), (42, 2, 0, 0, 2, 43), (43, 6, 0, 0, 0, 44), (44, 40, 0, 11, 30, 47), (47, 0, 1, 0, 0, 48), (48, 11, 0, 0, 0, 49), (49, 41, 0, 11, 30, 52), (52, 2, 0, 0, 2, 53), (53, 6, 0, 0, 0, 54), (54, 40, 0, 11, 31, 57), (57, 0, 1, 0, 0, 58), (58, 11, 0, 0, 0, 59), (59, 41, 0, 11, 31, 62), (62, 2, 0, 0, 2, 63), (63, 80, 0, 198, 0, 66), (66, 0, 1, 0, 0, 67), (67, 70, 0, 0, 1, 68), (68, 0, 20000, 0, 0, 71), (71, 2, 0, 0, 2, 72), (72, 40, 0, 11, 26, 75), (75, 10, 0, 0, 0, 76), (76, 81, 0, 200, 1, 79), (79, 3, 0, 1, 0, 80), (80, 2, 0, 0, 2, 81), (81, 2, 0, 1, 0, 82), (82, 0, 1, 0, 0, 83), (83, 62, 0, 90, 1, 86), (86, 0, 2, 0, 0, 87), (87, 60, 0, 91, 0, 90), (90, 2, 0, 1, 0, 91), (91, 80, 0, 199, 1, 94), (94, 2, 0, 1, 0, 95), (95, 0, 1, 0, 0, 96), (96, 62, 0, 112, 1, 99), (99, 2, 0, 0, 2, 100), (100, 80, 0, 196, 0, 103), (103, 81, 0, 200, 1, 106), (106, 0, 1, 0, 0, 107), (107, 62, 0, 112, 1, 110), (110, 0, 0, 0, 0, 111), (111, 70, 0, 0, 1, 112), (112, 2, 0, 0, 2, 113), (113, 0, 20000, 0, 0, 116), (116, 2, 0, 0, 2, 117), (117, 40, 0, 11, 26, 120), (120, 10, 0, 0, 0, 121), (121, 80, 0, 197, 1, 124), (124, 0, 1, 0, 0, 125), (125, 70, 0, 0, 1, 126)]
def mX12_goesOn : gMt := (202, tbX12_goesOn, [])
set_option maxRecDepth 100000 in
theorem okX12_goesOn : gOK mX12_goesOn = true := by decide +kernel
def tbX12_reads : List (Nat × gRI) := [(0, 2, 0, 0, 2, 1), (1, 0, 0, 0, 0, 2), (2, 41, 0, 11, 24, 5), (5, 2, 0, 0, 2, 6), (6, 0, 0, 0, 0, 7), (7, 41, 0, 11, 29, 10), (10, 2, 0, 0, 2, 11), (11, 0, 0, 0, 0, 12), (12, 41, 0, 11, 30, 15), (15, 2, 0, 0, 2, 16), (16, 0, 0, 0, 0, 17), (17, 41, 0, 11, 31, 20), (20, 2, 0, 0, 2, 21), (21, 0, 0, 0, 0, 22), (22, 41, 0, 11, 32, 25), (25, 0, 1, 0, 0, 26), (26, 3, 0, 1, 0, 27), (27, 2, 0, 0, 2, 28), (28, 80, 0, 194, 0, 31), (31, 2, 0, 0, 2, 32), (32, 40, 0, 11, 25, 35), (35, 61, 0, 108, 0, 38), (38, 2, 0, 1, 0, 39), (39, 3, 0, 2, 0, 40), (40, 2, 0, 2, 0, 41), (41, 61, 0, 54, 0, 44), (44, 2, 0, 0, 2, 45), (45, 80, 0, 201, 0, 48), (48, 61, 0, 66, 1, 51), (51, 60, 0, 61, 0, 54), (54, 2, 0, 0, 2, 55), (55, 80, 0, 202, 0, 58), (58, 61, 0, 66, 1, 61), (61, 2, 0, 0, 2, 62), (62, 40, 0, 11, 23, 65), (65, 70, 0, 0, 0, 66), (66, 2, 0, 2, 0, 67), (67, 61, 0, 86, 0, 70), (70, 2, 0, 0, 2, 71), (71, 40, 0, 11, 25, 74), (74, 0, 3, 0, 0, 75), (75, 62, 0, 82, 1, 78), (78, 0, 1, 0, 0, 79), (79, 60, 0, 100, 0, 82), (82, 0, 0, 0, 0, 83), (83, 60, 0, 100, 0, 86), (86, 2, 0, 0, 2, 87), (87, 40, 0, 11, 26, 90), (90, 0, 41, 0, 0, 92), (92, 62, 0, 99, 0, 95), (95, 0, 1, 0, 0, 96), (96, 60, 0, 100, 0, 99), (99, 0, 0, 0, 0, 100), (100, 3, 0, 1, 0, 101), (101, 2, 0, 0, 2, 102), (102, 80, 0, 194, 0, 105), (105, 60, 0, 31, 0, 108), (108, 2, 0, 0, 2, 109), (109, 0, 1, 0, 0, 110), (110, 80, 0, 199, 1, 113), (113, 2, 0, 1, 0, 114), (114, 61, 0, 124, 1, 117), (117, 2, 0, 0, 2, 118), (118, 40, 0, 11, 30, 121), (121, 61, 0, 131, 5, 124), (124, 2, 0, 0, 2, 125), (125, 40, 0, 11, 23, 128), (128, 60, 0, 132, 0, 131), (131, 0, -1, 0, 0, 132), (132, 70, 0, 0, 0, 133)]
def mX12_reads : gMt := (203, tbX12_reads, [])
set_option maxRecDepth 100000 in
theorem okX12_reads : gOK mX12_reads = true := by decide +kernel
def tbX12_law : List (Nat × gRI) := [(0, 2, 0, 1, 0, 1), (1, 0, 0, 0, 0, 2), (2, 0, 1, 0, 0, 3), (3, 81, 0, 153, 3, 6), (6, 61, 0, 15, 1, 9), (9, 2, 0, 0, 2, 10), (10, 0, 0, 0, 0, 11), (11, 80, 0, 154, 1, 14), (14, 70, 0, 0, 0, 15), (15, 2, 0, 0, 2, 16), (16, 80, 0, 203, 0, 19), (19, 3, 0, 2, 0, 20), (20, 2, 0, 0, 2, 21), (21, 0, 0, 0, 0, 22), (22, 41, 0, 11, 22, 25), (25, 2, 0, 2, 0, 26), (26, 61, 0, 33, 2, 29), (29, 0, -1, 0, 0, 30), (30, 2, 0, 2, 0, 31), (31, 11, 0, 0, 0, 32), (32, 70, 0, 0, 0, 33), (33, 2, 0, 0, 2, 34), (34, 40, 0, 11, 13, 37), (37, 2, 0, 1, 0, 38), (38, 2, 0, 0, 2, 39), (39, 40, 0, 11, 29, 42), (42, 48, 0, 0, 0, 43), (43, 0, 0, 0, 0, 44), (44, 3, 0, 3, 0, 45), (45, 2, 0, 3, 0, 46), (46, 2, 0, 0, 2, 47), (47, 40, 0, 11, 29, 50), (50, 62, 0, 76, 3, 53), (53, 2, 0, 0, 2, 54), (54, 40, 0, 11, 14, 57), (57, 0, 120, 0, 0, 59), (59, 2, 0, 1, 0, 60), (60, 12, 0, 0, 0, 61), (61, 2, 0, 3, 0, 62), (62, 10, 0, 0, 0, 63), (63, 2, 0, 0, 2, 64), (64, 40, 0, 11, 27, 67), (67, 2, 0, 3, 0, 68), (68, 43, 0, 0, 0, 69), (69, 48, 0, 0, 0, 70), (70, 5, 1, 3, 0, 73), (73, 60, 0, 45, 0, 76), (76, 2, 0, 0, 2, 77), (77, 40, 0, 11, 32, 80), (80, 70, 0, 0, 0, 81)]
def mX12_law : gMt := (204, tbX12_law, [])
set_option maxRecDepth 100000 in
theorem okX12_law : gOK mX12_law = true := by decide +kernel
def tbX12_repeal : List (Nat × gRI) := [(0, 2, 0, 1, 0, 1), (1, 0, 0, 0, 0, 2), (2, 0, 1, 0, 0, 3), (3, 81, 0, 153, 3, 6), (6, 61, 0, 15, 1, 9), (9, 2, 0, 0, 2, 10), (10, 0, 0, 0, 0, 11), (11, 80, 0, 154, 1, 14), (14, 70, 0, 0, 0, 15), (15, 2, 0, 0, 2, 16), (16, 40, 0, 11, 13, 19), (19, 2, 0, 1, 0, 20), (20, 43, 0, 0, 0, 21), (21, 61, 0, 28, 5, 24), (24, 0, 1, 0, 0, 25), (25, 60, 0, 29, 0, 28), (28, 0, 0, 0, 0, 29), (29, 3, 0, 2, 0, 30), (30, 2, 0, 0, 2, 31), (31, 40, 0, 11, 13, 34), (34, 2, 0, 1, 0, 35), (35, 0, 0, 0, 0, 36), (36, 48, 0, 0, 0, 37), (37, 2, 0, 2, 0, 38), (38, 70, 0, 0, 0, 39)]
def mX12_repeal : gMt := (205, tbX12_repeal, [])
set_option maxRecDepth 100000 in
theorem okX12_repeal : gOK mX12_repeal = true := by decide +kernel
def tbX12_others : List (Nat × gRI) := [(0, 0, 0, 0, 0, 1), (1, 3, 0, 2, 0, 2), (2, 0, 0, 0, 0, 3), (3, 3, 0, 3, 0, 4), (4, 2, 0, 3, 0, 5), (5, 2, 0, 0, 2, 6), (6, 40, 0, 11, 6, 9), (9, 62, 0, 55, 3, 12), (12, 2, 0, 2, 0, 13), (13, 2, 0, 3, 0, 14), (14, 2, 0, 1, 0, 15), (15, 62, 0, 46, 0, 18), (18, 2, 0, 0, 2, 19), (19, 2, 0, 3, 0, 20), (20, 0, 6, 0, 0, 22), (22, 80, 0, 165, 2, 25), (25, 61, 0, 46, 2, 28), (28, 2, 0, 0, 2, 29), (29, 2, 0, 3, 0, 30), (30, 2, 0, 0, 2, 31), (31, 2, 0, 1, 0, 32), (32, 0, 4, 0, 0, 33), (33, 80, 0, 165, 2, 36), (36, 80, 0, 172, 2, 39), (39, 61, 0, 46, 0, 42), (42, 0, 1, 0, 0, 43), (43, 60, 0, 47, 0, 46), (46, 0, 0, 0, 0, 47), (47, 10, 0, 0, 0, 48), (48, 3, 0, 2, 0, 49), (49, 5, 1, 3, 0, 52), (52, 60, 0, 4, 0, 55), (55, 2, 0, 2, 0, 56), (56, 70, 0, 0, 0, 57)]
def mX12_others : gMt := (206, tbX12_others, [])
set_option maxRecDepth 100000 in
theorem okX12_others : gOK mX12_others = true := by decide +kernel
def tbX12_named : List (Nat × gRI) := [(0, 2, 0, 1, 0, 1), (1, 64, 97, 112, 14, 72), (72, 2, 0, 0, 2, 73), (73, 2, 0, 2, 0, 74), (74, 0, 1, 0, 0, 75), (75, 80, 0, 165, 2, 78), (78, 70, 0, 0, 0, 79), (79, 2, 0, 0, 2, 80), (80, 2, 0, 2, 0, 81), (81, 0, 2, 0, 0, 82), (82, 80, 0, 165, 2, 85), (85, 70, 0, 0, 0, 86), (86, 2, 0, 0, 2, 87), (87, 2, 0, 2, 0, 88), (88, 0, 5, 0, 0, 89), (89, 80, 0, 165, 2, 92), (92, 70, 0, 0, 0, 93), (93, 2, 0, 0, 2, 94), (94, 2, 0, 2, 0, 95), (95, 0, 0, 0, 0, 96), (96, 80, 0, 165, 2, 99), (99, 70, 0, 0, 0, 100), (100, 2, 0, 0, 2, 101), (101, 2, 0, 2, 0, 102), (102, 0, 4, 0, 0, 103), (103, 80, 0, 165, 2, 106), (106, 2, 0, 0, 2, 107), (107, 40, 0, 11, 0, 110), (110, 11, 0, 0, 0, 111), (111, 70, 0, 0, 0, 112), (112, 2, 0, 0, 2, 113), (113, 2, 0, 2, 0, 114), (114, 80, 0, 206, 1, 117), (117, 70, 0, 0, 0, 118)]
def mX12_named : gMt := (207, tbX12_named, [(1, [(97, 79), (98, 112), (99, 112), (100, 100), (101, 112), (102, 112), (103, 112), (104, 112), (105, 112), (106, 112), (107, 93), (108, 72), (109, 112), (110, 86)])])
set_option maxRecDepth 100000 in
theorem okX12_named : gOK mX12_named = true := by decide +kernel
def tbX12_joined : List (Nat × gRI) := [(0, 2, 0, 0, 0, 1), (1, 65, 0, 98, 0, 52), (52, 2, 0, 1, 0, 53), (53, 2, 0, 2, 0, 54), (54, 10, 0, 0, 0, 55), (55, 70, 0, 0, 0, 56), (56, 2, 0, 1, 0, 57), (57, 2, 0, 2, 0, 58), (58, 11, 0, 0, 0, 59), (59, 70, 0, 0, 0, 60), (60, 2, 0, 1, 0, 61), (61, 2, 0, 2, 0, 62), (62, 12, 0, 0, 0, 63), (63, 70, 0, 0, 0, 64), (64, 2, 0, 2, 0, 65), (65, 61, 0, 72, 1, 68), (68, 0, 0, 0, 0, 69), (69, 60, 0, 86, 0, 72), (72, 2, 0, 2, 0, 73), (73, 0, -1, 0, 0, 74), (74, 62, 0, 83, 1, 77), (77, 0, 0, 0, 0, 78), (78, 2, 0, 1, 0, 79), (79, 11, 0, 0, 0, 80), (80, 60, 0, 86, 0, 83), (83, 2, 0, 1, 0, 84), (84, 2, 0, 2, 0, 85), (85, 14, 0, 0, 0, 86), (86, 70, 0, 0, 0, 87), (87, 2, 0, 1, 0, 88), (88, 2, 0, 2, 0, 89), (89, 62, 0, 96, 3, 92), (92, 0, 1, 0, 0, 93), (93, 60, 0, 97, 0, 96), (96, 0, 0, 0, 0, 97), (97, 70, 0, 0, 0, 98), (98, 2, 0, 1, 0, 99), (99, 2, 0, 2, 0, 100), (100, 62, 0, 107, 1, 103), (103, 0, 1, 0, 0, 104), (104, 60, 0, 108, 0, 107), (107, 0, 0, 0, 0, 108), (108, 70, 0, 0, 0, 109)]
def mX12_joined : gMt := (208, tbX12_joined, [(1, [(42, 60), (43, 52), (45, 56), (47, 64), (60, 87)])])
set_option maxRecDepth 100000 in
theorem okX12_joined : gOK mX12_joined = true := by decide +kernel
def tbX12_worked : List (Nat × gRI) := [(0, 0, 0, 0, 0, 1), (1, 3, 0, 3, 0, 2), (2, 0, 120, 0, 0, 4), (4, 2, 0, 1, 0, 5), (5, 12, 0, 0, 0, 6), (6, 3, 0, 4, 0, 8), (8, 2, 0, 4, 0, 10), (10, 0, 120, 0, 0, 12), (12, 2, 0, 1, 0, 13), (13, 12, 0, 0, 0, 14), (14, 2, 0, 0, 2, 15), (15, 40, 0, 11, 13, 18), (18, 2, 0, 1, 0, 19), (19, 43, 0, 0, 0, 20), (20, 10, 0, 0, 0, 21), (21, 62, 0, 146, 3, 24), (24, 2, 0, 0, 2, 25), (25, 40, 0, 11, 14, 28), (28, 2, 0, 4, 0, 30), (30, 43, 0, 0, 0, 31), (31, 3, 0, 5, 0, 33), (33, 2, 0, 5, 0, 35), (35, 0, 30000, 0, 0, 38), (38, 62, 0, 62, 1, 41), (41, 2, 0, 0, 2, 42), (42, 40, 0, 11, 33, 45), (45, 2, 0, 3, 0, 46), (46, 0, 1, 0, 0, 47), (47, 11, 0, 0, 0, 48), (48, 0, 0, 0, 0, 49), (49, 2, 0, 0, 2, 50), (50, 40, 0, 11, 33, 53), (53, 2, 0, 3, 0, 54), (54, 0, 1, 0, 0, 55), (55, 11, 0, 0, 0, 56), (56, 43, 0, 0, 0, 57), (57, 11, 0, 0, 0, 58), (58, 48, 0, 0, 0, 59), (59, 60, 0, 140, 0, 62), (62, 2, 0, 5, 0, 64), (64, 0, 20000, 0, 0, 67), (67, 62, 0, 107, 2, 70), (70, 5, -1, 3, 0, 73), (73, 2, 0, 0, 2, 74), (74, 40, 0, 11, 33, 77), (77, 2, 0, 3, 0, 78), (78, 0, 1, 0, 0, 79), (79, 11, 0, 0, 0, 80), (80, 2, 0, 5, 0, 82), (82, 0, 20000, 0, 0, 85), (85, 11, 0, 0, 0, 86), (86, 2, 0, 0, 2, 87), (87, 40, 0, 11, 33, 90), (90, 2, 0, 3, 0, 91), (91, 0, 1, 0, 0, 92), (92, 11, 0, 0, 0, 93), (93, 43, 0, 0, 0, 94), (94, 2, 0, 0, 2, 95), (95, 40, 0, 11, 33, 98), (98, 2, 0, 3, 0, 99), (99, 43, 0, 0, 0, 100), (100, 81, 0, 208, 3, 103), (103, 48, 0, 0, 0, 104), (104, 60, 0, 140, 0, 107), (107, 2, 0, 0, 2, 108), (108, 40, 0, 11, 33, 111), (111, 2, 0, 3, 0, 112), (112, 2, 0, 5, 0, 114), (114, 0, 10000, 0, 0, 117), (117, 62, 0, 134, 2, 120), (120, 2, 0, 0, 2, 121), (121, 2, 0, 5, 0, 123), (123, 0, 10000, 0, 0, 126), (126, 11, 0, 0, 0, 127), (127, 2, 0, 2, 0, 128), (128, 80, 0, 207, 2, 131), (131, 60, 0, 136, 0, 134), (134, 2, 0, 5, 0, 136), (136, 48, 0, 0, 0, 137), (137, 5, 1, 3, 0, 140), (140, 5, 1, 4, 0, 143), (143, 60, 0, 8, 0, 146), (146, 2, 0, 0, 2, 147), (147, 40, 0, 11, 33, 150), (150, 0, 0, 0, 0, 151), (151, 43, 0, 0, 0, 152), (152, 70, 0, 0, 0, 153)]
def mX12_worked : gMt := (209, tbX12_worked, [])
set_option maxRecDepth 100000 in
theorem okX12_worked : gOK mX12_worked = true := by decide +kernel
def tbX12_priceBy : List (Nat × gRI) := [(0, 2, 0, 0, 2, 1), (1, 2, 0, 1, 0, 2), (2, 0, 0, 0, 0, 3), (3, 80, 0, 165, 2, 6), (6, 3, 0, 2, 0, 7), (7, 0, 10, 0, 0, 9), (9, 2, 0, 0, 2, 10), (10, 2, 0, 1, 0, 11), (11, 0, 1, 0, 0, 12), (12, 80, 0, 165, 2, 15), (15, 10, 0, 0, 0, 16), (16, 3, 0, 3, 0, 17), (17, 2, 0, 2, 0, 18), (18, 0, 2, 0, 0, 19), (19, 62, 0, 35, 3, 22), (22, 2, 0, 2, 0, 23), (23, 0, 1, 0, 0, 24), (24, 62, 0, 33, 1, 27), (27, 2, 0, 3, 0, 28), (28, 0, 3, 0, 0, 29), (29, 11, 0, 0, 0, 30), (30, 60, 0, 34, 0, 33), (33, 2, 0, 3, 0, 34), (34, 70, 0, 0, 0, 35), (35, 2, 0, 3, 0, 36), (36, 0, 2, 0, 0, 37), (37, 2, 0, 0, 2, 38), (38, 2, 0, 1, 0, 39), (39, 0, 2, 0, 0, 40), (40, 80, 0, 165, 2, 43), (43, 12, 0, 0, 0, 44), (44, 10, 0, 0, 0, 45), (45, 3, 0, 4, 0, 47), (47, 2, 0, 2, 0, 48), (48, 0, 3, 0, 0, 49), (49, 62, 0, 59, 1, 52), (52, 0, 2, 0, 0, 53), (53, 2, 0, 4, 0, 55), (55, 12, 0, 0, 0, 56), (56, 60, 0, 76, 0, 59), (59, 2, 0, 2, 0, 60), (60, 0, 4, 0, 0, 61), (61, 62, 0, 74, 1, 64), (64, 2, 0, 4, 0, 66), (66, 2, 0, 4, 0, 68), (68, 0, 3, 0, 0, 69), (69, 14, 0, 0, 0, 70), (70, 11, 0, 0, 0, 71), (71, 60, 0, 76, 0, 74), (74, 2, 0, 4, 0, 76), (76, 70, 0, 0, 0, 77)]
def mX12_priceBy : gMt := (210, tbX12_priceBy, [])
set_option maxRecDepth 100000 in
theorem okX12_priceBy : gOK mX12_priceBy = true := by decide +kernel
def tbX12_held : List (Nat × gRI) := [(0, 2, 0, 0, 0, 1), (1, 61, 0, 8, 3, 4), (4, 0, 0, 0, 0, 5), (5, 60, 0, 18, 0, 8), (8, 2, 0, 0, 0, 9), (9, 2, 0, 1, 0, 10), (10, 62, 0, 17, 5, 13), (13, 2, 0, 1, 0, 14), (14, 60, 0, 18, 0, 17), (17, 2, 0, 0, 0, 18), (18, 70, 0, 0, 0, 19)]
def mX12_held : gMt := (211, tbX12_held, [])
set_option maxRecDepth 100000 in
theorem okX12_held : gOK mX12_held = true := by decide +kernel
def tbX12_saysOf : List (Nat × gRI) := [(0, 2, 0, 0, 2, 1), (1, 40, 0, 11, 13, 4), (4, 2, 0, 1, 0, 5), (5, 43, 0, 0, 0, 6), (6, 61, 0, 31, 5, 9), (9, 2, 0, 0, 2, 10), (10, 2, 0, 1, 0, 11), (11, 2, 0, 2, 0, 12), (12, 80, 0, 209, 2, 15), (15, 2, 0, 1, 0, 16), (16, 61, 0, 25, 1, 19), (19, 0, 9999, 0, 0, 22), (22, 60, 0, 27, 0, 25), (25, 0, 100, 0, 0, 27), (27, 81, 0, 211, 2, 30), (30, 70, 0, 0, 0, 31), (31, 2, 0, 0, 2, 32), (32, 2, 0, 2, 0, 33), (33, 0, 4, 0, 0, 34), (34, 80, 0, 165, 2, 37), (37, 2, 0, 0, 2, 38), (38, 40, 0, 11, 0, 41), (41, 11, 0, 0, 0, 42), (42, 3, 0, 3, 0, 43), (43, 2, 0, 1, 0, 44), (44, 61, 0, 55, 1, 47), (47, 2, 0, 0, 2, 48), (48, 2, 0, 2, 0, 49), (49, 80, 0, 210, 1, 52), (52, 60, 0, 77, 0, 55), (55, 2, 0, 3, 0, 56), (56, 0, 7, 0, 0, 58), (58, 62, 0, 66, 2, 61), (61, 0, 100, 0, 0, 63), (63, 60, 0, 77, 0, 66), (66, 2, 0, 3, 0, 67), (67, 0, 1, 0, 0, 68), (68, 62, 0, 76, 2, 71), (71, 0, 50, 0, 0, 73), (73, 60, 0, 77, 0, 76), (76, 0, 0, 0, 0, 77), (77, 70, 0, 0, 0, 78)]
def mX12_saysOf : gMt := (212, tbX12_saysOf, [])
set_option maxRecDepth 100000 in
theorem okX12_saysOf : gOK mX12_saysOf = true := by decide +kernel
def tbX12_says : List (Nat × gRI) := [(0, 2, 0, 1, 0, 1), (1, 0, 0, 0, 0, 2), (2, 0, 1, 0, 0, 3), (3, 81, 0, 153, 3, 6), (6, 61, 0, 26, 0, 9), (9, 2, 0, 0, 2, 10), (10, 2, 0, 2, 0, 11), (11, 80, 0, 156, 1, 14), (14, 61, 0, 26, 0, 17), (17, 2, 0, 0, 2, 18), (18, 2, 0, 1, 0, 19), (19, 2, 0, 2, 0, 20), (20, 80, 0, 212, 2, 23), (23, 60, 0, 31, 0, 26), (26, 2, 0, 0, 2, 27), (27, 0, 0, 0, 0, 28), (28, 80, 0, 154, 1, 31), (31, 70, 0, 0, 0, 32)]
def mX12_says : gMt := (213, tbX12_says, [])
set_option maxRecDepth 100000 in
theorem okX12_says : gOK mX12_says = true := by decide +kernel
def tbX12_pay : List (Nat × gRI) := [(0, 2, 0, 0, 2, 1), (1, 2, 0, 1, 0, 2), (2, 80, 0, 156, 1, 5), (5, 61, 0, 14, 1, 8), (8, 2, 0, 0, 2, 9), (9, 0, 0, 0, 0, 10), (10, 80, 0, 154, 1, 13), (13, 70, 0, 0, 0, 14), (14, 2, 0, 0, 2, 15), (15, 2, 0, 1, 0, 16), (16, 0, 6, 0, 0, 18), (18, 80, 0, 165, 2, 21), (21, 0, -2, 0, 0, 23), (23, 62, 0, 36, 0, 26), (26, 2, 0, 0, 2, 27), (27, 2, 0, 1, 0, 28), (28, 0, 8, 0, 0, 30), (30, 80, 0, 165, 2, 33), (33, 61, 0, 42, 2, 36), (36, 2, 0, 0, 2, 37), (37, 0, 4, 0, 0, 38), (38, 80, 0, 154, 1, 41), (41, 70, 0, 0, 0, 42), (42, 2, 0, 0, 2, 43), (43, 2, 0, 1, 0, 44), (44, 0, 5, 0, 0, 45), (45, 80, 0, 165, 2, 48), (48, 2, 0, 0, 2, 49), (49, 0, 0, 0, 0, 50), (50, 2, 0, 1, 0, 51), (51, 80, 0, 212, 2, 54), (54, 12, 0, 0, 0, 55), (55, 3, 0, 2, 0, 56), (56, 2, 0, 0, 2, 57), (57, 40, 0, 11, 7, 60), (60, 0, 12, 0, 0, 62), (62, 2, 0, 1, 0, 63), (63, 12, 0, 0, 0, 64), (64, 0, 8, 0, 0, 66), (66, 10, 0, 0, 0, 67), (67, 2, 0, 2, 0, 68), (68, 48, 0, 0, 0, 69), (69, 2, 0, 0, 2, 70), (70, 6, 0, 0, 0, 71), (71, 40, 0, 11, 1, 74), (74, 2, 0, 2, 0, 75), (75, 10, 0, 0, 0, 76), (76, 41, 0, 11, 1, 79), (79, 2, 0, 2, 0, 80), (80, 70, 0, 0, 0, 81)]
def mX12_pay : gMt := (214, tbX12_pay, [])
set_option maxRecDepth 100000 in
theorem okX12_pay : gOK mX12_pay = true := by decide +kernel
def tbX12_cancel : List (Nat × gRI) := [(0, 2, 0, 0, 2, 1), (1, 2, 0, 1, 0, 2), (2, 80, 0, 156, 1, 5), (5, 61, 0, 14, 1, 8), (8, 2, 0, 0, 2, 9), (9, 0, 0, 0, 0, 10), (10, 80, 0, 154, 1, 13), (13, 70, 0, 0, 0, 14), (14, 2, 0, 0, 2, 15), (15, 2, 0, 1, 0, 16), (16, 0, 6, 0, 0, 18), (18, 80, 0, 165, 2, 21), (21, 0, -2, 0, 0, 23), (23, 62, 0, 44, 0, 26), (26, 2, 0, 0, 2, 27), (27, 2, 0, 1, 0, 28), (28, 0, 6, 0, 0, 30), (30, 80, 0, 165, 2, 33), (33, 61, 0, 50, 2, 36), (36, 2, 0, 0, 2, 37), (37, 2, 0, 1, 0, 38), (38, 80, 0, 166, 1, 41), (41, 61, 0, 50, 0, 44), (44, 2, 0, 0, 2, 45), (45, 0, 4, 0, 0, 46), (46, 80, 0, 154, 1, 49), (49, 70, 0, 0, 0, 50), (50, 2, 0, 0, 2, 51), (51, 2, 0, 1, 0, 52), (52, 0, 8, 0, 0, 54), (54, 80, 0, 165, 2, 57), (57, 61, 0, 80, 5, 60), (60, 2, 0, 0, 2, 61), (61, 2, 0, 1, 0, 62), (62, 0, 8, 0, 0, 64), (64, 80, 0, 165, 2, 67), (67, 2, 0, 0, 2, 68), (68, 0, 1, 0, 0, 69), (69, 2, 0, 1, 0, 70), (70, 80, 0, 212, 2, 73), (73, 12, 0, 0, 0, 74), (74, 0, 100, 0, 0, 76), (76, 14, 0, 0, 0, 77), (77, 60, 0, 81, 0, 80), (80, 0, 0, 0, 0, 81), (81, 3, 0, 2, 0, 82), (82, 2, 0, 0, 2, 83), (83, 40, 0, 11, 7, 86), (86, 0, 12, 0, 0, 88), (88, 2, 0, 1, 0, 89), (89, 12, 0, 0, 0, 90), (90, 0, 6, 0, 0, 92), (92, 10, 0, 0, 0, 93), (93, 0, -2, 0, 0, 95), (95, 48, 0, 0, 0, 96), (96, 2, 0, 0, 2, 97), (97, 6, 0, 0, 0, 98), (98, 40, 0, 11, 1, 101), (101, 2, 0, 2, 0, 102), (102, 11, 0, 0, 0, 103), (103, 41, 0, 11, 1, 106), (106, 2, 0, 2, 0, 107), (107, 70, 0, 0, 0, 108)]
def mX12_cancel : gMt := (215, tbX12_cancel, [])
set_option maxRecDepth 100000 in
theorem okX12_cancel : gOK mX12_cancel = true := by decide +kernel
def tbX12_review : List (Nat × gRI) := [(0, 2, 0, 0, 2, 1), (1, 2, 0, 1, 0, 2), (2, 80, 0, 156, 1, 5), (5, 61, 0, 17, 0, 8), (8, 2, 0, 2, 0, 9), (9, 0, 1, 0, 0, 10), (10, 0, 5, 0, 0, 11), (11, 81, 0, 153, 3, 14), (14, 61, 0, 23, 1, 17), (17, 2, 0, 0, 2, 18), (18, 0, 0, 0, 0, 19), (19, 80, 0, 154, 1, 22), (22, 70, 0, 0, 0, 23), (23, 2, 0, 0, 2, 24), (24, 2, 0, 1, 0, 25), (25, 0, 6, 0, 0, 27), (27, 80, 0, 165, 2, 30), (30, 3, 0, 3, 0, 31), (31, 2, 0, 3, 0, 32), (32, 61, 0, 66, 2, 35), (35, 2, 0, 0, 2, 36), (36, 2, 0, 1, 0, 37), (37, 0, 4, 0, 0, 38), (38, 80, 0, 165, 2, 41), (41, 2, 0, 0, 2, 42), (42, 2, 0, 1, 0, 43), (43, 0, 5, 0, 0, 44), (44, 80, 0, 165, 2, 47), (47, 10, 0, 0, 0, 48), (48, 2, 0, 0, 2, 49), (49, 40, 0, 11, 0, 52), (52, 62, 0, 66, 4, 55), (55, 2, 0, 0, 2, 56), (56, 2, 0, 1, 0, 57), (57, 0, 11, 0, 0, 59), (59, 80, 0, 165, 2, 62), (62, 0, 1, 0, 0, 63), (63, 62, 0, 72, 1, 66), (66, 2, 0, 0, 2, 67), (67, 0, 4, 0, 0, 68), (68, 80, 0, 154, 1, 71), (71, 70, 0, 0, 0, 72), (72, 2, 0, 0, 2, 73), (73, 40, 0, 11, 7, 76), (76, 0, 12, 0, 0, 78), (78, 2, 0, 1, 0, 79), (79, 12, 0, 0, 0, 80), (80, 0, 11, 0, 0, 82), (82, 10, 0, 0, 0, 83), (83, 0, 1, 0, 0, 84), (84, 48, 0, 0, 0, 85), (85, 2, 0, 0, 2, 86), (86, 40, 0, 11, 4, 89), (89, 2, 0, 3, 0, 90), (90, 7, 0, 0, 0, 91), (91, 43, 0, 0, 0, 92), (92, 2, 0, 2, 0, 93), (93, 10, 0, 0, 0, 94), (94, 48, 0, 0, 0, 95), (95, 2, 0, 0, 2, 96), (96, 40, 0, 11, 5, 99), (99, 2, 0, 3, 0, 100), (100, 7, 0, 0, 0, 101), (101, 43, 0, 0, 0, 102), (102, 0, 1, 0, 0, 103), (103, 10, 0, 0, 0, 104), (104, 48, 0, 0, 0, 105), (105, 2, 0, 0, 2, 106), (106, 40, 0, 11, 5, 109), (109, 2, 0, 3, 0, 110), (110, 43, 0, 0, 0, 111), (111, 70, 0, 0, 0, 112)]
def mX12_review : gMt := (216, tbX12_review, [])
set_option maxRecDepth 100000 in
theorem okX12_review : gOK mX12_review = true := by decide +kernel
def tbX12_stars : List (Nat × gRI) := [(0, 2, 0, 0, 2, 1), (1, 2, 0, 1, 0, 2), (2, 80, 0, 155, 1, 5), (5, 61, 0, 14, 1, 8), (8, 2, 0, 0, 2, 9), (9, 0, 0, 0, 0, 10), (10, 80, 0, 154, 1, 13), (13, 70, 0, 0, 0, 14), (14, 2, 0, 0, 2, 15), (15, 40, 0, 11, 5, 18), (18, 2, 0, 1, 0, 19), (19, 43, 0, 0, 0, 20), (20, 61, 0, 31, 1, 23), (23, 2, 0, 0, 2, 24), (24, 0, 3, 0, 0, 25), (25, 80, 0, 154, 1, 28), (28, 60, 0, 47, 0, 31), (31, 0, 100, 0, 0, 33), (33, 2, 0, 0, 2, 34), (34, 40, 0, 11, 4, 37), (37, 2, 0, 1, 0, 38), (38, 43, 0, 0, 0, 39), (39, 12, 0, 0, 0, 40), (40, 2, 0, 0, 2, 41), (41, 40, 0, 11, 5, 44), (44, 2, 0, 1, 0, 45), (45, 43, 0, 0, 0, 46), (46, 14, 0, 0, 0, 47), (47, 70, 0, 0, 0, 48)]
def mX12_stars : gMt := (217, tbX12_stars, [])
set_option maxRecDepth 100000 in
theorem okX12_stars : gOK mX12_stars = true := by decide +kernel
def tbX12_use : List (Nat × gRI) := [(0, 2, 0, 0, 2, 1), (1, 2, 0, 1, 0, 2), (2, 80, 0, 156, 1, 5), (5, 61, 0, 29, 0, 8), (8, 2, 0, 2, 0, 9), (9, 0, 0, 0, 0, 10), (10, 0, 16777215, 0, 0, 13), (13, 81, 0, 153, 3, 16), (16, 61, 0, 29, 0, 19), (19, 2, 0, 3, 0, 20), (20, 0, 0, 0, 0, 21), (21, 0, 40, 0, 0, 23), (23, 81, 0, 153, 3, 26), (26, 61, 0, 35, 1, 29), (29, 2, 0, 0, 2, 30), (30, 0, 0, 0, 0, 31), (31, 80, 0, 154, 1, 34), (34, 70, 0, 0, 0, 35), (35, 2, 0, 0, 2, 36), (36, 40, 0, 11, 7, 39), (39, 0, 12, 0, 0, 41), (41, 2, 0, 1, 0, 42), (42, 12, 0, 0, 0, 43), (43, 0, 9, 0, 0, 45), (45, 10, 0, 0, 0, 46), (46, 2, 0, 2, 0, 47), (47, 48, 0, 0, 0, 48), (48, 2, 0, 0, 2, 49), (49, 40, 0, 11, 7, 52), (52, 0, 12, 0, 0, 54), (54, 2, 0, 1, 0, 55), (55, 12, 0, 0, 0, 56), (56, 0, 10, 0, 0, 58), (58, 10, 0, 0, 0, 59), (59, 2, 0, 3, 0, 60), (60, 48, 0, 0, 0, 61), (61, 0, 1, 0, 0, 62), (62, 70, 0, 0, 0, 63)]
def mX12_use : gMt := (218, tbX12_use, [])
set_option maxRecDepth 100000 in
theorem okX12_use : gOK mX12_use = true := by decide +kernel
def tbX12_isPost : List (Nat × gRI) := [(0, 2, 0, 0, 0, 1), (1, 0, 0, 0, 0, 2), (2, 0, 3, 0, 0, 3), (3, 81, 0, 153, 3, 6), (6, 70, 0, 0, 1, 7)]
def mX12_isPost : gMt := (219, tbX12_isPost, [])
set_option maxRecDepth 100000 in
theorem okX12_isPost : gOK mX12_isPost = true := by decide +kernel
def tbX12_limit : List (Nat × gRI) := [(0, 2, 0, 1, 0, 1), (1, 81, 0, 219, 1, 4), (4, 61, 0, 18, 0, 7), (7, 2, 0, 2, 0, 8), (8, 0, 0, 0, 0, 9), (9, 0, 200, 0, 0, 12), (12, 81, 0, 153, 3, 15), (15, 61, 0, 24, 1, 18), (18, 2, 0, 0, 2, 19), (19, 0, 0, 0, 0, 20), (20, 80, 0, 154, 1, 23), (23, 70, 0, 0, 0, 24), (24, 2, 0, 0, 2, 25), (25, 40, 0, 11, 8, 28), (28, 2, 0, 1, 0, 29), (29, 43, 0, 0, 0, 30), (30, 3, 0, 3, 0, 31), (31, 2, 0, 0, 2, 32), (32, 40, 0, 11, 8, 35), (35, 2, 0, 1, 0, 36), (36, 2, 0, 2, 0, 37), (37, 48, 0, 0, 0, 38), (38, 2, 0, 3, 0, 39), (39, 70, 0, 0, 0, 40)]
def mX12_limit : gMt := (220, tbX12_limit, [])
set_option maxRecDepth 100000 in
theorem okX12_limit : gOK mX12_limit = true := by decide +kernel
def tbX12_isHere : List (Nat × gRI) := [(0, 2, 0, 0, 2, 1), (1, 2, 0, 1, 0, 2), (2, 0, 6, 0, 0, 4), (4, 80, 0, 165, 2, 7), (7, 61, 0, 26, 2, 10), (10, 2, 0, 0, 2, 11), (11, 2, 0, 1, 0, 12), (12, 2, 0, 0, 2, 13), (13, 40, 0, 11, 0, 16), (16, 80, 0, 172, 2, 19), (19, 61, 0, 26, 0, 22), (22, 0, 1, 0, 0, 23), (23, 60, 0, 27, 0, 26), (26, 0, 0, 0, 0, 27), (27, 70, 0, 0, 1, 28)]
def mX12_isHere : gMt := (221, tbX12_isHere, [])
set_option maxRecDepth 100000 in
theorem okX12_isHere : gOK mX12_isHere = true := by decide +kernel
def tbX12_postOf : List (Nat × gRI) := [(0, 2, 0, 0, 2, 1), (1, 40, 0, 11, 3, 4), (4, 0, 8, 0, 0, 6), (6, 2, 0, 0, 2, 7), (7, 2, 0, 1, 0, 8), (8, 0, 6, 0, 0, 10), (10, 80, 0, 165, 2, 13), (13, 12, 0, 0, 0, 14), (14, 0, 7, 0, 0, 16), (16, 10, 0, 0, 0, 17), (17, 43, 0, 0, 0, 18), (18, 70, 0, 0, 0, 19)]
def mX12_postOf : gMt := (222, tbX12_postOf, [])
set_option maxRecDepth 100000 in
theorem okX12_postOf : gOK mX12_postOf = true := by decide +kernel
def tbX12_loadOf : List (Nat × gRI) := [(0, 0, 0, 0, 0, 1), (1, 3, 0, 3, 0, 2), (2, 0, 0, 0, 0, 3), (3, 3, 0, 4, 0, 5), (5, 2, 0, 4, 0, 7), (7, 2, 0, 0, 2, 8), (8, 40, 0, 11, 6, 11), (11, 62, 0, 70, 3, 14), (14, 2, 0, 3, 0, 15), (15, 2, 0, 0, 2, 16), (16, 2, 0, 4, 0, 18), (18, 80, 0, 221, 1, 21), (21, 61, 0, 61, 0, 24), (24, 2, 0, 0, 2, 25), (25, 2, 0, 4, 0, 27), (27, 80, 0, 222, 1, 30), (30, 2, 0, 1, 0, 31), (31, 62, 0, 61, 1, 34), (34, 2, 0, 0, 2, 35), (35, 2, 0, 4, 0, 37), (37, 0, 9, 0, 0, 39), (39, 80, 0, 165, 2, 42), (42, 2, 0, 2, 0, 43), (43, 20, 0, 0, 0, 44), (44, 0, 1, 0, 0, 45), (45, 16, 0, 0, 0, 46), (46, 0, 1, 0, 0, 47), (47, 62, 0, 61, 1, 50), (50, 2, 0, 0, 2, 51), (51, 2, 0, 4, 0, 53), (53, 0, 10, 0, 0, 55), (55, 80, 0, 165, 2, 58), (58, 60, 0, 62, 0, 61), (61, 0, 0, 0, 0, 62), (62, 10, 0, 0, 0, 63), (63, 3, 0, 3, 0, 64), (64, 5, 1, 4, 0, 67), (67, 60, 0, 5, 0, 70), (70, 2, 0, 3, 0, 71), (71, 70, 0, 0, 0, 72)]
def mX12_loadOf : gMt := (223, tbX12_loadOf, [])
set_option maxRecDepth 100000 in
theorem okX12_loadOf : gOK mX12_loadOf = true := by decide +kernel
def tbX12_load : List (Nat × gRI) := [(0, 2, 0, 1, 0, 1), (1, 81, 0, 219, 1, 4), (4, 61, 0, 26, 0, 7), (7, 2, 0, 2, 0, 8), (8, 0, 0, 0, 0, 9), (9, 0, 23, 0, 0, 11), (11, 81, 0, 153, 3, 14), (14, 61, 0, 26, 0, 17), (17, 2, 0, 0, 2, 18), (18, 2, 0, 1, 0, 19), (19, 2, 0, 2, 0, 20), (20, 80, 0, 223, 2, 23), (23, 60, 0, 31, 0, 26), (26, 2, 0, 0, 2, 27), (27, 0, 0, 0, 0, 28), (28, 80, 0, 154, 1, 31), (31, 70, 0, 0, 0, 32)]
def mX12_load : gMt := (224, tbX12_load, [])
set_option maxRecDepth 100000 in
theorem okX12_load : gOK mX12_load = true := by decide +kernel
def tbX12_trips : List (Nat × gRI) := [(0, 2, 0, 1, 0, 1), (1, 81, 0, 219, 1, 4), (4, 61, 0, 13, 1, 7), (7, 2, 0, 0, 2, 8), (8, 0, 0, 0, 0, 9), (9, 80, 0, 154, 1, 12), (12, 70, 0, 0, 0, 13), (13, 0, 0, 0, 0, 14), (14, 3, 0, 2, 0, 15), (15, 0, 0, 0, 0, 16), (16, 3, 0, 3, 0, 17), (17, 2, 0, 3, 0, 18), (18, 0, 24, 0, 0, 20), (20, 62, 0, 54, 3, 23), (23, 2, 0, 2, 0, 24), (24, 2, 0, 0, 2, 25), (25, 2, 0, 1, 0, 26), (26, 2, 0, 3, 0, 27), (27, 80, 0, 223, 2, 30), (30, 2, 0, 0, 2, 31), (31, 40, 0, 11, 8, 34), (34, 2, 0, 1, 0, 35), (35, 43, 0, 0, 0, 36), (36, 62, 0, 45, 5, 39), (39, 0, 1, 0, 0, 40), (40, 2, 0, 3, 0, 41), (41, 19, 0, 0, 0, 42), (42, 60, 0, 46, 0, 45), (45, 0, 0, 0, 0, 46), (46, 17, 0, 0, 0, 47), (47, 3, 0, 2, 0, 48), (48, 5, 1, 3, 0, 51), (51, 60, 0, 17, 0, 54), (54, 2, 0, 2, 0, 55), (55, 70, 0, 0, 0, 56)]
def mX12_trips : gMt := (225, tbX12_trips, [])
set_option maxRecDepth 100000 in
theorem okX12_trips : gOK mX12_trips = true := by decide +kernel
def tbX12_may : List (Nat × gRI) := [(0, 2, 0, 0, 2, 1), (1, 2, 0, 1, 0, 2), (2, 80, 0, 156, 1, 5), (5, 61, 0, 39, 0, 8), (8, 2, 0, 2, 0, 9), (9, 0, 0, 0, 0, 10), (10, 0, 23, 0, 0, 12), (12, 81, 0, 153, 3, 15), (15, 61, 0, 39, 0, 18), (18, 2, 0, 3, 0, 19), (19, 0, 1, 0, 0, 20), (20, 0, 24, 0, 0, 22), (22, 81, 0, 153, 3, 25), (25, 61, 0, 39, 0, 28), (28, 2, 0, 4, 0, 30), (30, 0, 0, 0, 0, 31), (31, 0, 40, 0, 0, 33), (33, 81, 0, 153, 3, 36), (36, 61, 0, 45, 1, 39), (39, 2, 0, 0, 2, 40), (40, 0, 0, 0, 0, 41), (41, 80, 0, 154, 1, 44), (44, 70, 0, 0, 0, 45), (45, 2, 0, 0, 2, 46), (46, 2, 0, 1, 0, 47), (47, 80, 0, 221, 1, 50), (50, 61, 0, 59, 1, 53), (53, 2, 0, 0, 2, 54), (54, 0, 4, 0, 0, 55), (55, 80, 0, 154, 1, 58), (58, 70, 0, 0, 0, 59), (59, 2, 0, 0, 2, 60), (60, 2, 0, 1, 0, 61), (61, 80, 0, 222, 1, 64), (64, 3, 0, 5, 0, 66), (66, 2, 0, 2, 0, 67), (67, 3, 0, 6, 0, 69), (69, 2, 0, 6, 0, 71), (71, 2, 0, 3, 0, 72), (72, 10, 0, 0, 0, 73), (73, 0, 24, 0, 0, 75), (75, 62, 0, 132, 4, 78), (78, 0, 0, 0, 0, 79), (79, 3, 0, 7, 0, 81), (81, 2, 0, 7, 0, 83), (83, 2, 0, 3, 0, 84), (84, 62, 0, 117, 3, 87), (87, 2, 0, 0, 2, 88), (88, 2, 0, 5, 0, 90), (90, 2, 0, 6, 0, 92), (92, 2, 0, 7, 0, 94), (94, 10, 0, 0, 0, 95), (95, 80, 0, 223, 2, 98), (98, 2, 0, 4, 0, 100), (100, 10, 0, 0, 0, 101), (101, 2, 0, 0, 2, 102), (102, 40, 0, 11, 8, 105), (105, 2, 0, 5, 0, 107), (107, 43, 0, 0, 0, 108), (108, 62, 0, 117, 4, 111), (111, 5, 1, 7, 0, 114), (114, 60, 0, 81, 0, 117), (117, 2, 0, 7, 0, 119), (119, 2, 0, 3, 0, 120), (120, 62, 0, 126, 1, 123), (123, 2, 0, 6, 0, 125), (125, 70, 0, 0, 0, 126), (126, 5, 1, 6, 0, 129), (129, 60, 0, 69, 0, 132), (132, 2, 0, 0, 2, 133), (133, 0, 3, 0, 0, 134), (134, 80, 0, 154, 1, 137), (137, 70, 0, 0, 0, 138)]
def mX12_may : gMt := (226, tbX12_may, [])
set_option maxRecDepth 100000 in
theorem okX12_may : gOK mX12_may = true := by decide +kernel
def tbX12_isWet : List (Nat × gRI) := [(0, 2, 0, 0, 2, 1), (1, 2, 0, 1, 0, 2), (2, 80, 0, 221, 1, 5), (5, 61, 0, 33, 0, 8), (8, 2, 0, 0, 2, 9), (9, 40, 0, 11, 3, 12), (12, 0, 8, 0, 0, 14), (14, 2, 0, 0, 2, 15), (15, 2, 0, 1, 0, 16), (16, 0, 6, 0, 0, 18), (18, 80, 0, 165, 2, 21), (21, 12, 0, 0, 0, 22), (22, 0, 3, 0, 0, 23), (23, 10, 0, 0, 0, 24), (24, 43, 0, 0, 0, 25), (25, 2, 0, 2, 0, 26), (26, 62, 0, 33, 3, 29), (29, 0, 1, 0, 0, 30), (30, 60, 0, 34, 0, 33), (33, 0, 0, 0, 0, 34), (34, 70, 0, 0, 1, 35)]
def mX12_isWet : gMt := (227, tbX12_isWet, [])
set_option maxRecDepth 100000 in
theorem okX12_isWet : gOK mX12_isWet = true := by decide +kernel
def tbX12_wet : List (Nat × gRI) := [(0, 2, 0, 1, 0, 1), (1, 81, 0, 157, 1, 4), (4, 61, 0, 13, 1, 7), (7, 2, 0, 0, 2, 8), (8, 0, 0, 0, 0, 9), (9, 80, 0, 154, 1, 12), (12, 70, 0, 0, 0, 13), (13, 0, 0, 0, 0, 14), (14, 3, 0, 2, 0, 15), (15, 0, 0, 0, 0, 16), (16, 3, 0, 3, 0, 17), (17, 2, 0, 3, 0, 18), (18, 2, 0, 0, 2, 19), (19, 40, 0, 11, 6, 22), (22, 62, 0, 50, 3, 25), (25, 2, 0, 2, 0, 26), (26, 2, 0, 0, 2, 27), (27, 2, 0, 3, 0, 28), (28, 2, 0, 1, 0, 29), (29, 80, 0, 227, 2, 32), (32, 61, 0, 41, 0, 35), (35, 0, 1, 0, 0, 36), (36, 2, 0, 3, 0, 37), (37, 19, 0, 0, 0, 38), (38, 60, 0, 42, 0, 41), (41, 0, 0, 0, 0, 42), (42, 17, 0, 0, 0, 43), (43, 3, 0, 2, 0, 44), (44, 5, 1, 3, 0, 47), (47, 60, 0, 17, 0, 50), (50, 2, 0, 2, 0, 51), (51, 70, 0, 0, 0, 52)]
def mX12_wet : gMt := (228, tbX12_wet, [])
set_option maxRecDepth 100000 in
theorem okX12_wet : gOK mX12_wet = true := by decide +kernel
def tbX12_isOpen : List (Nat × gRI) := [(0, 2, 0, 0, 2, 1), (1, 40, 0, 11, 3, 4), (4, 0, 8, 0, 0, 6), (6, 2, 0, 1, 0, 7), (7, 12, 0, 0, 0, 8), (8, 0, 3, 0, 0, 9), (9, 10, 0, 0, 0, 10), (10, 43, 0, 0, 0, 11), (11, 2, 0, 2, 0, 12), (12, 62, 0, 31, 2, 15), (15, 2, 0, 0, 2, 16), (16, 2, 0, 1, 0, 17), (17, 2, 0, 0, 2, 18), (18, 40, 0, 11, 0, 21), (21, 80, 0, 177, 2, 24), (24, 61, 0, 31, 3, 27), (27, 0, 1, 0, 0, 28), (28, 60, 0, 32, 0, 31), (31, 0, 0, 0, 0, 32), (32, 70, 0, 0, 1, 33)]
def mX12_isOpen : gMt := (229, tbX12_isOpen, [])
set_option maxRecDepth 100000 in
theorem okX12_isOpen : gOK mX12_isOpen = true := by decide +kernel
def tbX12_rescue : List (Nat × gRI) := [(0, 2, 0, 1, 0, 1), (1, 81, 0, 157, 1, 4), (4, 61, 0, 20, 0, 7), (7, 2, 0, 2, 0, 8), (8, 0, -1, 0, 0, 9), (9, 62, 0, 26, 0, 12), (12, 2, 0, 0, 2, 13), (13, 2, 0, 2, 0, 14), (14, 80, 0, 156, 1, 17), (17, 61, 0, 26, 1, 20), (20, 2, 0, 0, 2, 21), (21, 0, 0, 0, 0, 22), (22, 80, 0, 154, 1, 25), (25, 70, 0, 0, 0, 26), (26, 0, 0, 0, 0, 27), (27, 3, 0, 3, 0, 28), (28, 0, 0, 0, 0, 29), (29, 3, 0, 4, 0, 31), (31, 2, 0, 4, 0, 33), (33, 2, 0, 0, 2, 34), (34, 40, 0, 11, 6, 37), (37, 62, 0, 67, 3, 40), (40, 2, 0, 0, 2, 41), (41, 2, 0, 4, 0, 43), (43, 2, 0, 1, 0, 44), (44, 80, 0, 227, 2, 47), (47, 61, 0, 61, 0, 50), (50, 2, 0, 0, 2, 51), (51, 40, 0, 11, 35, 54), (54, 2, 0, 3, 0, 55), (55, 2, 0, 4, 0, 57), (57, 48, 0, 0, 0, 58), (58, 5, 1, 3, 0, 61), (61, 5, 1, 4, 0, 64), (64, 60, 0, 31, 0, 67), (67, 0, 0, 0, 0, 68), (68, 3, 0, 4, 0, 70), (70, 0, 0, 0, 0, 71), (71, 3, 0, 5, 0, 73), (73, 2, 0, 5, 0, 75), (75, 2, 0, 0, 2, 76), (76, 40, 0, 11, 2, 79), (79, 62, 0, 111, 3, 82), (82, 2, 0, 4, 0, 84), (84, 2, 0, 0, 2, 85), (85, 2, 0, 5, 0, 87), (87, 2, 0, 1, 0, 88), (88, 80, 0, 229, 2, 91), (91, 61, 0, 101, 0, 94), (94, 0, 1, 0, 0, 95), (95, 2, 0, 5, 0, 97), (97, 19, 0, 0, 0, 98), (98, 60, 0, 102, 0, 101), (101, 0, 0, 0, 0, 102), (102, 17, 0, 0, 0, 103), (103, 3, 0, 4, 0, 105), (105, 5, 1, 5, 0, 108), (108, 60, 0, 73, 0, 111), (111, 2, 0, 3, 0, 112), (112, 3, 0, 5, 0, 114), (114, 2, 0, 5, 0, 116), (116, 61, 0, 311, 2, 119), (119, 0, 0, 0, 0, 120), (120, 3, 0, 6, 0, 122), (122, 2, 0, 6, 0, 124), (124, 0, 1, 0, 0, 125), (125, 2, 0, 0, 2, 126), (126, 40, 0, 11, 2, 129), (129, 19, 0, 0, 0, 130), (130, 62, 0, 305, 3, 133), (133, 2, 0, 5, 0, 135), (135, 2, 0, 3, 0, 136), (136, 62, 0, 143, 1, 139), (139, 0, 0, 0, 0, 140), (140, 60, 0, 161, 0, 143), (143, 2, 0, 0, 2, 144), (144, 40, 0, 11, 34, 147), (147, 0, 4096, 0, 0, 150), (150, 2, 0, 5, 0, 152), (152, 12, 0, 0, 0, 153), (153, 0, 4096, 0, 0, 156), (156, 10, 0, 0, 0, 157), (157, 2, 0, 6, 0, 159), (159, 10, 0, 0, 0, 160), (160, 43, 0, 0, 0, 161), (161, 3, 0, 7, 0, 163), (163, 0, 0, 0, 0, 164), (164, 3, 0, 8, 0, 166), (166, 2, 0, 8, 0, 168), (168, 2, 0, 0, 2, 169), (169, 40, 0, 11, 2, 172), (172, 62, 0, 283, 3, 175), (175, 2, 0, 5, 0, 177), (177, 2, 0, 3, 0, 178), (178, 62, 0, 283, 3, 181), (181, 2, 0, 6, 0, 183), (183, 2, 0, 8, 0, 185), (185, 20, 0, 0, 0, 186), (186, 0, 1, 0, 0, 187), (187, 16, 0, 0, 0, 188), (188, 61, 0, 222, 1, 191), (191, 2, 0, 4, 0, 193), (193, 2, 0, 8, 0, 195), (195, 20, 0, 0, 0, 196), (196, 0, 1, 0, 0, 197), (197, 16, 0, 0, 0, 198), (198, 0, 1, 0, 0, 199), (199, 62, 0, 222, 1, 202), (202, 2, 0, 0, 2, 203), (203, 2, 0, 0, 2, 204), (204, 40, 0, 11, 35, 207), (207, 2, 0, 5, 0, 209), (209, 43, 0, 0, 0, 210), (210, 2, 0, 8, 0, 212), (212, 80, 0, 169, 2, 215), (215, 61, 0, 222, 1, 218), (218, 0, 1, 0, 0, 219), (219, 60, 0, 223, 0, 222), (222, 0, 0, 0, 0, 223), (223, 3, 0, 9, 0, 225), (225, 2, 0, 9, 0, 227), (227, 61, 0, 258, 0, 230), (230, 0, 1, 0, 0, 231), (231, 2, 0, 0, 2, 232), (232, 40, 0, 11, 34, 235), (235, 0, 4096, 0, 0, 238), (238, 2, 0, 5, 0, 240), (240, 12, 0, 0, 0, 241), (241, 0, 4096, 0, 0, 244), (244, 10, 0, 0, 0, 245), (245, 2, 0, 6, 0, 247), (247, 0, 1, 0, 0, 248), (248, 2, 0, 8, 0, 250), (250, 19, 0, 0, 0, 251), (251, 17, 0, 0, 0, 252), (252, 10, 0, 0, 0, 253), (253, 43, 0, 0, 0, 254), (254, 10, 0, 0, 0, 255), (255, 60, 0, 259, 0, 258), (258, 0, 0, 0, 0, 259), (259, 3, 0, 10, 0, 261), (261, 2, 0, 10, 0, 263), (263, 2, 0, 7, 0, 265), (265, 62, 0, 273, 5, 268), (268, 2, 0, 10, 0, 270), (270, 60, 0, 275, 0, 273), (273, 2, 0, 7, 0, 275), (275, 3, 0, 7, 0, 277), (277, 5, 1, 8, 0, 280), (280, 60, 0, 166, 0, 283), (283, 2, 0, 0, 2, 284), (284, 40, 0, 11, 34, 287), (287, 0, 4096, 0, 0, 290), (290, 2, 0, 5, 0, 292), (292, 12, 0, 0, 0, 293), (293, 2, 0, 6, 0, 295), (295, 10, 0, 0, 0, 296), (296, 2, 0, 7, 0, 298), (298, 48, 0, 0, 0, 299), (299, 5, 1, 6, 0, 302), (302, 60, 0, 122, 0, 305), (305, 5, -1, 5, 0, 308), (308, 60, 0, 114, 0, 311), (311, 2, 0, 2, 0, 312), (312, 0, -1, 0, 0, 313), (313, 62, 0, 323, 1, 316), (316, 2, 0, 0, 2, 317), (317, 40, 0, 11, 34, 320), (320, 0, 0, 0, 0, 321), (321, 43, 0, 0, 0, 322), (322, 70, 0, 0, 0, 323), (323, 0, 0, 0, 0, 324), (324, 3, 0, 5, 0, 326), (326, 0, 0, 0, 0, 327), (327, 3, 0, 6, 0, 329), (329, 2, 0, 6, 0, 331), (331, 2, 0, 3, 0, 332), (332, 62, 0, 508, 3, 335), (335, 0, -1, 0, 0, 336), (336, 3, 0, 7, 0, 338), (338, 2, 0, 0, 2, 339), (339, 40, 0, 11, 2, 342), (342, 0, 1, 0, 0, 343), (343, 11, 0, 0, 0, 344), (344, 3, 0, 8, 0, 346), (346, 2, 0, 8, 0, 348), (348, 61, 0, 457, 2, 351), (351, 2, 0, 5, 0, 353), (353, 2, 0, 8, 0, 355), (355, 20, 0, 0, 0, 356), (356, 0, 1, 0, 0, 357), (357, 16, 0, 0, 0, 358), (358, 61, 0, 392, 1, 361), (361, 2, 0, 4, 0, 363), (363, 2, 0, 8, 0, 365), (365, 20, 0, 0, 0, 366), (366, 0, 1, 0, 0, 367), (367, 16, 0, 0, 0, 368), (368, 0, 1, 0, 0, 369), (369, 62, 0, 392, 1, 372), (372, 2, 0, 0, 2, 373), (373, 2, 0, 0, 2, 374), (374, 40, 0, 11, 35, 377), (377, 2, 0, 6, 0, 379), (379, 43, 0, 0, 0, 380), (380, 2, 0, 8, 0, 382), (382, 80, 0, 169, 2, 385), (385, 61, 0, 392, 1, 388), (388, 0, 1, 0, 0, 389), (389, 60, 0, 393, 0, 392), (392, 0, 0, 0, 0, 393), (393, 3, 0, 9, 0, 395), (395, 2, 0, 9, 0, 397), (397, 61, 0, 447, 0, 400), (400, 0, 1, 0, 0, 401), (401, 2, 0, 0, 2, 402), (402, 40, 0, 11, 34, 405), (405, 0, 4096, 0, 0, 408), (408, 2, 0, 6, 0, 410), (410, 12, 0, 0, 0, 411), (411, 0, 4096, 0, 0, 414), (414, 10, 0, 0, 0, 415), (415, 2, 0, 5, 0, 417), (417, 0, 1, 0, 0, 418), (418, 2, 0, 8, 0, 420), (420, 19, 0, 0, 0, 421), (421, 17, 0, 0, 0, 422), (422, 10, 0, 0, 0, 423), (423, 43, 0, 0, 0, 424), (424, 10, 0, 0, 0, 425), (425, 2, 0, 0, 2, 426), (426, 40, 0, 11, 34, 429), (429, 0, 4096, 0, 0, 432), (432, 2, 0, 6, 0, 434), (434, 12, 0, 0, 0, 435), (435, 2, 0, 5, 0, 437), (437, 10, 0, 0, 0, 438), (438, 43, 0, 0, 0, 439), (439, 62, 0, 447, 1, 442), (442, 2, 0, 8, 0, 444), (444, 60, 0, 449, 0, 447), (447, 2, 0, 7, 0, 449), (449, 3, 0, 7, 0, 451), (451, 5, -1, 8, 0, 454), (454, 60, 0, 346, 0, 457), (457, 2, 0, 0, 2, 458), (458, 40, 0, 11, 35, 461), (461, 2, 0, 6, 0, 463), (463, 43, 0, 0, 0, 464), (464, 2, 0, 2, 0, 465), (465, 62, 0, 484, 1, 468), (468, 2, 0, 7, 0, 470), (470, 61, 0, 481, 3, 473), (473, 2, 0, 0, 2, 474), (474, 0, 3, 0, 0, 475), (475, 80, 0, 154, 1, 478), (478, 60, 0, 483, 0, 481), (481, 2, 0, 7, 0, 483), (483, 70, 0, 0, 0, 484), (484, 2, 0, 5, 0, 486), (486, 2, 0, 7, 0, 488), (488, 61, 0, 495, 3, 491), (491, 0, 0, 0, 0, 492), (492, 60, 0, 499, 0, 495), (495, 0, 1, 0, 0, 496), (496, 2, 0, 7, 0, 498), (498, 19, 0, 0, 0, 499), (499, 17, 0, 0, 0, 500), (500, 3, 0, 5, 0, 502), (502, 5, 1, 6, 0, 505), (505, 60, 0, 329, 0, 508), (508, 2, 0, 0, 2, 509), (509, 0, 3, 0, 0, 510), (510, 80, 0, 154, 1, 513), (513, 70, 0, 0, 0, 514)]
def mX12_rescue : gMt := (230, tbX12_rescue, [])
set_option maxRecDepth 100000 in
theorem okX12_rescue : gOK mX12_rescue = true := by decide +kernel
def tbX12_wash : List (Nat × gRI) := [(0, 2, 0, 1, 0, 1), (1, 0, 0, 0, 0, 2), (2, 0, 999, 0, 0, 5), (5, 81, 0, 153, 3, 8), (8, 61, 0, 21, 0, 11), (11, 2, 0, 2, 0, 12), (12, 0, 1, 0, 0, 13), (13, 0, 60, 0, 0, 15), (15, 81, 0, 153, 3, 18), (18, 61, 0, 27, 1, 21), (21, 2, 0, 0, 2, 22), (22, 0, 0, 0, 0, 23), (23, 80, 0, 154, 1, 26), (26, 70, 0, 0, 0, 27), (27, 2, 0, 0, 2, 28), (28, 40, 0, 11, 9, 31), (31, 0, 20, 0, 0, 33), (33, 62, 0, 42, 1, 36), (36, 2, 0, 0, 2, 37), (37, 0, 1, 0, 0, 38), (38, 80, 0, 154, 1, 41), (41, 70, 0, 0, 0, 42), (42, 2, 0, 0, 2, 43), (43, 40, 0, 11, 10, 46), (46, 2, 0, 0, 2, 47), (47, 40, 0, 11, 9, 50), (50, 2, 0, 1, 0, 51), (51, 48, 0, 0, 0, 52), (52, 2, 0, 0, 2, 53), (53, 40, 0, 11, 11, 56), (56, 2, 0, 0, 2, 57), (57, 40, 0, 11, 9, 60), (60, 2, 0, 2, 0, 61), (61, 48, 0, 0, 0, 62), (62, 2, 0, 0, 2, 63), (63, 6, 0, 0, 0, 64), (64, 40, 0, 11, 9, 67), (67, 0, 1, 0, 0, 68), (68, 10, 0, 0, 0, 69), (69, 41, 0, 11, 9, 72), (72, 2, 0, 0, 2, 73), (73, 40, 0, 11, 9, 76), (76, 70, 0, 0, 0, 77)]
def mX12_wash : gMt := (231, tbX12_wash, [])
set_option maxRecDepth 100000 in
theorem okX12_wash : gOK mX12_wash = true := by decide +kernel
def tbX12_block : List (Nat × gRI) := [(0, 2, 0, 1, 0, 1), (1, 0, 1, 0, 0, 2), (2, 0, 6, 0, 0, 4), (4, 81, 0, 153, 3, 7), (7, 61, 0, 19, 0, 10), (10, 2, 0, 2, 0, 11), (11, 0, 0, 0, 0, 12), (12, 0, 2, 0, 0, 13), (13, 81, 0, 153, 3, 16), (16, 61, 0, 25, 1, 19), (19, 2, 0, 0, 2, 20), (20, 0, 0, 0, 0, 21), (21, 80, 0, 154, 1, 24), (24, 70, 0, 0, 0, 25), (25, 0, 0, 0, 0, 26), (26, 3, 0, 3, 0, 27), (27, 2, 0, 3, 0, 28), (28, 0, 6, 0, 0, 30), (30, 62, 0, 46, 3, 33), (33, 2, 0, 0, 2, 34), (34, 40, 0, 11, 37, 37), (37, 2, 0, 3, 0, 38), (38, 0, 0, 0, 0, 39), (39, 48, 0, 0, 0, 40), (40, 5, 1, 3, 0, 43), (43, 60, 0, 27, 0, 46), (46, 0, 0, 0, 0, 47), (47, 3, 0, 3, 0, 48), (48, 2, 0, 3, 0, 49), (49, 0, 20, 0, 0, 51), (51, 62, 0, 67, 3, 54), (54, 2, 0, 0, 2, 55), (55, 40, 0, 11, 36, 58), (58, 2, 0, 3, 0, 59), (59, 0, 0, 0, 0, 60), (60, 49, 0, 0, 0, 61), (61, 5, 1, 3, 0, 64), (64, 60, 0, 48, 0, 67), (67, 0, 0, 0, 0, 68), (68, 3, 0, 3, 0, 69), (69, 0, 0, 0, 0, 70), (70, 3, 0, 4, 0, 72), (72, 0, 0, 0, 0, 73), (73, 3, 0, 5, 0, 75), (75, 0, 0, 0, 0, 76), (76, 3, 0, 6, 0, 78), (78, 2, 0, 6, 0, 80), (80, 2, 0, 0, 2, 81), (81, 40, 0, 11, 9, 84), (84, 62, 0, 327, 3, 87), (87, 0, -1, 0, 0, 88), (88, 3, 0, 7, 0, 90), (90, 2, 0, 0, 2, 91), (91, 40, 0, 11, 9, 94), (94, 0, 1, 0, 0, 95), (95, 11, 0, 0, 0, 96), (96, 3, 0, 8, 0, 98), (98, 2, 0, 8, 0, 100), (100, 61, 0, 150, 2, 103), (103, 2, 0, 0, 2, 104), (104, 40, 0, 11, 36, 107), (107, 2, 0, 8, 0, 109), (109, 44, 0, 0, 0, 110), (110, 61, 0, 140, 1, 113), (113, 2, 0, 7, 0, 115), (115, 61, 0, 135, 2, 118), (118, 2, 0, 0, 2, 119), (119, 40, 0, 11, 10, 122), (122, 2, 0, 8, 0, 124), (124, 43, 0, 0, 0, 125), (125, 2, 0, 0, 2, 126), (126, 40, 0, 11, 10, 129), (129, 2, 0, 7, 0, 131), (131, 43, 0, 0, 0, 132), (132, 62, 0, 140, 4, 135), (135, 2, 0, 8, 0, 137), (137, 60, 0, 142, 0, 140), (140, 2, 0, 7, 0, 142), (142, 3, 0, 7, 0, 144), (144, 5, -1, 8, 0, 147), (147, 60, 0, 98, 0, 150), (150, 2, 0, 0, 2, 151), (151, 40, 0, 11, 36, 154), (154, 2, 0, 7, 0, 156), (156, 0, 1, 0, 0, 157), (157, 49, 0, 0, 0, 158), (158, 0, 0, 0, 0, 159), (159, 3, 0, 8, 0, 161), (161, 0, 1, 0, 0, 162), (162, 3, 0, 9, 0, 164), (164, 2, 0, 9, 0, 166), (166, 2, 0, 1, 0, 167), (167, 62, 0, 202, 3, 170), (170, 2, 0, 0, 2, 171), (171, 40, 0, 11, 37, 174), (174, 2, 0, 9, 0, 176), (176, 43, 0, 0, 0, 177), (177, 2, 0, 0, 2, 178), (178, 40, 0, 11, 37, 181), (181, 2, 0, 8, 0, 183), (183, 43, 0, 0, 0, 184), (184, 62, 0, 192, 3, 187), (187, 2, 0, 9, 0, 189), (189, 60, 0, 194, 0, 192), (192, 2, 0, 8, 0, 194), (194, 3, 0, 8, 0, 196), (196, 5, 1, 9, 0, 199), (199, 60, 0, 164, 0, 202), (202, 2, 0, 0, 2, 203), (203, 40, 0, 11, 10, 206), (206, 2, 0, 7, 0, 208), (208, 43, 0, 0, 0, 209), (209, 2, 0, 0, 2, 210), (210, 40, 0, 11, 37, 213), (213, 2, 0, 8, 0, 215), (215, 43, 0, 0, 0, 216), (216, 62, 0, 229, 5, 219), (219, 2, 0, 0, 2, 220), (220, 40, 0, 11, 10, 223), (223, 2, 0, 7, 0, 225), (225, 43, 0, 0, 0, 226), (226, 60, 0, 236, 0, 229), (229, 2, 0, 0, 2, 230), (230, 40, 0, 11, 37, 233), (233, 2, 0, 8, 0, 235), (235, 43, 0, 0, 0, 236), (236, 3, 0, 9, 0, 238), (238, 2, 0, 9, 0, 240), (240, 2, 0, 0, 2, 241), (241, 40, 0, 11, 10, 244), (244, 2, 0, 7, 0, 246), (246, 43, 0, 0, 0, 247), (247, 11, 0, 0, 0, 248), (248, 3, 0, 10, 0, 250), (250, 2, 0, 10, 0, 252), (252, 2, 0, 3, 0, 253), (253, 62, 0, 261, 5, 256), (256, 2, 0, 10, 0, 258), (258, 60, 0, 262, 0, 261), (261, 2, 0, 3, 0, 262), (262, 3, 0, 3, 0, 263), (263, 2, 0, 5, 0, 265), (265, 2, 0, 10, 0, 267), (267, 61, 0, 274, 5, 270), (270, 0, 1, 0, 0, 271), (271, 60, 0, 275, 0, 274), (274, 0, 0, 0, 0, 275), (275, 10, 0, 0, 0, 276), (276, 3, 0, 5, 0, 278), (278, 2, 0, 0, 2, 279), (279, 40, 0, 11, 37, 282), (282, 2, 0, 8, 0, 284), (284, 2, 0, 9, 0, 286), (286, 2, 0, 0, 2, 287), (287, 40, 0, 11, 11, 290), (290, 2, 0, 7, 0, 292), (292, 43, 0, 0, 0, 293), (293, 10, 0, 0, 0, 294), (294, 48, 0, 0, 0, 295), (295, 2, 0, 0, 2, 296), (296, 40, 0, 11, 37, 299), (299, 2, 0, 8, 0, 301), (301, 43, 0, 0, 0, 302), (302, 2, 0, 4, 0, 304), (304, 62, 0, 317, 5, 307), (307, 2, 0, 0, 2, 308), (308, 40, 0, 11, 37, 311), (311, 2, 0, 8, 0, 313), (313, 43, 0, 0, 0, 314), (314, 60, 0, 319, 0, 317), (317, 2, 0, 4, 0, 319), (319, 3, 0, 4, 0, 321), (321, 5, 1, 6, 0, 324), (324, 60, 0, 78, 0, 327), (327, 2, 0, 2, 0, 328), (328, 61, 0, 335, 1, 331), (331, 2, 0, 3, 0, 332), (332, 60, 0, 347, 0, 335), (335, 2, 0, 2, 0, 336), (336, 0, 1, 0, 0, 337), (337, 62, 0, 345, 1, 340), (340, 2, 0, 4, 0, 342), (342, 60, 0, 347, 0, 345), (345, 2, 0, 5, 0, 347), (347, 70, 0, 0, 0, 348)]
def mX12_block : gMt := (232, tbX12_block, [])
set_option maxRecDepth 100000 in
theorem okX12_block : gOK mX12_block = true := by decide +kernel
def tbX12_dry : List (Nat × gRI) := [(0, 2, 0, 0, 2, 1), (1, 40, 0, 11, 9, 4), (4, 3, 0, 1, 0, 5), (5, 2, 0, 0, 2, 6), (6, 0, 0, 0, 0, 7), (7, 41, 0, 11, 9, 10), (10, 2, 0, 1, 0, 11), (11, 70, 0, 0, 0, 12)]
def mX12_dry : gMt := (233, tbX12_dry, [])
set_option maxRecDepth 100000 in
theorem okX12_dry : gOK mX12_dry = true := by decide +kernel
def tbX12_join : List (Nat × gRI) := [(0, 2, 0, 1, 0, 1), (1, 81, 0, 237, 1, 4), (4, 61, 0, 13, 1, 7), (7, 2, 0, 0, 2, 8), (8, 0, 0, 0, 0, 9), (9, 80, 0, 154, 1, 12), (12, 70, 0, 0, 0, 13), (13, 2, 0, 0, 2, 14), (14, 40, 0, 11, 38, 17), (17, 2, 0, 1, 0, 18), (18, 43, 0, 0, 0, 19), (19, 61, 0, 28, 1, 22), (22, 2, 0, 0, 2, 23), (23, 0, 5, 0, 0, 24), (24, 80, 0, 154, 1, 27), (27, 70, 0, 0, 0, 28), (28, 2, 0, 0, 2, 29), (29, 40, 0, 11, 39, 32), (32, 2, 0, 1, 0, 33), (33, 43, 0, 0, 0, 34), (34, 0, 3, 0, 0, 35), (35, 15, 0, 0, 0, 36), (36, 61, 0, 46, 0, 39), (39, 2, 0, 0, 2, 40), (40, 0, 6, 0, 0, 42), (42, 80, 0, 154, 1, 45), (45, 70, 0, 0, 0, 46), (46, 2, 0, 0, 2, 47), (47, 40, 0, 11, 39, 50), (50, 2, 0, 1, 0, 51), (51, 43, 0, 0, 0, 52), (52, 0, 3, 0, 0, 53), (53, 14, 0, 0, 0, 54), (54, 3, 0, 2, 0, 55), (55, 0, 0, 0, 0, 56), (56, 3, 0, 3, 0, 57), (57, 2, 0, 3, 0, 58), (58, 2, 0, 2, 0, 59), (59, 62, 0, 155, 3, 62), (62, 0, 60, 0, 0, 64), (64, 2, 0, 1, 0, 65), (65, 12, 0, 0, 0, 66), (66, 0, 3, 0, 0, 67), (67, 2, 0, 3, 0, 68), (68, 12, 0, 0, 0, 69), (69, 10, 0, 0, 0, 70), (70, 3, 0, 4, 0, 72), (72, 2, 0, 0, 2, 73), (73, 2, 0, 0, 2, 74), (74, 40, 0, 11, 40, 77), (77, 2, 0, 4, 0, 79), (79, 43, 0, 0, 0, 80), (80, 80, 0, 155, 1, 83), (83, 61, 0, 143, 0, 86), (86, 2, 0, 0, 2, 87), (87, 40, 0, 11, 40, 90), (90, 2, 0, 4, 0, 92), (92, 0, 1, 0, 0, 93), (93, 10, 0, 0, 0, 94), (94, 43, 0, 0, 0, 95), (95, 81, 0, 157, 1, 98), (98, 61, 0, 143, 0, 101), (101, 2, 0, 0, 2, 102), (102, 40, 0, 11, 40, 105), (105, 2, 0, 4, 0, 107), (107, 0, 2, 0, 0, 108), (108, 10, 0, 0, 0, 109), (109, 43, 0, 0, 0, 110), (110, 0, 1, 0, 0, 111), (111, 0, 30, 0, 0, 113), (113, 81, 0, 153, 3, 116), (116, 61, 0, 143, 0, 119), (119, 2, 0, 0, 2, 120), (120, 40, 0, 11, 40, 123), (123, 2, 0, 4, 0, 125), (125, 0, 1, 0, 0, 126), (126, 10, 0, 0, 0, 127), (127, 43, 0, 0, 0, 128), (128, 2, 0, 0, 2, 129), (129, 40, 0, 11, 40, 132), (132, 2, 0, 4, 0, 134), (134, 0, 2, 0, 0, 135), (135, 10, 0, 0, 0, 136), (136, 43, 0, 0, 0, 137), (137, 10, 0, 0, 0, 138), (138, 0, 100, 0, 0, 140), (140, 62, 0, 149, 5, 143), (143, 2, 0, 0, 2, 144), (144, 0, 0, 0, 0, 145), (145, 80, 0, 154, 1, 148), (148, 70, 0, 0, 0, 149), (149, 5, 1, 3, 0, 152), (152, 60, 0, 57, 0, 155), (155, 0, 0, 0, 0, 156), (156, 3, 0, 3, 0, 157), (157, 2, 0, 3, 0, 158), (158, 2, 0, 2, 0, 159), (159, 62, 0, 356, 3, 162), (162, 0, 60, 0, 0, 164), (164, 2, 0, 1, 0, 165), (165, 12, 0, 0, 0, 166), (166, 0, 3, 0, 0, 167), (167, 2, 0, 3, 0, 168), (168, 12, 0, 0, 0, 169), (169, 10, 0, 0, 0, 170), (170, 3, 0, 4, 0, 172), (172, 2, 0, 0, 2, 173), (173, 40, 0, 11, 40, 176), (176, 2, 0, 4, 0, 178), (178, 0, 1, 0, 0, 179), (179, 10, 0, 0, 0, 180), (180, 43, 0, 0, 0, 181), (181, 3, 0, 5, 0, 183), (183, 2, 0, 5, 0, 185), (185, 2, 0, 0, 2, 186), (186, 40, 0, 11, 40, 189), (189, 2, 0, 4, 0, 191), (191, 0, 1, 0, 0, 192), (192, 10, 0, 0, 0, 193), (193, 43, 0, 0, 0, 194), (194, 2, 0, 0, 2, 195), (195, 40, 0, 11, 40, 198), (198, 2, 0, 4, 0, 200), (200, 0, 2, 0, 0, 201), (201, 10, 0, 0, 0, 202), (202, 43, 0, 0, 0, 203), (203, 10, 0, 0, 0, 204), (204, 62, 0, 231, 3, 207), (207, 2, 0, 0, 2, 208), (208, 2, 0, 0, 2, 209), (209, 40, 0, 11, 40, 212), (212, 2, 0, 4, 0, 214), (214, 43, 0, 0, 0, 215), (215, 2, 0, 5, 0, 217), (217, 80, 0, 177, 2, 220), (220, 61, 0, 225, 2, 223), (223, 2, 0, 3, 0, 224), (224, 70, 0, 0, 0, 225), (225, 5, 1, 5, 0, 228), (228, 60, 0, 183, 0, 231), (231, 0, 0, 0, 0, 232), (232, 3, 0, 5, 0, 234), (234, 2, 0, 5, 0, 236), (236, 2, 0, 3, 0, 237), (237, 62, 0, 350, 3, 240), (240, 0, 60, 0, 0, 242), (242, 2, 0, 1, 0, 243), (243, 12, 0, 0, 0, 244), (244, 0, 3, 0, 0, 245), (245, 2, 0, 5, 0, 247), (247, 12, 0, 0, 0, 248), (248, 10, 0, 0, 0, 249), (249, 3, 0, 6, 0, 251), (251, 2, 0, 0, 2, 252), (252, 40, 0, 11, 40, 255), (255, 2, 0, 6, 0, 257), (257, 43, 0, 0, 0, 258), (258, 2, 0, 0, 2, 259), (259, 40, 0, 11, 40, 262), (262, 2, 0, 4, 0, 264), (264, 43, 0, 0, 0, 265), (265, 62, 0, 272, 1, 268), (268, 0, 1, 0, 0, 269), (269, 60, 0, 273, 0, 272), (272, 0, 0, 0, 0, 273), (273, 3, 0, 7, 0, 275), (275, 2, 0, 7, 0, 277), (277, 61, 0, 344, 0, 280), (280, 2, 0, 0, 2, 281), (281, 40, 0, 11, 40, 284), (284, 2, 0, 6, 0, 286), (286, 0, 1, 0, 0, 287), (287, 10, 0, 0, 0, 288), (288, 43, 0, 0, 0, 289), (289, 2, 0, 0, 2, 290), (290, 40, 0, 11, 40, 293), (293, 2, 0, 4, 0, 295), (295, 0, 1, 0, 0, 296), (296, 10, 0, 0, 0, 297), (297, 43, 0, 0, 0, 298), (298, 2, 0, 0, 2, 299), (299, 40, 0, 11, 40, 302), (302, 2, 0, 4, 0, 304), (304, 0, 2, 0, 0, 305), (305, 10, 0, 0, 0, 306), (306, 43, 0, 0, 0, 307), (307, 10, 0, 0, 0, 308), (308, 62, 0, 344, 3, 311), (311, 2, 0, 0, 2, 312), (312, 40, 0, 11, 40, 315), (315, 2, 0, 4, 0, 317), (317, 0, 1, 0, 0, 318), (318, 10, 0, 0, 0, 319), (319, 43, 0, 0, 0, 320), (320, 2, 0, 0, 2, 321), (321, 40, 0, 11, 40, 324), (324, 2, 0, 6, 0, 326), (326, 0, 1, 0, 0, 327), (327, 10, 0, 0, 0, 328), (328, 43, 0, 0, 0, 329), (329, 2, 0, 0, 2, 330), (330, 40, 0, 11, 40, 333), (333, 2, 0, 6, 0, 335), (335, 0, 2, 0, 0, 336), (336, 10, 0, 0, 0, 337), (337, 43, 0, 0, 0, 338), (338, 10, 0, 0, 0, 339), (339, 62, 0, 344, 3, 342), (342, 2, 0, 3, 0, 343), (343, 70, 0, 0, 0, 344), (344, 5, 1, 5, 0, 347), (347, 60, 0, 234, 0, 350), (350, 5, 1, 3, 0, 353), (353, 60, 0, 157, 0, 356), (356, 0, -1, 0, 0, 357), (357, 70, 0, 0, 0, 358)]
def mX12_join : gMt := (234, tbX12_join, [])
set_option maxRecDepth 100000 in
theorem okX12_join : gOK mX12_join = true := by decide +kernel
def tbX12_hold : List (Nat × gRI) := [(0, 2, 0, 1, 0, 1), (1, 0, 0, 0, 0, 2), (2, 0, 9, 0, 0, 4), (4, 81, 0, 153, 3, 7), (7, 61, 0, 23, 0, 10), (10, 2, 0, 2, 0, 11), (11, 0, -1, 0, 0, 12), (12, 62, 0, 29, 0, 15), (15, 2, 0, 0, 2, 16), (16, 2, 0, 2, 0, 17), (17, 80, 0, 156, 1, 20), (20, 61, 0, 29, 1, 23), (23, 2, 0, 0, 2, 24), (24, 0, 0, 0, 0, 25), (25, 80, 0, 154, 1, 28), (28, 70, 0, 0, 0, 29), (29, 2, 0, 0, 2, 30), (30, 40, 0, 11, 12, 33), (33, 2, 0, 1, 0, 34), (34, 2, 0, 2, 0, 35), (35, 48, 0, 0, 0, 36), (36, 0, 1, 0, 0, 37), (37, 70, 0, 0, 0, 38)]
def mX12_hold : gMt := (235, tbX12_hold, [])
set_option maxRecDepth 100000 in
theorem okX12_hold : gOK mX12_hold = true := by decide +kernel
def tbX12_as : List (Nat × gRI) := [(0, 2, 0, 1, 0, 1), (1, 0, 0, 0, 0, 2), (2, 0, 9, 0, 0, 4), (4, 81, 0, 153, 3, 7), (7, 61, 0, 19, 0, 10), (10, 2, 0, 2, 0, 11), (11, 0, 0, 0, 0, 12), (12, 0, 4, 0, 0, 13), (13, 81, 0, 153, 3, 16), (16, 61, 0, 25, 1, 19), (19, 2, 0, 0, 2, 20), (20, 0, 0, 0, 0, 21), (21, 80, 0, 154, 1, 24), (24, 70, 0, 0, 0, 25), (25, 2, 0, 0, 2, 26), (26, 40, 0, 11, 12, 29), (29, 2, 0, 1, 0, 30), (30, 43, 0, 0, 0, 31), (31, 3, 0, 3, 0, 32), (32, 2, 0, 3, 0, 33), (33, 61, 0, 42, 3, 36), (36, 2, 0, 0, 2, 37), (37, 0, 5, 0, 0, 38), (38, 80, 0, 154, 1, 41), (41, 70, 0, 0, 0, 42), (42, 2, 0, 0, 2, 43), (43, 2, 0, 3, 0, 44), (44, 0, 0, 0, 0, 45), (45, 80, 0, 165, 2, 48), (48, 3, 0, 4, 0, 50), (50, 2, 0, 2, 0, 51), (51, 61, 0, 71, 0, 54), (54, 2, 0, 2, 0, 55), (55, 2, 0, 4, 0, 57), (57, 62, 0, 71, 0, 60), (60, 2, 0, 2, 0, 61), (61, 0, 2, 0, 0, 62), (62, 62, 0, 75, 1, 65), (65, 2, 0, 4, 0, 67), (67, 0, 2, 0, 0, 68), (68, 62, 0, 75, 5, 71), (71, 2, 0, 3, 0, 72), (72, 60, 0, 80, 0, 75), (75, 2, 0, 0, 2, 76), (76, 0, 2, 0, 0, 77), (77, 80, 0, 154, 1, 80), (80, 70, 0, 0, 0, 81)]
def mX12_as : gMt := (236, tbX12_as, [])
set_option maxRecDepth 100000 in
theorem okX12_as : gOK mX12_as = true := by decide +kernel
def tbX12_isSheet : List (Nat × gRI) := [(0, 2, 0, 0, 0, 1), (1, 0, 0, 0, 0, 2), (2, 0, 3, 0, 0, 3), (3, 81, 0, 153, 3, 6), (6, 70, 0, 0, 1, 7)]
def mX12_isSheet : gMt := (237, tbX12_isSheet, [])
set_option maxRecDepth 100000 in
theorem okX12_isSheet : gOK mX12_isSheet = true := by decide +kernel
def tbX12_sheet : List (Nat × gRI) := [(0, 2, 0, 1, 0, 1), (1, 81, 0, 237, 1, 4), (4, 61, 0, 29, 0, 7), (7, 2, 0, 2, 0, 8), (8, 61, 0, 35, 0, 11), (11, 2, 0, 2, 0, 12), (12, 0, 8, 0, 0, 14), (14, 62, 0, 35, 0, 17), (17, 2, 0, 2, 0, 18), (18, 0, 16, 0, 0, 20), (20, 62, 0, 35, 0, 23), (23, 2, 0, 2, 0, 24), (24, 0, 32, 0, 0, 26), (26, 62, 0, 35, 0, 29), (29, 2, 0, 0, 2, 30), (30, 0, 0, 0, 0, 31), (31, 80, 0, 154, 1, 34), (34, 70, 0, 0, 0, 35), (35, 2, 0, 3, 0, 36), (36, 61, 0, 46, 3, 39), (39, 2, 0, 0, 2, 40), (40, 0, 6, 0, 0, 42), (42, 80, 0, 154, 1, 45), (45, 70, 0, 0, 0, 46), (46, 2, 0, 3, 0, 47), (47, 0, 60, 0, 0, 49), (49, 62, 0, 58, 5, 52), (52, 2, 0, 0, 2, 53), (53, 0, 0, 0, 0, 54), (54, 80, 0, 154, 1, 57), (57, 70, 0, 0, 0, 58), (58, 2, 0, 0, 2, 59), (59, 40, 0, 11, 38, 62), (62, 2, 0, 1, 0, 63), (63, 2, 0, 2, 0, 64), (64, 48, 0, 0, 0, 65), (65, 2, 0, 0, 2, 66), (66, 40, 0, 11, 39, 69), (69, 2, 0, 1, 0, 70), (70, 2, 0, 2, 0, 71), (71, 61, 0, 78, 1, 74), (74, 0, 0, 0, 0, 75), (75, 60, 0, 79, 0, 78), (78, 2, 0, 3, 0, 79), (79, 48, 0, 0, 0, 80), (80, 0, 0, 0, 0, 81), (81, 3, 0, 4, 0, 83), (83, 2, 0, 4, 0, 85), (85, 0, 60, 0, 0, 87), (87, 62, 0, 109, 3, 90), (90, 2, 0, 0, 2, 91), (91, 40, 0, 11, 40, 94), (94, 0, 60, 0, 0, 96), (96, 2, 0, 1, 0, 97), (97, 12, 0, 0, 0, 98), (98, 2, 0, 4, 0, 100), (100, 10, 0, 0, 0, 101), (101, 0, 0, 0, 0, 102), (102, 48, 0, 0, 0, 103), (103, 5, 1, 4, 0, 106), (106, 60, 0, 83, 0, 109), (109, 2, 0, 0, 2, 110), (110, 40, 0, 11, 39, 113), (113, 2, 0, 1, 0, 114), (114, 43, 0, 0, 0, 115), (115, 70, 0, 0, 0, 116)]
def mX12_sheet : gMt := (238, tbX12_sheet, [])
set_option maxRecDepth 100000 in
theorem okX12_sheet : gOK mX12_sheet = true := by decide +kernel
def tbX12_write : List (Nat × gRI) := [(0, 2, 0, 1, 0, 1), (1, 81, 0, 237, 1, 4), (4, 61, 0, 13, 1, 7), (7, 2, 0, 0, 2, 8), (8, 0, 0, 0, 0, 9), (9, 80, 0, 154, 1, 12), (12, 70, 0, 0, 0, 13), (13, 2, 0, 0, 2, 14), (14, 40, 0, 11, 38, 17), (17, 2, 0, 1, 0, 18), (18, 43, 0, 0, 0, 19), (19, 61, 0, 28, 1, 22), (22, 2, 0, 0, 2, 23), (23, 0, 5, 0, 0, 24), (24, 80, 0, 154, 1, 27), (27, 70, 0, 0, 0, 28), (28, 2, 0, 2, 0, 29), (29, 0, 0, 0, 0, 30), (30, 2, 0, 0, 2, 31), (31, 40, 0, 11, 39, 34), (34, 2, 0, 1, 0, 35), (35, 43, 0, 0, 0, 36), (36, 0, 1, 0, 0, 37), (37, 11, 0, 0, 0, 38), (38, 81, 0, 153, 3, 41), (41, 61, 0, 50, 1, 44), (44, 2, 0, 0, 2, 45), (45, 0, 0, 0, 0, 46), (46, 80, 0, 154, 1, 49), (49, 70, 0, 0, 0, 50), (50, 2, 0, 0, 2, 51), (51, 40, 0, 11, 40, 54), (54, 0, 60, 0, 0, 56), (56, 2, 0, 1, 0, 57), (57, 12, 0, 0, 0, 58), (58, 2, 0, 2, 0, 59), (59, 10, 0, 0, 0, 60), (60, 2, 0, 0, 2, 61), (61, 40, 0, 11, 38, 64), (64, 2, 0, 1, 0, 65), (65, 43, 0, 0, 0, 66), (66, 0, 8, 0, 0, 68), (68, 62, 0, 76, 1, 71), (71, 2, 0, 3, 0, 72), (72, 23, 0, 0, 0, 73), (73, 60, 0, 93, 0, 76), (76, 2, 0, 0, 2, 77), (77, 40, 0, 11, 38, 80), (80, 2, 0, 1, 0, 81), (81, 43, 0, 0, 0, 82), (82, 0, 16, 0, 0, 84), (84, 62, 0, 92, 1, 87), (87, 2, 0, 3, 0, 88), (88, 24, 0, 0, 0, 89), (89, 60, 0, 93, 0, 92), (92, 2, 0, 3, 0, 93), (93, 48, 0, 0, 0, 94), (94, 0, 1, 0, 0, 95), (95, 70, 0, 0, 0, 96)]
def mX12_write : gMt := (239, tbX12_write, [])
set_option maxRecDepth 100000 in
theorem okX12_write : gOK mX12_write = true := by decide +kernel
def tbX12_copy : List (Nat × gRI) := [(0, 2, 0, 1, 0, 1), (1, 81, 0, 237, 1, 4), (4, 61, 0, 14, 0, 7), (7, 2, 0, 3, 0, 8), (8, 81, 0, 237, 1, 11), (11, 61, 0, 20, 1, 14), (14, 2, 0, 0, 2, 15), (15, 0, 0, 0, 0, 16), (16, 80, 0, 154, 1, 19), (19, 70, 0, 0, 0, 20), (20, 2, 0, 0, 2, 21), (21, 40, 0, 11, 38, 24), (24, 2, 0, 1, 0, 25), (25, 43, 0, 0, 0, 26), (26, 61, 0, 38, 0, 29), (29, 2, 0, 0, 2, 30), (30, 40, 0, 11, 38, 33), (33, 2, 0, 3, 0, 34), (34, 43, 0, 0, 0, 35), (35, 61, 0, 44, 1, 38), (38, 2, 0, 0, 2, 39), (39, 0, 5, 0, 0, 40), (40, 80, 0, 154, 1, 43), (43, 70, 0, 0, 0, 44), (44, 2, 0, 0, 2, 45), (45, 40, 0, 11, 38, 48), (48, 2, 0, 1, 0, 49), (49, 43, 0, 0, 0, 50), (50, 2, 0, 0, 2, 51), (51, 40, 0, 11, 38, 54), (54, 2, 0, 3, 0, 55), (55, 43, 0, 0, 0, 56), (56, 62, 0, 65, 0, 59), (59, 2, 0, 0, 2, 60), (60, 0, 2, 0, 0, 61), (61, 80, 0, 154, 1, 64), (64, 70, 0, 0, 0, 65), (65, 2, 0, 2, 0, 66), (66, 61, 0, 114, 2, 69), (69, 2, 0, 4, 0, 71), (71, 61, 0, 114, 2, 74), (74, 2, 0, 5, 0, 76), (76, 61, 0, 114, 2, 79), (79, 2, 0, 2, 0, 80), (80, 22, 0, 0, 0, 81), (81, 2, 0, 5, 0, 83), (83, 22, 0, 0, 0, 84), (84, 30, 0, 0, 0, 85), (85, 2, 0, 0, 2, 86), (86, 40, 0, 11, 39, 89), (89, 2, 0, 1, 0, 90), (90, 43, 0, 0, 0, 91), (91, 22, 0, 0, 0, 92), (92, 37, 0, 0, 0, 93), (93, 61, 0, 114, 4, 96), (96, 2, 0, 4, 0, 98), (98, 22, 0, 0, 0, 99), (99, 2, 0, 5, 0, 101), (101, 22, 0, 0, 0, 102), (102, 30, 0, 0, 0, 103), (103, 2, 0, 0, 2, 104), (104, 40, 0, 11, 39, 107), (107, 2, 0, 3, 0, 108), (108, 43, 0, 0, 0, 109), (109, 22, 0, 0, 0, 110), (110, 37, 0, 0, 0, 111), (111, 61, 0, 120, 5, 114), (114, 2, 0, 0, 2, 115), (115, 0, 0, 0, 0, 116), (116, 80, 0, 154, 1, 119), (119, 70, 0, 0, 0, 120), (120, 0, 0, 0, 0, 121), (121, 3, 0, 6, 0, 123), (123, 2, 0, 6, 0, 125), (125, 2, 0, 5, 0, 127), (127, 62, 0, 157, 3, 130), (130, 2, 0, 0, 2, 131), (131, 40, 0, 11, 41, 134), (134, 2, 0, 6, 0, 136), (136, 2, 0, 0, 2, 137), (137, 40, 0, 11, 40, 140), (140, 0, 60, 0, 0, 142), (142, 2, 0, 1, 0, 143), (143, 12, 0, 0, 0, 144), (144, 2, 0, 2, 0, 145), (145, 10, 0, 0, 0, 146), (146, 2, 0, 6, 0, 148), (148, 10, 0, 0, 0, 149), (149, 43, 0, 0, 0, 150), (150, 48, 0, 0, 0, 151), (151, 5, 1, 6, 0, 154), (154, 60, 0, 123, 0, 157), (157, 0, 0, 0, 0, 158), (158, 3, 0, 6, 0, 160), (160, 2, 0, 6, 0, 162), (162, 2, 0, 5, 0, 164), (164, 62, 0, 195, 3, 167), (167, 2, 0, 0, 2, 168), (168, 40, 0, 11, 40, 171), (171, 0, 60, 0, 0, 173), (173, 2, 0, 3, 0, 174), (174, 12, 0, 0, 0, 175), (175, 2, 0, 4, 0, 177), (177, 10, 0, 0, 0, 178), (178, 2, 0, 6, 0, 180), (180, 10, 0, 0, 0, 181), (181, 2, 0, 0, 2, 182), (182, 40, 0, 11, 41, 185), (185, 2, 0, 6, 0, 187), (187, 43, 0, 0, 0, 188), (188, 48, 0, 0, 0, 189), (189, 5, 1, 6, 0, 192), (192, 60, 0, 160, 0, 195), (195, 2, 0, 5, 0, 197), (197, 70, 0, 0, 0, 198)]
def mX12_copy : gMt := (240, tbX12_copy, [])
set_option maxRecDepth 100000 in
theorem okX12_copy : gOK mX12_copy = true := by decide +kernel
def tbX12_move : List (Nat × gRI) := [(0, 0, 0, 0, 0, 1), (1, 3, 0, 4, 0, 3), (3, 2, 0, 4, 0, 5), (5, 2, 0, 2, 0, 6), (6, 62, 0, 58, 3, 9), (9, 2, 0, 3, 0, 10), (10, 61, 0, 29, 0, 13), (13, 2, 0, 0, 2, 14), (14, 40, 0, 11, 43, 17), (17, 2, 0, 0, 2, 18), (18, 40, 0, 11, 44, 21), (21, 2, 0, 1, 2, 22), (22, 2, 0, 4, 0, 24), (24, 43, 0, 0, 0, 25), (25, 48, 0, 0, 0, 26), (26, 60, 0, 42, 0, 29), (29, 2, 0, 1, 2, 30), (30, 2, 0, 4, 0, 32), (32, 2, 0, 0, 2, 33), (33, 40, 0, 11, 43, 36), (36, 2, 0, 0, 2, 37), (37, 40, 0, 11, 44, 40), (40, 43, 0, 0, 0, 41), (41, 48, 0, 0, 0, 42), (42, 2, 0, 0, 2, 43), (43, 6, 0, 0, 0, 44), (44, 40, 0, 11, 44, 47), (47, 0, 1, 0, 0, 48), (48, 10, 0, 0, 0, 49), (49, 41, 0, 11, 44, 52), (52, 5, 1, 4, 0, 55), (55, 60, 0, 3, 0, 58), (58, 72, 0, 0, 0, 59)]
def mX12_move : gMt := (241, tbX12_move, [])
set_option maxRecDepth 100000 in
theorem okX12_move : gOK mX12_move = true := by decide +kernel
def tbX12_moveAll : List (Nat × gRI) := [(0, 2, 0, 0, 2, 1), (1, 0, 0, 0, 0, 2), (2, 41, 0, 11, 44, 5), (5, 2, 0, 0, 2, 6), (6, 40, 0, 11, 45, 9), (9, 0, 0, 0, 0, 10), (10, 2, 0, 0, 2, 11), (11, 40, 0, 11, 0, 14), (14, 48, 0, 0, 0, 15), (15, 2, 0, 0, 2, 16), (16, 40, 0, 11, 45, 19), (19, 0, 1, 0, 0, 20), (20, 2, 0, 0, 2, 21), (21, 40, 0, 11, 1, 24), (24, 48, 0, 0, 0, 25), (25, 2, 0, 0, 2, 26), (26, 40, 0, 11, 45, 29), (29, 0, 2, 0, 0, 30), (30, 2, 0, 0, 2, 31), (31, 40, 0, 11, 2, 34), (34, 48, 0, 0, 0, 35), (35, 2, 0, 0, 2, 36), (36, 40, 0, 11, 45, 39), (39, 0, 3, 0, 0, 40), (40, 2, 0, 0, 2, 41), (41, 40, 0, 11, 6, 44), (44, 48, 0, 0, 0, 45), (45, 2, 0, 0, 2, 46), (46, 40, 0, 11, 45, 49), (49, 0, 4, 0, 0, 50), (50, 2, 0, 0, 2, 51), (51, 40, 0, 11, 9, 54), (54, 48, 0, 0, 0, 55), (55, 2, 0, 0, 2, 56), (56, 2, 0, 0, 2, 57), (57, 40, 0, 11, 45, 60), (60, 0, 5, 0, 0, 61), (61, 2, 0, 1, 0, 62), (62, 80, 0, 241, 3, 65), (65, 2, 0, 0, 2, 66), (66, 2, 0, 0, 2, 67), (67, 40, 0, 11, 3, 70), (70, 0, 96, 0, 0, 72), (72, 2, 0, 1, 0, 73), (73, 80, 0, 241, 3, 76), (76, 2, 0, 0, 2, 77), (77, 2, 0, 0, 2, 78), (78, 40, 0, 11, 4, 81), (81, 0, 12, 0, 0, 83), (83, 2, 0, 1, 0, 84), (84, 80, 0, 241, 3, 87), (87, 2, 0, 0, 2, 88), (88, 2, 0, 0, 2, 89), (89, 40, 0, 11, 5, 92), (92, 0, 12, 0, 0, 94), (94, 2, 0, 1, 0, 95), (95, 80, 0, 241, 3, 98), (98, 2, 0, 0, 2, 99), (99, 2, 0, 0, 2, 100), (100, 40, 0, 11, 7, 103), (103, 0, 288, 0, 0, 106), (106, 2, 0, 1, 0, 107), (107, 80, 0, 241, 3, 110), (110, 2, 0, 0, 2, 111), (111, 2, 0, 0, 2, 112), (112, 40, 0, 11, 8, 115), (115, 0, 4, 0, 0, 116), (116, 2, 0, 1, 0, 117), (117, 80, 0, 241, 3, 120), (120, 2, 0, 0, 2, 121), (121, 2, 0, 0, 2, 122), (122, 40, 0, 11, 10, 125), (125, 0, 20, 0, 0, 127), (127, 2, 0, 1, 0, 128), (128, 80, 0, 241, 3, 131), (131, 2, 0, 0, 2, 132), (132, 2, 0, 0, 2, 133), (133, 40, 0, 11, 11, 136), (136, 0, 20, 0, 0, 138), (138, 2, 0, 1, 0, 139), (139, 80, 0, 241, 3, 142), (142, 2, 0, 0, 2, 143), (143, 2, 0, 0, 2, 144), (144, 40, 0, 11, 12, 147), (147, 0, 10, 0, 0, 149), (149, 2, 0, 1, 0, 150), (150, 80, 0, 241, 3, 153), (153, 2, 0, 0, 2, 154), (154, 2, 0, 0, 2, 155), (155, 40, 0, 11, 13, 158), (158, 0, 2, 0, 0, 159), (159, 2, 0, 1, 0, 160), (160, 80, 0, 241, 3, 163), (163, 2, 0, 0, 2, 164), (164, 2, 0, 0, 2, 165), (165, 40, 0, 11, 14, 168), (168, 0, 240, 0, 0, 171), (171, 2, 0, 1, 0, 172), (172, 80, 0, 241, 3, 175), (175, 72, 0, 0, 0, 176)]
def mX12_moveAll : gMt := (242, tbX12_moveAll, [])
set_option maxRecDepth 100000 in
theorem okX12_moveAll : gOK mX12_moveAll = true := by decide +kernel
def tbX12_image : List (Nat × gRI) := [(0, 2, 0, 0, 2, 1), (1, 0, 1, 0, 0, 2), (2, 80, 0, 242, 1, 5), (5, 2, 0, 0, 2, 6), (6, 0, 1, 0, 0, 7), (7, 41, 0, 11, 42, 10), (10, 0, 1, 0, 0, 11), (11, 70, 0, 0, 0, 12)]
def mX12_image : gMt := (243, tbX12_image, [])
set_option maxRecDepth 100000 in
theorem okX12_image : gOK mX12_image = true := by decide +kernel
def tbX12_undo : List (Nat × gRI) := [(0, 2, 0, 0, 2, 1), (1, 40, 0, 11, 42, 4), (4, 61, 0, 13, 1, 7), (7, 2, 0, 0, 2, 8), (8, 0, 3, 0, 0, 9), (9, 80, 0, 154, 1, 12), (12, 70, 0, 0, 0, 13), (13, 2, 0, 0, 2, 14), (14, 0, 0, 0, 0, 15), (15, 80, 0, 242, 1, 18), (18, 2, 0, 0, 2, 19), (19, 2, 0, 0, 2, 20), (20, 40, 0, 11, 45, 23), (23, 0, 0, 0, 0, 24), (24, 43, 0, 0, 0, 25), (25, 41, 0, 11, 0, 28), (28, 2, 0, 0, 2, 29), (29, 2, 0, 0, 2, 30), (30, 40, 0, 11, 45, 33), (33, 0, 1, 0, 0, 34), (34, 43, 0, 0, 0, 35), (35, 41, 0, 11, 1, 38), (38, 2, 0, 0, 2, 39), (39, 2, 0, 0, 2, 40), (40, 40, 0, 11, 45, 43), (43, 0, 2, 0, 0, 44), (44, 43, 0, 0, 0, 45), (45, 41, 0, 11, 2, 48), (48, 2, 0, 0, 2, 49), (49, 2, 0, 0, 2, 50), (50, 40, 0, 11, 45, 53), (53, 0, 3, 0, 0, 54), (54, 43, 0, 0, 0, 55), (55, 41, 0, 11, 6, 58), (58, 2, 0, 0, 2, 59), (59, 2, 0, 0, 2, 60), (60, 40, 0, 11, 45, 63), (63, 0, 4, 0, 0, 64), (64, 43, 0, 0, 0, 65), (65, 41, 0, 11, 9, 68), (68, 2, 0, 0, 2, 69), (69, 40, 0, 11, 0, 72), (72, 70, 0, 0, 0, 73)]
def mX12_undo : gMt := (244, tbX12_undo, [])
set_option maxRecDepth 100000 in
theorem okX12_undo : gOK mX12_undo = true := by decide +kernel
def tbX12_tear : List (Nat × gRI) := [(0, 2, 0, 0, 2, 1), (1, 40, 0, 11, 42, 4), (4, 61, 0, 11, 0, 7), (7, 0, 1, 0, 0, 8), (8, 60, 0, 12, 0, 11), (11, 0, 0, 0, 0, 12), (12, 3, 0, 1, 0, 13), (13, 2, 0, 0, 2, 14), (14, 0, 0, 0, 0, 15), (15, 41, 0, 11, 42, 18), (18, 2, 0, 1, 0, 19), (19, 70, 0, 0, 0, 20)]
def mX12_tear : gMt := (245, tbX12_tear, [])
set_option maxRecDepth 100000 in
theorem okX12_tear : gOK mX12_tear = true := by decide +kernel
def tbX12_count : List (Nat × gRI) := [(0, 0, 0, 0, 0, 1), (1, 3, 0, 2, 0, 2), (2, 2, 0, 1, 0, 3), (3, 64, 0, 149, 8, 48), (48, 2, 0, 0, 2, 49), (49, 40, 0, 11, 0, 52), (52, 70, 0, 0, 0, 53), (53, 2, 0, 0, 2, 54), (54, 40, 0, 11, 2, 57), (57, 70, 0, 0, 0, 58), (58, 2, 0, 0, 2, 59), (59, 40, 0, 11, 6, 62), (62, 70, 0, 0, 0, 63), (63, 2, 0, 0, 2, 64), (64, 40, 0, 11, 1, 67), (67, 70, 0, 0, 0, 68), (68, 2, 0, 0, 2, 69), (69, 40, 0, 11, 22, 72), (72, 70, 0, 0, 0, 73), (73, 2, 0, 0, 2, 74), (74, 40, 0, 11, 9, 77), (77, 70, 0, 0, 0, 78), (78, 0, 0, 0, 0, 79), (79, 3, 0, 3, 0, 80), (80, 2, 0, 3, 0, 81), (81, 2, 0, 0, 2, 82), (82, 40, 0, 11, 6, 85), (85, 62, 0, 110, 3, 88), (88, 2, 0, 2, 0, 89), (89, 2, 0, 0, 2, 90), (90, 2, 0, 3, 0, 91), (91, 80, 0, 221, 1, 94), (94, 61, 0, 101, 0, 97), (97, 0, 1, 0, 0, 98), (98, 60, 0, 102, 0, 101), (101, 0, 0, 0, 0, 102), (102, 10, 0, 0, 0, 103), (103, 3, 0, 2, 0, 104), (104, 5, 1, 3, 0, 107), (107, 60, 0, 80, 0, 110), (110, 2, 0, 2, 0, 111), (111, 70, 0, 0, 0, 112), (112, 0, 0, 0, 0, 113), (113, 3, 0, 3, 0, 114), (114, 2, 0, 3, 0, 115), (115, 2, 0, 0, 2, 116), (116, 40, 0, 11, 6, 119), (119, 62, 0, 147, 3, 122), (122, 2, 0, 2, 0, 123), (123, 2, 0, 0, 2, 124), (124, 2, 0, 3, 0, 125), (125, 0, 6, 0, 0, 127), (127, 80, 0, 165, 2, 130), (130, 0, -1, 0, 0, 131), (131, 62, 0, 138, 1, 134), (134, 0, 1, 0, 0, 135), (135, 60, 0, 139, 0, 138), (138, 0, 0, 0, 0, 139), (139, 10, 0, 0, 0, 140), (140, 3, 0, 2, 0, 141), (141, 5, 1, 3, 0, 144), (144, 60, 0, 114, 0, 147), (147, 2, 0, 2, 0, 148), (148, 70, 0, 0, 0, 149), (149, 2, 0, 0, 2, 150), (150, 0, 0, 0, 0, 151), (151, 80, 0, 154, 1, 154), (154, 70, 0, 0, 0, 155)]
def mX12_count : gMt := (246, tbX12_count, [(3, [(0, 48), (1, 53), (2, 58), (3, 63), (4, 68), (5, 73), (6, 78), (7, 112)])])
set_option maxRecDepth 100000 in
theorem okX12_count : gOK mX12_count = true := by decide +kernel
def tbX12_status : List (Nat × gRI) := [(0, 2, 0, 1, 0, 1), (1, 0, -1, 0, 0, 2), (2, 0, 6, 0, 0, 4), (4, 81, 0, 153, 3, 7), (7, 61, 0, 16, 1, 10), (10, 2, 0, 0, 2, 11), (11, 0, 0, 0, 0, 12), (12, 80, 0, 154, 1, 15), (15, 70, 0, 0, 0, 16), (16, 0, 0, 0, 0, 17), (17, 3, 0, 2, 0, 18), (18, 0, 0, 0, 0, 19), (19, 3, 0, 3, 0, 20), (20, 2, 0, 3, 0, 21), (21, 0, 7, 0, 0, 23), (23, 62, 0, 54, 3, 26), (26, 2, 0, 2, 0, 27), (27, 2, 0, 1, 0, 28), (28, 61, 0, 36, 2, 31), (31, 2, 0, 3, 0, 32), (32, 2, 0, 1, 0, 33), (33, 62, 0, 45, 1, 36), (36, 2, 0, 0, 2, 37), (37, 40, 0, 11, 15, 40), (40, 2, 0, 3, 0, 41), (41, 43, 0, 0, 0, 42), (42, 60, 0, 46, 0, 45), (45, 0, 0, 0, 0, 46), (46, 10, 0, 0, 0, 47), (47, 3, 0, 2, 0, 48), (48, 5, 1, 3, 0, 51), (51, 60, 0, 20, 0, 54), (54, 2, 0, 2, 0, 55), (55, 70, 0, 0, 0, 56)]
def mX12_status : gMt := (247, tbX12_status, [])
set_option maxRecDepth 100000 in
theorem okX12_status : gOK mX12_status = true := by decide +kernel
def tbJ6_bitCount_0f7a4 : List (Nat × gRI) := [(0, 2, 0, 0, 0, 1), (1, 2, 0, 0, 0, 2), (2, 0, 1, 0, 0, 3), (3, 21, 0, 0, 0, 4), (4, 0, 1431655765, 0, 0, 7), (7, 16, 0, 0, 0, 8), (8, 11, 0, 0, 0, 9), (9, 3, 0, 0, 0, 10), (10, 2, 0, 0, 0, 11), (11, 0, 858993459, 0, 0, 14), (14, 16, 0, 0, 0, 15), (15, 2, 0, 0, 0, 16), (16, 0, 2, 0, 0, 17), (17, 21, 0, 0, 0, 18), (18, 0, 858993459, 0, 0, 21), (21, 16, 0, 0, 0, 22), (22, 10, 0, 0, 0, 23), (23, 3, 0, 0, 0, 24), (24, 2, 0, 0, 0, 25), (25, 2, 0, 0, 0, 26), (26, 0, 4, 0, 0, 27), (27, 21, 0, 0, 0, 28), (28, 10, 0, 0, 0, 29), (29, 0, 252645135, 0, 0, 32), (32, 16, 0, 0, 0, 33), (33, 3, 0, 0, 0, 34), (34, 2, 0, 0, 0, 35), (35, 2, 0, 0, 0, 36), (36, 0, 8, 0, 0, 38), (38, 21, 0, 0, 0, 39), (39, 10, 0, 0, 0, 40), (40, 3, 0, 0, 0, 41), (41, 2, 0, 0, 0, 42), (42, 2, 0, 0, 0, 43), (43, 0, 16, 0, 0, 45), (45, 21, 0, 0, 0, 46), (46, 10, 0, 0, 0, 47), (47, 3, 0, 0, 0, 48), (48, 2, 0, 0, 0, 49), (49, 0, 63, 0, 0, 51), (51, 16, 0, 0, 0, 52), (52, 70, 0, 0, 0, 53)]
def mJ6_bitCount_0f7a4 : gMt := (248, tbJ6_bitCount_0f7a4, [])
set_option maxRecDepth 100000 in
theorem okJ6_bitCount_0f7a4 : gOK mJ6_bitCount_0f7a4 = true := by decide +kernel
def tbJ13_bitCount_95d88 : List (Nat × gRI) := [(0, 2, 0, 0, 1, 1), (1, 2, 0, 0, 1, 2), (2, 0, 1, 0, 0, 3), (3, 36, 0, 0, 0, 4), (4, 1, 6148914691236517205, 0, 0, 7), (7, 32, 0, 0, 0, 8), (8, 31, 0, 0, 0, 9), (9, 4, 0, 0, 0, 10), (10, 2, 0, 0, 1, 11), (11, 1, 3689348814741910323, 0, 0, 14), (14, 32, 0, 0, 0, 15), (15, 2, 0, 0, 1, 16), (16, 0, 2, 0, 0, 17), (17, 36, 0, 0, 0, 18), (18, 1, 3689348814741910323, 0, 0, 21), (21, 32, 0, 0, 0, 22), (22, 30, 0, 0, 0, 23), (23, 4, 0, 0, 0, 24), (24, 2, 0, 0, 1, 25), (25, 2, 0, 0, 1, 26), (26, 0, 4, 0, 0, 27), (27, 36, 0, 0, 0, 28), (28, 30, 0, 0, 0, 29), (29, 1, 1085102592571150095, 0, 0, 32), (32, 32, 0, 0, 0, 33), (33, 4, 0, 0, 0, 34), (34, 2, 0, 0, 1, 35), (35, 2, 0, 0, 1, 36), (36, 0, 8, 0, 0, 38), (38, 36, 0, 0, 0, 39), (39, 30, 0, 0, 0, 40), (40, 4, 0, 0, 0, 41), (41, 2, 0, 0, 1, 42), (42, 2, 0, 0, 1, 43), (43, 0, 16, 0, 0, 45), (45, 36, 0, 0, 0, 46), (46, 30, 0, 0, 0, 47), (47, 4, 0, 0, 0, 48), (48, 2, 0, 0, 1, 49), (49, 2, 0, 0, 1, 50), (50, 0, 32, 0, 0, 52), (52, 36, 0, 0, 0, 53), (53, 30, 0, 0, 0, 54), (54, 4, 0, 0, 0, 55), (55, 2, 0, 0, 1, 56), (56, 38, 0, 0, 0, 57), (57, 0, 127, 0, 0, 59), (59, 16, 0, 0, 0, 60), (60, 70, 0, 0, 0, 61)]
def mJ13_bitCount_95d88 : gMt := (249, tbJ13_bitCount_95d88, [])
set_option maxRecDepth 100000 in
theorem okJ13_bitCount_95d88 : gOK mJ13_bitCount_95d88 = true := by decide +kernel
def tbJ9_abs_0f7a4 : List (Nat × gRI) := [(0, 2, 0, 0, 0, 1), (1, 61, 0, 9, 3, 4), (4, 2, 0, 0, 0, 5), (5, 13, 0, 0, 0, 6), (6, 60, 0, 10, 0, 9), (9, 2, 0, 0, 0, 10), (10, 70, 0, 0, 0, 11)]
def mJ9_abs_0f7a4 : gMt := (250, tbJ9_abs_0f7a4, [])
set_option maxRecDepth 100000 in
theorem okJ9_abs_0f7a4 : gOK mJ9_abs_0f7a4 = true := by decide +kernel
def tbJ9_max_7cf53 : List (Nat × gRI) := [(0, 2, 0, 0, 0, 1), (1, 2, 0, 1, 0, 2), (2, 62, 0, 9, 2, 5), (5, 2, 0, 0, 0, 6), (6, 60, 0, 10, 0, 9), (9, 2, 0, 1, 0, 10), (10, 70, 0, 0, 0, 11)]
def mJ9_max_7cf53 : gMt := (251, tbJ9_max_7cf53, [])
set_option maxRecDepth 100000 in
theorem okJ9_max_7cf53 : gOK mJ9_max_7cf53 = true := by decide +kernel
def tbJ9_min_7cf53 : List (Nat × gRI) := [(0, 2, 0, 0, 0, 1), (1, 2, 0, 1, 0, 2), (2, 62, 0, 9, 4, 5), (5, 2, 0, 0, 0, 6), (6, 60, 0, 10, 0, 9), (9, 2, 0, 1, 0, 10), (10, 70, 0, 0, 0, 11)]
def mJ9_min_7cf53 : gMt := (252, tbJ9_min_7cf53, [])
set_option maxRecDepth 100000 in
theorem okJ9_min_7cf53 : gOK mJ9_min_7cf53 = true := by decide +kernel
end
section
def swL_law : List (Nat × List (Int × Nat)) := [(33, [(0, 224), (1, 277), (2, 310), (3, 343), (4, 376), (5, 429), (6, 462), (7, 495), (8, 528), (9, 561), (10, 584), (11, 617), (12, 640), (13, 663), (14, 676), (15, 709), (16, 722), (17, 745), (18, 768), (19, 801), (20, 824), (21, 847), (22, 880), (23, 903), (24, 946), (25, 979), (26, 1012), (27, 1035), (28, 1088), (29, 1111), (30, 1144), (31, 1177), (32, 1210), (33, 1223), (34, 1246), (35, 1279), (36, 1312), (37, 1355), (38, 1398), (39, 1461), (40, 1474), (41, 1487), (42, 1500), (43, 1523)])]
def tbL_0 : List (Nat × gRI) := [(0, 90, 0, 10, 0, 3), (3, 6, 0, 0, 0, 4), (4, 82, 0, 102, 0, 7), (7, 3, 0, 1, 2, 8), (8, 90, 0, 11, 0, 11), (11, 6, 0, 0, 0, 12), (12, 82, 0, 152, 0, 15), (15, 3, 0, 2, 2, 16), (16, 0, 0, 0, 0, 17), (17, 3, 0, 3, 0, 18), (18, 2, 0, 3, 0, 19), (19, 2, 0, 0, 2, 20), (20, 52, 0, 0, 0, 21), (21, 0, 6, 0, 0, 23), (23, 11, 0, 0, 0, 24), (24, 62, 0, 1552, 4, 27), (27, 2, 0, 0, 2, 28), (28, 2, 0, 3, 0, 29), (29, 43, 0, 0, 0, 30), (30, 0, 63, 0, 0, 32), (32, 16, 0, 0, 0, 33), (33, 64, 0, 1546, 44, 224), (224, 2, 0, 1, 2, 225), (225, 2, 0, 0, 2, 226), (226, 2, 0, 3, 0, 227), (227, 0, 1, 0, 0, 228), (228, 10, 0, 0, 0, 229), (229, 43, 0, 0, 0, 230), (230, 2, 0, 0, 2, 231), (231, 2, 0, 3, 0, 232), (232, 0, 2, 0, 0, 233), (233, 10, 0, 0, 0, 234), (234, 43, 0, 0, 0, 235), (235, 2, 0, 0, 2, 236), (236, 2, 0, 3, 0, 237), (237, 0, 3, 0, 0, 238), (238, 10, 0, 0, 0, 239), (239, 43, 0, 0, 0, 240), (240, 2, 0, 0, 2, 241), (241, 2, 0, 3, 0, 242)]
set_option maxRecDepth 100000 in
theorem okL_0 : tbL_0.all (fun q => gok 253 swL_law q.1 q.2.1 q.2.2.1 q.2.2.2.1 q.2.2.2.2.1 q.2.2.2.2.2) = true := by decide +kernel
def tbL_1 : List (Nat × gRI) := [(242, 0, 4, 0, 0, 243), (243, 10, 0, 0, 0, 244), (244, 43, 0, 0, 0, 245), (245, 80, 0, 103, 4, 248), (248, 2, 0, 2, 2, 249), (249, 2, 0, 0, 2, 250), (250, 2, 0, 3, 0, 251), (251, 0, 1, 0, 0, 252), (252, 10, 0, 0, 0, 253), (253, 43, 0, 0, 0, 254), (254, 2, 0, 0, 2, 255), (255, 2, 0, 3, 0, 256), (256, 0, 2, 0, 0, 257), (257, 10, 0, 0, 0, 258), (258, 43, 0, 0, 0, 259), (259, 2, 0, 0, 2, 260), (260, 2, 0, 3, 0, 261), (261, 0, 3, 0, 0, 262), (262, 10, 0, 0, 0, 263), (263, 43, 0, 0, 0, 264), (264, 2, 0, 0, 2, 265), (265, 2, 0, 3, 0, 266), (266, 0, 4, 0, 0, 267), (267, 10, 0, 0, 0, 268), (268, 43, 0, 0, 0, 269), (269, 80, 0, 158, 4, 272), (272, 62, 0, 1546, 0, 275), (275, 0, 0, 0, 0, 276), (276, 70, 0, 0, 1, 277), (277, 2, 0, 1, 2, 278), (278, 2, 0, 0, 2, 279), (279, 2, 0, 3, 0, 280), (280, 0, 1, 0, 0, 281), (281, 10, 0, 0, 0, 282), (282, 43, 0, 0, 0, 283), (283, 2, 0, 0, 2, 284), (284, 2, 0, 3, 0, 285), (285, 0, 2, 0, 0, 286), (286, 10, 0, 0, 0, 287), (287, 43, 0, 0, 0, 288)]
set_option maxRecDepth 100000 in
theorem okL_1 : tbL_1.all (fun q => gok 253 swL_law q.1 q.2.1 q.2.2.1 q.2.2.2.1 q.2.2.2.2.1 q.2.2.2.2.2) = true := by decide +kernel
def tbL_2 : List (Nat × gRI) := [(288, 80, 0, 104, 2, 291), (291, 2, 0, 2, 2, 292), (292, 2, 0, 0, 2, 293), (293, 2, 0, 3, 0, 294), (294, 0, 1, 0, 0, 295), (295, 10, 0, 0, 0, 296), (296, 43, 0, 0, 0, 297), (297, 2, 0, 0, 2, 298), (298, 2, 0, 3, 0, 299), (299, 0, 2, 0, 0, 300), (300, 10, 0, 0, 0, 301), (301, 43, 0, 0, 0, 302), (302, 80, 0, 159, 2, 305), (305, 62, 0, 1546, 0, 308), (308, 0, 0, 0, 0, 309), (309, 70, 0, 0, 1, 310), (310, 2, 0, 1, 2, 311), (311, 2, 0, 0, 2, 312), (312, 2, 0, 3, 0, 313), (313, 0, 1, 0, 0, 314), (314, 10, 0, 0, 0, 315), (315, 43, 0, 0, 0, 316), (316, 2, 0, 0, 2, 317), (317, 2, 0, 3, 0, 318), (318, 0, 2, 0, 0, 319), (319, 10, 0, 0, 0, 320), (320, 43, 0, 0, 0, 321), (321, 80, 0, 105, 2, 324), (324, 2, 0, 2, 2, 325), (325, 2, 0, 0, 2, 326), (326, 2, 0, 3, 0, 327), (327, 0, 1, 0, 0, 328), (328, 10, 0, 0, 0, 329), (329, 43, 0, 0, 0, 330), (330, 2, 0, 0, 2, 331), (331, 2, 0, 3, 0, 332), (332, 0, 2, 0, 0, 333), (333, 10, 0, 0, 0, 334), (334, 43, 0, 0, 0, 335), (335, 80, 0, 160, 2, 338)]
set_option maxRecDepth 100000 in
theorem okL_2 : tbL_2.all (fun q => gok 253 swL_law q.1 q.2.1 q.2.2.1 q.2.2.2.1 q.2.2.2.2.1 q.2.2.2.2.2) = true := by decide +kernel
def tbL_3 : List (Nat × gRI) := [(338, 62, 0, 1546, 0, 341), (341, 0, 0, 0, 0, 342), (342, 70, 0, 0, 1, 343), (343, 2, 0, 1, 2, 344), (344, 2, 0, 0, 2, 345), (345, 2, 0, 3, 0, 346), (346, 0, 1, 0, 0, 347), (347, 10, 0, 0, 0, 348), (348, 43, 0, 0, 0, 349), (349, 2, 0, 0, 2, 350), (350, 2, 0, 3, 0, 351), (351, 0, 2, 0, 0, 352), (352, 10, 0, 0, 0, 353), (353, 43, 0, 0, 0, 354), (354, 80, 0, 106, 2, 357), (357, 2, 0, 2, 2, 358), (358, 2, 0, 0, 2, 359), (359, 2, 0, 3, 0, 360), (360, 0, 1, 0, 0, 361), (361, 10, 0, 0, 0, 362), (362, 43, 0, 0, 0, 363), (363, 2, 0, 0, 2, 364), (364, 2, 0, 3, 0, 365), (365, 0, 2, 0, 0, 366), (366, 10, 0, 0, 0, 367), (367, 43, 0, 0, 0, 368), (368, 80, 0, 163, 2, 371), (371, 62, 0, 1546, 0, 374), (374, 0, 0, 0, 0, 375), (375, 70, 0, 0, 1, 376), (376, 2, 0, 1, 2, 377), (377, 2, 0, 0, 2, 378), (378, 2, 0, 3, 0, 379), (379, 0, 1, 0, 0, 380), (380, 10, 0, 0, 0, 381), (381, 43, 0, 0, 0, 382), (382, 2, 0, 0, 2, 383), (383, 2, 0, 3, 0, 384), (384, 0, 2, 0, 0, 385), (385, 10, 0, 0, 0, 386)]
set_option maxRecDepth 100000 in
theorem okL_3 : tbL_3.all (fun q => gok 253 swL_law q.1 q.2.1 q.2.2.1 q.2.2.2.1 q.2.2.2.2.1 q.2.2.2.2.2) = true := by decide +kernel
def tbL_4 : List (Nat × gRI) := [(386, 43, 0, 0, 0, 387), (387, 2, 0, 0, 2, 388), (388, 2, 0, 3, 0, 389), (389, 0, 3, 0, 0, 390), (390, 10, 0, 0, 0, 391), (391, 43, 0, 0, 0, 392), (392, 2, 0, 0, 2, 393), (393, 2, 0, 3, 0, 394), (394, 0, 4, 0, 0, 395), (395, 10, 0, 0, 0, 396), (396, 43, 0, 0, 0, 397), (397, 80, 0, 107, 4, 400), (400, 2, 0, 2, 2, 401), (401, 2, 0, 0, 2, 402), (402, 2, 0, 3, 0, 403), (403, 0, 1, 0, 0, 404), (404, 10, 0, 0, 0, 405), (405, 43, 0, 0, 0, 406), (406, 2, 0, 0, 2, 407), (407, 2, 0, 3, 0, 408), (408, 0, 2, 0, 0, 409), (409, 10, 0, 0, 0, 410), (410, 43, 0, 0, 0, 411), (411, 2, 0, 0, 2, 412), (412, 2, 0, 3, 0, 413), (413, 0, 3, 0, 0, 414), (414, 10, 0, 0, 0, 415), (415, 43, 0, 0, 0, 416), (416, 2, 0, 0, 2, 417), (417, 2, 0, 3, 0, 418), (418, 0, 4, 0, 0, 419), (419, 10, 0, 0, 0, 420), (420, 43, 0, 0, 0, 421), (421, 80, 0, 164, 4, 424), (424, 62, 0, 1546, 0, 427), (427, 0, 0, 0, 0, 428), (428, 70, 0, 0, 1, 429), (429, 2, 0, 1, 2, 430), (430, 2, 0, 0, 2, 431), (431, 2, 0, 3, 0, 432)]
set_option maxRecDepth 100000 in
theorem okL_4 : tbL_4.all (fun q => gok 253 swL_law q.1 q.2.1 q.2.2.1 q.2.2.2.1 q.2.2.2.2.1 q.2.2.2.2.2) = true := by decide +kernel
def tbL_5 : List (Nat × gRI) := [(432, 0, 1, 0, 0, 433), (433, 10, 0, 0, 0, 434), (434, 43, 0, 0, 0, 435), (435, 2, 0, 0, 2, 436), (436, 2, 0, 3, 0, 437), (437, 0, 2, 0, 0, 438), (438, 10, 0, 0, 0, 439), (439, 43, 0, 0, 0, 440), (440, 80, 0, 108, 2, 443), (443, 2, 0, 2, 2, 444), (444, 2, 0, 0, 2, 445), (445, 2, 0, 3, 0, 446), (446, 0, 1, 0, 0, 447), (447, 10, 0, 0, 0, 448), (448, 43, 0, 0, 0, 449), (449, 2, 0, 0, 2, 450), (450, 2, 0, 3, 0, 451), (451, 0, 2, 0, 0, 452), (452, 10, 0, 0, 0, 453), (453, 43, 0, 0, 0, 454), (454, 80, 0, 167, 2, 457), (457, 62, 0, 1546, 0, 460), (460, 0, 0, 0, 0, 461), (461, 70, 0, 0, 1, 462), (462, 2, 0, 1, 2, 463), (463, 2, 0, 0, 2, 464), (464, 2, 0, 3, 0, 465), (465, 0, 1, 0, 0, 466), (466, 10, 0, 0, 0, 467), (467, 43, 0, 0, 0, 468), (468, 2, 0, 0, 2, 469), (469, 2, 0, 3, 0, 470), (470, 0, 2, 0, 0, 471), (471, 10, 0, 0, 0, 472), (472, 43, 0, 0, 0, 473), (473, 80, 0, 109, 2, 476), (476, 2, 0, 2, 2, 477), (477, 2, 0, 0, 2, 478), (478, 2, 0, 3, 0, 479), (479, 0, 1, 0, 0, 480)]
set_option maxRecDepth 100000 in
theorem okL_5 : tbL_5.all (fun q => gok 253 swL_law q.1 q.2.1 q.2.2.1 q.2.2.2.1 q.2.2.2.2.1 q.2.2.2.2.2) = true := by decide +kernel
def tbL_6 : List (Nat × gRI) := [(480, 10, 0, 0, 0, 481), (481, 43, 0, 0, 0, 482), (482, 2, 0, 0, 2, 483), (483, 2, 0, 3, 0, 484), (484, 0, 2, 0, 0, 485), (485, 10, 0, 0, 0, 486), (486, 43, 0, 0, 0, 487), (487, 80, 0, 170, 2, 490), (490, 62, 0, 1546, 0, 493), (493, 0, 0, 0, 0, 494), (494, 70, 0, 0, 1, 495), (495, 2, 0, 1, 2, 496), (496, 2, 0, 0, 2, 497), (497, 2, 0, 3, 0, 498), (498, 0, 1, 0, 0, 499), (499, 10, 0, 0, 0, 500), (500, 43, 0, 0, 0, 501), (501, 2, 0, 0, 2, 502), (502, 2, 0, 3, 0, 503), (503, 0, 2, 0, 0, 504), (504, 10, 0, 0, 0, 505), (505, 43, 0, 0, 0, 506), (506, 80, 0, 110, 2, 509), (509, 2, 0, 2, 2, 510), (510, 2, 0, 0, 2, 511), (511, 2, 0, 3, 0, 512), (512, 0, 1, 0, 0, 513), (513, 10, 0, 0, 0, 514), (514, 43, 0, 0, 0, 515), (515, 2, 0, 0, 2, 516), (516, 2, 0, 3, 0, 517), (517, 0, 2, 0, 0, 518), (518, 10, 0, 0, 0, 519), (519, 43, 0, 0, 0, 520), (520, 80, 0, 171, 2, 523), (523, 62, 0, 1546, 0, 526), (526, 0, 0, 0, 0, 527), (527, 70, 0, 0, 1, 528), (528, 2, 0, 1, 2, 529), (529, 2, 0, 0, 2, 530)]
set_option maxRecDepth 100000 in
theorem okL_6 : tbL_6.all (fun q => gok 253 swL_law q.1 q.2.1 q.2.2.1 q.2.2.2.1 q.2.2.2.2.1 q.2.2.2.2.2) = true := by decide +kernel
def tbL_7 : List (Nat × gRI) := [(530, 2, 0, 3, 0, 531), (531, 0, 1, 0, 0, 532), (532, 10, 0, 0, 0, 533), (533, 43, 0, 0, 0, 534), (534, 2, 0, 0, 2, 535), (535, 2, 0, 3, 0, 536), (536, 0, 2, 0, 0, 537), (537, 10, 0, 0, 0, 538), (538, 43, 0, 0, 0, 539), (539, 80, 0, 111, 2, 542), (542, 2, 0, 2, 2, 543), (543, 2, 0, 0, 2, 544), (544, 2, 0, 3, 0, 545), (545, 0, 1, 0, 0, 546), (546, 10, 0, 0, 0, 547), (547, 43, 0, 0, 0, 548), (548, 2, 0, 0, 2, 549), (549, 2, 0, 3, 0, 550), (550, 0, 2, 0, 0, 551), (551, 10, 0, 0, 0, 552), (552, 43, 0, 0, 0, 553), (553, 80, 0, 175, 2, 556), (556, 62, 0, 1546, 0, 559), (559, 0, 0, 0, 0, 560), (560, 70, 0, 0, 1, 561), (561, 2, 0, 1, 2, 562), (562, 2, 0, 0, 2, 563), (563, 2, 0, 3, 0, 564), (564, 0, 1, 0, 0, 565), (565, 10, 0, 0, 0, 566), (566, 43, 0, 0, 0, 567), (567, 80, 0, 112, 1, 570), (570, 2, 0, 2, 2, 571), (571, 2, 0, 0, 2, 572), (572, 2, 0, 3, 0, 573), (573, 0, 1, 0, 0, 574), (574, 10, 0, 0, 0, 575), (575, 43, 0, 0, 0, 576), (576, 80, 0, 176, 1, 579), (579, 62, 0, 1546, 0, 582)]
set_option maxRecDepth 100000 in
theorem okL_7 : tbL_7.all (fun q => gok 253 swL_law q.1 q.2.1 q.2.2.1 q.2.2.2.1 q.2.2.2.2.1 q.2.2.2.2.2) = true := by decide +kernel
def tbL_8 : List (Nat × gRI) := [(582, 0, 0, 0, 0, 583), (583, 70, 0, 0, 1, 584), (584, 2, 0, 1, 2, 585), (585, 2, 0, 0, 2, 586), (586, 2, 0, 3, 0, 587), (587, 0, 1, 0, 0, 588), (588, 10, 0, 0, 0, 589), (589, 43, 0, 0, 0, 590), (590, 2, 0, 0, 2, 591), (591, 2, 0, 3, 0, 592), (592, 0, 2, 0, 0, 593), (593, 10, 0, 0, 0, 594), (594, 43, 0, 0, 0, 595), (595, 80, 0, 113, 2, 598), (598, 2, 0, 2, 2, 599), (599, 2, 0, 0, 2, 600), (600, 2, 0, 3, 0, 601), (601, 0, 1, 0, 0, 602), (602, 10, 0, 0, 0, 603), (603, 43, 0, 0, 0, 604), (604, 2, 0, 0, 2, 605), (605, 2, 0, 3, 0, 606), (606, 0, 2, 0, 0, 607), (607, 10, 0, 0, 0, 608), (608, 43, 0, 0, 0, 609), (609, 80, 0, 178, 2, 612), (612, 62, 0, 1546, 0, 615), (615, 0, 0, 0, 0, 616), (616, 70, 0, 0, 1, 617), (617, 2, 0, 1, 2, 618), (618, 2, 0, 0, 2, 619), (619, 2, 0, 3, 0, 620), (620, 0, 1, 0, 0, 621), (621, 10, 0, 0, 0, 622), (622, 43, 0, 0, 0, 623), (623, 80, 0, 114, 1, 626), (626, 2, 0, 2, 2, 627), (627, 2, 0, 0, 2, 628), (628, 2, 0, 3, 0, 629), (629, 0, 1, 0, 0, 630)]
set_option maxRecDepth 100000 in
theorem okL_8 : tbL_8.all (fun q => gok 253 swL_law q.1 q.2.1 q.2.2.1 q.2.2.2.1 q.2.2.2.2.1 q.2.2.2.2.2) = true := by decide +kernel
def tbL_9 : List (Nat × gRI) := [(630, 10, 0, 0, 0, 631), (631, 43, 0, 0, 0, 632), (632, 80, 0, 180, 1, 635), (635, 62, 0, 1546, 0, 638), (638, 0, 0, 0, 0, 639), (639, 70, 0, 0, 1, 640), (640, 2, 0, 1, 2, 641), (641, 2, 0, 0, 2, 642), (642, 2, 0, 3, 0, 643), (643, 0, 1, 0, 0, 644), (644, 10, 0, 0, 0, 645), (645, 43, 0, 0, 0, 646), (646, 80, 0, 115, 1, 649), (649, 2, 0, 2, 2, 650), (650, 2, 0, 0, 2, 651), (651, 2, 0, 3, 0, 652), (652, 0, 1, 0, 0, 653), (653, 10, 0, 0, 0, 654), (654, 43, 0, 0, 0, 655), (655, 80, 0, 186, 1, 658), (658, 62, 0, 1546, 0, 661), (661, 0, 0, 0, 0, 662), (662, 70, 0, 0, 1, 663), (663, 2, 0, 1, 2, 664), (664, 80, 0, 116, 0, 667), (667, 2, 0, 2, 2, 668), (668, 80, 0, 182, 0, 671), (671, 62, 0, 1546, 0, 674), (674, 0, 0, 0, 0, 675), (675, 70, 0, 0, 1, 676), (676, 2, 0, 1, 2, 677), (677, 2, 0, 0, 2, 678), (678, 2, 0, 3, 0, 679), (679, 0, 1, 0, 0, 680), (680, 10, 0, 0, 0, 681), (681, 43, 0, 0, 0, 682), (682, 2, 0, 0, 2, 683), (683, 2, 0, 3, 0, 684), (684, 0, 2, 0, 0, 685), (685, 10, 0, 0, 0, 686)]
set_option maxRecDepth 100000 in
theorem okL_9 : tbL_9.all (fun q => gok 253 swL_law q.1 q.2.1 q.2.2.1 q.2.2.2.1 q.2.2.2.2.1 q.2.2.2.2.2) = true := by decide +kernel
def tbL_10 : List (Nat × gRI) := [(686, 43, 0, 0, 0, 687), (687, 80, 0, 117, 2, 690), (690, 2, 0, 2, 2, 691), (691, 2, 0, 0, 2, 692), (692, 2, 0, 3, 0, 693), (693, 0, 1, 0, 0, 694), (694, 10, 0, 0, 0, 695), (695, 43, 0, 0, 0, 696), (696, 2, 0, 0, 2, 697), (697, 2, 0, 3, 0, 698), (698, 0, 2, 0, 0, 699), (699, 10, 0, 0, 0, 700), (700, 43, 0, 0, 0, 701), (701, 80, 0, 187, 2, 704), (704, 62, 0, 1546, 0, 707), (707, 0, 0, 0, 0, 708), (708, 70, 0, 0, 1, 709), (709, 2, 0, 1, 2, 710), (710, 80, 0, 118, 0, 713), (713, 2, 0, 2, 2, 714), (714, 80, 0, 188, 0, 717), (717, 62, 0, 1546, 0, 720), (720, 0, 0, 0, 0, 721), (721, 70, 0, 0, 1, 722), (722, 2, 0, 1, 2, 723), (723, 2, 0, 0, 2, 724), (724, 2, 0, 3, 0, 725), (725, 0, 1, 0, 0, 726), (726, 10, 0, 0, 0, 727), (727, 43, 0, 0, 0, 728), (728, 80, 0, 119, 1, 731), (731, 2, 0, 2, 2, 732), (732, 2, 0, 0, 2, 733), (733, 2, 0, 3, 0, 734), (734, 0, 1, 0, 0, 735), (735, 10, 0, 0, 0, 736), (736, 43, 0, 0, 0, 737), (737, 80, 0, 204, 1, 740), (740, 62, 0, 1546, 0, 743), (743, 0, 0, 0, 0, 744)]
set_option maxRecDepth 100000 in
theorem okL_10 : tbL_10.all (fun q => gok 253 swL_law q.1 q.2.1 q.2.2.1 q.2.2.2.1 q.2.2.2.2.1 q.2.2.2.2.2) = true := by decide +kernel
def tbL_11 : List (Nat × gRI) := [(744, 70, 0, 0, 1, 745), (745, 2, 0, 1, 2, 746), (746, 2, 0, 0, 2, 747), (747, 2, 0, 3, 0, 748), (748, 0, 1, 0, 0, 749), (749, 10, 0, 0, 0, 750), (750, 43, 0, 0, 0, 751), (751, 80, 0, 120, 1, 754), (754, 2, 0, 2, 2, 755), (755, 2, 0, 0, 2, 756), (756, 2, 0, 3, 0, 757), (757, 0, 1, 0, 0, 758), (758, 10, 0, 0, 0, 759), (759, 43, 0, 0, 0, 760), (760, 80, 0, 205, 1, 763), (763, 62, 0, 1546, 0, 766), (766, 0, 0, 0, 0, 767), (767, 70, 0, 0, 1, 768), (768, 2, 0, 1, 2, 769), (769, 2, 0, 0, 2, 770), (770, 2, 0, 3, 0, 771), (771, 0, 1, 0, 0, 772), (772, 10, 0, 0, 0, 773), (773, 43, 0, 0, 0, 774), (774, 2, 0, 0, 2, 775), (775, 2, 0, 3, 0, 776), (776, 0, 2, 0, 0, 777), (777, 10, 0, 0, 0, 778), (778, 43, 0, 0, 0, 779), (779, 80, 0, 121, 2, 782), (782, 2, 0, 2, 2, 783), (783, 2, 0, 0, 2, 784), (784, 2, 0, 3, 0, 785), (785, 0, 1, 0, 0, 786), (786, 10, 0, 0, 0, 787), (787, 43, 0, 0, 0, 788), (788, 2, 0, 0, 2, 789), (789, 2, 0, 3, 0, 790), (790, 0, 2, 0, 0, 791), (791, 10, 0, 0, 0, 792)]
set_option maxRecDepth 100000 in
theorem okL_11 : tbL_11.all (fun q => gok 253 swL_law q.1 q.2.1 q.2.2.1 q.2.2.2.1 q.2.2.2.2.1 q.2.2.2.2.2) = true := by decide +kernel
def tbL_12 : List (Nat × gRI) := [(792, 43, 0, 0, 0, 793), (793, 80, 0, 213, 2, 796), (796, 62, 0, 1546, 0, 799), (799, 0, 0, 0, 0, 800), (800, 70, 0, 0, 1, 801), (801, 2, 0, 1, 2, 802), (802, 2, 0, 0, 2, 803), (803, 2, 0, 3, 0, 804), (804, 0, 1, 0, 0, 805), (805, 10, 0, 0, 0, 806), (806, 43, 0, 0, 0, 807), (807, 80, 0, 122, 1, 810), (810, 2, 0, 2, 2, 811), (811, 2, 0, 0, 2, 812), (812, 2, 0, 3, 0, 813), (813, 0, 1, 0, 0, 814), (814, 10, 0, 0, 0, 815), (815, 43, 0, 0, 0, 816), (816, 80, 0, 214, 1, 819), (819, 62, 0, 1546, 0, 822), (822, 0, 0, 0, 0, 823), (823, 70, 0, 0, 1, 824), (824, 2, 0, 1, 2, 825), (825, 2, 0, 0, 2, 826), (826, 2, 0, 3, 0, 827), (827, 0, 1, 0, 0, 828), (828, 10, 0, 0, 0, 829), (829, 43, 0, 0, 0, 830), (830, 80, 0, 123, 1, 833), (833, 2, 0, 2, 2, 834), (834, 2, 0, 0, 2, 835), (835, 2, 0, 3, 0, 836), (836, 0, 1, 0, 0, 837), (837, 10, 0, 0, 0, 838), (838, 43, 0, 0, 0, 839), (839, 80, 0, 215, 1, 842), (842, 62, 0, 1546, 0, 845), (845, 0, 0, 0, 0, 846), (846, 70, 0, 0, 1, 847), (847, 2, 0, 1, 2, 848)]
set_option maxRecDepth 100000 in
theorem okL_12 : tbL_12.all (fun q => gok 253 swL_law q.1 q.2.1 q.2.2.1 q.2.2.2.1 q.2.2.2.2.1 q.2.2.2.2.2) = true := by decide +kernel
def tbL_13 : List (Nat × gRI) := [(848, 2, 0, 0, 2, 849), (849, 2, 0, 3, 0, 850), (850, 0, 1, 0, 0, 851), (851, 10, 0, 0, 0, 852), (852, 43, 0, 0, 0, 853), (853, 2, 0, 0, 2, 854), (854, 2, 0, 3, 0, 855), (855, 0, 2, 0, 0, 856), (856, 10, 0, 0, 0, 857), (857, 43, 0, 0, 0, 858), (858, 80, 0, 124, 2, 861), (861, 2, 0, 2, 2, 862), (862, 2, 0, 0, 2, 863), (863, 2, 0, 3, 0, 864), (864, 0, 1, 0, 0, 865), (865, 10, 0, 0, 0, 866), (866, 43, 0, 0, 0, 867), (867, 2, 0, 0, 2, 868), (868, 2, 0, 3, 0, 869), (869, 0, 2, 0, 0, 870), (870, 10, 0, 0, 0, 871), (871, 43, 0, 0, 0, 872), (872, 80, 0, 216, 2, 875), (875, 62, 0, 1546, 0, 878), (878, 0, 0, 0, 0, 879), (879, 70, 0, 0, 1, 880), (880, 2, 0, 1, 2, 881), (881, 2, 0, 0, 2, 882), (882, 2, 0, 3, 0, 883), (883, 0, 1, 0, 0, 884), (884, 10, 0, 0, 0, 885), (885, 43, 0, 0, 0, 886), (886, 80, 0, 125, 1, 889), (889, 2, 0, 2, 2, 890), (890, 2, 0, 0, 2, 891), (891, 2, 0, 3, 0, 892), (892, 0, 1, 0, 0, 893), (893, 10, 0, 0, 0, 894), (894, 43, 0, 0, 0, 895), (895, 80, 0, 217, 1, 898)]
set_option maxRecDepth 100000 in
theorem okL_13 : tbL_13.all (fun q => gok 253 swL_law q.1 q.2.1 q.2.2.1 q.2.2.2.1 q.2.2.2.2.1 q.2.2.2.2.2) = true := by decide +kernel
def tbL_14 : List (Nat × gRI) := [(898, 62, 0, 1546, 0, 901), (901, 0, 0, 0, 0, 902), (902, 70, 0, 0, 1, 903), (903, 2, 0, 1, 2, 904), (904, 2, 0, 0, 2, 905), (905, 2, 0, 3, 0, 906), (906, 0, 1, 0, 0, 907), (907, 10, 0, 0, 0, 908), (908, 43, 0, 0, 0, 909), (909, 2, 0, 0, 2, 910), (910, 2, 0, 3, 0, 911), (911, 0, 2, 0, 0, 912), (912, 10, 0, 0, 0, 913), (913, 43, 0, 0, 0, 914), (914, 2, 0, 0, 2, 915), (915, 2, 0, 3, 0, 916), (916, 0, 3, 0, 0, 917), (917, 10, 0, 0, 0, 918), (918, 43, 0, 0, 0, 919), (919, 80, 0, 126, 3, 922), (922, 2, 0, 2, 2, 923), (923, 2, 0, 0, 2, 924), (924, 2, 0, 3, 0, 925), (925, 0, 1, 0, 0, 926), (926, 10, 0, 0, 0, 927), (927, 43, 0, 0, 0, 928), (928, 2, 0, 0, 2, 929), (929, 2, 0, 3, 0, 930), (930, 0, 2, 0, 0, 931), (931, 10, 0, 0, 0, 932), (932, 43, 0, 0, 0, 933), (933, 2, 0, 0, 2, 934), (934, 2, 0, 3, 0, 935), (935, 0, 3, 0, 0, 936), (936, 10, 0, 0, 0, 937), (937, 43, 0, 0, 0, 938), (938, 80, 0, 218, 3, 941), (941, 62, 0, 1546, 0, 944), (944, 0, 0, 0, 0, 945), (945, 70, 0, 0, 1, 946)]
set_option maxRecDepth 100000 in
theorem okL_14 : tbL_14.all (fun q => gok 253 swL_law q.1 q.2.1 q.2.2.1 q.2.2.2.1 q.2.2.2.2.1 q.2.2.2.2.2) = true := by decide +kernel
def tbL_15 : List (Nat × gRI) := [(946, 2, 0, 1, 2, 947), (947, 2, 0, 0, 2, 948), (948, 2, 0, 3, 0, 949), (949, 0, 1, 0, 0, 950), (950, 10, 0, 0, 0, 951), (951, 43, 0, 0, 0, 952), (952, 2, 0, 0, 2, 953), (953, 2, 0, 3, 0, 954), (954, 0, 2, 0, 0, 955), (955, 10, 0, 0, 0, 956), (956, 43, 0, 0, 0, 957), (957, 80, 0, 127, 2, 960), (960, 2, 0, 2, 2, 961), (961, 2, 0, 0, 2, 962), (962, 2, 0, 3, 0, 963), (963, 0, 1, 0, 0, 964), (964, 10, 0, 0, 0, 965), (965, 43, 0, 0, 0, 966), (966, 2, 0, 0, 2, 967), (967, 2, 0, 3, 0, 968), (968, 0, 2, 0, 0, 969), (969, 10, 0, 0, 0, 970), (970, 43, 0, 0, 0, 971), (971, 80, 0, 220, 2, 974), (974, 62, 0, 1546, 0, 977), (977, 0, 0, 0, 0, 978), (978, 70, 0, 0, 1, 979), (979, 2, 0, 1, 2, 980), (980, 2, 0, 0, 2, 981), (981, 2, 0, 3, 0, 982), (982, 0, 1, 0, 0, 983), (983, 10, 0, 0, 0, 984), (984, 43, 0, 0, 0, 985), (985, 2, 0, 0, 2, 986), (986, 2, 0, 3, 0, 987), (987, 0, 2, 0, 0, 988), (988, 10, 0, 0, 0, 989), (989, 43, 0, 0, 0, 990), (990, 80, 0, 128, 2, 993), (993, 2, 0, 2, 2, 994)]
set_option maxRecDepth 100000 in
theorem okL_15 : tbL_15.all (fun q => gok 253 swL_law q.1 q.2.1 q.2.2.1 q.2.2.2.1 q.2.2.2.2.1 q.2.2.2.2.2) = true := by decide +kernel
def tbL_16 : List (Nat × gRI) := [(994, 2, 0, 0, 2, 995), (995, 2, 0, 3, 0, 996), (996, 0, 1, 0, 0, 997), (997, 10, 0, 0, 0, 998), (998, 43, 0, 0, 0, 999), (999, 2, 0, 0, 2, 1000), (1000, 2, 0, 3, 0, 1001), (1001, 0, 2, 0, 0, 1002), (1002, 10, 0, 0, 0, 1003), (1003, 43, 0, 0, 0, 1004), (1004, 80, 0, 224, 2, 1007), (1007, 62, 0, 1546, 0, 1010), (1010, 0, 0, 0, 0, 1011), (1011, 70, 0, 0, 1, 1012), (1012, 2, 0, 1, 2, 1013), (1013, 2, 0, 0, 2, 1014), (1014, 2, 0, 3, 0, 1015), (1015, 0, 1, 0, 0, 1016), (1016, 10, 0, 0, 0, 1017), (1017, 43, 0, 0, 0, 1018), (1018, 80, 0, 129, 1, 1021), (1021, 2, 0, 2, 2, 1022), (1022, 2, 0, 0, 2, 1023), (1023, 2, 0, 3, 0, 1024), (1024, 0, 1, 0, 0, 1025), (1025, 10, 0, 0, 0, 1026), (1026, 43, 0, 0, 0, 1027), (1027, 80, 0, 225, 1, 1030), (1030, 62, 0, 1546, 0, 1033), (1033, 0, 0, 0, 0, 1034), (1034, 70, 0, 0, 1, 1035), (1035, 2, 0, 1, 2, 1036), (1036, 2, 0, 0, 2, 1037), (1037, 2, 0, 3, 0, 1038), (1038, 0, 1, 0, 0, 1039), (1039, 10, 0, 0, 0, 1040), (1040, 43, 0, 0, 0, 1041), (1041, 2, 0, 0, 2, 1042), (1042, 2, 0, 3, 0, 1043), (1043, 0, 2, 0, 0, 1044)]
set_option maxRecDepth 100000 in
theorem okL_16 : tbL_16.all (fun q => gok 253 swL_law q.1 q.2.1 q.2.2.1 q.2.2.2.1 q.2.2.2.2.1 q.2.2.2.2.2) = true := by decide +kernel
def tbL_17 : List (Nat × gRI) := [(1044, 10, 0, 0, 0, 1045), (1045, 43, 0, 0, 0, 1046), (1046, 2, 0, 0, 2, 1047), (1047, 2, 0, 3, 0, 1048), (1048, 0, 3, 0, 0, 1049), (1049, 10, 0, 0, 0, 1050), (1050, 43, 0, 0, 0, 1051), (1051, 2, 0, 0, 2, 1052), (1052, 2, 0, 3, 0, 1053), (1053, 0, 4, 0, 0, 1054), (1054, 10, 0, 0, 0, 1055), (1055, 43, 0, 0, 0, 1056), (1056, 80, 0, 130, 4, 1059), (1059, 2, 0, 2, 2, 1060), (1060, 2, 0, 0, 2, 1061), (1061, 2, 0, 3, 0, 1062), (1062, 0, 1, 0, 0, 1063), (1063, 10, 0, 0, 0, 1064), (1064, 43, 0, 0, 0, 1065), (1065, 2, 0, 0, 2, 1066), (1066, 2, 0, 3, 0, 1067), (1067, 0, 2, 0, 0, 1068), (1068, 10, 0, 0, 0, 1069), (1069, 43, 0, 0, 0, 1070), (1070, 2, 0, 0, 2, 1071), (1071, 2, 0, 3, 0, 1072), (1072, 0, 3, 0, 0, 1073), (1073, 10, 0, 0, 0, 1074), (1074, 43, 0, 0, 0, 1075), (1075, 2, 0, 0, 2, 1076), (1076, 2, 0, 3, 0, 1077), (1077, 0, 4, 0, 0, 1078), (1078, 10, 0, 0, 0, 1079), (1079, 43, 0, 0, 0, 1080), (1080, 80, 0, 226, 4, 1083), (1083, 62, 0, 1546, 0, 1086), (1086, 0, 0, 0, 0, 1087), (1087, 70, 0, 0, 1, 1088), (1088, 2, 0, 1, 2, 1089), (1089, 2, 0, 0, 2, 1090)]
set_option maxRecDepth 100000 in
theorem okL_17 : tbL_17.all (fun q => gok 253 swL_law q.1 q.2.1 q.2.2.1 q.2.2.2.1 q.2.2.2.2.1 q.2.2.2.2.2) = true := by decide +kernel
def tbL_18 : List (Nat × gRI) := [(1090, 2, 0, 3, 0, 1091), (1091, 0, 1, 0, 0, 1092), (1092, 10, 0, 0, 0, 1093), (1093, 43, 0, 0, 0, 1094), (1094, 80, 0, 131, 1, 1097), (1097, 2, 0, 2, 2, 1098), (1098, 2, 0, 0, 2, 1099), (1099, 2, 0, 3, 0, 1100), (1100, 0, 1, 0, 0, 1101), (1101, 10, 0, 0, 0, 1102), (1102, 43, 0, 0, 0, 1103), (1103, 80, 0, 228, 1, 1106), (1106, 62, 0, 1546, 0, 1109), (1109, 0, 0, 0, 0, 1110), (1110, 70, 0, 0, 1, 1111), (1111, 2, 0, 1, 2, 1112), (1112, 2, 0, 0, 2, 1113), (1113, 2, 0, 3, 0, 1114), (1114, 0, 1, 0, 0, 1115), (1115, 10, 0, 0, 0, 1116), (1116, 43, 0, 0, 0, 1117), (1117, 2, 0, 0, 2, 1118), (1118, 2, 0, 3, 0, 1119), (1119, 0, 2, 0, 0, 1120), (1120, 10, 0, 0, 0, 1121), (1121, 43, 0, 0, 0, 1122), (1122, 80, 0, 132, 2, 1125), (1125, 2, 0, 2, 2, 1126), (1126, 2, 0, 0, 2, 1127), (1127, 2, 0, 3, 0, 1128), (1128, 0, 1, 0, 0, 1129), (1129, 10, 0, 0, 0, 1130), (1130, 43, 0, 0, 0, 1131), (1131, 2, 0, 0, 2, 1132), (1132, 2, 0, 3, 0, 1133), (1133, 0, 2, 0, 0, 1134), (1134, 10, 0, 0, 0, 1135), (1135, 43, 0, 0, 0, 1136), (1136, 80, 0, 230, 2, 1139), (1139, 62, 0, 1546, 0, 1142)]
set_option maxRecDepth 100000 in
theorem okL_18 : tbL_18.all (fun q => gok 253 swL_law q.1 q.2.1 q.2.2.1 q.2.2.2.1 q.2.2.2.2.1 q.2.2.2.2.2) = true := by decide +kernel
def tbL_19 : List (Nat × gRI) := [(1142, 0, 0, 0, 0, 1143), (1143, 70, 0, 0, 1, 1144), (1144, 2, 0, 1, 2, 1145), (1145, 2, 0, 0, 2, 1146), (1146, 2, 0, 3, 0, 1147), (1147, 0, 1, 0, 0, 1148), (1148, 10, 0, 0, 0, 1149), (1149, 43, 0, 0, 0, 1150), (1150, 2, 0, 0, 2, 1151), (1151, 2, 0, 3, 0, 1152), (1152, 0, 2, 0, 0, 1153), (1153, 10, 0, 0, 0, 1154), (1154, 43, 0, 0, 0, 1155), (1155, 80, 0, 133, 2, 1158), (1158, 2, 0, 2, 2, 1159), (1159, 2, 0, 0, 2, 1160), (1160, 2, 0, 3, 0, 1161), (1161, 0, 1, 0, 0, 1162), (1162, 10, 0, 0, 0, 1163), (1163, 43, 0, 0, 0, 1164), (1164, 2, 0, 0, 2, 1165), (1165, 2, 0, 3, 0, 1166), (1166, 0, 2, 0, 0, 1167), (1167, 10, 0, 0, 0, 1168), (1168, 43, 0, 0, 0, 1169), (1169, 80, 0, 231, 2, 1172), (1172, 62, 0, 1546, 0, 1175), (1175, 0, 0, 0, 0, 1176), (1176, 70, 0, 0, 1, 1177), (1177, 2, 0, 1, 2, 1178), (1178, 2, 0, 0, 2, 1179), (1179, 2, 0, 3, 0, 1180), (1180, 0, 1, 0, 0, 1181), (1181, 10, 0, 0, 0, 1182), (1182, 43, 0, 0, 0, 1183), (1183, 2, 0, 0, 2, 1184), (1184, 2, 0, 3, 0, 1185), (1185, 0, 2, 0, 0, 1186), (1186, 10, 0, 0, 0, 1187), (1187, 43, 0, 0, 0, 1188)]
set_option maxRecDepth 100000 in
theorem okL_19 : tbL_19.all (fun q => gok 253 swL_law q.1 q.2.1 q.2.2.1 q.2.2.2.1 q.2.2.2.2.1 q.2.2.2.2.2) = true := by decide +kernel
def tbL_20 : List (Nat × gRI) := [(1188, 80, 0, 134, 2, 1191), (1191, 2, 0, 2, 2, 1192), (1192, 2, 0, 0, 2, 1193), (1193, 2, 0, 3, 0, 1194), (1194, 0, 1, 0, 0, 1195), (1195, 10, 0, 0, 0, 1196), (1196, 43, 0, 0, 0, 1197), (1197, 2, 0, 0, 2, 1198), (1198, 2, 0, 3, 0, 1199), (1199, 0, 2, 0, 0, 1200), (1200, 10, 0, 0, 0, 1201), (1201, 43, 0, 0, 0, 1202), (1202, 80, 0, 232, 2, 1205), (1205, 62, 0, 1546, 0, 1208), (1208, 0, 0, 0, 0, 1209), (1209, 70, 0, 0, 1, 1210), (1210, 2, 0, 1, 2, 1211), (1211, 80, 0, 135, 0, 1214), (1214, 2, 0, 2, 2, 1215), (1215, 80, 0, 233, 0, 1218), (1218, 62, 0, 1546, 0, 1221), (1221, 0, 0, 0, 0, 1222), (1222, 70, 0, 0, 1, 1223), (1223, 2, 0, 1, 2, 1224), (1224, 2, 0, 0, 2, 1225), (1225, 2, 0, 3, 0, 1226), (1226, 0, 1, 0, 0, 1227), (1227, 10, 0, 0, 0, 1228), (1228, 43, 0, 0, 0, 1229), (1229, 80, 0, 136, 1, 1232), (1232, 2, 0, 2, 2, 1233), (1233, 2, 0, 0, 2, 1234), (1234, 2, 0, 3, 0, 1235), (1235, 0, 1, 0, 0, 1236), (1236, 10, 0, 0, 0, 1237), (1237, 43, 0, 0, 0, 1238), (1238, 80, 0, 234, 1, 1241), (1241, 62, 0, 1546, 0, 1244), (1244, 0, 0, 0, 0, 1245), (1245, 70, 0, 0, 1, 1246)]
set_option maxRecDepth 100000 in
theorem okL_20 : tbL_20.all (fun q => gok 253 swL_law q.1 q.2.1 q.2.2.1 q.2.2.2.1 q.2.2.2.2.1 q.2.2.2.2.2) = true := by decide +kernel
def tbL_21 : List (Nat × gRI) := [(1246, 2, 0, 1, 2, 1247), (1247, 2, 0, 0, 2, 1248), (1248, 2, 0, 3, 0, 1249), (1249, 0, 1, 0, 0, 1250), (1250, 10, 0, 0, 0, 1251), (1251, 43, 0, 0, 0, 1252), (1252, 2, 0, 0, 2, 1253), (1253, 2, 0, 3, 0, 1254), (1254, 0, 2, 0, 0, 1255), (1255, 10, 0, 0, 0, 1256), (1256, 43, 0, 0, 0, 1257), (1257, 80, 0, 137, 2, 1260), (1260, 2, 0, 2, 2, 1261), (1261, 2, 0, 0, 2, 1262), (1262, 2, 0, 3, 0, 1263), (1263, 0, 1, 0, 0, 1264), (1264, 10, 0, 0, 0, 1265), (1265, 43, 0, 0, 0, 1266), (1266, 2, 0, 0, 2, 1267), (1267, 2, 0, 3, 0, 1268), (1268, 0, 2, 0, 0, 1269), (1269, 10, 0, 0, 0, 1270), (1270, 43, 0, 0, 0, 1271), (1271, 80, 0, 235, 2, 1274), (1274, 62, 0, 1546, 0, 1277), (1277, 0, 0, 0, 0, 1278), (1278, 70, 0, 0, 1, 1279), (1279, 2, 0, 1, 2, 1280), (1280, 2, 0, 0, 2, 1281), (1281, 2, 0, 3, 0, 1282), (1282, 0, 1, 0, 0, 1283), (1283, 10, 0, 0, 0, 1284), (1284, 43, 0, 0, 0, 1285), (1285, 2, 0, 0, 2, 1286), (1286, 2, 0, 3, 0, 1287), (1287, 0, 2, 0, 0, 1288), (1288, 10, 0, 0, 0, 1289), (1289, 43, 0, 0, 0, 1290), (1290, 80, 0, 138, 2, 1293), (1293, 2, 0, 2, 2, 1294)]
set_option maxRecDepth 100000 in
theorem okL_21 : tbL_21.all (fun q => gok 253 swL_law q.1 q.2.1 q.2.2.1 q.2.2.2.1 q.2.2.2.2.1 q.2.2.2.2.2) = true := by decide +kernel
def tbL_22 : List (Nat × gRI) := [(1294, 2, 0, 0, 2, 1295), (1295, 2, 0, 3, 0, 1296), (1296, 0, 1, 0, 0, 1297), (1297, 10, 0, 0, 0, 1298), (1298, 43, 0, 0, 0, 1299), (1299, 2, 0, 0, 2, 1300), (1300, 2, 0, 3, 0, 1301), (1301, 0, 2, 0, 0, 1302), (1302, 10, 0, 0, 0, 1303), (1303, 43, 0, 0, 0, 1304), (1304, 80, 0, 236, 2, 1307), (1307, 62, 0, 1546, 0, 1310), (1310, 0, 0, 0, 0, 1311), (1311, 70, 0, 0, 1, 1312), (1312, 2, 0, 1, 2, 1313), (1313, 2, 0, 0, 2, 1314), (1314, 2, 0, 3, 0, 1315), (1315, 0, 1, 0, 0, 1316), (1316, 10, 0, 0, 0, 1317), (1317, 43, 0, 0, 0, 1318), (1318, 2, 0, 0, 2, 1319), (1319, 2, 0, 3, 0, 1320), (1320, 0, 2, 0, 0, 1321), (1321, 10, 0, 0, 0, 1322), (1322, 43, 0, 0, 0, 1323), (1323, 2, 0, 0, 2, 1324), (1324, 2, 0, 3, 0, 1325), (1325, 0, 3, 0, 0, 1326), (1326, 10, 0, 0, 0, 1327), (1327, 43, 0, 0, 0, 1328), (1328, 80, 0, 139, 3, 1331), (1331, 2, 0, 2, 2, 1332), (1332, 2, 0, 0, 2, 1333), (1333, 2, 0, 3, 0, 1334), (1334, 0, 1, 0, 0, 1335), (1335, 10, 0, 0, 0, 1336), (1336, 43, 0, 0, 0, 1337), (1337, 2, 0, 0, 2, 1338), (1338, 2, 0, 3, 0, 1339), (1339, 0, 2, 0, 0, 1340)]
set_option maxRecDepth 100000 in
theorem okL_22 : tbL_22.all (fun q => gok 253 swL_law q.1 q.2.1 q.2.2.1 q.2.2.2.1 q.2.2.2.2.1 q.2.2.2.2.2) = true := by decide +kernel
def tbL_23 : List (Nat × gRI) := [(1340, 10, 0, 0, 0, 1341), (1341, 43, 0, 0, 0, 1342), (1342, 2, 0, 0, 2, 1343), (1343, 2, 0, 3, 0, 1344), (1344, 0, 3, 0, 0, 1345), (1345, 10, 0, 0, 0, 1346), (1346, 43, 0, 0, 0, 1347), (1347, 80, 0, 238, 3, 1350), (1350, 62, 0, 1546, 0, 1353), (1353, 0, 0, 0, 0, 1354), (1354, 70, 0, 0, 1, 1355), (1355, 2, 0, 1, 2, 1356), (1356, 2, 0, 0, 2, 1357), (1357, 2, 0, 3, 0, 1358), (1358, 0, 1, 0, 0, 1359), (1359, 10, 0, 0, 0, 1360), (1360, 43, 0, 0, 0, 1361), (1361, 2, 0, 0, 2, 1362), (1362, 2, 0, 3, 0, 1363), (1363, 0, 2, 0, 0, 1364), (1364, 10, 0, 0, 0, 1365), (1365, 43, 0, 0, 0, 1366), (1366, 2, 0, 0, 2, 1367), (1367, 2, 0, 3, 0, 1368), (1368, 0, 3, 0, 0, 1369), (1369, 10, 0, 0, 0, 1370), (1370, 43, 0, 0, 0, 1371), (1371, 80, 0, 140, 3, 1374), (1374, 2, 0, 2, 2, 1375), (1375, 2, 0, 0, 2, 1376), (1376, 2, 0, 3, 0, 1377), (1377, 0, 1, 0, 0, 1378), (1378, 10, 0, 0, 0, 1379), (1379, 43, 0, 0, 0, 1380), (1380, 2, 0, 0, 2, 1381), (1381, 2, 0, 3, 0, 1382), (1382, 0, 2, 0, 0, 1383), (1383, 10, 0, 0, 0, 1384), (1384, 43, 0, 0, 0, 1385), (1385, 2, 0, 0, 2, 1386)]
set_option maxRecDepth 100000 in
theorem okL_23 : tbL_23.all (fun q => gok 253 swL_law q.1 q.2.1 q.2.2.1 q.2.2.2.1 q.2.2.2.2.1 q.2.2.2.2.2) = true := by decide +kernel
def tbL_24 : List (Nat × gRI) := [(1386, 2, 0, 3, 0, 1387), (1387, 0, 3, 0, 0, 1388), (1388, 10, 0, 0, 0, 1389), (1389, 43, 0, 0, 0, 1390), (1390, 80, 0, 239, 3, 1393), (1393, 62, 0, 1546, 0, 1396), (1396, 0, 0, 0, 0, 1397), (1397, 70, 0, 0, 1, 1398), (1398, 2, 0, 1, 2, 1399), (1399, 2, 0, 0, 2, 1400), (1400, 2, 0, 3, 0, 1401), (1401, 0, 1, 0, 0, 1402), (1402, 10, 0, 0, 0, 1403), (1403, 43, 0, 0, 0, 1404), (1404, 2, 0, 0, 2, 1405), (1405, 2, 0, 3, 0, 1406), (1406, 0, 2, 0, 0, 1407), (1407, 10, 0, 0, 0, 1408), (1408, 43, 0, 0, 0, 1409), (1409, 2, 0, 0, 2, 1410), (1410, 2, 0, 3, 0, 1411), (1411, 0, 3, 0, 0, 1412), (1412, 10, 0, 0, 0, 1413), (1413, 43, 0, 0, 0, 1414), (1414, 2, 0, 0, 2, 1415), (1415, 2, 0, 3, 0, 1416), (1416, 0, 4, 0, 0, 1417), (1417, 10, 0, 0, 0, 1418), (1418, 43, 0, 0, 0, 1419), (1419, 2, 0, 0, 2, 1420), (1420, 2, 0, 3, 0, 1421), (1421, 0, 5, 0, 0, 1422), (1422, 10, 0, 0, 0, 1423), (1423, 43, 0, 0, 0, 1424), (1424, 80, 0, 141, 5, 1427), (1427, 2, 0, 2, 2, 1428), (1428, 2, 0, 0, 2, 1429), (1429, 2, 0, 3, 0, 1430), (1430, 0, 1, 0, 0, 1431), (1431, 10, 0, 0, 0, 1432)]
set_option maxRecDepth 100000 in
theorem okL_24 : tbL_24.all (fun q => gok 253 swL_law q.1 q.2.1 q.2.2.1 q.2.2.2.1 q.2.2.2.2.1 q.2.2.2.2.2) = true := by decide +kernel
def tbL_25 : List (Nat × gRI) := [(1432, 43, 0, 0, 0, 1433), (1433, 2, 0, 0, 2, 1434), (1434, 2, 0, 3, 0, 1435), (1435, 0, 2, 0, 0, 1436), (1436, 10, 0, 0, 0, 1437), (1437, 43, 0, 0, 0, 1438), (1438, 2, 0, 0, 2, 1439), (1439, 2, 0, 3, 0, 1440), (1440, 0, 3, 0, 0, 1441), (1441, 10, 0, 0, 0, 1442), (1442, 43, 0, 0, 0, 1443), (1443, 2, 0, 0, 2, 1444), (1444, 2, 0, 3, 0, 1445), (1445, 0, 4, 0, 0, 1446), (1446, 10, 0, 0, 0, 1447), (1447, 43, 0, 0, 0, 1448), (1448, 2, 0, 0, 2, 1449), (1449, 2, 0, 3, 0, 1450), (1450, 0, 5, 0, 0, 1451), (1451, 10, 0, 0, 0, 1452), (1452, 43, 0, 0, 0, 1453), (1453, 80, 0, 240, 5, 1456), (1456, 62, 0, 1546, 0, 1459), (1459, 0, 0, 0, 0, 1460), (1460, 70, 0, 0, 1, 1461), (1461, 2, 0, 1, 2, 1462), (1462, 80, 0, 142, 0, 1465), (1465, 2, 0, 2, 2, 1466), (1466, 80, 0, 243, 0, 1469), (1469, 62, 0, 1546, 0, 1472), (1472, 0, 0, 0, 0, 1473), (1473, 70, 0, 0, 1, 1474), (1474, 2, 0, 1, 2, 1475), (1475, 80, 0, 143, 0, 1478), (1478, 2, 0, 2, 2, 1479), (1479, 80, 0, 244, 0, 1482), (1482, 62, 0, 1546, 0, 1485), (1485, 0, 0, 0, 0, 1486), (1486, 70, 0, 0, 1, 1487), (1487, 2, 0, 1, 2, 1488)]
set_option maxRecDepth 100000 in
theorem okL_25 : tbL_25.all (fun q => gok 253 swL_law q.1 q.2.1 q.2.2.1 q.2.2.2.1 q.2.2.2.2.1 q.2.2.2.2.2) = true := by decide +kernel
def tbL_26 : List (Nat × gRI) := [(1488, 80, 0, 144, 0, 1491), (1491, 2, 0, 2, 2, 1492), (1492, 80, 0, 245, 0, 1495), (1495, 62, 0, 1546, 0, 1498), (1498, 0, 0, 0, 0, 1499), (1499, 70, 0, 0, 1, 1500), (1500, 2, 0, 1, 2, 1501), (1501, 2, 0, 0, 2, 1502), (1502, 2, 0, 3, 0, 1503), (1503, 0, 1, 0, 0, 1504), (1504, 10, 0, 0, 0, 1505), (1505, 43, 0, 0, 0, 1506), (1506, 80, 0, 145, 1, 1509), (1509, 2, 0, 2, 2, 1510), (1510, 2, 0, 0, 2, 1511), (1511, 2, 0, 3, 0, 1512), (1512, 0, 1, 0, 0, 1513), (1513, 10, 0, 0, 0, 1514), (1514, 43, 0, 0, 0, 1515), (1515, 80, 0, 246, 1, 1518), (1518, 62, 0, 1546, 0, 1521), (1521, 0, 0, 0, 0, 1522), (1522, 70, 0, 0, 1, 1523), (1523, 2, 0, 1, 2, 1524), (1524, 2, 0, 0, 2, 1525), (1525, 2, 0, 3, 0, 1526), (1526, 0, 1, 0, 0, 1527), (1527, 10, 0, 0, 0, 1528), (1528, 43, 0, 0, 0, 1529), (1529, 80, 0, 146, 1, 1532), (1532, 2, 0, 2, 2, 1533), (1533, 2, 0, 0, 2, 1534), (1534, 2, 0, 3, 0, 1535), (1535, 0, 1, 0, 0, 1536), (1536, 10, 0, 0, 0, 1537), (1537, 43, 0, 0, 0, 1538), (1538, 80, 0, 247, 1, 1541), (1541, 62, 0, 1546, 0, 1544), (1544, 0, 0, 0, 0, 1545), (1545, 70, 0, 0, 1, 1546)]
set_option maxRecDepth 100000 in
theorem okL_26 : tbL_26.all (fun q => gok 253 swL_law q.1 q.2.1 q.2.2.1 q.2.2.2.1 q.2.2.2.2.1 q.2.2.2.2.2) = true := by decide +kernel
def tbL_27 : List (Nat × gRI) := [(1546, 5, 6, 3, 0, 1549), (1549, 60, 0, 18, 0, 1552), (1552, 0, 1, 0, 0, 1553), (1553, 70, 0, 0, 1, 1554)]
set_option maxRecDepth 100000 in
theorem okL_27 : tbL_27.all (fun q => gok 253 swL_law q.1 q.2.1 q.2.2.1 q.2.2.2.1 q.2.2.2.2.1 q.2.2.2.2.2) = true := by decide +kernel
def tbL_law : List (Nat × gRI) := tbL_0 ++ (tbL_1 ++ (tbL_2 ++ (tbL_3 ++ (tbL_4 ++ (tbL_5 ++ (tbL_6 ++ (tbL_7 ++ (tbL_8 ++ (tbL_9 ++ (tbL_10 ++ (tbL_11 ++ (tbL_12 ++ (tbL_13 ++ (tbL_14 ++ (tbL_15 ++ (tbL_16 ++ (tbL_17 ++ (tbL_18 ++ (tbL_19 ++ (tbL_20 ++ (tbL_21 ++ (tbL_22 ++ (tbL_23 ++ (tbL_24 ++ (tbL_25 ++ (tbL_26 ++ (tbL_27)))))))))))))))))))))))))))
def mL_law : gMt := (253, tbL_law, swL_law)
theorem okL_law : gOK mL_law = true := by
  unfold gOK
  show tbL_law.all (fun q => gok 253 swL_law q.1 q.2.1 q.2.2.1 q.2.2.2.1 q.2.2.2.2.1 q.2.2.2.2.2) = true
  unfold tbL_law
  simp only [List.all_append, okL_0, okL_1, okL_2, okL_3, okL_4, okL_5, okL_6, okL_7, okL_8, okL_9, okL_10, okL_11, okL_12, okL_13, okL_14, okL_15, okL_16, okL_17, okL_18, okL_19, okL_20, okL_21, okL_22, okL_23, okL_24, okL_25, okL_26, okL_27, Bool.and_self]
end
section
/-! ===== locals ===== -/
def gnl : Option gV → Option gV
  | some (.inr (.inl _)) => none
  | o => o
def gset : List (Option gV) → Nat → gV → List (Option gV)
  | [], _, _ => []
  | _ :: l, 0, v => some v :: l
  | o :: l, i + 1, v => (if i = 0 then gnl o else o) :: gset l i v
def gclr : List (Option gV) → Nat → List (Option gV)
  | [], _ => []
  | _ :: l, 0 => none :: l
  | o :: l, i + 1 => o :: gclr l i
theorem gset_get : ∀ (l : List (Option gV)) (i : Nat) (v : gV) (j : Nat) (w : gV), (gset l i v)[j]? = some (some w) → (j = i ∧ w = v) ∨ (j ≠ i ∧ l[j]? = some (some w) ∧ (j + 1 = i → ∀ x, w ≠ .inr (.inl x)))
  | [], _, _, j, w, h => by simp [gset] at h
  | o :: l, 0, v, 0, w, h => by
    simp [gset] at h
    exact Or.inl ⟨rfl, h.symm⟩
  | o :: l, 0, v, j + 1, w, h => by
    simp [gset] at h
    exact Or.inr ⟨by omega, by simpa using h, fun q => by omega⟩
  | o :: l, i + 1, v, 0, w, h => by
    right
    by_cases e : i = 0
    · subst e
      simp [gset, gnl] at h
      split at h
      · cases h
      · subst h
        refine ⟨by omega, by simp, fun _ x hx => ?_⟩
        subst hx
        rename_i hne
        exact hne x rfl
    · simp [gset, e] at h
      exact ⟨by omega, by simpa using h, fun q => by omega⟩
  | o :: l, i + 1, v, j + 1, w, h => by
    simp [gset] at h
    rcases gset_get l i v j w h with ⟨h1, h2⟩ | ⟨h1, h2, h3⟩
    · exact Or.inl ⟨by omega, h2⟩
    · exact Or.inr ⟨by omega, by simpa using h2, fun q => h3 (by omega)⟩
theorem gclr_get : ∀ (l : List (Option gV)) (i : Nat) (j : Nat) (w : gV), (gclr l i)[j]? = some (some w) → j ≠ i ∧ l[j]? = some (some w)
  | [], _, j, w, h => by simp [gclr] at h
  | o :: l, 0, 0, w, h => by simp [gclr] at h
  | o :: l, 0, j + 1, w, h => by
    simp [gclr] at h
    exact ⟨by omega, by simpa using h⟩
  | o :: l, i + 1, 0, w, h => by
    simp [gclr] at h
    exact ⟨by omega, by simpa using h⟩
  | o :: l, i + 1, j + 1, w, h => by
    simp [gclr] at h
    obtain ⟨h1, h2⟩ := gclr_get l i j w h
    exact ⟨by omega, by simpa using h2⟩
def glist (G : gG) (lv : List (Option gV)) : List (Nat × Value) := lv.zipIdx.filterMap (fun q => q.1.map (fun v => (q.2, gup G v)))
theorem glist_mem {G : gG} {lv : List (Option gV)} {j : Nat} {v : gV} (h : lv[j]? = some (some v)) : (j, gup G v) ∈ glist G lv := by
  refine List.mem_filterMap.mpr ⟨(some v, j), ?_, rfl⟩
  rw [List.mem_zipIdx_iff_getElem?]
  exact h
theorem glist_of {G : gG} {lv : List (Option gV)} {q : Nat × Value} (h : q ∈ glist G lv) : ∃ v, lv[q.1]? = some (some v) ∧ q.2 = gup G v := by
  obtain ⟨⟨o, j⟩, h1, h2⟩ := List.mem_filterMap.mp h
  rw [List.mem_zipIdx_iff_getElem?] at h1
  cases o with
  | none => simp at h2
  | some v =>
    simp at h2
    subst h2
    exact ⟨v, h1, rfl⟩
theorem gLs_has {G : gG} {ls : Array Slot} {nL : Nat} {lv : List (Option gV)} (h : gLs G ls nL lv) : lv_has ls nL (glist G lv) := by
  refine ⟨h.1, h.2.1, fun q hq => ?_⟩
  obtain ⟨v, h1, h2⟩ := glist_of hq
  rw [h2]
  exact h.2.2 _ _ h1
theorem gcat1 {G : gG} {v : gV} (h : ∀ x, v ≠ .inr (.inl x)) : (gup G v).category = 1 := by
  rcases v with z | x | r | k
  · rfl
  · exact absurd rfl (h x)
  · cases r <;> rfl
  · rfl
theorem gcat2 {G : gG} {v : gV} (h : (gup G v).category = 2) : ∃ x, v = .inr (.inl x) := by
  rcases v with z | x | r | k
  · cases h
  · exact ⟨x, rfl⟩
  · cases r <;> cases h
  · cases h
theorem gLs_set {G : gG} {ls' : Array Slot} {nL i : Nat} {lv : List (Option gV)} {v : gV} (h' : lv_has ls' nL ((i, gup G v) :: (glist G lv).filter (fun q => !(q.1 == i) && !(q.1 + 1 == i && q.2.category == 2)))) : gLs G ls' nL (gset lv i v) := by
  refine ⟨h'.1, h'.2.1, fun j w hj => ?_⟩
  rcases gset_get lv i v j w hj with ⟨rfl, rfl⟩ | ⟨h1, h2, h3⟩
  · exact h'.2.2 (j, gup G w) List.mem_cons_self
  · refine h'.2.2 (j, gup G w) (List.mem_cons_of_mem _ (List.mem_filter.mpr ⟨glist_mem h2, ?_⟩))
    simp only [Bool.and_eq_true, Bool.not_eq_true', beq_eq_false_iff_ne, Bool.and_eq_false_iff]
    refine ⟨h1, ?_⟩
    by_cases e : j + 1 = i
    · right
      rw [gcat1 (h3 e)]
      decide
    · exact Or.inl e
theorem gLs_set2 {G : gG} {ls' : Array Slot} {nL i : Nat} {lv : List (Option gV)} {v : gV} (h' : lv_has ls' nL ((i, gup G v) :: (glist G lv).filter (fun q => !(q.1 == i) && (!(q.1 == i + 1) && !(q.1 + 1 == i && q.2.category == 2))))) : gLs G ls' nL (gclr (gset lv i v) (i + 1)) := by
  refine ⟨h'.1, h'.2.1, fun j w hj => ?_⟩
  obtain ⟨h0, hj⟩ := gclr_get _ _ _ _ hj
  rcases gset_get lv i v j w hj with ⟨rfl, rfl⟩ | ⟨h1, h2, h3⟩
  · exact h'.2.2 (j, gup G w) List.mem_cons_self
  · refine h'.2.2 (j, gup G w) (List.mem_cons_of_mem _ (List.mem_filter.mpr ⟨glist_mem h2, ?_⟩))
    simp only [Bool.and_eq_true, Bool.not_eq_true', beq_eq_false_iff_ne, Bool.and_eq_false_iff]
    refine ⟨h1, h0, ?_⟩
    by_cases e : j + 1 = i
    · right
      rw [gcat1 (h3 e)]
      decide
    · exact Or.inl e
def gkd : gV → Option Nat
  | .inl _ => some 0
  | .inr (.inl _) => some 1
  | .inr (.inr (.inl (some _))) => some 2
  | .inr (.inr (.inl none)) => none
  | .inr (.inr (.inr _)) => some 2
theorem iI_b {z : Int} (h1 : -128 ≤ z) (h2 : z < 128) : (Int8.ofInt z).toInt32 = iI z := by
  apply Int32.toInt_inj.mp
  rw [iI_toInt ⟨by omega, by omega⟩, Int8.toInt_toInt32, Int8.toInt_ofInt_of_le h1 h2]
theorem iI_s {z : Int} (h1 : -32768 ≤ z) (h2 : z < 32768) : (Int16.ofInt z).toInt32 = iI z := by
  apply Int32.toInt_inj.mp
  rw [iI_toInt ⟨by omega, by omega⟩, Int16.toInt_toInt32, Int16.toInt_ofInt_of_le h1 h2]
section GO
variable {G : gG} {mt : gMt} {n mc ms pc nx x y : Nat} {z : Int} {lv : List (Option gV)} {st : List gV} {M : gMe} {P : Option gV → gMe → Prop}
theorem Go.const (hi : gat mt pc = some (0, z, x, y, nx)) (k : Go G mt n mc ms nx lv (gi z :: st) M P) : Go G mt n mc ms pc lv st M P := by
  intro p l e R s m args below meth c H locs cells slots ls cx hS hW hL hc hs
  have hk := k p l e R s m args below meth c H locs cells slots ls cx hS hW hL hc hs
  obtain ⟨hx, hb, -, -, hown, hts, -, -, -, -, -, -, hok⟩ := cx
  have ho := gat_ok hok hi
  simp only [gok, Bool.or_eq_true, Bool.and_eq_true, decide_eq_true_eq, List.any_eq_true] at ho
  rcases ho with ((⟨hd, rfl⟩ | ⟨⟨⟨hd, rfl⟩, h1⟩, h2⟩) | ⟨⟨⟨hd, rfl⟩, h1⟩, h2⟩) | ⟨q, hq, ⟨hq1, hq2⟩, (⟨hd, rfl⟩ | ⟨hd, rfl⟩)⟩
  · exact lv_iconst hx hb hd rfl hk
  · exact lv_bipush hx hb hd (iI_b h1 h2) hk
  · exact lv_sipush hx hb hd (iI_s h1 h2) hk
  · exact lv_ldc hx hb hown (hts _ (gTB_in (by have := gKC_ok q hq; rw [hq1, hq2] at this; exact this) rfl)) hd hk
  · exact lv_ldcw hx hb hown (hts _ (gTB_in (by have := gKC_ok q hq; rw [hq1, hq2] at this; exact this) rfl)) hd hk
theorem Go.lconst (hi : gat mt pc = some (1, z, x, y, nx)) (k : Go G mt n mc ms nx lv (gl (Int64.ofInt z) :: st) M P) : Go G mt n mc ms pc lv st M P := by
  intro p l e R s m args below meth c H locs cells slots ls cx hS hW hL hc hs
  have hk := k p l e R s m args below meth c H locs cells slots ls cx hS hW hL hc hs
  obtain ⟨hx, hb, -, -, hown, hts, -, -, -, -, -, -, hok⟩ := cx
  have ho := gat_ok hok hi
  simp only [gok, Bool.or_eq_true, Bool.and_eq_true, decide_eq_true_eq, List.any_eq_true] at ho
  rcases ho with (⟨⟨hd, rfl⟩, rfl⟩ | ⟨⟨hd, rfl⟩, rfl⟩) | ⟨q, hq, ⟨⟨hq1, hq2⟩, hd⟩, rfl⟩
  · exact lv_lconst hx hb hd (by decide) hk
  · exact lv_lconst hx hb hd (by decide) hk
  · exact lv_ldc2 hx hb hown (hts _ (gTB_in (by have := gKL_ok q hq; rw [hq1, hq2] at this; exact this) rfl)) hd hk
theorem fin4 {x : Nat} (h : x < 4) : ((Fin.ofNat 4 x : Fin 4) : Nat) = x := Nat.mod_eq_of_lt h
theorem Go.load (hi : gat mt pc = some (2, z, x, y, nx)) {v : gV} (hv : lv[x]? = some (some v)) (hkd : gkd v = some y) (k : Go G mt n mc ms nx lv (v :: st) M P) : Go G mt n mc ms pc lv st M P := by
  intro p l e R s m args below meth c H locs cells slots ls cx hS hW hL hc hs
  have hk := k p l e R s m args below meth c H locs cells slots ls cx hS hW hL hc hs
  obtain ⟨hx, hb, -, -, hown, hts, -, -, -, -, -, -, hok⟩ := cx
  have ho := gat_ok hok hi
  have hl := hL.2.2 _ _ hv
  simp only [gok, Bool.or_eq_true, Bool.and_eq_true, decide_eq_true_eq] at ho
  rcases v with w | w | (_ | w) | w
  all_goals (cases hkd)
  · simp at ho
    rcases ho with ⟨⟨h4, rfl⟩, hd⟩ | ⟨rfl, hd⟩
    · exact lv_iload_n hx hb hd (fin4 h4) hl hk
    · exact lv_iload hx hb hd hl hk
  · simp at ho
    rcases ho with ⟨⟨h4, rfl⟩, hd⟩ | ⟨rfl, hd⟩
    · exact lv_lload_n hx hb hd (fin4 h4) hl hk
    · exact lv_lload hx hb hd hl hk
  · simp at ho
    rcases ho with ⟨⟨h4, rfl⟩, hd⟩ | ⟨rfl, hd⟩
    · exact lv_aload_n hx hb hd (fin4 h4) hl hk
    · exact lv_aload hx hb hd hl hk
  · simp at ho
    rcases ho with ⟨⟨h4, rfl⟩, hd⟩ | ⟨rfl, hd⟩
    · exact lv_aload_n hx hb hd (fin4 h4) hl hk
    · exact lv_aload hx hb hd hl hk
theorem Go.store (hi : gat mt pc = some (3, z, x, y, nx)) {v : gV} (hkd : gkd v = some y) (hxl : x < (gH mt.1).2.2.1) (k : Go G mt n mc ms nx (gset lv x v) st M P) : Go G mt n mc ms pc lv (v :: st) M P := by
  intro p l e R s m args below meth c H locs cells slots ls cx hS hW hL hc hs
  have hk := fun ls' (hL' : gLs G ls' (gH mt.1).2.2.1 (gset lv x v)) => k p l e R s m args below meth c H locs cells slots ls' cx hS hW hL' hc hs
  obtain ⟨hx, hb, -, -, hown, hts, -, -, -, -, -, -, hok⟩ := cx
  have ho := gat_ok hok hi
  have hh := gLs_has hL
  simp only [gok, Bool.or_eq_true, Bool.and_eq_true, decide_eq_true_eq] at ho
  rcases v with w | w | (_ | w) | w
  all_goals (cases hkd)
  · simp at ho
    rcases ho with ⟨⟨h4, rfl⟩, hd⟩ | ⟨rfl, hd⟩
    · exact lv_istore_n hx hb hd (fin4 h4) hh hxl rfl (fun ls' h' => hk ls' (gLs_set h'))
    · exact lv_istore hx hb hd hh hxl rfl (fun ls' h' => hk ls' (gLs_set h'))
  · simp at ho
  · simp at ho
    rcases ho with ⟨⟨h4, rfl⟩, hd⟩ | ⟨rfl, hd⟩
    · exact lv_astore_n hx hb hd (fin4 h4) hh hxl rfl (fun ls' h' => hk ls' (gLs_set h'))
    · exact lv_astore hx hb hd hh hxl rfl (fun ls' h' => hk ls' (gLs_set h'))
  · simp at ho
    rcases ho with ⟨⟨h4, rfl⟩, hd⟩ | ⟨rfl, hd⟩
    · exact lv_astore_n hx hb hd (fin4 h4) hh hxl rfl (fun ls' h' => hk ls' (gLs_set (v := gs w) h'))
    · exact lv_astore hx hb hd hh hxl rfl (fun ls' h' => hk ls' (gLs_set (v := gs w) h'))
theorem Go.lstore (hi : gat mt pc = some (4, z, x, y, nx)) {w : Int64} (hxl : x + 1 < (gH mt.1).2.2.1) (k : Go G mt n mc ms nx (gclr (gset lv x (gl w)) (x + 1)) st M P) : Go G mt n mc ms pc lv (gl w :: st) M P := by
  intro p l e R s m args below meth c H locs cells slots ls cx hS hW hL hc hs
  have hk := fun ls' (hL' : gLs G ls' (gH mt.1).2.2.1 (gclr (gset lv x (gl w)) (x + 1))) => k p l e R s m args below meth c H locs cells slots ls' cx hS hW hL' hc hs
  obtain ⟨hx, hb, -, -, hown, hts, -, -, -, -, -, -, hok⟩ := cx
  have ho := gat_ok hok hi
  have hh := gLs_has hL
  simp only [gok, Bool.or_eq_true, Bool.and_eq_true, decide_eq_true_eq] at ho
  rcases ho with ⟨⟨h4, rfl⟩, hd⟩ | ⟨rfl, hd⟩
  · exact lv_lstore_n hx hb hd (fin4 h4) hh hxl rfl (fun ls' h' => hk ls' (gLs_set2 h'))
  · exact lv_lstore hx hb hd hh hxl rfl (fun ls' h' => hk ls' (gLs_set2 h'))
theorem Go.iinc (hi : gat mt pc = some (5, z, x, y, nx)) {w : Int} (hv : lv[x]? = some (some (gi w))) (hxl : x < (gH mt.1).2.2.1) (k : Go G mt n mc ms nx (gset lv x (gi (w + z))) st M P) : Go G mt n mc ms pc lv st M P := by
  intro p l e R s m args below meth c H locs cells slots ls cx hS hW hL hc hs
  have hk := fun ls' (hL' : gLs G ls' (gH mt.1).2.2.1 (gset lv x (gi (w + z)))) => k p l e R s m args below meth c H locs cells slots ls' cx hS hW hL' hc hs
  obtain ⟨hx, hb, -, -, hown, hts, -, -, -, -, -, -, hok⟩ := cx
  have ho := gat_ok hok hi
  have hh := gLs_has hL
  simp only [gok, Bool.and_eq_true, decide_eq_true_eq] at ho
  obtain ⟨hd, rfl⟩ := ho
  obtain ⟨i, hi'⟩ := List.getElem?_of_mem (glist_mem (G := G) hv)
  exact lv_iinc hx hb hd hh hi' (show iI w + Int32.ofInt z = iI (w + z) from iI_add w z) hxl rfl (fun ls' h' => hk ls' (gLs_set (v := gi (w + z)) h'))
theorem Go.dup (hi : gat mt pc = some (6, z, x, y, nx)) {v : gV} (hv : ∀ q, v ≠ .inr (.inl q)) (k : Go G mt n mc ms nx lv (v :: v :: st) M P) : Go G mt n mc ms pc lv (v :: st) M P := by
  intro p l e R s m args below meth c H locs cells slots ls cx hS hW hL hc hs
  have hk := k p l e R s m args below meth c H locs cells slots ls cx hS hW hL hc hs
  obtain ⟨hx, hb, -, -, hown, hts, -, -, -, -, -, -, hok⟩ := cx
  have ho := gat_ok hok hi
  simp only [gok, Bool.and_eq_true, decide_eq_true_eq] at ho
  obtain ⟨hd, rfl⟩ := ho
  exact lv_dup hx hb hd (gcat1 hv) hk
theorem Go.dup2 (hi : gat mt pc = some (7, z, x, y, nx)) {v w : gV} (hv : ∀ q, v ≠ .inr (.inl q)) (hw : ∀ q, w ≠ .inr (.inl q)) (k : Go G mt n mc ms nx lv (v :: w :: v :: w :: st) M P) : Go G mt n mc ms pc lv (v :: w :: st) M P := by
  intro p l e R s m args below meth c H locs cells slots ls cx hS hW hL hc hs
  have hk := k p l e R s m args below meth c H locs cells slots ls cx hS hW hL hc hs
  obtain ⟨hx, hb, -, -, hown, hts, -, -, -, -, -, -, hok⟩ := cx
  have ho := gat_ok hok hi
  simp only [gok, Bool.and_eq_true, decide_eq_true_eq] at ho
  obtain ⟨hd, rfl⟩ := ho
  exact lv_dup2_11 hx hb hd (gcat1 hv) (gcat1 hw) hk
theorem Go.pop (hi : gat mt pc = some (8, z, x, y, nx)) {v : gV} (hv : ∀ q, v ≠ .inr (.inl q)) (k : Go G mt n mc ms nx lv st M P) : Go G mt n mc ms pc lv (v :: st) M P := by
  intro p l e R s m args below meth c H locs cells slots ls cx hS hW hL hc hs
  have hk := k p l e R s m args below meth c H locs cells slots ls cx hS hW hL hc hs
  obtain ⟨hx, hb, -, -, hown, hts, -, -, -, -, -, -, hok⟩ := cx
  have ho := gat_ok hok hi
  simp only [gok, Bool.and_eq_true, decide_eq_true_eq] at ho
  obtain ⟨hd, rfl⟩ := ho
  exact lv_pop hx hb hd (gcat1 hv) hk
theorem Go.iadd (hi : gat mt pc = some (10, z, x, y, nx)) {a b : Int} (k : Go G mt n mc ms nx lv (gi (a + b) :: st) M P) : Go G mt n mc ms pc lv (gi b :: gi a :: st) M P := by
  intro p l e R s m args below meth c H locs cells slots ls cx hS hW hL hc hs
  have hk := k p l e R s m args below meth c H locs cells slots ls cx hS hW hL hc hs
  obtain ⟨hx, hb, -, -, hown, hts, -, -, -, -, -, -, hok⟩ := cx
  have ho := gat_ok hok hi
  simp only [gok, Bool.and_eq_true, decide_eq_true_eq] at ho
  obtain ⟨hd, rfl⟩ := ho
  exact lv_iadd hx hb hd (by rw [iI_add]; exact hk)
theorem Go.isub (hi : gat mt pc = some (11, z, x, y, nx)) {a b : Int} (k : Go G mt n mc ms nx lv (gi (a - b) :: st) M P) : Go G mt n mc ms pc lv (gi b :: gi a :: st) M P := by
  intro p l e R s m args below meth c H locs cells slots ls cx hS hW hL hc hs
  have hk := k p l e R s m args below meth c H locs cells slots ls cx hS hW hL hc hs
  obtain ⟨hx, hb, -, -, hown, hts, -, -, -, -, -, -, hok⟩ := cx
  have ho := gat_ok hok hi
  simp only [gok, Bool.and_eq_true, decide_eq_true_eq] at ho
  obtain ⟨hd, rfl⟩ := ho
  exact lv_isub hx hb hd (by rw [iI_sub]; exact hk)
theorem Go.imul (hi : gat mt pc = some (12, z, x, y, nx)) {a b : Int} (k : Go G mt n mc ms nx lv (gi (a * b) :: st) M P) : Go G mt n mc ms pc lv (gi b :: gi a :: st) M P := by
  intro p l e R s m args below meth c H locs cells slots ls cx hS hW hL hc hs
  have hk := k p l e R s m args below meth c H locs cells slots ls cx hS hW hL hc hs
  obtain ⟨hx, hb, -, -, hown, hts, -, -, -, -, -, -, hok⟩ := cx
  have ho := gat_ok hok hi
  simp only [gok, Bool.and_eq_true, decide_eq_true_eq] at ho
  obtain ⟨hd, rfl⟩ := ho
  exact lv_imul hx hb hd (by rw [iI_mul]; exact hk)
theorem Go.ineg (hi : gat mt pc = some (13, z, x, y, nx)) {a : Int} (k : Go G mt n mc ms nx lv (gi (-a) :: st) M P) : Go G mt n mc ms pc lv (gi a :: st) M P := by
  intro p l e R s m args below meth c H locs cells slots ls cx hS hW hL hc hs
  have hk := k p l e R s m args below meth c H locs cells slots ls cx hS hW hL hc hs
  obtain ⟨hx, hb, -, -, hown, hts, -, -, -, -, -, -, hok⟩ := cx
  have ho := gat_ok hok hi
  simp only [gok, Bool.and_eq_true, decide_eq_true_eq] at ho
  obtain ⟨hd, rfl⟩ := ho
  exact lv_ineg hx hb hd (by rw [iI_neg]; exact hk)
theorem Go.idiv (hi : gat mt pc = some (14, z, x, y, nx)) {a b : Int} (ha : rng a) (hbr : rng b) (hnz : b ≠ 0) (hr : rng (a.tdiv b)) (k : Go G mt n mc ms nx lv (gi (a.tdiv b) :: st) M P) : Go G mt n mc ms pc lv (gi b :: gi a :: st) M P := by
  intro p l e R s m args below meth c H locs cells slots ls cx hS hW hL hc hs
  have hk := k p l e R s m args below meth c H locs cells slots ls cx hS hW hL hc hs
  obtain ⟨hx, hb, -, -, hown, hts, -, -, -, -, -, -, hok⟩ := cx
  have ho := gat_ok hok hi
  simp only [gok, Bool.and_eq_true, decide_eq_true_eq] at ho
  obtain ⟨hd, rfl⟩ := ho
  exact lv_idiv hx hb hd (fun q => hnz ((iI_inj hbr ⟨by omega, by omega⟩).mp (q.trans (show (0 : Int32) = iI 0 from rfl)))) (by rw [iI_div ha hbr hr]; exact hk)
theorem Go.irem (hi : gat mt pc = some (15, z, x, y, nx)) {a b : Int} (ha : rng a) (hbr : rng b) (hnz : b ≠ 0) (hr : rng (a.tdiv b)) (k : Go G mt n mc ms nx lv (gi (a.tmod b) :: st) M P) : Go G mt n mc ms pc lv (gi b :: gi a :: st) M P := by
  intro p l e R s m args below meth c H locs cells slots ls cx hS hW hL hc hs
  have hk := k p l e R s m args below meth c H locs cells slots ls cx hS hW hL hc hs
  obtain ⟨hx, hb, -, -, hown, hts, -, -, -, -, -, -, hok⟩ := cx
  have ho := gat_ok hok hi
  simp only [gok, Bool.and_eq_true, decide_eq_true_eq] at ho
  obtain ⟨hd, rfl⟩ := ho
  exact lv_irem hx hb hd (fun q => hnz ((iI_inj hbr ⟨by omega, by omega⟩).mp (q.trans (show (0 : Int32) = iI 0 from rfl)))) (by rw [iI_div ha hbr hr, iI_mul, iI_sub, show a - a.tdiv b * b = a.tmod b by rw [Int.tmod_def, Int.mul_comm]]; exact hk)
theorem Go.iand (hi : gat mt pc = some (16, z, x, y, nx)) {a b : Int} (k : Go G mt n mc ms nx lv (gi (iI a &&& iI b).toInt :: st) M P) : Go G mt n mc ms pc lv (gi b :: gi a :: st) M P := by
  intro p l e R s m args below meth c H locs cells slots ls cx hS hW hL hc hs
  have hk := k p l e R s m args below meth c H locs cells slots ls cx hS hW hL hc hs
  obtain ⟨hx, hb, -, -, hown, hts, -, -, -, -, -, -, hok⟩ := cx
  have ho := gat_ok hok hi
  simp only [gok, Bool.and_eq_true, decide_eq_true_eq] at ho
  obtain ⟨hd, rfl⟩ := ho
  exact lv_iand hx hb hd (by have h := hk; unfold gup at h; simp only [List.map_cons, iI_of] at h; exact h)
theorem Go.ior (hi : gat mt pc = some (17, z, x, y, nx)) {a b : Int} (k : Go G mt n mc ms nx lv (gi (iI a ||| iI b).toInt :: st) M P) : Go G mt n mc ms pc lv (gi b :: gi a :: st) M P := by
  intro p l e R s m args below meth c H locs cells slots ls cx hS hW hL hc hs
  have hk := k p l e R s m args below meth c H locs cells slots ls cx hS hW hL hc hs
  obtain ⟨hx, hb, -, -, hown, hts, -, -, -, -, -, -, hok⟩ := cx
  have ho := gat_ok hok hi
  simp only [gok, Bool.and_eq_true, decide_eq_true_eq] at ho
  obtain ⟨hd, rfl⟩ := ho
  exact lv_ior hx hb hd (by have h := hk; unfold gup at h; simp only [List.map_cons, iI_of] at h; exact h)
theorem Go.ixor (hi : gat mt pc = some (18, z, x, y, nx)) {a b : Int} (k : Go G mt n mc ms nx lv (gi (iI a ^^^ iI b).toInt :: st) M P) : Go G mt n mc ms pc lv (gi b :: gi a :: st) M P := by
  intro p l e R s m args below meth c H locs cells slots ls cx hS hW hL hc hs
  have hk := k p l e R s m args below meth c H locs cells slots ls cx hS hW hL hc hs
  obtain ⟨hx, hb, -, -, hown, hts, -, -, -, -, -, -, hok⟩ := cx
  have ho := gat_ok hok hi
  simp only [gok, Bool.and_eq_true, decide_eq_true_eq] at ho
  obtain ⟨hd, rfl⟩ := ho
  exact lv_ixor hx hb hd (by have h := hk; unfold gup at h; simp only [List.map_cons, iI_of] at h; exact h)
theorem Go.ishl (hi : gat mt pc = some (19, z, x, y, nx)) {a b : Int} (k : Go G mt n mc ms nx lv (gi (iI a <<< (iI b &&& 31)).toInt :: st) M P) : Go G mt n mc ms pc lv (gi b :: gi a :: st) M P := by
  intro p l e R s m args below meth c H locs cells slots ls cx hS hW hL hc hs
  have hk := k p l e R s m args below meth c H locs cells slots ls cx hS hW hL hc hs
  obtain ⟨hx, hb, -, -, hown, hts, -, -, -, -, -, -, hok⟩ := cx
  have ho := gat_ok hok hi
  simp only [gok, Bool.and_eq_true, decide_eq_true_eq] at ho
  obtain ⟨hd, rfl⟩ := ho
  exact lv_ishl hx hb hd (by have h := hk; unfold gup at h; simp only [List.map_cons, iI_of] at h; exact h)
theorem Go.ishr (hi : gat mt pc = some (20, z, x, y, nx)) {a b : Int} (k : Go G mt n mc ms nx lv (gi (iI a >>> (iI b &&& 31)).toInt :: st) M P) : Go G mt n mc ms pc lv (gi b :: gi a :: st) M P := by
  intro p l e R s m args below meth c H locs cells slots ls cx hS hW hL hc hs
  have hk := k p l e R s m args below meth c H locs cells slots ls cx hS hW hL hc hs
  obtain ⟨hx, hb, -, -, hown, hts, -, -, -, -, -, -, hok⟩ := cx
  have ho := gat_ok hok hi
  simp only [gok, Bool.and_eq_true, decide_eq_true_eq] at ho
  obtain ⟨hd, rfl⟩ := ho
  exact lv_ishr hx hb hd (by have h := hk; unfold gup at h; simp only [List.map_cons, iI_of] at h; exact h)
theorem Go.iushr (hi : gat mt pc = some (21, z, x, y, nx)) {a b : Int} (k : Go G mt n mc ms nx lv (gi ((iI a).toUInt32 >>> ((iI b).toUInt32 &&& Int32.toUInt32 31)).toInt32.toInt :: st) M P) : Go G mt n mc ms pc lv (gi b :: gi a :: st) M P := by
  intro p l e R s m args below meth c H locs cells slots ls cx hS hW hL hc hs
  have hk := k p l e R s m args below meth c H locs cells slots ls cx hS hW hL hc hs
  obtain ⟨hx, hb, -, -, hown, hts, -, -, -, -, -, -, hok⟩ := cx
  have ho := gat_ok hok hi
  simp only [gok, Bool.and_eq_true, decide_eq_true_eq] at ho
  obtain ⟨hd, rfl⟩ := ho
  exact lv_iushr hx hb hd rfl (by have h := hk; unfold gup at h; simp only [List.map_cons, iI_of] at h; exact h)
theorem Go.i2l (hi : gat mt pc = some (22, z, x, y, nx)) {a : Int} (k : Go G mt n mc ms nx lv (gl (iI a).toInt64 :: st) M P) : Go G mt n mc ms pc lv (gi a :: st) M P := by
  intro p l e R s m args below meth c H locs cells slots ls cx hS hW hL hc hs
  have hk := k p l e R s m args below meth c H locs cells slots ls cx hS hW hL hc hs
  obtain ⟨hx, hb, -, -, hown, hts, -, -, -, -, -, -, hok⟩ := cx
  have ho := gat_ok hok hi
  simp only [gok, Bool.and_eq_true, decide_eq_true_eq] at ho
  obtain ⟨hd, rfl⟩ := ho
  exact lv_i2l hx hb hd rfl hk
theorem Go.i2b (hi : gat mt pc = some (23, z, x, y, nx)) {a : Int} (k : Go G mt n mc ms nx lv (gi (iI a).toInt8.toInt32.toInt :: st) M P) : Go G mt n mc ms pc lv (gi a :: st) M P := by
  intro p l e R s m args below meth c H locs cells slots ls cx hS hW hL hc hs
  have hk := k p l e R s m args below meth c H locs cells slots ls cx hS hW hL hc hs
  obtain ⟨hx, hb, -, -, hown, hts, -, -, -, -, -, -, hok⟩ := cx
  have ho := gat_ok hok hi
  simp only [gok, Bool.and_eq_true, decide_eq_true_eq] at ho
  obtain ⟨hd, rfl⟩ := ho
  exact lv_i2b hx hb hd rfl (by have h := hk; unfold gup at h; simp only [List.map_cons, iI_of] at h; exact h)
theorem Go.i2s (hi : gat mt pc = some (24, z, x, y, nx)) {a : Int} (k : Go G mt n mc ms nx lv (gi (iI a).toInt16.toInt32.toInt :: st) M P) : Go G mt n mc ms pc lv (gi a :: st) M P := by
  intro p l e R s m args below meth c H locs cells slots ls cx hS hW hL hc hs
  have hk := k p l e R s m args below meth c H locs cells slots ls cx hS hW hL hc hs
  obtain ⟨hx, hb, -, -, hown, hts, -, -, -, -, -, -, hok⟩ := cx
  have ho := gat_ok hok hi
  simp only [gok, Bool.and_eq_true, decide_eq_true_eq] at ho
  obtain ⟨hd, rfl⟩ := ho
  exact lv_i2s hx hb hd rfl (by have h := hk; unfold gup at h; simp only [List.map_cons, iI_of] at h; exact h)
theorem Go.ladd (hi : gat mt pc = some (30, z, x, y, nx)) {a b : Int64} (k : Go G mt n mc ms nx lv (gl (a + b) :: st) M P) : Go G mt n mc ms pc lv (gl b :: gl a :: st) M P := by
  intro p l e R s m args below meth c H locs cells slots ls cx hS hW hL hc hs
  have hk := k p l e R s m args below meth c H locs cells slots ls cx hS hW hL hc hs
  obtain ⟨hx, hb, -, -, hown, hts, -, -, -, -, -, -, hok⟩ := cx
  have ho := gat_ok hok hi
  simp only [gok, Bool.and_eq_true, decide_eq_true_eq] at ho
  obtain ⟨hd, rfl⟩ := ho
  exact lv_ladd hx hb hd hk
theorem Go.lsub (hi : gat mt pc = some (31, z, x, y, nx)) {a b : Int64} (k : Go G mt n mc ms nx lv (gl (a - b) :: st) M P) : Go G mt n mc ms pc lv (gl b :: gl a :: st) M P := by
  intro p l e R s m args below meth c H locs cells slots ls cx hS hW hL hc hs
  have hk := k p l e R s m args below meth c H locs cells slots ls cx hS hW hL hc hs
  obtain ⟨hx, hb, -, -, hown, hts, -, -, -, -, -, -, hok⟩ := cx
  have ho := gat_ok hok hi
  simp only [gok, Bool.and_eq_true, decide_eq_true_eq] at ho
  obtain ⟨hd, rfl⟩ := ho
  exact lv_lsub hx hb hd hk
theorem Go.land (hi : gat mt pc = some (32, z, x, y, nx)) {a b : Int64} (k : Go G mt n mc ms nx lv (gl (a &&& b) :: st) M P) : Go G mt n mc ms pc lv (gl b :: gl a :: st) M P := by
  intro p l e R s m args below meth c H locs cells slots ls cx hS hW hL hc hs
  have hk := k p l e R s m args below meth c H locs cells slots ls cx hS hW hL hc hs
  obtain ⟨hx, hb, -, -, hown, hts, -, -, -, -, -, -, hok⟩ := cx
  have ho := gat_ok hok hi
  simp only [gok, Bool.and_eq_true, decide_eq_true_eq] at ho
  obtain ⟨hd, rfl⟩ := ho
  exact lv_land hx hb hd hk
theorem Go.lor (hi : gat mt pc = some (33, z, x, y, nx)) {a b : Int64} (k : Go G mt n mc ms nx lv (gl (a ||| b) :: st) M P) : Go G mt n mc ms pc lv (gl b :: gl a :: st) M P := by
  intro p l e R s m args below meth c H locs cells slots ls cx hS hW hL hc hs
  have hk := k p l e R s m args below meth c H locs cells slots ls cx hS hW hL hc hs
  obtain ⟨hx, hb, -, -, hown, hts, -, -, -, -, -, -, hok⟩ := cx
  have ho := gat_ok hok hi
  simp only [gok, Bool.and_eq_true, decide_eq_true_eq] at ho
  obtain ⟨hd, rfl⟩ := ho
  exact lv_lor hx hb hd hk
theorem Go.lxor (hi : gat mt pc = some (34, z, x, y, nx)) {a b : Int64} (k : Go G mt n mc ms nx lv (gl (a ^^^ b) :: st) M P) : Go G mt n mc ms pc lv (gl b :: gl a :: st) M P := by
  intro p l e R s m args below meth c H locs cells slots ls cx hS hW hL hc hs
  have hk := k p l e R s m args below meth c H locs cells slots ls cx hS hW hL hc hs
  obtain ⟨hx, hb, -, -, hown, hts, -, -, -, -, -, -, hok⟩ := cx
  have ho := gat_ok hok hi
  simp only [gok, Bool.and_eq_true, decide_eq_true_eq] at ho
  obtain ⟨hd, rfl⟩ := ho
  exact lv_lxor hx hb hd hk
theorem Go.lshl (hi : gat mt pc = some (35, z, x, y, nx)) {a : Int64} {b : Int} (k : Go G mt n mc ms nx lv (gl (a <<< ((iI b).toInt64 &&& 63)) :: st) M P) : Go G mt n mc ms pc lv (gi b :: gl a :: st) M P := by
  intro p l e R s m args below meth c H locs cells slots ls cx hS hW hL hc hs
  have hk := k p l e R s m args below meth c H locs cells slots ls cx hS hW hL hc hs
  obtain ⟨hx, hb, -, -, hown, hts, -, -, -, -, -, -, hok⟩ := cx
  have ho := gat_ok hok hi
  simp only [gok, Bool.and_eq_true, decide_eq_true_eq] at ho
  obtain ⟨hd, rfl⟩ := ho
  exact lv_lshl hx hb hd rfl hk
theorem Go.lushr (hi : gat mt pc = some (36, z, x, y, nx)) {a : Int64} {b : Int} (k : Go G mt n mc ms nx lv (gl (a.toUInt64 >>> ((iI b).toInt64.toUInt64 &&& Int64.toUInt64 63)).toInt64 :: st) M P) : Go G mt n mc ms pc lv (gi b :: gl a :: st) M P := by
  intro p l e R s m args below meth c H locs cells slots ls cx hS hW hL hc hs
  have hk := k p l e R s m args below meth c H locs cells slots ls cx hS hW hL hc hs
  obtain ⟨hx, hb, -, -, hown, hts, -, -, -, -, -, -, hok⟩ := cx
  have ho := gat_ok hok hi
  simp only [gok, Bool.and_eq_true, decide_eq_true_eq] at ho
  obtain ⟨hd, rfl⟩ := ho
  exact lv_lushr hx hb hd rfl hk
theorem Go.l2i (hi : gat mt pc = some (38, z, x, y, nx)) {a : Int64} (k : Go G mt n mc ms nx lv (gi a.toInt32.toInt :: st) M P) : Go G mt n mc ms pc lv (gl a :: st) M P := by
  intro p l e R s m args below meth c H locs cells slots ls cx hS hW hL hc hs
  have hk := k p l e R s m args below meth c H locs cells slots ls cx hS hW hL hc hs
  obtain ⟨hx, hb, -, -, hown, hts, -, -, -, -, -, -, hok⟩ := cx
  have ho := gat_ok hok hi
  simp only [gok, Bool.and_eq_true, decide_eq_true_eq] at ho
  obtain ⟨hd, rfl⟩ := ho
  exact lv_l2i hx hb hd rfl (by have h := hk; unfold gup at h; simp only [List.map_cons, iI_of] at h; exact h)
end GO
end
section
/-! ===== the world's cells: reading and writing ===== -/
theorem gcl {c : Nat} (h : c < 12) : vwCl[c]? = some (gR c, gT c, gN c) := by
  rcases (show c = 0 ∨ c = 1 ∨ c = 2 ∨ c = 3 ∨ c = 4 ∨ c = 5 ∨ c = 6 ∨ c = 7 ∨ c = 8 ∨ c = 9 ∨ c = 10 ∨ c = 11 by omega) with rfl | rfl | rfl | rfl | rfl | rfl | rfl | rfl | rfl | rfl | rfl | rfl <;> rfl
theorem ginA {c : Nat} (h : c < 12) : ∀ w ∈ u_ws (gR c) (gT c) (gN c), w ∈ gTB := by
  have h1 : ∀ w ∈ u_ws (gR c) (gT c) (gN c), w ∈ lw_tbl := by
    rcases (show c = 0 ∨ c = 1 ∨ c = 2 ∨ c = 3 ∨ c = 4 ∨ c = 5 ∨ c = 6 ∨ c = 7 ∨ c = 8 ∨ c = 9 ∨ c = 10 ∨ c = 11 by omega) with rfl | rfl | rfl | rfl | rfl | rfl | rfl | rfl | rfl | rfl | rfl | rfl
    · exact gin0
    · exact gin1
    · exact gin2
    · exact gin3
    · exact gin4
    · exact gin5
    · exact gin6
    · exact gin7
    · exact gin8
    · exact gin9
    · exact gin10
    · exact gin11
  intro w hw
  refine gTB_in (h1 w hw) ?_
  obtain ⟨k, -, rfl⟩ := List.mem_map.mp hw
  unfold u_lay
  split <;> rfl
theorem gnm {c : Nat} (h : c < 12) : ∀ a, a < gN c → ∀ b, b < gN c → a ≠ b → (gT c a).2.1 ≠ (gT c b).2.1 := by
  rcases (show c = 0 ∨ c = 1 ∨ c = 2 ∨ c = 3 ∨ c = 4 ∨ c = 5 ∨ c = 6 ∨ c = 7 ∨ c = 8 ∨ c = 9 ∨ c = 10 ∨ c = 11 by omega) with rfl | rfl | rfl | rfl | rfl | rfl | rfl | rfl | rfl | rfl | rfl | rfl
  · exact nmX0
  · exact nmX2
  · exact nmX3
  · exact nmX4
  · exact nmX5
  · exact nmX6
  · exact nmX7
  · exact nmX8
  · exact nmX9
  · exact nmX10
  · exact nmX11
  · exact nmX12
theorem gtyok {c : Nat} (h : c < 12) : ∀ k, k < gN c → parseFieldDescriptor (gT c k).2.2.1 = some (gty c k) := by
  rcases (show c = 0 ∨ c = 1 ∨ c = 2 ∨ c = 3 ∨ c = 4 ∨ c = 5 ∨ c = 6 ∨ c = 7 ∨ c = 8 ∨ c = 9 ∨ c = 10 ∨ c = 11 by omega) with rfl | rfl | rfl | rfl | rfl | rfl | rfl | rfl | rfl | rfl | rfl | rfl
  · exact tyX0_ok
  · exact tyX2_ok
  · exact tyX3_ok
  · exact tyX4_ok
  · exact tyX5_ok
  · exact tyX6_ok
  · exact tyX7_ok
  · exact tyX8_ok
  · exact tyX9_ok
  · exact tyX10_ok
  · exact tyX11_ok
  · exact tyX12_ok
theorem gP1 {G : gG} {M : gMe} {H : Heap} {a : Nat} {q : Nat × Nat} (hW : gWd G M H) (hs : M.1[a]? = some q) : va_P G.1 vwCl [(gb G + a, gent G M a q)] H := by
  intro k x hx
  have h0 : k < 1 := (List.getElem?_eq_some_iff.mp hx).1
  rw [show k = 0 by omega] at hx
  cases hx
  exact hW.2.2 a q hs
theorem gent_o {G : gG} {M : gMe} {a c N : Nat} (h : c < 12) : gent G M a (c, N) = .inr (c, (List.range (gN c)).map (gfv G M a c)) := by
  unfold gent
  rw [if_pos (show (c, N).1 < 100 by show c < 100; omega)]
/-- what a field holds -/
def gfld (M : gMe) (a c k : Nat) : gV := match gty c k with
  | .int => gi (M.2.1 a k)
  | .boolean => gi (M.2.1 a k)
  | .long => gl (M.2.2.1 a k)
  | _ => .inr (.inr (.inl (M.2.2.2 a k)))
theorem gfld_up (G : gG) (M : gMe) (a c k : Nat) : gup G (gfld M a c k) = gfv G M a c k := by
  unfold gfld gfv
  cases gty c k <;> rfl
theorem gfs_get {G : gG} {M : gMe} {a c k : Nat} (hk : k < gN c) : ((List.range (gN c)).map (gfv G M a c))[k]? = some (gfv G M a c k) := by
  rw [List.getElem?_map, List.getElem?_range hk]
  rfl
theorem gvpV {G : gG} {M : gMe} {a c j : Nat} (hj : j < gN c) : vp_V ((List.range (gN c)).map (gfv G M a c)) j = gfv G M a c j := by
  unfold vp_V
  rw [List.getD_eq_getElem?_getD, gfs_get hj]
  rfl
section GOM
variable {G : gG} {mt : gMt} {n mc ms pc nx x y a b c k N : Nat} {z : Int} {lv : List (Option gV)} {st : List gV} {M : gMe} {P : Option gV → gMe → Prop}
theorem Go.getf (hi : gat mt pc = some (40, z, c, k, nx)) (hsh : M.1[a]? = some (c, N)) (kk : Go G mt n mc ms nx lv (gfld M a c k :: st) M P) : Go G mt n mc ms pc lv (gr a :: st) M P := by
  intro p l e R s m args below meth cd H locs cells slots ls cx hS hW hL hc hs
  have hk := kk p l e R s m args below meth cd H locs cells slots ls cx hS hW hL hc hs
  obtain ⟨hx, hb, -, -, hown, hts, -, -, hK, -, -, -, hok⟩ := cx
  have ho := gat_ok hok hi
  simp only [gok, Bool.and_eq_true, decide_eq_true_eq, List.any_eq_true] at ho
  obtain ⟨rfl, q, hq, ⟨⟨⟨h1, h2⟩, h3⟩, h4⟩, hd⟩ := ho
  have hw := gFL_ok q hq
  rw [h1, h2] at hw
  refine va_get (ci := c) hx hb hts (ginA h4) hown hK (gP1 hW hsh) 0 (by rw [gent_o h4]; rfl) (gcl h4) k h3 (hts _ (gTB_in hw rfl)) (fun _ h => h) (v := gfv G M a c k) (gfs_get h3) hd ?_
  rw [← gfld_up]
  exact hk
/-- what stays of a world when one cell is written anew -/
theorem gWd_put {G : gG} {M M' : gMe} {H H1 : Heap} {a : Nat} (hW : gWd G M H) (h1 : M'.1 = M.1) (hz : H1.size = H.size) (oq : ∀ q : Nat, q ≠ gb G + a → H1[q]? = H[q]?) (h4 : ∀ (b : Nat) (q : Nat × Nat), M.1[b]? = some q → b ≠ a → gent G M' b q = gent G M b q) (h5 : ∀ q, M.1[a]? = some q → va_at G.1 vwCl (gb G + a, gent G M' a q) H1) : gWd G M' H1 := by
  refine ⟨by rw [h1, hz]; exact hW.1, by rw [h1, hz]; exact hW.2.1, fun b q hb => ?_⟩
  rw [h1] at hb
  by_cases e : b = a
  · subst e
    exact h5 q hb
  · rw [h4 b q hb e]
    exact (hW.2.2 b q hb).kept (oq _ (by show gb G + b ≠ gb G + a; omega))
theorem gS_put {G : gG} {s : State} {H H1 : Heap} {locs : List Loc} {a j : Nat} (hS : va_S (gA G) s.heap H locs) (hz : H1.size = H.size) (oq : ∀ q : Nat, q ≠ gb G + a → H1[q]? = H[q]?) : va_S (gA G) s.heap H1 (locs ++ [⟨gb G + a, j⟩]) := hS.put hz oq (show gb G ≤ gb G + a from Nat.le_add_right _ _)
/-- a field is written: the value's own conditions, and what world it makes -/
theorem Go.put0 {v : gV} {M' : gMe} (hi : gat mt pc = some (41, z, c, k, nx)) (hsh : M.1[a]? = some (c, N)) (hn : ∀ G : gG, narrow (gty c k) (gup G v) = gup G v) (hfit : ∀ G : gG, fits (gty c k) (gup G v) = true) (h1 : M'.1 = M.1) (h2 : gfld M' a c k = v) (h3 : ∀ k', k' ≠ k → gfld M' a c k' = gfld M a c k') (h4 : ∀ (G : gG) (b : Nat) (q : Nat × Nat), b ≠ a → gent G M' b q = gent G M b q) (kk : Go G mt n mc ms nx lv st M' P) : Go G mt n mc ms pc lv (v :: gr a :: st) M P := by
  intro p l e R s m args below meth cd H locs cells slots ls cx hS hW hL hc hs
  have hk := fun H1 locs1 hS1 hW1 => kk p l e R s m args below meth cd H1 locs1 cells slots ls cx hS1 hW1 hL hc hs
  obtain ⟨hx, hb, -, -, hown, hts, -, -, hK, -, -, -, hok⟩ := cx
  have ho := gat_ok hok hi
  simp only [gok, Bool.and_eq_true, decide_eq_true_eq, List.any_eq_true] at ho
  obtain ⟨rfl, q, hq, ⟨⟨⟨⟨e1, e2⟩, e3⟩, e4⟩, e5⟩, hd⟩ := ho
  have hw := gFL_ok q hq
  rw [e1, e2] at hw
  have hap := va_apart (own := gown (gH mt.1).2.2.2.2) hts (ginA e4) (gty c) (gtyok e4) (gnm e4) hK (gcl e4)
  have hat := hW.2.2 a _ hsh
  rw [gent_o e4] at hat
  obtain ⟨r, g1, cell, q1, q2, q3, q4⟩ := hat
  have hr : r = (gR c, gT c, gN c) := Option.some.inj (g1.symm.trans (gcl e4))
  subst hr
  obtain ⟨hSl, hfc, kC, hkC, hkind⟩ := hK.1 c _ (gcl e4)
  obtain ⟨cf, kf, fi, f, hi', hsl⟩ := hSl k e3
  have hlay := hts _ (ginA e4 _ (u_in_lay e3))
  unfold u_lay at hlay
  rw [if_neg (by rw [e5]; decide)] at hlay
  have hst := (u_facts hfc hkC (u_lays hts (ginA e4) e3) hi').1
  have h6 := u_store hfc hkC hkind hlay hi' (gtyok e4 k e3) (hn G) (hfit G)
  refine W.putK hx hb (f := f) ⟨hown, hts _ (gTB_in hw rfl), ⟨_, _, _, hi'⟩, hst⟩ (by rw [q2]; exact h6) q1 q3 (by rw [hsl]; exact k2_hasslot (q4 k e3)) rfl rfl hd fun H' z1 z2 z3 => ?_
  rw [hsl] at z1 ⊢
  refine hk H' _ (gS_put hS z2 z3) (gWd_put hW h1 z2 z3 (fun b q _ hb => h4 G b q hb) (fun q' hq' => ?_))
  rw [hsh] at hq'
  cases hq'
  rw [gent_o e4]
  refine ⟨_, gcl e4, t_OB.to (V := updV (vp_V ((List.range (gN c)).map (gfv G M a c))) k (gup G v)) ⟨_, z1, q2, q3, t_set q4 hap e3 _⟩ (fun j hj => ?_)⟩
  have hj' : j < gN c := hj
  show updV (vp_V ((List.range (gN c)).map (gfv G M a c))) k _ j = vp_V ((List.range (gN c)).map (gfv G M' a c)) j
  rw [gvpV hj']
  unfold updV
  by_cases ej : j = k
  · subst ej
    rw [if_pos rfl, ← h2, gfld_up]
  · rw [if_neg ej, gvpV hj', ← gfld_up, ← gfld_up, h3 j ej]
theorem Go.putF0 {v : gV} {M' : gMe} (hi : gat mt pc = some (42, z, c, k, nx)) (hsh : M.1[a]? = some (c, N)) (hn : ∀ G : gG, narrow (gty c k) (gup G v) = gup G v) (hfit : ∀ G : gG, fits (gty c k) (gup G v) = true) (h1 : M'.1 = M.1) (h2 : gfld M' a c k = v) (h3 : ∀ k', k' ≠ k → gfld M' a c k' = gfld M a c k') (h4 : ∀ (G : gG) (b : Nat) (q : Nat × Nat), b ≠ a → gent G M' b q = gent G M b q) (kk : Go G mt n mc ms nx lv st M' P) : Go G mt n mc ms pc lv (v :: gr a :: st) M P := by
  intro p l e R s m args below meth cd H locs cells slots ls cx hS hW hL hc hs
  have hk := fun H1 locs1 hS1 hW1 => kk p l e R s m args below meth cd H1 locs1 cells slots ls cx hS1 hW1 hL hc hs
  obtain ⟨hx, hb, -, -, hown, hts, -, hname, hK, -, -, -, hok⟩ := cx
  have ho := gat_ok hok hi
  simp only [gok, Bool.and_eq_true, decide_eq_true_eq, List.any_eq_true] at ho
  obtain ⟨rfl, q, hq, ⟨⟨⟨⟨⟨⟨e1, e2⟩, e3⟩, e4⟩, e5⟩, e6⟩, e7⟩, hd⟩ := ho
  have hw := gFL_ok q hq
  rw [e1, e2] at hw
  have hap := va_apart (own := gown (gH mt.1).2.2.2.2) hts (ginA e4) (gty c) (gtyok e4) (gnm e4) hK (gcl e4)
  have hat := hW.2.2 a _ hsh
  rw [gent_o e4] at hat
  obtain ⟨r, g1, cell, q1, q2, q3, q4⟩ := hat
  have hr : r = (gR c, gT c, gN c) := Option.some.inj (g1.symm.trans (gcl e4))
  subst hr
  obtain ⟨hSl, hfc, kC, hkC, hkind⟩ := hK.1 c _ (gcl e4)
  obtain ⟨cf, kf, fi, f, hi', hsl⟩ := hSl k e3
  have hlay := hts _ (ginA e4 _ (u_in_lay e3))
  unfold u_lay at hlay
  rw [if_pos e5] at hlay
  have hst := (u_facts hfc hkC (u_lays hts (ginA e4) e3) hi').1
  have hcf : m.cls = cf := by
    obtain ⟨_, _, c', _, _, _, -, -, hf', -, -, -, hown2, -⟩ := Cond.laysFinal_spec hlay
    have e9 : c' = cf := by have := hi'.symm.trans hf'; simp at this; exact this.1.symm
    rw [e6] at hown2
    rw [← e9]; exact Option.some.inj (hown.symm.trans hown2)
  have h6 := u_fits hfc hkC hkind (Or.inr hlay) hi' (gtyok e4 k e3) (hn G) (hfit G)
  refine W.putFinK hx hb hown (hts _ (gTB_in hw rfl)) hi' hst hcf (hname.trans e7) (by rw [q2]; exact h6) q1 q3 (by rw [hsl]; exact k2_hasslot (q4 k e3)) rfl rfl hd fun H' z1 z2 z3 => ?_
  rw [hsl] at z1 ⊢
  refine hk H' _ (gS_put hS z2 z3) (gWd_put hW h1 z2 z3 (fun b q _ hb => h4 G b q hb) (fun q' hq' => ?_))
  rw [hsh] at hq'
  cases hq'
  rw [gent_o e4]
  refine ⟨_, gcl e4, t_OB.to (V := updV (vp_V ((List.range (gN c)).map (gfv G M a c))) k (gup G v)) ⟨_, z1, q2, q3, t_set q4 hap e3 _⟩ (fun j hj => ?_)⟩
  have hj' : j < gN c := hj
  show updV (vp_V ((List.range (gN c)).map (gfv G M a c))) k _ j = vp_V ((List.range (gN c)).map (gfv G M' a c)) j
  rw [gvpV hj']
  unfold updV
  by_cases ej : j = k
  · subst ej
    rw [if_pos rfl, ← h2, gfld_up]
  · rw [if_neg ej, gvpV hj', ← gfld_up, ← gfld_up, h3 j ej]
end GOM
end
section
/-! ===== writing: what world it makes ===== -/
def gu {α : Type} (f : Nat → Nat → α) (a k : Nat) (v : α) : Nat → Nat → α := fun b j => if b = a then (if j = k then v else f b j) else f b j
theorem gu_self {α : Type} (f : Nat → Nat → α) (a k : Nat) (v : α) : gu f a k v a k = v := by simp [gu]
theorem gu_ne {α : Type} {f : Nat → Nat → α} {a k b j : Nat} {v : α} (h : b ≠ a ∨ j ≠ k) : gu f a k v b j = f b j := by
  unfold gu
  by_cases e : b = a
  · rw [if_pos e]
    rcases h with h | h
    · exact absurd e h
    · rw [if_neg h]
  · rw [if_neg e]
theorem gu_eq {α : Type} (f : Nat → Nat → α) (a k b j : Nat) (v : α) : gu f a k v b j = if b = a ∧ j = k then v else f b j := by
  unfold gu
  by_cases e : b = a <;> by_cases e2 : j = k <;> simp [e, e2]
def mI (M : gMe) (a k : Nat) (v : Int) : gMe := (M.1, gu M.2.1 a k v, M.2.2.1, M.2.2.2)
def mL (M : gMe) (a k : Nat) (v : Int64) : gMe := (M.1, M.2.1, gu M.2.2.1 a k v, M.2.2.2)
def mR (M : gMe) (a k : Nat) (v : Option Nat) : gMe := (M.1, M.2.1, M.2.2.1, gu M.2.2.2 a k v)
theorem gent_cong {G : gG} {M M' : gMe} {b : Nat} {q : Nat × Nat} (h1 : ∀ j, M'.2.1 b j = M.2.1 b j) (h2 : ∀ j, M'.2.2.1 b j = M.2.2.1 b j) (h3 : ∀ j, M'.2.2.2 b j = M.2.2.2 b j) : gent G M' b q = gent G M b q := by
  have e1 : M'.2.1 b = M.2.1 b := funext h1
  have e2 : M'.2.2.1 b = M.2.2.1 b := funext h2
  have e3 : M'.2.2.2 b = M.2.2.2 b := funext h3
  have e4 : gfv G M' b q.1 = gfv G M b q.1 := by
    funext k
    unfold gfv
    rw [e1, e2, e3]
  unfold gent
  rw [e1, e2, e3, e4]
theorem gu_other {α : Type} {f : Nat → Nat → α} {a k b j : Nat} {v : α} (h : b ≠ a) : gu f a k v b j = f b j := gu_ne (Or.inl h)
theorem narrow_i (x : Int32) : narrow .int (.int x) = .int x := rfl
def gisr : FieldType → Bool
  | .object _ => true
  | .array _ => true
  | _ => false
section GOA
variable {G : gG} {mt : gMt} {n mc ms pc nx x y a b c k N : Nat} {z : Int} {lv : List (Option gV)} {st : List gV} {M : gMe} {P : Option gV → gMe → Prop}
theorem Go.putI {w : Int} (hi : gat mt pc = some (41, z, c, k, nx)) (hsh : M.1[a]? = some (c, N)) (hty : gty c k = .int) (kk : Go G mt n mc ms nx lv st (mI M a k w) P) : Go G mt n mc ms pc lv (gi w :: gr a :: st) M P := by
  refine Go.put0 (M' := mI M a k w) hi hsh (fun G => by rw [hty]; rfl) (fun G => by rw [hty]; rfl) rfl ?_ (fun k' hk' => ?_) (fun G b q hb => gent_cong (fun j => gu_other hb) (fun j => rfl) (fun j => rfl)) kk
  · unfold gfld
    rw [hty]
    show gi (gu M.2.1 a k w a k) = gi w
    rw [gu_self]
  · unfold gfld
    show (match gty c k' with | .int => gi (gu M.2.1 a k w a k') | .boolean => gi (gu M.2.1 a k w a k') | .long => gl (M.2.2.1 a k') | _ => .inr (.inr (.inl (M.2.2.2 a k')))) = _
    rw [gu_ne (Or.inr hk')]
    cases gty c k' <;> rfl
theorem Go.putZ {w : Int} (hi : gat mt pc = some (41, z, c, k, nx)) (hsh : M.1[a]? = some (c, N)) (hty : gty c k = .boolean) (hw : w = 0 ∨ w = 1) (kk : Go G mt n mc ms nx lv st (mI M a k w) P) : Go G mt n mc ms pc lv (gi w :: gr a :: st) M P := by
  refine Go.put0 (M' := mI M a k w) hi hsh (fun G => by rw [hty]; rcases hw with rfl | rfl <;> rfl) (fun G => by rw [hty]; rcases hw with rfl | rfl <;> rfl) rfl ?_ (fun k' hk' => ?_) (fun G b q hb => gent_cong (fun j => gu_other hb) (fun j => rfl) (fun j => rfl)) kk
  · unfold gfld
    rw [hty]
    show gi (gu M.2.1 a k w a k) = gi w
    rw [gu_self]
  · unfold gfld
    show (match gty c k' with | .int => gi (gu M.2.1 a k w a k') | .boolean => gi (gu M.2.1 a k w a k') | .long => gl (M.2.2.1 a k') | _ => .inr (.inr (.inl (M.2.2.2 a k')))) = _
    rw [gu_ne (Or.inr hk')]
    cases gty c k' <;> rfl
theorem Go.putL {w : Int64} (hi : gat mt pc = some (41, z, c, k, nx)) (hsh : M.1[a]? = some (c, N)) (hty : gty c k = .long) (kk : Go G mt n mc ms nx lv st (mL M a k w) P) : Go G mt n mc ms pc lv (gl w :: gr a :: st) M P := by
  refine Go.put0 (M' := mL M a k w) hi hsh (fun G => by rw [hty]; rfl) (fun G => by rw [hty]; rfl) rfl ?_ (fun k' hk' => ?_) (fun G b q hb => gent_cong (fun j => rfl) (fun j => gu_other hb) (fun j => rfl)) kk
  · unfold gfld
    rw [hty]
    show gl (gu M.2.2.1 a k w a k) = gl w
    rw [gu_self]
  · unfold gfld
    show (match gty c k' with | .int => gi (M.2.1 a k') | .boolean => gi (M.2.1 a k') | .long => gl (gu M.2.2.1 a k w a k') | _ => .inr (.inr (.inl (M.2.2.2 a k')))) = _
    rw [gu_ne (Or.inr hk')]
    cases gty c k' <;> rfl
/-- a final field of references, in a constructor -/
theorem Go.putR {w : Nat} (hi : gat mt pc = some (42, z, c, k, nx)) (hsh : M.1[a]? = some (c, N)) (hty : gisr (gty c k) = true) (kk : Go G mt n mc ms nx lv st (mR M a k (some w)) P) : Go G mt n mc ms pc lv (gr w :: gr a :: st) M P := by
  refine Go.putF0 (M' := mR M a k (some w)) hi hsh (fun G => ?_) (fun G => ?_) rfl ?_ (fun k' hk' => ?_) (fun G b q hb => gent_cong (fun j => rfl) (fun j => rfl) (fun j => gu_other hb)) kk
  · cases h : gty c k <;> rw [h] at hty <;> first | rfl | (cases hty)
  · cases h : gty c k <;> rw [h] at hty <;> first | rfl | (cases hty)
  · unfold gfld
    cases h : gty c k <;> rw [h] at hty <;> first | (cases hty; done) | (show (Sum.inr (Sum.inr (Sum.inl (gu M.2.2.2 a k (some w) a k))) : gV) = _; rw [gu_self])
  · unfold gfld
    show (match gty c k' with | .int => gi (M.2.1 a k') | .boolean => gi (M.2.1 a k') | .long => gl (M.2.2.1 a k') | _ => .inr (.inr (.inl (gu M.2.2.2 a k (some w) a k')))) = _
    rw [gu_ne (Or.inr hk')]
    cases gty c k' <;> rfl
/-! arrays -/
theorem gin_n {i : Int} {N : Nat} (h0 : 0 ≤ i) (h1 : i < N) (hN : N < 2147483648) : rng i := ⟨by omega, by omega⟩
theorem Go.iald {i : Int} (hi : gat mt pc = some (43, z, x, y, nx)) (hsh : M.1[a]? = some (100, N)) (h0 : 0 ≤ i) (h1 : i < N) (hN : N < 2147483648) (kk : Go G mt n mc ms nx lv (gi (M.2.1 a i.toNat) :: st) M P) : Go G mt n mc ms pc lv (gi i :: gr a :: st) M P := by
  intro p l e R s m args below meth cd H locs cells slots ls cx hS hW hL hc hs
  have hk := kk p l e R s m args below meth cd H locs cells slots ls cx hS hW hL hc hs
  obtain ⟨hx, hb, -, -, hown, hts, -, -, hK, -, -, -, hok⟩ := cx
  have ho := gat_ok hok hi
  simp only [gok, Bool.and_eq_true, decide_eq_true_eq] at ho
  obtain ⟨hd, rfl⟩ := ho
  refine va_iald hx hb hK (gP1 hW hsh) 0 0 (cA := G.2.1 0) (n := N) (f := fun j => iI (M.2.1 a j)) rfl rfl (iI_in h0 h1 hN) hd ?_
  rw [iI_clamp (gin_n h0 h1 hN)]
  exact hk
theorem Go.bald {i : Int} (hi : gat mt pc = some (44, z, x, y, nx)) (hsh : M.1[a]? = some (101, N)) (h0 : 0 ≤ i) (h1 : i < N) (hN : N < 2147483648) (kk : Go G mt n mc ms nx lv (gi (M.2.1 a i.toNat) :: st) M P) : Go G mt n mc ms pc lv (gi i :: gr a :: st) M P := by
  intro p l e R s m args below meth cd H locs cells slots ls cx hS hW hL hc hs
  have hk := kk p l e R s m args below meth cd H locs cells slots ls cx hS hW hL hc hs
  obtain ⟨hx, hb, -, -, hown, hts, -, -, hK, -, -, -, hok⟩ := cx
  have ho := gat_ok hok hi
  simp only [gok, Bool.and_eq_true, decide_eq_true_eq] at ho
  obtain ⟨hd, rfl⟩ := ho
  refine va_zald hx hb hK (gP1 hW hsh) 0 1 (cA := G.2.1 1) (n := N) (f := fun j => iI (M.2.1 a j)) rfl rfl (iI_in h0 h1 hN) hd ?_
  rw [iI_clamp (gin_n h0 h1 hN)]
  exact hk
theorem Go.lald {i : Int} (hi : gat mt pc = some (45, z, x, y, nx)) (hsh : M.1[a]? = some (102, N)) (h0 : 0 ≤ i) (h1 : i < N) (hN : N < 2147483648) (kk : Go G mt n mc ms nx lv (gl (M.2.2.1 a i.toNat) :: st) M P) : Go G mt n mc ms pc lv (gi i :: gr a :: st) M P := by
  intro p l e R s m args below meth cd H locs cells slots ls cx hS hW hL hc hs
  have hk := kk p l e R s m args below meth cd H locs cells slots ls cx hS hW hL hc hs
  obtain ⟨hx, hb, -, -, hown, hts, -, -, hK, -, -, -, hok⟩ := cx
  have ho := gat_ok hok hi
  simp only [gok, Bool.and_eq_true, decide_eq_true_eq] at ho
  obtain ⟨hd, rfl⟩ := ho
  refine va_lald hx hb hK (gP1 hW hsh) 0 2 (cA := G.2.1 2) (n := N) (f := M.2.2.1 a) rfl rfl (iI_in h0 h1 hN) hd ?_
  rw [iI_clamp (gin_n h0 h1 hN)]
  exact hk
/-- an array of references: of objects of the class whose array type has the number x -/
theorem Go.aald {i : Int} {t : Nat} (hi : gat mt pc = some (46, z, x, y, nx)) (hsh : M.1[a]? = some (100 + t, N)) (ht : 3 ≤ t ∧ t ≤ 7) (h0 : 0 ≤ i) (h1 : i < N) (hN : N < 2147483648) (kk : Go G mt n mc ms nx lv (.inr (.inr (.inl (M.2.2.2 a i.toNat))) :: st) M P) : Go G mt n mc ms pc lv (gi i :: gr a :: st) M P := by
  intro p l e R s m args below meth cd H locs cells slots ls cx hS hW hL hc hs
  have hk := kk p l e R s m args below meth cd H locs cells slots ls cx hS hW hL hc hs
  obtain ⟨hx, hb, -, -, hown, hts, -, -, hK, -, -, -, hok⟩ := cx
  have ho := gat_ok hok hi
  simp only [gok, Bool.and_eq_true, decide_eq_true_eq] at ho
  obtain ⟨hd, rfl⟩ := ho
  have hlt : (iI i).toNatClampNeg < N := by rw [iI_clamp (gin_n h0 h1 hN)]; omega
  have hat : H[gb G + a]? = some (vp_cell (G.2.1 t) (N, .inr (.inr (.inr (.inr (fun j => (M.2.2.2 a j).map (fun x => gb G + x))))))) := by
    have := hW.2.2 a _ hsh
    rcases (show t = 3 ∨ t = 4 ∨ t = 5 ∨ t = 6 ∨ t = 7 by omega) with rfl | rfl | rfl | rfl | rfl <;> exact this
  have hta : (gtys G)[t]? = some (G.2.1 t, gaty t) := by
    rcases (show t = 3 ∨ t = 4 ∨ t = 5 ∨ t = 6 ∨ t = 7 by omega) with rfl | rfl | rfl | rfl | rfl <;> rfl
  have href : (gaty t).isReference = true := by
    rcases (show t = 3 ∨ t = 4 ∨ t = 5 ∨ t = 6 ∨ t = 7 by omega) with rfl | rfl | rfl | rfl | rfl <;> rfl
  refine W.aald (v := va_rf ((M.2.2.2 a (iI i).toNatClampNeg).map (fun x => gb G + x))) (ty := gaty t) hx hb hat ((hK.2 t _ hta).1 N (fun j => va_rf ((M.2.2.2 a j).map (fun x => gb G + x)))) href (fun q => by cases q) (by show ¬ (iI i < 0 ∨ (arrV _ _ _).slots.size ≤ _); rw [arrV_size]; exact iI_in h0 h1 hN) (by show (arrV _ _ _).slots[_]? = _; rw [arrV_read _ _ hlt]) rfl rfl hd ?_
  rw [iI_clamp (gin_n h0 h1 hN)]
  exact hk
theorem Go.alen (hi : gat mt pc = some (52, z, x, y, nx)) (hsh : M.1[a]? = some (100, N)) (kk : Go G mt n mc ms nx lv (gi N :: st) M P) : Go G mt n mc ms pc lv (gr a :: st) M P := by
  intro p l e R s m args below meth cd H locs cells slots ls cx hS hW hL hc hs
  have hk := kk p l e R s m args below meth cd H locs cells slots ls cx hS hW hL hc hs
  obtain ⟨hx, hb, -, -, hown, hts, -, -, hK, -, -, -, hok⟩ := cx
  have ho := gat_ok hok hi
  simp only [gok, Bool.and_eq_true, decide_eq_true_eq] at ho
  obtain ⟨hd, rfl⟩ := ho
  exact va_alen hx hb hK (gP1 hW hsh) 0 0 (cA := G.2.1 0) (x := (N, .inl (fun j => iI (M.2.1 a j)))) rfl rfl (v := iI N) (by show Int32.ofNat N = Int32.ofInt N; rfl) hd hk
theorem Go.iast {i w : Int} (hi : gat mt pc = some (48, z, x, y, nx)) (hsh : M.1[a]? = some (100, N)) (h0 : 0 ≤ i) (h1 : i < N) (hN : N < 2147483648) (kk : Go G mt n mc ms nx lv st (mI M a i.toNat w) P) : Go G mt n mc ms pc lv (gi w :: gi i :: gr a :: st) M P := by
  intro p l e R s m args below meth cd H locs cells slots ls cx hS hW hL hc hs
  have hk := fun H1 locs1 hS1 hW1 => kk p l e R s m args below meth cd H1 locs1 cells slots ls cx hS1 hW1 hL hc hs
  obtain ⟨hx, hb, -, -, hown, hts, -, -, hK, -, -, -, hok⟩ := cx
  have ho := gat_ok hok hi
  simp only [gok, Bool.and_eq_true, decide_eq_true_eq] at ho
  obtain ⟨hd, rfl⟩ := ho
  have hat : H[gb G + a]? = some (vp_cell (G.2.1 0) (N, .inl (fun j => iI (M.2.1 a j)))) := hW.2.2 a _ hsh
  refine W.iast hx hb hat ((hK.2 0 _ rfl).1 N (fun j => .int (iI (M.2.1 a j)))) (fun q => by cases q) (by show ¬ (iI i < 0 ∨ (arrV _ _ _).slots.size ≤ _); rw [arrV_size]; exact iI_in h0 h1 hN) rfl rfl hd fun H1 e z1 oq => ?_
  refine hk H1 _ (gS_put hS z1 oq) (gWd_put hW rfl z1 oq (fun b q _ hb => gent_cong (fun j => gu_other hb) (fun j => rfl) (fun j => rfl)) (fun q hq => ?_))
  rw [hsh] at hq
  cases hq
  show H1[gb G + a]? = some (vp_cell (G.2.1 0) (N, .inl (fun j => iI (gu M.2.1 a i.toNat w a j))))
  rw [e, vp_cell_i, vp_cell_i, arrV_store, iI_clamp (gin_n h0 h1 hN)]
  congr 2
  funext q
  unfold updV gu
  by_cases hq : q = i.toNat <;> simp [hq]
theorem Go.bast {i w : Int} (hi : gat mt pc = some (49, z, x, y, nx)) (hsh : M.1[a]? = some (101, N)) (hw : w = 0 ∨ w = 1) (h0 : 0 ≤ i) (h1 : i < N) (hN : N < 2147483648) (kk : Go G mt n mc ms nx lv st (mI M a i.toNat w) P) : Go G mt n mc ms pc lv (gi w :: gi i :: gr a :: st) M P := by
  intro p l e R s m args below meth cd H locs cells slots ls cx hS hW hL hc hs
  have hk := fun H1 locs1 hS1 hW1 => kk p l e R s m args below meth cd H1 locs1 cells slots ls cx hS1 hW1 hL hc hs
  obtain ⟨hx, hb, -, -, hown, hts, -, -, hK, -, -, -, hok⟩ := cx
  have ho := gat_ok hok hi
  simp only [gok, Bool.and_eq_true, decide_eq_true_eq] at ho
  obtain ⟨hd, rfl⟩ := ho
  have hat : H[gb G + a]? = some (vp_cell (G.2.1 1) (N, .inl (fun j => iI (M.2.1 a j)))) := hW.2.2 a _ hsh
  have hnw : narrow .boolean (.int (iI w)) = .int (iI w) := by rcases hw with rfl | rfl <;> rfl
  refine W.zast hx hb hat ((hK.2 1 _ rfl).1 N (fun j => .int (iI (M.2.1 a j)))) (fun q => by cases q) (by show ¬ (iI i < 0 ∨ (arrV _ _ _).slots.size ≤ _); rw [arrV_size]; exact iI_in h0 h1 hN) rfl rfl hd fun H1 e z1 oq => ?_
  refine hk H1 _ (gS_put hS z1 oq) (gWd_put hW rfl z1 oq (fun b q _ hb => gent_cong (fun j => gu_other hb) (fun j => rfl) (fun j => rfl)) (fun q hq => ?_))
  rw [hsh] at hq
  cases hq
  show H1[gb G + a]? = some (vp_cell (G.2.1 1) (N, .inl (fun j => iI (gu M.2.1 a i.toNat w a j))))
  rw [e, hnw, vp_cell_i, vp_cell_i, arrV_store, iI_clamp (gin_n h0 h1 hN)]
  congr 2
  funext q
  unfold updV gu
  by_cases hq : q = i.toNat <;> simp [hq]
theorem Go.last {i : Int} {w : Int64} (hi : gat mt pc = some (50, z, x, y, nx)) (hsh : M.1[a]? = some (102, N)) (h0 : 0 ≤ i) (h1 : i < N) (hN : N < 2147483648) (kk : Go G mt n mc ms nx lv st (mL M a i.toNat w) P) : Go G mt n mc ms pc lv (gl w :: gi i :: gr a :: st) M P := by
  intro p l e R s m args below meth cd H locs cells slots ls cx hS hW hL hc hs
  have hk := fun H1 locs1 hS1 hW1 => kk p l e R s m args below meth cd H1 locs1 cells slots ls cx hS1 hW1 hL hc hs
  obtain ⟨hx, hb, -, -, hown, hts, -, -, hK, -, -, -, hok⟩ := cx
  have ho := gat_ok hok hi
  simp only [gok, Bool.and_eq_true, decide_eq_true_eq] at ho
  obtain ⟨hd, rfl⟩ := ho
  have hat : H[gb G + a]? = some (vp_cell (G.2.1 2) (N, .inr (.inl (M.2.2.1 a)))) := hW.2.2 a _ hsh
  refine W.last hx hb hat ((hK.2 2 _ rfl).1 N (fun j => .long (M.2.2.1 a j))) (fun q => by cases q) (by show ¬ (iI i < 0 ∨ (arrV _ _ _).slots.size ≤ _); rw [arrV_size]; exact iI_in h0 h1 hN) rfl rfl hd fun H1 e z1 oq => ?_
  refine hk H1 _ (gS_put hS z1 oq) (gWd_put hW rfl z1 oq (fun b q _ hb => gent_cong (fun j => rfl) (fun j => gu_other hb) (fun j => rfl)) (fun q hq => ?_))
  rw [hsh] at hq
  cases hq
  show H1[gb G + a]? = some (vp_cell (G.2.1 2) (N, .inr (.inl (gu M.2.2.1 a i.toNat w a))))
  rw [e, vp_cell_l, vp_cell_l, arrV_store, iI_clamp (gin_n h0 h1 hN)]
  congr 2
  funext q
  unfold updV gu
  by_cases hq : q = i.toNat <;> simp [hq]
/-- an object into an array of its class -/
theorem Go.aast {i : Int} {t w : Nat} (hi : gat mt pc = some (51, z, x, y, nx)) (hsh : M.1[a]? = some (100 + t, N)) (ht : 3 ≤ t ∧ t ≤ 6) (hv : M.1[w]? = some (c, k)) (hc : c < 12) (hcl : gR c = gaC t) (h0 : 0 ≤ i) (h1 : i < N) (hN : N < 2147483648) (kk : Go G mt n mc ms nx lv st (mR M a i.toNat (some w)) P) : Go G mt n mc ms pc lv (gr w :: gi i :: gr a :: st) M P := by
  intro p l e R s m args below meth cd H locs cells slots ls cx hS hW hL hcc hs
  have hk := fun H1 locs1 hS1 hW1 => kk p l e R s m args below meth cd H1 locs1 cells slots ls cx hS1 hW1 hL hcc hs
  obtain ⟨hx, hb, -, -, hown, hts, -, -, hK, -, -, -, hok⟩ := cx
  have ho := gat_ok hok hi
  simp only [gok, Bool.and_eq_true, decide_eq_true_eq] at ho
  obtain ⟨hd, rfl⟩ := ho
  have hat : H[gb G + a]? = some (vp_cell (G.2.1 t) (N, .inr (.inr (.inr (.inr (fun j => (M.2.2.2 a j).map (fun x => gb G + x))))))) := by
    have := hW.2.2 a _ hsh
    rcases (show t = 3 ∨ t = 4 ∨ t = 5 ∨ t = 6 by omega) with rfl | rfl | rfl | rfl <;> exact this
  have hta : (gtys G)[t]? = some (G.2.1 t, .object (gR c)) := by
    rw [hcl]
    rcases (show t = 3 ∨ t = 4 ∨ t = 5 ∨ t = 6 by omega) with rfl | rfl | rfl | rfl <;> rfl
  have hlt : (iI i).toNatClampNeg < N := by rw [iI_clamp (gin_n h0 h1 hN)]; omega
  have h00 : ¬ iI i < 0 := fun q => iI_in h0 h1 hN (Or.inl q)
  have hvv := hW.2.2 w _ hv
  rw [gent_o hc] at hvv
  obtain ⟨r', hr', cellV, g1, g2, g3, -⟩ := hvv
  have hcls := (hK.1 c _ (gcl hc)).2
  obtain ⟨kA, comp, k1, k2, k3, -⟩ := (hK.2 t _ hta).2
  have hcomp : comp = G.1.1 c := Option.some.inj (k3.symm.trans hcls.1)
  subst hcomp
  obtain ⟨kC, hkC, -⟩ := hcls.2
  refine W.aast hx hb hat (fun q h => by cases h) (fun h => by cases h) k1 k2 rfl hkC ⟨h00, by show _ < (arrV _ _ _).slots.size; rw [arrV_size]; exact hlt⟩ g1 (fun q h => by rw [g3] at h; cases h) (by rw [g2]; exact hkC) (by rw [g2]; exact va_assign hcls) rfl rfl hd fun H1 e z1 oq => ?_
  refine hk H1 _ (gS_put hS z1 oq) (gWd_put hW rfl z1 oq (fun b q _ hb => gent_cong (fun j => rfl) (fun j => rfl) (fun j => gu_other hb)) (fun q hq => ?_))
  rw [hsh] at hq
  cases hq
  have goal : H1[gb G + a]? = some (vp_cell (G.2.1 t) (N, .inr (.inr (.inr (.inr (fun j => (gu M.2.2.2 a i.toNat (some w) a j).map (fun x => gb G + x))))))) := by
    rw [e, vp_cell_q, vp_cell_q, arrV_store, iI_clamp (gin_n h0 h1 hN)]
    congr 2
    funext q
    unfold updV gu
    by_cases hq : q = i.toNat
    · subst hq
      rw [if_pos rfl, if_pos rfl, if_pos rfl]
      rfl
    · rw [if_neg hq, if_pos rfl, if_neg hq]
  rcases (show t = 3 ∨ t = 4 ∨ t = 5 ∨ t = 6 by omega) with rfl | rfl | rfl | rfl <;> exact goal
/-! static rows -/
theorem Go.gets (hi : gat mt pc = some (95, z, x, y, nx)) (kk : Go G mt n mc ms nx lv (gs x :: st) M P) : Go G mt n mc ms pc lv st M P := by
  intro p l e R s m args below meth cd H locs cells slots ls cx hS hW hL hc hs
  have hk := kk p l e R s m args below meth cd H locs cells slots ls cx hS hW hL hc hs
  obtain ⟨hx, hb, -, -, hown, hts, -, -, hK, hSt, -, -, hok⟩ := cx
  have ho := gat_ok hok hi
  simp only [gok, Bool.and_eq_true, Bool.or_eq_true, decide_eq_true_eq] at ho
  obtain ⟨rfl, (⟨⟨h1, rfl⟩, hd⟩ | ⟨⟨h1, rfl⟩, hd⟩)⟩ := ho
  · rw [h1] at hown
    exact va_gets hx hb hSt.2.1 hS hown (hts _ (gTB_in gSt_ABOVE rfl)) (fun _ h => h) hd hk
  · rw [h1] at hown
    exact va_gets hx hb hSt.2.2.2.1 hS hown (hts _ (gTB_in gSt_NAMES rfl)) (fun _ h => h) hd hk
theorem Go.sald {i : Int} {q : Nat} (hi : gat mt pc = some (43, z, x, y, nx)) (hq : q = 0 ∨ q = 2) (h0 : 0 ≤ i) (h1 : i < gsn G q) (hN : gsn G q < 2147483648) (kk : Go G mt n mc ms nx lv (gi (gsc G q i.toNat) :: st) M P) : Go G mt n mc ms pc lv (gi i :: gs q :: st) M P := by
  intro p l e R s m args below meth cd H locs cells slots ls cx hS hW hL hc hs
  have hk := kk p l e R s m args below meth cd H locs cells slots ls cx hS hW hL hc hs
  obtain ⟨hx, hb, -, -, hown, hts, -, -, hK, hSt, -, -, hok⟩ := cx
  have ho := gat_ok hok hi
  simp only [gok, Bool.and_eq_true, decide_eq_true_eq] at ho
  obtain ⟨hd, rfl⟩ := ho
  have hT : gsT G q .int s := by
    rcases hq with rfl | rfl
    · exact hSt.2.2.1
    · exact hSt.2.2.2.2.2
  exact va_ti hx hb hT hS (iI_in h0 h1 hN) (v := .int (iI (gsc G q i.toNat))) (by rw [iI_clamp (gin_n h0 h1 hN)]) hd hk
theorem Go.scald {i : Int} (hi : gat mt pc = some (47, z, x, y, nx)) (h0 : 0 ≤ i) (h1 : i < 6) (kk : Go G mt n mc ms nx lv (gi (gsc G 1 i.toNat) :: st) M P) : Go G mt n mc ms pc lv (gi i :: gs 1 :: st) M P := by
  intro p l e R s m args below meth cd H locs cells slots ls cx hS hW hL hc hs
  have hk := kk p l e R s m args below meth cd H locs cells slots ls cx hS hW hL hc hs
  obtain ⟨hx, hb, -, -, hown, hts, -, -, hK, hSt, -, -, hok⟩ := cx
  have ho := gat_ok hok hi
  simp only [gok, Bool.and_eq_true, decide_eq_true_eq] at ho
  obtain ⟨hd, rfl⟩ := ho
  exact va_tc hx hb hSt.2.2.2.2.1 hS (iI_in h0 (show i < ((gsn G 1 : Nat) : Int) from h1) (show gsn G 1 < 2147483648 from by show 6 < 2147483648; omega)) (v := .int (iI (gsc G 1 i.toNat))) (by rw [iI_clamp ⟨by omega, by omega⟩]) hd hk
theorem Go.salen {q : Nat} (hi : gat mt pc = some (52, z, x, y, nx)) (hq : q = 1 ∨ q = 2) (kk : Go G mt n mc ms nx lv (gi (gsn G q) :: st) M P) : Go G mt n mc ms pc lv (gs q :: st) M P := by
  intro p l e R s m args below meth cd H locs cells slots ls cx hS hW hL hc hs
  have hk := kk p l e R s m args below meth cd H locs cells slots ls cx hS hW hL hc hs
  obtain ⟨hx, hb, -, -, hown, hts, -, -, hK, hSt, -, -, hok⟩ := cx
  have ho := gat_ok hok hi
  simp only [gok, Bool.and_eq_true, decide_eq_true_eq] at ho
  obtain ⟨hd, rfl⟩ := ho
  rcases hq with rfl | rfl
  · exact va_tlen hx hb hSt.2.2.2.2.1 hS (v := iI (gsn G 1)) rfl hd hk
  · exact va_tlen hx hb hSt.2.2.2.2.2 hS (v := iI (gsn G 2)) rfl hd hk
theorem Go.lcmp {v w : Int64} (hi : gat mt pc = some (37, z, x, y, nx)) (kk : Go G mt n mc ms nx lv (gi (lg_cmp v w).toInt :: st) M P) : Go G mt n mc ms pc lv (gl w :: gl v :: st) M P := by
  intro p l e R s m args below meth cd H locs cells slots ls cx hS hW hL hc hs
  have hk := kk p l e R s m args below meth cd H locs cells slots ls cx hS hW hL hc hs
  obtain ⟨hx, hb, -, -, hown, hts, -, -, hK, hSt, -, -, hok⟩ := cx
  have ho := gat_ok hok hi
  simp only [gok, Bool.and_eq_true, decide_eq_true_eq] at ho
  obtain ⟨hd, rfl⟩ := ho
  exact W.lcmp hx hb hd (by have h := hk; unfold gup at h; simp only [List.map_cons, iI_of] at h; exact h)
/-! jumps, ends -/
theorem Go.goto (hi : gat mt pc = some (60, z, x, y, nx)) (kk : Go G mt n mc ms x lv st M P) : Go G mt n mc ms pc lv st M P := by
  intro p l e R s m args below meth cd H locs cells slots ls cx hS hW hL hc hs
  have hk := kk p l e R s m args below meth cd H locs cells slots ls cx hS hW hL hc hs
  obtain ⟨hx, hb, -, -, hown, hts, -, -, hK, hSt, -, -, hok⟩ := cx
  have ho := gat_ok hok hi
  simp only [gok, decide_eq_true_eq] at ho
  exact lv_goto (tgt := x) hx hb ho (by omega) hk
theorem Go.iret {w : Int} (hi : gat mt pc = some (70, z, x, 0, nx)) (hp : P (some (gi w)) M) : Go G mt n mc ms pc lv [gi w] M P := by
  intro p l e R s m args below meth cd H locs cells slots ls cx hS hW hL hc hs
  obtain ⟨hx, hb, hr, -, hown, hts, hlk, -, hK, hSt, -, -, hok⟩ := cx
  have ho := gat_ok hok hi
  simp only [gok, Bool.and_eq_true, Bool.or_eq_true, decide_eq_true_eq] at ho
  obtain ⟨hd, (⟨h1, -⟩ | ⟨-, h2⟩)⟩ := ho
  · exact W.widen (Nat.le_add_right _ _) (Nat.le_add_right _ _) (W.iret (v := iI w) hx hb (hr.trans h1) (fun t ht hw => ⟨⟨some (gi w), M, hp, rfl, by rw [ht]; exact hW⟩, hS.F ht⟩) hS.2.2 hd hlk)
  · cases h2
theorem Go.zret {w : Int} (hi : gat mt pc = some (70, z, x, 1, nx)) (hw : w = 0 ∨ w = 1) (hp : P (some (gi w)) M) : Go G mt n mc ms pc lv [gi w] M P := by
  intro p l e R s m args below meth cd H locs cells slots ls cx hS hW hL hc hs
  obtain ⟨hx, hb, hr, -, hown, hts, hlk, -, hK, hSt, -, -, hok⟩ := cx
  have ho := gat_ok hok hi
  simp only [gok, Bool.and_eq_true, Bool.or_eq_true, decide_eq_true_eq] at ho
  obtain ⟨hd, (⟨-, h2⟩ | ⟨h1, -⟩)⟩ := ho
  · cases h2
  · exact W.widen (Nat.le_add_right _ _) (Nat.le_add_right _ _) (W.zret (v := iI w) hx hb (hr.trans h1) (by rcases hw with rfl | rfl <;> rfl) (fun t ht hw => ⟨⟨some (gi w), M, hp, rfl, by rw [ht]; exact hW⟩, hS.F ht⟩) hS.2.2 hd hlk)
theorem Go.lret {w : Int64} (hi : gat mt pc = some (71, z, x, y, nx)) (hp : P (some (gl w)) M) : Go G mt n mc ms pc lv [gl w] M P := by
  intro p l e R s m args below meth cd H locs cells slots ls cx hS hW hL hc hs
  obtain ⟨hx, hb, hr, -, hown, hts, hlk, -, hK, hSt, -, -, hok⟩ := cx
  have ho := gat_ok hok hi
  simp only [gok, Bool.and_eq_true, decide_eq_true_eq] at ho
  exact W.widen (Nat.le_add_right _ _) (Nat.le_add_right _ _) (W.lret (v := w) hx hb (hr.trans ho.2) (fun t ht hw => ⟨⟨some (gl w), M, hp, rfl, by rw [ht]; exact hW⟩, hS.F ht⟩) hS.2.2 ho.1 hlk)
theorem Go.vret (hi : gat mt pc = some (72, z, x, y, nx)) (hp : P none M) : Go G mt n mc ms pc lv [] M P := by
  intro p l e R s m args below meth cd H locs cells slots ls cx hS hW hL hc hs
  obtain ⟨hx, hb, hr, -, hown, hts, hlk, -, hK, hSt, -, -, hok⟩ := cx
  have ho := gat_ok hok hi
  simp only [gok, Bool.and_eq_true, decide_eq_true_eq] at ho
  exact W.widen (Nat.le_add_right _ _) (Nat.le_add_right _ _) (W.vret hx hb (hr.trans ho.2) (fun t ht hw => ⟨⟨none, M, hp, rfl, by rw [ht]; exact hW⟩, hS.F ht⟩) hS.2.2 ho.1 hlk)
theorem Go.icmp_eq {a b : Int} (hi : gat mt pc = some (62, z, x, 0, nx)) (ha : rng a) (hb0 : rng b) (kt : a = b → Go G mt n mc ms x lv st M P) (kf : ¬ (a = b) → Go G mt n mc ms nx lv st M P) : Go G mt n mc ms pc lv (gi b :: gi a :: st) M P := by
  intro p l e R s m args below meth cd H locs cells slots ls cx hS hW hL hc hs
  have kt := fun h => kt h p l e R s m args below meth cd H locs cells slots ls cx hS hW hL hc hs
  have kf := fun h => kf h p l e R s m args below meth cd H locs cells slots ls cx hS hW hL hc hs
  obtain ⟨hx, hb, -, -, hown, hts, -, -, hK, hSt, -, -, hok⟩ := cx
  have ho := gat_ok hok hi
  simp only [gok, Bool.and_eq_true, decide_eq_true_eq] at ho
  obtain ⟨⟨rfl, ho⟩, -⟩ := ho
  exact lv_icmp_eq (tgt := x) hx hb ho (by omega) (fun h => kt ((iI_inj ha hb0).mp h)) (fun h => kf (fun q => h ((iI_inj ha hb0).mpr q)))
theorem Go.if_eq {a : Int} (hi : gat mt pc = some (61, z, x, 0, nx)) (ha : rng a) (kt : a = 0 → Go G mt n mc ms x lv st M P) (kf : ¬ (a = 0) → Go G mt n mc ms nx lv st M P) : Go G mt n mc ms pc lv (gi a :: st) M P := by
  intro p l e R s m args below meth cd H locs cells slots ls cx hS hW hL hc hs
  have kt := fun h => kt h p l e R s m args below meth cd H locs cells slots ls cx hS hW hL hc hs
  have kf := fun h => kf h p l e R s m args below meth cd H locs cells slots ls cx hS hW hL hc hs
  obtain ⟨hx, hb, -, -, hown, hts, -, -, hK, hSt, -, -, hok⟩ := cx
  have ho := gat_ok hok hi
  simp only [gok, Bool.and_eq_true, decide_eq_true_eq] at ho
  obtain ⟨⟨rfl, ho⟩, -⟩ := ho
  have hb0 : rng 0 := ⟨by omega, by omega⟩
  exact lv_if_eq (tgt := x) hx hb ho (by omega) (fun h => kt ((iI_inj ha hb0).mp h)) (fun h => kf (fun q => h ((iI_inj ha hb0).mpr q)))
theorem Go.icmp_ne {a b : Int} (hi : gat mt pc = some (62, z, x, 1, nx)) (ha : rng a) (hb0 : rng b) (kt : ¬ a = b → Go G mt n mc ms x lv st M P) (kf : a = b → Go G mt n mc ms nx lv st M P) : Go G mt n mc ms pc lv (gi b :: gi a :: st) M P := by
  intro p l e R s m args below meth cd H locs cells slots ls cx hS hW hL hc hs
  have kt := fun h => kt h p l e R s m args below meth cd H locs cells slots ls cx hS hW hL hc hs
  have kf := fun h => kf h p l e R s m args below meth cd H locs cells slots ls cx hS hW hL hc hs
  obtain ⟨hx, hb, -, -, hown, hts, -, -, hK, hSt, -, -, hok⟩ := cx
  have ho := gat_ok hok hi
  simp only [gok, Bool.and_eq_true, decide_eq_true_eq] at ho
  obtain ⟨⟨rfl, ho⟩, -⟩ := ho
  exact lv_icmp_ne (tgt := x) hx hb ho (by omega) (fun h => kt (fun q => h ((iI_inj ha hb0).mpr q))) (fun h => kf ((iI_inj ha hb0).mp h))
theorem Go.if_ne {a : Int} (hi : gat mt pc = some (61, z, x, 1, nx)) (ha : rng a) (kt : ¬ a = 0 → Go G mt n mc ms x lv st M P) (kf : a = 0 → Go G mt n mc ms nx lv st M P) : Go G mt n mc ms pc lv (gi a :: st) M P := by
  intro p l e R s m args below meth cd H locs cells slots ls cx hS hW hL hc hs
  have kt := fun h => kt h p l e R s m args below meth cd H locs cells slots ls cx hS hW hL hc hs
  have kf := fun h => kf h p l e R s m args below meth cd H locs cells slots ls cx hS hW hL hc hs
  obtain ⟨hx, hb, -, -, hown, hts, -, -, hK, hSt, -, -, hok⟩ := cx
  have ho := gat_ok hok hi
  simp only [gok, Bool.and_eq_true, decide_eq_true_eq] at ho
  obtain ⟨⟨rfl, ho⟩, -⟩ := ho
  have hb0 : rng 0 := ⟨by omega, by omega⟩
  exact lv_if_ne (tgt := x) hx hb ho (by omega) (fun h => kt (fun q => h ((iI_inj ha hb0).mpr q))) (fun h => kf ((iI_inj ha hb0).mp h))
theorem Go.icmp_lt {a b : Int} (hi : gat mt pc = some (62, z, x, 2, nx)) (ha : rng a) (hb0 : rng b) (kt : a < b → Go G mt n mc ms x lv st M P) (kf : ¬ (a < b) → Go G mt n mc ms nx lv st M P) : Go G mt n mc ms pc lv (gi b :: gi a :: st) M P := by
  intro p l e R s m args below meth cd H locs cells slots ls cx hS hW hL hc hs
  have kt := fun h => kt h p l e R s m args below meth cd H locs cells slots ls cx hS hW hL hc hs
  have kf := fun h => kf h p l e R s m args below meth cd H locs cells slots ls cx hS hW hL hc hs
  obtain ⟨hx, hb, -, -, hown, hts, -, -, hK, hSt, -, -, hok⟩ := cx
  have ho := gat_ok hok hi
  simp only [gok, Bool.and_eq_true, decide_eq_true_eq] at ho
  obtain ⟨⟨rfl, ho⟩, -⟩ := ho
  exact lv_icmp_lt (tgt := x) hx hb ho (by omega) (fun h => kt ((iI_lt ha hb0).mp h)) (fun h => kf (fun q => h ((iI_lt ha hb0).mpr q)))
theorem Go.if_lt {a : Int} (hi : gat mt pc = some (61, z, x, 2, nx)) (ha : rng a) (kt : a < 0 → Go G mt n mc ms x lv st M P) (kf : ¬ (a < 0) → Go G mt n mc ms nx lv st M P) : Go G mt n mc ms pc lv (gi a :: st) M P := by
  intro p l e R s m args below meth cd H locs cells slots ls cx hS hW hL hc hs
  have kt := fun h => kt h p l e R s m args below meth cd H locs cells slots ls cx hS hW hL hc hs
  have kf := fun h => kf h p l e R s m args below meth cd H locs cells slots ls cx hS hW hL hc hs
  obtain ⟨hx, hb, -, -, hown, hts, -, -, hK, hSt, -, -, hok⟩ := cx
  have ho := gat_ok hok hi
  simp only [gok, Bool.and_eq_true, decide_eq_true_eq] at ho
  obtain ⟨⟨rfl, ho⟩, -⟩ := ho
  have hb0 : rng 0 := ⟨by omega, by omega⟩
  exact lv_if_lt (tgt := x) hx hb ho (by omega) (fun h => kt ((iI_lt ha hb0).mp h)) (fun h => kf (fun q => h ((iI_lt ha hb0).mpr q)))
theorem Go.icmp_ge {a b : Int} (hi : gat mt pc = some (62, z, x, 3, nx)) (ha : rng a) (hb0 : rng b) (kt : b ≤ a → Go G mt n mc ms x lv st M P) (kf : ¬ (b ≤ a) → Go G mt n mc ms nx lv st M P) : Go G mt n mc ms pc lv (gi b :: gi a :: st) M P := by
  intro p l e R s m args below meth cd H locs cells slots ls cx hS hW hL hc hs
  have kt := fun h => kt h p l e R s m args below meth cd H locs cells slots ls cx hS hW hL hc hs
  have kf := fun h => kf h p l e R s m args below meth cd H locs cells slots ls cx hS hW hL hc hs
  obtain ⟨hx, hb, -, -, hown, hts, -, -, hK, hSt, -, -, hok⟩ := cx
  have ho := gat_ok hok hi
  simp only [gok, Bool.and_eq_true, decide_eq_true_eq] at ho
  obtain ⟨⟨rfl, ho⟩, -⟩ := ho
  exact lv_icmp_ge (tgt := x) hx hb ho (by omega) (fun h => kt ((iI_le hb0 ha).mp h)) (fun h => kf (fun q => h ((iI_le hb0 ha).mpr q)))
theorem Go.if_ge {a : Int} (hi : gat mt pc = some (61, z, x, 3, nx)) (ha : rng a) (kt : 0 ≤ a → Go G mt n mc ms x lv st M P) (kf : ¬ (0 ≤ a) → Go G mt n mc ms nx lv st M P) : Go G mt n mc ms pc lv (gi a :: st) M P := by
  intro p l e R s m args below meth cd H locs cells slots ls cx hS hW hL hc hs
  have kt := fun h => kt h p l e R s m args below meth cd H locs cells slots ls cx hS hW hL hc hs
  have kf := fun h => kf h p l e R s m args below meth cd H locs cells slots ls cx hS hW hL hc hs
  obtain ⟨hx, hb, -, -, hown, hts, -, -, hK, hSt, -, -, hok⟩ := cx
  have ho := gat_ok hok hi
  simp only [gok, Bool.and_eq_true, decide_eq_true_eq] at ho
  obtain ⟨⟨rfl, ho⟩, -⟩ := ho
  have hb0 : rng 0 := ⟨by omega, by omega⟩
  exact lv_if_ge (tgt := x) hx hb ho (by omega) (fun h => kt ((iI_le hb0 ha).mp h)) (fun h => kf (fun q => h ((iI_le hb0 ha).mpr q)))
theorem Go.icmp_gt {a b : Int} (hi : gat mt pc = some (62, z, x, 4, nx)) (ha : rng a) (hb0 : rng b) (kt : b < a → Go G mt n mc ms x lv st M P) (kf : ¬ (b < a) → Go G mt n mc ms nx lv st M P) : Go G mt n mc ms pc lv (gi b :: gi a :: st) M P := by
  intro p l e R s m args below meth cd H locs cells slots ls cx hS hW hL hc hs
  have kt := fun h => kt h p l e R s m args below meth cd H locs cells slots ls cx hS hW hL hc hs
  have kf := fun h => kf h p l e R s m args below meth cd H locs cells slots ls cx hS hW hL hc hs
  obtain ⟨hx, hb, -, -, hown, hts, -, -, hK, hSt, -, -, hok⟩ := cx
  have ho := gat_ok hok hi
  simp only [gok, Bool.and_eq_true, decide_eq_true_eq] at ho
  obtain ⟨⟨rfl, ho⟩, -⟩ := ho
  exact lv_icmp_gt (tgt := x) hx hb ho (by omega) (fun h => kt ((iI_lt hb0 ha).mp h)) (fun h => kf (fun q => h ((iI_lt hb0 ha).mpr q)))
theorem Go.if_gt {a : Int} (hi : gat mt pc = some (61, z, x, 4, nx)) (ha : rng a) (kt : 0 < a → Go G mt n mc ms x lv st M P) (kf : ¬ (0 < a) → Go G mt n mc ms nx lv st M P) : Go G mt n mc ms pc lv (gi a :: st) M P := by
  intro p l e R s m args below meth cd H locs cells slots ls cx hS hW hL hc hs
  have kt := fun h => kt h p l e R s m args below meth cd H locs cells slots ls cx hS hW hL hc hs
  have kf := fun h => kf h p l e R s m args below meth cd H locs cells slots ls cx hS hW hL hc hs
  obtain ⟨hx, hb, -, -, hown, hts, -, -, hK, hSt, -, -, hok⟩ := cx
  have ho := gat_ok hok hi
  simp only [gok, Bool.and_eq_true, decide_eq_true_eq] at ho
  obtain ⟨⟨rfl, ho⟩, -⟩ := ho
  have hb0 : rng 0 := ⟨by omega, by omega⟩
  exact lv_if_gt (tgt := x) hx hb ho (by omega) (fun h => kt ((iI_lt hb0 ha).mp h)) (fun h => kf (fun q => h ((iI_lt hb0 ha).mpr q)))
theorem Go.icmp_le {a b : Int} (hi : gat mt pc = some (62, z, x, 5, nx)) (ha : rng a) (hb0 : rng b) (kt : a ≤ b → Go G mt n mc ms x lv st M P) (kf : ¬ (a ≤ b) → Go G mt n mc ms nx lv st M P) : Go G mt n mc ms pc lv (gi b :: gi a :: st) M P := by
  intro p l e R s m args below meth cd H locs cells slots ls cx hS hW hL hc hs
  have kt := fun h => kt h p l e R s m args below meth cd H locs cells slots ls cx hS hW hL hc hs
  have kf := fun h => kf h p l e R s m args below meth cd H locs cells slots ls cx hS hW hL hc hs
  obtain ⟨hx, hb, -, -, hown, hts, -, -, hK, hSt, -, -, hok⟩ := cx
  have ho := gat_ok hok hi
  simp only [gok, Bool.and_eq_true, decide_eq_true_eq] at ho
  obtain ⟨⟨rfl, ho⟩, -⟩ := ho
  exact lv_icmp_le (tgt := x) hx hb ho (by omega) (fun h => kt ((iI_le ha hb0).mp h)) (fun h => kf (fun q => h ((iI_le ha hb0).mpr q)))
theorem Go.if_le {a : Int} (hi : gat mt pc = some (61, z, x, 5, nx)) (ha : rng a) (kt : a ≤ 0 → Go G mt n mc ms x lv st M P) (kf : ¬ (a ≤ 0) → Go G mt n mc ms nx lv st M P) : Go G mt n mc ms pc lv (gi a :: st) M P := by
  intro p l e R s m args below meth cd H locs cells slots ls cx hS hW hL hc hs
  have kt := fun h => kt h p l e R s m args below meth cd H locs cells slots ls cx hS hW hL hc hs
  have kf := fun h => kf h p l e R s m args below meth cd H locs cells slots ls cx hS hW hL hc hs
  obtain ⟨hx, hb, -, -, hown, hts, -, -, hK, hSt, -, -, hok⟩ := cx
  have ho := gat_ok hok hi
  simp only [gok, Bool.and_eq_true, decide_eq_true_eq] at ho
  obtain ⟨⟨rfl, ho⟩, -⟩ := ho
  have hb0 : rng 0 := ⟨by omega, by omega⟩
  exact lv_if_le (tgt := x) hx hb ho (by omega) (fun h => kt ((iI_le ha hb0).mp h)) (fun h => kf (fun q => h ((iI_le ha hb0).mpr q)))
end GOA
end
section
/-! ===== switches ===== -/
def glk (l : List (Int × Nat)) (w : Int) (d : Nat) : Nat := match l with
  | [] => d
  | (k, t) :: r => if w = k then t else glk r w d
theorem glk_off (pc d : Nat) (w : Int) : ∀ l : List (Int × Nat), Op.lookupswitch.offset (l.map (fun q => (q.1, ((q.2 : Int) - pc)))) ((d : Int) - pc) w = ((glk l w d : Nat) : Int) - pc
  | [] => rfl
  | (k, t) :: r => by
    rw [List.map_cons, Op.lookupswitch.offset_cons, glk_off pc d w r]
    by_cases h : w = k
    · simp [glk, h]
    · simp [glk, h, Ne.symm h]
section GOS
variable {G : gG} {mt : gMt} {n mc ms pc nx x y : Nat} {z w : Int} {lv : List (Option gV)} {st : List gV} {M : gMe} {P : Option gV → gMe → Prop}
theorem Go.lsw {l : List (Int × Nat)} (hi : gat mt pc = some (65, z, x, y, nx)) (hl : mt.2.2.lookup pc = some l) (hw : rng w) (kk : Go G mt n mc ms (glk l w x) lv st M P) : Go G mt n mc ms pc lv (gi w :: st) M P := by
  intro p l0 e R s m args below meth cd H locs cells slots ls cx hS hW hL hc hs
  have hk := kk p l0 e R s m args below meth cd H locs cells slots ls cx hS hW hL hc hs
  obtain ⟨hx, hb, -, -, hown, hts, -, -, hK, hSt, -, -, hok⟩ := cx
  have ho := gat_ok hok hi
  unfold gok at ho
  simp only [hl, Bool.and_eq_true, decide_eq_true_eq] at ho
  exact lv_lookup (off := ((glk l w x : Nat) : Int) - pc) (tgt := glk l w x) hx hb ho.1 ho.2 (by rw [iI_toInt hw]; exact glk_off pc x w l) (by omega) hk
theorem Go.tsw_out {l : List (Int × Nat)} (hi : gat mt pc = some (64, z, x, y, nx)) (hl : mt.2.2.lookup pc = some l) (hw : rng w) (h : w < z ∨ z + y ≤ w) (kk : Go G mt n mc ms x lv st M P) : Go G mt n mc ms pc lv (gi w :: st) M P := by
  intro p l0 e R s m args below meth cd H locs cells slots ls cx hS hW hL hc hs
  have hk := kk p l0 e R s m args below meth cd H locs cells slots ls cx hS hW hL hc hs
  obtain ⟨hx, hb, -, -, hown, hts, -, -, hK, hSt, -, -, hok⟩ := cx
  have ho := gat_ok hok hi
  unfold gok at ho
  simp only [hl, Bool.and_eq_true, decide_eq_true_eq] at ho
  exact lv_tableOut (tgt := x) hx hb ho.2 (by rw [iI_toInt hw]; omega) (by omega) hk
theorem Go.tsw_in {l : List (Int × Nat)} {t : Nat} {w' : Int} (hi : gat mt pc = some (64, z, x, y, nx)) (hl : mt.2.2.lookup pc = some l) (hw : rng w) (h0 : z ≤ w) (h1 : w < z + y) (ht : l[(w - z).toNat]? = some (w', t)) (kk : Go G mt n mc ms t lv st M P) : Go G mt n mc ms pc lv (gi w :: st) M P := by
  intro p l0 e R s m args below meth cd H locs cells slots ls cx hS hW hL hc hs
  have hk := kk p l0 e R s m args below meth cd H locs cells slots ls cx hS hW hL hc hs
  obtain ⟨hx, hb, -, -, hown, hts, -, -, hK, hSt, -, -, hok⟩ := cx
  have ho := gat_ok hok hi
  unfold gok at ho
  simp only [hl, Bool.and_eq_true, decide_eq_true_eq] at ho
  exact lv_tableIn (tgt := t) (off := (t : Int) - pc) hx hb ho.2 (by rw [iI_toInt hw]; omega) (by rw [iI_toInt hw]; omega) (by rw [iI_toInt hw]; simp [ht]) (by omega) hk
end GOS
/-! ===== methods and calls ===== -/
def garg : List gV → List (Option gV)
  | [] => []
  | .inr (.inl x) :: vs => some (.inr (.inl x)) :: none :: garg vs
  | v :: vs => some v :: garg vs
theorem garg_len (G : gG) : ∀ av : List gV, (lg_sl (av.map (gup G))).length = (garg av).length
  | [] => rfl
  | v :: vs => by
    have ih := garg_len G vs
    unfold lg_sl at ih ⊢
    rw [List.map_cons, List.flatMap_cons, List.length_append, ih]
    rcases v with z | x | r | k
    · simp [gup, Value.category, garg]; omega
    · simp [gup, Value.category, garg]; omega
    · cases r <;> simp [gup, va_rf, Value.category, garg] <;> omega
    · simp [gup, Value.category, garg]; omega
theorem garg_args (G : gG) : ∀ (av : List gV) (i0 i : Nat) (v : gV), (garg av)[i]? = some (some v) → (i0 + i, gup G v) ∈ lv_args i0 (av.map (gup G))
  | [], i0, i, v, h => by simp [garg] at h
  | w :: vs, i0, i, v, h => by
    rcases w with z | x | r | k
    · rw [List.map_cons]
      cases i with
      | zero => simp [garg] at h; subst h; exact List.mem_cons_self
      | succ i =>
        simp [garg] at h
        have := garg_args G vs (i0 + 1) i v h
        rw [show i0 + (i + 1) = i0 + 1 + i by omega]
        exact List.mem_cons_of_mem _ this
    · rw [List.map_cons]
      cases i with
      | zero => simp [garg] at h; subst h; exact List.mem_cons_self
      | succ i =>
        cases i with
        | zero => simp [garg] at h
        | succ i =>
          simp [garg] at h
          have := garg_args G vs (i0 + 2) i v h
          rw [show i0 + (i + 1 + 1) = i0 + 2 + i by omega]
          exact List.mem_cons_of_mem _ this
    · rw [List.map_cons]
      cases i with
      | zero => simp [garg] at h; subst h; exact List.mem_cons_self
      | succ i =>
        simp [garg] at h
        have := garg_args G vs (i0 + 1) i v h
        rw [show i0 + (i + 1) = i0 + 1 + i by omega]
        cases r <;> exact List.mem_cons_of_mem _ this
    · rw [List.map_cons]
      cases i with
      | zero => simp [garg] at h; subst h; exact List.mem_cons_self
      | succ i =>
        simp [garg] at h
        have := garg_args G vs (i0 + 1) i v h
        rw [show i0 + (i + 1) = i0 + 1 + i by omega]
        exact List.mem_cons_of_mem _ this
def gpad (nL : Nat) (l : List (Option gV)) : List (Option gV) := l ++ List.replicate (nL - l.length) none
def grm (n mc ms : Nat) : Room := { frames := n, cells := mc, slots := ms, locals := 60 * n }
def gPc (G : gG) (av : List gV) (M : gMe) : Array Value → State → Prop := fun v U => v = (av.map (gup G)).toArray ∧ va_K G.1 vwCl (gtys G) U ∧ gSt G U ∧ gNs U ∧ gWd G M U.heap
/-- a method's contract: from this world with these arguments it ends as P says -/
def gM (G : gG) (j n mc ms : Nat) (av : List gV) (M : gMe) (P : Option gV → gMe → Prop) : Prop := ∀ l : Launch, Met l (gH j).1 (gcw (gH j) :: gTB) (grm n mc ms) (gPc G av M) (gQ G P) mc ms (gA G)
theorem gM.of {G : gG} (mt : gMt) {n mc ms : Nat} {av : List gV} {M : gMe} {P : Option gV → gMe → Prop} (hok : gOK mt = true) (hpl : plainName (gH mt.1).1.cls = true) (hown : gown (gH mt.1).2.2.2.2 = (gH mt.1).1.cls) (hlen : (garg av).length ≤ (gH mt.1).2.2.1) (k : Go G mt n mc ms 0 (gpad (gH mt.1).2.2.1 (garg av)) [] M P) : gM G mt.1 n mc ms av M P := by
  intro l
  refine Met.ofW (cc := gcc mt.1) (maxL := (gH mt.1).2.2.1) (ret := (gH mt.1).2.2.2.1) hpl rfl ?_
  intro p e s m args below meth c s₁ B hml hv
  obtain ⟨rfl, hK, hSt, hNs, hW⟩ := hv
  have hts := atoms_spec (ws := gcw (gH mt.1) :: gTB) B.pre
  have hl := lv_entry (av.map (gup G)) (n := (gH mt.1).2.2.1) (by rw [garg_len]; exact hlen)
  rw [lg_entry_eq]
  generalize (lg_sl (av.map (gup G)) ++ List.replicate ((gH mt.1).2.2.1 - (lg_sl (av.map (gup G))).length) Slot.unset).toArray = ls at hl ⊢
  have h := k p l e (headSpec (gcw (gH mt.1) :: gTB) (grm n mc ms)).room s m _ below meth c s.heap [] 0 0 ls
    ⟨B.exec, B.bytes, B.returns, hml, by rw [hown]; exact findClass_of_methodNamed B.named, fun w hw => hts w (List.mem_cons_of_mem _ hw), B.notSynchronized, (name_of_methodNamed B.named B.method).1, hK, hSt, hNs, ⟨Nat.le_refl _, Nat.le_refl _⟩, hok⟩
    va_S.rf hW ⟨hl.1, hl.2.1, fun i v hi => ?_⟩ (by show 0 + mc ≤ mc; omega) (by show 0 + ms ≤ ms; omega)
  · rw [Nat.zero_add, Nat.zero_add] at h
    exact h
  · have hi' : (garg av)[i]? = some (some v) := by
      unfold gpad at hi
      by_cases hlt : i < (garg av).length
      · rwa [List.getElem?_append_left hlt] at hi
      · rw [List.getElem?_append_right (by omega), List.getElem?_replicate] at hi
        split at hi <;> simp at hi
    have := garg_args G av 0 i v hi'
    rw [Nat.zero_add] at this
    exact hl.2.2 _ this
def gcats : List gV → Nat
  | [] => 0
  | .inr (.inl _) :: l => 2 + gcats l
  | _ :: l => 1 + gcats l
theorem gcats_sum (G : gG) : ∀ st : List gV, ((st.map (gup G)).map fun v => v.category).sum = gcats st
  | [] => rfl
  | v :: l => by
    rw [List.map_cons, List.map_cons, List.sum_cons, gcats_sum G l]
    rcases v with z | x | r | k
    · rfl
    · rfl
    · cases r <;> rfl
    · rfl
/-- behind a call: the world that came back stands in the caller's frame -/
theorem gS_call {G : gG} {s st₀ t : State} {H : Heap} {locs L : List Loc} (hS : va_S (gA G) s.heap H locs) (h0 : st₀.heap = H) (hF : va_F (gA G) st₀ t) (hL : ∀ q ∈ L, gA G q.base) : va_S (gA G) s.heap t.heap (locs ++ L) := by
  subst h0
  refine ⟨Nat.le_trans hS.1 hF.1, fun q h1 h2 => (hF.2 q (Nat.lt_of_lt_of_le h1 hS.1) h2).trans (hS.2.1 q h1 h2), fun q hq => ?_⟩
  rcases List.mem_append.mp hq with h | h
  · exact hS.2.2 q h
  · exact hL q h
theorem gPre {G : gG} {s : State} {H : Heap} {locs : List Loc} {av : List gV} {M : gMe} (hK : va_K G.1 vwCl (gtys G) s) (hSt : gSt G s) (hNs : gNs s) (hS : va_S (gA G) s.heap H locs) (hW : gWd G M H) : FrameBlind (gPc G av M) ∧ ∀ U : State, U.heap = H → s.WarmedH U.vm → gPc G av M (av.map (gup G)).toArray U := by
  refine ⟨fun a U g mk q => ?_, fun U hU hWm => ⟨rfl, va_K.moved hWm.alike hK, gSt_moved hWm.alike (by rw [hU]; exact hS.1) (fun a h1 h2 => by rw [hU]; exact hS.2.1 a h1 h2) hSt, gNs_moved hWm hNs, by rw [hU]; exact hW⟩⟩
  obtain ⟨q1, q2, q3, q4, q5⟩ := q
  exact ⟨q1, va_K.moved (u := U) (U := U.calling g mk a) (Vm.Alike.refl U.vm) q2, gSt_moved (s := U) (U := U.calling g mk a) (Vm.Alike.refl U.vm) (Nat.le_refl _) (fun _ _ _ => rfl) q3, q4, q5⟩
section GOC
variable {G : gG} {mt : gMt} {n n1 mc ms mc1 ms1 pc nx x y b c N : Nat} {z : Int} {lv : List (Option gV)} {st As : List gV} {M : gMe} {P P1 : Option gV → gMe → Prop}
theorem gH_in {j : Nat} (h : j < gHs.length) : gcw (gH j) ∈ lw_tbl := by
  refine gcw_in _ ?_
  unfold gH
  rw [List.getElem?_eq_getElem h]
  exact List.getElem_mem h
theorem Go.callV (hi : gat mt pc = some (80, z, x, y, nx)) (hn : As.length = y) (hsh : M.1[b]? = some (c, N)) (hc12 : c < 12) (hcls : gR c = (gH x).1.cls) (hd0 : (gH x).1.cls ≠ "java/lang/invoke/MethodHandle" ∧ (gH x).1.cls ≠ "java/lang/invoke/VarHandle") (hml : (gH x).2.2.1 ≤ 40) (hlv : lv.length = (gH mt.1).2.2.1) (hcat : gcats st ≤ 8) (hfr : n1 + 1 ≤ n) (hM : gM G x n1 mc1 ms1 (gr b :: As) M P1)
    (kk : ∀ (r : Option gV) (M1 : gMe), P1 r M1 → Go G mt n mc ms nx lv (r.toList ++ st) M1 P) : Go G mt n (mc1 + mc) (ms1 + ms) pc lv (As.reverse ++ gr b :: st) M P := by
  intro p l e R s m args below meth cd H locs cells slots ls cx hS hW hL hc hs
  have hk := fun r M1 hP1 H1 locs1 hS1 hW1 => kk r M1 hP1 p l e R s m args below meth cd H1 locs1 (cells + mc1) (slots + ms1) ls cx hS1 hW1 hL (by omega) (by omega)
  obtain ⟨hx, hb, -, hmx, hown, hts, -, -, hK, hSt, hNs, ⟨hR1, hR2⟩, hok⟩ := cx
  have ho := gat_ok hok hi
  simp only [gok, Bool.and_eq_true, decide_eq_true_eq, List.any_eq_true] at ho
  obtain ⟨⟨⟨rfl, q, hq, ⟨e1, e2⟩, hd⟩, hxl⟩, hdesc⟩ := ho
  have hw := gVL_ok q hq
  rw [e1, e2] at hw
  obtain ⟨w1, w2, w3, w4⟩ := hw
  have hPre := gPre (av := gr b :: As) hK hSt hNs hS hW
  have hrun := va_runV (C := (gH x).1.cls) (b := gb G + b) (As := As.map (gup G)) (rest := st.map (gup G)) (g := F0 m pc ls ((As.reverse ++ gr b :: st).map (gup G))) (H := H) (locs := locs) (cells := cells) (slots := slots) (below := below) (meth := meth) (e := e) (nL := (gH mt.1).2.2.1)
    ⟨hx, hb, hmx, hown, hts⟩ (hM l) (cwV (R := R) y hts (fun w hw => by
      rcases List.mem_append.mp hw with h | h
      · rcases List.mem_cons.mp h with rfl | h
        · exact ⟨gTB_in w1 rfl, good_of_word rfl⟩
        · rcases List.mem_cons.mp h with rfl | h
          · exact ⟨gTB_in w2 rfl, good_of_word rfl⟩
          · rcases List.mem_cons.mp h with rfl | h
            · exact ⟨gTB_in w3 rfl, good_of_word rfl⟩
            · rcases List.mem_cons.mp h with rfl | h
              · exact ⟨gTB_in w4 rfl, good_of_word rfl⟩
              · cases h
      · exact gTB_good _ (gH_in hxl) w h) rfl rfl rfl ⟨rfl, hd0.1, hd0.2, hdesc⟩ ⟨by show n1 + 1 ≤ _; omega, by show 8 + ((gH x).2.2.1 + 11) + 60 * n1 ≤ _; omega⟩)
    ⟨hPre.1, by rw [← hcls]; exact va_recv hK (gP1 hW hsh) (gcl hc12) (q0 := 0) (by rw [gent_o hc12]; rfl), fun U hU hWm => hPre.2 U hU hWm⟩ rfl (by rw [List.length_map]; exact hn) hL.1 (by simp [gup, va_rf]) (lv_room (by rw [gcats_sum]; exact hcat)) hd ⟨by omega, by omega⟩
  intro T hT X
  obtain ⟨v, st₀, t, T', L, h0, X', hL', e3, e4, ⟨⟨r, M1, hP1, hv, hW1⟩, hF⟩, step⟩ := hrun T hT X
  cases hv
  obtain ⟨t2, a1, b1⟩ := hk r M1 hP1 t.heap (locs ++ L) (gS_call hS h0 hF hL') hW1 T' e3 X'
  refine ⟨t2, step t2 ?_, ?_⟩
  · have : (r.map (gup G)).toList ++ st.map (gup G) = (r.toList ++ st).map (gup G) := by cases r <;> simp
    rw [this]
    exact a1
  · rw [Nat.add_assoc, Nat.add_assoc] at b1
    exact b1
theorem Go.callS (hi : gat mt pc = some (81, z, x, y, nx)) (hn : As.length = y) (hd0 : (gH x).1.cls ≠ "java/lang/invoke/MethodHandle" ∧ (gH x).1.cls ≠ "java/lang/invoke/VarHandle") (hml : (gH x).2.2.1 ≤ 40) (hcat : gcats st ≤ 8) (hfr : n1 + 1 ≤ n) (hM : gM G x n1 mc1 ms1 As M P1)
    (kk : ∀ (r : Option gV) (M1 : gMe), P1 r M1 → Go G mt n mc ms nx lv (r.toList ++ st) M1 P) : Go G mt n (mc1 + mc) (ms1 + ms) pc lv (As.reverse ++ st) M P := by
  intro p l e R s m args below meth cd H locs cells slots ls cx hS hW hL hc hs
  have hk := fun r M1 hP1 H1 locs1 hS1 hW1 => kk r M1 hP1 p l e R s m args below meth cd H1 locs1 (cells + mc1) (slots + ms1) ls cx hS1 hW1 hL (by omega) (by omega)
  obtain ⟨hx, hb, -, hmx, hown, hts, -, -, hK, hSt, hNs, ⟨hR1, hR2⟩, hok⟩ := cx
  have ho := gat_ok hok hi
  simp only [gok, Bool.and_eq_true, decide_eq_true_eq, List.any_eq_true] at ho
  obtain ⟨⟨⟨rfl, q, hq, ⟨e1, e2⟩, hd⟩, hxl⟩, hdesc⟩ := ho
  have hw := gSL_ok q hq
  rw [e1, e2] at hw
  obtain ⟨w1, w2, w3⟩ := hw
  have hPre := gPre (av := As) hK hSt hNs hS hW
  have hrun := va_runS (As := As.map (gup G)) (rest := st.map (gup G)) (g := F0 m pc ls ((As.reverse ++ st).map (gup G))) (H := H) (locs := locs) (cells := cells) (slots := slots) (below := below) (meth := meth) (e := e) (nL := (gH mt.1).2.2.1)
    ⟨hx, hb, hmx, hown, hts⟩ (hM l) (va_cwS (R := R) y hts (fun w hw => by
      rcases List.mem_append.mp hw with h | h
      · rcases List.mem_cons.mp h with rfl | h
        · exact ⟨gTB_in w1 rfl, good_of_word rfl⟩
        · rcases List.mem_cons.mp h with rfl | h
          · exact ⟨gTB_in w2 rfl, good_of_word rfl⟩
          · rcases List.mem_cons.mp h with rfl | h
            · exact ⟨gTB_in w3 rfl, good_of_word rfl⟩
            · cases h
      · exact gTB_good _ (gH_in hxl) w h) rfl rfl rfl ⟨hd0.1, hd0.2, hdesc⟩ ⟨by show n1 + 1 ≤ _; omega, by show 8 + ((gH x).2.2.1 + 11) + 60 * n1 ≤ _; omega⟩)
    ⟨hPre.1, fun U hU hWm => hPre.2 U hU hWm⟩ rfl (by rw [List.length_map]; exact hn) hL.1 (by simp) (lv_room (by rw [gcats_sum]; exact hcat)) hd ⟨by omega, by omega⟩
  intro T hT X
  obtain ⟨v, st₀, t, T', L, h0, X', hL', e3, e4, ⟨⟨r, M1, hP1, hv, hW1⟩, hF⟩, step⟩ := hrun T hT X
  cases hv
  obtain ⟨t2, a1, b1⟩ := hk r M1 hP1 t.heap (locs ++ L) (gS_call hS h0 hF hL') hW1 T' e3 X'
  refine ⟨t2, step t2 ?_, ?_⟩
  · have : (r.map (gup G)).toList ++ st.map (gup G) = (r.toList ++ st).map (gup G) := by cases r <;> simp
    rw [this]
    exact a1
  · rw [Nat.add_assoc, Nat.add_assoc] at b1
    exact b1
end GOC
end
section
/-! ===== constructors, new cells ===== -/
def gzz {α : Type} (f : Nat → Nat → α) (a : Nat) (v : α) : Nat → Nat → α := fun b j => if b < a then f b j else v
theorem gzz_lt {α : Type} {f : Nat → Nat → α} {a b j : Nat} {v : α} (h : b < a) : gzz f a v b j = f b j := if_pos h
theorem gzz_ge {α : Type} {f : Nat → Nat → α} {a b j : Nat} {v : α} (h : ¬ b < a) : gzz f a v b j = v := if_neg h
/-- the world with cells more, all that they hold being nothing -/
def mN (M : gMe) (q : List (Nat × Nat)) : gMe := (M.1 ++ q, gzz M.2.1 M.1.length 0, gzz M.2.2.1 M.1.length 0, gzz M.2.2.2 M.1.length none)
theorem gWd_new {G : gG} {M M' : gMe} {H H1 : Heap} {q : List (Nat × Nat)} (hW : gWd G M H) (h1 : M'.1 = M.1 ++ q) (ho : ∀ b : Nat, b < M.1.length → (∀ j, M'.2.1 b j = M.2.1 b j) ∧ (∀ j, M'.2.2.1 b j = M.2.2.1 b j) ∧ ∀ j, M'.2.2.2 b j = M.2.2.2 b j) (hz : H1.size = gb G + M.1.length + q.length) (oq : ∀ x : Nat, x < gb G + M.1.length → H1[x]? = H[x]?) (hn : ∀ (i : Nat) (r : Nat × Nat), q[i]? = some r → va_at G.1 vwCl (gb G + (M.1.length + i), gent G M' (M.1.length + i) r) H1) : gWd G M' H1 := by
  refine ⟨by rw [h1, hz, List.length_append]; omega, fun _ => by rw [h1, hz, List.length_append]; omega, fun a r ha => ?_⟩
  rw [h1] at ha
  by_cases hlt : a < M.1.length
  · rw [List.getElem?_append_left hlt] at ha
    obtain ⟨o1, o2, o3⟩ := ho a hlt
    rw [gent_cong o1 o2 o3]
    exact (hW.2.2 a r ha).kept (oq _ (by show gb G + a < _; omega))
  · rw [List.getElem?_append_right (by omega)] at ha
    have := hn (a - M.1.length) r ha
    rw [show M.1.length + (a - M.1.length) = a by omega] at this
    exact this
theorem mN_old (M : gMe) (q : List (Nat × Nat)) (b : Nat) (h : b < M.1.length) : (∀ j, (mN M q).2.1 b j = M.2.1 b j) ∧ (∀ j, (mN M q).2.2.1 b j = M.2.2.1 b j) ∧ ∀ j, (mN M q).2.2.2 b j = M.2.2.2 b j := ⟨fun j => gzz_lt h, fun j => gzz_lt h, fun j => gzz_lt h⟩
def gplain : FieldType → Bool
  | .int => true
  | .boolean => true
  | .long => true
  | .object _ => true
  | .array _ => true
  | _ => false
set_option maxRecDepth 100000 in
theorem gplain_all : ∀ c, c < 12 → ∀ k, k < gN c → gplain (gty c k) = true := by decide +kernel
theorem gdef {G : gG} {M : gMe} {a c k : Nat} (hc : c < 12) (hk : k < gN c) (h1 : M.2.1 a k = 0) (h2 : M.2.2.1 a k = 0) (h3 : M.2.2.2 a k = none) : defaultValue (gty c k) = gfv G M a c k := by
  have := gplain_all c hc k hk
  unfold gfv
  rw [h1, h2, h3]
  cases h : gty c k <;> rw [h] at this <;> first | rfl | (cases this)
section GON
variable {G : gG} {mt : gMt} {n n1 mc ms mc1 ms1 pc nx x y b c N : Nat} {z w : Int} {lv : List (Option gV)} {st As : List gV} {M : gMe} {P P1 : Option gV → gMe → Prop}
theorem Go.new (hi : gat mt pc = some (90, z, x, y, nx)) (hsz : G.2.2.2.2.2.2 = true) (kk : Go G mt n mc ms nx lv (gr M.1.length :: st) (mN M [(x, gN x)]) P) : Go G mt n (1 + mc) (gN x + ms) pc lv st M P := by
  intro p l e R s m args below meth cd H locs cells slots ls cx hS hW hL hc hs
  have hk := fun H1 hS1 hW1 => kk p l e R s m args below meth cd H1 locs (cells + 1) (slots + gN x) ls cx hS1 hW1 hL (by omega) (by omega)
  obtain ⟨hx, hb, -, hmx, hown, hts, -, -, hK, hSt, hNs, -, hok⟩ := cx
  have ho := gat_ok hok hi
  simp only [gok, Bool.and_eq_true, decide_eq_true_eq, List.any_eq_true] at ho
  obtain ⟨rfl, q, hq, ⟨⟨e1, e2⟩, e3⟩, hd⟩ := ho
  have hw := gCL_ok q hq
  rw [e1, e2] at hw
  have hKn := hK.1 x _ (gcl e3)
  refine W.newcK hx hb hown (hts _ (gTB_in hw.1 rfl)) (hts _ (gTB_in hw.2.1 rfl)) (hts _ (gTB_in hw.2.2 rfl)) rfl hd (by omega) (by omega) hKn.2.1 (hW.2.1 hsz) fun H1 kC hkC e4 z1 o1 => ?_
  have hh := hk H1 ⟨by have := hS.1; have := hW.2.1 hsz; omega, fun q h1 h2 => (o1 q (by have := hS.1; have := hW.2.1 hsz; omega)).trans (hS.2.1 q h1 h2), hS.2.2⟩ (gWd_new hW rfl (mN_old M _) (by rw [z1]; rfl) (fun q hq => o1 q hq) (fun i r hr => ?_))
  · rw [Nat.add_assoc, Nat.add_assoc] at hh
    exact hh
  · have hi0 : i < 1 := (List.getElem?_eq_some_iff.mp hr).1
    rw [show i = 0 by omega] at hr ⊢
    cases hr
    rw [gent_o e3]
    refine ⟨_, gcl e3, t_OB.to (u_born (gty x) hts (ginA e3) hKn hkC e4 (gtyok e3)) (fun j hj => ?_)⟩
    have hj' : j < gN x := hj
    show defaultValue (gty x j) = vp_V ((List.range (gN x)).map (gfv G (mN M [(x, gN x)]) M.1.length x)) j
    rw [gvpV hj']
    exact gdef e3 hj' (gzz_ge (Nat.lt_irrefl _)) (gzz_ge (Nat.lt_irrefl _)) (gzz_ge (Nat.lt_irrefl _))
theorem Go.newa (hi : gat mt pc = some (91, z, x, y, nx)) (hsz : G.2.2.2.2.2.2 = true) (h0 : 0 ≤ w) (h1 : w ≤ 60000) (kk : Go G mt n mc ms nx lv (gr M.1.length :: st) (mN M [(100 + x, w.toNat)]) P) : Go G mt n (1 + mc) (w.toNat + ms) pc lv (gi w :: st) M P := by
  intro p l e R s m args below meth cd H locs cells slots ls cx hS hW hL hc hs
  have hk := fun H1 hS1 hW1 => kk p l e R s m args below meth cd H1 locs (cells + 1) (slots + w.toNat) ls cx hS1 hW1 hL (by omega) (by omega)
  obtain ⟨hx, hb, -, hmx, hown, hts, -, -, hK, hSt, hNs, -, hok⟩ := cx
  have ho := gat_ok hok hi
  have hr : rng w := ⟨by omega, by omega⟩
  have hn0 : ¬ iI w < 0 := by rw [show (0 : Int32) = iI 0 from rfl, iI_lt hr ⟨by omega, by omega⟩]; omega
  simp only [gok, Bool.and_eq_true, Bool.or_eq_true, decide_eq_true_eq] at ho
  obtain ⟨rfl, ((⟨hd, rfl⟩ | ⟨hd, rfl⟩) | ⟨hd, rfl⟩)⟩ := ho
  · refine va_newaK (atype := .int) (N := w.toNat) hx hb (hts _ (gTB_in gac_int rfl)) rfl hd rfl hn0 (iI_clamp hr) (by show w.toNat * 4 ≤ _; omega) (by omega) (by omega) (hW.2.1 hsz) fun H1 cA e4 z1 o1 hAr hNm => ?_
    have hcA : cA = G.2.1 0 := Option.some.inj (hNm.symm.trans (hK.2 0 _ rfl).2)
    subst hcA
    have hh := hk H1 ⟨by have := hS.1; have := hW.2.1 hsz; omega, fun q h1 h2 => (o1 q (by have := hS.1; have := hW.2.1 hsz; omega)).trans (hS.2.1 q h1 h2), hS.2.2⟩ (gWd_new hW rfl (mN_old M _) (by rw [z1]; rfl) (fun q hq => o1 q hq) (fun i r hr => ?_))
    · rw [Nat.add_assoc, Nat.add_assoc] at hh
      exact hh
    · have hi0 : i < 1 := (List.getElem?_eq_some_iff.mp hr).1
      rw [show i = 0 by omega] at hr ⊢
      cases hr
      show H1[gb G + M.1.length]? = some (vp_cell (G.2.1 0) (w.toNat, .inl (fun j => iI (gzz M.2.1 M.1.length 0 M.1.length j))))
      rw [e4, vp_cell_i]
      congr 2
      funext j
      rw [gzz_ge (Nat.lt_irrefl _)]
      rfl
  · refine va_newaK (atype := .boolean) (N := w.toNat) hx hb (hts _ (gTB_in gac_boolean rfl)) rfl hd rfl hn0 (iI_clamp hr) (by show w.toNat * 1 ≤ _; omega) (by omega) (by omega) (hW.2.1 hsz) fun H1 cA e4 z1 o1 hAr hNm => ?_
    have hcA : cA = G.2.1 1 := Option.some.inj (hNm.symm.trans (hK.2 1 _ rfl).2)
    subst hcA
    have hh := hk H1 ⟨by have := hS.1; have := hW.2.1 hsz; omega, fun q h1 h2 => (o1 q (by have := hS.1; have := hW.2.1 hsz; omega)).trans (hS.2.1 q h1 h2), hS.2.2⟩ (gWd_new hW rfl (mN_old M _) (by rw [z1]; rfl) (fun q hq => o1 q hq) (fun i r hr => ?_))
    · rw [Nat.add_assoc, Nat.add_assoc] at hh
      exact hh
    · have hi0 : i < 1 := (List.getElem?_eq_some_iff.mp hr).1
      rw [show i = 0 by omega] at hr ⊢
      cases hr
      show H1[gb G + M.1.length]? = some (vp_cell (G.2.1 1) (w.toNat, .inl (fun j => iI (gzz M.2.1 M.1.length 0 M.1.length j))))
      rw [e4, vp_cell_i]
      congr 2
      funext j
      rw [gzz_ge (Nat.lt_irrefl _)]
      rfl
  · refine va_newaK (atype := .long) (N := w.toNat) hx hb (hts _ (gTB_in gac_long rfl)) rfl hd rfl hn0 (iI_clamp hr) (by show w.toNat * 8 ≤ _; omega) (by omega) (by omega) (hW.2.1 hsz) fun H1 cA e4 z1 o1 hAr hNm => ?_
    have hcA : cA = G.2.1 2 := Option.some.inj (hNm.symm.trans (hK.2 2 _ rfl).2)
    subst hcA
    have hh := hk H1 ⟨by have := hS.1; have := hW.2.1 hsz; omega, fun q h1 h2 => (o1 q (by have := hS.1; have := hW.2.1 hsz; omega)).trans (hS.2.1 q h1 h2), hS.2.2⟩ (gWd_new hW rfl (mN_old M _) (by rw [z1]; rfl) (fun q hq => o1 q hq) (fun i r hr => ?_))
    · rw [Nat.add_assoc, Nat.add_assoc] at hh
      exact hh
    · have hi0 : i < 1 := (List.getElem?_eq_some_iff.mp hr).1
      rw [show i = 0 by omega] at hr ⊢
      cases hr
      show H1[gb G + M.1.length]? = some (vp_cell (G.2.1 2) (w.toNat, .inr (.inl (gzz M.2.2.1 M.1.length 0 M.1.length))))
      rw [e4, vp_cell_l]
      congr 2
      funext j
      rw [gzz_ge (Nat.lt_irrefl _)]
      rfl
theorem Go.newq (hi : gat mt pc = some (92, z, x, y, nx)) (hsz : G.2.2.2.2.2.2 = true) (h0 : 0 ≤ w) (h1 : w ≤ 60000) (kk : Go G mt n mc ms nx lv (gr M.1.length :: st) (mN M [(100 + x, w.toNat)]) P) : Go G mt n (1 + mc) (w.toNat + ms) pc lv (gi w :: st) M P := by
  intro p l e R s m args below meth cd H locs cells slots ls cx hS hW hL hc hs
  have hk := fun H1 hS1 hW1 => kk p l e R s m args below meth cd H1 locs (cells + 1) (slots + w.toNat) ls cx hS1 hW1 hL (by omega) (by omega)
  obtain ⟨hx, hb, -, hmx, hown, hts, -, -, hK, hSt, hNs, -, hok⟩ := cx
  have ho := gat_ok hok hi
  have hr : rng w := ⟨by omega, by omega⟩
  have hn0 : ¬ iI w < 0 := by rw [show (0 : Int32) = iI 0 from rfl, iI_lt hr ⟨by omega, by omega⟩]; omega
  simp only [gok, Bool.and_eq_true, decide_eq_true_eq, List.any_eq_true] at ho
  obtain ⟨rfl, q, hq, ⟨e1, e2⟩, hd⟩ := ho
  have hw := gQL_ok q hq
  rw [e1, e2] at hw
  obtain ⟨w1, w2, w3⟩ := hw
  have hover : (Cond.arrayOver (.object (gaC x))).before args s = true := by
    rcases (show x = 3 ∨ x = 4 ∨ x = 5 ∨ x = 6 by omega) with rfl | rfl | rfl | rfl
    · exact va_AO.use hNs.2.1
    · exact va_AO.use hNs.2.2.1
    · exact va_AO.use hNs.2.2.2.1
    · exact va_AO.use hNs.2.2.2.2.1
  have hta : (gtys G)[x]? = some (G.2.1 x, .object (gaC x)) := by
    rcases (show x = 3 ∨ x = 4 ∨ x = 5 ∨ x = 6 by omega) with rfl | rfl | rfl | rfl <;> rfl
  refine W.anew hx hb hown (hts _ (gTB_in w1 rfl)) hover rfl hd rfl hn0 (by rw [iI_clamp hr]; omega) (by omega) (by rw [iI_clamp hr]; omega) fun cA kA comp f1 f2 f3 f4 => ?_
  rw [iI_clamp hr]
  obtain ⟨-, -, -, -, -, hnm⟩ := (hK.2 x _ hta).2
  have hcA : cA = G.2.1 x := Option.some.inj (f1.symm.trans hnm)
  subst hcA
  have hHs := hW.2.1 hsz
  have hh := hk (H.push { cls := G.2.1 x, slots := Array.replicate w.toNat .null, vm := .none }) ⟨by rw [Array.size_push]; have := hS.1; omega, fun q h1 h2 => (by rw [Array.getElem?_push, if_neg (by have := hS.1; omega)]; exact hS.2.1 q h1 h2), hS.2.2⟩ (gWd_new hW rfl (mN_old M _) (by rw [Array.size_push, hHs]; rfl) (fun q hq => by rw [Array.getElem?_push, if_neg (by omega)]) (fun i r hr => ?_))
  · rw [Nat.add_assoc, Nat.add_assoc] at hh
    rw [hHs]
    exact hh
  · have hi0 : i < 1 := (List.getElem?_eq_some_iff.mp hr).1
    rw [show i = 0 by omega] at hr ⊢
    cases hr
    have goal : (H.push { cls := G.2.1 x, slots := Array.replicate w.toNat .null, vm := .none })[gb G + M.1.length]? = some (vp_cell (G.2.1 x) (w.toNat, .inr (.inr (.inr (.inr (fun j => (gzz M.2.2.2 M.1.length none M.1.length j).map (fun x => gb G + x))))))) := by
      have hf : (fun j => va_rf ((gzz M.2.2.2 M.1.length none M.1.length j).map (fun x => gb G + x))) = fun _ => Value.null := by
        funext j
        rw [gzz_ge (Nat.lt_irrefl _)]
        rfl
      rw [vp_cell_q, hf, ← arrV_new, ← hHs, Array.getElem?_push_size]
    rcases (show x = 3 ∨ x = 4 ∨ x = 5 ∨ x = 6 by omega) with rfl | rfl | rfl | rfl <;> exact goal
/-- Object's constructor -/
theorem Go.obj (hi : gat mt pc = some (84, z, x, y, nx)) (hn : 1 ≤ n) (hcat : gcats st ≤ 8) (kk : Go G mt n mc ms nx lv st M P) : Go G mt n mc ms pc lv (gr b :: st) M P := by
  intro p l e R s m args below meth cd H locs cells slots ls cx hS hW hL hc hs
  have hk := kk p l e R s m args below meth cd H locs cells slots ls cx hS hW hL hc hs
  obtain ⟨hx, hb, -, hmx, hown, hts, -, -, hK, hSt, hNs, ⟨hR1, hR2⟩, hok⟩ := cx
  have ho := gat_ok hok hi
  simp only [gok, Bool.and_eq_true, decide_eq_true_eq, List.any_eq_true] at ho
  obtain ⟨rfl, q, hq, e1, hd⟩ := ho
  have hw := gOL_ok q hq
  rw [e1] at hw
  exact W.objInit hx hb hown (hts _ (gTB_in hw rfl)) (hts _ (gTB_in gO_inst rfl)) (hts _ (gTB_in gO_code rfl)) rfl (hL.1.trans hmx.symm) (a := gb G + b) (rest := st.map (gup G)) rfl hd (by omega) (by show 2 * 0 + _ + 12 ≤ _; rw [gcats_sum]; omega) hk
theorem Go.callI (hi : gat mt pc = some (82, z, x, y, nx)) (hn : As.length = y) (hd0 : (gH x).1.cls ≠ "java/lang/invoke/MethodHandle" ∧ (gH x).1.cls ≠ "java/lang/invoke/VarHandle") (hml : (gH x).2.2.1 ≤ 40) (hcat : gcats st ≤ 8) (hfr : n1 + 1 ≤ n) (hM : gM G x n1 mc1 ms1 (gr b :: As) M P1)
    (kk : ∀ (r : Option gV) (M1 : gMe), P1 r M1 → Go G mt n mc ms nx lv (r.toList ++ st) M1 P) : Go G mt n (mc1 + mc) (ms1 + ms) pc lv (As.reverse ++ gr b :: st) M P := by
  intro p l e R s m args below meth cd H locs cells slots ls cx hS hW hL hc hs
  have hk := fun r M1 hP1 H1 locs1 hS1 hW1 => kk r M1 hP1 p l e R s m args below meth cd H1 locs1 (cells + mc1) (slots + ms1) ls cx hS1 hW1 hL (by omega) (by omega)
  obtain ⟨hx, hb, -, hmx, hown, hts, -, -, hK, hSt, hNs, ⟨hR1, hR2⟩, hok⟩ := cx
  have ho := gat_ok hok hi
  simp only [gok, Bool.and_eq_true, decide_eq_true_eq, List.any_eq_true] at ho
  obtain ⟨⟨⟨⟨⟨rfl, q, hq, ⟨e1, e2⟩, hd⟩, hxl⟩, hdesc⟩, hini⟩, hret⟩ := ho
  have hw := gIL_ok q hq
  rw [e1, e2] at hw
  obtain ⟨w1, w2, w3⟩ := hw
  have hPre := gPre (av := gr b :: As) hK hSt hNs hS hW
  have hrun := va_runI (b := gb G + b) (As := As.map (gup G)) (rest := st.map (gup G)) (g := F0 m pc ls ((As.reverse ++ gr b :: st).map (gup G))) (H := H) (locs := locs) (cells := cells) (slots := slots) (below := below) (meth := meth) (e := e) (nL := (gH mt.1).2.2.1)
    ⟨hx, hb, hmx, hown, hts⟩ (hM l) (cwI (R := R) y hts (gTB_good _ (gH_in hxl)) (by unfold gcw; rw [hret]) rfl rfl (hts _ (gTB_in w3 rfl)) (hts _ (gTB_in w1 rfl)) (hts _ (gTB_in w2 rfl)) hini ⟨hd0.1, hd0.2, hdesc⟩ ⟨by show n1 + 1 ≤ _; omega, by show 8 + ((gH x).2.2.1 + 11) + 60 * n1 ≤ _; omega⟩)
    ⟨hPre.1, fun U hU hWm => hPre.2 U hU hWm⟩ rfl (by rw [List.length_map]; exact hn) hL.1 (by simp [gup, va_rf]) (lv_room (by rw [gcats_sum]; exact hcat)) hd ⟨by omega, by omega⟩
  intro T hT X
  obtain ⟨v, st₀, t, T', L, h0, X', hL', e3, e4, ⟨⟨r, M1, hP1, hv, hW1⟩, hF⟩, step⟩ := hrun T hT X
  cases hv
  obtain ⟨t2, a1, b1⟩ := hk r M1 hP1 t.heap (locs ++ L) (gS_call hS h0 hF hL') hW1 T' e3 X'
  refine ⟨t2, step t2 ?_, ?_⟩
  · have : (r.map (gup G)).toList ++ st.map (gup G) = (r.toList ++ st).map (gup G) := by cases r <;> simp
    rw [this]
    exact a1
  · rw [Nat.add_assoc, Nat.add_assoc] at b1
    exact b1
theorem Go.callN (hi : gat mt pc = some (83, z, x, y, nx)) (hn : As.length = y) (hd0 : (gH x).1.cls ≠ "java/lang/invoke/MethodHandle" ∧ (gH x).1.cls ≠ "java/lang/invoke/VarHandle") (hml : (gH x).2.2.1 ≤ 40) (hcat : gcats st ≤ 8) (hfr : n1 + 1 ≤ n) (hM : gM G x n1 mc1 ms1 (gr b :: As) M P1)
    (kk : ∀ (r : Option gV) (M1 : gMe), P1 r M1 → Go G mt n mc ms nx lv (r.toList ++ st) M1 P) : Go G mt n (mc1 + mc) (ms1 + ms) pc lv (As.reverse ++ gr b :: st) M P := by
  intro p l e R s m args below meth cd H locs cells slots ls cx hS hW hL hc hs
  have hk := fun r M1 hP1 H1 locs1 hS1 hW1 => kk r M1 hP1 p l e R s m args below meth cd H1 locs1 (cells + mc1) (slots + ms1) ls cx hS1 hW1 hL (by omega) (by omega)
  obtain ⟨hx, hb, -, hmx, hown, hts, -, -, hK, hSt, hNs, ⟨hR1, hR2⟩, hok⟩ := cx
  have ho := gat_ok hok hi
  simp only [gok, Bool.and_eq_true, decide_eq_true_eq, List.any_eq_true] at ho
  obtain ⟨⟨⟨⟨⟨rfl, q, hq, ⟨e1, e2⟩, hd⟩, hxl⟩, hdesc⟩, hini⟩, hret⟩ := ho
  have hw := gNL_ok q hq
  have hnl := hNs.1 q hq
  rw [e1, e2] at hw hnl
  obtain ⟨w1, w2, w3⟩ := hw
  have hPre := gPre (av := gr b :: As) hK hSt hNs hS hW
  have hrun := va_runIN (b := gb G + b) (As := As.map (gup G)) (rest := st.map (gup G)) (g := F0 m pc ls ((As.reverse ++ gr b :: st).map (gup G))) (H := H) (locs := locs) (cells := cells) (slots := slots) (below := below) (meth := meth) (e := e) (nL := (gH mt.1).2.2.1)
    ⟨hx, hb, hmx, hown, hts⟩ (hM l) ⟨va_cnB (R := R) (ret := none) y hts (gTB_good _ (gH_in hxl)) (by unfold gcw; rw [hret]) rfl rfl hnl (hts _ (gTB_in w3 rfl)) ⟨hd0.1, hd0.2, hdesc⟩ ⟨by show n1 + 1 ≤ _; omega, by show 8 + ((gH x).2.2.1 + 11) + 60 * n1 ≤ _; omega⟩, hini, hts _ (gTB_in w2 rfl)⟩
    ⟨hPre.1, fun U hU hWm => hPre.2 U hU hWm⟩ rfl (by rw [List.length_map]; exact hn) hL.1 (by simp [gup, va_rf]) (lv_room (by rw [gcats_sum]; exact hcat)) hd ⟨by omega, by omega⟩
  intro T hT X
  obtain ⟨v, st₀, t, T', L, h0, X', hL', e3, e4, ⟨⟨r, M1, hP1, hv, hW1⟩, hF⟩, step⟩ := hrun T hT X
  cases hv
  obtain ⟨t2, a1, b1⟩ := hk r M1 hP1 t.heap (locs ++ L) (gS_call hS h0 hF hL') hW1 T' e3 X'
  refine ⟨t2, step t2 ?_, ?_⟩
  · have : (r.map (gup G)).toList ++ st.map (gup G) = (r.toList ++ st).map (gup G) := by cases r <;> simp
    rw [this]
    exact a1
  · rw [Nat.add_assoc, Nat.add_assoc] at b1
    exact b1
end GON
end
section
/-! ===== System.arraycopy of ints; new int[n][k] ===== -/
/-- the world behind a copy of n ints from a at sp to b at dp -/
def mC (M : gMe) (a sp b dp n : Nat) : gMe := (M.1, fun c j => if c = b then (if dp ≤ j ∧ j < dp + n then M.2.1 a (sp + (j - dp)) else M.2.1 c j) else M.2.1 c j, M.2.2.1, M.2.2.2)
section GOK
variable {G : gG} {mt : gMt} {n mc ms pc nx x y a b K N N1 : Nat} {z u v w : Int} {lv : List (Option gV)} {st : List gV} {M : gMe} {P : Option gV → gMe → Prop}
theorem Go.copy (hi : gat mt pc = some (85, z, x, y, nx)) (hn : 1 ≤ n) (hcat : gcats st ≤ 8) (ha : M.1[a]? = some (100, N)) (hb : M.1[b]? = some (100, N1)) (hN : N < 2147483648) (hN1 : N1 < 2147483648) (h0 : 0 ≤ u) (h1 : 0 ≤ v) (h2 : 0 ≤ w) (h3 : u + w ≤ N) (h4 : v + w ≤ N1) (kk : Go G mt n mc ms nx lv st (mC M a u.toNat b v.toNat w.toNat) P) : Go G mt n mc ms pc lv (gi w :: gi v :: gr b :: gi u :: gr a :: st) M P := by
  intro p l e R s m args below meth cd H locs cells slots ls cx hS hW hL hc hs
  have hk := fun H1 locs1 hS1 hW1 => kk p l e R s m args below meth cd H1 locs1 cells slots ls cx hS1 hW1 hL hc hs
  obtain ⟨hx, hbc, -, hmx, hown, hts, -, -, hK, hSt, hNs, ⟨hR1, hR2⟩, hok⟩ := cx
  have ho := gat_ok hok hi
  simp only [gok, Bool.and_eq_true, decide_eq_true_eq, List.any_eq_true] at ho
  obtain ⟨rfl, q, hq, e1, hd⟩ := ho
  have hw := gAL_ok q hq
  rw [e1] at hw
  have ru : rng u := ⟨by omega, by omega⟩
  have rv : rng v := ⟨by omega, by omega⟩
  have rw' : rng w := ⟨by omega, by omega⟩
  have r0 : rng 0 := ⟨by omega, by omega⟩
  have neg : ∀ {t : Int}, rng t → 0 ≤ t → ¬ iI t < 0 := fun {t} hr ht h => by rw [show (0 : Int32) = iI 0 from rfl, iI_lt hr r0] at h; omega
  have hc0 : H[gb G + a]? = some (vp_cell (G.2.1 0) (N, .inl (fun j => iI (M.2.1 a j)))) := hW.2.2 a _ ha
  have hc1 : H[gb G + b]? = some (vp_cell (G.2.1 0) (N1, .inl (fun j => iI (M.2.1 b j)))) := hW.2.2 b _ hb
  obtain ⟨-, k0, hk0, cm0, hkk0⟩ := (hK.2 0 _ rfl).1 N (fun j => .int (iI (M.2.1 a j)))
  obtain ⟨-, k1, hk1, cm1, hkk1⟩ := (hK.2 0 _ rfl).1 N1 (fun j => .int (iI (M.2.1 b j)))
  intro T hT X
  obtain ⟨vm', X', step⟩ := X.arraycopy hx hown (hts _ (gTB_in hw rfl)) (hts _ (gTB_in gA_nat rfl)) (hts _ (gTB_in gA_stat rfl)) (hts _ (gTB_in gA_ini rfl)) (src := gb G + a) (dst := gb G + b) (cs := vp_cell (G.2.1 0) (N, .inl (fun j => iI (M.2.1 a j)))) (cd := vp_cell (G.2.1 0) (N1, .inl (fun j => iI (M.2.1 b j)))) (srcPos := iI u) (destPos := iI v) (n := iI w) (by rw [hT]; exact hc0) (by rw [hT]; exact hc1)
    (fun _ h => by cases h) (fun _ h => by cases h) (fun h => by cases h) (fun h => by cases h) hk0 hk1 hkk0 hkk1 (by simp [show refKind FieldType.int = false from rfl]) (neg ru h0) (neg rv h1) (neg rw' h2)
    (by rw [iI_toInt ru, iI_toInt rw']; show ¬ _ > ((arrV (G.2.1 0) N (fun j => .int (iI (M.2.1 a j)))).slots.size : Int); rw [arrV_size]; omega)
    (by rw [iI_toInt rv, iI_toInt rw']; show ¬ _ > ((arrV (G.2.1 0) N1 (fun j => .int (iI (M.2.1 b j)))).slots.size : Int); rw [arrV_size]; omega)
    (fun vm₁ _ i hi => by
      rw [iI_clamp rw'] at hi
      have e : (vp_cell (G.2.1 0) (N, .inl (fun j => iI (M.2.1 a j)))).slots.getD ((iI u).toNatClampNeg + i) .null = .int (iI (M.2.1 a ((iI u).toNatClampNeg + i))) := by
        show (arrV (G.2.1 0) N (fun j => .int (iI (M.2.1 a j)))).slots.getD _ _ = _
        rw [Array.getD_eq_getD_getElem?, arrV_read _ _ (by rw [iI_clamp ru]; omega)]
        rfl
      refine ⟨?_, ?_⟩
      · rw [e]
        rfl
      · rw [e]
        exact trivial)
    (g := F0 m pc ls ((gi w :: gi v :: gr b :: gi u :: gr a :: st).map (gup G))) rfl (by rw [hmx]; exact hL.1) (rest := st.map (gup G)) rfl (by rw [hbc]; exact hd) (by omega) (by
      show 2 * 0 + _ + _ ≤ _
      rw [gcats_sum]
      have : nativeFrameWords "java/lang/System" "arraycopy" 5 + 11 ≤ 40 := by decide +kernel
      omega)
  have e2 : copied (vp_cell (G.2.1 0) (N, .inl (fun j => iI (M.2.1 a j)))) (vp_cell (G.2.1 0) (N1, .inl (fun j => iI (M.2.1 b j)))) (iI u) (iI v) (iI w) = vp_cell (G.2.1 0) (N1, .inl (va_cpy (fun j => iI (M.2.1 a j)) (fun j => iI (M.2.1 b j)) (iI u).toNatClampNeg (iI v).toNatClampNeg (iI w).toNatClampNeg)) := va_copied (fun z => .int z) (G.2.1 0) (G.2.1 0) (fun j => iI (M.2.1 a j)) (fun j => iI (M.2.1 b j)) (by rw [iI_clamp ru, iI_clamp rw']; omega)
  rw [e2, iI_clamp ru, iI_clamp rv, iI_clamp rw'] at X' step
  have hl : gb G + b < H.size := (Array.getElem?_eq_some_iff.mp hc1).1
  generalize hcell : vp_cell (G.2.1 0) (N1, .inl (va_cpy (fun j => iI (M.2.1 a j)) (fun j => iI (M.2.1 b j)) u.toNat v.toNat w.toNat)) = cell at X' step
  have hheap : ((T.setVm vm').setCell (gb G + b) cell).heap = H.setIfInBounds (gb G + b) cell := by rw [← hT]; rfl
  have z1 : (H.setIfInBounds (gb G + b) cell).size = H.size := by simp
  have oq : ∀ q : Nat, q ≠ gb G + b → (H.setIfInBounds (gb G + b) cell)[q]? = H[q]? := fun q hq => by simp [Array.getElem?_setIfInBounds, Ne.symm hq]
  have hS1 : ∀ L : List Loc, (∀ q ∈ L, q.base = gb G + b) → va_S (gA G) s.heap (H.setIfInBounds (gb G + b) cell) (locs ++ L) := fun L hL => ⟨by rw [z1]; exact hS.1, fun q g1 g2 => by
      rw [oq q (fun e => g2 (by rw [e]; exact Nat.le_add_right _ _))]
      exact hS.2.1 q g1 g2, fun q hq => by
      rcases List.mem_append.mp hq with h | h
      · exact hS.2.2 q h
      · rw [hL q h]; exact Nat.le_add_right _ _⟩
  obtain ⟨t, a1, b1⟩ := hk (H.setIfInBounds (gb G + b) cell) _ (hS1 _ (fun q hq => by
      obtain ⟨z, -, hz⟩ := List.mem_map.mp hq
      rw [← hz])) (gWd_put hW rfl z1 oq (fun c q _ hb => gent_cong (fun j => if_neg hb) (fun j => rfl) (fun j => rfl)) (fun q hq => by
      rw [hb] at hq
      cases hq
      show (H.setIfInBounds (gb G + b) cell)[gb G + b]? = some (vp_cell (G.2.1 0) (N1, .inl (fun j => iI (if b = b then (if v.toNat ≤ j ∧ j < v.toNat + w.toNat then M.2.1 a (u.toNat + (j - v.toNat)) else M.2.1 b j) else M.2.1 b j))))
      rw [← hcell]
      simp only [Array.getElem?_setIfInBounds, hl, if_true]
      congr 4
      funext j
      unfold va_cpy
      split <;> rfl)) _ hheap X'
  exact ⟨t, step t a1, b1⟩
/-- new int[n][k]: the outer row first, then the inner ones -/
def mNN (M : gMe) (N K : Nat) : gMe := (M.1 ++ ((107, N) :: List.replicate N (100, K)), gzz M.2.1 M.1.length 0, gzz M.2.2.1 M.1.length 0, fun b j => if b = M.1.length ∧ j < N then some (M.1.length + 1 + j) else gzz M.2.2.2 M.1.length none b j)
theorem g_outer (c : ClassId) (N h0 : Nat) : ∀ i : Nat, Jvm.Free.Multi.outerC c N h0 i = arrV c N (fun j => va_rf (if j < i then some (h0 + 1 + j) else none))
  | 0 => by
    show ({ cls := c, slots := Array.replicate N .null, vm := .none } : Cell) = _
    rw [arrV_new]
    refine congrArg (arrV c N) (funext fun j => ?_)
    simp [va_rf]
  | i + 1 => by
    show (Jvm.Free.Multi.outerC c N h0 i).setSlot i (.ref (h0 + 1 + i)) = _
    rw [g_outer c N h0 i, arrV_store]
    refine congrArg (arrV c N) (funext fun j => ?_)
    by_cases e : j = i
    · subst e
      simp [updV, va_rf]
    · by_cases h : j < i
      · simp [updV, e, h, Nat.lt_succ_of_lt h]
      · simp [updV, e, h, show ¬ j < i + 1 by omega]
theorem Go.mna (hi : gat mt pc = some (93, z, x, y, nx)) (hsz : G.2.2.2.2.2.2 = true) (h0 : 0 ≤ u) (h1 : u ≤ 1000) (h2 : 0 ≤ v) (h3 : v ≤ 1000) (hu : u.toNat = N) (hv : v.toNat = K) (kk : Go G mt n mc ms nx lv (gr M.1.length :: st) (mNN M N K) P) : Go G mt n (1 + N + mc) (N + N * K + ms) pc lv (gi v :: gi u :: st) M P := by
  subst hu
  subst hv
  intro p l e R s m args below meth cd H locs cells slots ls cx hS hW hL hc hs
  have hk := fun H1 hS1 hW1 => kk p l e R s m args below meth cd H1 locs (cells + 1 + u.toNat) (slots + u.toNat + u.toNat * v.toNat) ls cx hS1 hW1 hL (by omega) (by omega)
  obtain ⟨hx, hb, -, hmx, hown, hts, -, -, hK, hSt, hNs, -, hok⟩ := cx
  have ho := gat_ok hok hi
  simp only [gok, Bool.and_eq_true, decide_eq_true_eq] at ho
  obtain ⟨⟨rfl, e1⟩, hd⟩ := ho
  rw [e1] at hown
  have ru : rng u := ⟨by omega, by omega⟩
  have rv : rng v := ⟨by omega, by omega⟩
  have r0 : rng 0 := ⟨by omega, by omega⟩
  have neg : ∀ {t : Int}, rng t → 0 ≤ t → ¬ iI t < 0 := fun {t} hr ht h => by rw [show (0 : Int32) = iI 0 from rfl, iI_lt hr r0] at h; omega
  have hHs := hW.2.1 hsz
  have hmul : u.toNat * v.toNat ≤ 1000000 := Nat.mul_le_mul (show u.toNat ≤ 1000 by omega) (show v.toNat ≤ 1000 by omega)
  intro T hT Xs
  obtain ⟨vm₁, cA, comp, -, fA, fC, hO, -, X', step⟩ := Xs.multianewarray2F (own := gown 5) (index := gix_MN) (ty := .int) hx hown (hts _ (gTB_in gMN rfl)) hNs.2.2.2.2.2 (hts _ (gTB_in gac_int rfl)) (g := F0 m pc ls ((gi v :: gi u :: st).map (gup G))) rfl (by rw [hb]; exact hd) (n := iI u) (k := iI v) (rest := st.map (gup G)) rfl (neg ru h0) (neg rv h2) (by rw [iI_clamp ru]; omega) (by rw [iI_clamp rv]; show v.toNat * 4 ≤ _; omega) (by rw [iI_clamp rv]; omega) rfl rfl (by rw [iI_clamp ru]; omega) (by rw [iI_clamp ru, iI_clamp rv]; omega)
  rw [iI_clamp ru, iI_clamp rv] at X' step
  have hcA : cA = G.2.1 7 := Option.some.inj (fA.symm.trans (hK.2 7 _ rfl).2)
  subst hcA
  have hcC : comp = G.2.1 0 := Option.some.inj (fC.symm.trans (hK.2 0 _ rfl).2)
  subst hcC
  generalize hF : Jvm.Free.Multi.fill (T.setVm vm₁) (G.2.1 7) (G.2.1 0) u.toNat v.toNat (defaultValue .int) u.toNat = F at X' step
  have hTh : (T.setVm vm₁).heap = H := hT
  obtain ⟨f1, f2, -, -⟩ := Jvm.Free.Multi.fill_facts (T.setVm vm₁) (G.2.1 7) (G.2.1 0) u.toNat v.toNat (defaultValue .int) u.toNat
  rw [hF, hTh] at f1 f2
  have hold : ∀ x : Nat, x < H.size → F.heap[x]? = H[x]? := fun x hx => by
    have := Jvm.Free.Multi.fill_old (T.setVm vm₁) (G.2.1 7) (G.2.1 0) u.toNat v.toNat (defaultValue .int) (a := x) (by rw [hTh]; exact hx) u.toNat
    rw [hF, hTh] at this
    exact this
  have hrow : ∀ j : Nat, j < u.toNat → F.heap[H.size + 1 + j]? = some (Jvm.Free.Multi.innerC (G.2.1 0) v.toNat (defaultValue .int)) := fun j hj => by
    have := Jvm.Free.Multi.fill_inner (T.setVm vm₁) (G.2.1 7) (G.2.1 0) u.toNat v.toNat (defaultValue .int) u.toNat j hj
    rw [hF, hTh] at this
    exact this
  have hin : Jvm.Free.Multi.innerC (G.2.1 0) v.toNat (defaultValue .int) = arrV (G.2.1 0) v.toNat (fun _ => .int 0) := by
    show ({ cls := G.2.1 0, slots := Array.replicate v.toNat (.int 0), vm := .none } : Cell) = _
    rw [arrV_new]
  have hh := hk F.heap ⟨by rw [f1]; have := hS.1; omega, fun q h1 h2 => (hold q (Nat.lt_of_lt_of_le h1 hS.1)).trans (hS.2.1 q h1 h2), hS.2.2⟩ (gWd_new (q := (107, u.toNat) :: List.replicate u.toNat (100, v.toNat)) hW rfl (fun b hb => ⟨fun j => gzz_lt hb, fun j => gzz_lt hb, fun j => ?_⟩) (by rw [f1, hHs, List.length_cons, List.length_replicate]; omega) (fun q hq => hold q (by omega)) (fun i r hr => ?_))
  · obtain ⟨t, a1, b1⟩ := hh F rfl X'
    refine ⟨t, step t ?_, ?_⟩
    · have e9 : T.heap.size = gb G + M.1.length := by rw [hT, hHs]
      rw [e9]
      exact a1
    · rw [show cells + 1 + u.toNat + mc = cells + (1 + u.toNat + mc) by omega, show slots + u.toNat + u.toNat * v.toNat + ms = slots + (u.toNat + u.toNat * v.toNat + ms) by omega] at b1
      exact b1
  · show (if b = M.1.length ∧ j < u.toNat then some (M.1.length + 1 + j) else gzz M.2.2.2 M.1.length none b j) = M.2.2.2 b j
    rw [if_neg (by omega)]
    exact gzz_lt hb
  · cases i with
    | zero =>
      cases hr
      show F.heap[gb G + M.1.length]? = some (vp_cell (G.2.1 7) (u.toNat, .inr (.inr (.inr (.inr (fun j => (if M.1.length = M.1.length ∧ j < u.toNat then some (M.1.length + 1 + j) else gzz M.2.2.2 M.1.length none M.1.length j).map (fun x => gb G + x)))))))
      rw [← hHs, f2, g_outer, vp_cell_q]
      congr 2
      funext j
      by_cases hj : j < u.toNat
      · rw [if_pos hj, if_pos ⟨rfl, hj⟩]
        show Value.ref (H.size + 1 + j) = Value.ref (gb G + (M.1.length + 1 + j))
        rw [show H.size + 1 + j = gb G + (M.1.length + 1 + j) by omega]
      · rw [if_neg hj, if_neg (fun q => hj q.2), gzz_ge (Nat.lt_irrefl _)]
        rfl
    | succ i =>
      rw [List.getElem?_cons_succ, List.getElem?_replicate] at hr
      split at hr
      · rename_i hlt
        cases hr
        show F.heap[gb G + (M.1.length + (i + 1))]? = some (vp_cell (G.2.1 0) (v.toNat, .inl (fun j => iI (gzz M.2.1 M.1.length 0 (M.1.length + (i + 1)) j))))
        rw [show gb G + (M.1.length + (i + 1)) = H.size + 1 + i by omega, hrow i hlt, hin, vp_cell_i]
        congr 2
        funext j
        rw [gzz_ge (by omega)]
        rfl
      · cases hr
end GOK
end
section
/-! ===== the steps that ask nothing, as a function ===== -/
abbrev gCf : Type := Nat × List (Option gV) × List gV × gMe × Nat × Nat
def rngB (z : Int) : Bool := decide (-2147483648 ≤ z) && decide (z < 2147483648)
def gs1_0 (mt : gMt) (sz : Bool) (lv : List (Option gV)) (st : List gV) (M : gMe) (z : Int) (x y nx : Nat) : Option gCf := some (nx, lv, gi z :: st, M, 0, 0)
def gs1_1 (mt : gMt) (sz : Bool) (lv : List (Option gV)) (st : List gV) (M : gMe) (z : Int) (x y nx : Nat) : Option gCf := some (nx, lv, gl (Int64.ofInt z) :: st, M, 0, 0)
def gs1_2 (mt : gMt) (sz : Bool) (lv : List (Option gV)) (st : List gV) (M : gMe) (z : Int) (x y nx : Nat) : Option gCf := (match lv[x]? with | some (some v) => if gkd v = some y then some (nx, lv, v :: st, M, 0, 0) else none | _ => none)
def gs1_3 (mt : gMt) (sz : Bool) (lv : List (Option gV)) (st : List gV) (M : gMe) (z : Int) (x y nx : Nat) : Option gCf := (match st with | v :: st => if gkd v = some y ∧ x < (gH mt.1).2.2.1 then some (nx, gset lv x v, st, M, 0, 0) else none | _ => none)
def gs1_4 (mt : gMt) (sz : Bool) (lv : List (Option gV)) (st : List gV) (M : gMe) (z : Int) (x y nx : Nat) : Option gCf := (match st with | .inr (.inl w) :: st => if x + 1 < (gH mt.1).2.2.1 then some (nx, gclr (gset lv x (gl w)) (x + 1), st, M, 0, 0) else none | _ => none)
def gs1_5 (mt : gMt) (sz : Bool) (lv : List (Option gV)) (st : List gV) (M : gMe) (z : Int) (x y nx : Nat) : Option gCf := (match lv[x]? with | some (some (.inl w)) => if x < (gH mt.1).2.2.1 then some (nx, gset lv x (gi (w + z)), st, M, 0, 0) else none | _ => none)
def gs1_6 (mt : gMt) (sz : Bool) (lv : List (Option gV)) (st : List gV) (M : gMe) (z : Int) (x y nx : Nat) : Option gCf := (match st with | v :: st => if gkd v = some 1 then none else some (nx, lv, v :: v :: st, M, 0, 0) | _ => none)
def gs1_7 (mt : gMt) (sz : Bool) (lv : List (Option gV)) (st : List gV) (M : gMe) (z : Int) (x y nx : Nat) : Option gCf := (match st with | v :: w :: st => if gkd v = some 1 ∨ gkd w = some 1 then none else some (nx, lv, v :: w :: v :: w :: st, M, 0, 0) | _ => none)
def gs1_8 (mt : gMt) (sz : Bool) (lv : List (Option gV)) (st : List gV) (M : gMe) (z : Int) (x y nx : Nat) : Option gCf := (match st with | v :: st => if gkd v = some 1 then none else some (nx, lv, st, M, 0, 0) | _ => none)
def gs1_10 (mt : gMt) (sz : Bool) (lv : List (Option gV)) (st : List gV) (M : gMe) (z : Int) (x y nx : Nat) : Option gCf := (match st with | .inl b :: .inl a :: st => some (nx, lv, gi (a + b) :: st, M, 0, 0) | _ => none)
def gs1_11 (mt : gMt) (sz : Bool) (lv : List (Option gV)) (st : List gV) (M : gMe) (z : Int) (x y nx : Nat) : Option gCf := (match st with | .inl b :: .inl a :: st => some (nx, lv, gi (a - b) :: st, M, 0, 0) | _ => none)
def gs1_12 (mt : gMt) (sz : Bool) (lv : List (Option gV)) (st : List gV) (M : gMe) (z : Int) (x y nx : Nat) : Option gCf := (match st with | .inl b :: .inl a :: st => some (nx, lv, gi (a * b) :: st, M, 0, 0) | _ => none)
def gs1_13 (mt : gMt) (sz : Bool) (lv : List (Option gV)) (st : List gV) (M : gMe) (z : Int) (x y nx : Nat) : Option gCf := (match st with | .inl a :: st => some (nx, lv, gi (-a) :: st, M, 0, 0) | _ => none)
def gs1_16 (mt : gMt) (sz : Bool) (lv : List (Option gV)) (st : List gV) (M : gMe) (z : Int) (x y nx : Nat) : Option gCf := (match st with | .inl b :: .inl a :: st => some (nx, lv, gi (iI a &&& iI b).toInt :: st, M, 0, 0) | _ => none)
def gs1_17 (mt : gMt) (sz : Bool) (lv : List (Option gV)) (st : List gV) (M : gMe) (z : Int) (x y nx : Nat) : Option gCf := (match st with | .inl b :: .inl a :: st => some (nx, lv, gi (iI a ||| iI b).toInt :: st, M, 0, 0) | _ => none)
def gs1_18 (mt : gMt) (sz : Bool) (lv : List (Option gV)) (st : List gV) (M : gMe) (z : Int) (x y nx : Nat) : Option gCf := (match st with | .inl b :: .inl a :: st => some (nx, lv, gi (iI a ^^^ iI b).toInt :: st, M, 0, 0) | _ => none)
def gs1_19 (mt : gMt) (sz : Bool) (lv : List (Option gV)) (st : List gV) (M : gMe) (z : Int) (x y nx : Nat) : Option gCf := (match st with | .inl b :: .inl a :: st => some (nx, lv, gi (iI a <<< (iI b &&& 31)).toInt :: st, M, 0, 0) | _ => none)
def gs1_20 (mt : gMt) (sz : Bool) (lv : List (Option gV)) (st : List gV) (M : gMe) (z : Int) (x y nx : Nat) : Option gCf := (match st with | .inl b :: .inl a :: st => some (nx, lv, gi (iI a >>> (iI b &&& 31)).toInt :: st, M, 0, 0) | _ => none)
def gs1_21 (mt : gMt) (sz : Bool) (lv : List (Option gV)) (st : List gV) (M : gMe) (z : Int) (x y nx : Nat) : Option gCf := (match st with | .inl b :: .inl a :: st => some (nx, lv, gi ((iI a).toUInt32 >>> ((iI b).toUInt32 &&& Int32.toUInt32 31)).toInt32.toInt :: st, M, 0, 0) | _ => none)
def gs1_22 (mt : gMt) (sz : Bool) (lv : List (Option gV)) (st : List gV) (M : gMe) (z : Int) (x y nx : Nat) : Option gCf := (match st with | .inl a :: st => some (nx, lv, gl (iI a).toInt64 :: st, M, 0, 0) | _ => none)
def gs1_23 (mt : gMt) (sz : Bool) (lv : List (Option gV)) (st : List gV) (M : gMe) (z : Int) (x y nx : Nat) : Option gCf := (match st with | .inl a :: st => some (nx, lv, gi (iI a).toInt8.toInt32.toInt :: st, M, 0, 0) | _ => none)
def gs1_24 (mt : gMt) (sz : Bool) (lv : List (Option gV)) (st : List gV) (M : gMe) (z : Int) (x y nx : Nat) : Option gCf := (match st with | .inl a :: st => some (nx, lv, gi (iI a).toInt16.toInt32.toInt :: st, M, 0, 0) | _ => none)
def gs1_30 (mt : gMt) (sz : Bool) (lv : List (Option gV)) (st : List gV) (M : gMe) (z : Int) (x y nx : Nat) : Option gCf := (match st with | .inr (.inl b) :: .inr (.inl a) :: st => some (nx, lv, gl (a + b) :: st, M, 0, 0) | _ => none)
def gs1_31 (mt : gMt) (sz : Bool) (lv : List (Option gV)) (st : List gV) (M : gMe) (z : Int) (x y nx : Nat) : Option gCf := (match st with | .inr (.inl b) :: .inr (.inl a) :: st => some (nx, lv, gl (a - b) :: st, M, 0, 0) | _ => none)
def gs1_32 (mt : gMt) (sz : Bool) (lv : List (Option gV)) (st : List gV) (M : gMe) (z : Int) (x y nx : Nat) : Option gCf := (match st with | .inr (.inl b) :: .inr (.inl a) :: st => some (nx, lv, gl (a &&& b) :: st, M, 0, 0) | _ => none)
def gs1_33 (mt : gMt) (sz : Bool) (lv : List (Option gV)) (st : List gV) (M : gMe) (z : Int) (x y nx : Nat) : Option gCf := (match st with | .inr (.inl b) :: .inr (.inl a) :: st => some (nx, lv, gl (a ||| b) :: st, M, 0, 0) | _ => none)
def gs1_34 (mt : gMt) (sz : Bool) (lv : List (Option gV)) (st : List gV) (M : gMe) (z : Int) (x y nx : Nat) : Option gCf := (match st with | .inr (.inl b) :: .inr (.inl a) :: st => some (nx, lv, gl (a ^^^ b) :: st, M, 0, 0) | _ => none)
def gs1_35 (mt : gMt) (sz : Bool) (lv : List (Option gV)) (st : List gV) (M : gMe) (z : Int) (x y nx : Nat) : Option gCf := (match st with | .inl b :: .inr (.inl a) :: st => some (nx, lv, gl (a <<< ((iI b).toInt64 &&& 63)) :: st, M, 0, 0) | _ => none)
def gs1_36 (mt : gMt) (sz : Bool) (lv : List (Option gV)) (st : List gV) (M : gMe) (z : Int) (x y nx : Nat) : Option gCf := (match st with | .inl b :: .inr (.inl a) :: st => some (nx, lv, gl (a.toUInt64 >>> ((iI b).toInt64.toUInt64 &&& Int64.toUInt64 63)).toInt64 :: st, M, 0, 0) | _ => none)
def gs1_37 (mt : gMt) (sz : Bool) (lv : List (Option gV)) (st : List gV) (M : gMe) (z : Int) (x y nx : Nat) : Option gCf := (match st with | .inr (.inl b) :: .inr (.inl a) :: st => some (nx, lv, gi (lg_cmp a b).toInt :: st, M, 0, 0) | _ => none)
def gs1_38 (mt : gMt) (sz : Bool) (lv : List (Option gV)) (st : List gV) (M : gMe) (z : Int) (x y nx : Nat) : Option gCf := (match st with | .inr (.inl a) :: st => some (nx, lv, gi a.toInt32.toInt :: st, M, 0, 0) | _ => none)
def gs1_40 (mt : gMt) (sz : Bool) (lv : List (Option gV)) (st : List gV) (M : gMe) (z : Int) (x y nx : Nat) : Option gCf := (match st with | .inr (.inr (.inl (some a))) :: st => (match M.1[a]? with | some (c, N) => if c = x then some (nx, lv, gfld M a x y :: st, M, 0, 0) else none | none => none) | _ => none)
def gs1_41 (mt : gMt) (sz : Bool) (lv : List (Option gV)) (st : List gV) (M : gMe) (z : Int) (x y nx : Nat) : Option gCf := (match st with | .inl w :: .inr (.inr (.inl (some a))) :: st => (match M.1[a]? with | some (c, N) => if c = x ∧ (gty x y = .int ∨ gty x y = .boolean ∧ (w = 0 ∨ w = 1)) then some (nx, lv, st, mI M a y w, 0, 0) else none | none => none) | .inr (.inl w) :: .inr (.inr (.inl (some a))) :: st => (match M.1[a]? with | some (c, N) => if c = x ∧ gty x y = .long then some (nx, lv, st, mL M a y w, 0, 0) else none | none => none) | _ => none)
def gs1_42 (mt : gMt) (sz : Bool) (lv : List (Option gV)) (st : List gV) (M : gMe) (z : Int) (x y nx : Nat) : Option gCf := (match st with | .inr (.inr (.inl (some w))) :: .inr (.inr (.inl (some a))) :: st => (match M.1[a]? with | some (c, N) => if c = x ∧ gisr (gty x y) = true then some (nx, lv, st, mR M a y (some w), 0, 0) else none | none => none) | _ => none)
def gs1_43 (mt : gMt) (sz : Bool) (lv : List (Option gV)) (st : List gV) (M : gMe) (z : Int) (x y nx : Nat) : Option gCf := (match st with | .inl i :: .inr (.inr (.inl (some a))) :: st => (match M.1[a]? with | some (c, N) => if c = 100 ∧ 0 ≤ i ∧ i < N ∧ N < 2147483648 then some (nx, lv, gi (M.2.1 a i.toNat) :: st, M, 0, 0) else none | none => none) | _ => none)
def gs1_48 (mt : gMt) (sz : Bool) (lv : List (Option gV)) (st : List gV) (M : gMe) (z : Int) (x y nx : Nat) : Option gCf := (match st with | .inl w :: .inl i :: .inr (.inr (.inl (some a))) :: st => (match M.1[a]? with | some (c, N) => if c = 100 ∧ 0 ≤ i ∧ i < N ∧ N < 2147483648 then some (nx, lv, st, mI M a i.toNat w, 0, 0) else none | none => none) | _ => none)
def gs1_51 (mt : gMt) (sz : Bool) (lv : List (Option gV)) (st : List gV) (M : gMe) (z : Int) (x y nx : Nat) : Option gCf := (match st with | .inr (.inr (.inl (some w))) :: .inl i :: .inr (.inr (.inl (some a))) :: st => (match M.1[a]?, M.1[w]? with | some (t, N), some (c, _) => if 103 ≤ t ∧ t ≤ 106 ∧ c < 12 ∧ gR c = gaC (t - 100) ∧ 0 ≤ i ∧ i < N ∧ N < 2147483648 then some (nx, lv, st, mR M a i.toNat (some w), 0, 0) else none | _, _ => none) | _ => none)
def gs1_60 (mt : gMt) (sz : Bool) (lv : List (Option gV)) (st : List gV) (M : gMe) (z : Int) (x y nx : Nat) : Option gCf := some (x, lv, st, M, 0, 0)
def gs1_62 (mt : gMt) (sz : Bool) (lv : List (Option gV)) (st : List gV) (M : gMe) (z : Int) (x y nx : Nat) : Option gCf := (match st with | .inl b :: .inl a :: st => if (-2147483648 ≤ a ∧ a < 2147483648) ∧ (-2147483648 ≤ b ∧ b < 2147483648) then (match y with | 0 => some (if a = b then x else nx, lv, st, M, 0, 0) | 1 => some (if a = b then nx else x, lv, st, M, 0, 0) | 2 => some (if a < b then x else nx, lv, st, M, 0, 0) | 3 => some (if b ≤ a then x else nx, lv, st, M, 0, 0) | 4 => some (if b < a then x else nx, lv, st, M, 0, 0) | 5 => some (if a ≤ b then x else nx, lv, st, M, 0, 0) | _ => none) else none | _ => none)
def gs1_84 (mt : gMt) (sz : Bool) (lv : List (Option gV)) (st : List gV) (M : gMe) (z : Int) (x y nx : Nat) : Option gCf := (match st with | .inr (.inr (.inl (some a))) :: st => if gcats st ≤ 8 then some (nx, lv, st, M, 0, 0) else none | _ => none)
def gs1_90 (mt : gMt) (sz : Bool) (lv : List (Option gV)) (st : List gV) (M : gMe) (z : Int) (x y nx : Nat) : Option gCf := (if sz = true then some (nx, lv, gr M.1.length :: st, mN M [(x, gN x)], 1, gN x) else none)
def gs1_91 (mt : gMt) (sz : Bool) (lv : List (Option gV)) (st : List gV) (M : gMe) (z : Int) (x y nx : Nat) : Option gCf := (match st with | .inl w :: st => if sz = true ∧ 0 ≤ w ∧ w ≤ 60000 then some (nx, lv, gr M.1.length :: st, mN M [(100 + x, w.toNat)], 1, w.toNat) else none | _ => none)
def gs1_92 (mt : gMt) (sz : Bool) (lv : List (Option gV)) (st : List gV) (M : gMe) (z : Int) (x y nx : Nat) : Option gCf := (match st with | .inl w :: st => if sz = true ∧ 0 ≤ w ∧ w ≤ 60000 then some (nx, lv, gr M.1.length :: st, mN M [(100 + x, w.toNat)], 1, w.toNat) else none | _ => none)
def gs1_93 (mt : gMt) (sz : Bool) (lv : List (Option gV)) (st : List gV) (M : gMe) (z : Int) (x y nx : Nat) : Option gCf := (match st with | .inl v :: .inl u :: st => if sz = true ∧ 0 ≤ u ∧ u ≤ 1000 ∧ 0 ≤ v ∧ v ≤ 1000 then some (nx, lv, gr M.1.length :: st, mNN M u.toNat v.toNat, 1 + u.toNat, u.toNat + u.toNat * v.toNat) else none | _ => none)
def gs1_95 (mt : gMt) (sz : Bool) (lv : List (Option gV)) (st : List gV) (M : gMe) (z : Int) (x y nx : Nat) : Option gCf := some (nx, lv, gs x :: st, M, 0, 0)
def gs1 (mt : gMt) (sz : Bool) (pc : Nat) (lv : List (Option gV)) (st : List gV) (M : gMe) : Option gCf := match gat mt pc with
  | none => none
  | some (op, z, x, y, nx) => match op with
    | 0 => gs1_0 mt sz lv st M z x y nx
    | 1 => gs1_1 mt sz lv st M z x y nx
    | 2 => gs1_2 mt sz lv st M z x y nx
    | 3 => gs1_3 mt sz lv st M z x y nx
    | 4 => gs1_4 mt sz lv st M z x y nx
    | 5 => gs1_5 mt sz lv st M z x y nx
    | 6 => gs1_6 mt sz lv st M z x y nx
    | 7 => gs1_7 mt sz lv st M z x y nx
    | 8 => gs1_8 mt sz lv st M z x y nx
    | 10 => gs1_10 mt sz lv st M z x y nx
    | 11 => gs1_11 mt sz lv st M z x y nx
    | 12 => gs1_12 mt sz lv st M z x y nx
    | 13 => gs1_13 mt sz lv st M z x y nx
    | 16 => gs1_16 mt sz lv st M z x y nx
    | 17 => gs1_17 mt sz lv st M z x y nx
    | 18 => gs1_18 mt sz lv st M z x y nx
    | 19 => gs1_19 mt sz lv st M z x y nx
    | 20 => gs1_20 mt sz lv st M z x y nx
    | 21 => gs1_21 mt sz lv st M z x y nx
    | 22 => gs1_22 mt sz lv st M z x y nx
    | 23 => gs1_23 mt sz lv st M z x y nx
    | 24 => gs1_24 mt sz lv st M z x y nx
    | 30 => gs1_30 mt sz lv st M z x y nx
    | 31 => gs1_31 mt sz lv st M z x y nx
    | 32 => gs1_32 mt sz lv st M z x y nx
    | 33 => gs1_33 mt sz lv st M z x y nx
    | 34 => gs1_34 mt sz lv st M z x y nx
    | 35 => gs1_35 mt sz lv st M z x y nx
    | 36 => gs1_36 mt sz lv st M z x y nx
    | 37 => gs1_37 mt sz lv st M z x y nx
    | 38 => gs1_38 mt sz lv st M z x y nx
    | 40 => gs1_40 mt sz lv st M z x y nx
    | 41 => gs1_41 mt sz lv st M z x y nx
    | 42 => gs1_42 mt sz lv st M z x y nx
    | 43 => gs1_43 mt sz lv st M z x y nx
    | 48 => gs1_48 mt sz lv st M z x y nx
    | 51 => gs1_51 mt sz lv st M z x y nx
    | 60 => gs1_60 mt sz lv st M z x y nx
    | 62 => gs1_62 mt sz lv st M z x y nx
    | 84 => gs1_84 mt sz lv st M z x y nx
    | 90 => gs1_90 mt sz lv st M z x y nx
    | 91 => gs1_91 mt sz lv st M z x y nx
    | 92 => gs1_92 mt sz lv st M z x y nx
    | 93 => gs1_93 mt sz lv st M z x y nx
    | 95 => gs1_95 mt sz lv st M z x y nx
    | _ => none
section GS1
variable {G : gG} {mt : gMt} {sz : Bool} {n mc ms pc : Nat} {lv lv' : List (Option gV)} {st st' : List gV} {M M' : gMe} {P : Option gV → gMe → Prop} {z : Int} {x y nx pc' da db : Nat}
theorem gs1_0_ok (hsz : G.2.2.2.2.2.2 = sz) (hn : 1 ≤ n) (hg : gat mt pc = some (0, z, x, y, nx)) (h : gs1_0 mt sz lv st M z x y nx = some (pc', lv', st', M', da, db)) (k : Go G mt n mc ms pc' lv' st' M' P) : Go G mt n (da + mc) (db + ms) pc lv st M P := by
  unfold gs1_0 at h
  cases h
  rw [Nat.zero_add, Nat.zero_add]
  exact Go.const hg k
theorem gs1_1_ok (hsz : G.2.2.2.2.2.2 = sz) (hn : 1 ≤ n) (hg : gat mt pc = some (1, z, x, y, nx)) (h : gs1_1 mt sz lv st M z x y nx = some (pc', lv', st', M', da, db)) (k : Go G mt n mc ms pc' lv' st' M' P) : Go G mt n (da + mc) (db + ms) pc lv st M P := by
  unfold gs1_1 at h
  cases h
  rw [Nat.zero_add, Nat.zero_add]
  exact Go.lconst hg k
theorem gs1_2_ok (hsz : G.2.2.2.2.2.2 = sz) (hn : 1 ≤ n) (hg : gat mt pc = some (2, z, x, y, nx)) (h : gs1_2 mt sz lv st M z x y nx = some (pc', lv', st', M', da, db)) (k : Go G mt n mc ms pc' lv' st' M' P) : Go G mt n (da + mc) (db + ms) pc lv st M P := by
  unfold gs1_2 at h
  split at h
  · split at h
    · rename_i hc
      cases h
      rw [Nat.zero_add, Nat.zero_add]
      exact Go.load hg (by assumption) (by assumption) k
    · cases h
  · cases h
theorem gs1_3_ok (hsz : G.2.2.2.2.2.2 = sz) (hn : 1 ≤ n) (hg : gat mt pc = some (3, z, x, y, nx)) (h : gs1_3 mt sz lv st M z x y nx = some (pc', lv', st', M', da, db)) (k : Go G mt n mc ms pc' lv' st' M' P) : Go G mt n (da + mc) (db + ms) pc lv st M P := by
  unfold gs1_3 at h
  split at h
  · split at h
    · rename_i hc
      cases h
      rw [Nat.zero_add, Nat.zero_add]
      exact Go.store hg hc.1 hc.2 k
    · cases h
  · cases h
theorem gs1_4_ok (hsz : G.2.2.2.2.2.2 = sz) (hn : 1 ≤ n) (hg : gat mt pc = some (4, z, x, y, nx)) (h : gs1_4 mt sz lv st M z x y nx = some (pc', lv', st', M', da, db)) (k : Go G mt n mc ms pc' lv' st' M' P) : Go G mt n (da + mc) (db + ms) pc lv st M P := by
  unfold gs1_4 at h
  split at h
  · split at h
    · rename_i hc
      cases h
      rw [Nat.zero_add, Nat.zero_add]
      exact Go.lstore hg hc k
    · cases h
  · cases h
theorem gs1_5_ok (hsz : G.2.2.2.2.2.2 = sz) (hn : 1 ≤ n) (hg : gat mt pc = some (5, z, x, y, nx)) (h : gs1_5 mt sz lv st M z x y nx = some (pc', lv', st', M', da, db)) (k : Go G mt n mc ms pc' lv' st' M' P) : Go G mt n (da + mc) (db + ms) pc lv st M P := by
  unfold gs1_5 at h
  split at h
  · split at h
    · rename_i hc
      cases h
      rw [Nat.zero_add, Nat.zero_add]
      exact Go.iinc hg (by assumption) hc k
    · cases h
  · cases h
theorem gs1_6_ok (hsz : G.2.2.2.2.2.2 = sz) (hn : 1 ≤ n) (hg : gat mt pc = some (6, z, x, y, nx)) (h : gs1_6 mt sz lv st M z x y nx = some (pc', lv', st', M', da, db)) (k : Go G mt n mc ms pc' lv' st' M' P) : Go G mt n (da + mc) (db + ms) pc lv st M P := by
  unfold gs1_6 at h
  split at h
  · split at h
    · cases h
    · rename_i hc
      cases h
      rw [Nat.zero_add, Nat.zero_add]
      exact Go.dup hg (fun q e => hc (by rw [e]; rfl)) k
  · cases h
theorem gs1_7_ok (hsz : G.2.2.2.2.2.2 = sz) (hn : 1 ≤ n) (hg : gat mt pc = some (7, z, x, y, nx)) (h : gs1_7 mt sz lv st M z x y nx = some (pc', lv', st', M', da, db)) (k : Go G mt n mc ms pc' lv' st' M' P) : Go G mt n (da + mc) (db + ms) pc lv st M P := by
  unfold gs1_7 at h
  split at h
  · split at h
    · cases h
    · rename_i hc
      cases h
      rw [Nat.zero_add, Nat.zero_add]
      exact Go.dup2 hg (fun q e => hc (Or.inl (by rw [e]; rfl))) (fun q e => hc (Or.inr (by rw [e]; rfl))) k
  · cases h
theorem gs1_8_ok (hsz : G.2.2.2.2.2.2 = sz) (hn : 1 ≤ n) (hg : gat mt pc = some (8, z, x, y, nx)) (h : gs1_8 mt sz lv st M z x y nx = some (pc', lv', st', M', da, db)) (k : Go G mt n mc ms pc' lv' st' M' P) : Go G mt n (da + mc) (db + ms) pc lv st M P := by
  unfold gs1_8 at h
  split at h
  · split at h
    · cases h
    · rename_i hc
      cases h
      rw [Nat.zero_add, Nat.zero_add]
      exact Go.pop hg (fun q e => hc (by rw [e]; rfl)) k
  · cases h
theorem gs1_10_ok (hsz : G.2.2.2.2.2.2 = sz) (hn : 1 ≤ n) (hg : gat mt pc = some (10, z, x, y, nx)) (h : gs1_10 mt sz lv st M z x y nx = some (pc', lv', st', M', da, db)) (k : Go G mt n mc ms pc' lv' st' M' P) : Go G mt n (da + mc) (db + ms) pc lv st M P := by
  unfold gs1_10 at h
  split at h
  · cases h
    rw [Nat.zero_add, Nat.zero_add]
    exact Go.iadd hg k
  · cases h
theorem gs1_11_ok (hsz : G.2.2.2.2.2.2 = sz) (hn : 1 ≤ n) (hg : gat mt pc = some (11, z, x, y, nx)) (h : gs1_11 mt sz lv st M z x y nx = some (pc', lv', st', M', da, db)) (k : Go G mt n mc ms pc' lv' st' M' P) : Go G mt n (da + mc) (db + ms) pc lv st M P := by
  unfold gs1_11 at h
  split at h
  · cases h
    rw [Nat.zero_add, Nat.zero_add]
    exact Go.isub hg k
  · cases h
theorem gs1_12_ok (hsz : G.2.2.2.2.2.2 = sz) (hn : 1 ≤ n) (hg : gat mt pc = some (12, z, x, y, nx)) (h : gs1_12 mt sz lv st M z x y nx = some (pc', lv', st', M', da, db)) (k : Go G mt n mc ms pc' lv' st' M' P) : Go G mt n (da + mc) (db + ms) pc lv st M P := by
  unfold gs1_12 at h
  split at h
  · cases h
    rw [Nat.zero_add, Nat.zero_add]
    exact Go.imul hg k
  · cases h
theorem gs1_13_ok (hsz : G.2.2.2.2.2.2 = sz) (hn : 1 ≤ n) (hg : gat mt pc = some (13, z, x, y, nx)) (h : gs1_13 mt sz lv st M z x y nx = some (pc', lv', st', M', da, db)) (k : Go G mt n mc ms pc' lv' st' M' P) : Go G mt n (da + mc) (db + ms) pc lv st M P := by
  unfold gs1_13 at h
  split at h
  · cases h
    rw [Nat.zero_add, Nat.zero_add]
    exact Go.ineg hg k
  · cases h
theorem gs1_16_ok (hsz : G.2.2.2.2.2.2 = sz) (hn : 1 ≤ n) (hg : gat mt pc = some (16, z, x, y, nx)) (h : gs1_16 mt sz lv st M z x y nx = some (pc', lv', st', M', da, db)) (k : Go G mt n mc ms pc' lv' st' M' P) : Go G mt n (da + mc) (db + ms) pc lv st M P := by
  unfold gs1_16 at h
  split at h
  · cases h
    rw [Nat.zero_add, Nat.zero_add]
    exact Go.iand hg k
  · cases h
theorem gs1_17_ok (hsz : G.2.2.2.2.2.2 = sz) (hn : 1 ≤ n) (hg : gat mt pc = some (17, z, x, y, nx)) (h : gs1_17 mt sz lv st M z x y nx = some (pc', lv', st', M', da, db)) (k : Go G mt n mc ms pc' lv' st' M' P) : Go G mt n (da + mc) (db + ms) pc lv st M P := by
  unfold gs1_17 at h
  split at h
  · cases h
    rw [Nat.zero_add, Nat.zero_add]
    exact Go.ior hg k
  · cases h
theorem gs1_18_ok (hsz : G.2.2.2.2.2.2 = sz) (hn : 1 ≤ n) (hg : gat mt pc = some (18, z, x, y, nx)) (h : gs1_18 mt sz lv st M z x y nx = some (pc', lv', st', M', da, db)) (k : Go G mt n mc ms pc' lv' st' M' P) : Go G mt n (da + mc) (db + ms) pc lv st M P := by
  unfold gs1_18 at h
  split at h
  · cases h
    rw [Nat.zero_add, Nat.zero_add]
    exact Go.ixor hg k
  · cases h
theorem gs1_19_ok (hsz : G.2.2.2.2.2.2 = sz) (hn : 1 ≤ n) (hg : gat mt pc = some (19, z, x, y, nx)) (h : gs1_19 mt sz lv st M z x y nx = some (pc', lv', st', M', da, db)) (k : Go G mt n mc ms pc' lv' st' M' P) : Go G mt n (da + mc) (db + ms) pc lv st M P := by
  unfold gs1_19 at h
  split at h
  · cases h
    rw [Nat.zero_add, Nat.zero_add]
    exact Go.ishl hg k
  · cases h
theorem gs1_20_ok (hsz : G.2.2.2.2.2.2 = sz) (hn : 1 ≤ n) (hg : gat mt pc = some (20, z, x, y, nx)) (h : gs1_20 mt sz lv st M z x y nx = some (pc', lv', st', M', da, db)) (k : Go G mt n mc ms pc' lv' st' M' P) : Go G mt n (da + mc) (db + ms) pc lv st M P := by
  unfold gs1_20 at h
  split at h
  · cases h
    rw [Nat.zero_add, Nat.zero_add]
    exact Go.ishr hg k
  · cases h
theorem gs1_21_ok (hsz : G.2.2.2.2.2.2 = sz) (hn : 1 ≤ n) (hg : gat mt pc = some (21, z, x, y, nx)) (h : gs1_21 mt sz lv st M z x y nx = some (pc', lv', st', M', da, db)) (k : Go G mt n mc ms pc' lv' st' M' P) : Go G mt n (da + mc) (db + ms) pc lv st M P := by
  unfold gs1_21 at h
  split at h
  · cases h
    rw [Nat.zero_add, Nat.zero_add]
    exact Go.iushr hg k
  · cases h
theorem gs1_22_ok (hsz : G.2.2.2.2.2.2 = sz) (hn : 1 ≤ n) (hg : gat mt pc = some (22, z, x, y, nx)) (h : gs1_22 mt sz lv st M z x y nx = some (pc', lv', st', M', da, db)) (k : Go G mt n mc ms pc' lv' st' M' P) : Go G mt n (da + mc) (db + ms) pc lv st M P := by
  unfold gs1_22 at h
  split at h
  · cases h
    rw [Nat.zero_add, Nat.zero_add]
    exact Go.i2l hg k
  · cases h
theorem gs1_23_ok (hsz : G.2.2.2.2.2.2 = sz) (hn : 1 ≤ n) (hg : gat mt pc = some (23, z, x, y, nx)) (h : gs1_23 mt sz lv st M z x y nx = some (pc', lv', st', M', da, db)) (k : Go G mt n mc ms pc' lv' st' M' P) : Go G mt n (da + mc) (db + ms) pc lv st M P := by
  unfold gs1_23 at h
  split at h
  · cases h
    rw [Nat.zero_add, Nat.zero_add]
    exact Go.i2b hg k
  · cases h
theorem gs1_24_ok (hsz : G.2.2.2.2.2.2 = sz) (hn : 1 ≤ n) (hg : gat mt pc = some (24, z, x, y, nx)) (h : gs1_24 mt sz lv st M z x y nx = some (pc', lv', st', M', da, db)) (k : Go G mt n mc ms pc' lv' st' M' P) : Go G mt n (da + mc) (db + ms) pc lv st M P := by
  unfold gs1_24 at h
  split at h
  · cases h
    rw [Nat.zero_add, Nat.zero_add]
    exact Go.i2s hg k
  · cases h
theorem gs1_30_ok (hsz : G.2.2.2.2.2.2 = sz) (hn : 1 ≤ n) (hg : gat mt pc = some (30, z, x, y, nx)) (h : gs1_30 mt sz lv st M z x y nx = some (pc', lv', st', M', da, db)) (k : Go G mt n mc ms pc' lv' st' M' P) : Go G mt n (da + mc) (db + ms) pc lv st M P := by
  unfold gs1_30 at h
  split at h
  · cases h
    rw [Nat.zero_add, Nat.zero_add]
    exact Go.ladd hg k
  · cases h
theorem gs1_31_ok (hsz : G.2.2.2.2.2.2 = sz) (hn : 1 ≤ n) (hg : gat mt pc = some (31, z, x, y, nx)) (h : gs1_31 mt sz lv st M z x y nx = some (pc', lv', st', M', da, db)) (k : Go G mt n mc ms pc' lv' st' M' P) : Go G mt n (da + mc) (db + ms) pc lv st M P := by
  unfold gs1_31 at h
  split at h
  · cases h
    rw [Nat.zero_add, Nat.zero_add]
    exact Go.lsub hg k
  · cases h
theorem gs1_32_ok (hsz : G.2.2.2.2.2.2 = sz) (hn : 1 ≤ n) (hg : gat mt pc = some (32, z, x, y, nx)) (h : gs1_32 mt sz lv st M z x y nx = some (pc', lv', st', M', da, db)) (k : Go G mt n mc ms pc' lv' st' M' P) : Go G mt n (da + mc) (db + ms) pc lv st M P := by
  unfold gs1_32 at h
  split at h
  · cases h
    rw [Nat.zero_add, Nat.zero_add]
    exact Go.land hg k
  · cases h
theorem gs1_33_ok (hsz : G.2.2.2.2.2.2 = sz) (hn : 1 ≤ n) (hg : gat mt pc = some (33, z, x, y, nx)) (h : gs1_33 mt sz lv st M z x y nx = some (pc', lv', st', M', da, db)) (k : Go G mt n mc ms pc' lv' st' M' P) : Go G mt n (da + mc) (db + ms) pc lv st M P := by
  unfold gs1_33 at h
  split at h
  · cases h
    rw [Nat.zero_add, Nat.zero_add]
    exact Go.lor hg k
  · cases h
theorem gs1_34_ok (hsz : G.2.2.2.2.2.2 = sz) (hn : 1 ≤ n) (hg : gat mt pc = some (34, z, x, y, nx)) (h : gs1_34 mt sz lv st M z x y nx = some (pc', lv', st', M', da, db)) (k : Go G mt n mc ms pc' lv' st' M' P) : Go G mt n (da + mc) (db + ms) pc lv st M P := by
  unfold gs1_34 at h
  split at h
  · cases h
    rw [Nat.zero_add, Nat.zero_add]
    exact Go.lxor hg k
  · cases h
theorem gs1_35_ok (hsz : G.2.2.2.2.2.2 = sz) (hn : 1 ≤ n) (hg : gat mt pc = some (35, z, x, y, nx)) (h : gs1_35 mt sz lv st M z x y nx = some (pc', lv', st', M', da, db)) (k : Go G mt n mc ms pc' lv' st' M' P) : Go G mt n (da + mc) (db + ms) pc lv st M P := by
  unfold gs1_35 at h
  split at h
  · cases h
    rw [Nat.zero_add, Nat.zero_add]
    exact Go.lshl hg k
  · cases h
theorem gs1_36_ok (hsz : G.2.2.2.2.2.2 = sz) (hn : 1 ≤ n) (hg : gat mt pc = some (36, z, x, y, nx)) (h : gs1_36 mt sz lv st M z x y nx = some (pc', lv', st', M', da, db)) (k : Go G mt n mc ms pc' lv' st' M' P) : Go G mt n (da + mc) (db + ms) pc lv st M P := by
  unfold gs1_36 at h
  split at h
  · cases h
    rw [Nat.zero_add, Nat.zero_add]
    exact Go.lushr hg k
  · cases h
theorem gs1_37_ok (hsz : G.2.2.2.2.2.2 = sz) (hn : 1 ≤ n) (hg : gat mt pc = some (37, z, x, y, nx)) (h : gs1_37 mt sz lv st M z x y nx = some (pc', lv', st', M', da, db)) (k : Go G mt n mc ms pc' lv' st' M' P) : Go G mt n (da + mc) (db + ms) pc lv st M P := by
  unfold gs1_37 at h
  split at h
  · cases h
    rw [Nat.zero_add, Nat.zero_add]
    exact Go.lcmp hg k
  · cases h
theorem gs1_38_ok (hsz : G.2.2.2.2.2.2 = sz) (hn : 1 ≤ n) (hg : gat mt pc = some (38, z, x, y, nx)) (h : gs1_38 mt sz lv st M z x y nx = some (pc', lv', st', M', da, db)) (k : Go G mt n mc ms pc' lv' st' M' P) : Go G mt n (da + mc) (db + ms) pc lv st M P := by
  unfold gs1_38 at h
  split at h
  · cases h
    rw [Nat.zero_add, Nat.zero_add]
    exact Go.l2i hg k
  · cases h
theorem gs1_40_ok (hsz : G.2.2.2.2.2.2 = sz) (hn : 1 ≤ n) (hg : gat mt pc = some (40, z, x, y, nx)) (h : gs1_40 mt sz lv st M z x y nx = some (pc', lv', st', M', da, db)) (k : Go G mt n mc ms pc' lv' st' M' P) : Go G mt n (da + mc) (db + ms) pc lv st M P := by
  unfold gs1_40 at h
  split at h
  · split at h
    · split at h
      · rename_i hc
        cases h
        rw [Nat.zero_add, Nat.zero_add]
        subst hc; exact Go.getf hg (by assumption) k
      · cases h
    · cases h
  · cases h
theorem gs1_41_ok (hsz : G.2.2.2.2.2.2 = sz) (hn : 1 ≤ n) (hg : gat mt pc = some (41, z, x, y, nx)) (h : gs1_41 mt sz lv st M z x y nx = some (pc', lv', st', M', da, db)) (k : Go G mt n mc ms pc' lv' st' M' P) : Go G mt n (da + mc) (db + ms) pc lv st M P := by
  unfold gs1_41 at h
  split at h
  · split at h
    · split at h
      · rename_i hc
        cases h
        rw [Nat.zero_add, Nat.zero_add]
        obtain ⟨rfl, (h2 | ⟨h2, h3⟩)⟩ := hc
        · exact Go.putI hg (by assumption) h2 k
        · exact Go.putZ hg (by assumption) h2 h3 k
      · cases h
    · cases h
  · split at h
    · split at h
      · rename_i hc
        cases h
        rw [Nat.zero_add, Nat.zero_add]
        obtain ⟨rfl, h2⟩ := hc
        exact Go.putL hg (by assumption) h2 k
      · cases h
    · cases h
  · cases h
theorem gs1_42_ok (hsz : G.2.2.2.2.2.2 = sz) (hn : 1 ≤ n) (hg : gat mt pc = some (42, z, x, y, nx)) (h : gs1_42 mt sz lv st M z x y nx = some (pc', lv', st', M', da, db)) (k : Go G mt n mc ms pc' lv' st' M' P) : Go G mt n (da + mc) (db + ms) pc lv st M P := by
  unfold gs1_42 at h
  split at h
  · split at h
    · split at h
      · rename_i hc
        cases h
        rw [Nat.zero_add, Nat.zero_add]
        obtain ⟨rfl, h2⟩ := hc; exact Go.putR hg (by assumption) h2 k
      · cases h
    · cases h
  · cases h
theorem gs1_43_ok (hsz : G.2.2.2.2.2.2 = sz) (hn : 1 ≤ n) (hg : gat mt pc = some (43, z, x, y, nx)) (h : gs1_43 mt sz lv st M z x y nx = some (pc', lv', st', M', da, db)) (k : Go G mt n mc ms pc' lv' st' M' P) : Go G mt n (da + mc) (db + ms) pc lv st M P := by
  unfold gs1_43 at h
  split at h
  · split at h
    · split at h
      · rename_i hc
        cases h
        rw [Nat.zero_add, Nat.zero_add]
        obtain ⟨rfl, h2, h3, h4⟩ := hc; exact Go.iald hg (by assumption) h2 h3 h4 k
      · cases h
    · cases h
  · cases h
theorem gs1_48_ok (hsz : G.2.2.2.2.2.2 = sz) (hn : 1 ≤ n) (hg : gat mt pc = some (48, z, x, y, nx)) (h : gs1_48 mt sz lv st M z x y nx = some (pc', lv', st', M', da, db)) (k : Go G mt n mc ms pc' lv' st' M' P) : Go G mt n (da + mc) (db + ms) pc lv st M P := by
  unfold gs1_48 at h
  split at h
  · split at h
    · split at h
      · rename_i hc
        cases h
        rw [Nat.zero_add, Nat.zero_add]
        obtain ⟨rfl, h2, h3, h4⟩ := hc; exact Go.iast hg (by assumption) h2 h3 h4 k
      · cases h
    · cases h
  · cases h
theorem gs1_51_ok (hsz : G.2.2.2.2.2.2 = sz) (hn : 1 ≤ n) (hg : gat mt pc = some (51, z, x, y, nx)) (h : gs1_51 mt sz lv st M z x y nx = some (pc', lv', st', M', da, db)) (k : Go G mt n mc ms pc' lv' st' M' P) : Go G mt n (da + mc) (db + ms) pc lv st M P := by
  unfold gs1_51 at h
  split at h
  · split at h
    · split at h
      · rename_i t N c N2 h1 h2 hc
        cases h
        rw [Nat.zero_add, Nat.zero_add]
        obtain ⟨c1, c2, c3, c4, c5, c6, c7⟩ := hc
        exact Go.aast (t := t - 100) hg (by rw [h1]; congr 2; omega) ⟨by omega, by omega⟩ h2 c3 c4 c5 c6 c7 k
      · cases h
    · cases h
  · cases h
theorem gs1_60_ok (hsz : G.2.2.2.2.2.2 = sz) (hn : 1 ≤ n) (hg : gat mt pc = some (60, z, x, y, nx)) (h : gs1_60 mt sz lv st M z x y nx = some (pc', lv', st', M', da, db)) (k : Go G mt n mc ms pc' lv' st' M' P) : Go G mt n (da + mc) (db + ms) pc lv st M P := by
  unfold gs1_60 at h
  cases h
  rw [Nat.zero_add, Nat.zero_add]
  exact Go.goto hg k
theorem gs1_62_ok (hsz : G.2.2.2.2.2.2 = sz) (hn : 1 ≤ n) (hg : gat mt pc = some (62, z, x, y, nx)) (h : gs1_62 mt sz lv st M z x y nx = some (pc', lv', st', M', da, db)) (k : Go G mt n mc ms pc' lv' st' M' P) : Go G mt n (da + mc) (db + ms) pc lv st M P := by
  unfold gs1_62 at h
  split at h
  · split at h
    · rename_i b a st hc
      split at h <;> cases h <;> rw [Nat.zero_add, Nat.zero_add]
      · exact Go.icmp_eq hg hc.1 hc.2 (fun q => by rw [if_pos q] at k; exact k) (fun q => by rw [if_neg q] at k; exact k)
      · exact Go.icmp_ne hg hc.1 hc.2 (fun q => by rw [if_neg q] at k; exact k) (fun q => by rw [if_pos q] at k; exact k)
      · exact Go.icmp_lt hg hc.1 hc.2 (fun q => by rw [if_pos q] at k; exact k) (fun q => by rw [if_neg q] at k; exact k)
      · exact Go.icmp_ge hg hc.1 hc.2 (fun q => by rw [if_pos q] at k; exact k) (fun q => by rw [if_neg q] at k; exact k)
      · exact Go.icmp_gt hg hc.1 hc.2 (fun q => by rw [if_pos q] at k; exact k) (fun q => by rw [if_neg q] at k; exact k)
      · exact Go.icmp_le hg hc.1 hc.2 (fun q => by rw [if_pos q] at k; exact k) (fun q => by rw [if_neg q] at k; exact k)
    · cases h
  · cases h
theorem gs1_84_ok (hsz : G.2.2.2.2.2.2 = sz) (hn : 1 ≤ n) (hg : gat mt pc = some (84, z, x, y, nx)) (h : gs1_84 mt sz lv st M z x y nx = some (pc', lv', st', M', da, db)) (k : Go G mt n mc ms pc' lv' st' M' P) : Go G mt n (da + mc) (db + ms) pc lv st M P := by
  unfold gs1_84 at h
  split at h
  · split at h
    · rename_i hc
      cases h
      rw [Nat.zero_add, Nat.zero_add]
      exact Go.obj hg hn hc k
    · cases h
  · cases h
theorem gs1_90_ok (hsz : G.2.2.2.2.2.2 = sz) (hn : 1 ≤ n) (hg : gat mt pc = some (90, z, x, y, nx)) (h : gs1_90 mt sz lv st M z x y nx = some (pc', lv', st', M', da, db)) (k : Go G mt n mc ms pc' lv' st' M' P) : Go G mt n (da + mc) (db + ms) pc lv st M P := by
  unfold gs1_90 at h
  split at h
  · rename_i hc
    cases h
    exact Go.new hg (hsz.trans hc) k
  · cases h
theorem gs1_91_ok (hsz : G.2.2.2.2.2.2 = sz) (hn : 1 ≤ n) (hg : gat mt pc = some (91, z, x, y, nx)) (h : gs1_91 mt sz lv st M z x y nx = some (pc', lv', st', M', da, db)) (k : Go G mt n mc ms pc' lv' st' M' P) : Go G mt n (da + mc) (db + ms) pc lv st M P := by
  unfold gs1_91 at h
  split at h
  · split at h
    · rename_i hc
      cases h
      exact Go.newa hg (hsz.trans hc.1) hc.2.1 hc.2.2 k
    · cases h
  · cases h
theorem gs1_92_ok (hsz : G.2.2.2.2.2.2 = sz) (hn : 1 ≤ n) (hg : gat mt pc = some (92, z, x, y, nx)) (h : gs1_92 mt sz lv st M z x y nx = some (pc', lv', st', M', da, db)) (k : Go G mt n mc ms pc' lv' st' M' P) : Go G mt n (da + mc) (db + ms) pc lv st M P := by
  unfold gs1_92 at h
  split at h
  · split at h
    · rename_i hc
      cases h
      exact Go.newq hg (hsz.trans hc.1) hc.2.1 hc.2.2 k
    · cases h
  · cases h
theorem gs1_93_ok (hsz : G.2.2.2.2.2.2 = sz) (hn : 1 ≤ n) (hg : gat mt pc = some (93, z, x, y, nx)) (h : gs1_93 mt sz lv st M z x y nx = some (pc', lv', st', M', da, db)) (k : Go G mt n mc ms pc' lv' st' M' P) : Go G mt n (da + mc) (db + ms) pc lv st M P := by
  unfold gs1_93 at h
  split at h
  · split at h
    · rename_i hc
      cases h
      exact Go.mna hg (hsz.trans hc.1) hc.2.1 hc.2.2.1 hc.2.2.2.1 hc.2.2.2.2 rfl rfl k
    · cases h
  · cases h
theorem gs1_95_ok (hsz : G.2.2.2.2.2.2 = sz) (hn : 1 ≤ n) (hg : gat mt pc = some (95, z, x, y, nx)) (h : gs1_95 mt sz lv st M z x y nx = some (pc', lv', st', M', da, db)) (k : Go G mt n mc ms pc' lv' st' M' P) : Go G mt n (da + mc) (db + ms) pc lv st M P := by
  unfold gs1_95 at h
  cases h
  rw [Nat.zero_add, Nat.zero_add]
  exact Go.gets hg k
theorem gs1_ok (hsz : G.2.2.2.2.2.2 = sz) (hn : 1 ≤ n) (h : gs1 mt sz pc lv st M = some (pc', lv', st', M', da, db)) (k : Go G mt n mc ms pc' lv' st' M' P) : Go G mt n (da + mc) (db + ms) pc lv st M P := by
  unfold gs1 at h
  split at h
  · cases h
  · rename_i op z x y nx hg
    split at h
    · exact gs1_0_ok hsz hn hg h k
    · exact gs1_1_ok hsz hn hg h k
    · exact gs1_2_ok hsz hn hg h k
    · exact gs1_3_ok hsz hn hg h k
    · exact gs1_4_ok hsz hn hg h k
    · exact gs1_5_ok hsz hn hg h k
    · exact gs1_6_ok hsz hn hg h k
    · exact gs1_7_ok hsz hn hg h k
    · exact gs1_8_ok hsz hn hg h k
    · exact gs1_10_ok hsz hn hg h k
    · exact gs1_11_ok hsz hn hg h k
    · exact gs1_12_ok hsz hn hg h k
    · exact gs1_13_ok hsz hn hg h k
    · exact gs1_16_ok hsz hn hg h k
    · exact gs1_17_ok hsz hn hg h k
    · exact gs1_18_ok hsz hn hg h k
    · exact gs1_19_ok hsz hn hg h k
    · exact gs1_20_ok hsz hn hg h k
    · exact gs1_21_ok hsz hn hg h k
    · exact gs1_22_ok hsz hn hg h k
    · exact gs1_23_ok hsz hn hg h k
    · exact gs1_24_ok hsz hn hg h k
    · exact gs1_30_ok hsz hn hg h k
    · exact gs1_31_ok hsz hn hg h k
    · exact gs1_32_ok hsz hn hg h k
    · exact gs1_33_ok hsz hn hg h k
    · exact gs1_34_ok hsz hn hg h k
    · exact gs1_35_ok hsz hn hg h k
    · exact gs1_36_ok hsz hn hg h k
    · exact gs1_37_ok hsz hn hg h k
    · exact gs1_38_ok hsz hn hg h k
    · exact gs1_40_ok hsz hn hg h k
    · exact gs1_41_ok hsz hn hg h k
    · exact gs1_42_ok hsz hn hg h k
    · exact gs1_43_ok hsz hn hg h k
    · exact gs1_48_ok hsz hn hg h k
    · exact gs1_51_ok hsz hn hg h k
    · exact gs1_60_ok hsz hn hg h k
    · exact gs1_62_ok hsz hn hg h k
    · exact gs1_84_ok hsz hn hg h k
    · exact gs1_90_ok hsz hn hg h k
    · exact gs1_91_ok hsz hn hg h k
    · exact gs1_92_ok hsz hn hg h k
    · exact gs1_93_ok hsz hn hg h k
    · exact gs1_95_ok hsz hn hg h k
    · cases h
end GS1
end
section
/-! ===== the constructors, run by the kernel ===== -/
def gmt (j : Nat) : gMt := match j with
  | 0 => mX0_init
  | 14 => mX2_init
  | 20 => mX3_init
  | 27 => mX4_init
  | 32 => mX5_init
  | 43 => mX6_init
  | 52 => mX7_init
  | 57 => mX8_init
  | 77 => mX9_init
  | 97 => mX10_init
  | 102 => mX11_init
  | 152 => mX12_init
  | _ => (j, [], [])
def gcts : List Nat := [0, 14, 20, 27, 32, 43, 52, 57, 77, 97, 102, 152]
theorem gcts_ok : ∀ j ∈ gcts, gOK (gmt j) = true := (List.forall_mem_cons.mpr ⟨okX0_init, (List.forall_mem_cons.mpr ⟨okX2_init, (List.forall_mem_cons.mpr ⟨okX3_init, (List.forall_mem_cons.mpr ⟨okX4_init, (List.forall_mem_cons.mpr ⟨okX5_init, (List.forall_mem_cons.mpr ⟨okX6_init, (List.forall_mem_cons.mpr ⟨okX7_init, (List.forall_mem_cons.mpr ⟨okX8_init, (List.forall_mem_cons.mpr ⟨okX9_init, (List.forall_mem_cons.mpr ⟨okX10_init, (List.forall_mem_cons.mpr ⟨okX11_init, (List.forall_mem_cons.mpr ⟨okX12_init, (fun _ h => absurd h List.not_mem_nil)⟩)⟩)⟩)⟩)⟩)⟩)⟩)⟩)⟩)⟩)⟩)⟩)
set_option maxRecDepth 100000 in
theorem gcts_ok2 : ∀ j ∈ gcts, (gmt j).1 = j ∧ plainName (gH j).1.cls = true ∧ gown (gH j).2.2.2.2 = (gH j).1.cls ∧ (gH j).2.2.1 ≤ 40 ∧ (gH j).1.cls ≠ "java/lang/invoke/MethodHandle" ∧ (gH j).1.cls ≠ "java/lang/invoke/VarHandle" := by decide +kernel
abbrev gRs : Type := Option (Option gV × gMe × Nat × Nat × Nat)
/-- takes the arguments and the receiver off the stack -/
def gpop : Nat → List gV → List gV → Option (List gV × Nat × List gV)
  | 0, acc, .inr (.inr (.inl (some b))) :: st => some (acc, b, st)
  | k + 1, acc, v :: st => gpop k (v :: acc) st
  | _, _, _ => none
theorem gpop_ok : ∀ (k : Nat) (acc st : List gV) {As : List gV} {b : Nat} {rest : List gV}, gpop k acc st = some (As, b, rest) → ∃ front, As = front ++ acc ∧ front.length = k ∧ st = front.reverse ++ gr b :: rest
  | 0, acc, st, As, b, rest, h => by
    unfold gpop at h
    split at h <;> simp_all
  | k + 1, acc, [], As, b, rest, h => by simp [gpop] at h
  | k + 1, acc, v :: st, As, b, rest, h => by
    simp only [gpop] at h
    obtain ⟨front, h1, h2, h3⟩ := gpop_ok k (v :: acc) st h
    exact ⟨front ++ [v], by simp [h1], by simp [h2], by simp [h3]⟩
def gstep (ih : Nat → Nat → List (Option gV) → List gV → gMe → gRs) (j pc : Nat) (lv : List (Option gV)) (st : List gV) (M : gMe) : gRs := match gat (gmt j) pc with
  | none => none
  | some (op, z, x, y, nx) => if op = 72 then (match st with | [] => some (none, M, 0, 0, 1) | _ => none)
    else if op = 82 ∨ op = 83 then (match gpop y [] st with
      | none => none
      | some (As, b, rest) => if gcats rest ≤ 8 ∧ x ∈ gcts ∧ (garg (gr b :: As)).length ≤ (gH x).2.2.1 then (match ih x 0 (gpad (gH x).2.2.1 (garg (gr b :: As))) [] M with
        | some (none, M1, a1, b1, d1) => (match ih j nx lv rest M1 with
          | some (r, M2, a2, b2, d2) => some (r, M2, a1 + a2, b1 + b2, max (d1 + 1) d2)
          | none => none)
        | _ => none) else none)
    else (match gs1 (gmt j) true pc lv st M with
      | none => none
      | some (pc', lv', st', M', da, db) => (match ih j pc' lv' st' M' with
        | some (r, M2, a2, b2, d2) => some (r, M2, da + a2, db + b2, max 1 d2)
        | none => none))
def gex (f : Nat) : Nat → Nat → List (Option gV) → List gV → gMe → gRs := Nat.rec (fun _ _ _ _ _ => none) (fun _ ih => gstep ih) f
theorem Go.mono {G : gG} {mt : gMt} {n n' mc ms pc : Nat} {lv : List (Option gV)} {st : List gV} {M : gMe} {P : Option gV → gMe → Prop} (hn : n ≤ n') (k : Go G mt n mc ms pc lv st M P) : Go G mt n' mc ms pc lv st M P := by
  intro p l e R s m args below meth cd H locs cells slots ls cx hS hW hL hc hs
  obtain ⟨a1, a2, a3, a4, a5, a6, a7, a8, a9, a10, a11, ⟨a12, a13⟩, a14⟩ := cx
  exact k p l e R s m args below meth cd H locs cells slots ls ⟨a1, a2, a3, a4, a5, a6, a7, a8, a9, a10, a11, ⟨by omega, by omega⟩, a14⟩ hS hW hL hc hs
theorem Go.imp {G : gG} {mt : gMt} {n mc ms pc : Nat} {lv : List (Option gV)} {st : List gV} {M : gMe} {P P' : Option gV → gMe → Prop} (h : ∀ r M, P r M → P' r M) (k : Go G mt n mc ms pc lv st M P) : Go G mt n mc ms pc lv st M P' := by
  intro p l e R s m args below meth cd H locs cells slots ls cx hS hW hL hc hs T hT X
  obtain ⟨t, a, o, b1, b2, ⟨⟨r, M1, c1, c2, c3⟩, c4⟩, b4⟩ := k p l e R s m args below meth cd H locs cells slots ls cx hS hW hL hc hs T hT X
  exact ⟨t, a, o, b1, b2, ⟨⟨r, M1, h r M1 c1, c2, c3⟩, c4⟩, b4⟩
theorem gex_ok {G : gG} (hsz : G.2.2.2.2.2.2 = true) : ∀ (f j pc : Nat) (lv : List (Option gV)) (st : List gV) (M : gMe) {r : Option gV} {M' : gMe} {mc ms d : Nat}, gex f j pc lv st M = some (r, M', mc, ms, d) → 1 ≤ d ∧ ∀ n, d ≤ n → Go G (gmt j) n mc ms pc lv st M (fun r' M1 => r' = r ∧ M1 = M')
  | 0, j, pc, lv, st, M, r, M', mc, ms, d, h => by cases h
  | f + 1, j, pc, lv, st, M, r, M', mc, ms, d, h => by
    have ih := gex_ok hsz f
    have h : gstep (gex f) j pc lv st M = some (r, M', mc, ms, d) := h
    unfold gstep at h
    split at h
    · cases h
    · rename_i op z x y nx hg
      split at h
      · rename_i ho
        subst ho
        split at h
        · cases h
          exact ⟨Nat.le_refl 1, fun n hn => Go.vret hg ⟨rfl, rfl⟩⟩
        · cases h
      · split at h
        · rename_i ho
          split at h
          · cases h
          · rename_i As b rest hp
            split at h
            · rename_i hcs
              obtain ⟨q1, q2, q3⟩ := hcs
              obtain ⟨c1, c2, c3, c4, c5⟩ := gcts_ok2 x q2
              split at h
              · rename_i M1 a1 b1 d1 h1
                split at h
                · rename_i r2 M2 a2 b2 d2 h2
                  cases h
                  obtain ⟨e1, g1⟩ := ih _ _ _ _ _ h1
                  obtain ⟨e2, g2⟩ := ih _ _ _ _ _ h2
                  obtain ⟨front, w1, w2, w3⟩ := gpop_ok y [] st hp
                  rw [List.append_nil] at w1
                  subst w1
                  subst w3
                  have hM : gM G x d1 a1 b1 (gr b :: As) M (fun r' M9 => r' = none ∧ M9 = M1) := by
                    have := gM.of (G := G) (gmt x) (n := d1) (mc := a1) (ms := b1) (av := gr b :: As) (M := M) (P := fun r' M9 => r' = none ∧ M9 = M1) (gcts_ok x q2) (by rw [c1]; exact c2) (by rw [c1]; exact c3) (by rw [c1]; exact q3) (by rw [c1]; exact g1 d1 (Nat.le_refl _))
                    rw [c1] at this
                    exact this
                  refine ⟨by omega, fun n hn => ?_⟩
                  have kk : ∀ (r' : Option gV) (M9 : gMe), (r' = none ∧ M9 = M1) → Go G (gmt j) n a2 b2 nx lv (r'.toList ++ rest) M9 (fun r' M1 => r' = r ∧ M1 = M') := by
                    rintro r' M9 ⟨rfl, rfl⟩
                    exact g2 n (by omega)
                  rcases ho with rfl | rfl
                  · exact Go.callI hg w2 c5 c4 q1 (by omega) hM kk
                  · exact Go.callN hg w2 c5 c4 q1 (by omega) hM kk
                · cases h
              · cases h
            · cases h
        · split at h
          · cases h
          · rename_i pc' lv' st' M1 da db h1
            split at h
            · rename_i r2 M2 a2 b2 d2 h2
              cases h
              obtain ⟨e2, g2⟩ := ih _ _ _ _ _ h2
              exact ⟨by omega, fun n hn => gs1_ok hsz (by omega) h1 (g2 n (by omega))⟩
            · cases h
end
section
/-! ===== the world behind the two constructors ===== -/
def gSH : List (Nat × Nat) := [(10, 9), (7, 11), (103, 12), (104, 24), (100, 4), (100, 10), (105, 2), (9, 7), (100, 20), (100, 20), (100, 6), (100, 6), (3, 10), (3, 10), (3, 10), (3, 10), (3, 10), (3, 10), (3, 10), (3, 10), (3, 10), (3, 10), (3, 10), (3, 10), (2, 14), (2, 14), (2, 14), (2, 14), (2, 14), (2, 14), (2, 14), (2, 14), (2, 14), (2, 14), (2, 14), (2, 14), (2, 14), (2, 14), (2, 14), (2, 14), (2, 14), (2, 14), (2, 14), (2, 14), (2, 14), (2, 14), (2, 14), (2, 14), (1, 4), (100, 120), (100, 120), (1, 4), (100, 120), (100, 120), (7, 11), (103, 12), (104, 24), (100, 4), (100, 10), (105, 2), (9, 7), (100, 20), (100, 20), (100, 6), (100, 6), (3, 10), (3, 10), (3, 10), (3, 10), (3, 10), (3, 10), (3, 10), (3, 10), (3, 10), (3, 10), (3, 10), (3, 10), (2, 14), (2, 14), (2, 14), (2, 14), (2, 14), (2, 14), (2, 14), (2, 14), (2, 14), (2, 14), (2, 14), (2, 14), (2, 14), (2, 14), (2, 14), (2, 14), (2, 14), (2, 14), (2, 14), (2, 14), (2, 14), (2, 14), (2, 14), (2, 14), (1, 4), (100, 120), (100, 120), (1, 4), (100, 120), (100, 120), (0, 2), (102, 12), (102, 12), (4, 14), (100, 4), (100, 4), (100, 5), (100, 5), (107, 4), (100, 12), (100, 12), (100, 12), (100, 12), (107, 4), (100, 4), (100, 4), (100, 4), (100, 4), (100, 4), (100, 4), (5, 7), (100, 24), (100, 24), (100, 24), (100, 12), (8, 11), (100, 120), (100, 120), (100, 121), (100, 121), (100, 121), (106, 4), (6, 3), (100, 60), (6, 3), (100, 60), (6, 3), (100, 60), (6, 3), (100, 60), (100, 7), (11, 46), (100, 96), (100, 12), (100, 12), (100, 288), (100, 4), (100, 20), (100, 20), (100, 10), (100, 2), (100, 240), (100, 7), (101, 100), (100, 4), (100, 12), (100, 4), (100, 120), (100, 120), (100, 120), (100, 120), (100, 53248), (100, 12), (101, 20), (100, 6), (100, 4), (100, 4), (100, 240), (100, 60), (100, 760), (100, 5)]
def gMR (a k : Nat) : Option Nat := match a with
  | 0 => match k with
    | 0 => some 1
    | 1 => some 54
    | 2 => some 107
    | 3 => some 110
    | 4 => some 127
    | 5 => some 132
    | 6 => some 138
    | 7 => some 147
    | _ => none
  | 1 => match k with
    | 4 => some 2
    | 5 => some 3
    | 6 => some 4
    | 7 => some 5
    | 8 => some 6
    | 9 => some 7
    | 10 => some 11
    | _ => none
  | 2 => if k < 12 then some (12 + k) else none
  | 3 => if k < 24 then some (24 + k) else none
  | 6 => match k with
    | 0 => some 48
    | 1 => some 51
    | _ => none
  | 7 => match k with
    | 4 => some 8
    | 5 => some 9
    | 6 => some 10
    | _ => none
  | 48 => match k with
    | 2 => some 49
    | 3 => some 50
    | _ => none
  | 51 => match k with
    | 2 => some 52
    | 3 => some 53
    | _ => none
  | 54 => match k with
    | 4 => some 55
    | 5 => some 56
    | 6 => some 57
    | 7 => some 58
    | 8 => some 59
    | 9 => some 60
    | 10 => some 64
    | _ => none
  | 55 => if k < 12 then some (65 + k) else none
  | 56 => if k < 24 then some (77 + k) else none
  | 59 => match k with
    | 0 => some 101
    | 1 => some 104
    | _ => none
  | 60 => match k with
    | 4 => some 61
    | 5 => some 62
    | 6 => some 63
    | _ => none
  | 101 => match k with
    | 2 => some 102
    | 3 => some 103
    | _ => none
  | 104 => match k with
    | 2 => some 105
    | 3 => some 106
    | _ => none
  | 107 => match k with
    | 0 => some 108
    | 1 => some 109
    | _ => none
  | 110 => match k with
    | 0 => some 1
    | 1 => some 107
    | 3 => some 111
    | 4 => some 112
    | 5 => some 113
    | 6 => some 114
    | 7 => some 115
    | 8 => some 120
    | 9 => some 125
    | 10 => some 126
    | _ => none
  | 115 => if k < 4 then some (116 + k) else none
  | 120 => if k < 4 then some (121 + k) else none
  | 127 => match k with
    | 0 => some 1
    | 2 => some 128
    | 3 => some 129
    | 4 => some 130
    | 5 => some 131
    | _ => none
  | 132 => match k with
    | 4 => some 133
    | 5 => some 134
    | 6 => some 135
    | 7 => some 136
    | 8 => some 137
    | _ => none
  | 138 => match k with
    | 0 => some 139
    | 1 => some 141
    | 2 => some 143
    | 3 => some 145
    | _ => none
  | 139 => match k with
    | 2 => some 140
    | _ => none
  | 141 => match k with
    | 2 => some 142
    | _ => none
  | 143 => match k with
    | 2 => some 144
    | _ => none
  | 145 => match k with
    | 2 => some 146
    | _ => none
  | 148 => match k with
    | 3 => some 149
    | 4 => some 150
    | 5 => some 151
    | 7 => some 152
    | 8 => some 153
    | 10 => some 154
    | 11 => some 155
    | 12 => some 156
    | 13 => some 157
    | 14 => some 158
    | 15 => some 159
    | 16 => some 160
    | 17 => some 161
    | 18 => some 162
    | 19 => some 163
    | 21 => some 164
    | 27 => some 165
    | 28 => some 166
    | 33 => some 167
    | 34 => some 168
    | 35 => some 169
    | 36 => some 170
    | 37 => some 171
    | 38 => some 172
    | 39 => some 173
    | 40 => some 174
    | 41 => some 175
    | 43 => some 176
    | 45 => some 177
    | _ => none
  | _ => none
def gE0 : gMe := ([], fun _ _ => 0, fun _ _ => 0, fun _ _ => none)
def gE1 : gMe := mN gE0 [(10, 9)]
def gX1 : gRs := gex 1836 102 0 (gpad 2 (garg [gr 0])) [] gE1
def gM1 : gMe := match gX1 with
  | some q => q.2.1
  | none => gE0
set_option maxRecDepth 1000000 in
theorem gX1_n : gX1.map (fun q => (q.1.isNone, q.2.2)) = some (true, 147, 3238, 3) := by decide +kernel
theorem gX1_eq : gX1 = some (none, gM1, 147, 3238, 3) := by
  have h := gX1_n
  unfold gM1
  generalize gX1 = X at h ⊢
  cases X with
  | none => cases h
  | some q =>
    obtain ⟨r, M, a, b, d⟩ := q
    simp only [Option.map_some, Option.some.injEq, Prod.mk.injEq] at h
    obtain ⟨h1, rfl, rfl, rfl⟩ := h
    cases r with
    | none => rfl
    | some v => cases h1
def gE2 : gMe := mN gM1 [(11, 46)]
def gX2 : gRs := gex 185 152 0 (gpad 1 (garg [gr 148])) [] gE2
def gM2 : gMe := match gX2 with
  | some q => q.2.1
  | none => gE0
set_option maxRecDepth 1000000 in
theorem gX2_n : gX2.map (fun q => (q.1.isNone, q.2.2)) = some (true, 29, 55670, 1) := by decide +kernel
theorem gX2_eq : gX2 = some (none, gM2, 29, 55670, 1) := by
  have h := gX2_n
  unfold gM2
  generalize gX2 = X at h ⊢
  cases X with
  | none => cases h
  | some q =>
    obtain ⟨r, M, a, b, d⟩ := q
    simp only [Option.map_some, Option.some.injEq, Prod.mk.injEq] at h
    obtain ⟨h1, rfl, rfl, rfl⟩ := h
    cases r with
    | none => rfl
    | some v => cases h1
set_option maxRecDepth 1000000 in
theorem gM1_len : gM1.1.length = 148 := by decide +kernel
set_option maxRecDepth 1000000 in
theorem gM2_sh : gM2.1 = gSH := by decide +kernel
def grefs : List (Nat × Nat) := [(0, 9), (1, 11), (2, 12), (3, 24), (6, 2), (7, 7), (12, 10), (13, 10), (14, 10), (15, 10), (16, 10), (17, 10), (18, 10), (19, 10), (20, 10), (21, 10), (22, 10), (23, 10), (24, 14), (25, 14), (26, 14), (27, 14), (28, 14), (29, 14), (30, 14), (31, 14), (32, 14), (33, 14), (34, 14), (35, 14), (36, 14), (37, 14), (38, 14), (39, 14), (40, 14), (41, 14), (42, 14), (43, 14), (44, 14), (45, 14), (46, 14), (47, 14), (48, 4), (51, 4), (54, 11), (55, 12), (56, 24), (59, 2), (60, 7), (65, 10), (66, 10), (67, 10), (68, 10), (69, 10), (70, 10), (71, 10), (72, 10), (73, 10), (74, 10), (75, 10), (76, 10), (77, 14), (78, 14), (79, 14), (80, 14), (81, 14), (82, 14), (83, 14), (84, 14), (85, 14), (86, 14), (87, 14), (88, 14), (89, 14), (90, 14), (91, 14), (92, 14), (93, 14), (94, 14), (95, 14), (96, 14), (97, 14), (98, 14), (99, 14), (100, 14), (101, 4), (104, 4), (107, 2), (110, 14), (115, 4), (120, 4), (127, 7), (132, 11), (138, 4), (139, 3), (141, 3), (143, 3), (145, 3), (148, 46)]
set_option maxRecDepth 1000000 in
theorem gM2_mr : grefs.all (fun q => (List.range q.2).all (fun k => decide (gM2.2.2.2 q.1 k = gMR q.1 k))) = true := by decide +kernel
end
section
/-! ===== runs of steps ===== -/
abbrev gw (mi : Nat → Nat → Int) (ml : Nat → Nat → Int64) : gMe := (gSH, mi, ml, gMR)
def gruns : Nat → gMt → Nat → List (Option gV) → List gV → gMe → Option (Nat × List (Option gV) × List gV × gMe)
  | 0, _, pc, lv, st, M => some (pc, lv, st, M)
  | k + 1, mt, pc, lv, st, M => match gs1 mt true pc lv st M with
    | some (pc', lv', st', M', 0, 0) => gruns k mt pc' lv' st' M'
    | _ => none
theorem Go.run {G : gG} {mt : gMt} {n mc ms : Nat} {P : Option gV → gMe → Prop} (hsz : G.2.2.2.2.2.2 = true) (hn : 1 ≤ n) : ∀ (k : Nat) {pc pc' : Nat} {lv lv' : List (Option gV)} {st st' : List gV} {M M' : gMe}, gruns k mt pc lv st M = some (pc', lv', st', M') → Go G mt n mc ms pc' lv' st' M' P → Go G mt n mc ms pc lv st M P
  | 0, pc, pc', lv, lv', st, st', M, M', h, kk => by
    cases h
    exact kk
  | k + 1, pc, pc', lv, lv', st, st', M, M', h, kk => by
    unfold gruns at h
    split at h
    · rename_i p1 l1 s1 M1 h1
      have := gs1_ok (mc := mc) (ms := ms) hsz hn h1 (Go.run hsz hn k h kk)
      rw [Nat.zero_add, Nat.zero_add] at this
      exact this
    · cases h
def gret (v : Int) (M : gMe) : Option gV → gMe → Prop := fun r M' => r = some (gi v) ∧ M' = M
theorem tst_of {G : gG} (hsz : G.2.2.2.2.2.2 = true) {n : Nat} (hn : 1 ≤ n) (mi : Nat → Nat → Int) (ml : Nat → Nat → Int64) (a w : Int) (h0 : 0 ≤ a) (h1 : a < 24) (h2 : 0 ≤ w) (h3 : w < 12) : gM G 165 n 0 0 [gr 148, gi a, gi w] (gw mi ml) (gret (mi 152 (12 * a + w).toNat) (gw mi ml)) := by
  refine gM.of mX12_of okX12_of (by decide +kernel) (by decide +kernel) (Nat.le_of_ble_eq_true rfl) ?_
  refine Go.run hsz hn 7 (pc' := 10) (lv' := [some (gr 148), some (gi a), some (gi w)]) (st' := [gi (12 * a + w), gr 152]) (M' := gw mi ml) rfl ?_
  refine Go.iald (by rfl) (N := 288) (by rfl) (by omega) (by omega) (by decide) ?_
  exact Go.iret (by rfl) ⟨rfl, rfl⟩
end
section
/-! ===== the law's loop, over what each call answers ===== -/
/-- the calls of the law: where its case begins, how many ints it takes, the class's method, the reference's -/
def gcs : List (Nat × Nat × Nat × Nat) := [(224, 4, 103, 158), (277, 2, 104, 159), (310, 2, 105, 160), (343, 2, 106, 163), (376, 4, 107, 164), (429, 2, 108, 167), (462, 2, 109, 170), (495, 2, 110, 171), (528, 2, 111, 175), (561, 1, 112, 176), (584, 2, 113, 178), (617, 1, 114, 180), (640, 1, 115, 186), (663, 0, 116, 182), (676, 2, 117, 187), (709, 0, 118, 188), (722, 1, 119, 204), (745, 1, 120, 205), (768, 2, 121, 213), (801, 1, 122, 214), (824, 1, 123, 215), (847, 2, 124, 216), (880, 1, 125, 217), (903, 3, 126, 218), (946, 2, 127, 220), (979, 2, 128, 224), (1012, 1, 129, 225), (1035, 4, 130, 226), (1088, 1, 131, 228), (1111, 2, 132, 230), (1144, 2, 133, 231), (1177, 2, 134, 232), (1210, 0, 135, 233), (1223, 1, 136, 234), (1246, 2, 137, 235), (1279, 2, 138, 236), (1312, 3, 139, 238), (1355, 3, 140, 239), (1398, 5, 141, 240), (1461, 0, 142, 243), (1474, 0, 143, 244), (1487, 0, 144, 245), (1500, 1, 145, 246), (1523, 1, 146, 247)]
def gpush (q : Nat) (np : Nat) : Bool := (List.range np).all (fun i => decide (gat mL_law (q + 5 * i) = some (2, 0, 0, 2, q + 5 * i + 1)) && decide (gat mL_law (q + 5 * i + 1) = some (2, 0, 3, 0, q + 5 * i + 2)) && decide (gat mL_law (q + 5 * i + 2) = some (0, (i : Int) + 1, 0, 0, q + 5 * i + 3)) && decide (gat mL_law (q + 5 * i + 3) = some (10, 0, 0, 0, q + 5 * i + 4)) && decide (gat mL_law (q + 5 * i + 4) = some (43, 0, 0, 0, q + 5 * i + 5)))
def gcase (c : Nat × Nat × Nat × Nat) : Bool :=
  let p0 := c.1
  let np := c.2.1
  let p1 := p0 + 1 + 5 * np
  let p2 := p1 + 4 + 5 * np
  decide (gat mL_law p0 = some (2, 0, 1, 2, p0 + 1)) && gpush (p0 + 1) np && decide (gat mL_law p1 = some (80, 0, c.2.2.1, np, p1 + 3)) && decide (gat mL_law (p1 + 3) = some (2, 0, 2, 2, p1 + 4)) && gpush (p1 + 4) np && decide (gat mL_law p2 = some (80, 0, c.2.2.2, np, p2 + 3)) && decide (gat mL_law (p2 + 3) = some (62, 0, 1546, 0, p2 + 6)) && decide (np ≤ 5) && decide (gR 10 = (gH c.2.2.1).1.cls) && decide (gR 11 = (gH c.2.2.2).1.cls) && decide ((gH c.2.2.1).2.2.1 ≤ 40) && decide ((gH c.2.2.2).2.2.1 ≤ 40)
set_option maxRecDepth 1000000 in
theorem gcs_0 : (gcs.take 11).all gcase = true := by decide +kernel
set_option maxRecDepth 1000000 in
theorem gcs_1 : ((gcs.drop 11).take 11).all gcase = true := by decide +kernel
set_option maxRecDepth 1000000 in
theorem gcs_2 : ((gcs.drop 22).take 11).all gcase = true := by decide +kernel
set_option maxRecDepth 1000000 in
theorem gcs_3 : (gcs.drop 33).all gcase = true := by decide +kernel
theorem gcs_ok : gcs.all gcase = true := by
  have e : gcs = gcs.take 11 ++ ((gcs.drop 11).take 11 ++ ((gcs.drop 22).take 11 ++ gcs.drop 33)) := by decide +kernel
  rw [e]
  simp only [List.all_append, gcs_0, gcs_1, gcs_2, gcs_3, Bool.and_self]
theorem gcs_sw : ∀ k : Nat, k < 44 → (swL_law.lookup 33).bind (fun l => l[k]?) = (gcs[k]?).map (fun c => ((k : Int), c.1)) := by decide +kernel
end
section
set_option maxRecDepth 1000000 in
theorem gl_1546 : gat mL_law 1546 = some (5, 6, 3, 0, 1549) := by decide +kernel
set_option maxRecDepth 1000000 in
theorem gl_1549 : gat mL_law 1549 = some (60, 0, 18, 0, 1552) := by decide +kernel
set_option maxRecDepth 1000000 in
theorem gl_1552 : gat mL_law 1552 = some (0, 1, 0, 0, 1553) := by decide +kernel
set_option maxRecDepth 1000000 in
theorem gl_1553 : gat mL_law 1553 = some (70, 0, 0, 1, 1554) := by decide +kernel
theorem gl_nL : 3 < (gH mL_law.1).2.2.1 := by decide +kernel
/-- one call: class and reference answer alike, and what holds between them holds again -/
def gOp (G : gG) (Inv : Nat → (Nat → Nat → Int) → (Nat → Nat → Int64) → Prop) (jc jm np : Nat) : Prop := ∀ (t : Nat) (mi : Nat → Nat → Int) (ml : Nat → Nat → Int64) (xs : List Int), xs.length = np → (∀ x ∈ xs, rng x) → t < 64 → Inv t mi ml → ∃ P1 : Option gV → gMe → Prop, gM G jc 399 0 0 (gr 0 :: xs.map gi) (gw mi ml) P1 ∧ ∀ (r : Option gV) (M1 : gMe), P1 r M1 → ∃ z : Int, r = some (gi z) ∧ rng z ∧ ∃ (mi1 : Nat → Nat → Int) (ml1 : Nat → Nat → Int64), M1 = gw mi1 ml1 ∧ ∃ P2 : Option gV → gMe → Prop, gM G jm 399 0 0 (gr 148 :: xs.map gi) (gw mi1 ml1) P2 ∧ ∀ (r2 : Option gV) (M2 : gMe), P2 r2 M2 → r2 = some (gi z) ∧ ∃ (mi' : Nat → Nat → Int) (ml' : Nat → Nat → Int64), M2 = gw mi' ml' ∧ Inv (t + 1) mi' ml'
section LAW
variable {G : gG} {P : Option gV → gMe → Prop}
/-- the ints of a call, pushed one by one -/
theorem law_push {lv : List (Option gV)} {M : gMe} {q : Nat} {i6 : Int} (hlv : lv[0]? = some (some (gs 2))) (hlv3 : lv[3]? = some (some (gi i6))) (h0 : 0 ≤ i6) (hL : gsn G 2 ≤ 384) (h1 : i6 + 6 ≤ gsn G 2) : ∀ (np : Nat) (st : List gV), np ≤ 5 → gpush q np = true → Go G mL_law 400 0 0 (q + 5 * np) lv (((List.range np).map (fun (i : Nat) => gi (gsc G 2 (i6 + ((i : Int) + 1)).toNat))).reverse ++ st) M P → Go G mL_law 400 0 0 q lv st M P := by
  intro np
  induction np with
  | zero => intro st _ _ k; exact k
  | succ np ih =>
    intro st h5 hp k
    unfold gpush at hp
    rw [List.range_succ, List.all_append, Bool.and_eq_true] at hp
    obtain ⟨hp1, hh⟩ := hp
    refine ih st (by omega) hp1 ?_
    simp only [List.all_cons, List.all_nil, Bool.and_true, Bool.and_eq_true, decide_eq_true_eq] at hh
    obtain ⟨⟨⟨⟨c1, c2⟩, c3⟩, c4⟩, c5⟩ := hh
    refine Go.load c1 hlv rfl ?_
    refine Go.load c2 hlv3 rfl ?_
    refine Go.const c3 ?_
    refine Go.iadd c4 ?_
    refine Go.sald c5 (Or.inr rfl) (by omega) (by omega) (by omega) ?_
    rw [List.range_succ, List.map_append, List.reverse_append] at k
    exact k
theorem law_case {Inv : Nat → (Nat → Nat → Int) → (Nat → Nat → Int64) → Prop} {c : Nat × Nat × Nat × Nat} (hc : gcase c = true) (hop : gOp G Inv c.2.2.1 c.2.2.2 c.2.1) {t : Nat} {mi : Nat → Nat → Int} {ml : Nat → Nat → Int64} (hI : Inv t mi ml) (ht : t < 64) {i6 : Int} (h0 : 0 ≤ i6) (hL : gsn G 2 ≤ 384) (h1 : i6 + 6 ≤ gsn G 2) (hr : ∀ k, rng (gsc G 2 k)) (kk : ∀ mi' ml', Inv (t + 1) mi' ml' → Go G mL_law 400 0 0 1546 [some (gs 2), some (gr 0), some (gr 148), some (gi i6)] [] (gw mi' ml') P) : Go G mL_law 400 0 0 c.1 [some (gs 2), some (gr 0), some (gr 148), some (gi i6)] [] (gw mi ml) P := by
  obtain ⟨p0, np, jc, jm⟩ := c
  unfold gcase at hc
  simp only [Bool.and_eq_true, decide_eq_true_eq] at hc
  obtain ⟨⟨⟨⟨⟨⟨⟨⟨⟨⟨⟨c1, c2⟩, c3⟩, c4⟩, c5⟩, c6⟩, c7⟩, c8⟩, c9⟩, c10⟩, c11⟩, c12⟩ := hc
  have hd : ∀ {C : String}, (C = RX11 ∨ C = RX12) → C ≠ "java/lang/invoke/MethodHandle" ∧ C ≠ "java/lang/invoke/VarHandle" := by
    rintro C (rfl | rfl) <;> exact ⟨by decide +kernel, by decide +kernel⟩
  obtain ⟨P1, hM1, hP1⟩ := hop t mi ml ((List.range np).map (fun (i : Nat) => gsc G 2 (i6 + ((i : Int) + 1)).toNat)) (by simp) (fun x hx => by
    obtain ⟨i, -, rfl⟩ := List.mem_map.mp hx
    exact hr _) ht hI
  have hmap : ((List.range np).map (fun (i : Nat) => gsc G 2 (i6 + ((i : Int) + 1)).toNat)).map gi = (List.range np).map (fun (i : Nat) => gi (gsc G 2 (i6 + ((i : Int) + 1)).toNat)) := by simp
  rw [hmap] at hM1
  refine Go.load c1 (v := gr 0) rfl rfl ?_
  refine law_push rfl rfl h0 hL h1 np [gr 0] c8 c2 ?_
  refine Go.callV (mc1 := 0) (mc := 0) (ms1 := 0) (ms := 0) (n1 := 399) (st := []) c3 (by simp) (c := 10) (N := 9) (by rfl) (by decide) c9 (hd (Or.inl c9.symm)) c11 rfl (by decide) (by decide) hM1 ?_
  intro r M1 hr1
  obtain ⟨z, rfl, hz, mi1, ml1, rfl, P2, hM2, hP2⟩ := hP1 r M1 hr1
  rw [hmap] at hM2
  refine Go.load c4 (v := gr 148) rfl rfl ?_
  refine law_push rfl rfl h0 hL h1 np [gr 148, gi z] c8 c5 ?_
  refine Go.callV (mc1 := 0) (mc := 0) (ms1 := 0) (ms := 0) (n1 := 399) (st := [gi z]) c6 (by simp) (c := 11) (N := 46) (by rfl) (by decide) c10 (hd (Or.inr c10.symm)) c12 rfl (Nat.le_of_ble_eq_true rfl) (by decide) hM2 ?_
  intro r2 M2 hr2
  obtain ⟨rfl, mi', ml', rfl, hI'⟩ := hP2 r2 M2 hr2
  exact Go.icmp_eq c7 hz hz (fun _ => kk mi' ml' hI') (fun h => absurd rfl h)
theorem law_loop {Inv : Nat → (Nat → Nat → Int) → (Nat → Nat → Int64) → Prop} (hops : ∀ c ∈ gcs, gOp G Inv c.2.2.1 c.2.2.2 c.2.1) (hmono : ∀ t mi ml, Inv t mi ml → Inv (t + 1) mi ml) (hL : gsn G 2 ≤ 384) (hr : ∀ k, rng (gsc G 2 k)) (hP : ∀ M, P (some (gi 1)) M) : ∀ (f t : Nat) (mi : Nat → Nat → Int) (ml : Nat → Nat → Int64), f + 6 * t = gsn G 2 + 6 ∨ (gsn G 2 < 6 * t ∧ 6 * t ≤ gsn G 2 + 6) → Inv t mi ml → Go G mL_law 400 0 0 18 [some (gs 2), some (gr 0), some (gr 148), some (gi (6 * t))] [] (gw mi ml) P := by
  intro f
  induction f using Nat.strongRecOn with
  | ind f ih =>
    intro t mi ml hf hI
    have ht : 6 * t ≤ gsn G 2 + 6 := by omega
    refine Go.load (by rfl) (v := gi (6 * t)) rfl rfl ?_
    refine Go.load (by rfl) (v := gs 2) rfl rfl ?_
    refine Go.salen (by rfl) (Or.inr rfl) ?_
    refine Go.const (by rfl) ?_
    refine Go.isub (by rfl) ?_
    refine Go.icmp_gt (by rfl) ⟨by omega, by omega⟩ ⟨by omega, by omega⟩ (fun hgt => ?_) (fun hle => ?_)
    · refine Go.const gl_1552 ?_
      exact Go.zret gl_1553 (Or.inr rfl) (hP _)
    · have h6 : (6 * t : Int) + 6 ≤ gsn G 2 := by omega
      have next : ∀ mi' ml', Inv (t + 1) mi' ml' → Go G mL_law 400 0 0 1546 [some (gs 2), some (gr 0), some (gr 148), some (gi (6 * t))] [] (gw mi' ml') P := by
        intro mi' ml' hI'
        refine Go.iinc gl_1546 (w := 6 * t) rfl gl_nL ?_
        refine Go.goto gl_1549 ?_
        have := ih (gsn G 2 + 6 - 6 * (t + 1)) (by omega) (t + 1) mi' ml' (by omega) hI'
        rw [show (6 * ((t + 1 : Nat) : Int)) = 6 * (t : Int) + 6 by omega] at this
        exact this
      refine Go.load (by rfl) (v := gs 2) rfl rfl ?_
      refine Go.load (by rfl) (v := gi (6 * t)) rfl rfl ?_
      refine Go.sald (by rfl) (Or.inr rfl) (by omega) (by omega) (by omega) ?_
      refine Go.const (by rfl) ?_
      refine Go.iand (by rfl) ?_
      generalize (iI (gsc G 2 (6 * (t : Int)).toNat) &&& iI 63) = w
      have hw := rng_of w
      generalize w.toInt = w at hw ⊢
      by_cases hin : 0 ≤ w ∧ w < 44
      · obtain ⟨hw0, hw1⟩ := hin
        have hsw := gcs_sw w.toNat (by omega)
        obtain ⟨c, hc⟩ : ∃ c, gcs[w.toNat]? = some c := ⟨gcs[w.toNat]'(by show _ < 44; omega), List.getElem?_eq_getElem _⟩
        have hmem := List.mem_of_getElem? hc
        rw [hc] at hsw
        obtain ⟨lst, hlst⟩ : ∃ lst, swL_law.lookup 33 = some lst := ⟨_, rfl⟩
        rw [hlst] at hsw
        refine Go.tsw_in (l := lst) (w' := ((w.toNat : Nat) : Int)) (t := c.1) (by rfl) hlst hw (by omega) (by omega) (by rw [show (w - 0).toNat = w.toNat by omega]; exact hsw) ?_
        exact law_case (List.all_eq_true.mp gcs_ok c hmem) (hops c hmem) hI (by omega) (by omega) hL h6 hr next
      · refine Go.tsw_out (l := _) (by rfl) (by rfl) hw (by omega) ?_
        exact next mi ml (hmono _ _ _ hI)
end LAW
end
section
/-! ===== from the law's entry: classes, static rows, the two constructors ===== -/
def R_law : String := "FieldPitchesLaw"
def lw_P (b : Addr) (xs : List Int32) (args : Array Value) (s : State) : Prop := args = #[.ref b] ∧ s.IntsAt b xs ∧ xs.length ≤ 384 ∧ (Jvm.Cond.and given_1 narrow_1).before args s = true
def lw_Q (_ : Array Value) (s : State) (o : Outcome) (t : State) : Prop := o = .returned (some (.int 1)) ∧ Framed s o t [] 600000 7302250
def lw_Z (below : List Frame) (a : Array Value) (s : State) : State → Prop := fun t => ∃ o, t.status = .running ∧ Ended t below o ∧ lw_Q a s o t
/-- what holds at the law's entry: the machine, the code, the tables' words (any of lw_tbl by 'hts w (by decide +kernel)'), the script of L ints xs at the cell b, what the Statement gives of the start (any of its parts by flat_of_before) -/
def lw_At (p : Program) (s : State) (m : MethodId) (meth : Method) (c : Code) (b L : Nat) (xs : Nat → Int32) : Prop :=
  p.tables.exec = Jvm.exec ∧ c.code = code ∧ meth.sig.returnType = ret ∧ c.maxLocals = 4 ∧ s.vm.findClass R_law = some m.cls ∧ (∀ w ∈ lw_tbl, w.before #[Value.ref b] s = true) ∧ va_X b L xs s s.heap ∧ b < s.heap.size ∧ meth.locks = false ∧ (Jvm.Cond.and given_1 narrow_1).before #[Value.ref b] s = true

theorem arrV_ext {c : ClassId} {N : Nat} {f g : Nat → Value} (h : ∀ j, j < N → f j = g j) : arrV c N f = arrV c N g := by
  have e : (arrV c N f).slots = (arrV c N g).slots := by
    apply Array.ext
    · rw [arrV_size, arrV_size]
    · intro i h1 h2
      have h3 : i < N := by rw [arrV_size] at h1; exact h1
      have e1 := arrV_read c f h3
      have e2 := arrV_read c g h3
      rw [Array.getElem?_eq_getElem h1] at e1
      rw [Array.getElem?_eq_getElem h2] at e2
      rw [Option.some.inj e1, Option.some.inj e2, h i h3]
  show ({ cls := c, slots := (arrV c N f).slots, vm := .none } : Cell) = { cls := c, slots := (arrV c N g).slots, vm := .none }
  rw [e]
/-- the world's references, as a table -/
theorem gsw_ok : ∀ (a : Nat) (q : Nat × Nat), gSH[a]? = some q → (q.1 < 100 → ∀ k, k < gN q.1 → gM2.2.2.2 a k = gMR a k) ∧ (103 ≤ q.1 → ∀ k, k < q.2 → gM2.2.2.2 a k = gMR a k) := by
  intro a q hq
  have hall := List.all_eq_true.mp gM2_mr
  have hlt : a < gSH.length := (List.getElem?_eq_some_iff.mp hq).1
  have tab : (List.range gSH.length).all (fun a => match gSH[a]? with | some q => (!decide (q.1 < 100) || decide ((a, gN q.1) ∈ grefs)) && (!decide (103 ≤ q.1) || decide ((a, q.2) ∈ grefs)) | none => true) = true := by decide +kernel
  have ha := List.all_eq_true.mp tab a (List.mem_range.mpr hlt)
  rw [hq] at ha
  simp only [Bool.and_eq_true, Bool.or_eq_true, Bool.not_eq_true', decide_eq_false_iff_not, decide_eq_true_eq] at ha
  have ha : (q.1 < 100 → (a, gN q.1) ∈ grefs) ∧ (103 ≤ q.1 → (a, q.2) ∈ grefs) := ⟨fun h => ha.1.resolve_left (fun n => n h), fun h => ha.2.resolve_left (fun n => n h)⟩
  refine ⟨fun h k hk => ?_, fun h k hk => ?_⟩
  · have := List.all_eq_true.mp (hall _ (ha.1 h)) k (List.mem_range.mpr hk)
    simpa using this
  · have := List.all_eq_true.mp (hall _ (ha.2 h)) k (List.mem_range.mpr hk)
    simpa using this
theorem gWd_sw {G : gG} {A : gMe} {H : Heap} (hsh : A.1 = gSH) (hmr : ∀ (a : Nat) (q : Nat × Nat), gSH[a]? = some q → (q.1 < 100 → ∀ k, k < gN q.1 → A.2.2.2 a k = gMR a k) ∧ (103 ≤ q.1 → ∀ k, k < q.2 → A.2.2.2 a k = gMR a k)) (hW : gWd G A H) : gWd G (gw A.2.1 A.2.2.1) H := by
  refine ⟨by have := hW.1; rw [hsh] at this; exact this, fun h => by have := hW.2.1 h; rw [hsh] at this; exact this, fun a q hq => ?_⟩
  have h := hW.2.2 a q (by rw [hsh]; exact hq)
  obtain ⟨t1, t2⟩ := hmr a q hq
  unfold gent at h ⊢
  by_cases hc : q.1 < 100
  · rw [if_pos hc] at h ⊢
    have e2 : (List.range (gN q.1)).map (gfv G A a q.1) = (List.range (gN q.1)).map (gfv G (gw A.2.1 A.2.2.1) a q.1) := by
      apply List.map_congr_left
      intro k hk
      unfold gfv
      rw [t1 hc k (List.mem_range.mp hk)]
    rw [e2] at h
    exact h
  · rw [if_neg hc] at h ⊢
    by_cases h1 : q.1 ≤ 101
    · rw [if_pos h1] at h ⊢
      exact h
    · rw [if_neg h1] at h ⊢
      by_cases h2 : q.1 = 102
      · rw [if_pos h2] at h ⊢
        exact h
      · rw [if_neg h2] at h ⊢
        have h9 : H[gb G + a]? = some (arrV (G.2.1 (q.1 - 100)) q.2 (fun j => va_rf ((A.2.2.2 a j).map (fun x => gb G + x)))) := h
        show H[gb G + a]? = some (arrV (G.2.1 (q.1 - 100)) q.2 (fun j => va_rf ((gMR a j).map (fun x => gb G + x))))
        rw [h9]
        congr 1
        exact arrV_ext (fun j hj => by rw [t2 (by omega) j hj])
theorem Go.sw {G : gG} {mt : gMt} {n mc ms pc : Nat} {lv : List (Option gV)} {st : List gV} {M M' : gMe} {P : Option gV → gMe → Prop} (h : ∀ H, gWd G M H → gWd G M' H) (k : Go G mt n mc ms pc lv st M' P) : Go G mt n mc ms pc lv st M P := by
  intro p l e R s m args below meth cd H locs cells slots ls cx hS hW hL hc hs
  exact k p l e R s m args below meth cd H locs cells slots ls cx hS (h H hW) hL hc hs
theorem gctor {G : gG} (hsz : G.2.2.2.2.2.2 = true) {f x b mc ms d : Nat} {M M1 : gMe} (hx : x ∈ gcts) (hlen : (garg [gr b]).length ≤ (gH x).2.2.1) (h : gex f x 0 (gpad (gH x).2.2.1 (garg [gr b])) [] M = some (none, M1, mc, ms, d)) : gM G x d mc ms [gr b] M (fun r M9 => r = none ∧ M9 = M1) := by
  obtain ⟨c1, c2, c3, c4, c5⟩ := gcts_ok2 x hx
  have := gM.of (G := G) (gmt x) (n := d) (mc := mc) (ms := ms) (av := [gr b]) (M := M) (P := fun r' M9 => r' = none ∧ M9 = M1) (gcts_ok x hx) (by rw [c1]; exact c2) (by rw [c1]; exact c3) (by rw [c1]; exact hlen) (by rw [c1]; exact (gex_ok hsz f x 0 _ [] M h).2 d (Nat.le_refl _))
  rw [c1] at this
  exact this
theorem law_go {G : gG} (hsz : G.2.2.2.2.2.2 = true) {f1 f2 : Nat} {A1 A2 : gMe} (h1 : gex f1 102 0 (gpad (gH 102).2.2.1 (garg [gr 0])) [] gE1 = some (none, A1, 147, 3238, 3)) (hlen : A1.1.length = 148) (h2 : gex f2 152 0 (gpad (gH 152).2.2.1 (garg [gr 148])) [] (mN A1 [(11, 46)]) = some (none, A2, 29, 55670, 1)) (hsw : ∀ H, gWd G A2 H → gWd G (gw A2.2.1 A2.2.2.1) H) {Inv : Nat → (Nat → Nat → Int) → (Nat → Nat → Int64) → Prop} (hI0 : Inv 0 A2.2.1 A2.2.2.1) (hmono : ∀ t mi ml, Inv t mi ml → Inv (t + 1) mi ml) (hops : ∀ c ∈ gcs, gOp G Inv c.2.2.1 c.2.2.2 c.2.1) (hL : gsn G 2 ≤ 384) (hr : ∀ k, rng (gsc G 2 k)) : Go G mL_law 400 (1 + (147 + (1 + (29 + 0)))) (gN 10 + (3238 + (gN 11 + (55670 + 0)))) 0 [some (gs 2), none, none, none] [] gE0 (fun r _ => r = some (gi 1)) := by
  have hd : ∀ {C : String}, (C = RX11 ∨ C = RX12) → C ≠ "java/lang/invoke/MethodHandle" ∧ C ≠ "java/lang/invoke/VarHandle" := by
    rintro C (rfl | rfl) <;> exact ⟨by decide +kernel, by decide +kernel⟩
  have M1 : gM G 102 3 147 3238 [gr 0] gE1 (fun r M9 => r = none ∧ M9 = A1) := gctor hsz (by decide) (by decide +kernel) h1
  have M2 : gM G 152 1 29 55670 [gr 148] (mN A1 [(11, 46)]) (fun r M9 => r = none ∧ M9 = A2) := gctor hsz (by decide) (by decide +kernel) h2
  refine Go.new (by rfl) hsz ?_
  refine Go.dup (by rfl) (fun q h => by cases h) ?_
  refine Go.callI (As := []) (b := 0) (n1 := 3) (mc1 := 147) (ms1 := 3238) (by rfl) rfl (hd (Or.inl rfl)) (by decide +kernel) (Nat.le_of_ble_eq_true rfl) (by decide) M1 ?_
  rintro r M9 ⟨rfl, rfl⟩
  refine Go.store (by rfl) (v := gr 0) rfl (by decide +kernel) ?_
  refine Go.new (by rfl) hsz ?_
  rw [hlen]
  refine Go.dup (by rfl) (fun q h => by cases h) ?_
  refine Go.callI (As := []) (b := 148) (n1 := 1) (mc1 := 29) (ms1 := 55670) (by rfl) rfl (hd (Or.inr rfl)) (by decide +kernel) (Nat.le_of_ble_eq_true rfl) (by decide) M2 ?_
  rintro r M9 ⟨rfl, rfl⟩
  refine Go.store (by rfl) (v := gr 148) rfl (by decide +kernel) ?_
  refine Go.const (by rfl) ?_
  refine Go.store (by rfl) (v := gi 0) rfl (by decide +kernel) ?_
  refine Go.sw hsw ?_
  exact law_loop hops hmono hL hr (fun _ => rfl) (gsn G 2 + 6) 0 _ _ (by omega) hI0
end
section
/-! ===== the law from its entry, over the calls' answers ===== -/
theorem ginst {c : Nat} (h : c < 12) : Cond.instantiable (gR c) (gN c) ∈ lw_tbl := by
  have tab : ∀ c, c < 12 → ∃ q ∈ gCL, q.2.2 = c := by decide +kernel
  obtain ⟨q, hq, rfl⟩ := tab c h
  exact (gCL_ok q hq).2.1
theorem gKall {s : State} {args : Array Value} (hts : ∀ w ∈ gTB, w.before args s = true) : ∃ f : Nat → ClassId × (Nat → Nat), ∀ k, k < 12 → u_Kn s (gR k) (gT k) (gN k) (f k).1 (f k).2 := by
  have h0 : ∀ k, k < 12 → ∃ x : ClassId × (Nat → Nat), u_Kn s (gR k) (gT k) (gN k) x.1 x.2 := fun k hk => by
    obtain ⟨cC, iS, h⟩ := u_known (C := gR k) (T := gT k) (N := gN k) (n := gN k) hts (ginA hk) (hts _ (gTB_in (ginst hk) rfl))
    exact ⟨(cC, iS), h⟩
  have h1 : ∀ k : Nat, ∃ x : ClassId × (Nat → Nat), k < 12 → u_Kn s (gR k) (gT k) (gN k) x.1 x.2 := fun k => by
    by_cases hk : k < 12
    · obtain ⟨x, hx⟩ := h0 k hk
      exact ⟨x, fun _ => hx⟩
    · obtain ⟨x, -⟩ := h0 0 (by omega)
      exact ⟨x, fun h => absurd h hk⟩
  exact Classical.skolem.mp h1
theorem gAall {s : State} {args : Array Value} (hts : ∀ w ∈ lw_tbl, w.before args s = true) : ∃ f : Nat → ClassId, ∀ t, t < 8 → ArrOfT s (f t) (gaty t) ∧ va_RA s (f t) (gaty t) := by
  have prim : ∀ ty : FieldType, (Cond.arrayClass ty).before args s = true → ∃ cA, ArrOfT s cA ty ∧ s.vm.findClass ("[" ++ ty.toString) = some cA := fun ty h => by
    obtain ⟨cA, kA, comp, h1, h2, h3⟩ := Cond.arrayClass_spec h
    exact ⟨cA, fun n z => ⟨fun k h => (by cases h), kA, h2, comp, h3⟩, h1⟩
  have obj : ∀ C : String, (Cond.arrayOver (.object C)).before args s = true → ∃ cA, ArrOfT s cA (.object C) ∧ va_RA s cA (.object C) := fun C h => by
    obtain ⟨comp, cA, kA, h1, h2, h3, h4, h5⟩ := Cond.arrayOver_spec h
    exact ⟨cA, fun n z => ⟨fun k h => (by cases h), kA, h3, comp, h4⟩, kA, comp, h3, h4, h1, h5⟩
  have h0 : ∀ t, t < 8 → ∃ cA : ClassId, ArrOfT s cA (gaty t) ∧ va_RA s cA (gaty t) := fun t ht => by
    rcases (show t = 0 ∨ t = 1 ∨ t = 2 ∨ t = 3 ∨ t = 4 ∨ t = 5 ∨ t = 6 ∨ t = 7 by omega) with rfl | rfl | rfl | rfl | rfl | rfl | rfl | rfl
    · exact prim .int (hts _ gac_int)
    · exact prim .boolean (hts _ gac_boolean)
    · exact prim .long (hts _ gac_long)
    · exact obj _ (hts _ gao_Pitch)
    · exact obj _ (hts _ gao_Party)
    · exact obj _ (hts _ gao_Law)
    · exact obj _ (hts _ gao_Sheet)
    · obtain ⟨comp, cA, kA, h1, h2, h3, h4, h5⟩ := arrayOverA_spec (hts _ gao_int)
      exact ⟨cA, fun n z => ⟨fun k h => (by cases h), kA, h3, comp, h4⟩, h5⟩
  have h1 : ∀ t : Nat, ∃ x : ClassId, t < 8 → ArrOfT s x (gaty t) ∧ va_RA s x (gaty t) := fun k => by
    by_cases hk : k < 8
    · obtain ⟨x, hx⟩ := h0 k hk
      exact ⟨x, fun _ => hx⟩
    · obtain ⟨x, -⟩ := h0 0 (by omega)
      exact ⟨x, fun h => absurd h hk⟩
  exact Classical.skolem.mp h1
theorem start_open {Inv : Nat → (Nat → Nat → Int) → (Nat → Nat → Int64) → Prop} (hI0 : Inv 0 gM2.2.1 gM2.2.2.1) (hmono : ∀ t mi ml, Inv t mi ml → Inv (t + 1) mi ml) (hops : ∀ G : gG, G.2.2.2.2.2.2 = true → ∀ c ∈ gcs, gOp G Inv c.2.2.1 c.2.2.2 c.2.1)
    {p : Program} {e : Env} {s : State} {m : MethodId} {below : List Frame} {meth : Method} {c : Code} (l : Launch) {b L : Nat} {xs : Nat → Int32} (hL : L ≤ 384) (C0 : lw_At p s m meth c b L xs) (hname : meth.name = "law") : W p l e room_1 s m #[Value.ref b] below meth c s.heap [] 0 0 (lw_Z below #[Value.ref b] s) (entryFrame m ([Value.ref b] : List Value).toArray 4) := by
  obtain ⟨hx, hb, hr, hml, hown, hts, hX, hbl, hlocks, hgv⟩ := C0
  have htg : ∀ w ∈ gTB, w.before #[Value.ref b] s = true := fun w hw => hts w (List.mem_filter.mp hw).1
  obtain ⟨fc, hfc⟩ := gKall htg
  obtain ⟨fa, hfa⟩ := gAall hts
  have hs := flat_of_before _ hgv
  have hA : ∀ a : Nat, a < s.heap.size → ¬ (fun q : Nat => s.heap.size ≤ q) a := fun a h => Nat.not_le.mpr h
  have Gd : gG := ((fun _ => (fc 0).1, fun _ => (fc 0).2), fa, 0, fun _ => 0, 0, fun _ => 0, true)
  obtain ⟨tA, evA, hTA⟩ := va_Tof (args := #[Value.ref b]) (s := s) (tm := .static "FieldPitches$Kinds" "ABOVE" "[I") (ty := .int) (N := 5) (f := fun j => .int (iI (gsc Gd 0 j))) (A := fun q : Nat => s.heap.size ≤ q) (by decide) (hs _ (by decide +kernel)) (va_eqt (z := 5) (hs _ (by decide +kernel))) (fun j hj => by
    rcases (show j = 0 ∨ j = 1 ∨ j = 2 ∨ j = 3 ∨ j = 4 by omega) with rfl | rfl | rfl | rfl | rfl
    · exact va_eqt (z := -1) (hs _ (by decide +kernel))
    · exact va_eqt (z := 0) (hs _ (by decide +kernel))
    · exact va_eqt (z := 0) (hs _ (by decide +kernel))
    · exact va_eqt (z := 2) (hs _ (by decide +kernel))
    · exact va_eqt (z := 2) (hs _ (by decide +kernel))) hA
  obtain ⟨tN, evN, hTN⟩ := va_Tof (args := #[Value.ref b]) (s := s) (tm := .static "FieldPitches$Tape" "NAMES" "[C") (ty := .char) (N := 6) (f := fun j => .int (iI (gsc Gd 1 j))) (A := fun q : Nat => s.heap.size ≤ q) (by decide) (hs _ (by decide +kernel)) (va_eqt (z := 6) (hs _ (by decide +kernel))) (fun j hj => by
    rcases (show j = 0 ∨ j = 1 ∨ j = 2 ∨ j = 3 ∨ j = 4 ∨ j = 5 by omega) with rfl | rfl | rfl | rfl | rfl | rfl
    · exact va_eqt (z := 108) (hs _ (by decide +kernel))
    · exact va_eqt (z := 97) (hs _ (by decide +kernel))
    · exact va_eqt (z := 110) (hs _ (by decide +kernel))
    · exact va_eqt (z := 107) (hs _ (by decide +kernel))
    · exact va_eqt (z := 100) (hs _ (by decide +kernel))
    · exact va_eqt (z := 111) (hs _ (by decide +kernel))) hA
  have hTS : va_T .int b L (fun j => .int (iI (xs j).toInt)) (fun q : Nat => s.heap.size ≤ q) s s.heap := by
    obtain ⟨scr, h1, h2, h3, h4, h5⟩ := hX
    exact ⟨scr, h1, h2, h3, by omega, by rw [h4], fun j hj => by rw [h5 j hj]; show _ = some (Value.int (iI (xs j).toInt)); rw [iI_of], hA b hbl⟩
  have hgo := law_go (G := ((fun k => (fc k).1, fun k => (fc k).2), fa, s.heap.size, fun k => match k with | 0 => tA | 1 => tN | _ => b, L, fun j => (xs j).toInt, true)) rfl gX1_eq gM1_len gX2_eq (fun H => gWd_sw gM2_sh gsw_ok) hI0 hmono (hops _ rfl) hL (fun k => rng_of _)
  have hl := lv_entry ([.ref b]) (n := 4) (Nat.le_of_ble_eq_true rfl)
  rw [lg_entry_eq]
  generalize (lg_sl ([.ref b]) ++ List.replicate (4 - (lg_sl ([.ref b])).length) Slot.unset).toArray = ls at hl ⊢
  have hK : va_K (fun k => (fc k).1, fun k => (fc k).2) vwCl [(fa 0, gaty 0), (fa 1, gaty 1), (fa 2, gaty 2), (fa 3, gaty 3), (fa 4, gaty 4), (fa 5, gaty 5), (fa 6, gaty 6), (fa 7, gaty 7)] s := by
    refine ⟨fun c q hq => ?_, fun k q hk => ?_⟩
    · have hc : c < 12 := (List.getElem?_eq_some_iff.mp hq).1
      rw [gcl hc] at hq
      cases hq
      exact hfc c hc
    · have hk8 : k < 8 := (List.getElem?_eq_some_iff.mp hk).1
      rcases (show k = 0 ∨ k = 1 ∨ k = 2 ∨ k = 3 ∨ k = 4 ∨ k = 5 ∨ k = 6 ∨ k = 7 by omega) with rfl | rfl | rfl | rfl | rfl | rfl | rfl | rfl <;> (cases hk; exact hfa _ (by omega))
  have hw := hgo p l e room_1 s m #[Value.ref b] below meth c s.heap [] 0 0 ls
    ⟨hx, hb, hr, hml, hown, htg, hlocks, hname, hK, ⟨Nat.le_refl _, va_Zref (hts _ gSl_ABOVE) (hts _ gSi_ABOVE) evA hA, hTA, va_Zref (hts _ gSl_NAMES) (hts _ gSi_NAMES) evN hA, hTN, hTS⟩, ⟨fun q hq => va_Nw.of rfl (hts _ (gNL_ok q hq).1), va_AO.of (hts _ gao_Pitch), va_AO.of (hts _ gao_Party), va_AO.of (hts _ gao_Law), va_AO.of (hts _ gao_Sheet), hts _ gao_int⟩, ⟨by decide, by decide⟩, okL_law⟩
    va_S.rf ⟨Nat.le_refl _, fun _ => rfl, fun a q h => by cases h⟩ ⟨hl.1, hl.2.1, fun i v hv => by
      match i, hv with
      | 0, hv => cases hv; exact hl.2.2 (0, .ref b) List.mem_cons_self
      | 1, hv => cases hv
      | 2, hv => cases hv
      | 3, hv => cases hv⟩ (by decide) (by decide)
  intro T hT X
  obtain ⟨t, a1, o, b1, b2, ⟨⟨r, M9, hr9, ho, -⟩, -⟩, L9, hfe, hL9⟩ := hw T hT X
  subst hr9
  subst ho
  refine ⟨t, a1, _, b1, b2, rfl, hfe.1, hfe.2.1, hfe.2.2.weaken (fun y hy hlt => absurd hlt (Nat.not_lt.mpr (hL9 y hy))) (by decide) (by decide)⟩
end
section
/-! ===== words for contracts ===== -/
def b2 (p : Prop) [Decidable p] : Int := if p then 1 else 0
theorem b2_01 (p : Prop) [Decidable p] : b2 p = 0 ∨ b2 p = 1 := by unfold b2; split <;> simp
theorem b2_rng (p : Prop) [Decidable p] : rng (b2 p) := by rcases b2_01 p with h | h <;> rw [h] <;> exact ⟨by decide, by decide⟩
theorem b2_pos {p : Prop} [Decidable p] (h : ¬ b2 p = 0) : p := by
  unfold b2 at h
  split at h
  · assumption
  · exact absurd rfl h
theorem b2_neg {p : Prop} [Decidable p] (h : b2 p = 0) : ¬ p := by
  unfold b2 at h
  split at h
  · cases h
  · assumption
set_option maxRecDepth 1000000 in
theorem gcn : ∀ j, j < 253 → ((gH j).1.cls ≠ "java/lang/invoke/MethodHandle" ∧ (gH j).1.cls ≠ "java/lang/invoke/VarHandle") ∧ (gH j).2.2.1 ≤ 40 := by decide +kernel
set_option maxRecDepth 1000000 in
theorem gcp : ∀ j, j < 248 → plainName (gH j).1.cls = true ∧ gown (gH j).2.2.2.2 = (gH j).1.cls := by decide +kernel
/-- what all ints of the world keep to -/
def gR32 (mi : Nat → Nat → Int) : Prop := ∀ a k, rng (mi a k)
/-- the reference's cells: of a party, of a pitch -/
def mOf (mi : Nat → Nat → Int) (a w : Int) : Int := mi 152 (12 * a + w).toNat
def mPi (mi : Nat → Nat → Int) (p w : Int) : Int := mi 149 (8 * p + w).toNat
def andI (a b : Int) : Int := (iI a &&& iI b).toInt
def orI (a b : Int) : Int := (iI a ||| iI b).toInt
def xorI (a b : Int) : Int := (iI a ^^^ iI b).toInt
def shlI (a b : Int) : Int := (iI a <<< (iI b &&& 31)).toInt
def shrI (a b : Int) : Int := (iI a >>> (iI b &&& 31)).toInt
/-- the reference's answers, as functions of what it holds -/
def mLacks (mi : Nat → Nat → Int) (a p f : Int) : Int := b2 (¬ andI (mOf mi a 3) f = 0 ∧ andI (mPi mi p 6) f = 0)
def mStays (mi : Nat → Nat → Int) (a x : Int) : Int := b2 (mOf mi a 4 ≤ x ∧ x < mOf mi a 4 + mOf mi a 5)
def mMeet (mi : Nat → Nat → Int) (a b : Int) : Int := b2 (mOf mi a 4 < mOf mi b 4 + mOf mi b 5 ∧ mOf mi b 4 < mOf mi a 4 + mOf mi a 5)
def mHere (mi : Nat → Nat → Int) (a : Int) : Int := b2 (0 ≤ mOf mi a 6 ∧ ¬ mStays mi a (mi 148 0) = 0)
def mWhy (mi : Nat → Nat → Int) (a p : Int) : Int := if mPi mi p 2 < mOf mi a 1 then 1 else if ¬ mLacks mi a p 1 = 0 then 2 else if ¬ mLacks mi a p 2 = 0 then 3 else if mOf mi a 0 = 1 then (if 6 < mPi mi p 4 then 4 else 0) else if mOf mi a 0 = 0 then 0 else if mPi mi p 5 < mOf mi a 2 then 5 else if ¬ mLacks mi a p 4 = 0 ∨ (mOf mi a 0 = 4 ∧ andI (mPi mi p 6) 4 = 0) then 6 else if mOf mi a 0 = 3 ∧ mPi mi p 2 < mOf mi a 1 + 3 then 7 else 0
theorem mWhy_b (mi : Nat → Nat → Int) (a p : Int) : 0 ≤ mWhy mi a p ∧ mWhy mi a p ≤ 7 := by
  unfold mWhy
  (repeat' split) <;> omega
/-- what the reference's parties and pitches keep to -/
def PV (mi : Nat → Nat → Int) (a : Int) : Prop := (0 ≤ mOf mi a 0 ∧ mOf mi a 0 ≤ 4) ∧ (1 ≤ mOf mi a 1 ∧ mOf mi a 1 ≤ 30) ∧ (0 ≤ mOf mi a 2 ∧ mOf mi a 2 ≤ 32) ∧ (0 ≤ mOf mi a 3 ∧ mOf mi a 3 ≤ 7) ∧ (0 ≤ mOf mi a 4 ∧ mOf mi a 4 ≤ 99) ∧ (1 ≤ mOf mi a 5 ∧ mOf mi a 5 ≤ 30) ∧ mOf mi a 4 + mOf mi a 5 ≤ 100 ∧ (-2 ≤ mOf mi a 6 ∧ mOf mi a 6 < mi 148 2) ∧ (-1 ≤ mOf mi a 7 ∧ mOf mi a 7 < mi 148 6) ∧ (-1 ≤ mOf mi a 8 ∧ mOf mi a 8 ≤ 299970) ∧ (0 ≤ mOf mi a 9 ∧ mOf mi a 9 ≤ 16777215) ∧ (0 ≤ mOf mi a 10 ∧ mOf mi a 10 ≤ 40) ∧ (mOf mi a 11 = 0 ∨ mOf mi a 11 = 1)
def QV (mi : Nat → Nat → Int) (p : Int) : Prop := (0 ≤ mPi mi p 0 ∧ mPi mi p 0 ≤ 99) ∧ (0 ≤ mPi mi p 1 ∧ mPi mi p 1 ≤ 99) ∧ (1 ≤ mPi mi p 2 ∧ mPi mi p 2 ≤ 30) ∧ (0 ≤ mPi mi p 3 ∧ mPi mi p 3 ≤ 99) ∧ (0 ≤ mPi mi p 4 ∧ mPi mi p 4 ≤ 9) ∧ (0 ≤ mPi mi p 5 ∧ mPi mi p 5 ≤ 32) ∧ (0 ≤ mPi mi p 6 ∧ mPi mi p 6 ≤ 7) ∧ (0 ≤ mPi mi p 7 ∧ mPi mi p 7 ≤ 3)
/-- what the reference's scalars keep to -/
def SV (mi : Nat → Nat → Int) : Prop := gR32 mi ∧ (0 ≤ mi 148 0 ∧ mi 148 0 ≤ 99) ∧ (0 ≤ mi 148 2 ∧ mi 148 2 ≤ 12) ∧ (0 ≤ mi 148 6 ∧ mi 148 6 ≤ 24) ∧ (∀ a : Int, 0 ≤ a → a < mi 148 6 → PV mi a) ∧ ∀ p : Int, 0 ≤ p → p < mi 148 2 → QV mi p
/-! rows of objects: where the i-th stands -/
theorem gMR_2 {i : Int} (h : i < 12) (h0 : 0 ≤ i) : gMR 2 i.toNat = some (12 + i.toNat) := if_pos (by omega)
theorem gMR_3 {i : Int} (h : i < 24) (h0 : 0 ≤ i) : gMR 3 i.toNat = some (24 + i.toNat) := if_pos (by omega)
theorem gMR_55 {i : Int} (h : i < 12) (h0 : 0 ≤ i) : gMR 55 i.toNat = some (65 + i.toNat) := if_pos (by omega)
theorem gMR_56 {i : Int} (h : i < 24) (h0 : 0 ≤ i) : gMR 56 i.toNat = some (77 + i.toNat) := if_pos (by omega)
theorem gMR_115 {i : Int} (h : i < 4) (h0 : 0 ≤ i) : gMR 115 i.toNat = some (116 + i.toNat) := if_pos (by omega)
theorem gMR_120 {i : Int} (h : i < 4) (h0 : 0 ≤ i) : gMR 120 i.toNat = some (121 + i.toNat) := if_pos (by omega)
theorem gMR_138 {i : Int} (h : i < 4) (h0 : 0 ≤ i) : gMR 138 i.toNat = some (139 + 2 * i.toNat) := by
  rcases (show i = 0 ∨ i = 1 ∨ i = 2 ∨ i = 3 by omega) with rfl | rfl | rfl | rfl <;> rfl
theorem gMR_6 {i : Int} (h : i < 2) (h0 : 0 ≤ i) : gMR 6 i.toNat = some (48 + 3 * i.toNat) := by
  rcases (show i = 0 ∨ i = 1 by omega) with rfl | rfl <;> rfl
theorem gMR_59 {i : Int} (h : i < 2) (h0 : 0 ≤ i) : gMR 59 i.toNat = some (101 + 3 * i.toNat) := by
  rcases (show i = 0 ∨ i = 1 by omega) with rfl | rfl <;> rfl
theorem sh_all : (∀ k, k < 12 → gSH[12 + k]? = some (3, 10) ∧ gSH[65 + k]? = some (3, 10)) ∧ (∀ k, k < 24 → gSH[24 + k]? = some (2, 14) ∧ gSH[77 + k]? = some (2, 14)) ∧ (∀ k, k < 4 → gSH[139 + 2 * k]? = some (6, 3) ∧ gSH[140 + 2 * k]? = some (100, 60) ∧ gSH[116 + k]? = some (100, 12) ∧ gSH[121 + k]? = some (100, 4)) ∧ (∀ k, k < 2 → gSH[48 + 3 * k]? = some (1, 4) ∧ gSH[101 + 3 * k]? = some (1, 4) ∧ gSH[49 + 3 * k]? = some (100, 120) ∧ gSH[102 + 3 * k]? = some (100, 120) ∧ gSH[50 + 3 * k]? = some (100, 120)) := ⟨by decide +kernel, by decide +kernel, by decide +kernel, by decide +kernel⟩
theorem shP {i : Int} (h : i < 12) : gSH[12 + i.toNat]? = some (3, 10) := (sh_all.1 i.toNat (by omega)).1
theorem shA {i : Int} (h : i < 24) : gSH[24 + i.toNat]? = some (2, 14) := (sh_all.2.1 i.toNat (by omega)).1
theorem shPk {i : Int} (h : i < 12) : gSH[65 + i.toNat]? = some (3, 10) := (sh_all.1 i.toNat (by omega)).2
theorem shAk {i : Int} (h : i < 24) : gSH[77 + i.toNat]? = some (2, 14) := (sh_all.2.1 i.toNat (by omega)).2
theorem shS {i : Int} (h : i < 4) : gSH[139 + 2 * i.toNat]? = some (6, 3) := (sh_all.2.2.1 i.toNat (by omega)).1
theorem shSn {i : Int} (h : i < 4) : gSH[140 + 2 * i.toNat]? = some (100, 60) := (sh_all.2.2.1 i.toNat (by omega)).2.1
theorem shW {i : Int} (h : i < 4) : gSH[116 + i.toNat]? = some (100, 12) := (sh_all.2.2.1 i.toNat (by omega)).2.2.1
theorem shB {i : Int} (h : i < 4) : gSH[121 + i.toNat]? = some (100, 4) := (sh_all.2.2.1 i.toNat (by omega)).2.2.2
theorem shL {i : Int} (h : i < 2) : gSH[48 + 3 * i.toNat]? = some (1, 4) := (sh_all.2.2.2 i.toNat (by omega)).1
theorem Go.aaldR {G : gG} {mt : gMt} {n mc ms pc nx x y a b N : Nat} {z : Int} {lv : List (Option gV)} {st : List gV} {P : Option gV → gMe → Prop} {mi : Nat → Nat → Int} {ml : Nat → Nat → Int64} {i : Int} (t : Nat) (hi : gat mt pc = some (46, z, x, y, nx)) (hsh : gSH[a]? = some (100 + t, N)) (ht : 3 ≤ t ∧ t ≤ 7) (h0 : 0 ≤ i) (h1 : i < N) (hN : N < 2147483648) (hb : gMR a i.toNat = some b) (kk : Go G mt n mc ms nx lv (gr b :: st) (gw mi ml) P) : Go G mt n mc ms pc lv (gi i :: gr a :: st) (gw mi ml) P := by
  refine Go.aald (t := t) hi hsh ht h0 h1 hN ?_
  show Go G mt n mc ms nx lv (.inr (.inr (.inl (gMR a i.toNat))) :: st) (gw mi ml) P
  rw [hb]
  exact kk
/-- folds over the first ones of a row -/
def gfold (f : Int → Int → Int) (z : Int) : Nat → Int
  | 0 => z
  | k + 1 => f k (gfold f z k)
theorem gfold_s {f : Int → Int → Int} {z k : Int} (h : 0 ≤ k) : gfold f z (k + 1).toNat = f k (gfold f z k.toNat) := by
  rw [show (k + 1).toNat = k.toNat + 1 by omega]
  show f (k.toNat : Int) _ = _
  rw [show ((k.toNat : Nat) : Int) = k by omega]
theorem Go.dropl {G : gG} {mt : gMt} {n mc ms pc : Nat} {lv : List (Option gV)} {st : List gV} {M : gMe} {P : Option gV → gMe → Prop} (i : Nat) (k : Go G mt n mc ms pc (gclr lv i) st M P) : Go G mt n mc ms pc lv st M P := by
  intro p l e R s m args below meth cd H locs cells slots ls cx hS hW hL hc hs
  exact k p l e R s m args below meth cd H locs cells slots ls cx hS hW ⟨hL.1, hL.2.1, fun j v hj => hL.2.2 j v (gclr_get lv i j v hj).2⟩ hc hs
theorem tdiv_b {a c : Int} (ha : 0 ≤ a) (hc : 0 < c) : 0 ≤ a.tdiv c ∧ a.tdiv c ≤ a := by
  rw [Int.tdiv_eq_ediv_of_nonneg ha]
  exact ⟨Int.ediv_nonneg ha (by omega), Int.ediv_le_self _ ha⟩
theorem rng_tdiv {a c : Int} (h : rng a) (hc : 0 < c) : rng (a.tdiv c) := by
  unfold rng at *
  by_cases ha : 0 ≤ a
  · have := tdiv_b ha hc
    omega
  · have e : a.tdiv c = -((-a).tdiv c) := by rw [Int.neg_tdiv, Int.neg_neg]
    have := tdiv_b (a := -a) (by omega) hc
    omega
end
section
set_option maxRecDepth 100000 in
set_option maxHeartbeats 4000000 in
theorem cM_in {G : gG} (hsz : G.2.2.2.2.2.2 = true) {n : Nat} (hn : 1 ≤ n) (mi : Nat → Nat → Int) (ml : Nat → Nat → Int64) (v lo hi : Int) (hv : rng v) (hl : rng lo) (hm : rng hi) : gM G 153 n 0 0 [gi v, gi lo, gi hi] (gw mi ml) (gret (b2 (lo ≤ v ∧ v ≤ hi)) (gw mi ml)) := by
  refine gM.of mX12_in okX12_in (gcp 153 (by decide)).1 (gcp 153 (by decide)).2 (Nat.le_of_ble_eq_true rfl) ?_
  refine Go.run hsz hn 2 (pc' := 2) (lv' := [some (gi v), some (gi lo), some (gi hi)]) (st' := [gi lo, gi v]) (M' := gw mi ml) rfl ?_
  refine Go.icmp_lt (by rfl) hv hl (fun kq1 => ?_) (fun kq1 => ?_)
  · refine Go.run hsz hn 1 (pc' := 15) (lv' := [some (gi v), some (gi lo), some (gi hi)]) (st' := [gi 0]) (M' := gw mi ml) rfl ?_
    exact Go.zret (by rfl) (Or.inl rfl) ⟨congrArg (fun z => some (gi z)) (by unfold b2; split <;> omega), rfl⟩
  · refine Go.run hsz hn 2 (pc' := 7) (lv' := [some (gi v), some (gi lo), some (gi hi)]) (st' := [gi hi, gi v]) (M' := gw mi ml) rfl ?_
    refine Go.icmp_gt (by rfl) hv hm (fun kq2 => ?_) (fun kq2 => ?_)
    · refine Go.run hsz hn 1 (pc' := 15) (lv' := [some (gi v), some (gi lo), some (gi hi)]) (st' := [gi 0]) (M' := gw mi ml) rfl ?_
      exact Go.zret (by rfl) (Or.inl rfl) ⟨congrArg (fun z => some (gi z)) (by unfold b2; split <;> omega), rfl⟩
    · refine Go.run hsz hn 2 (pc' := 15) (lv' := [some (gi v), some (gi lo), some (gi hi)]) (st' := [gi 1]) (M' := gw mi ml) rfl ?_
      exact Go.zret (by rfl) (Or.inr rfl) ⟨congrArg (fun z => some (gi z)) (by unfold b2; split <;> omega), rfl⟩
set_option maxRecDepth 100000 in
set_option maxHeartbeats 4000000 in
theorem cM_finds {G : gG} (hsz : G.2.2.2.2.2.2 = true) {n : Nat} (hn : 1 ≤ n) (mi : Nat → Nat → Int) (ml : Nat → Nat → Int64) (w : Int) (h0 : 0 ≤ w) (h1 : w < 7) : gM G 154 n 0 0 [gr 148, gi w] (gw mi ml) (gret (-1000001 - w) (gw (gu mi 159 w.toNat (mi 159 w.toNat + 1)) ml)) := by
  refine gM.of mX12_finds okX12_finds (gcp 154 (by decide)).1 (gcp 154 (by decide)).2 (Nat.le_of_ble_eq_true rfl) ?_
  refine Go.run hsz hn 4 (pc' := 6) (lv' := [some (gr 148), some (gi w)]) (st' := [gi w, gr 159, gi w, gr 159]) (M' := gw mi ml) rfl ?_
  refine Go.iald (by rfl) (N := 7) (by rfl) (by omega) (by omega) (by decide) ?_
  refine Go.run hsz hn 2 (pc' := 9) (lv' := [some (gr 148), some (gi w)]) (st' := [gi ((mi 159 w.toNat) + 1), gi w, gr 159]) (M' := gw mi ml) rfl ?_
  refine Go.iast (by rfl) (N := 7) (by rfl) (by omega) (by omega) (by decide) ?_
  refine Go.run hsz hn 3 (pc' := 14) (lv' := [some (gr 148), some (gi w)]) (st' := [gi ((-1000001) - w)]) (M' := gw (gu mi 159 w.toNat ((mi 159 w.toNat) + 1)) ml) rfl ?_
  first | exact Go.iret (by rfl) ⟨congrArg (fun z => some (gi z)) (rfl), rfl⟩ | (exfalso; omega)
set_option maxRecDepth 100000 in
set_option maxHeartbeats 4000000 in
theorem cM_of {G : gG} (hsz : G.2.2.2.2.2.2 = true) {n : Nat} (hn : 1 ≤ n) (mi : Nat → Nat → Int) (ml : Nat → Nat → Int64) (a w : Int) (h0 : 0 ≤ a) (h1 : a < 24) (h2 : 0 ≤ w) (h3 : w < 12) : gM G 165 n 0 0 [gr 148, gi a, gi w] (gw mi ml) (gret (mOf mi a w) (gw mi ml)) := by
  refine gM.of mX12_of okX12_of (gcp 165 (by decide)).1 (gcp 165 (by decide)).2 (Nat.le_of_ble_eq_true rfl) ?_
  refine Go.run hsz hn 7 (pc' := 10) (lv' := [some (gr 148), some (gi a), some (gi w)]) (st' := [gi ((12 * a) + w), gr 152]) (M' := gw mi ml) rfl ?_
  refine Go.iald (by rfl) (N := 288) (by rfl) (by omega) (by omega) (by decide) ?_
  refine Go.run hsz hn 0 (pc' := 11) (lv' := [some (gr 148), some (gi a), some (gi w)]) (st' := [gi (mi 152 (((12 * a) + w).toNat))]) (M' := gw mi ml) rfl ?_
  first | exact Go.iret (by rfl) ⟨congrArg (fun z => some (gi z)) (rfl), rfl⟩ | (exfalso; omega)
set_option maxRecDepth 100000 in
set_option maxHeartbeats 4000000 in
theorem cM_isPitch {G : gG} (hsz : G.2.2.2.2.2.2 = true) {n : Nat} (hn : 2 ≤ n) (mi : Nat → Nat → Int) (ml : Nat → Nat → Int64) (p : Int) (hv : rng p) (h0 : 0 ≤ mi 148 2) (h1 : mi 148 2 ≤ 12) : gM G 155 n 0 0 [gr 148, gi p] (gw mi ml) (gret (b2 (0 ≤ p ∧ p ≤ mi 148 2 - 1)) (gw mi ml)) := by
  have hn1 : 1 ≤ n := by omega
  refine gM.of mX12_isPitch okX12_isPitch (gcp 155 (by decide)).1 (gcp 155 (by decide)).2 (Nat.le_of_ble_eq_true rfl) ?_
  refine Go.run hsz hn1 6 (pc' := 8) (lv' := [some (gr 148), some (gi p)]) (st' := [gi ((mi 148 2) - 1), gi 0, gi p]) (M' := gw mi ml) rfl ?_
  refine Go.callS (As := [gi p, gi 0, gi ((mi 148 2) - 1)]) (st := []) (mc1 := 0) (mc := 0) (ms1 := 0) (ms := 0) (by rfl) rfl (gcn 153 (by decide)).1 (gcn 153 (by decide)).2 (Nat.le_of_ble_eq_true rfl) (by omega) (cM_in hsz (n := n - 1) (by omega) mi ml p 0 ((mi 148 2) - 1) hv ⟨by decide, by decide⟩ ⟨by omega, by omega⟩) ?_
  rintro _ _ ⟨rfl, rfl⟩
  refine Go.run hsz hn1 0 (pc' := 11) (lv' := [some (gr 148), some (gi p)]) (st' := [gi (b2 (0 ≤ p ∧ p ≤ (mi 148 2) - 1))]) (M' := gw mi ml) rfl ?_
  exact Go.zret (by rfl) (b2_01 _) ⟨congrArg (fun z => some (gi z)) (rfl), rfl⟩
set_option maxRecDepth 100000 in
set_option maxHeartbeats 4000000 in
theorem cM_isParty {G : gG} (hsz : G.2.2.2.2.2.2 = true) {n : Nat} (hn : 2 ≤ n) (mi : Nat → Nat → Int) (ml : Nat → Nat → Int64) (p : Int) (hv : rng p) (h0 : 0 ≤ mi 148 6) (h1 : mi 148 6 ≤ 24) : gM G 156 n 0 0 [gr 148, gi p] (gw mi ml) (gret (b2 (0 ≤ p ∧ p ≤ mi 148 6 - 1)) (gw mi ml)) := by
  have hn1 : 1 ≤ n := by omega
  refine gM.of mX12_isParty okX12_isParty (gcp 156 (by decide)).1 (gcp 156 (by decide)).2 (Nat.le_of_ble_eq_true rfl) ?_
  refine Go.run hsz hn1 6 (pc' := 8) (lv' := [some (gr 148), some (gi p)]) (st' := [gi ((mi 148 6) - 1), gi 0, gi p]) (M' := gw mi ml) rfl ?_
  refine Go.callS (As := [gi p, gi 0, gi ((mi 148 6) - 1)]) (st := []) (mc1 := 0) (mc := 0) (ms1 := 0) (ms := 0) (by rfl) rfl (gcn 153 (by decide)).1 (gcn 153 (by decide)).2 (Nat.le_of_ble_eq_true rfl) (by omega) (cM_in hsz (n := n - 1) (by omega) mi ml p 0 ((mi 148 6) - 1) hv ⟨by decide, by decide⟩ ⟨by omega, by omega⟩) ?_
  rintro _ _ ⟨rfl, rfl⟩
  refine Go.run hsz hn1 0 (pc' := 11) (lv' := [some (gr 148), some (gi p)]) (st' := [gi (b2 (0 ≤ p ∧ p ≤ (mi 148 6) - 1))]) (M' := gw mi ml) rfl ?_
  exact Go.zret (by rfl) (b2_01 _) ⟨congrArg (fun z => some (gi z)) (rfl), rfl⟩
set_option maxRecDepth 100000 in
set_option maxHeartbeats 4000000 in
theorem cM_isNight {G : gG} (hsz : G.2.2.2.2.2.2 = true) {n : Nat} (hn : 2 ≤ n) (mi : Nat → Nat → Int) (ml : Nat → Nat → Int64) (p : Int) (hv : rng p) : gM G 157 n 0 0 [gi p] (gw mi ml) (gret (b2 (0 ≤ p ∧ p ≤ 99)) (gw mi ml)) := by
  have hn1 : 1 ≤ n := by omega
  refine gM.of mX12_isNight okX12_isNight (gcp 157 (by decide)).1 (gcp 157 (by decide)).2 (Nat.le_of_ble_eq_true rfl) ?_
  refine Go.run hsz hn1 3 (pc' := 4) (lv' := [some (gi p)]) (st' := [gi 99, gi 0, gi p]) (M' := gw mi ml) rfl ?_
  refine Go.callS (As := [gi p, gi 0, gi 99]) (st := []) (mc1 := 0) (mc := 0) (ms1 := 0) (ms := 0) (by rfl) rfl (gcn 153 (by decide)).1 (gcn 153 (by decide)).2 (Nat.le_of_ble_eq_true rfl) (by omega) (cM_in hsz (n := n - 1) (by omega) mi ml p 0 99 hv ⟨by decide, by decide⟩ ⟨by decide, by decide⟩) ?_
  rintro _ _ ⟨rfl, rfl⟩
  refine Go.run hsz hn1 0 (pc' := 7) (lv' := [some (gi p)]) (st' := [gi (b2 (0 ≤ p ∧ p ≤ 99))]) (M' := gw mi ml) rfl ?_
  exact Go.zret (by rfl) (b2_01 _) ⟨congrArg (fun z => some (gi z)) (rfl), rfl⟩
set_option maxRecDepth 100000 in
set_option maxHeartbeats 4000000 in
theorem cM_isLetter {G : gG} (hsz : G.2.2.2.2.2.2 = true) {n : Nat} (hn : 2 ≤ n) (mi : Nat → Nat → Int) (ml : Nat → Nat → Int64) (p : Int) (hv : rng p) : gM G 190 n 0 0 [gi p] (gw mi ml) (gret (b2 (97 ≤ p ∧ p ≤ 122)) (gw mi ml)) := by
  have hn1 : 1 ≤ n := by omega
  refine gM.of mX12_isLetter okX12_isLetter (gcp 190 (by decide)).1 (gcp 190 (by decide)).2 (Nat.le_of_ble_eq_true rfl) ?_
  refine Go.run hsz hn1 3 (pc' := 5) (lv' := [some (gi p)]) (st' := [gi 122, gi 97, gi p]) (M' := gw mi ml) rfl ?_
  refine Go.callS (As := [gi p, gi 97, gi 122]) (st := []) (mc1 := 0) (mc := 0) (ms1 := 0) (ms := 0) (by rfl) rfl (gcn 153 (by decide)).1 (gcn 153 (by decide)).2 (Nat.le_of_ble_eq_true rfl) (by omega) (cM_in hsz (n := n - 1) (by omega) mi ml p 97 122 hv ⟨by decide, by decide⟩ ⟨by decide, by decide⟩) ?_
  rintro _ _ ⟨rfl, rfl⟩
  refine Go.run hsz hn1 0 (pc' := 8) (lv' := [some (gi p)]) (st' := [gi (b2 (97 ≤ p ∧ p ≤ 122))]) (M' := gw mi ml) rfl ?_
  exact Go.zret (by rfl) (b2_01 _) ⟨congrArg (fun z => some (gi z)) (rfl), rfl⟩
set_option maxRecDepth 100000 in
set_option maxHeartbeats 4000000 in
theorem cM_isDigit {G : gG} (hsz : G.2.2.2.2.2.2 = true) {n : Nat} (hn : 2 ≤ n) (mi : Nat → Nat → Int) (ml : Nat → Nat → Int64) (p : Int) (hv : rng p) : gM G 191 n 0 0 [gi p] (gw mi ml) (gret (b2 (48 ≤ p ∧ p ≤ 57)) (gw mi ml)) := by
  have hn1 : 1 ≤ n := by omega
  refine gM.of mX12_isDigit okX12_isDigit (gcp 191 (by decide)).1 (gcp 191 (by decide)).2 (Nat.le_of_ble_eq_true rfl) ?_
  refine Go.run hsz hn1 3 (pc' := 5) (lv' := [some (gi p)]) (st' := [gi 57, gi 48, gi p]) (M' := gw mi ml) rfl ?_
  refine Go.callS (As := [gi p, gi 48, gi 57]) (st := []) (mc1 := 0) (mc := 0) (ms1 := 0) (ms := 0) (by rfl) rfl (gcn 153 (by decide)).1 (gcn 153 (by decide)).2 (Nat.le_of_ble_eq_true rfl) (by omega) (cM_in hsz (n := n - 1) (by omega) mi ml p 48 57 hv ⟨by decide, by decide⟩ ⟨by decide, by decide⟩) ?_
  rintro _ _ ⟨rfl, rfl⟩
  refine Go.run hsz hn1 0 (pc' := 8) (lv' := [some (gi p)]) (st' := [gi (b2 (48 ≤ p ∧ p ≤ 57))]) (M' := gw mi ml) rfl ?_
  exact Go.zret (by rfl) (b2_01 _) ⟨congrArg (fun z => some (gi z)) (rfl), rfl⟩
set_option maxRecDepth 100000 in
set_option maxHeartbeats 4000000 in
theorem cM_isPost {G : gG} (hsz : G.2.2.2.2.2.2 = true) {n : Nat} (hn : 2 ≤ n) (mi : Nat → Nat → Int) (ml : Nat → Nat → Int64) (p : Int) (hv : rng p) : gM G 219 n 0 0 [gi p] (gw mi ml) (gret (b2 (0 ≤ p ∧ p ≤ 3)) (gw mi ml)) := by
  have hn1 : 1 ≤ n := by omega
  refine gM.of mX12_isPost okX12_isPost (gcp 219 (by decide)).1 (gcp 219 (by decide)).2 (Nat.le_of_ble_eq_true rfl) ?_
  refine Go.run hsz hn1 3 (pc' := 3) (lv' := [some (gi p)]) (st' := [gi 3, gi 0, gi p]) (M' := gw mi ml) rfl ?_
  refine Go.callS (As := [gi p, gi 0, gi 3]) (st := []) (mc1 := 0) (mc := 0) (ms1 := 0) (ms := 0) (by rfl) rfl (gcn 153 (by decide)).1 (gcn 153 (by decide)).2 (Nat.le_of_ble_eq_true rfl) (by omega) (cM_in hsz (n := n - 1) (by omega) mi ml p 0 3 hv ⟨by decide, by decide⟩ ⟨by decide, by decide⟩) ?_
  rintro _ _ ⟨rfl, rfl⟩
  refine Go.run hsz hn1 0 (pc' := 6) (lv' := [some (gi p)]) (st' := [gi (b2 (0 ≤ p ∧ p ≤ 3))]) (M' := gw mi ml) rfl ?_
  exact Go.zret (by rfl) (b2_01 _) ⟨congrArg (fun z => some (gi z)) (rfl), rfl⟩
set_option maxRecDepth 100000 in
set_option maxHeartbeats 4000000 in
theorem cM_isSheet {G : gG} (hsz : G.2.2.2.2.2.2 = true) {n : Nat} (hn : 2 ≤ n) (mi : Nat → Nat → Int) (ml : Nat → Nat → Int64) (p : Int) (hv : rng p) : gM G 237 n 0 0 [gi p] (gw mi ml) (gret (b2 (0 ≤ p ∧ p ≤ 3)) (gw mi ml)) := by
  have hn1 : 1 ≤ n := by omega
  refine gM.of mX12_isSheet okX12_isSheet (gcp 237 (by decide)).1 (gcp 237 (by decide)).2 (Nat.le_of_ble_eq_true rfl) ?_
  refine Go.run hsz hn1 3 (pc' := 3) (lv' := [some (gi p)]) (st' := [gi 3, gi 0, gi p]) (M' := gw mi ml) rfl ?_
  refine Go.callS (As := [gi p, gi 0, gi 3]) (st := []) (mc1 := 0) (mc := 0) (ms1 := 0) (ms := 0) (by rfl) rfl (gcn 153 (by decide)).1 (gcn 153 (by decide)).2 (Nat.le_of_ble_eq_true rfl) (by omega) (cM_in hsz (n := n - 1) (by omega) mi ml p 0 3 hv ⟨by decide, by decide⟩ ⟨by decide, by decide⟩) ?_
  rintro _ _ ⟨rfl, rfl⟩
  refine Go.run hsz hn1 0 (pc' := 6) (lv' := [some (gi p)]) (st' := [gi (b2 (0 ≤ p ∧ p ≤ 3))]) (M' := gw mi ml) rfl ?_
  exact Go.zret (by rfl) (b2_01 _) ⟨congrArg (fun z => some (gi z)) (rfl), rfl⟩
set_option maxRecDepth 100000 in
set_option maxHeartbeats 4000000 in
theorem cM_size {G : gG} (hsz : G.2.2.2.2.2.2 = true) {n : Nat} (hn : 1 ≤ n) (mi : Nat → Nat → Int) (ml : Nat → Nat → Int64) (v : Int) (hv : rng v) : gM G 161 n 0 0 [gi v] (gw mi ml) (gret (if v < 0 then -v else v) (gw mi ml)) := by
  refine gM.of mX12_size okX12_size (gcp 161 (by decide)).1 (gcp 161 (by decide)).2 (Nat.le_of_ble_eq_true rfl) ?_
  refine Go.run hsz hn 1 (pc' := 1) (lv' := [some (gi v)]) (st' := [gi v]) (M' := gw mi ml) rfl ?_
  refine Go.if_ge (by rfl) hv (fun kq1 => ?_) (fun kq1 => ?_)
  · refine Go.run hsz hn 1 (pc' := 10) (lv' := [some (gi v)]) (st' := [gi v]) (M' := gw mi ml) rfl ?_
    first | exact Go.iret (by rfl) ⟨congrArg (fun z => some (gi z)) (by split <;> omega), rfl⟩ | (exfalso; omega)
  · refine Go.run hsz hn 3 (pc' := 10) (lv' := [some (gi v)]) (st' := [gi (-v)]) (M' := gw mi ml) rfl ?_
    first | exact Go.iret (by rfl) ⟨congrArg (fun z => some (gi z)) (by split <;> omega), rfl⟩ | (exfalso; omega)
set_option maxRecDepth 100000 in
set_option maxHeartbeats 4000000 in
theorem cM_held {G : gG} (hsz : G.2.2.2.2.2.2 = true) {n : Nat} (hn : 1 ≤ n) (mi : Nat → Nat → Int) (ml : Nat → Nat → Int64) (v m : Int) (hv : rng v) (hm : rng m) : gM G 211 n 0 0 [gi v, gi m] (gw mi ml) (gret (if v < 0 then 0 else if m < v then m else v) (gw mi ml)) := by
  refine gM.of mX12_held okX12_held (gcp 211 (by decide)).1 (gcp 211 (by decide)).2 (Nat.le_of_ble_eq_true rfl) ?_
  refine Go.run hsz hn 1 (pc' := 1) (lv' := [some (gi v), some (gi m)]) (st' := [gi v]) (M' := gw mi ml) rfl ?_
  refine Go.if_ge (by rfl) hv (fun kq1 => ?_) (fun kq1 => ?_)
  · refine Go.run hsz hn 2 (pc' := 10) (lv' := [some (gi v), some (gi m)]) (st' := [gi m, gi v]) (M' := gw mi ml) rfl ?_
    refine Go.icmp_le (by rfl) hv hm (fun kq2 => ?_) (fun kq2 => ?_)
    · refine Go.run hsz hn 1 (pc' := 18) (lv' := [some (gi v), some (gi m)]) (st' := [gi v]) (M' := gw mi ml) rfl ?_
      first | exact Go.iret (by rfl) ⟨congrArg (fun z => some (gi z)) (by (repeat split) <;> omega), rfl⟩ | (exfalso; omega)
    · refine Go.run hsz hn 2 (pc' := 18) (lv' := [some (gi v), some (gi m)]) (st' := [gi m]) (M' := gw mi ml) rfl ?_
      first | exact Go.iret (by rfl) ⟨congrArg (fun z => some (gi z)) (by (repeat split) <;> omega), rfl⟩ | (exfalso; omega)
  · refine Go.run hsz hn 2 (pc' := 18) (lv' := [some (gi v), some (gi m)]) (st' := [gi 0]) (M' := gw mi ml) rfl ?_
    first | exact Go.iret (by rfl) ⟨congrArg (fun z => some (gi z)) (by (repeat split) <;> omega), rfl⟩ | (exfalso; omega)
end
section
set_option maxRecDepth 100000 in
set_option maxHeartbeats 4000000 in
theorem cM_hasCome {G : gG} (hsz : G.2.2.2.2.2.2 = true) {n : Nat} (hn : 2 ≤ n) (mi : Nat → Nat → Int) (ml : Nat → Nat → Int64) (a : Int) (h0 : 0 ≤ a) (h1 : a < 24) (hR : gR32 mi) : gM G 166 n 0 0 [gr 148, gi a] (gw mi ml) (gret (b2 (mOf mi a 4 ≤ mi 148 0)) (gw mi ml)) := by
  have hn1 : 1 ≤ n := by omega
  refine gM.of mX12_hasCome okX12_hasCome (gcp 166 (by decide)).1 (gcp 166 (by decide)).2 (Nat.le_of_ble_eq_true rfl) ?_
  refine Go.run hsz hn1 3 (pc' := 3) (lv' := [some (gr 148), some (gi a)]) (st' := [gi 4, gi a, gr 148]) (M' := gw mi ml) rfl ?_
  refine Go.callV (As := [gi a, gi 4]) (b := 148) (st := []) (mc1 := 0) (mc := 0) (ms1 := 0) (ms := 0) (by rfl) rfl (c := 11) (N := 46) (by rfl) (by decide) (by rfl) (gcn 165 (by decide)).1 (gcn 165 (by decide)).2 rfl (Nat.le_of_ble_eq_true rfl) (by omega) (cM_of hsz (n := n - 1) (by omega) mi ml a 4 h0 h1 (by decide) (by decide)) ?_
  rintro _ _ ⟨rfl, rfl⟩
  refine Go.run hsz hn1 2 (pc' := 10) (lv' := [some (gr 148), some (gi a)]) (st' := [gi (mi 148 0), gi (mOf mi a 4)]) (M' := gw mi ml) rfl ?_
  refine Go.icmp_gt (by rfl) (hR _ _) (hR _ _) (fun kq1 => ?_) (fun kq1 => ?_)
  · refine Go.run hsz hn1 1 (pc' := 18) (lv' := [some (gr 148), some (gi a)]) (st' := [gi 0]) (M' := gw mi ml) rfl ?_
    exact Go.zret (by rfl) (Or.inl rfl) ⟨congrArg (fun z => some (gi z)) (by unfold b2; split <;> omega), rfl⟩
  · refine Go.run hsz hn1 2 (pc' := 18) (lv' := [some (gr 148), some (gi a)]) (st' := [gi 1]) (M' := gw mi ml) rfl ?_
    exact Go.zret (by rfl) (Or.inr rfl) ⟨congrArg (fun z => some (gi z)) (by unfold b2; split <;> omega), rfl⟩
set_option maxRecDepth 100000 in
set_option maxHeartbeats 4000000 in
theorem cM_lacks {G : gG} (hsz : G.2.2.2.2.2.2 = true) {n : Nat} (hn : 2 ≤ n) (mi : Nat → Nat → Int) (ml : Nat → Nat → Int64) (a p f : Int) (h0 : 0 ≤ a) (h1 : a < 24) (p0 : 0 ≤ p) (p1 : p < 12) (hR : gR32 mi) : gM G 168 n 0 0 [gr 148, gi a, gi p, gi f] (gw mi ml) (gret (mLacks mi a p f) (gw mi ml)) := by
  have hn1 : 1 ≤ n := by omega
  refine gM.of mX12_lacks okX12_lacks (gcp 168 (by decide)).1 (gcp 168 (by decide)).2 (Nat.le_of_ble_eq_true rfl) ?_
  refine Go.run hsz hn1 3 (pc' := 3) (lv' := [some (gr 148), some (gi a), some (gi p), some (gi f)]) (st' := [gi 3, gi a, gr 148]) (M' := gw mi ml) rfl ?_
  refine Go.callV (As := [gi a, gi 3]) (b := 148) (st := []) (mc1 := 0) (mc := 0) (ms1 := 0) (ms := 0) (by rfl) rfl (c := 11) (N := 46) (by rfl) (by decide) (by rfl) (gcn 165 (by decide)).1 (gcn 165 (by decide)).2 rfl (Nat.le_of_ble_eq_true rfl) (by omega) (cM_of hsz (n := n - 1) (by omega) mi ml a 3 h0 h1 (by decide) (by decide)) ?_
  rintro _ _ ⟨rfl, rfl⟩
  refine Go.run hsz hn1 2 (pc' := 8) (lv' := [some (gr 148), some (gi a), some (gi p), some (gi f)]) (st' := [gi (andI (mOf mi a 3) f)]) (M' := gw mi ml) rfl ?_
  refine Go.if_eq (by rfl) (rng_of _) (fun kq1 => ?_) (fun kq1 => ?_)
  · refine Go.run hsz hn1 1 (pc' := 33) (lv' := [some (gr 148), some (gi a), some (gi p), some (gi f)]) (st' := [gi 0]) (M' := gw mi ml) rfl ?_
    exact Go.zret (by rfl) (Or.inl rfl) ⟨congrArg (fun z => some (gi z)) (by unfold mLacks b2; split <;> omega), rfl⟩
  · refine Go.run hsz hn1 7 (pc' := 22) (lv' := [some (gr 148), some (gi a), some (gi p), some (gi f)]) (st' := [gi ((8 * p) + 6), gr 149]) (M' := gw mi ml) rfl ?_
    refine Go.iald (by rfl) (N := 96) (by rfl) (by omega) (by omega) (by decide) ?_
    refine Go.run hsz hn1 2 (pc' := 25) (lv' := [some (gr 148), some (gi a), some (gi p), some (gi f)]) (st' := [gi (andI (mPi mi p 6) f)]) (M' := gw mi ml) rfl ?_
    refine Go.if_ne (by rfl) (rng_of _) (fun kq2 => ?_) (fun kq2 => ?_)
    · refine Go.run hsz hn1 1 (pc' := 33) (lv' := [some (gr 148), some (gi a), some (gi p), some (gi f)]) (st' := [gi 0]) (M' := gw mi ml) rfl ?_
      exact Go.zret (by rfl) (Or.inl rfl) ⟨congrArg (fun z => some (gi z)) (by unfold mLacks b2; split <;> omega), rfl⟩
    · refine Go.run hsz hn1 2 (pc' := 33) (lv' := [some (gr 148), some (gi a), some (gi p), some (gi f)]) (st' := [gi 1]) (M' := gw mi ml) rfl ?_
      exact Go.zret (by rfl) (Or.inr rfl) ⟨congrArg (fun z => some (gi z)) (by unfold mLacks b2; split <;> omega), rfl⟩
set_option maxRecDepth 100000 in
set_option maxHeartbeats 4000000 in
theorem cM_staysIn {G : gG} (hsz : G.2.2.2.2.2.2 = true) {n : Nat} (hn : 2 ≤ n) (mi : Nat → Nat → Int) (ml : Nat → Nat → Int64) (a x : Int) (h0 : 0 ≤ a) (h1 : a < 24) (hR : gR32 mi) (hx : rng x) (hb : PV mi a) : gM G 172 n 0 0 [gr 148, gi a, gi x] (gw mi ml) (gret (mStays mi a x) (gw mi ml)) := by
  have hn1 : 1 ≤ n := by omega
  obtain ⟨b0, b1, b2x, b3, b4, b5, b6, -⟩ := id hb
  refine gM.of mX12_staysIn okX12_staysIn (gcp 172 (by decide)).1 (gcp 172 (by decide)).2 (Nat.le_of_ble_eq_true rfl) ?_
  refine Go.run hsz hn1 4 (pc' := 4) (lv' := [some (gr 148), some (gi a), some (gi x)]) (st' := [gi 4, gi a, gr 148, gi x]) (M' := gw mi ml) rfl ?_
  refine Go.callV (As := [gi a, gi 4]) (b := 148) (st := [gi x]) (mc1 := 0) (mc := 0) (ms1 := 0) (ms := 0) (by rfl) rfl (c := 11) (N := 46) (by rfl) (by decide) (by rfl) (gcn 165 (by decide)).1 (gcn 165 (by decide)).2 rfl (Nat.le_of_ble_eq_true rfl) (by omega) (cM_of hsz (n := n - 1) (by omega) mi ml a 4 h0 h1 (by decide) (by decide)) ?_
  rintro _ _ ⟨rfl, rfl⟩
  refine Go.run hsz hn1 0 (pc' := 7) (lv' := [some (gr 148), some (gi a), some (gi x)]) (st' := [gi (mOf mi a 4), gi x]) (M' := gw mi ml) rfl ?_
  refine Go.icmp_lt (by rfl) hx (hR _ _) (fun kq1 => ?_) (fun kq1 => ?_)
  · refine Go.run hsz hn1 1 (pc' := 32) (lv' := [some (gr 148), some (gi a), some (gi x)]) (st' := [gi 0]) (M' := gw mi ml) rfl ?_
    exact Go.zret (by rfl) (Or.inl rfl) ⟨congrArg (fun z => some (gi z)) (by unfold mStays b2; split <;> omega), rfl⟩
  · refine Go.run hsz hn1 4 (pc' := 14) (lv' := [some (gr 148), some (gi a), some (gi x)]) (st' := [gi 4, gi a, gr 148, gi x]) (M' := gw mi ml) rfl ?_
    refine Go.callV (As := [gi a, gi 4]) (b := 148) (st := [gi x]) (mc1 := 0) (mc := 0) (ms1 := 0) (ms := 0) (by rfl) rfl (c := 11) (N := 46) (by rfl) (by decide) (by rfl) (gcn 165 (by decide)).1 (gcn 165 (by decide)).2 rfl (Nat.le_of_ble_eq_true rfl) (by omega) (cM_of hsz (n := n - 1) (by omega) mi ml a 4 h0 h1 (by decide) (by decide)) ?_
    rintro _ _ ⟨rfl, rfl⟩
    refine Go.run hsz hn1 3 (pc' := 20) (lv' := [some (gr 148), some (gi a), some (gi x)]) (st' := [gi 5, gi a, gr 148, gi (mOf mi a 4), gi x]) (M' := gw mi ml) rfl ?_
    refine Go.callV (As := [gi a, gi 5]) (b := 148) (st := [gi (mOf mi a 4), gi x]) (mc1 := 0) (mc := 0) (ms1 := 0) (ms := 0) (by rfl) rfl (c := 11) (N := 46) (by rfl) (by decide) (by rfl) (gcn 165 (by decide)).1 (gcn 165 (by decide)).2 rfl (Nat.le_of_ble_eq_true rfl) (by omega) (cM_of hsz (n := n - 1) (by omega) mi ml a 5 h0 h1 (by decide) (by decide)) ?_
    rintro _ _ ⟨rfl, rfl⟩
    refine Go.run hsz hn1 1 (pc' := 24) (lv' := [some (gr 148), some (gi a), some (gi x)]) (st' := [gi ((mOf mi a 4) + (mOf mi a 5)), gi x]) (M' := gw mi ml) rfl ?_
    refine Go.icmp_ge (by rfl) hx ⟨by omega, by omega⟩ (fun kq2 => ?_) (fun kq2 => ?_)
    · refine Go.run hsz hn1 1 (pc' := 32) (lv' := [some (gr 148), some (gi a), some (gi x)]) (st' := [gi 0]) (M' := gw mi ml) rfl ?_
      exact Go.zret (by rfl) (Or.inl rfl) ⟨congrArg (fun z => some (gi z)) (by unfold mStays b2; split <;> omega), rfl⟩
    · refine Go.run hsz hn1 2 (pc' := 32) (lv' := [some (gr 148), some (gi a), some (gi x)]) (st' := [gi 1]) (M' := gw mi ml) rfl ?_
      exact Go.zret (by rfl) (Or.inr rfl) ⟨congrArg (fun z => some (gi z)) (by unfold mStays b2; split <;> omega), rfl⟩
set_option maxRecDepth 100000 in
set_option maxHeartbeats 4000000 in
theorem cM_meet {G : gG} (hsz : G.2.2.2.2.2.2 = true) {n : Nat} (hn : 2 ≤ n) (mi : Nat → Nat → Int) (ml : Nat → Nat → Int64) (a b : Int) (h0 : 0 ≤ a) (h1 : a < 24) (g0 : 0 ≤ b) (g1 : b < 24) (hR : gR32 mi) (hb : PV mi a) (hc : PV mi b) : gM G 173 n 0 0 [gr 148, gi a, gi b] (gw mi ml) (gret (mMeet mi a b) (gw mi ml)) := by
  have hn1 : 1 ≤ n := by omega
  obtain ⟨-, -, -, -, b4, b5, b6, -⟩ := id hb
  obtain ⟨-, -, -, -, c4, c5, c6, -⟩ := id hc
  refine gM.of mX12_meet okX12_meet (gcp 173 (by decide)).1 (gcp 173 (by decide)).2 (Nat.le_of_ble_eq_true rfl) ?_
  refine Go.run hsz hn1 3 (pc' := 3) (lv' := [some (gr 148), some (gi a), some (gi b)]) (st' := [gi 4, gi a, gr 148]) (M' := gw mi ml) rfl ?_
  refine Go.callV (As := [gi a, gi 4]) (b := 148) (st := []) (mc1 := 0) (mc := 0) (ms1 := 0) (ms := 0) (by rfl) rfl (c := 11) (N := 46) (by rfl) (by decide) (by rfl) (gcn 165 (by decide)).1 (gcn 165 (by decide)).2 rfl (Nat.le_of_ble_eq_true rfl) (by omega) (cM_of hsz (n := n - 1) (by omega) mi ml a 4 h0 h1 (by decide) (by decide)) ?_
  rintro _ _ ⟨rfl, rfl⟩
  refine Go.run hsz hn1 3 (pc' := 9) (lv' := [some (gr 148), some (gi a), some (gi b)]) (st' := [gi 4, gi b, gr 148, gi (mOf mi a 4)]) (M' := gw mi ml) rfl ?_
  refine Go.callV (As := [gi b, gi 4]) (b := 148) (st := [gi (mOf mi a 4)]) (mc1 := 0) (mc := 0) (ms1 := 0) (ms := 0) (by rfl) rfl (c := 11) (N := 46) (by rfl) (by decide) (by rfl) (gcn 165 (by decide)).1 (gcn 165 (by decide)).2 rfl (Nat.le_of_ble_eq_true rfl) (by omega) (cM_of hsz (n := n - 1) (by omega) mi ml b 4 g0 g1 (by decide) (by decide)) ?_
  rintro _ _ ⟨rfl, rfl⟩
  refine Go.run hsz hn1 3 (pc' := 15) (lv' := [some (gr 148), some (gi a), some (gi b)]) (st' := [gi 5, gi b, gr 148, gi (mOf mi b 4), gi (mOf mi a 4)]) (M' := gw mi ml) rfl ?_
  refine Go.callV (As := [gi b, gi 5]) (b := 148) (st := [gi (mOf mi b 4), gi (mOf mi a 4)]) (mc1 := 0) (mc := 0) (ms1 := 0) (ms := 0) (by rfl) rfl (c := 11) (N := 46) (by rfl) (by decide) (by rfl) (gcn 165 (by decide)).1 (gcn 165 (by decide)).2 rfl (Nat.le_of_ble_eq_true rfl) (by omega) (cM_of hsz (n := n - 1) (by omega) mi ml b 5 g0 g1 (by decide) (by decide)) ?_
  rintro _ _ ⟨rfl, rfl⟩
  refine Go.run hsz hn1 1 (pc' := 19) (lv' := [some (gr 148), some (gi a), some (gi b)]) (st' := [gi ((mOf mi b 4) + (mOf mi b 5)), gi (mOf mi a 4)]) (M' := gw mi ml) rfl ?_
  refine Go.icmp_ge (by rfl) (hR _ _) ⟨by omega, by omega⟩ (fun kq1 => ?_) (fun kq1 => ?_)
  · refine Go.run hsz hn1 1 (pc' := 49) (lv' := [some (gr 148), some (gi a), some (gi b)]) (st' := [gi 0]) (M' := gw mi ml) rfl ?_
    exact Go.zret (by rfl) (Or.inl rfl) ⟨congrArg (fun z => some (gi z)) (by unfold mMeet b2; split <;> omega), rfl⟩
  · refine Go.run hsz hn1 3 (pc' := 25) (lv' := [some (gr 148), some (gi a), some (gi b)]) (st' := [gi 4, gi b, gr 148]) (M' := gw mi ml) rfl ?_
    refine Go.callV (As := [gi b, gi 4]) (b := 148) (st := []) (mc1 := 0) (mc := 0) (ms1 := 0) (ms := 0) (by rfl) rfl (c := 11) (N := 46) (by rfl) (by decide) (by rfl) (gcn 165 (by decide)).1 (gcn 165 (by decide)).2 rfl (Nat.le_of_ble_eq_true rfl) (by omega) (cM_of hsz (n := n - 1) (by omega) mi ml b 4 g0 g1 (by decide) (by decide)) ?_
    rintro _ _ ⟨rfl, rfl⟩
    refine Go.run hsz hn1 3 (pc' := 31) (lv' := [some (gr 148), some (gi a), some (gi b)]) (st' := [gi 4, gi a, gr 148, gi (mOf mi b 4)]) (M' := gw mi ml) rfl ?_
    refine Go.callV (As := [gi a, gi 4]) (b := 148) (st := [gi (mOf mi b 4)]) (mc1 := 0) (mc := 0) (ms1 := 0) (ms := 0) (by rfl) rfl (c := 11) (N := 46) (by rfl) (by decide) (by rfl) (gcn 165 (by decide)).1 (gcn 165 (by decide)).2 rfl (Nat.le_of_ble_eq_true rfl) (by omega) (cM_of hsz (n := n - 1) (by omega) mi ml a 4 h0 h1 (by decide) (by decide)) ?_
    rintro _ _ ⟨rfl, rfl⟩
    refine Go.run hsz hn1 3 (pc' := 37) (lv' := [some (gr 148), some (gi a), some (gi b)]) (st' := [gi 5, gi a, gr 148, gi (mOf mi a 4), gi (mOf mi b 4)]) (M' := gw mi ml) rfl ?_
    refine Go.callV (As := [gi a, gi 5]) (b := 148) (st := [gi (mOf mi a 4), gi (mOf mi b 4)]) (mc1 := 0) (mc := 0) (ms1 := 0) (ms := 0) (by rfl) rfl (c := 11) (N := 46) (by rfl) (by decide) (by rfl) (gcn 165 (by decide)).1 (gcn 165 (by decide)).2 rfl (Nat.le_of_ble_eq_true rfl) (by omega) (cM_of hsz (n := n - 1) (by omega) mi ml a 5 h0 h1 (by decide) (by decide)) ?_
    rintro _ _ ⟨rfl, rfl⟩
    refine Go.run hsz hn1 1 (pc' := 41) (lv' := [some (gr 148), some (gi a), some (gi b)]) (st' := [gi ((mOf mi a 4) + (mOf mi a 5)), gi (mOf mi b 4)]) (M' := gw mi ml) rfl ?_
    refine Go.icmp_ge (by rfl) (hR _ _) ⟨by omega, by omega⟩ (fun kq2 => ?_) (fun kq2 => ?_)
    · refine Go.run hsz hn1 1 (pc' := 49) (lv' := [some (gr 148), some (gi a), some (gi b)]) (st' := [gi 0]) (M' := gw mi ml) rfl ?_
      exact Go.zret (by rfl) (Or.inl rfl) ⟨congrArg (fun z => some (gi z)) (by unfold mMeet b2; split <;> omega), rfl⟩
    · refine Go.run hsz hn1 2 (pc' := 49) (lv' := [some (gr 148), some (gi a), some (gi b)]) (st' := [gi 1]) (M' := gw mi ml) rfl ?_
      exact Go.zret (by rfl) (Or.inr rfl) ⟨congrArg (fun z => some (gi z)) (by unfold mMeet b2; split <;> omega), rfl⟩
set_option maxRecDepth 100000 in
set_option maxHeartbeats 4000000 in
theorem cM_whyNot {G : gG} (hsz : G.2.2.2.2.2.2 = true) {n : Nat} (hn : 3 ≤ n) (mi : Nat → Nat → Int) (ml : Nat → Nat → Int64) (a p : Int) (h0 : 0 ≤ a) (h1 : a < 24) (p0 : 0 ≤ p) (p1 : p < 12) (hR : gR32 mi) (hb : PV mi a) : gM G 169 n 0 0 [gr 148, gi a, gi p] (gw mi ml) (gret (mWhy mi a p) (gw mi ml)) := by
  have hn1 : 1 ≤ n := by omega
  obtain ⟨b0, b1, -⟩ := id hb
  refine gM.of mX12_whyNot okX12_whyNot (gcp 169 (by decide)).1 (gcp 169 (by decide)).2 (Nat.le_of_ble_eq_true rfl) ?_
  refine Go.run hsz hn1 3 (pc' := 3) (lv' := [some (gr 148), some (gi a), some (gi p), none, none]) (st' := [gi 0, gi a, gr 148]) (M' := gw mi ml) rfl ?_
  refine Go.callV (As := [gi a, gi 0]) (b := 148) (st := []) (mc1 := 0) (mc := 0) (ms1 := 0) (ms := 0) (by rfl) rfl (c := 11) (N := 46) (by rfl) (by decide) (by rfl) (gcn 165 (by decide)).1 (gcn 165 (by decide)).2 rfl (Nat.le_of_ble_eq_true rfl) (by omega) (cM_of hsz (n := n - 1) (by omega) mi ml a 0 h0 h1 (by decide) (by decide)) ?_
  rintro _ _ ⟨rfl, rfl⟩
  refine Go.run hsz hn1 8 (pc' := 16) (lv' := [some (gr 148), some (gi a), some (gi p), some (gi (mOf mi a 0)), some (gi (8 * p))]) (st' := [gi 1, gi a, gr 148]) (M' := gw mi ml) rfl ?_
  refine Go.callV (As := [gi a, gi 1]) (b := 148) (st := []) (mc1 := 0) (mc := 0) (ms1 := 0) (ms := 0) (by rfl) rfl (c := 11) (N := 46) (by rfl) (by decide) (by rfl) (gcn 165 (by decide)).1 (gcn 165 (by decide)).2 rfl (Nat.le_of_ble_eq_true rfl) (by omega) (cM_of hsz (n := n - 1) (by omega) mi ml a 1 h0 h1 (by decide) (by decide)) ?_
  rintro _ _ ⟨rfl, rfl⟩
  refine Go.run hsz hn1 5 (pc' := 27) (lv' := [some (gr 148), some (gi a), some (gi p), some (gi (mOf mi a 0)), some (gi (8 * p))]) (st' := [gi ((8 * p) + 2), gr 149, gi (mOf mi a 1)]) (M' := gw mi ml) rfl ?_
  refine Go.iald (by rfl) (N := 96) (by rfl) (by omega) (by omega) (by decide) ?_
  refine Go.run hsz hn1 0 (pc' := 28) (lv' := [some (gr 148), some (gi a), some (gi p), some (gi (mOf mi a 0)), some (gi (8 * p))]) (st' := [gi (mPi mi p 2), gi (mOf mi a 1)]) (M' := gw mi ml) rfl ?_
  refine Go.icmp_le (by rfl) (hR _ _) (hR _ _) (fun kq1 => ?_) (fun kq1 => ?_)
  · refine Go.run hsz hn1 4 (pc' := 37) (lv' := [some (gr 148), some (gi a), some (gi p), some (gi (mOf mi a 0)), some (gi (8 * p))]) (st' := [gi 1, gi p, gi a, gr 148]) (M' := gw mi ml) rfl ?_
    refine Go.callV (As := [gi a, gi p, gi 1]) (b := 148) (st := []) (mc1 := 0) (mc := 0) (ms1 := 0) (ms := 0) (by rfl) rfl (c := 11) (N := 46) (by rfl) (by decide) (by rfl) (gcn 168 (by decide)).1 (gcn 168 (by decide)).2 rfl (Nat.le_of_ble_eq_true rfl) (by omega) (cM_lacks hsz (n := n - 1) (by omega) mi ml a p 1 h0 h1 p0 p1 hR) ?_
    rintro _ _ ⟨rfl, rfl⟩
    refine Go.run hsz hn1 0 (pc' := 40) (lv' := [some (gr 148), some (gi a), some (gi p), some (gi (mOf mi a 0)), some (gi (8 * p))]) (st' := [gi (mLacks mi a p 1)]) (M' := gw mi ml) rfl ?_
    refine Go.if_eq (by rfl) (b2_rng _) (fun kq2 => ?_) (fun kq2 => ?_)
    · refine Go.run hsz hn1 4 (pc' := 49) (lv' := [some (gr 148), some (gi a), some (gi p), some (gi (mOf mi a 0)), some (gi (8 * p))]) (st' := [gi 2, gi p, gi a, gr 148]) (M' := gw mi ml) rfl ?_
      refine Go.callV (As := [gi a, gi p, gi 2]) (b := 148) (st := []) (mc1 := 0) (mc := 0) (ms1 := 0) (ms := 0) (by rfl) rfl (c := 11) (N := 46) (by rfl) (by decide) (by rfl) (gcn 168 (by decide)).1 (gcn 168 (by decide)).2 rfl (Nat.le_of_ble_eq_true rfl) (by omega) (cM_lacks hsz (n := n - 1) (by omega) mi ml a p 2 h0 h1 p0 p1 hR) ?_
      rintro _ _ ⟨rfl, rfl⟩
      refine Go.run hsz hn1 0 (pc' := 52) (lv' := [some (gr 148), some (gi a), some (gi p), some (gi (mOf mi a 0)), some (gi (8 * p))]) (st' := [gi (mLacks mi a p 2)]) (M' := gw mi ml) rfl ?_
      refine Go.if_eq (by rfl) (b2_rng _) (fun kq3 => ?_) (fun kq3 => ?_)
      · refine Go.run hsz hn1 2 (pc' := 59) (lv' := [some (gr 148), some (gi a), some (gi p), some (gi (mOf mi a 0)), some (gi (8 * p))]) (st' := [gi 1, gi (mOf mi a 0)]) (M' := gw mi ml) rfl ?_
        refine Go.icmp_ne (by rfl) (hR _ _) ⟨by decide, by decide⟩ (fun kq4 => ?_) (fun kq4 => ?_)
        · refine Go.run hsz hn1 1 (pc' := 83) (lv' := [some (gr 148), some (gi a), some (gi p), some (gi (mOf mi a 0)), some (gi (8 * p))]) (st' := [gi (mOf mi a 0)]) (M' := gw mi ml) rfl ?_
          refine Go.if_ne (by rfl) (hR _ _) (fun kq5 => ?_) (fun kq5 => ?_)
          · refine Go.run hsz hn1 3 (pc' := 91) (lv' := [some (gr 148), some (gi a), some (gi p), some (gi (mOf mi a 0)), some (gi (8 * p))]) (st' := [gi 2, gi a, gr 148]) (M' := gw mi ml) rfl ?_
            refine Go.callV (As := [gi a, gi 2]) (b := 148) (st := []) (mc1 := 0) (mc := 0) (ms1 := 0) (ms := 0) (by rfl) rfl (c := 11) (N := 46) (by rfl) (by decide) (by rfl) (gcn 165 (by decide)).1 (gcn 165 (by decide)).2 rfl (Nat.le_of_ble_eq_true rfl) (by omega) (cM_of hsz (n := n - 1) (by omega) mi ml a 2 h0 h1 (by decide) (by decide)) ?_
            rintro _ _ ⟨rfl, rfl⟩
            refine Go.run hsz hn1 5 (pc' := 102) (lv' := [some (gr 148), some (gi a), some (gi p), some (gi (mOf mi a 0)), some (gi (8 * p))]) (st' := [gi ((8 * p) + 5), gr 149, gi (mOf mi a 2)]) (M' := gw mi ml) rfl ?_
            refine Go.iald (by rfl) (N := 96) (by rfl) (by omega) (by omega) (by decide) ?_
            refine Go.run hsz hn1 0 (pc' := 103) (lv' := [some (gr 148), some (gi a), some (gi p), some (gi (mOf mi a 0)), some (gi (8 * p))]) (st' := [gi (mPi mi p 5), gi (mOf mi a 2)]) (M' := gw mi ml) rfl ?_
            refine Go.icmp_le (by rfl) (hR _ _) (hR _ _) (fun kq6 => ?_) (fun kq6 => ?_)
            · refine Go.run hsz hn1 4 (pc' := 112) (lv' := [some (gr 148), some (gi a), some (gi p), some (gi (mOf mi a 0)), some (gi (8 * p))]) (st' := [gi 4, gi p, gi a, gr 148]) (M' := gw mi ml) rfl ?_
              refine Go.callV (As := [gi a, gi p, gi 4]) (b := 148) (st := []) (mc1 := 0) (mc := 0) (ms1 := 0) (ms := 0) (by rfl) rfl (c := 11) (N := 46) (by rfl) (by decide) (by rfl) (gcn 168 (by decide)).1 (gcn 168 (by decide)).2 rfl (Nat.le_of_ble_eq_true rfl) (by omega) (cM_lacks hsz (n := n - 1) (by omega) mi ml a p 4 h0 h1 p0 p1 hR) ?_
              rintro _ _ ⟨rfl, rfl⟩
              refine Go.run hsz hn1 0 (pc' := 115) (lv' := [some (gr 148), some (gi a), some (gi p), some (gi (mOf mi a 0)), some (gi (8 * p))]) (st' := [gi (mLacks mi a p 4)]) (M' := gw mi ml) rfl ?_
              refine Go.if_ne (by rfl) (b2_rng _) (fun kq7 => ?_) (fun kq7 => ?_)
              · refine Go.run hsz hn1 1 (pc' := 140) (lv' := [some (gr 148), some (gi a), some (gi p), some (gi (mOf mi a 0)), some (gi (8 * p))]) (st' := [gi 6]) (M' := gw mi ml) rfl ?_
                first | exact Go.iret (by rfl) ⟨congrArg (fun z => some (gi z)) (by unfold mWhy; (repeat' split) <;> omega), rfl⟩ | (exfalso; omega)
              · refine Go.run hsz hn1 2 (pc' := 120) (lv' := [some (gr 148), some (gi a), some (gi p), some (gi (mOf mi a 0)), some (gi (8 * p))]) (st' := [gi 4, gi (mOf mi a 0)]) (M' := gw mi ml) rfl ?_
                refine Go.icmp_ne (by rfl) (hR _ _) ⟨by decide, by decide⟩ (fun kq8 => ?_) (fun kq8 => ?_)
                · refine Go.run hsz hn1 2 (pc' := 143) (lv' := [some (gr 148), some (gi a), some (gi p), some (gi (mOf mi a 0)), some (gi (8 * p))]) (st' := [gi 3, gi (mOf mi a 0)]) (M' := gw mi ml) rfl ?_
                  refine Go.icmp_ne (by rfl) (hR _ _) ⟨by decide, by decide⟩ (fun kq9 => ?_) (fun kq9 => ?_)
                  · refine Go.run hsz hn1 1 (pc' := 172) (lv' := [some (gr 148), some (gi a), some (gi p), some (gi (mOf mi a 0)), some (gi (8 * p))]) (st' := [gi 0]) (M' := gw mi ml) rfl ?_
                    first | exact Go.iret (by rfl) ⟨congrArg (fun z => some (gi z)) (by unfold mWhy; (repeat' split) <;> omega), rfl⟩ | (exfalso; omega)
                  · refine Go.run hsz hn1 3 (pc' := 149) (lv' := [some (gr 148), some (gi a), some (gi p), some (gi (mOf mi a 0)), some (gi (8 * p))]) (st' := [gi 1, gi a, gr 148]) (M' := gw mi ml) rfl ?_
                    refine Go.callV (As := [gi a, gi 1]) (b := 148) (st := []) (mc1 := 0) (mc := 0) (ms1 := 0) (ms := 0) (by rfl) rfl (c := 11) (N := 46) (by rfl) (by decide) (by rfl) (gcn 165 (by decide)).1 (gcn 165 (by decide)).2 rfl (Nat.le_of_ble_eq_true rfl) (by omega) (cM_of hsz (n := n - 1) (by omega) mi ml a 1 h0 h1 (by decide) (by decide)) ?_
                    rintro _ _ ⟨rfl, rfl⟩
                    refine Go.run hsz hn1 7 (pc' := 162) (lv' := [some (gr 148), some (gi a), some (gi p), some (gi (mOf mi a 0)), some (gi (8 * p))]) (st' := [gi ((8 * p) + 2), gr 149, gi ((mOf mi a 1) + 3)]) (M' := gw mi ml) rfl ?_
                    refine Go.iald (by rfl) (N := 96) (by rfl) (by omega) (by omega) (by decide) ?_
                    refine Go.run hsz hn1 0 (pc' := 163) (lv' := [some (gr 148), some (gi a), some (gi p), some (gi (mOf mi a 0)), some (gi (8 * p))]) (st' := [gi (mPi mi p 2), gi ((mOf mi a 1) + 3)]) (M' := gw mi ml) rfl ?_
                    refine Go.icmp_le (by rfl) ⟨by omega, by omega⟩ (hR _ _) (fun kq10 => ?_) (fun kq10 => ?_)
                    · refine Go.run hsz hn1 1 (pc' := 172) (lv' := [some (gr 148), some (gi a), some (gi p), some (gi (mOf mi a 0)), some (gi (8 * p))]) (st' := [gi 0]) (M' := gw mi ml) rfl ?_
                      first | exact Go.iret (by rfl) ⟨congrArg (fun z => some (gi z)) (by unfold mWhy; (repeat' split) <;> omega), rfl⟩ | (exfalso; omega)
                    · refine Go.run hsz hn1 2 (pc' := 172) (lv' := [some (gr 148), some (gi a), some (gi p), some (gi (mOf mi a 0)), some (gi (8 * p))]) (st' := [gi 7]) (M' := gw mi ml) rfl ?_
                      first | exact Go.iret (by rfl) ⟨congrArg (fun z => some (gi z)) (by unfold mWhy; (repeat' split) <;> omega), rfl⟩ | (exfalso; omega)
                · refine Go.run hsz hn1 5 (pc' := 132) (lv' := [some (gr 148), some (gi a), some (gi p), some (gi (mOf mi a 0)), some (gi (8 * p))]) (st' := [gi ((8 * p) + 6), gr 149]) (M' := gw mi ml) rfl ?_
                  refine Go.iald (by rfl) (N := 96) (by rfl) (by omega) (by omega) (by decide) ?_
                  refine Go.run hsz hn1 2 (pc' := 135) (lv' := [some (gr 148), some (gi a), some (gi p), some (gi (mOf mi a 0)), some (gi (8 * p))]) (st' := [gi (andI (mPi mi p 6) 4)]) (M' := gw mi ml) rfl ?_
                  refine Go.if_ne (by rfl) (rng_of _) (fun kq11 => ?_) (fun kq11 => ?_)
                  · refine Go.run hsz hn1 2 (pc' := 143) (lv' := [some (gr 148), some (gi a), some (gi p), some (gi (mOf mi a 0)), some (gi (8 * p))]) (st' := [gi 3, gi (mOf mi a 0)]) (M' := gw mi ml) rfl ?_
                    refine Go.icmp_ne (by rfl) (hR _ _) ⟨by decide, by decide⟩ (fun kq12 => ?_) (fun kq12 => ?_)
                    · refine Go.run hsz hn1 1 (pc' := 172) (lv' := [some (gr 148), some (gi a), some (gi p), some (gi (mOf mi a 0)), some (gi (8 * p))]) (st' := [gi 0]) (M' := gw mi ml) rfl ?_
                      first | exact Go.iret (by rfl) ⟨congrArg (fun z => some (gi z)) (by unfold mWhy; (repeat' split) <;> omega), rfl⟩ | (exfalso; omega)
                    · refine Go.run hsz hn1 3 (pc' := 149) (lv' := [some (gr 148), some (gi a), some (gi p), some (gi (mOf mi a 0)), some (gi (8 * p))]) (st' := [gi 1, gi a, gr 148]) (M' := gw mi ml) rfl ?_
                      refine Go.callV (As := [gi a, gi 1]) (b := 148) (st := []) (mc1 := 0) (mc := 0) (ms1 := 0) (ms := 0) (by rfl) rfl (c := 11) (N := 46) (by rfl) (by decide) (by rfl) (gcn 165 (by decide)).1 (gcn 165 (by decide)).2 rfl (Nat.le_of_ble_eq_true rfl) (by omega) (cM_of hsz (n := n - 1) (by omega) mi ml a 1 h0 h1 (by decide) (by decide)) ?_
                      rintro _ _ ⟨rfl, rfl⟩
                      refine Go.run hsz hn1 7 (pc' := 162) (lv' := [some (gr 148), some (gi a), some (gi p), some (gi (mOf mi a 0)), some (gi (8 * p))]) (st' := [gi ((8 * p) + 2), gr 149, gi ((mOf mi a 1) + 3)]) (M' := gw mi ml) rfl ?_
                      refine Go.iald (by rfl) (N := 96) (by rfl) (by omega) (by omega) (by decide) ?_
                      refine Go.run hsz hn1 0 (pc' := 163) (lv' := [some (gr 148), some (gi a), some (gi p), some (gi (mOf mi a 0)), some (gi (8 * p))]) (st' := [gi (mPi mi p 2), gi ((mOf mi a 1) + 3)]) (M' := gw mi ml) rfl ?_
                      refine Go.icmp_le (by rfl) ⟨by omega, by omega⟩ (hR _ _) (fun kq13 => ?_) (fun kq13 => ?_)
                      · refine Go.run hsz hn1 1 (pc' := 172) (lv' := [some (gr 148), some (gi a), some (gi p), some (gi (mOf mi a 0)), some (gi (8 * p))]) (st' := [gi 0]) (M' := gw mi ml) rfl ?_
                        first | exact Go.iret (by rfl) ⟨congrArg (fun z => some (gi z)) (by unfold mWhy; (repeat' split) <;> omega), rfl⟩ | (exfalso; omega)
                      · refine Go.run hsz hn1 2 (pc' := 172) (lv' := [some (gr 148), some (gi a), some (gi p), some (gi (mOf mi a 0)), some (gi (8 * p))]) (st' := [gi 7]) (M' := gw mi ml) rfl ?_
                        first | exact Go.iret (by rfl) ⟨congrArg (fun z => some (gi z)) (by unfold mWhy; (repeat' split) <;> omega), rfl⟩ | (exfalso; omega)
                  · refine Go.run hsz hn1 1 (pc' := 140) (lv' := [some (gr 148), some (gi a), some (gi p), some (gi (mOf mi a 0)), some (gi (8 * p))]) (st' := [gi 6]) (M' := gw mi ml) rfl ?_
                    first | exact Go.iret (by rfl) ⟨congrArg (fun z => some (gi z)) (by unfold mWhy; (repeat' split) <;> omega), rfl⟩ | (exfalso; omega)
            · refine Go.run hsz hn1 1 (pc' := 107) (lv' := [some (gr 148), some (gi a), some (gi p), some (gi (mOf mi a 0)), some (gi (8 * p))]) (st' := [gi 5]) (M' := gw mi ml) rfl ?_
              first | exact Go.iret (by rfl) ⟨congrArg (fun z => some (gi z)) (by unfold mWhy; (repeat' split) <;> omega), rfl⟩ | (exfalso; omega)
          · refine Go.run hsz hn1 1 (pc' := 87) (lv' := [some (gr 148), some (gi a), some (gi p), some (gi (mOf mi a 0)), some (gi (8 * p))]) (st' := [gi 0]) (M' := gw mi ml) rfl ?_
            first | exact Go.iret (by rfl) ⟨congrArg (fun z => some (gi z)) (by unfold mWhy; (repeat' split) <;> omega), rfl⟩ | (exfalso; omega)
        · refine Go.run hsz hn1 5 (pc' := 70) (lv' := [some (gr 148), some (gi a), some (gi p), some (gi (mOf mi a 0)), some (gi (8 * p))]) (st' := [gi ((8 * p) + 4), gr 149]) (M' := gw mi ml) rfl ?_
          refine Go.iald (by rfl) (N := 96) (by rfl) (by omega) (by omega) (by decide) ?_
          refine Go.run hsz hn1 1 (pc' := 73) (lv' := [some (gr 148), some (gi a), some (gi p), some (gi (mOf mi a 0)), some (gi (8 * p))]) (st' := [gi 6, gi (mPi mi p 4)]) (M' := gw mi ml) rfl ?_
          refine Go.icmp_le (by rfl) (hR _ _) ⟨by decide, by decide⟩ (fun kq14 => ?_) (fun kq14 => ?_)
          · refine Go.run hsz hn1 1 (pc' := 81) (lv' := [some (gr 148), some (gi a), some (gi p), some (gi (mOf mi a 0)), some (gi (8 * p))]) (st' := [gi 0]) (M' := gw mi ml) rfl ?_
            first | exact Go.iret (by rfl) ⟨congrArg (fun z => some (gi z)) (by unfold mWhy; (repeat' split) <;> omega), rfl⟩ | (exfalso; omega)
          · refine Go.run hsz hn1 2 (pc' := 81) (lv' := [some (gr 148), some (gi a), some (gi p), some (gi (mOf mi a 0)), some (gi (8 * p))]) (st' := [gi 4]) (M' := gw mi ml) rfl ?_
            first | exact Go.iret (by rfl) ⟨congrArg (fun z => some (gi z)) (by unfold mWhy; (repeat' split) <;> omega), rfl⟩ | (exfalso; omega)
      · refine Go.run hsz hn1 1 (pc' := 56) (lv' := [some (gr 148), some (gi a), some (gi p), some (gi (mOf mi a 0)), some (gi (8 * p))]) (st' := [gi 3]) (M' := gw mi ml) rfl ?_
        first | exact Go.iret (by rfl) ⟨congrArg (fun z => some (gi z)) (by unfold mWhy; (repeat' split) <;> omega), rfl⟩ | (exfalso; omega)
    · refine Go.run hsz hn1 1 (pc' := 44) (lv' := [some (gr 148), some (gi a), some (gi p), some (gi (mOf mi a 0)), some (gi (8 * p))]) (st' := [gi 2]) (M' := gw mi ml) rfl ?_
      first | exact Go.iret (by rfl) ⟨congrArg (fun z => some (gi z)) (by unfold mWhy; (repeat' split) <;> omega), rfl⟩ | (exfalso; omega)
  · refine Go.run hsz hn1 1 (pc' := 32) (lv' := [some (gr 148), some (gi a), some (gi p), some (gi (mOf mi a 0)), some (gi (8 * p))]) (st' := [gi 1]) (M' := gw mi ml) rfl ?_
    first | exact Go.iret (by rfl) ⟨congrArg (fun z => some (gi z)) (by unfold mWhy; (repeat' split) <;> omega), rfl⟩ | (exfalso; omega)
set_option maxRecDepth 100000 in
set_option maxHeartbeats 4000000 in
theorem cM_isHere {G : gG} (hsz : G.2.2.2.2.2.2 = true) {n : Nat} (hn : 3 ≤ n) (mi : Nat → Nat → Int) (ml : Nat → Nat → Int64) (a : Int) (h0 : 0 ≤ a) (h1 : a < 24) (hR : gR32 mi) (hb : PV mi a) : gM G 221 n 0 0 [gr 148, gi a] (gw mi ml) (gret (mHere mi a) (gw mi ml)) := by
  have hn1 : 1 ≤ n := by omega
  refine gM.of mX12_isHere okX12_isHere (gcp 221 (by decide)).1 (gcp 221 (by decide)).2 (Nat.le_of_ble_eq_true rfl) ?_
  refine Go.run hsz hn1 3 (pc' := 4) (lv' := [some (gr 148), some (gi a)]) (st' := [gi 6, gi a, gr 148]) (M' := gw mi ml) rfl ?_
  refine Go.callV (As := [gi a, gi 6]) (b := 148) (st := []) (mc1 := 0) (mc := 0) (ms1 := 0) (ms := 0) (by rfl) rfl (c := 11) (N := 46) (by rfl) (by decide) (by rfl) (gcn 165 (by decide)).1 (gcn 165 (by decide)).2 rfl (Nat.le_of_ble_eq_true rfl) (by omega) (cM_of hsz (n := n - 1) (by omega) mi ml a 6 h0 h1 (by decide) (by decide)) ?_
  rintro _ _ ⟨rfl, rfl⟩
  refine Go.run hsz hn1 0 (pc' := 7) (lv' := [some (gr 148), some (gi a)]) (st' := [gi (mOf mi a 6)]) (M' := gw mi ml) rfl ?_
  refine Go.if_lt (by rfl) (hR _ _) (fun kq1 => ?_) (fun kq1 => ?_)
  · refine Go.run hsz hn1 1 (pc' := 27) (lv' := [some (gr 148), some (gi a)]) (st' := [gi 0]) (M' := gw mi ml) rfl ?_
    exact Go.zret (by rfl) (Or.inl rfl) ⟨congrArg (fun z => some (gi z)) (by unfold mHere; unfold b2; split <;> omega), rfl⟩
  · refine Go.run hsz hn1 4 (pc' := 16) (lv' := [some (gr 148), some (gi a)]) (st' := [gi (mi 148 0), gi a, gr 148]) (M' := gw mi ml) rfl ?_
    refine Go.callV (As := [gi a, gi (mi 148 0)]) (b := 148) (st := []) (mc1 := 0) (mc := 0) (ms1 := 0) (ms := 0) (by rfl) rfl (c := 11) (N := 46) (by rfl) (by decide) (by rfl) (gcn 172 (by decide)).1 (gcn 172 (by decide)).2 rfl (Nat.le_of_ble_eq_true rfl) (by omega) (cM_staysIn hsz (n := n - 1) (by omega) mi ml a (mi 148 0) (by omega) (by omega) hR (hR _ _) hb) ?_
    rintro _ _ ⟨rfl, rfl⟩
    refine Go.run hsz hn1 0 (pc' := 19) (lv' := [some (gr 148), some (gi a)]) (st' := [gi (mStays mi a (mi 148 0))]) (M' := gw mi ml) rfl ?_
    refine Go.if_eq (by rfl) (b2_rng _) (fun kq2 => ?_) (fun kq2 => ?_)
    · refine Go.run hsz hn1 1 (pc' := 27) (lv' := [some (gr 148), some (gi a)]) (st' := [gi 0]) (M' := gw mi ml) rfl ?_
      exact Go.zret (by rfl) (Or.inl rfl) ⟨congrArg (fun z => some (gi z)) (by unfold mHere; unfold b2; split <;> omega), rfl⟩
    · refine Go.run hsz hn1 2 (pc' := 27) (lv' := [some (gr 148), some (gi a)]) (st' := [gi 1]) (M' := gw mi ml) rfl ?_
      exact Go.zret (by rfl) (Or.inr rfl) ⟨congrArg (fun z => some (gi z)) (by unfold mHere; unfold b2; split <;> omega), rfl⟩
end
section
def mWho (mi : Nat → Nat → Int) (p x : Int) (k : Nat) : Int := gfold (fun a acc => if mOf mi a 6 = p ∧ ¬ mStays mi a x = 0 then a else acc) (-1) k
set_option maxRecDepth 100000 in
set_option maxHeartbeats 4000000 in
theorem lM_whoIn {G : gG} (hsz : G.2.2.2.2.2.2 = true) {n : Nat} (hn : 3 ≤ n) (mi : Nat → Nat → Int) (ml : Nat → Nat → Int64) (p x : Int) (hp0 : rng p) (hx : rng x) (hv : SV mi) : ∀ (f : Nat) (k : Int), 0 ≤ k → k ≤ mi 148 6 → mi 148 6 - k < f → Go G mX12_whoIn n 0 0 5 [some (gr 148), some (gi p), some (gi x), some (gi (mWho mi p x k.toNat)), some (gi k)] [] (gw mi ml) (gret (mWho mi p x (mi 148 6).toNat) (gw mi ml)) := by
  have hn1 : 1 ≤ n := by omega
  obtain ⟨hR, ht, hp, hq, hP, hQ⟩ := id hv
  intro f
  induction f with
  | zero => intros; omega
  | succ f ih =>
    intro k k0 k1 k2
    refine Go.run hsz hn1 3 (pc' := 11) (lv' := [some (gr 148), some (gi p), some (gi x), some (gi (mWho mi p x k.toNat)), some (gi k)]) (st' := [gi (mi 148 6), gi k]) (M' := gw mi ml) rfl ?_
    refine Go.icmp_ge (by rfl) ⟨by omega, by omega⟩ (hR _ _) (fun kq1 => ?_) (fun kq1 => ?_)
    · refine Go.run hsz hn1 1 (pc' := 50) (lv' := [some (gr 148), some (gi p), some (gi x), some (gi (mWho mi p x k.toNat)), some (gi k)]) (st' := [gi (mWho mi p x k.toNat)]) (M' := gw mi ml) rfl ?_
      exact Go.iret (by rfl) ⟨by rw [show mi 148 6 = k by omega], rfl⟩
    · refine Go.run hsz hn1 3 (pc' := 19) (lv' := [some (gr 148), some (gi p), some (gi x), some (gi (mWho mi p x k.toNat)), some (gi k)]) (st' := [gi 6, gi k, gr 148]) (M' := gw mi ml) rfl ?_
      refine Go.callV (As := [gi k, gi 6]) (b := 148) (st := []) (mc1 := 0) (mc := 0) (ms1 := 0) (ms := 0) (by rfl) rfl (c := 11) (N := 46) (by rfl) (by decide) (by rfl) (gcn 165 (by decide)).1 (gcn 165 (by decide)).2 rfl (Nat.le_of_ble_eq_true rfl) (by omega) (cM_of hsz (n := n - 1) (by omega) mi ml k 6 (by omega) (by omega) (by omega) (by omega)) ?_
      rintro _ _ ⟨rfl, rfl⟩
      refine Go.run hsz hn1 1 (pc' := 23) (lv' := [some (gr 148), some (gi p), some (gi x), some (gi (mWho mi p x k.toNat)), some (gi k)]) (st' := [gi p, gi (mOf mi k 6)]) (M' := gw mi ml) rfl ?_
      refine Go.icmp_ne (by rfl) (hR _ _) hp0 (fun kq2 => ?_) (fun kq2 => ?_)
      · refine Go.run hsz hn1 4 (pc' := 5) (lv' := [some (gr 148), some (gi p), some (gi x), some (gi (mWho mi p x k.toNat)), some (gi (k + 1))]) (st' := []) (M' := gw mi ml) rfl ?_
        have h9 := ih (k + 1) (by omega) (by omega) (by omega)
        rw [show mWho mi p x (k + 1).toNat = _ from gfold_s k0] at h9
        (try dsimp only at h9)
        (repeat' split at h9) <;> first | exact h9 | (exfalso; omega)
      · refine Go.run hsz hn1 3 (pc' := 30) (lv' := [some (gr 148), some (gi p), some (gi x), some (gi (mWho mi p x k.toNat)), some (gi k)]) (st' := [gi x, gi k, gr 148]) (M' := gw mi ml) rfl ?_
        refine Go.callV (As := [gi k, gi x]) (b := 148) (st := []) (mc1 := 0) (mc := 0) (ms1 := 0) (ms := 0) (by rfl) rfl (c := 11) (N := 46) (by rfl) (by decide) (by rfl) (gcn 172 (by decide)).1 (gcn 172 (by decide)).2 rfl (Nat.le_of_ble_eq_true rfl) (by omega) (cM_staysIn hsz (n := n - 1) (by omega) mi ml k x (by omega) (by omega) hR hx (hP k (by omega) (by omega))) ?_
        rintro _ _ ⟨rfl, rfl⟩
        refine Go.run hsz hn1 0 (pc' := 33) (lv' := [some (gr 148), some (gi p), some (gi x), some (gi (mWho mi p x k.toNat)), some (gi k)]) (st' := [gi (mStays mi k x)]) (M' := gw mi ml) rfl ?_
        refine Go.if_eq (by rfl) (b2_rng _) (fun kq3 => ?_) (fun kq3 => ?_)
        · refine Go.run hsz hn1 4 (pc' := 5) (lv' := [some (gr 148), some (gi p), some (gi x), some (gi (mWho mi p x k.toNat)), some (gi (k + 1))]) (st' := []) (M' := gw mi ml) rfl ?_
          have h9 := ih (k + 1) (by omega) (by omega) (by omega)
          rw [show mWho mi p x (k + 1).toNat = _ from gfold_s k0] at h9
          (try dsimp only at h9)
          (repeat' split at h9) <;> first | exact h9 | (exfalso; omega)
        · refine Go.run hsz hn1 5 (pc' := 5) (lv' := [some (gr 148), some (gi p), some (gi x), some (gi k), some (gi (k + 1))]) (st' := []) (M' := gw mi ml) rfl ?_
          have h9 := ih (k + 1) (by omega) (by omega) (by omega)
          rw [show mWho mi p x (k + 1).toNat = _ from gfold_s k0] at h9
          (try dsimp only at h9)
          (repeat' split at h9) <;> first | exact h9 | (exfalso; omega)
set_option maxRecDepth 100000 in
set_option maxHeartbeats 4000000 in
theorem cM_whoIn {G : gG} (hsz : G.2.2.2.2.2.2 = true) {n : Nat} (hn : 3 ≤ n) (mi : Nat → Nat → Int) (ml : Nat → Nat → Int64) (p x : Int) (hp0 : rng p) (hx : rng x) (hv : SV mi) : gM G 177 n 0 0 [gr 148, gi p, gi x] (gw mi ml) (gret (mWho mi p x (mi 148 6).toNat) (gw mi ml)) := by
  have hn1 : 1 ≤ n := by omega
  refine gM.of mX12_whoIn okX12_whoIn (gcp 177 (by decide)).1 (gcp 177 (by decide)).2 (Nat.le_of_ble_eq_true rfl) ?_
  refine Go.run hsz hn1 4 (pc' := 5) (lv' := [some (gr 148), some (gi p), some (gi x), some (gi (-1)), some (gi 0)]) (st' := []) (M' := gw mi ml) rfl ?_
  exact lM_whoIn hsz hn mi ml p x hp0 hx hv ((mi 148 6).toNat + 1) 0 (by omega) (by have := hv.2.2.2.1.1; omega) (by omega)
end
section
def absI (v : Int) : Int := if v < 0 then -v else v
def mPx (mi : Nat → Nat → Int) (p : Int) : Int := mi 149 (8 * p).toNat
theorem mPx_eq (mi : Nat → Nat → Int) (p : Int) : mPx mi p = mPi mi p 0 := by unfold mPx mPi; rw [Int.add_zero]
def mFar (mi : Nat → Nat → Int) (p q : Int) : Int := absI (mPx mi p - mPx mi q) + absI (mPi mi p 1 - mPi mi q 1)
def mFree (mi : Nat → Nat → Int) (a p : Int) : Int := b2 (∀ b : Nat, b < (mi 148 6).toNat → ¬ ((b : Int) ≠ a ∧ mOf mi b 6 = p ∧ ¬ mMeet mi a b = 0))
def mOthers (mi : Nat → Nat → Int) (a : Int) (k : Nat) : Int := gfold (fun b acc => if b ≠ a ∧ 0 ≤ mOf mi b 6 ∧ ¬ mStays mi b (mOf mi a 4) = 0 then acc + 1 else acc + 0) 0 k
def mPost (mi : Nat → Nat → Int) (a : Int) : Int := mPi mi (mOf mi a 6) 7
def mLoad (mi : Nat → Nat → Int) (post hour : Int) (k : Nat) : Int := gfold (fun a acc => if ¬ mHere mi a = 0 ∧ mPost mi a = post ∧ andI (shrI (mOf mi a 9) hour) 1 = 1 then acc + mOf mi a 10 else acc + 0) 0 k
def mWet (mi : Nat → Nat → Int) (a w : Int) : Int := b2 (¬ mHere mi a = 0 ∧ mPi mi (mOf mi a 6) 3 < w)
def mPrice (mi : Nat → Nat → Int) (a : Int) : Int := if mOf mi a 0 < 2 then (if mOf mi a 0 = 1 then 10 + mOf mi a 1 - 3 else 10 + mOf mi a 1) else if mOf mi a 0 = 3 then 2 * (10 + mOf mi a 1 + 2 * mOf mi a 2) else if mOf mi a 0 = 4 then (10 + mOf mi a 1 + 2 * mOf mi a 2) - (10 + mOf mi a 1 + 2 * mOf mi a 2).tdiv 3 else 10 + mOf mi a 1 + 2 * mOf mi a 2
def mApart (mi : Nat → Nat → Int) (k : Nat) : Int := gfold (fun a acc => if 0 ≤ mOf mi a 7 ∧ 0 ≤ mOf mi a 6 ∧ 0 ≤ mOf mi (mOf mi a 7) 6 then acc + mFar mi (mOf mi a 6) (mOf mi (mOf mi a 7) 6) else acc + 0) 0 k
set_option maxRecDepth 100000 in
set_option maxHeartbeats 4000000 in
theorem cM_farOf {G : gG} (hsz : G.2.2.2.2.2.2 = true) {n : Nat} (hn : 2 ≤ n) (mi : Nat → Nat → Int) (ml : Nat → Nat → Int64) (p q : Int) (p0 : 0 ≤ p) (p1 : p < 12) (q0 : 0 ≤ q) (q1 : q < 12) (ha : QV mi p) (hb : QV mi q) : gM G 162 n 0 0 [gr 148, gi p, gi q] (gw mi ml) (gret (mFar mi p q) (gw mi ml)) := by
  have hn1 : 1 ≤ n := by omega
  obtain ⟨⟨x0, x1⟩, ⟨y0, y1⟩, -⟩ := id ha
  obtain ⟨⟨x2, x3⟩, ⟨y2, y3⟩, -⟩ := id hb
  rw [← mPx_eq] at x0 x1 x2 x3
  refine gM.of mX12_farOf okX12_farOf (gcp 162 (by decide)).1 (gcp 162 (by decide)).2 (Nat.le_of_ble_eq_true rfl) ?_
  refine Go.run hsz hn1 5 (pc' := 8) (lv' := [some (gr 148), some (gi p), some (gi q)]) (st' := [gi (8 * p), gr 149]) (M' := gw mi ml) rfl ?_
  refine Go.iald (by rfl) (N := 96) (by rfl) (by omega) (by omega) (by decide) ?_
  refine Go.run hsz hn1 5 (pc' := 17) (lv' := [some (gr 148), some (gi p), some (gi q)]) (st' := [gi (8 * q), gr 149, gi (mPx mi p)]) (M' := gw mi ml) rfl ?_
  refine Go.iald (by rfl) (N := 96) (by rfl) (by omega) (by omega) (by decide) ?_
  refine Go.run hsz hn1 1 (pc' := 19) (lv' := [some (gr 148), some (gi p), some (gi q)]) (st' := [gi ((mPx mi p) - (mPx mi q))]) (M' := gw mi ml) rfl ?_
  refine Go.callS (As := [gi ((mPx mi p) - (mPx mi q))]) (st := []) (mc1 := 0) (mc := 0) (ms1 := 0) (ms := 0) (by rfl) rfl (gcn 161 (by decide)).1 (gcn 161 (by decide)).2 (Nat.le_of_ble_eq_true rfl) (by omega) (cM_size hsz (n := n - 1) (by omega) mi ml ((mPx mi p) - (mPx mi q)) ⟨by omega, by omega⟩) ?_
  rintro _ _ ⟨rfl, rfl⟩
  refine Go.run hsz hn1 7 (pc' := 32) (lv' := [some (gr 148), some (gi p), some (gi q)]) (st' := [gi ((8 * p) + 1), gr 149, gi (absI ((mPx mi p) - (mPx mi q)))]) (M' := gw mi ml) rfl ?_
  refine Go.iald (by rfl) (N := 96) (by rfl) (by omega) (by omega) (by decide) ?_
  refine Go.run hsz hn1 7 (pc' := 43) (lv' := [some (gr 148), some (gi p), some (gi q)]) (st' := [gi ((8 * q) + 1), gr 149, gi (mPi mi p 1), gi (absI ((mPx mi p) - (mPx mi q)))]) (M' := gw mi ml) rfl ?_
  refine Go.iald (by rfl) (N := 96) (by rfl) (by omega) (by omega) (by decide) ?_
  refine Go.run hsz hn1 1 (pc' := 45) (lv' := [some (gr 148), some (gi p), some (gi q)]) (st' := [gi ((mPi mi p 1) - (mPi mi q 1)), gi (absI ((mPx mi p) - (mPx mi q)))]) (M' := gw mi ml) rfl ?_
  refine Go.callS (As := [gi ((mPi mi p 1) - (mPi mi q 1))]) (st := [gi (absI ((mPx mi p) - (mPx mi q)))]) (mc1 := 0) (mc := 0) (ms1 := 0) (ms := 0) (by rfl) rfl (gcn 161 (by decide)).1 (gcn 161 (by decide)).2 (Nat.le_of_ble_eq_true rfl) (by omega) (cM_size hsz (n := n - 1) (by omega) mi ml ((mPi mi p 1) - (mPi mi q 1)) ⟨by omega, by omega⟩) ?_
  rintro _ _ ⟨rfl, rfl⟩
  refine Go.run hsz hn1 1 (pc' := 49) (lv' := [some (gr 148), some (gi p), some (gi q)]) (st' := [gi ((absI ((mPx mi p) - (mPx mi q))) + (absI ((mPi mi p 1) - (mPi mi q 1))))]) (M' := gw mi ml) rfl ?_
  first | exact Go.iret (by rfl) ⟨congrArg (fun z => some (gi z)) (rfl), rfl⟩ | (exfalso; omega)
set_option maxRecDepth 100000 in
set_option maxHeartbeats 4000000 in
theorem lM_isFreeFor {G : gG} (hsz : G.2.2.2.2.2.2 = true) {n : Nat} (hn : 3 ≤ n) (mi : Nat → Nat → Int) (ml : Nat → Nat → Int64) (a p : Int) (a0 : 0 ≤ a) (a1 : a < mi 148 6) (hp0 : rng p) (hv : SV mi) : ∀ (f : Nat) (k : Int) (hall : ∀ b : Nat, (b : Int) < k → ¬ ((b : Int) ≠ a ∧ mOf mi b 6 = p ∧ ¬ mMeet mi a b = 0)), 0 ≤ k → k ≤ mi 148 6 → mi 148 6 - k < f → Go G mX12_isFreeFor n 0 0 2 [some (gr 148), some (gi a), some (gi p), some (gi k)] [] (gw mi ml) (gret (mFree mi a p) (gw mi ml)) := by
  have hn1 : 1 ≤ n := by omega
  obtain ⟨hR, ht, hp, hq, hP, hQ⟩ := id hv
  intro f
  induction f with
  | zero => intros; omega
  | succ f ih =>
    intro k hall k0 k1 k2
    refine Go.run hsz hn1 3 (pc' := 7) (lv' := [some (gr 148), some (gi a), some (gi p), some (gi k)]) (st' := [gi (mi 148 6), gi k]) (M' := gw mi ml) rfl ?_
    refine Go.icmp_ge (by rfl) ⟨by omega, by omega⟩ (hR _ _) (fun kq1 => ?_) (fun kq1 => ?_)
    · refine Go.run hsz hn1 1 (pc' := 44) (lv' := [some (gr 148), some (gi a), some (gi p), some (gi k)]) (st' := [gi 1]) (M' := gw mi ml) rfl ?_
      exact Go.zret (by rfl) (Or.inr rfl) ⟨congrArg (fun z => some (gi z)) (by unfold mFree b2; rw [if_pos]; intro b hb; exact hall b (by omega)), rfl⟩
    · refine Go.run hsz hn1 2 (pc' := 12) (lv' := [some (gr 148), some (gi a), some (gi p), some (gi k)]) (st' := [gi a, gi k]) (M' := gw mi ml) rfl ?_
      refine Go.icmp_eq (by rfl) ⟨by omega, by omega⟩ ⟨by omega, by omega⟩ (fun kq2 => ?_) (fun kq2 => ?_)
      · refine Go.run hsz hn1 2 (pc' := 2) (lv' := [some (gr 148), some (gi a), some (gi p), some (gi (k + 1))]) (st' := []) (M' := gw mi ml) rfl ?_
        exact ih (k + 1) (fun b hb hc => (by
          by_cases e : (b : Int) = k
          · rw [e] at hc; omega
          · exact hall b (by omega) hc)) (by omega) (by omega) (by omega)
      · refine Go.run hsz hn1 3 (pc' := 19) (lv' := [some (gr 148), some (gi a), some (gi p), some (gi k)]) (st' := [gi 6, gi k, gr 148]) (M' := gw mi ml) rfl ?_
        refine Go.callV (As := [gi k, gi 6]) (b := 148) (st := []) (mc1 := 0) (mc := 0) (ms1 := 0) (ms := 0) (by rfl) rfl (c := 11) (N := 46) (by rfl) (by decide) (by rfl) (gcn 165 (by decide)).1 (gcn 165 (by decide)).2 rfl (Nat.le_of_ble_eq_true rfl) (by omega) (cM_of hsz (n := n - 1) (by omega) mi ml k 6 (by omega) (by omega) (by omega) (by omega)) ?_
        rintro _ _ ⟨rfl, rfl⟩
        refine Go.run hsz hn1 1 (pc' := 23) (lv' := [some (gr 148), some (gi a), some (gi p), some (gi k)]) (st' := [gi p, gi (mOf mi k 6)]) (M' := gw mi ml) rfl ?_
        refine Go.icmp_ne (by rfl) (hR _ _) hp0 (fun kq3 => ?_) (fun kq3 => ?_)
        · refine Go.run hsz hn1 2 (pc' := 2) (lv' := [some (gr 148), some (gi a), some (gi p), some (gi (k + 1))]) (st' := []) (M' := gw mi ml) rfl ?_
          exact ih (k + 1) (fun b hb hc => (by
            by_cases e : (b : Int) = k
            · rw [e] at hc; omega
            · exact hall b (by omega) hc)) (by omega) (by omega) (by omega)
        · refine Go.run hsz hn1 3 (pc' := 29) (lv' := [some (gr 148), some (gi a), some (gi p), some (gi k)]) (st' := [gi k, gi a, gr 148]) (M' := gw mi ml) rfl ?_
          refine Go.callV (As := [gi a, gi k]) (b := 148) (st := []) (mc1 := 0) (mc := 0) (ms1 := 0) (ms := 0) (by rfl) rfl (c := 11) (N := 46) (by rfl) (by decide) (by rfl) (gcn 173 (by decide)).1 (gcn 173 (by decide)).2 rfl (Nat.le_of_ble_eq_true rfl) (by omega) (cM_meet hsz (n := n - 1) (by omega) mi ml a k (by omega) (by omega) (by omega) (by omega) hR (hP a (by omega) (by omega)) (hP k (by omega) (by omega))) ?_
          rintro _ _ ⟨rfl, rfl⟩
          refine Go.run hsz hn1 0 (pc' := 32) (lv' := [some (gr 148), some (gi a), some (gi p), some (gi k)]) (st' := [gi (mMeet mi a k)]) (M' := gw mi ml) rfl ?_
          refine Go.if_eq (by rfl) (b2_rng _) (fun kq4 => ?_) (fun kq4 => ?_)
          · refine Go.run hsz hn1 2 (pc' := 2) (lv' := [some (gr 148), some (gi a), some (gi p), some (gi (k + 1))]) (st' := []) (M' := gw mi ml) rfl ?_
            exact ih (k + 1) (fun b hb hc => (by
              by_cases e : (b : Int) = k
              · rw [e] at hc; omega
              · exact hall b (by omega) hc)) (by omega) (by omega) (by omega)
          · refine Go.run hsz hn1 1 (pc' := 36) (lv' := [some (gr 148), some (gi a), some (gi p), some (gi k)]) (st' := [gi 0]) (M' := gw mi ml) rfl ?_
            exact Go.zret (by rfl) (Or.inl rfl) ⟨congrArg (fun z => some (gi z)) (by unfold mFree b2; rw [if_neg]; intro h; have h8 := h k.toNat (by omega); rw [show ((k.toNat : Nat) : Int) = k by omega] at h8; exact h8 ⟨by omega, by omega, by omega⟩), rfl⟩
set_option maxRecDepth 100000 in
set_option maxHeartbeats 4000000 in
theorem cM_isFreeFor {G : gG} (hsz : G.2.2.2.2.2.2 = true) {n : Nat} (hn : 3 ≤ n) (mi : Nat → Nat → Int) (ml : Nat → Nat → Int64) (a p : Int) (a0 : 0 ≤ a) (a1 : a < mi 148 6) (hp0 : rng p) (hv : SV mi) : gM G 174 n 0 0 [gr 148, gi a, gi p] (gw mi ml) (gret (mFree mi a p) (gw mi ml)) := by
  have hn1 : 1 ≤ n := by omega
  refine gM.of mX12_isFreeFor okX12_isFreeFor (gcp 174 (by decide)).1 (gcp 174 (by decide)).2 (Nat.le_of_ble_eq_true rfl) ?_
  refine Go.run hsz hn1 2 (pc' := 2) (lv' := [some (gr 148), some (gi a), some (gi p), some (gi 0)]) (st' := []) (M' := gw mi ml) rfl ?_
  exact lM_isFreeFor hsz hn mi ml a p a0 a1 hp0 hv ((mi 148 6).toNat + 1) 0 (fun b hb => by omega) (by omega) (by have := hv.2.2.2.1.1; omega) (by omega)
set_option maxRecDepth 100000 in
set_option maxHeartbeats 4000000 in
theorem lM_others {G : gG} (hsz : G.2.2.2.2.2.2 = true) {n : Nat} (hn : 3 ≤ n) (mi : Nat → Nat → Int) (ml : Nat → Nat → Int64) (a : Int) (a0 : 0 ≤ a) (a1 : a < mi 148 6) (hv : SV mi) : ∀ (f : Nat) (k : Int), 0 ≤ k → k ≤ mi 148 6 → mi 148 6 - k < f → Go G mX12_others n 0 0 4 [some (gr 148), some (gi a), some (gi (mOthers mi a k.toNat)), some (gi k)] [] (gw mi ml) (gret (mOthers mi a (mi 148 6).toNat) (gw mi ml)) := by
  have hn1 : 1 ≤ n := by omega
  obtain ⟨hR, ht, hp, hq, hP, hQ⟩ := id hv
  intro f
  induction f with
  | zero => intros; omega
  | succ f ih =>
    intro k k0 k1 k2
    refine Go.run hsz hn1 3 (pc' := 9) (lv' := [some (gr 148), some (gi a), some (gi (mOthers mi a k.toNat)), some (gi k)]) (st' := [gi (mi 148 6), gi k]) (M' := gw mi ml) rfl ?_
    refine Go.icmp_ge (by rfl) ⟨by omega, by omega⟩ (hR _ _) (fun kq1 => ?_) (fun kq1 => ?_)
    · refine Go.run hsz hn1 1 (pc' := 56) (lv' := [some (gr 148), some (gi a), some (gi (mOthers mi a k.toNat)), some (gi k)]) (st' := [gi (mOthers mi a k.toNat)]) (M' := gw mi ml) rfl ?_
      exact Go.iret (by rfl) ⟨by rw [show mi 148 6 = k by omega], rfl⟩
    · refine Go.run hsz hn1 3 (pc' := 15) (lv' := [some (gr 148), some (gi a), some (gi (mOthers mi a k.toNat)), some (gi k)]) (st' := [gi a, gi k, gi (mOthers mi a k.toNat)]) (M' := gw mi ml) rfl ?_
      refine Go.icmp_eq (by rfl) ⟨by omega, by omega⟩ ⟨by omega, by omega⟩ (fun kq2 => ?_) (fun kq2 => ?_)
      · refine Go.run hsz hn1 5 (pc' := 4) (lv' := [some (gr 148), some (gi a), some (gi ((mOthers mi a k.toNat) + 0)), some (gi (k + 1))]) (st' := []) (M' := gw mi ml) rfl ?_
        have h9 := ih (k + 1) (by omega) (by omega) (by omega)
        rw [show mOthers mi a (k + 1).toNat = _ from gfold_s k0] at h9
        (try dsimp only at h9)
        (repeat' split at h9) <;> first | exact h9 | (exfalso; omega)
      · refine Go.run hsz hn1 3 (pc' := 22) (lv' := [some (gr 148), some (gi a), some (gi (mOthers mi a k.toNat)), some (gi k)]) (st' := [gi 6, gi k, gr 148, gi (mOthers mi a k.toNat)]) (M' := gw mi ml) rfl ?_
        refine Go.callV (As := [gi k, gi 6]) (b := 148) (st := [gi (mOthers mi a k.toNat)]) (mc1 := 0) (mc := 0) (ms1 := 0) (ms := 0) (by rfl) rfl (c := 11) (N := 46) (by rfl) (by decide) (by rfl) (gcn 165 (by decide)).1 (gcn 165 (by decide)).2 rfl (Nat.le_of_ble_eq_true rfl) (by omega) (cM_of hsz (n := n - 1) (by omega) mi ml k 6 (by omega) (by omega) (by omega) (by omega)) ?_
        rintro _ _ ⟨rfl, rfl⟩
        refine Go.run hsz hn1 0 (pc' := 25) (lv' := [some (gr 148), some (gi a), some (gi (mOthers mi a k.toNat)), some (gi k)]) (st' := [gi (mOf mi k 6), gi (mOthers mi a k.toNat)]) (M' := gw mi ml) rfl ?_
        refine Go.if_lt (by rfl) (hR _ _) (fun kq3 => ?_) (fun kq3 => ?_)
        · refine Go.run hsz hn1 5 (pc' := 4) (lv' := [some (gr 148), some (gi a), some (gi ((mOthers mi a k.toNat) + 0)), some (gi (k + 1))]) (st' := []) (M' := gw mi ml) rfl ?_
          have h9 := ih (k + 1) (by omega) (by omega) (by omega)
          rw [show mOthers mi a (k + 1).toNat = _ from gfold_s k0] at h9
          (try dsimp only at h9)
          (repeat' split at h9) <;> first | exact h9 | (exfalso; omega)
        · refine Go.run hsz hn1 5 (pc' := 33) (lv' := [some (gr 148), some (gi a), some (gi (mOthers mi a k.toNat)), some (gi k)]) (st' := [gi 4, gi a, gr 148, gi k, gr 148, gi (mOthers mi a k.toNat)]) (M' := gw mi ml) rfl ?_
          refine Go.callV (As := [gi a, gi 4]) (b := 148) (st := [gi k, gr 148, gi (mOthers mi a k.toNat)]) (mc1 := 0) (mc := 0) (ms1 := 0) (ms := 0) (by rfl) rfl (c := 11) (N := 46) (by rfl) (by decide) (by rfl) (gcn 165 (by decide)).1 (gcn 165 (by decide)).2 rfl (Nat.le_of_ble_eq_true rfl) (by omega) (cM_of hsz (n := n - 1) (by omega) mi ml a 4 (by omega) (by omega) (by omega) (by omega)) ?_
          rintro _ _ ⟨rfl, rfl⟩
          refine Go.run hsz hn1 0 (pc' := 36) (lv' := [some (gr 148), some (gi a), some (gi (mOthers mi a k.toNat)), some (gi k)]) (st' := [gi (mOf mi a 4), gi k, gr 148, gi (mOthers mi a k.toNat)]) (M' := gw mi ml) rfl ?_
          refine Go.callV (As := [gi k, gi (mOf mi a 4)]) (b := 148) (st := [gi (mOthers mi a k.toNat)]) (mc1 := 0) (mc := 0) (ms1 := 0) (ms := 0) (by rfl) rfl (c := 11) (N := 46) (by rfl) (by decide) (by rfl) (gcn 172 (by decide)).1 (gcn 172 (by decide)).2 rfl (Nat.le_of_ble_eq_true rfl) (by omega) (cM_staysIn hsz (n := n - 1) (by omega) mi ml k (mOf mi a 4) (by omega) (by omega) hR (hR _ _) (hP k (by omega) (by omega))) ?_
          rintro _ _ ⟨rfl, rfl⟩
          refine Go.run hsz hn1 0 (pc' := 39) (lv' := [some (gr 148), some (gi a), some (gi (mOthers mi a k.toNat)), some (gi k)]) (st' := [gi (mStays mi k (mOf mi a 4)), gi (mOthers mi a k.toNat)]) (M' := gw mi ml) rfl ?_
          refine Go.if_eq (by rfl) (b2_rng _) (fun kq4 => ?_) (fun kq4 => ?_)
          · refine Go.run hsz hn1 5 (pc' := 4) (lv' := [some (gr 148), some (gi a), some (gi ((mOthers mi a k.toNat) + 0)), some (gi (k + 1))]) (st' := []) (M' := gw mi ml) rfl ?_
            have h9 := ih (k + 1) (by omega) (by omega) (by omega)
            rw [show mOthers mi a (k + 1).toNat = _ from gfold_s k0] at h9
            (try dsimp only at h9)
            (repeat' split at h9) <;> first | exact h9 | (exfalso; omega)
          · refine Go.run hsz hn1 6 (pc' := 4) (lv' := [some (gr 148), some (gi a), some (gi ((mOthers mi a k.toNat) + 1)), some (gi (k + 1))]) (st' := []) (M' := gw mi ml) rfl ?_
            have h9 := ih (k + 1) (by omega) (by omega) (by omega)
            rw [show mOthers mi a (k + 1).toNat = _ from gfold_s k0] at h9
            (try dsimp only at h9)
            (repeat' split at h9) <;> first | exact h9 | (exfalso; omega)
set_option maxRecDepth 100000 in
set_option maxHeartbeats 4000000 in
theorem cM_others {G : gG} (hsz : G.2.2.2.2.2.2 = true) {n : Nat} (hn : 3 ≤ n) (mi : Nat → Nat → Int) (ml : Nat → Nat → Int64) (a : Int) (a0 : 0 ≤ a) (a1 : a < mi 148 6) (hv : SV mi) : gM G 206 n 0 0 [gr 148, gi a] (gw mi ml) (gret (mOthers mi a (mi 148 6).toNat) (gw mi ml)) := by
  have hn1 : 1 ≤ n := by omega
  refine gM.of mX12_others okX12_others (gcp 206 (by decide)).1 (gcp 206 (by decide)).2 (Nat.le_of_ble_eq_true rfl) ?_
  refine Go.run hsz hn1 4 (pc' := 4) (lv' := [some (gr 148), some (gi a), some (gi 0), some (gi 0)]) (st' := []) (M' := gw mi ml) rfl ?_
  exact lM_others hsz hn mi ml a a0 a1 hv ((mi 148 6).toNat + 1) 0 (by omega) (by have := hv.2.2.2.1.1; omega) (by omega)
set_option maxRecDepth 100000 in
set_option maxHeartbeats 4000000 in
theorem cM_postOf {G : gG} (hsz : G.2.2.2.2.2.2 = true) {n : Nat} (hn : 2 ≤ n) (mi : Nat → Nat → Int) (ml : Nat → Nat → Int64) (a : Int) (h0 : 0 ≤ a) (h1 : a < 24) (ho : 0 ≤ mOf mi a 6) (ho1 : mOf mi a 6 < 12) : gM G 222 n 0 0 [gr 148, gi a] (gw mi ml) (gret (mPost mi a) (gw mi ml)) := by
  have hn1 : 1 ≤ n := by omega
  refine gM.of mX12_postOf okX12_postOf (gcp 222 (by decide)).1 (gcp 222 (by decide)).2 (Nat.le_of_ble_eq_true rfl) ?_
  refine Go.run hsz hn1 6 (pc' := 10) (lv' := [some (gr 148), some (gi a)]) (st' := [gi 6, gi a, gr 148, gi 8, gr 149]) (M' := gw mi ml) rfl ?_
  refine Go.callV (As := [gi a, gi 6]) (b := 148) (st := [gi 8, gr 149]) (mc1 := 0) (mc := 0) (ms1 := 0) (ms := 0) (by rfl) rfl (c := 11) (N := 46) (by rfl) (by decide) (by rfl) (gcn 165 (by decide)).1 (gcn 165 (by decide)).2 rfl (Nat.le_of_ble_eq_true rfl) (by omega) (cM_of hsz (n := n - 1) (by omega) mi ml a 6 (by omega) (by omega) (by omega) (by omega)) ?_
  rintro _ _ ⟨rfl, rfl⟩
  refine Go.run hsz hn1 3 (pc' := 17) (lv' := [some (gr 148), some (gi a)]) (st' := [gi ((8 * (mOf mi a 6)) + 7), gr 149]) (M' := gw mi ml) rfl ?_
  refine Go.iald (by rfl) (N := 96) (by rfl) (by omega) (by omega) (by decide) ?_
  refine Go.run hsz hn1 0 (pc' := 18) (lv' := [some (gr 148), some (gi a)]) (st' := [gi (mPi mi (mOf mi a 6) 7)]) (M' := gw mi ml) rfl ?_
  first | exact Go.iret (by rfl) ⟨congrArg (fun z => some (gi z)) (rfl), rfl⟩ | (exfalso; omega)
theorem mHere_on {mi : Nat → Nat → Int} {a : Int} (h : ¬ mHere mi a = 0) : 0 ≤ mOf mi a 6 := (b2_pos h).1
set_option maxRecDepth 100000 in
set_option maxHeartbeats 4000000 in
theorem lM_loadOf {G : gG} (hsz : G.2.2.2.2.2.2 = true) {n : Nat} (hn : 4 ≤ n) (mi : Nat → Nat → Int) (ml : Nat → Nat → Int64) (post hour : Int) (hp0 : rng post) (hv : SV mi) : ∀ (f : Nat) (k : Int), 0 ≤ k → k ≤ mi 148 6 → mi 148 6 - k < f → Go G mX12_loadOf n 0 0 5 [some (gr 148), some (gi post), some (gi hour), some (gi (mLoad mi post hour k.toNat)), some (gi k)] [] (gw mi ml) (gret (mLoad mi post hour (mi 148 6).toNat) (gw mi ml)) := by
  have hn1 : 1 ≤ n := by omega
  obtain ⟨hR, ht, hp, hq, hP, hQ⟩ := id hv
  intro f
  induction f with
  | zero => intros; omega
  | succ f ih =>
    intro k k0 k1 k2
    refine Go.run hsz hn1 3 (pc' := 11) (lv' := [some (gr 148), some (gi post), some (gi hour), some (gi (mLoad mi post hour k.toNat)), some (gi k)]) (st' := [gi (mi 148 6), gi k]) (M' := gw mi ml) rfl ?_
    refine Go.icmp_ge (by rfl) ⟨by omega, by omega⟩ (hR _ _) (fun kq1 => ?_) (fun kq1 => ?_)
    · refine Go.run hsz hn1 1 (pc' := 71) (lv' := [some (gr 148), some (gi post), some (gi hour), some (gi (mLoad mi post hour k.toNat)), some (gi k)]) (st' := [gi (mLoad mi post hour k.toNat)]) (M' := gw mi ml) rfl ?_
      exact Go.iret (by rfl) ⟨by rw [show mi 148 6 = k by omega], rfl⟩
    · refine Go.run hsz hn1 3 (pc' := 18) (lv' := [some (gr 148), some (gi post), some (gi hour), some (gi (mLoad mi post hour k.toNat)), some (gi k)]) (st' := [gi k, gr 148, gi (mLoad mi post hour k.toNat)]) (M' := gw mi ml) rfl ?_
      refine Go.callV (As := [gi k]) (b := 148) (st := [gi (mLoad mi post hour k.toNat)]) (mc1 := 0) (mc := 0) (ms1 := 0) (ms := 0) (by rfl) rfl (c := 11) (N := 46) (by rfl) (by decide) (by rfl) (gcn 221 (by decide)).1 (gcn 221 (by decide)).2 rfl (Nat.le_of_ble_eq_true rfl) (by omega) (cM_isHere hsz (n := n - 1) (by omega) mi ml k (by omega) (by omega) hR (hP k (by omega) (by omega))) ?_
      rintro _ _ ⟨rfl, rfl⟩
      refine Go.run hsz hn1 0 (pc' := 21) (lv' := [some (gr 148), some (gi post), some (gi hour), some (gi (mLoad mi post hour k.toNat)), some (gi k)]) (st' := [gi (mHere mi k), gi (mLoad mi post hour k.toNat)]) (M' := gw mi ml) rfl ?_
      refine Go.if_eq (by rfl) (b2_rng _) (fun kq2 => ?_) (fun kq2 => ?_)
      · refine Go.run hsz hn1 5 (pc' := 5) (lv' := [some (gr 148), some (gi post), some (gi hour), some (gi ((mLoad mi post hour k.toNat) + 0)), some (gi (k + 1))]) (st' := []) (M' := gw mi ml) rfl ?_
        have h9 := ih (k + 1) (by omega) (by omega) (by omega)
        rw [show mLoad mi post hour (k + 1).toNat = _ from gfold_s k0] at h9
        (try dsimp only at h9)
        (repeat' split at h9) <;> first | exact h9 | (exfalso; omega)
      · refine Go.run hsz hn1 2 (pc' := 27) (lv' := [some (gr 148), some (gi post), some (gi hour), some (gi (mLoad mi post hour k.toNat)), some (gi k)]) (st' := [gi k, gr 148, gi (mLoad mi post hour k.toNat)]) (M' := gw mi ml) rfl ?_
        refine Go.callV (As := [gi k]) (b := 148) (st := [gi (mLoad mi post hour k.toNat)]) (mc1 := 0) (mc := 0) (ms1 := 0) (ms := 0) (by rfl) rfl (c := 11) (N := 46) (by rfl) (by decide) (by rfl) (gcn 222 (by decide)).1 (gcn 222 (by decide)).2 rfl (Nat.le_of_ble_eq_true rfl) (by omega) (cM_postOf hsz (n := n - 1) (by omega) mi ml k (by omega) (by omega) (mHere_on (by assumption)) (by have := (hP k (by omega) (by omega)).2.2.2.2.2.2.2.1.2; omega)) ?_
        rintro _ _ ⟨rfl, rfl⟩
        refine Go.run hsz hn1 1 (pc' := 31) (lv' := [some (gr 148), some (gi post), some (gi hour), some (gi (mLoad mi post hour k.toNat)), some (gi k)]) (st' := [gi post, gi (mPost mi k), gi (mLoad mi post hour k.toNat)]) (M' := gw mi ml) rfl ?_
        refine Go.icmp_ne (by rfl) (hR _ _) hp0 (fun kq3 => ?_) (fun kq3 => ?_)
        · refine Go.run hsz hn1 5 (pc' := 5) (lv' := [some (gr 148), some (gi post), some (gi hour), some (gi ((mLoad mi post hour k.toNat) + 0)), some (gi (k + 1))]) (st' := []) (M' := gw mi ml) rfl ?_
          have h9 := ih (k + 1) (by omega) (by omega) (by omega)
          rw [show mLoad mi post hour (k + 1).toNat = _ from gfold_s k0] at h9
          (try dsimp only at h9)
          (repeat' split at h9) <;> first | exact h9 | (exfalso; omega)
        · refine Go.run hsz hn1 3 (pc' := 39) (lv' := [some (gr 148), some (gi post), some (gi hour), some (gi (mLoad mi post hour k.toNat)), some (gi k)]) (st' := [gi 9, gi k, gr 148, gi (mLoad mi post hour k.toNat)]) (M' := gw mi ml) rfl ?_
          refine Go.callV (As := [gi k, gi 9]) (b := 148) (st := [gi (mLoad mi post hour k.toNat)]) (mc1 := 0) (mc := 0) (ms1 := 0) (ms := 0) (by rfl) rfl (c := 11) (N := 46) (by rfl) (by decide) (by rfl) (gcn 165 (by decide)).1 (gcn 165 (by decide)).2 rfl (Nat.le_of_ble_eq_true rfl) (by omega) (cM_of hsz (n := n - 1) (by omega) mi ml k 9 (by omega) (by omega) (by omega) (by omega)) ?_
          rintro _ _ ⟨rfl, rfl⟩
          refine Go.run hsz hn1 5 (pc' := 47) (lv' := [some (gr 148), some (gi post), some (gi hour), some (gi (mLoad mi post hour k.toNat)), some (gi k)]) (st' := [gi 1, gi (andI (shrI (mOf mi k 9) hour) 1), gi (mLoad mi post hour k.toNat)]) (M' := gw mi ml) rfl ?_
          refine Go.icmp_ne (by rfl) (rng_of _) ⟨by decide, by decide⟩ (fun kq4 => ?_) (fun kq4 => ?_)
          · refine Go.run hsz hn1 5 (pc' := 5) (lv' := [some (gr 148), some (gi post), some (gi hour), some (gi ((mLoad mi post hour k.toNat) + 0)), some (gi (k + 1))]) (st' := []) (M' := gw mi ml) rfl ?_
            have h9 := ih (k + 1) (by omega) (by omega) (by omega)
            rw [show mLoad mi post hour (k + 1).toNat = _ from gfold_s k0] at h9
            (try dsimp only at h9)
            (repeat' split at h9) <;> first | exact h9 | (exfalso; omega)
          · refine Go.run hsz hn1 3 (pc' := 55) (lv' := [some (gr 148), some (gi post), some (gi hour), some (gi (mLoad mi post hour k.toNat)), some (gi k)]) (st' := [gi 10, gi k, gr 148, gi (mLoad mi post hour k.toNat)]) (M' := gw mi ml) rfl ?_
            refine Go.callV (As := [gi k, gi 10]) (b := 148) (st := [gi (mLoad mi post hour k.toNat)]) (mc1 := 0) (mc := 0) (ms1 := 0) (ms := 0) (by rfl) rfl (c := 11) (N := 46) (by rfl) (by decide) (by rfl) (gcn 165 (by decide)).1 (gcn 165 (by decide)).2 rfl (Nat.le_of_ble_eq_true rfl) (by omega) (cM_of hsz (n := n - 1) (by omega) mi ml k 10 (by omega) (by omega) (by omega) (by omega)) ?_
            rintro _ _ ⟨rfl, rfl⟩
            refine Go.run hsz hn1 5 (pc' := 5) (lv' := [some (gr 148), some (gi post), some (gi hour), some (gi ((mLoad mi post hour k.toNat) + (mOf mi k 10))), some (gi (k + 1))]) (st' := []) (M' := gw mi ml) rfl ?_
            have h9 := ih (k + 1) (by omega) (by omega) (by omega)
            rw [show mLoad mi post hour (k + 1).toNat = _ from gfold_s k0] at h9
            (try dsimp only at h9)
            (repeat' split at h9) <;> first | exact h9 | (exfalso; omega)
set_option maxRecDepth 100000 in
set_option maxHeartbeats 4000000 in
theorem cM_loadOf {G : gG} (hsz : G.2.2.2.2.2.2 = true) {n : Nat} (hn : 4 ≤ n) (mi : Nat → Nat → Int) (ml : Nat → Nat → Int64) (post hour : Int) (hp0 : rng post) (hv : SV mi) : gM G 223 n 0 0 [gr 148, gi post, gi hour] (gw mi ml) (gret (mLoad mi post hour (mi 148 6).toNat) (gw mi ml)) := by
  have hn1 : 1 ≤ n := by omega
  refine gM.of mX12_loadOf okX12_loadOf (gcp 223 (by decide)).1 (gcp 223 (by decide)).2 (Nat.le_of_ble_eq_true rfl) ?_
  refine Go.run hsz hn1 4 (pc' := 5) (lv' := [some (gr 148), some (gi post), some (gi hour), some (gi 0), some (gi 0)]) (st' := []) (M' := gw mi ml) rfl ?_
  exact lM_loadOf hsz hn mi ml post hour hp0 hv ((mi 148 6).toNat + 1) 0 (by omega) (by have := hv.2.2.2.1.1; omega) (by omega)
set_option maxRecDepth 100000 in
set_option maxHeartbeats 4000000 in
theorem cM_isWet {G : gG} (hsz : G.2.2.2.2.2.2 = true) {n : Nat} (hn : 4 ≤ n) (mi : Nat → Nat → Int) (ml : Nat → Nat → Int64) (a w : Int) (h0 : 0 ≤ a) (h1 : a < 24) (hR : gR32 mi) (hw : rng w) (hb : PV mi a) (hnp : mi 148 2 ≤ 12) : gM G 227 n 0 0 [gr 148, gi a, gi w] (gw mi ml) (gret (mWet mi a w) (gw mi ml)) := by
  have hn1 : 1 ≤ n := by omega
  have hb6 := (id hb).2.2.2.2.2.2.2.1.2
  refine gM.of mX12_isWet okX12_isWet (gcp 227 (by decide)).1 (gcp 227 (by decide)).2 (Nat.le_of_ble_eq_true rfl) ?_
  refine Go.run hsz hn1 2 (pc' := 2) (lv' := [some (gr 148), some (gi a), some (gi w)]) (st' := [gi a, gr 148]) (M' := gw mi ml) rfl ?_
  refine Go.callV (As := [gi a]) (b := 148) (st := []) (mc1 := 0) (mc := 0) (ms1 := 0) (ms := 0) (by rfl) rfl (c := 11) (N := 46) (by rfl) (by decide) (by rfl) (gcn 221 (by decide)).1 (gcn 221 (by decide)).2 rfl (Nat.le_of_ble_eq_true rfl) (by omega) (cM_isHere hsz (n := n - 1) (by omega) mi ml a h0 h1 hR hb) ?_
  rintro _ _ ⟨rfl, rfl⟩
  refine Go.run hsz hn1 0 (pc' := 5) (lv' := [some (gr 148), some (gi a), some (gi w)]) (st' := [gi (mHere mi a)]) (M' := gw mi ml) rfl ?_
  refine Go.if_eq (by rfl) (b2_rng _) (fun kq1 => ?_) (fun kq1 => ?_)
  · refine Go.run hsz hn1 1 (pc' := 34) (lv' := [some (gr 148), some (gi a), some (gi w)]) (st' := [gi 0]) (M' := gw mi ml) rfl ?_
    exact Go.zret (by rfl) (Or.inl rfl) ⟨congrArg (fun z => some (gi z)) (by unfold mWet b2; split <;> omega), rfl⟩
  · refine Go.run hsz hn1 6 (pc' := 18) (lv' := [some (gr 148), some (gi a), some (gi w)]) (st' := [gi 6, gi a, gr 148, gi 8, gr 149]) (M' := gw mi ml) rfl ?_
    refine Go.callV (As := [gi a, gi 6]) (b := 148) (st := [gi 8, gr 149]) (mc1 := 0) (mc := 0) (ms1 := 0) (ms := 0) (by rfl) rfl (c := 11) (N := 46) (by rfl) (by decide) (by rfl) (gcn 165 (by decide)).1 (gcn 165 (by decide)).2 rfl (Nat.le_of_ble_eq_true rfl) (by omega) (cM_of hsz (n := n - 1) (by omega) mi ml a 6 (by omega) (by omega) (by omega) (by omega)) ?_
    rintro _ _ ⟨rfl, rfl⟩
    refine Go.run hsz hn1 3 (pc' := 24) (lv' := [some (gr 148), some (gi a), some (gi w)]) (st' := [gi ((8 * (mOf mi a 6)) + 3), gr 149]) (M' := gw mi ml) rfl ?_
    refine Go.iald (by rfl) (N := 96) (by rfl) (by have := mHere_on (by assumption); omega) (by have := mHere_on (by assumption); omega) (by decide) ?_
    refine Go.run hsz hn1 1 (pc' := 26) (lv' := [some (gr 148), some (gi a), some (gi w)]) (st' := [gi w, gi (mPi mi (mOf mi a 6) 3)]) (M' := gw mi ml) rfl ?_
    refine Go.icmp_ge (by rfl) (hR _ _) hw (fun kq2 => ?_) (fun kq2 => ?_)
    · refine Go.run hsz hn1 1 (pc' := 34) (lv' := [some (gr 148), some (gi a), some (gi w)]) (st' := [gi 0]) (M' := gw mi ml) rfl ?_
      exact Go.zret (by rfl) (Or.inl rfl) ⟨congrArg (fun z => some (gi z)) (by unfold mWet b2; split <;> omega), rfl⟩
    · refine Go.run hsz hn1 2 (pc' := 34) (lv' := [some (gr 148), some (gi a), some (gi w)]) (st' := [gi 1]) (M' := gw mi ml) rfl ?_
      exact Go.zret (by rfl) (Or.inr rfl) ⟨congrArg (fun z => some (gi z)) (by unfold mWet b2; split <;> omega), rfl⟩
set_option maxRecDepth 100000 in
set_option maxHeartbeats 4000000 in
theorem lM_apartNow {G : gG} (hsz : G.2.2.2.2.2.2 = true) {n : Nat} (hn : 3 ≤ n) (mi : Nat → Nat → Int) (ml : Nat → Nat → Int64) (hv : SV mi) : ∀ (f : Nat) (k : Int), 0 ≤ k → k ≤ mi 148 6 → mi 148 6 - k < f → Go G mX12_apartNow n 0 0 4 [some (gr 148), some (gi (mApart mi k.toNat)), some (gi k), none] [] (gw mi ml) (gret (mApart mi (mi 148 6).toNat) (gw mi ml)) := by
  have hn1 : 1 ≤ n := by omega
  obtain ⟨hR, ht, hp, hq, hP, hQ⟩ := id hv
  intro f
  induction f with
  | zero => intros; omega
  | succ f ih =>
    intro k k0 k1 k2
    refine Go.run hsz hn1 3 (pc' := 9) (lv' := [some (gr 148), some (gi (mApart mi k.toNat)), some (gi k), none]) (st' := [gi (mi 148 6), gi k]) (M' := gw mi ml) rfl ?_
    refine Go.icmp_ge (by rfl) ⟨by omega, by omega⟩ (hR _ _) (fun kq1 => ?_) (fun kq1 => ?_)
    · refine Go.run hsz hn1 1 (pc' := 84) (lv' := [some (gr 148), some (gi (mApart mi k.toNat)), some (gi k), none]) (st' := [gi (mApart mi k.toNat)]) (M' := gw mi ml) rfl ?_
      exact Go.iret (by rfl) ⟨by rw [show mi 148 6 = k by omega], rfl⟩
    · refine Go.run hsz hn1 3 (pc' := 16) (lv' := [some (gr 148), some (gi (mApart mi k.toNat)), some (gi k), none]) (st' := [gi 7, gi k, gr 148]) (M' := gw mi ml) rfl ?_
      refine Go.callV (As := [gi k, gi 7]) (b := 148) (st := []) (mc1 := 0) (mc := 0) (ms1 := 0) (ms := 0) (by rfl) rfl (c := 11) (N := 46) (by rfl) (by decide) (by rfl) (gcn 165 (by decide)).1 (gcn 165 (by decide)).2 rfl (Nat.le_of_ble_eq_true rfl) (by omega) (cM_of hsz (n := n - 1) (by omega) mi ml k 7 (by omega) (by omega) (by omega) (by omega)) ?_
      rintro _ _ ⟨rfl, rfl⟩
      have e7 := (hP k (by omega) (by omega)).2.2.2.2.2.2.2.2.1
      have e6 := (hP k (by omega) (by omega)).2.2.2.2.2.2.2.1
      refine Go.run hsz hn1 3 (pc' := 22) (lv' := [some (gr 148), some (gi (mApart mi k.toNat)), some (gi k), some (gi (mOf mi k 7))]) (st' := [gi (mOf mi k 7), gi (mApart mi k.toNat)]) (M' := gw mi ml) rfl ?_
      refine Go.if_lt (by rfl) (hR _ _) (fun kq2 => ?_) (fun kq2 => ?_)
      · refine Go.run hsz hn1 5 (pc' := 4) (lv' := [some (gr 148), some (gi ((mApart mi k.toNat) + 0)), some (gi (k + 1)), some (gi (mOf mi k 7))]) (st' := []) (M' := gw mi ml) rfl ?_
        refine Go.dropl 3 ?_
        refine Go.run hsz hn1 0 (pc' := 4) (lv' := [some (gr 148), some (gi ((mApart mi k.toNat) + 0)), some (gi (k + 1)), none]) (st' := []) (M' := gw mi ml) rfl ?_
        have h9 := ih (k + 1) (by omega) (by omega) (by omega)
        rw [show mApart mi (k + 1).toNat = _ from gfold_s k0] at h9
        (try dsimp only at h9)
        (repeat' split at h9) <;> first | exact h9 | (exfalso; omega)
      · refine Go.run hsz hn1 3 (pc' := 29) (lv' := [some (gr 148), some (gi (mApart mi k.toNat)), some (gi k), some (gi (mOf mi k 7))]) (st' := [gi 6, gi k, gr 148, gi (mApart mi k.toNat)]) (M' := gw mi ml) rfl ?_
        refine Go.callV (As := [gi k, gi 6]) (b := 148) (st := [gi (mApart mi k.toNat)]) (mc1 := 0) (mc := 0) (ms1 := 0) (ms := 0) (by rfl) rfl (c := 11) (N := 46) (by rfl) (by decide) (by rfl) (gcn 165 (by decide)).1 (gcn 165 (by decide)).2 rfl (Nat.le_of_ble_eq_true rfl) (by omega) (cM_of hsz (n := n - 1) (by omega) mi ml k 6 (by omega) (by omega) (by omega) (by omega)) ?_
        rintro _ _ ⟨rfl, rfl⟩
        refine Go.run hsz hn1 0 (pc' := 32) (lv' := [some (gr 148), some (gi (mApart mi k.toNat)), some (gi k), some (gi (mOf mi k 7))]) (st' := [gi (mOf mi k 6), gi (mApart mi k.toNat)]) (M' := gw mi ml) rfl ?_
        refine Go.if_lt (by rfl) (hR _ _) (fun kq3 => ?_) (fun kq3 => ?_)
        · refine Go.run hsz hn1 5 (pc' := 4) (lv' := [some (gr 148), some (gi ((mApart mi k.toNat) + 0)), some (gi (k + 1)), some (gi (mOf mi k 7))]) (st' := []) (M' := gw mi ml) rfl ?_
          refine Go.dropl 3 ?_
          refine Go.run hsz hn1 0 (pc' := 4) (lv' := [some (gr 148), some (gi ((mApart mi k.toNat) + 0)), some (gi (k + 1)), none]) (st' := []) (M' := gw mi ml) rfl ?_
          have h9 := ih (k + 1) (by omega) (by omega) (by omega)
          rw [show mApart mi (k + 1).toNat = _ from gfold_s k0] at h9
          (try dsimp only at h9)
          (repeat' split at h9) <;> first | exact h9 | (exfalso; omega)
        · refine Go.run hsz hn1 2 (pc' := 37) (lv' := [some (gr 148), some (gi (mApart mi k.toNat)), some (gi k), some (gi (mOf mi k 7))]) (st' := [gi (mOf mi k 7), gr 148, gi (mApart mi k.toNat)]) (M' := gw mi ml) rfl ?_
          refine Go.if_ge (by rfl) (hR _ _) (fun kq4 => ?_) (fun kq4 => ?_)
          · refine Go.run hsz hn1 2 (pc' := 47) (lv' := [some (gr 148), some (gi (mApart mi k.toNat)), some (gi k), some (gi (mOf mi k 7))]) (st' := [gi 6, gi (mOf mi k 7), gr 148, gi (mApart mi k.toNat)]) (M' := gw mi ml) rfl ?_
            refine Go.callV (As := [gi (mOf mi k 7), gi 6]) (b := 148) (st := [gi (mApart mi k.toNat)]) (mc1 := 0) (mc := 0) (ms1 := 0) (ms := 0) (by rfl) rfl (c := 11) (N := 46) (by rfl) (by decide) (by rfl) (gcn 165 (by decide)).1 (gcn 165 (by decide)).2 rfl (Nat.le_of_ble_eq_true rfl) (by omega) (cM_of hsz (n := n - 1) (by omega) mi ml (mOf mi k 7) 6 (by omega) (by omega) (by omega) (by omega)) ?_
            rintro _ _ ⟨rfl, rfl⟩
            have e6b := (hP (mOf mi k 7) (by omega) (by omega)).2.2.2.2.2.2.2.1
            refine Go.run hsz hn1 0 (pc' := 50) (lv' := [some (gr 148), some (gi (mApart mi k.toNat)), some (gi k), some (gi (mOf mi k 7))]) (st' := [gi (mOf mi (mOf mi k 7) 6), gi (mApart mi k.toNat)]) (M' := gw mi ml) rfl ?_
            refine Go.if_lt (by rfl) (hR _ _) (fun kq5 => ?_) (fun kq5 => ?_)
            · refine Go.run hsz hn1 5 (pc' := 4) (lv' := [some (gr 148), some (gi ((mApart mi k.toNat) + 0)), some (gi (k + 1)), some (gi (mOf mi k 7))]) (st' := []) (M' := gw mi ml) rfl ?_
              refine Go.dropl 3 ?_
              refine Go.run hsz hn1 0 (pc' := 4) (lv' := [some (gr 148), some (gi ((mApart mi k.toNat) + 0)), some (gi (k + 1)), none]) (st' := []) (M' := gw mi ml) rfl ?_
              have h9 := ih (k + 1) (by omega) (by omega) (by omega)
              rw [show mApart mi (k + 1).toNat = _ from gfold_s k0] at h9
              (try dsimp only at h9)
              (repeat' split at h9) <;> first | exact h9 | (exfalso; omega)
            · refine Go.run hsz hn1 4 (pc' := 58) (lv' := [some (gr 148), some (gi (mApart mi k.toNat)), some (gi k), some (gi (mOf mi k 7))]) (st' := [gi 6, gi k, gr 148, gr 148, gi (mApart mi k.toNat)]) (M' := gw mi ml) rfl ?_
              refine Go.callV (As := [gi k, gi 6]) (b := 148) (st := [gr 148, gi (mApart mi k.toNat)]) (mc1 := 0) (mc := 0) (ms1 := 0) (ms := 0) (by rfl) rfl (c := 11) (N := 46) (by rfl) (by decide) (by rfl) (gcn 165 (by decide)).1 (gcn 165 (by decide)).2 rfl (Nat.le_of_ble_eq_true rfl) (by omega) (cM_of hsz (n := n - 1) (by omega) mi ml k 6 (by omega) (by omega) (by omega) (by omega)) ?_
              rintro _ _ ⟨rfl, rfl⟩
              refine Go.run hsz hn1 3 (pc' := 65) (lv' := [some (gr 148), some (gi (mApart mi k.toNat)), some (gi k), some (gi (mOf mi k 7))]) (st' := [gi 6, gi (mOf mi k 7), gr 148, gi (mOf mi k 6), gr 148, gi (mApart mi k.toNat)]) (M' := gw mi ml) rfl ?_
              refine Go.callV (As := [gi (mOf mi k 7), gi 6]) (b := 148) (st := [gi (mOf mi k 6), gr 148, gi (mApart mi k.toNat)]) (mc1 := 0) (mc := 0) (ms1 := 0) (ms := 0) (by rfl) rfl (c := 11) (N := 46) (by rfl) (by decide) (by rfl) (gcn 165 (by decide)).1 (gcn 165 (by decide)).2 rfl (Nat.le_of_ble_eq_true rfl) (by omega) (cM_of hsz (n := n - 1) (by omega) mi ml (mOf mi k 7) 6 (by omega) (by omega) (by omega) (by omega)) ?_
              rintro _ _ ⟨rfl, rfl⟩
              have e6b := (hP (mOf mi k 7) (by omega) (by omega)).2.2.2.2.2.2.2.1
              refine Go.run hsz hn1 0 (pc' := 68) (lv' := [some (gr 148), some (gi (mApart mi k.toNat)), some (gi k), some (gi (mOf mi k 7))]) (st' := [gi (mOf mi (mOf mi k 7) 6), gi (mOf mi k 6), gr 148, gi (mApart mi k.toNat)]) (M' := gw mi ml) rfl ?_
              refine Go.callV (As := [gi (mOf mi k 6), gi (mOf mi (mOf mi k 7) 6)]) (b := 148) (st := [gi (mApart mi k.toNat)]) (mc1 := 0) (mc := 0) (ms1 := 0) (ms := 0) (by rfl) rfl (c := 11) (N := 46) (by rfl) (by decide) (by rfl) (gcn 162 (by decide)).1 (gcn 162 (by decide)).2 rfl (Nat.le_of_ble_eq_true rfl) (by omega) (cM_farOf hsz (n := n - 1) (by omega) mi ml (mOf mi k 6) (mOf mi (mOf mi k 7) 6) (by omega) (by omega) (by omega) (by omega) (hQ _ (by omega) (by omega)) (hQ _ (by omega) (by omega))) ?_
              rintro _ _ ⟨rfl, rfl⟩
              refine Go.run hsz hn1 5 (pc' := 4) (lv' := [some (gr 148), some (gi ((mApart mi k.toNat) + (mFar mi (mOf mi k 6) (mOf mi (mOf mi k 7) 6)))), some (gi (k + 1)), some (gi (mOf mi k 7))]) (st' := []) (M' := gw mi ml) rfl ?_
              refine Go.dropl 3 ?_
              refine Go.run hsz hn1 0 (pc' := 4) (lv' := [some (gr 148), some (gi ((mApart mi k.toNat) + (mFar mi (mOf mi k 6) (mOf mi (mOf mi k 7) 6)))), some (gi (k + 1)), none]) (st' := []) (M' := gw mi ml) rfl ?_
              have h9 := ih (k + 1) (by omega) (by omega) (by omega)
              rw [show mApart mi (k + 1).toNat = _ from gfold_s k0] at h9
              (try dsimp only at h9)
              (repeat' split at h9) <;> first | exact h9 | (exfalso; omega)
          · refine Go.run hsz hn1 3 (pc' := 47) (lv' := [some (gr 148), some (gi (mApart mi k.toNat)), some (gi k), some (gi (mOf mi k 7))]) (st' := [gi 6, gi 0, gr 148, gi (mApart mi k.toNat)]) (M' := gw mi ml) rfl ?_
            refine Go.callV (As := [gi 0, gi 6]) (b := 148) (st := [gi (mApart mi k.toNat)]) (mc1 := 0) (mc := 0) (ms1 := 0) (ms := 0) (by rfl) rfl (c := 11) (N := 46) (by rfl) (by decide) (by rfl) (gcn 165 (by decide)).1 (gcn 165 (by decide)).2 rfl (Nat.le_of_ble_eq_true rfl) (by omega) (cM_of hsz (n := n - 1) (by omega) mi ml 0 6 (by omega) (by omega) (by omega) (by omega)) ?_
            rintro _ _ ⟨rfl, rfl⟩
            have e6b := (hP 0 (by omega) (by omega)).2.2.2.2.2.2.2.1
            refine Go.run hsz hn1 0 (pc' := 50) (lv' := [some (gr 148), some (gi (mApart mi k.toNat)), some (gi k), some (gi (mOf mi k 7))]) (st' := [gi (mOf mi 0 6), gi (mApart mi k.toNat)]) (M' := gw mi ml) rfl ?_
            refine Go.if_lt (by rfl) (hR _ _) (fun kq6 => ?_) (fun kq6 => ?_)
            · refine Go.run hsz hn1 5 (pc' := 4) (lv' := [some (gr 148), some (gi ((mApart mi k.toNat) + 0)), some (gi (k + 1)), some (gi (mOf mi k 7))]) (st' := []) (M' := gw mi ml) rfl ?_
              refine Go.dropl 3 ?_
              refine Go.run hsz hn1 0 (pc' := 4) (lv' := [some (gr 148), some (gi ((mApart mi k.toNat) + 0)), some (gi (k + 1)), none]) (st' := []) (M' := gw mi ml) rfl ?_
              have h9 := ih (k + 1) (by omega) (by omega) (by omega)
              rw [show mApart mi (k + 1).toNat = _ from gfold_s k0] at h9
              (try dsimp only at h9)
              (repeat' split at h9) <;> first | exact h9 | (exfalso; omega)
            · refine Go.run hsz hn1 4 (pc' := 58) (lv' := [some (gr 148), some (gi (mApart mi k.toNat)), some (gi k), some (gi (mOf mi k 7))]) (st' := [gi 6, gi k, gr 148, gr 148, gi (mApart mi k.toNat)]) (M' := gw mi ml) rfl ?_
              refine Go.callV (As := [gi k, gi 6]) (b := 148) (st := [gr 148, gi (mApart mi k.toNat)]) (mc1 := 0) (mc := 0) (ms1 := 0) (ms := 0) (by rfl) rfl (c := 11) (N := 46) (by rfl) (by decide) (by rfl) (gcn 165 (by decide)).1 (gcn 165 (by decide)).2 rfl (Nat.le_of_ble_eq_true rfl) (by omega) (cM_of hsz (n := n - 1) (by omega) mi ml k 6 (by omega) (by omega) (by omega) (by omega)) ?_
              rintro _ _ ⟨rfl, rfl⟩
              refine Go.run hsz hn1 3 (pc' := 65) (lv' := [some (gr 148), some (gi (mApart mi k.toNat)), some (gi k), some (gi (mOf mi k 7))]) (st' := [gi 6, gi (mOf mi k 7), gr 148, gi (mOf mi k 6), gr 148, gi (mApart mi k.toNat)]) (M' := gw mi ml) rfl ?_
              refine Go.callV (As := [gi (mOf mi k 7), gi 6]) (b := 148) (st := [gi (mOf mi k 6), gr 148, gi (mApart mi k.toNat)]) (mc1 := 0) (mc := 0) (ms1 := 0) (ms := 0) (by rfl) rfl (c := 11) (N := 46) (by rfl) (by decide) (by rfl) (gcn 165 (by decide)).1 (gcn 165 (by decide)).2 rfl (Nat.le_of_ble_eq_true rfl) (by omega) (cM_of hsz (n := n - 1) (by omega) mi ml (mOf mi k 7) 6 (by omega) (by omega) (by omega) (by omega)) ?_
              rintro _ _ ⟨rfl, rfl⟩
              have e6b := (hP (mOf mi k 7) (by omega) (by omega)).2.2.2.2.2.2.2.1
              refine Go.run hsz hn1 0 (pc' := 68) (lv' := [some (gr 148), some (gi (mApart mi k.toNat)), some (gi k), some (gi (mOf mi k 7))]) (st' := [gi (mOf mi (mOf mi k 7) 6), gi (mOf mi k 6), gr 148, gi (mApart mi k.toNat)]) (M' := gw mi ml) rfl ?_
              refine Go.callV (As := [gi (mOf mi k 6), gi (mOf mi (mOf mi k 7) 6)]) (b := 148) (st := [gi (mApart mi k.toNat)]) (mc1 := 0) (mc := 0) (ms1 := 0) (ms := 0) (by rfl) rfl (c := 11) (N := 46) (by rfl) (by decide) (by rfl) (gcn 162 (by decide)).1 (gcn 162 (by decide)).2 rfl (Nat.le_of_ble_eq_true rfl) (by omega) (cM_farOf hsz (n := n - 1) (by omega) mi ml (mOf mi k 6) (mOf mi (mOf mi k 7) 6) (by omega) (by omega) (by omega) (by omega) (hQ _ (by omega) (by omega)) (hQ _ (by omega) (by omega))) ?_
              rintro _ _ ⟨rfl, rfl⟩
              refine Go.run hsz hn1 5 (pc' := 4) (lv' := [some (gr 148), some (gi ((mApart mi k.toNat) + (mFar mi (mOf mi k 6) (mOf mi (mOf mi k 7) 6)))), some (gi (k + 1)), some (gi (mOf mi k 7))]) (st' := []) (M' := gw mi ml) rfl ?_
              refine Go.dropl 3 ?_
              refine Go.run hsz hn1 0 (pc' := 4) (lv' := [some (gr 148), some (gi ((mApart mi k.toNat) + (mFar mi (mOf mi k 6) (mOf mi (mOf mi k 7) 6)))), some (gi (k + 1)), none]) (st' := []) (M' := gw mi ml) rfl ?_
              have h9 := ih (k + 1) (by omega) (by omega) (by omega)
              rw [show mApart mi (k + 1).toNat = _ from gfold_s k0] at h9
              (try dsimp only at h9)
              (repeat' split at h9) <;> first | exact h9 | (exfalso; omega)
set_option maxRecDepth 100000 in
set_option maxHeartbeats 4000000 in
theorem cM_apartNow {G : gG} (hsz : G.2.2.2.2.2.2 = true) {n : Nat} (hn : 3 ≤ n) (mi : Nat → Nat → Int) (ml : Nat → Nat → Int64) (hv : SV mi) : gM G 181 n 0 0 [gr 148] (gw mi ml) (gret (mApart mi (mi 148 6).toNat) (gw mi ml)) := by
  have hn1 : 1 ≤ n := by omega
  refine gM.of mX12_apartNow okX12_apartNow (gcp 181 (by decide)).1 (gcp 181 (by decide)).2 (Nat.le_of_ble_eq_true rfl) ?_
  refine Go.run hsz hn1 4 (pc' := 4) (lv' := [some (gr 148), some (gi 0), some (gi 0), none]) (st' := []) (M' := gw mi ml) rfl ?_
  exact lM_apartNow hsz hn mi ml hv ((mi 148 6).toNat + 1) 0 (by omega) (by have := hv.2.2.2.1.1; omega) (by omega)
set_option maxRecDepth 100000 in
set_option maxHeartbeats 4000000 in
theorem cM_priceBy {G : gG} (hsz : G.2.2.2.2.2.2 = true) {n : Nat} (hn : 2 ≤ n) (mi : Nat → Nat → Int) (ml : Nat → Nat → Int64) (a : Int) (h0 : 0 ≤ a) (h1 : a < 24) (hR : gR32 mi) (hb : PV mi a) : gM G 210 n 0 0 [gr 148, gi a] (gw mi ml) (gret (mPrice mi a) (gw mi ml)) := by
  have hn1 : 1 ≤ n := by omega
  obtain ⟨b0, b1, b2x, -⟩ := id hb
  refine gM.of mX12_priceBy okX12_priceBy (gcp 210 (by decide)).1 (gcp 210 (by decide)).2 (Nat.le_of_ble_eq_true rfl) ?_
  refine Go.run hsz hn1 3 (pc' := 3) (lv' := [some (gr 148), some (gi a), none, none, none]) (st' := [gi 0, gi a, gr 148]) (M' := gw mi ml) rfl ?_
  refine Go.callV (As := [gi a, gi 0]) (b := 148) (st := []) (mc1 := 0) (mc := 0) (ms1 := 0) (ms := 0) (by rfl) rfl (c := 11) (N := 46) (by rfl) (by decide) (by rfl) (gcn 165 (by decide)).1 (gcn 165 (by decide)).2 rfl (Nat.le_of_ble_eq_true rfl) (by omega) (cM_of hsz (n := n - 1) (by omega) mi ml a 0 (by omega) (by omega) (by omega) (by omega)) ?_
  rintro _ _ ⟨rfl, rfl⟩
  refine Go.run hsz hn1 5 (pc' := 12) (lv' := [some (gr 148), some (gi a), some (gi (mOf mi a 0)), none, none]) (st' := [gi 1, gi a, gr 148, gi 10]) (M' := gw mi ml) rfl ?_
  refine Go.callV (As := [gi a, gi 1]) (b := 148) (st := [gi 10]) (mc1 := 0) (mc := 0) (ms1 := 0) (ms := 0) (by rfl) rfl (c := 11) (N := 46) (by rfl) (by decide) (by rfl) (gcn 165 (by decide)).1 (gcn 165 (by decide)).2 rfl (Nat.le_of_ble_eq_true rfl) (by omega) (cM_of hsz (n := n - 1) (by omega) mi ml a 1 (by omega) (by omega) (by omega) (by omega)) ?_
  rintro _ _ ⟨rfl, rfl⟩
  refine Go.run hsz hn1 4 (pc' := 19) (lv' := [some (gr 148), some (gi a), some (gi (mOf mi a 0)), some (gi (10 + (mOf mi a 1))), none]) (st' := [gi 2, gi (mOf mi a 0)]) (M' := gw mi ml) rfl ?_
  refine Go.icmp_ge (by rfl) (hR _ _) ⟨by decide, by decide⟩ (fun kq1 => ?_) (fun kq1 => ?_)
  · refine Go.run hsz hn1 5 (pc' := 40) (lv' := [some (gr 148), some (gi a), some (gi (mOf mi a 0)), some (gi (10 + (mOf mi a 1))), none]) (st' := [gi 2, gi a, gr 148, gi 2, gi (10 + (mOf mi a 1))]) (M' := gw mi ml) rfl ?_
    refine Go.callV (As := [gi a, gi 2]) (b := 148) (st := [gi 2, gi (10 + (mOf mi a 1))]) (mc1 := 0) (mc := 0) (ms1 := 0) (ms := 0) (by rfl) rfl (c := 11) (N := 46) (by rfl) (by decide) (by rfl) (gcn 165 (by decide)).1 (gcn 165 (by decide)).2 rfl (Nat.le_of_ble_eq_true rfl) (by omega) (cM_of hsz (n := n - 1) (by omega) mi ml a 2 (by omega) (by omega) (by omega) (by omega)) ?_
    rintro _ _ ⟨rfl, rfl⟩
    refine Go.run hsz hn1 5 (pc' := 49) (lv' := [some (gr 148), some (gi a), some (gi (mOf mi a 0)), some (gi (10 + (mOf mi a 1))), some (gi ((10 + (mOf mi a 1)) + (2 * (mOf mi a 2))))]) (st' := [gi 3, gi (mOf mi a 0)]) (M' := gw mi ml) rfl ?_
    refine Go.icmp_ne (by rfl) (hR _ _) ⟨by decide, by decide⟩ (fun kq2 => ?_) (fun kq2 => ?_)
    · refine Go.run hsz hn1 2 (pc' := 61) (lv' := [some (gr 148), some (gi a), some (gi (mOf mi a 0)), some (gi (10 + (mOf mi a 1))), some (gi ((10 + (mOf mi a 1)) + (2 * (mOf mi a 2))))]) (st' := [gi 4, gi (mOf mi a 0)]) (M' := gw mi ml) rfl ?_
      refine Go.icmp_ne (by rfl) (hR _ _) ⟨by decide, by decide⟩ (fun kq3 => ?_) (fun kq3 => ?_)
      · refine Go.run hsz hn1 1 (pc' := 76) (lv' := [some (gr 148), some (gi a), some (gi (mOf mi a 0)), some (gi (10 + (mOf mi a 1))), some (gi ((10 + (mOf mi a 1)) + (2 * (mOf mi a 2))))]) (st' := [gi ((10 + (mOf mi a 1)) + (2 * (mOf mi a 2)))]) (M' := gw mi ml) rfl ?_
        first | exact Go.iret (by rfl) ⟨congrArg (fun z => some (gi z)) (by unfold mPrice; (repeat' split) <;> omega), rfl⟩ | (exfalso; omega)
      · refine Go.run hsz hn1 3 (pc' := 69) (lv' := [some (gr 148), some (gi a), some (gi (mOf mi a 0)), some (gi (10 + (mOf mi a 1))), some (gi ((10 + (mOf mi a 1)) + (2 * (mOf mi a 2))))]) (st' := [gi 3, gi ((10 + (mOf mi a 1)) + (2 * (mOf mi a 2))), gi ((10 + (mOf mi a 1)) + (2 * (mOf mi a 2)))]) (M' := gw mi ml) rfl ?_
        refine Go.idiv (by rfl) ⟨by omega, by omega⟩ ⟨by decide, by decide⟩ (by decide) (rng_tdiv ⟨by omega, by omega⟩ (by decide)) ?_
        refine Go.run hsz hn1 2 (pc' := 76) (lv' := [some (gr 148), some (gi a), some (gi (mOf mi a 0)), some (gi (10 + (mOf mi a 1))), some (gi ((10 + (mOf mi a 1)) + (2 * (mOf mi a 2))))]) (st' := [gi (((10 + (mOf mi a 1)) + (2 * (mOf mi a 2))) - (((10 + (mOf mi a 1)) + (2 * (mOf mi a 2))).tdiv 3))]) (M' := gw mi ml) rfl ?_
        first | exact Go.iret (by rfl) ⟨congrArg (fun z => some (gi z)) (by unfold mPrice; (repeat' split) <;> omega), rfl⟩ | (exfalso; omega)
    · refine Go.run hsz hn1 4 (pc' := 76) (lv' := [some (gr 148), some (gi a), some (gi (mOf mi a 0)), some (gi (10 + (mOf mi a 1))), some (gi ((10 + (mOf mi a 1)) + (2 * (mOf mi a 2))))]) (st' := [gi (2 * ((10 + (mOf mi a 1)) + (2 * (mOf mi a 2))))]) (M' := gw mi ml) rfl ?_
      first | exact Go.iret (by rfl) ⟨congrArg (fun z => some (gi z)) (by unfold mPrice; (repeat' split) <;> omega), rfl⟩ | (exfalso; omega)
  · refine Go.run hsz hn1 2 (pc' := 24) (lv' := [some (gr 148), some (gi a), some (gi (mOf mi a 0)), some (gi (10 + (mOf mi a 1))), none]) (st' := [gi 1, gi (mOf mi a 0)]) (M' := gw mi ml) rfl ?_
    refine Go.icmp_ne (by rfl) (hR _ _) ⟨by decide, by decide⟩ (fun kq4 => ?_) (fun kq4 => ?_)
    · refine Go.run hsz hn1 1 (pc' := 34) (lv' := [some (gr 148), some (gi a), some (gi (mOf mi a 0)), some (gi (10 + (mOf mi a 1))), none]) (st' := [gi (10 + (mOf mi a 1))]) (M' := gw mi ml) rfl ?_
      first | exact Go.iret (by rfl) ⟨congrArg (fun z => some (gi z)) (by unfold mPrice; (repeat' split) <;> omega), rfl⟩ | (exfalso; omega)
    · refine Go.run hsz hn1 4 (pc' := 34) (lv' := [some (gr 148), some (gi a), some (gi (mOf mi a 0)), some (gi (10 + (mOf mi a 1))), none]) (st' := [gi ((10 + (mOf mi a 1)) - 3)]) (M' := gw mi ml) rfl ?_
      first | exact Go.iret (by rfl) ⟨congrArg (fun z => some (gi z)) (by unfold mPrice; (repeat' split) <;> omega), rfl⟩ | (exfalso; omega)
end
section
/-- a finding of the reference -/
def mFd (mi : Nat → Nat → Int) (w : Nat) : Nat → Nat → Int := gu mi 159 w (mi 159 w + 1)
/-- one of the ends of a call -/
def gE (c : Prop) (v : Int) (mi : Nat → Nat → Int) (ml : Nat → Nat → Int64) (r : Option gV) (M : gMe) : Prop := c ∧ r = some (gi v) ∧ M = gw mi ml
set_option maxRecDepth 100000 in
set_option maxHeartbeats 4000000 in
theorem pM_pitchOf {G : gG} (hsz : G.2.2.2.2.2.2 = true) {n : Nat} (hn : 4 ≤ n) (mi : Nat → Nat → Int) (ml : Nat → Nat → Int64) (p w : Int) (r_p : rng p) (r_w : rng w) (hv : SV mi)  : gM G 159 n 0 0 [gr 148, gi p, gi w] (gw mi ml) (fun r M => gE ((0 ≤ p ∧ p ≤ mi 148 2 - 1) ∧ (0 ≤ w ∧ w ≤ 7)) (mPi mi p w) (mi) ml r M ∨ gE (¬ ((0 ≤ p ∧ p ≤ mi 148 2 - 1) ∧ (0 ≤ w ∧ w ≤ 7))) (-1000001) (mFd mi 0) ml r M) := by
  have hn1 : 1 ≤ n := by omega
  obtain ⟨hR, ht, hp, hq, hP, hQ⟩ := id hv
  refine gM.of mX12_pitchOf okX12_pitchOf (gcp 159 (by decide)).1 (gcp 159 (by decide)).2 (Nat.le_of_ble_eq_true rfl) ?_
  refine Go.run hsz hn1 2 (pc' := 2) (lv' := [some (gr 148), some (gi p), some (gi w)]) (st' := [gi p, gr 148]) (M' := gw mi ml) rfl ?_
  refine Go.callV (As := [gi p]) (b := 148) (st := []) (mc1 := 0) (mc := 0) (ms1 := 0) (ms := 0) (by rfl) rfl (c := 11) (N := 46) (by rfl) (by decide) (by rfl) (gcn 155 (by decide)).1 (gcn 155 (by decide)).2 rfl (Nat.le_of_ble_eq_true rfl) (by omega) (cM_isPitch hsz (n := n - 1) (by omega) mi ml p r_p hp.1 hp.2) ?_
  rintro _ _ ⟨rfl, rfl⟩
  refine Go.run hsz hn1 0 (pc' := 5) (lv' := [some (gr 148), some (gi p), some (gi w)]) (st' := [gi (b2 (0 ≤ p ∧ p ≤ mi 148 2 - 1))]) (M' := gw mi ml) rfl ?_
  refine Go.if_eq (by rfl) (b2_rng _) (fun kq1 => ?_) (fun kq1 => ?_)
  · replace kq1 := b2_neg kq1
    refine Go.run hsz hn1 2 (pc' := 34) (lv' := [some (gr 148), some (gi p), some (gi w)]) (st' := [gi 0, gr 148]) (M' := gw mi ml) rfl ?_
    refine Go.callV (As := [gi 0]) (b := 148) (st := []) (mc1 := 0) (mc := 0) (ms1 := 0) (ms := 0) (by rfl) rfl (c := 11) (N := 46) (by rfl) (by decide) (by rfl) (gcn 154 (by decide)).1 (gcn 154 (by decide)).2 rfl (Nat.le_of_ble_eq_true rfl) (by omega) (cM_finds hsz (n := n - 1) (by omega) mi ml 0 (by decide) (by decide)) ?_
    rintro _ _ ⟨rfl, rfl⟩
    refine Go.run hsz hn1 0 (pc' := 37) (lv' := [some (gr 148), some (gi p), some (gi w)]) (st' := [gi (-1000001)]) (M' := gw (mFd mi 0) ml) rfl ?_
    refine Go.iret (by rfl) ?_
    first | (exact Or.inl ⟨by omega, rfl, rfl⟩) | (exact Or.inr (⟨by omega, rfl, rfl⟩))
  · replace kq1 := b2_pos kq1
    refine Go.run hsz hn1 3 (pc' := 12) (lv' := [some (gr 148), some (gi p), some (gi w)]) (st' := [gi 7, gi 0, gi w]) (M' := gw mi ml) rfl ?_
    refine Go.callS (As := [gi w, gi 0, gi 7]) (st := []) (mc1 := 0) (mc := 0) (ms1 := 0) (ms := 0) (by rfl) rfl (gcn 153 (by decide)).1 (gcn 153 (by decide)).2 (Nat.le_of_ble_eq_true rfl) (by omega) (cM_in hsz (n := n - 1) (by omega) mi ml w 0 7 r_w ⟨by decide, by decide⟩ ⟨by decide, by decide⟩) ?_
    rintro _ _ ⟨rfl, rfl⟩
    refine Go.run hsz hn1 0 (pc' := 15) (lv' := [some (gr 148), some (gi p), some (gi w)]) (st' := [gi (b2 (0 ≤ w ∧ w ≤ 7))]) (M' := gw mi ml) rfl ?_
    refine Go.if_eq (by rfl) (b2_rng _) (fun kq2 => ?_) (fun kq2 => ?_)
    · replace kq2 := b2_neg kq2
      refine Go.run hsz hn1 2 (pc' := 34) (lv' := [some (gr 148), some (gi p), some (gi w)]) (st' := [gi 0, gr 148]) (M' := gw mi ml) rfl ?_
      refine Go.callV (As := [gi 0]) (b := 148) (st := []) (mc1 := 0) (mc := 0) (ms1 := 0) (ms := 0) (by rfl) rfl (c := 11) (N := 46) (by rfl) (by decide) (by rfl) (gcn 154 (by decide)).1 (gcn 154 (by decide)).2 rfl (Nat.le_of_ble_eq_true rfl) (by omega) (cM_finds hsz (n := n - 1) (by omega) mi ml 0 (by decide) (by decide)) ?_
      rintro _ _ ⟨rfl, rfl⟩
      refine Go.run hsz hn1 0 (pc' := 37) (lv' := [some (gr 148), some (gi p), some (gi w)]) (st' := [gi (-1000001)]) (M' := gw (mFd mi 0) ml) rfl ?_
      refine Go.iret (by rfl) ?_
      first | (exact Or.inl ⟨by omega, rfl, rfl⟩) | (exact Or.inr (⟨by omega, rfl, rfl⟩))
    · replace kq2 := b2_pos kq2
      refine Go.run hsz hn1 7 (pc' := 28) (lv' := [some (gr 148), some (gi p), some (gi w)]) (st' := [gi ((8 * p) + w), gr 149]) (M' := gw mi ml) rfl ?_
      refine Go.iald (by rfl) (N := 96) (by rfl) (by omega) (by omega) (by decide) ?_
      refine Go.run hsz hn1 1 (pc' := 37) (lv' := [some (gr 148), some (gi p), some (gi w)]) (st' := [gi (mPi mi p w)]) (M' := gw mi ml) rfl ?_
      refine Go.iret (by rfl) ?_
      first | (exact Or.inl ⟨by omega, rfl, rfl⟩) | (exact Or.inr (⟨by omega, rfl, rfl⟩))
set_option maxRecDepth 100000 in
set_option maxHeartbeats 4000000 in
theorem pM_shade {G : gG} (hsz : G.2.2.2.2.2.2 = true) {n : Nat} (hn : 4 ≤ n) (mi : Nat → Nat → Int) (ml : Nat → Nat → Int64) (p v : Int) (r_p : rng p) (r_v : rng v) (hv : SV mi)  : gM G 160 n 0 0 [gr 148, gi p, gi v] (gw mi ml) (fun r M => gE ((0 ≤ p ∧ p ≤ mi 148 2 - 1) ∧ (0 ≤ v ∧ v ≤ 9)) (mPi mi p 4) (gu mi 149 (8 * p + 4).toNat v) ml r M ∨ gE (¬ ((0 ≤ p ∧ p ≤ mi 148 2 - 1) ∧ (0 ≤ v ∧ v ≤ 9))) (-1000001) (mFd mi 0) ml r M) := by
  have hn1 : 1 ≤ n := by omega
  obtain ⟨hR, ht, hp, hq, hP, hQ⟩ := id hv
  refine gM.of mX12_shade okX12_shade (gcp 160 (by decide)).1 (gcp 160 (by decide)).2 (Nat.le_of_ble_eq_true rfl) ?_
  refine Go.run hsz hn1 2 (pc' := 2) (lv' := [some (gr 148), some (gi p), some (gi v), none]) (st' := [gi p, gr 148]) (M' := gw mi ml) rfl ?_
  refine Go.callV (As := [gi p]) (b := 148) (st := []) (mc1 := 0) (mc := 0) (ms1 := 0) (ms := 0) (by rfl) rfl (c := 11) (N := 46) (by rfl) (by decide) (by rfl) (gcn 155 (by decide)).1 (gcn 155 (by decide)).2 rfl (Nat.le_of_ble_eq_true rfl) (by omega) (cM_isPitch hsz (n := n - 1) (by omega) mi ml p r_p hp.1 hp.2) ?_
  rintro _ _ ⟨rfl, rfl⟩
  refine Go.run hsz hn1 0 (pc' := 5) (lv' := [some (gr 148), some (gi p), some (gi v), none]) (st' := [gi (b2 (0 ≤ p ∧ p ≤ mi 148 2 - 1))]) (M' := gw mi ml) rfl ?_
  refine Go.if_eq (by rfl) (b2_rng _) (fun kq1 => ?_) (fun kq1 => ?_)
  · replace kq1 := b2_neg kq1
    refine Go.run hsz hn1 2 (pc' := 20) (lv' := [some (gr 148), some (gi p), some (gi v), none]) (st' := [gi 0, gr 148]) (M' := gw mi ml) rfl ?_
    refine Go.callV (As := [gi 0]) (b := 148) (st := []) (mc1 := 0) (mc := 0) (ms1 := 0) (ms := 0) (by rfl) rfl (c := 11) (N := 46) (by rfl) (by decide) (by rfl) (gcn 154 (by decide)).1 (gcn 154 (by decide)).2 rfl (Nat.le_of_ble_eq_true rfl) (by omega) (cM_finds hsz (n := n - 1) (by omega) mi ml 0 (by decide) (by decide)) ?_
    rintro _ _ ⟨rfl, rfl⟩
    refine Go.run hsz hn1 0 (pc' := 23) (lv' := [some (gr 148), some (gi p), some (gi v), none]) (st' := [gi (-1000001)]) (M' := gw (mFd mi 0) ml) rfl ?_
    refine Go.iret (by rfl) ?_
    first | (exact Or.inl ⟨by omega, rfl, rfl⟩) | (exact Or.inr (⟨by omega, rfl, rfl⟩))
  · replace kq1 := b2_pos kq1
    refine Go.run hsz hn1 3 (pc' := 12) (lv' := [some (gr 148), some (gi p), some (gi v), none]) (st' := [gi 9, gi 0, gi v]) (M' := gw mi ml) rfl ?_
    refine Go.callS (As := [gi v, gi 0, gi 9]) (st := []) (mc1 := 0) (mc := 0) (ms1 := 0) (ms := 0) (by rfl) rfl (gcn 153 (by decide)).1 (gcn 153 (by decide)).2 (Nat.le_of_ble_eq_true rfl) (by omega) (cM_in hsz (n := n - 1) (by omega) mi ml v 0 9 r_v ⟨by decide, by decide⟩ ⟨by decide, by decide⟩) ?_
    rintro _ _ ⟨rfl, rfl⟩
    refine Go.run hsz hn1 0 (pc' := 15) (lv' := [some (gr 148), some (gi p), some (gi v), none]) (st' := [gi (b2 (0 ≤ v ∧ v ≤ 9))]) (M' := gw mi ml) rfl ?_
    refine Go.if_ne (by rfl) (b2_rng _) (fun kq2 => ?_) (fun kq2 => ?_)
    · replace kq2 := b2_pos kq2
      refine Go.run hsz hn1 7 (pc' := 34) (lv' := [some (gr 148), some (gi p), some (gi v), none]) (st' := [gi ((8 * p) + 4), gr 149]) (M' := gw mi ml) rfl ?_
      refine Go.iald (by rfl) (N := 96) (by rfl) (by omega) (by omega) (by decide) ?_
      refine Go.run hsz hn1 9 (pc' := 47) (lv' := [some (gr 148), some (gi p), some (gi v), some (gi (mPi mi p 4))]) (st' := [gi v, gi ((8 * p) + 4), gr 149]) (M' := gw mi ml) rfl ?_
      refine Go.iast (by rfl) (N := 96) (by rfl) (by omega) (by omega) (by decide) ?_
      refine Go.run hsz hn1 1 (pc' := 49) (lv' := [some (gr 148), some (gi p), some (gi v), some (gi (mPi mi p 4))]) (st' := [gi (mPi mi p 4)]) (M' := gw (gu mi 149 (((8 * p) + 4).toNat) v) ml) rfl ?_
      refine Go.iret (by rfl) ?_
      first | (exact Or.inl ⟨by omega, rfl, rfl⟩) | (exact Or.inr (⟨by omega, rfl, rfl⟩))
    · replace kq2 := b2_neg kq2
      refine Go.run hsz hn1 2 (pc' := 20) (lv' := [some (gr 148), some (gi p), some (gi v), none]) (st' := [gi 0, gr 148]) (M' := gw mi ml) rfl ?_
      refine Go.callV (As := [gi 0]) (b := 148) (st := []) (mc1 := 0) (mc := 0) (ms1 := 0) (ms := 0) (by rfl) rfl (c := 11) (N := 46) (by rfl) (by decide) (by rfl) (gcn 154 (by decide)).1 (gcn 154 (by decide)).2 rfl (Nat.le_of_ble_eq_true rfl) (by omega) (cM_finds hsz (n := n - 1) (by omega) mi ml 0 (by decide) (by decide)) ?_
      rintro _ _ ⟨rfl, rfl⟩
      refine Go.run hsz hn1 0 (pc' := 23) (lv' := [some (gr 148), some (gi p), some (gi v), none]) (st' := [gi (-1000001)]) (M' := gw (mFd mi 0) ml) rfl ?_
      refine Go.iret (by rfl) ?_
      first | (exact Or.inl ⟨by omega, rfl, rfl⟩) | (exact Or.inr (⟨by omega, rfl, rfl⟩))
set_option maxRecDepth 100000 in
set_option maxHeartbeats 4000000 in
theorem pM_far {G : gG} (hsz : G.2.2.2.2.2.2 = true) {n : Nat} (hn : 4 ≤ n) (mi : Nat → Nat → Int) (ml : Nat → Nat → Int64) (p q : Int) (r_p : rng p) (r_q : rng q) (hv : SV mi)  : gM G 163 n 0 0 [gr 148, gi p, gi q] (gw mi ml) (fun r M => gE ((0 ≤ p ∧ p ≤ mi 148 2 - 1) ∧ (0 ≤ q ∧ q ≤ mi 148 2 - 1)) (mFar mi p q) (mi) ml r M ∨ gE (¬ ((0 ≤ p ∧ p ≤ mi 148 2 - 1) ∧ (0 ≤ q ∧ q ≤ mi 148 2 - 1))) (-1000001) (mFd mi 0) ml r M) := by
  have hn1 : 1 ≤ n := by omega
  obtain ⟨hR, ht, hp, hq, hP, hQ⟩ := id hv
  refine gM.of mX12_far okX12_far (gcp 163 (by decide)).1 (gcp 163 (by decide)).2 (Nat.le_of_ble_eq_true rfl) ?_
  refine Go.run hsz hn1 2 (pc' := 2) (lv' := [some (gr 148), some (gi p), some (gi q)]) (st' := [gi p, gr 148]) (M' := gw mi ml) rfl ?_
  refine Go.callV (As := [gi p]) (b := 148) (st := []) (mc1 := 0) (mc := 0) (ms1 := 0) (ms := 0) (by rfl) rfl (c := 11) (N := 46) (by rfl) (by decide) (by rfl) (gcn 155 (by decide)).1 (gcn 155 (by decide)).2 rfl (Nat.le_of_ble_eq_true rfl) (by omega) (cM_isPitch hsz (n := n - 1) (by omega) mi ml p r_p hp.1 hp.2) ?_
  rintro _ _ ⟨rfl, rfl⟩
  refine Go.run hsz hn1 0 (pc' := 5) (lv' := [some (gr 148), some (gi p), some (gi q)]) (st' := [gi (b2 (0 ≤ p ∧ p ≤ mi 148 2 - 1))]) (M' := gw mi ml) rfl ?_
  refine Go.if_eq (by rfl) (b2_rng _) (fun kq1 => ?_) (fun kq1 => ?_)
  · replace kq1 := b2_neg kq1
    refine Go.run hsz hn1 2 (pc' := 27) (lv' := [some (gr 148), some (gi p), some (gi q)]) (st' := [gi 0, gr 148]) (M' := gw mi ml) rfl ?_
    refine Go.callV (As := [gi 0]) (b := 148) (st := []) (mc1 := 0) (mc := 0) (ms1 := 0) (ms := 0) (by rfl) rfl (c := 11) (N := 46) (by rfl) (by decide) (by rfl) (gcn 154 (by decide)).1 (gcn 154 (by decide)).2 rfl (Nat.le_of_ble_eq_true rfl) (by omega) (cM_finds hsz (n := n - 1) (by omega) mi ml 0 (by decide) (by decide)) ?_
    rintro _ _ ⟨rfl, rfl⟩
    refine Go.run hsz hn1 0 (pc' := 30) (lv' := [some (gr 148), some (gi p), some (gi q)]) (st' := [gi (-1000001)]) (M' := gw (mFd mi 0) ml) rfl ?_
    refine Go.iret (by rfl) ?_
    first | (exact Or.inl ⟨by omega, rfl, rfl⟩) | (exact Or.inr (⟨by omega, rfl, rfl⟩))
  · replace kq1 := b2_pos kq1
    refine Go.run hsz hn1 2 (pc' := 10) (lv' := [some (gr 148), some (gi p), some (gi q)]) (st' := [gi q, gr 148]) (M' := gw mi ml) rfl ?_
    refine Go.callV (As := [gi q]) (b := 148) (st := []) (mc1 := 0) (mc := 0) (ms1 := 0) (ms := 0) (by rfl) rfl (c := 11) (N := 46) (by rfl) (by decide) (by rfl) (gcn 155 (by decide)).1 (gcn 155 (by decide)).2 rfl (Nat.le_of_ble_eq_true rfl) (by omega) (cM_isPitch hsz (n := n - 1) (by omega) mi ml q r_q hp.1 hp.2) ?_
    rintro _ _ ⟨rfl, rfl⟩
    refine Go.run hsz hn1 0 (pc' := 13) (lv' := [some (gr 148), some (gi p), some (gi q)]) (st' := [gi (b2 (0 ≤ q ∧ q ≤ mi 148 2 - 1))]) (M' := gw mi ml) rfl ?_
    refine Go.if_eq (by rfl) (b2_rng _) (fun kq2 => ?_) (fun kq2 => ?_)
    · replace kq2 := b2_neg kq2
      refine Go.run hsz hn1 2 (pc' := 27) (lv' := [some (gr 148), some (gi p), some (gi q)]) (st' := [gi 0, gr 148]) (M' := gw mi ml) rfl ?_
      refine Go.callV (As := [gi 0]) (b := 148) (st := []) (mc1 := 0) (mc := 0) (ms1 := 0) (ms := 0) (by rfl) rfl (c := 11) (N := 46) (by rfl) (by decide) (by rfl) (gcn 154 (by decide)).1 (gcn 154 (by decide)).2 rfl (Nat.le_of_ble_eq_true rfl) (by omega) (cM_finds hsz (n := n - 1) (by omega) mi ml 0 (by decide) (by decide)) ?_
      rintro _ _ ⟨rfl, rfl⟩
      refine Go.run hsz hn1 0 (pc' := 30) (lv' := [some (gr 148), some (gi p), some (gi q)]) (st' := [gi (-1000001)]) (M' := gw (mFd mi 0) ml) rfl ?_
      refine Go.iret (by rfl) ?_
      first | (exact Or.inl ⟨by omega, rfl, rfl⟩) | (exact Or.inr (⟨by omega, rfl, rfl⟩))
    · replace kq2 := b2_pos kq2
      refine Go.run hsz hn1 3 (pc' := 19) (lv' := [some (gr 148), some (gi p), some (gi q)]) (st' := [gi q, gi p, gr 148]) (M' := gw mi ml) rfl ?_
      refine Go.callV (As := [gi p, gi q]) (b := 148) (st := []) (mc1 := 0) (mc := 0) (ms1 := 0) (ms := 0) (by rfl) rfl (c := 11) (N := 46) (by rfl) (by decide) (by rfl) (gcn 162 (by decide)).1 (gcn 162 (by decide)).2 rfl (Nat.le_of_ble_eq_true rfl) (by omega) (cM_farOf hsz (n := n - 1) (by omega) mi ml p q (by omega) (by omega) (by omega) (by omega) (hQ _ (by omega) (by omega)) (hQ _ (by omega) (by omega))) ?_
      rintro _ _ ⟨rfl, rfl⟩
      refine Go.run hsz hn1 1 (pc' := 30) (lv' := [some (gr 148), some (gi p), some (gi q)]) (st' := [gi (mFar mi p q)]) (M' := gw mi ml) rfl ?_
      refine Go.iret (by rfl) ?_
      first | (exact Or.inl ⟨by omega, rfl, rfl⟩) | (exact Or.inr (⟨by omega, rfl, rfl⟩))
set_option maxRecDepth 100000 in
set_option maxHeartbeats 4000000 in
theorem pM_partyOf {G : gG} (hsz : G.2.2.2.2.2.2 = true) {n : Nat} (hn : 4 ≤ n) (mi : Nat → Nat → Int) (ml : Nat → Nat → Int64) (a w : Int) (r_a : rng a) (r_w : rng w) (hv : SV mi)  : gM G 167 n 0 0 [gr 148, gi a, gi w] (gw mi ml) (fun r M => gE ((0 ≤ a ∧ a ≤ mi 148 6 - 1) ∧ (0 ≤ w ∧ w ≤ 9) ∧ ¬ w = 9) (mOf mi a w) (mi) ml r M ∨ gE ((0 ≤ a ∧ a ≤ mi 148 6 - 1) ∧ (0 ≤ w ∧ w ≤ 9) ∧ w = 9 ∧ mOf mi a 4 ≤ mi 148 0) (1) (mi) ml r M ∨ gE ((0 ≤ a ∧ a ≤ mi 148 6 - 1) ∧ (0 ≤ w ∧ w ≤ 9) ∧ w = 9 ∧ ¬ mOf mi a 4 ≤ mi 148 0) (0) (mi) ml r M ∨ gE (¬ ((0 ≤ a ∧ a ≤ mi 148 6 - 1) ∧ (0 ≤ w ∧ w ≤ 9))) (-1000001) (mFd mi 0) ml r M) := by
  have hn1 : 1 ≤ n := by omega
  obtain ⟨hR, ht, hp, hq, hP, hQ⟩ := id hv
  refine gM.of mX12_partyOf okX12_partyOf (gcp 167 (by decide)).1 (gcp 167 (by decide)).2 (Nat.le_of_ble_eq_true rfl) ?_
  refine Go.run hsz hn1 2 (pc' := 2) (lv' := [some (gr 148), some (gi a), some (gi w)]) (st' := [gi a, gr 148]) (M' := gw mi ml) rfl ?_
  refine Go.callV (As := [gi a]) (b := 148) (st := []) (mc1 := 0) (mc := 0) (ms1 := 0) (ms := 0) (by rfl) rfl (c := 11) (N := 46) (by rfl) (by decide) (by rfl) (gcn 156 (by decide)).1 (gcn 156 (by decide)).2 rfl (Nat.le_of_ble_eq_true rfl) (by omega) (cM_isParty hsz (n := n - 1) (by omega) mi ml a r_a hq.1 hq.2) ?_
  rintro _ _ ⟨rfl, rfl⟩
  refine Go.run hsz hn1 0 (pc' := 5) (lv' := [some (gr 148), some (gi a), some (gi w)]) (st' := [gi (b2 (0 ≤ a ∧ a ≤ mi 148 6 - 1))]) (M' := gw mi ml) rfl ?_
  refine Go.if_eq (by rfl) (b2_rng _) (fun kq1 => ?_) (fun kq1 => ?_)
  · replace kq1 := b2_neg kq1
    refine Go.run hsz hn1 2 (pc' := 20) (lv' := [some (gr 148), some (gi a), some (gi w)]) (st' := [gi 0, gr 148]) (M' := gw mi ml) rfl ?_
    refine Go.callV (As := [gi 0]) (b := 148) (st := []) (mc1 := 0) (mc := 0) (ms1 := 0) (ms := 0) (by rfl) rfl (c := 11) (N := 46) (by rfl) (by decide) (by rfl) (gcn 154 (by decide)).1 (gcn 154 (by decide)).2 rfl (Nat.le_of_ble_eq_true rfl) (by omega) (cM_finds hsz (n := n - 1) (by omega) mi ml 0 (by decide) (by decide)) ?_
    rintro _ _ ⟨rfl, rfl⟩
    refine Go.run hsz hn1 0 (pc' := 23) (lv' := [some (gr 148), some (gi a), some (gi w)]) (st' := [gi (-1000001)]) (M' := gw (mFd mi 0) ml) rfl ?_
    refine Go.iret (by rfl) ?_
    first | (exact Or.inl ⟨by omega, rfl, rfl⟩) | (exact Or.inr (Or.inl ⟨by omega, rfl, rfl⟩)) | (exact Or.inr (Or.inr (Or.inl ⟨by omega, rfl, rfl⟩))) | (exact Or.inr (Or.inr (Or.inr (⟨by omega, rfl, rfl⟩))))
  · replace kq1 := b2_pos kq1
    refine Go.run hsz hn1 3 (pc' := 12) (lv' := [some (gr 148), some (gi a), some (gi w)]) (st' := [gi 9, gi 0, gi w]) (M' := gw mi ml) rfl ?_
    refine Go.callS (As := [gi w, gi 0, gi 9]) (st := []) (mc1 := 0) (mc := 0) (ms1 := 0) (ms := 0) (by rfl) rfl (gcn 153 (by decide)).1 (gcn 153 (by decide)).2 (Nat.le_of_ble_eq_true rfl) (by omega) (cM_in hsz (n := n - 1) (by omega) mi ml w 0 9 r_w ⟨by decide, by decide⟩ ⟨by decide, by decide⟩) ?_
    rintro _ _ ⟨rfl, rfl⟩
    refine Go.run hsz hn1 0 (pc' := 15) (lv' := [some (gr 148), some (gi a), some (gi w)]) (st' := [gi (b2 (0 ≤ w ∧ w ≤ 9))]) (M' := gw mi ml) rfl ?_
    refine Go.if_ne (by rfl) (b2_rng _) (fun kq2 => ?_) (fun kq2 => ?_)
    · replace kq2 := b2_pos kq2
      refine Go.run hsz hn1 2 (pc' := 27) (lv' := [some (gr 148), some (gi a), some (gi w)]) (st' := [gi 9, gi w]) (M' := gw mi ml) rfl ?_
      refine Go.icmp_ne (by rfl) r_w ⟨by decide, by decide⟩ (fun kq3 => ?_) (fun kq3 => ?_)
      · refine Go.run hsz hn1 3 (pc' := 49) (lv' := [some (gr 148), some (gi a), some (gi w)]) (st' := [gi w, gi a, gr 148]) (M' := gw mi ml) rfl ?_
        refine Go.callV (As := [gi a, gi w]) (b := 148) (st := []) (mc1 := 0) (mc := 0) (ms1 := 0) (ms := 0) (by rfl) rfl (c := 11) (N := 46) (by rfl) (by decide) (by rfl) (gcn 165 (by decide)).1 (gcn 165 (by decide)).2 rfl (Nat.le_of_ble_eq_true rfl) (by omega) (cM_of hsz (n := n - 1) (by omega) mi ml a w (by omega) (by omega) (by omega) (by omega)) ?_
        rintro _ _ ⟨rfl, rfl⟩
        refine Go.run hsz hn1 0 (pc' := 52) (lv' := [some (gr 148), some (gi a), some (gi w)]) (st' := [gi (mOf mi a w)]) (M' := gw mi ml) rfl ?_
        refine Go.iret (by rfl) ?_
        first | (exact Or.inl ⟨by omega, rfl, rfl⟩) | (exact Or.inr (Or.inl ⟨by omega, rfl, rfl⟩)) | (exact Or.inr (Or.inr (Or.inl ⟨by omega, rfl, rfl⟩))) | (exact Or.inr (Or.inr (Or.inr (⟨by omega, rfl, rfl⟩))))
      · refine Go.run hsz hn1 2 (pc' := 32) (lv' := [some (gr 148), some (gi a), some (gi w)]) (st' := [gi a, gr 148]) (M' := gw mi ml) rfl ?_
        refine Go.callV (As := [gi a]) (b := 148) (st := []) (mc1 := 0) (mc := 0) (ms1 := 0) (ms := 0) (by rfl) rfl (c := 11) (N := 46) (by rfl) (by decide) (by rfl) (gcn 166 (by decide)).1 (gcn 166 (by decide)).2 rfl (Nat.le_of_ble_eq_true rfl) (by omega) (cM_hasCome hsz (n := n - 1) (by omega) mi ml a (by omega) (by omega) hR) ?_
        rintro _ _ ⟨rfl, rfl⟩
        refine Go.run hsz hn1 0 (pc' := 35) (lv' := [some (gr 148), some (gi a), some (gi w)]) (st' := [gi (b2 (mOf mi a 4 ≤ mi 148 0))]) (M' := gw mi ml) rfl ?_
        refine Go.if_eq (by rfl) (b2_rng _) (fun kq4 => ?_) (fun kq4 => ?_)
        · replace kq4 := b2_neg kq4
          refine Go.run hsz hn1 2 (pc' := 52) (lv' := [some (gr 148), some (gi a), some (gi w)]) (st' := [gi 0]) (M' := gw mi ml) rfl ?_
          refine Go.iret (by rfl) ?_
          first | (exact Or.inl ⟨by omega, rfl, rfl⟩) | (exact Or.inr (Or.inl ⟨by omega, rfl, rfl⟩)) | (exact Or.inr (Or.inr (Or.inl ⟨by omega, rfl, rfl⟩))) | (exact Or.inr (Or.inr (Or.inr (⟨by omega, rfl, rfl⟩))))
        · replace kq4 := b2_pos kq4
          refine Go.run hsz hn1 2 (pc' := 52) (lv' := [some (gr 148), some (gi a), some (gi w)]) (st' := [gi 1]) (M' := gw mi ml) rfl ?_
          refine Go.iret (by rfl) ?_
          first | (exact Or.inl ⟨by omega, rfl, rfl⟩) | (exact Or.inr (Or.inl ⟨by omega, rfl, rfl⟩)) | (exact Or.inr (Or.inr (Or.inl ⟨by omega, rfl, rfl⟩))) | (exact Or.inr (Or.inr (Or.inr (⟨by omega, rfl, rfl⟩))))
    · replace kq2 := b2_neg kq2
      refine Go.run hsz hn1 2 (pc' := 20) (lv' := [some (gr 148), some (gi a), some (gi w)]) (st' := [gi 0, gr 148]) (M' := gw mi ml) rfl ?_
      refine Go.callV (As := [gi 0]) (b := 148) (st := []) (mc1 := 0) (mc := 0) (ms1 := 0) (ms := 0) (by rfl) rfl (c := 11) (N := 46) (by rfl) (by decide) (by rfl) (gcn 154 (by decide)).1 (gcn 154 (by decide)).2 rfl (Nat.le_of_ble_eq_true rfl) (by omega) (cM_finds hsz (n := n - 1) (by omega) mi ml 0 (by decide) (by decide)) ?_
      rintro _ _ ⟨rfl, rfl⟩
      refine Go.run hsz hn1 0 (pc' := 23) (lv' := [some (gr 148), some (gi a), some (gi w)]) (st' := [gi (-1000001)]) (M' := gw (mFd mi 0) ml) rfl ?_
      refine Go.iret (by rfl) ?_
      first | (exact Or.inl ⟨by omega, rfl, rfl⟩) | (exact Or.inr (Or.inl ⟨by omega, rfl, rfl⟩)) | (exact Or.inr (Or.inr (Or.inl ⟨by omega, rfl, rfl⟩))) | (exact Or.inr (Or.inr (Or.inr (⟨by omega, rfl, rfl⟩))))
set_option maxRecDepth 100000 in
set_option maxHeartbeats 4000000 in
theorem pM_why {G : gG} (hsz : G.2.2.2.2.2.2 = true) {n : Nat} (hn : 5 ≤ n) (mi : Nat → Nat → Int) (ml : Nat → Nat → Int64) (a p : Int) (r_a : rng a) (r_p : rng p) (hv : SV mi)  : gM G 170 n 0 0 [gr 148, gi a, gi p] (gw mi ml) (fun r M => gE ((0 ≤ a ∧ a ≤ mi 148 6 - 1) ∧ (0 ≤ p ∧ p ≤ mi 148 2 - 1)) (mWhy mi a p) (mi) ml r M ∨ gE (¬ ((0 ≤ a ∧ a ≤ mi 148 6 - 1) ∧ (0 ≤ p ∧ p ≤ mi 148 2 - 1))) (-1000001) (mFd mi 0) ml r M) := by
  have hn1 : 1 ≤ n := by omega
  obtain ⟨hR, ht, hp, hq, hP, hQ⟩ := id hv
  refine gM.of mX12_why okX12_why (gcp 170 (by decide)).1 (gcp 170 (by decide)).2 (Nat.le_of_ble_eq_true rfl) ?_
  refine Go.run hsz hn1 2 (pc' := 2) (lv' := [some (gr 148), some (gi a), some (gi p)]) (st' := [gi a, gr 148]) (M' := gw mi ml) rfl ?_
  refine Go.callV (As := [gi a]) (b := 148) (st := []) (mc1 := 0) (mc := 0) (ms1 := 0) (ms := 0) (by rfl) rfl (c := 11) (N := 46) (by rfl) (by decide) (by rfl) (gcn 156 (by decide)).1 (gcn 156 (by decide)).2 rfl (Nat.le_of_ble_eq_true rfl) (by omega) (cM_isParty hsz (n := n - 1) (by omega) mi ml a r_a hq.1 hq.2) ?_
  rintro _ _ ⟨rfl, rfl⟩
  refine Go.run hsz hn1 0 (pc' := 5) (lv' := [some (gr 148), some (gi a), some (gi p)]) (st' := [gi (b2 (0 ≤ a ∧ a ≤ mi 148 6 - 1))]) (M' := gw mi ml) rfl ?_
  refine Go.if_eq (by rfl) (b2_rng _) (fun kq1 => ?_) (fun kq1 => ?_)
  · replace kq1 := b2_neg kq1
    refine Go.run hsz hn1 2 (pc' := 27) (lv' := [some (gr 148), some (gi a), some (gi p)]) (st' := [gi 0, gr 148]) (M' := gw mi ml) rfl ?_
    refine Go.callV (As := [gi 0]) (b := 148) (st := []) (mc1 := 0) (mc := 0) (ms1 := 0) (ms := 0) (by rfl) rfl (c := 11) (N := 46) (by rfl) (by decide) (by rfl) (gcn 154 (by decide)).1 (gcn 154 (by decide)).2 rfl (Nat.le_of_ble_eq_true rfl) (by omega) (cM_finds hsz (n := n - 1) (by omega) mi ml 0 (by decide) (by decide)) ?_
    rintro _ _ ⟨rfl, rfl⟩
    refine Go.run hsz hn1 0 (pc' := 30) (lv' := [some (gr 148), some (gi a), some (gi p)]) (st' := [gi (-1000001)]) (M' := gw (mFd mi 0) ml) rfl ?_
    refine Go.iret (by rfl) ?_
    first | (exact Or.inl ⟨by omega, rfl, rfl⟩) | (exact Or.inr (⟨by omega, rfl, rfl⟩))
  · replace kq1 := b2_pos kq1
    refine Go.run hsz hn1 2 (pc' := 10) (lv' := [some (gr 148), some (gi a), some (gi p)]) (st' := [gi p, gr 148]) (M' := gw mi ml) rfl ?_
    refine Go.callV (As := [gi p]) (b := 148) (st := []) (mc1 := 0) (mc := 0) (ms1 := 0) (ms := 0) (by rfl) rfl (c := 11) (N := 46) (by rfl) (by decide) (by rfl) (gcn 155 (by decide)).1 (gcn 155 (by decide)).2 rfl (Nat.le_of_ble_eq_true rfl) (by omega) (cM_isPitch hsz (n := n - 1) (by omega) mi ml p r_p hp.1 hp.2) ?_
    rintro _ _ ⟨rfl, rfl⟩
    refine Go.run hsz hn1 0 (pc' := 13) (lv' := [some (gr 148), some (gi a), some (gi p)]) (st' := [gi (b2 (0 ≤ p ∧ p ≤ mi 148 2 - 1))]) (M' := gw mi ml) rfl ?_
    refine Go.if_eq (by rfl) (b2_rng _) (fun kq2 => ?_) (fun kq2 => ?_)
    · replace kq2 := b2_neg kq2
      refine Go.run hsz hn1 2 (pc' := 27) (lv' := [some (gr 148), some (gi a), some (gi p)]) (st' := [gi 0, gr 148]) (M' := gw mi ml) rfl ?_
      refine Go.callV (As := [gi 0]) (b := 148) (st := []) (mc1 := 0) (mc := 0) (ms1 := 0) (ms := 0) (by rfl) rfl (c := 11) (N := 46) (by rfl) (by decide) (by rfl) (gcn 154 (by decide)).1 (gcn 154 (by decide)).2 rfl (Nat.le_of_ble_eq_true rfl) (by omega) (cM_finds hsz (n := n - 1) (by omega) mi ml 0 (by decide) (by decide)) ?_
      rintro _ _ ⟨rfl, rfl⟩
      refine Go.run hsz hn1 0 (pc' := 30) (lv' := [some (gr 148), some (gi a), some (gi p)]) (st' := [gi (-1000001)]) (M' := gw (mFd mi 0) ml) rfl ?_
      refine Go.iret (by rfl) ?_
      first | (exact Or.inl ⟨by omega, rfl, rfl⟩) | (exact Or.inr (⟨by omega, rfl, rfl⟩))
    · replace kq2 := b2_pos kq2
      refine Go.run hsz hn1 3 (pc' := 19) (lv' := [some (gr 148), some (gi a), some (gi p)]) (st' := [gi p, gi a, gr 148]) (M' := gw mi ml) rfl ?_
      refine Go.callV (As := [gi a, gi p]) (b := 148) (st := []) (mc1 := 0) (mc := 0) (ms1 := 0) (ms := 0) (by rfl) rfl (c := 11) (N := 46) (by rfl) (by decide) (by rfl) (gcn 169 (by decide)).1 (gcn 169 (by decide)).2 rfl (Nat.le_of_ble_eq_true rfl) (by omega) (cM_whyNot hsz (n := n - 1) (by omega) mi ml a p (by omega) (by omega) (by omega) (by omega) hR (hP _ (by omega) (by omega))) ?_
      rintro _ _ ⟨rfl, rfl⟩
      refine Go.run hsz hn1 1 (pc' := 30) (lv' := [some (gr 148), some (gi a), some (gi p)]) (st' := [gi (mWhy mi a p)]) (M' := gw mi ml) rfl ?_
      refine Go.iret (by rfl) ?_
      first | (exact Or.inl ⟨by omega, rfl, rfl⟩) | (exact Or.inr (⟨by omega, rfl, rfl⟩))
set_option maxRecDepth 100000 in
set_option maxHeartbeats 4000000 in
theorem pM_near {G : gG} (hsz : G.2.2.2.2.2.2 = true) {n : Nat} (hn : 4 ≤ n) (mi : Nat → Nat → Int) (ml : Nat → Nat → Int64) (a b : Int) (r_a : rng a) (r_b : rng b) (hv : SV mi)  : gM G 171 n 0 0 [gr 148, gi a, gi b] (gw mi ml) (fun r M => gE ((0 ≤ a ∧ a ≤ mi 148 6 - 1) ∧ (b = -1 ∨ (0 ≤ b ∧ b ≤ mi 148 6 - 1)) ∧ ¬ a = b) (mOf mi a 7) (gu mi 152 (12 * a + 7).toNat b) ml r M ∨ gE (¬ ((0 ≤ a ∧ a ≤ mi 148 6 - 1) ∧ (b = -1 ∨ (0 ≤ b ∧ b ≤ mi 148 6 - 1)) ∧ ¬ a = b)) (-1000001) (mFd mi 0) ml r M) := by
  have hn1 : 1 ≤ n := by omega
  obtain ⟨hR, ht, hp, hq, hP, hQ⟩ := id hv
  refine gM.of mX12_near okX12_near (gcp 171 (by decide)).1 (gcp 171 (by decide)).2 (Nat.le_of_ble_eq_true rfl) ?_
  refine Go.run hsz hn1 2 (pc' := 2) (lv' := [some (gr 148), some (gi a), some (gi b), none]) (st' := [gi a, gr 148]) (M' := gw mi ml) rfl ?_
  refine Go.callV (As := [gi a]) (b := 148) (st := []) (mc1 := 0) (mc := 0) (ms1 := 0) (ms := 0) (by rfl) rfl (c := 11) (N := 46) (by rfl) (by decide) (by rfl) (gcn 156 (by decide)).1 (gcn 156 (by decide)).2 rfl (Nat.le_of_ble_eq_true rfl) (by omega) (cM_isParty hsz (n := n - 1) (by omega) mi ml a r_a hq.1 hq.2) ?_
  rintro _ _ ⟨rfl, rfl⟩
  refine Go.run hsz hn1 0 (pc' := 5) (lv' := [some (gr 148), some (gi a), some (gi b), none]) (st' := [gi (b2 (0 ≤ a ∧ a ≤ mi 148 6 - 1))]) (M' := gw mi ml) rfl ?_
  refine Go.if_eq (by rfl) (b2_rng _) (fun kq1 => ?_) (fun kq1 => ?_)
  · replace kq1 := b2_neg kq1
    refine Go.run hsz hn1 2 (pc' := 28) (lv' := [some (gr 148), some (gi a), some (gi b), none]) (st' := [gi 0, gr 148]) (M' := gw mi ml) rfl ?_
    refine Go.callV (As := [gi 0]) (b := 148) (st := []) (mc1 := 0) (mc := 0) (ms1 := 0) (ms := 0) (by rfl) rfl (c := 11) (N := 46) (by rfl) (by decide) (by rfl) (gcn 154 (by decide)).1 (gcn 154 (by decide)).2 rfl (Nat.le_of_ble_eq_true rfl) (by omega) (cM_finds hsz (n := n - 1) (by omega) mi ml 0 (by decide) (by decide)) ?_
    rintro _ _ ⟨rfl, rfl⟩
    refine Go.run hsz hn1 0 (pc' := 31) (lv' := [some (gr 148), some (gi a), some (gi b), none]) (st' := [gi (-1000001)]) (M' := gw (mFd mi 0) ml) rfl ?_
    refine Go.iret (by rfl) ?_
    first | (exact Or.inl ⟨by omega, rfl, rfl⟩) | (exact Or.inr (⟨by omega, rfl, rfl⟩))
  · replace kq1 := b2_pos kq1
    refine Go.run hsz hn1 2 (pc' := 10) (lv' := [some (gr 148), some (gi a), some (gi b), none]) (st' := [gi (-1), gi b]) (M' := gw mi ml) rfl ?_
    refine Go.icmp_eq (by rfl) r_b ⟨by decide, by decide⟩ (fun kq2 => ?_) (fun kq2 => ?_)
    · refine Go.run hsz hn1 2 (pc' := 23) (lv' := [some (gr 148), some (gi a), some (gi b), none]) (st' := [gi b, gi a]) (M' := gw mi ml) rfl ?_
      refine Go.icmp_ne (by rfl) r_a r_b (fun kq3 => ?_) (fun kq3 => ?_)
      · refine Go.run hsz hn1 3 (pc' := 36) (lv' := [some (gr 148), some (gi a), some (gi b), none]) (st' := [gi 7, gi a, gr 148]) (M' := gw mi ml) rfl ?_
        refine Go.callV (As := [gi a, gi 7]) (b := 148) (st := []) (mc1 := 0) (mc := 0) (ms1 := 0) (ms := 0) (by rfl) rfl (c := 11) (N := 46) (by rfl) (by decide) (by rfl) (gcn 165 (by decide)).1 (gcn 165 (by decide)).2 rfl (Nat.le_of_ble_eq_true rfl) (by omega) (cM_of hsz (n := n - 1) (by omega) mi ml a 7 (by omega) (by omega) (by omega) (by omega)) ?_
        rintro _ _ ⟨rfl, rfl⟩
        refine Go.run hsz hn1 9 (pc' := 52) (lv' := [some (gr 148), some (gi a), some (gi b), some (gi (mOf mi a 7))]) (st' := [gi b, gi ((12 * a) + 7), gr 152]) (M' := gw mi ml) rfl ?_
        refine Go.iast (by rfl) (N := 288) (by rfl) (by omega) (by omega) (by decide) ?_
        refine Go.run hsz hn1 1 (pc' := 54) (lv' := [some (gr 148), some (gi a), some (gi b), some (gi (mOf mi a 7))]) (st' := [gi (mOf mi a 7)]) (M' := gw (gu mi 152 (((12 * a) + 7).toNat) b) ml) rfl ?_
        refine Go.iret (by rfl) ?_
        first | (exact Or.inl ⟨by omega, rfl, rfl⟩) | (exact Or.inr (⟨by omega, rfl, rfl⟩))
      · refine Go.run hsz hn1 2 (pc' := 28) (lv' := [some (gr 148), some (gi a), some (gi b), none]) (st' := [gi 0, gr 148]) (M' := gw mi ml) rfl ?_
        refine Go.callV (As := [gi 0]) (b := 148) (st := []) (mc1 := 0) (mc := 0) (ms1 := 0) (ms := 0) (by rfl) rfl (c := 11) (N := 46) (by rfl) (by decide) (by rfl) (gcn 154 (by decide)).1 (gcn 154 (by decide)).2 rfl (Nat.le_of_ble_eq_true rfl) (by omega) (cM_finds hsz (n := n - 1) (by omega) mi ml 0 (by decide) (by decide)) ?_
        rintro _ _ ⟨rfl, rfl⟩
        refine Go.run hsz hn1 0 (pc' := 31) (lv' := [some (gr 148), some (gi a), some (gi b), none]) (st' := [gi (-1000001)]) (M' := gw (mFd mi 0) ml) rfl ?_
        refine Go.iret (by rfl) ?_
        first | (exact Or.inl ⟨by omega, rfl, rfl⟩) | (exact Or.inr (⟨by omega, rfl, rfl⟩))
    · refine Go.run hsz hn1 2 (pc' := 15) (lv' := [some (gr 148), some (gi a), some (gi b), none]) (st' := [gi b, gr 148]) (M' := gw mi ml) rfl ?_
      refine Go.callV (As := [gi b]) (b := 148) (st := []) (mc1 := 0) (mc := 0) (ms1 := 0) (ms := 0) (by rfl) rfl (c := 11) (N := 46) (by rfl) (by decide) (by rfl) (gcn 156 (by decide)).1 (gcn 156 (by decide)).2 rfl (Nat.le_of_ble_eq_true rfl) (by omega) (cM_isParty hsz (n := n - 1) (by omega) mi ml b r_b hq.1 hq.2) ?_
      rintro _ _ ⟨rfl, rfl⟩
      refine Go.run hsz hn1 0 (pc' := 18) (lv' := [some (gr 148), some (gi a), some (gi b), none]) (st' := [gi (b2 (0 ≤ b ∧ b ≤ mi 148 6 - 1))]) (M' := gw mi ml) rfl ?_
      refine Go.if_eq (by rfl) (b2_rng _) (fun kq4 => ?_) (fun kq4 => ?_)
      · replace kq4 := b2_neg kq4
        refine Go.run hsz hn1 2 (pc' := 28) (lv' := [some (gr 148), some (gi a), some (gi b), none]) (st' := [gi 0, gr 148]) (M' := gw mi ml) rfl ?_
        refine Go.callV (As := [gi 0]) (b := 148) (st := []) (mc1 := 0) (mc := 0) (ms1 := 0) (ms := 0) (by rfl) rfl (c := 11) (N := 46) (by rfl) (by decide) (by rfl) (gcn 154 (by decide)).1 (gcn 154 (by decide)).2 rfl (Nat.le_of_ble_eq_true rfl) (by omega) (cM_finds hsz (n := n - 1) (by omega) mi ml 0 (by decide) (by decide)) ?_
        rintro _ _ ⟨rfl, rfl⟩
        refine Go.run hsz hn1 0 (pc' := 31) (lv' := [some (gr 148), some (gi a), some (gi b), none]) (st' := [gi (-1000001)]) (M' := gw (mFd mi 0) ml) rfl ?_
        refine Go.iret (by rfl) ?_
        first | (exact Or.inl ⟨by omega, rfl, rfl⟩) | (exact Or.inr (⟨by omega, rfl, rfl⟩))
      · replace kq4 := b2_pos kq4
        refine Go.run hsz hn1 2 (pc' := 23) (lv' := [some (gr 148), some (gi a), some (gi b), none]) (st' := [gi b, gi a]) (M' := gw mi ml) rfl ?_
        refine Go.icmp_ne (by rfl) r_a r_b (fun kq5 => ?_) (fun kq5 => ?_)
        · refine Go.run hsz hn1 3 (pc' := 36) (lv' := [some (gr 148), some (gi a), some (gi b), none]) (st' := [gi 7, gi a, gr 148]) (M' := gw mi ml) rfl ?_
          refine Go.callV (As := [gi a, gi 7]) (b := 148) (st := []) (mc1 := 0) (mc := 0) (ms1 := 0) (ms := 0) (by rfl) rfl (c := 11) (N := 46) (by rfl) (by decide) (by rfl) (gcn 165 (by decide)).1 (gcn 165 (by decide)).2 rfl (Nat.le_of_ble_eq_true rfl) (by omega) (cM_of hsz (n := n - 1) (by omega) mi ml a 7 (by omega) (by omega) (by omega) (by omega)) ?_
          rintro _ _ ⟨rfl, rfl⟩
          refine Go.run hsz hn1 9 (pc' := 52) (lv' := [some (gr 148), some (gi a), some (gi b), some (gi (mOf mi a 7))]) (st' := [gi b, gi ((12 * a) + 7), gr 152]) (M' := gw mi ml) rfl ?_
          refine Go.iast (by rfl) (N := 288) (by rfl) (by omega) (by omega) (by decide) ?_
          refine Go.run hsz hn1 1 (pc' := 54) (lv' := [some (gr 148), some (gi a), some (gi b), some (gi (mOf mi a 7))]) (st' := [gi (mOf mi a 7)]) (M' := gw (gu mi 152 (((12 * a) + 7).toNat) b) ml) rfl ?_
          refine Go.iret (by rfl) ?_
          first | (exact Or.inl ⟨by omega, rfl, rfl⟩) | (exact Or.inr (⟨by omega, rfl, rfl⟩))
        · refine Go.run hsz hn1 2 (pc' := 28) (lv' := [some (gr 148), some (gi a), some (gi b), none]) (st' := [gi 0, gr 148]) (M' := gw mi ml) rfl ?_
          refine Go.callV (As := [gi 0]) (b := 148) (st := []) (mc1 := 0) (mc := 0) (ms1 := 0) (ms := 0) (by rfl) rfl (c := 11) (N := 46) (by rfl) (by decide) (by rfl) (gcn 154 (by decide)).1 (gcn 154 (by decide)).2 rfl (Nat.le_of_ble_eq_true rfl) (by omega) (cM_finds hsz (n := n - 1) (by omega) mi ml 0 (by decide) (by decide)) ?_
          rintro _ _ ⟨rfl, rfl⟩
          refine Go.run hsz hn1 0 (pc' := 31) (lv' := [some (gr 148), some (gi a), some (gi b), none]) (st' := [gi (-1000001)]) (M' := gw (mFd mi 0) ml) rfl ?_
          refine Go.iret (by rfl) ?_
          first | (exact Or.inl ⟨by omega, rfl, rfl⟩) | (exact Or.inr (⟨by omega, rfl, rfl⟩))
set_option maxRecDepth 100000 in
set_option maxHeartbeats 4000000 in
theorem pM_put {G : gG} (hsz : G.2.2.2.2.2.2 = true) {n : Nat} (hn : 5 ≤ n) (mi : Nat → Nat → Int) (ml : Nat → Nat → Int64) (a p : Int) (r_a : rng a) (r_p : rng p) (hv : SV mi)  : gM G 175 n 0 0 [gr 148, gi a, gi p] (gw mi ml) (fun r M => gE (¬ ((0 ≤ a ∧ a ≤ mi 148 6 - 1) ∧ (0 ≤ p ∧ p ≤ mi 148 2 - 1))) (-1000001) (mFd mi 0) ml r M ∨ gE ((0 ≤ a ∧ a ≤ mi 148 6 - 1) ∧ (0 ≤ p ∧ p ≤ mi 148 2 - 1) ∧ (mOf mi a 6 = -2 ∨ (0 ≤ mOf mi a 6 ∧ mOf mi a 4 ≤ mi 148 0))) (-1000005) (mFd mi 4) ml r M ∨ gE ((0 ≤ a ∧ a ≤ mi 148 6 - 1) ∧ (0 ≤ p ∧ p ≤ mi 148 2 - 1) ∧ ¬ (mOf mi a 6 = -2 ∨ (0 ≤ mOf mi a 6 ∧ mOf mi a 4 ≤ mi 148 0)) ∧ ¬ mWhy mi a p = 0) (-1000003) (mFd mi 2) ml r M ∨ gE ((0 ≤ a ∧ a ≤ mi 148 6 - 1) ∧ (0 ≤ p ∧ p ≤ mi 148 2 - 1) ∧ ¬ (mOf mi a 6 = -2 ∨ (0 ≤ mOf mi a 6 ∧ mOf mi a 4 ≤ mi 148 0)) ∧ mWhy mi a p = 0 ∧ mFree mi a p = 0) (-1000004) (mFd mi 3) ml r M ∨ gE ((0 ≤ a ∧ a ≤ mi 148 6 - 1) ∧ (0 ≤ p ∧ p ≤ mi 148 2 - 1) ∧ ¬ (mOf mi a 6 = -2 ∨ (0 ≤ mOf mi a 6 ∧ mOf mi a 4 ≤ mi 148 0)) ∧ mWhy mi a p = 0 ∧ ¬ mFree mi a p = 0) (mOf mi a 6) (gu mi 152 (12 * a + 6).toNat p) ml r M) := by
  have hn1 : 1 ≤ n := by omega
  obtain ⟨hR, ht, hp, hq, hP, hQ⟩ := id hv
  refine gM.of mX12_put okX12_put (gcp 175 (by decide)).1 (gcp 175 (by decide)).2 (Nat.le_of_ble_eq_true rfl) ?_
  refine Go.run hsz hn1 2 (pc' := 2) (lv' := [some (gr 148), some (gi a), some (gi p), none]) (st' := [gi a, gr 148]) (M' := gw mi ml) rfl ?_
  refine Go.callV (As := [gi a]) (b := 148) (st := []) (mc1 := 0) (mc := 0) (ms1 := 0) (ms := 0) (by rfl) rfl (c := 11) (N := 46) (by rfl) (by decide) (by rfl) (gcn 156 (by decide)).1 (gcn 156 (by decide)).2 rfl (Nat.le_of_ble_eq_true rfl) (by omega) (cM_isParty hsz (n := n - 1) (by omega) mi ml a r_a hq.1 hq.2) ?_
  rintro _ _ ⟨rfl, rfl⟩
  refine Go.run hsz hn1 0 (pc' := 5) (lv' := [some (gr 148), some (gi a), some (gi p), none]) (st' := [gi (b2 (0 ≤ a ∧ a ≤ mi 148 6 - 1))]) (M' := gw mi ml) rfl ?_
  refine Go.if_eq (by rfl) (b2_rng _) (fun kq1 => ?_) (fun kq1 => ?_)
  · replace kq1 := b2_neg kq1
    refine Go.run hsz hn1 2 (pc' := 18) (lv' := [some (gr 148), some (gi a), some (gi p), none]) (st' := [gi 0, gr 148]) (M' := gw mi ml) rfl ?_
    refine Go.callV (As := [gi 0]) (b := 148) (st := []) (mc1 := 0) (mc := 0) (ms1 := 0) (ms := 0) (by rfl) rfl (c := 11) (N := 46) (by rfl) (by decide) (by rfl) (gcn 154 (by decide)).1 (gcn 154 (by decide)).2 rfl (Nat.le_of_ble_eq_true rfl) (by omega) (cM_finds hsz (n := n - 1) (by omega) mi ml 0 (by decide) (by decide)) ?_
    rintro _ _ ⟨rfl, rfl⟩
    refine Go.run hsz hn1 0 (pc' := 21) (lv' := [some (gr 148), some (gi a), some (gi p), none]) (st' := [gi (-1000001)]) (M' := gw (mFd mi 0) ml) rfl ?_
    refine Go.iret (by rfl) ?_
    first | (exact Or.inl ⟨by omega, rfl, rfl⟩) | (exact Or.inr (Or.inl ⟨by omega, rfl, rfl⟩)) | (exact Or.inr (Or.inr (Or.inl ⟨by omega, rfl, rfl⟩))) | (exact Or.inr (Or.inr (Or.inr (Or.inl ⟨by omega, rfl, rfl⟩)))) | (exact Or.inr (Or.inr (Or.inr (Or.inr (⟨by omega, rfl, rfl⟩)))))
  · replace kq1 := b2_pos kq1
    refine Go.run hsz hn1 2 (pc' := 10) (lv' := [some (gr 148), some (gi a), some (gi p), none]) (st' := [gi p, gr 148]) (M' := gw mi ml) rfl ?_
    refine Go.callV (As := [gi p]) (b := 148) (st := []) (mc1 := 0) (mc := 0) (ms1 := 0) (ms := 0) (by rfl) rfl (c := 11) (N := 46) (by rfl) (by decide) (by rfl) (gcn 155 (by decide)).1 (gcn 155 (by decide)).2 rfl (Nat.le_of_ble_eq_true rfl) (by omega) (cM_isPitch hsz (n := n - 1) (by omega) mi ml p r_p hp.1 hp.2) ?_
    rintro _ _ ⟨rfl, rfl⟩
    refine Go.run hsz hn1 0 (pc' := 13) (lv' := [some (gr 148), some (gi a), some (gi p), none]) (st' := [gi (b2 (0 ≤ p ∧ p ≤ mi 148 2 - 1))]) (M' := gw mi ml) rfl ?_
    refine Go.if_ne (by rfl) (b2_rng _) (fun kq2 => ?_) (fun kq2 => ?_)
    · replace kq2 := b2_pos kq2
      refine Go.run hsz hn1 3 (pc' := 26) (lv' := [some (gr 148), some (gi a), some (gi p), none]) (st' := [gi 6, gi a, gr 148]) (M' := gw mi ml) rfl ?_
      refine Go.callV (As := [gi a, gi 6]) (b := 148) (st := []) (mc1 := 0) (mc := 0) (ms1 := 0) (ms := 0) (by rfl) rfl (c := 11) (N := 46) (by rfl) (by decide) (by rfl) (gcn 165 (by decide)).1 (gcn 165 (by decide)).2 rfl (Nat.le_of_ble_eq_true rfl) (by omega) (cM_of hsz (n := n - 1) (by omega) mi ml a 6 (by omega) (by omega) (by omega) (by omega)) ?_
      rintro _ _ ⟨rfl, rfl⟩
      refine Go.run hsz hn1 3 (pc' := 33) (lv' := [some (gr 148), some (gi a), some (gi p), some (gi (mOf mi a 6))]) (st' := [gi (-2), gi (mOf mi a 6)]) (M' := gw mi ml) rfl ?_
      refine Go.icmp_eq (by rfl) (hR _ _) ⟨by decide, by decide⟩ (fun kq3 => ?_) (fun kq3 => ?_)
      · refine Go.run hsz hn1 2 (pc' := 50) (lv' := [some (gr 148), some (gi a), some (gi p), some (gi (mOf mi a 6))]) (st' := [gi 4, gr 148]) (M' := gw mi ml) rfl ?_
        refine Go.callV (As := [gi 4]) (b := 148) (st := []) (mc1 := 0) (mc := 0) (ms1 := 0) (ms := 0) (by rfl) rfl (c := 11) (N := 46) (by rfl) (by decide) (by rfl) (gcn 154 (by decide)).1 (gcn 154 (by decide)).2 rfl (Nat.le_of_ble_eq_true rfl) (by omega) (cM_finds hsz (n := n - 1) (by omega) mi ml 4 (by decide) (by decide)) ?_
        rintro _ _ ⟨rfl, rfl⟩
        refine Go.run hsz hn1 0 (pc' := 53) (lv' := [some (gr 148), some (gi a), some (gi p), some (gi (mOf mi a 6))]) (st' := [gi (-1000005)]) (M' := gw (mFd mi 4) ml) rfl ?_
        refine Go.iret (by rfl) ?_
        first | (exact Or.inl ⟨by omega, rfl, rfl⟩) | (exact Or.inr (Or.inl ⟨by omega, rfl, rfl⟩)) | (exact Or.inr (Or.inr (Or.inl ⟨by omega, rfl, rfl⟩))) | (exact Or.inr (Or.inr (Or.inr (Or.inl ⟨by omega, rfl, rfl⟩)))) | (exact Or.inr (Or.inr (Or.inr (Or.inr (⟨by omega, rfl, rfl⟩)))))
      · refine Go.run hsz hn1 1 (pc' := 37) (lv' := [some (gr 148), some (gi a), some (gi p), some (gi (mOf mi a 6))]) (st' := [gi (mOf mi a 6)]) (M' := gw mi ml) rfl ?_
        refine Go.if_lt (by rfl) (hR _ _) (fun kq4 => ?_) (fun kq4 => ?_)
        · refine Go.run hsz hn1 3 (pc' := 57) (lv' := [some (gr 148), some (gi a), some (gi p), some (gi (mOf mi a 6))]) (st' := [gi p, gi a, gr 148]) (M' := gw mi ml) rfl ?_
          refine Go.callV (As := [gi a, gi p]) (b := 148) (st := []) (mc1 := 0) (mc := 0) (ms1 := 0) (ms := 0) (by rfl) rfl (c := 11) (N := 46) (by rfl) (by decide) (by rfl) (gcn 169 (by decide)).1 (gcn 169 (by decide)).2 rfl (Nat.le_of_ble_eq_true rfl) (by omega) (cM_whyNot hsz (n := n - 1) (by omega) mi ml a p (by omega) (by omega) (by omega) (by omega) hR (hP _ (by omega) (by omega))) ?_
          rintro _ _ ⟨rfl, rfl⟩
          refine Go.run hsz hn1 0 (pc' := 60) (lv' := [some (gr 148), some (gi a), some (gi p), some (gi (mOf mi a 6))]) (st' := [gi (mWhy mi a p)]) (M' := gw mi ml) rfl ?_
          refine Go.if_eq (by rfl) ⟨by have := mWhy_b mi a p; omega, by have := mWhy_b mi a p; omega⟩ (fun kq5 => ?_) (fun kq5 => ?_)
          · refine Go.run hsz hn1 3 (pc' := 72) (lv' := [some (gr 148), some (gi a), some (gi p), some (gi (mOf mi a 6))]) (st' := [gi p, gi a, gr 148]) (M' := gw mi ml) rfl ?_
            refine Go.callV (As := [gi a, gi p]) (b := 148) (st := []) (mc1 := 0) (mc := 0) (ms1 := 0) (ms := 0) (by rfl) rfl (c := 11) (N := 46) (by rfl) (by decide) (by rfl) (gcn 174 (by decide)).1 (gcn 174 (by decide)).2 rfl (Nat.le_of_ble_eq_true rfl) (by omega) (cM_isFreeFor hsz (n := n - 1) (by omega) mi ml a p (by omega) (by omega) r_p hv) ?_
            rintro _ _ ⟨rfl, rfl⟩
            refine Go.run hsz hn1 0 (pc' := 75) (lv' := [some (gr 148), some (gi a), some (gi p), some (gi (mOf mi a 6))]) (st' := [gi (mFree mi a p)]) (M' := gw mi ml) rfl ?_
            refine Go.if_ne (by rfl) (b2_rng _) (fun kq6 => ?_) (fun kq6 => ?_)
            · refine Go.run hsz hn1 8 (pc' := 96) (lv' := [some (gr 148), some (gi a), some (gi p), some (gi (mOf mi a 6))]) (st' := [gi p, gi ((12 * a) + 6), gr 152]) (M' := gw mi ml) rfl ?_
              refine Go.iast (by rfl) (N := 288) (by rfl) (by omega) (by omega) (by decide) ?_
              refine Go.run hsz hn1 1 (pc' := 98) (lv' := [some (gr 148), some (gi a), some (gi p), some (gi (mOf mi a 6))]) (st' := [gi (mOf mi a 6)]) (M' := gw (gu mi 152 (((12 * a) + 6).toNat) p) ml) rfl ?_
              refine Go.iret (by rfl) ?_
              first | (exact Or.inl ⟨by omega, rfl, rfl⟩) | (exact Or.inr (Or.inl ⟨by omega, rfl, rfl⟩)) | (exact Or.inr (Or.inr (Or.inl ⟨by omega, rfl, rfl⟩))) | (exact Or.inr (Or.inr (Or.inr (Or.inl ⟨by omega, rfl, rfl⟩)))) | (exact Or.inr (Or.inr (Or.inr (Or.inr (⟨by omega, rfl, rfl⟩)))))
            · refine Go.run hsz hn1 2 (pc' := 80) (lv' := [some (gr 148), some (gi a), some (gi p), some (gi (mOf mi a 6))]) (st' := [gi 3, gr 148]) (M' := gw mi ml) rfl ?_
              refine Go.callV (As := [gi 3]) (b := 148) (st := []) (mc1 := 0) (mc := 0) (ms1 := 0) (ms := 0) (by rfl) rfl (c := 11) (N := 46) (by rfl) (by decide) (by rfl) (gcn 154 (by decide)).1 (gcn 154 (by decide)).2 rfl (Nat.le_of_ble_eq_true rfl) (by omega) (cM_finds hsz (n := n - 1) (by omega) mi ml 3 (by decide) (by decide)) ?_
              rintro _ _ ⟨rfl, rfl⟩
              refine Go.run hsz hn1 0 (pc' := 83) (lv' := [some (gr 148), some (gi a), some (gi p), some (gi (mOf mi a 6))]) (st' := [gi (-1000004)]) (M' := gw (mFd mi 3) ml) rfl ?_
              refine Go.iret (by rfl) ?_
              first | (exact Or.inl ⟨by omega, rfl, rfl⟩) | (exact Or.inr (Or.inl ⟨by omega, rfl, rfl⟩)) | (exact Or.inr (Or.inr (Or.inl ⟨by omega, rfl, rfl⟩))) | (exact Or.inr (Or.inr (Or.inr (Or.inl ⟨by omega, rfl, rfl⟩)))) | (exact Or.inr (Or.inr (Or.inr (Or.inr (⟨by omega, rfl, rfl⟩)))))
          · refine Go.run hsz hn1 2 (pc' := 65) (lv' := [some (gr 148), some (gi a), some (gi p), some (gi (mOf mi a 6))]) (st' := [gi 2, gr 148]) (M' := gw mi ml) rfl ?_
            refine Go.callV (As := [gi 2]) (b := 148) (st := []) (mc1 := 0) (mc := 0) (ms1 := 0) (ms := 0) (by rfl) rfl (c := 11) (N := 46) (by rfl) (by decide) (by rfl) (gcn 154 (by decide)).1 (gcn 154 (by decide)).2 rfl (Nat.le_of_ble_eq_true rfl) (by omega) (cM_finds hsz (n := n - 1) (by omega) mi ml 2 (by decide) (by decide)) ?_
            rintro _ _ ⟨rfl, rfl⟩
            refine Go.run hsz hn1 0 (pc' := 68) (lv' := [some (gr 148), some (gi a), some (gi p), some (gi (mOf mi a 6))]) (st' := [gi (-1000003)]) (M' := gw (mFd mi 2) ml) rfl ?_
            refine Go.iret (by rfl) ?_
            first | (exact Or.inl ⟨by omega, rfl, rfl⟩) | (exact Or.inr (Or.inl ⟨by omega, rfl, rfl⟩)) | (exact Or.inr (Or.inr (Or.inl ⟨by omega, rfl, rfl⟩))) | (exact Or.inr (Or.inr (Or.inr (Or.inl ⟨by omega, rfl, rfl⟩)))) | (exact Or.inr (Or.inr (Or.inr (Or.inr (⟨by omega, rfl, rfl⟩)))))
        · refine Go.run hsz hn1 2 (pc' := 42) (lv' := [some (gr 148), some (gi a), some (gi p), some (gi (mOf mi a 6))]) (st' := [gi a, gr 148]) (M' := gw mi ml) rfl ?_
          refine Go.callV (As := [gi a]) (b := 148) (st := []) (mc1 := 0) (mc := 0) (ms1 := 0) (ms := 0) (by rfl) rfl (c := 11) (N := 46) (by rfl) (by decide) (by rfl) (gcn 166 (by decide)).1 (gcn 166 (by decide)).2 rfl (Nat.le_of_ble_eq_true rfl) (by omega) (cM_hasCome hsz (n := n - 1) (by omega) mi ml a (by omega) (by omega) hR) ?_
          rintro _ _ ⟨rfl, rfl⟩
          refine Go.run hsz hn1 0 (pc' := 45) (lv' := [some (gr 148), some (gi a), some (gi p), some (gi (mOf mi a 6))]) (st' := [gi (b2 (mOf mi a 4 ≤ mi 148 0))]) (M' := gw mi ml) rfl ?_
          refine Go.if_eq (by rfl) (b2_rng _) (fun kq7 => ?_) (fun kq7 => ?_)
          · replace kq7 := b2_neg kq7
            refine Go.run hsz hn1 3 (pc' := 57) (lv' := [some (gr 148), some (gi a), some (gi p), some (gi (mOf mi a 6))]) (st' := [gi p, gi a, gr 148]) (M' := gw mi ml) rfl ?_
            refine Go.callV (As := [gi a, gi p]) (b := 148) (st := []) (mc1 := 0) (mc := 0) (ms1 := 0) (ms := 0) (by rfl) rfl (c := 11) (N := 46) (by rfl) (by decide) (by rfl) (gcn 169 (by decide)).1 (gcn 169 (by decide)).2 rfl (Nat.le_of_ble_eq_true rfl) (by omega) (cM_whyNot hsz (n := n - 1) (by omega) mi ml a p (by omega) (by omega) (by omega) (by omega) hR (hP _ (by omega) (by omega))) ?_
            rintro _ _ ⟨rfl, rfl⟩
            refine Go.run hsz hn1 0 (pc' := 60) (lv' := [some (gr 148), some (gi a), some (gi p), some (gi (mOf mi a 6))]) (st' := [gi (mWhy mi a p)]) (M' := gw mi ml) rfl ?_
            refine Go.if_eq (by rfl) ⟨by have := mWhy_b mi a p; omega, by have := mWhy_b mi a p; omega⟩ (fun kq8 => ?_) (fun kq8 => ?_)
            · refine Go.run hsz hn1 3 (pc' := 72) (lv' := [some (gr 148), some (gi a), some (gi p), some (gi (mOf mi a 6))]) (st' := [gi p, gi a, gr 148]) (M' := gw mi ml) rfl ?_
              refine Go.callV (As := [gi a, gi p]) (b := 148) (st := []) (mc1 := 0) (mc := 0) (ms1 := 0) (ms := 0) (by rfl) rfl (c := 11) (N := 46) (by rfl) (by decide) (by rfl) (gcn 174 (by decide)).1 (gcn 174 (by decide)).2 rfl (Nat.le_of_ble_eq_true rfl) (by omega) (cM_isFreeFor hsz (n := n - 1) (by omega) mi ml a p (by omega) (by omega) r_p hv) ?_
              rintro _ _ ⟨rfl, rfl⟩
              refine Go.run hsz hn1 0 (pc' := 75) (lv' := [some (gr 148), some (gi a), some (gi p), some (gi (mOf mi a 6))]) (st' := [gi (mFree mi a p)]) (M' := gw mi ml) rfl ?_
              refine Go.if_ne (by rfl) (b2_rng _) (fun kq9 => ?_) (fun kq9 => ?_)
              · refine Go.run hsz hn1 8 (pc' := 96) (lv' := [some (gr 148), some (gi a), some (gi p), some (gi (mOf mi a 6))]) (st' := [gi p, gi ((12 * a) + 6), gr 152]) (M' := gw mi ml) rfl ?_
                refine Go.iast (by rfl) (N := 288) (by rfl) (by omega) (by omega) (by decide) ?_
                refine Go.run hsz hn1 1 (pc' := 98) (lv' := [some (gr 148), some (gi a), some (gi p), some (gi (mOf mi a 6))]) (st' := [gi (mOf mi a 6)]) (M' := gw (gu mi 152 (((12 * a) + 6).toNat) p) ml) rfl ?_
                refine Go.iret (by rfl) ?_
                first | (exact Or.inl ⟨by omega, rfl, rfl⟩) | (exact Or.inr (Or.inl ⟨by omega, rfl, rfl⟩)) | (exact Or.inr (Or.inr (Or.inl ⟨by omega, rfl, rfl⟩))) | (exact Or.inr (Or.inr (Or.inr (Or.inl ⟨by omega, rfl, rfl⟩)))) | (exact Or.inr (Or.inr (Or.inr (Or.inr (⟨by omega, rfl, rfl⟩)))))
              · refine Go.run hsz hn1 2 (pc' := 80) (lv' := [some (gr 148), some (gi a), some (gi p), some (gi (mOf mi a 6))]) (st' := [gi 3, gr 148]) (M' := gw mi ml) rfl ?_
                refine Go.callV (As := [gi 3]) (b := 148) (st := []) (mc1 := 0) (mc := 0) (ms1 := 0) (ms := 0) (by rfl) rfl (c := 11) (N := 46) (by rfl) (by decide) (by rfl) (gcn 154 (by decide)).1 (gcn 154 (by decide)).2 rfl (Nat.le_of_ble_eq_true rfl) (by omega) (cM_finds hsz (n := n - 1) (by omega) mi ml 3 (by decide) (by decide)) ?_
                rintro _ _ ⟨rfl, rfl⟩
                refine Go.run hsz hn1 0 (pc' := 83) (lv' := [some (gr 148), some (gi a), some (gi p), some (gi (mOf mi a 6))]) (st' := [gi (-1000004)]) (M' := gw (mFd mi 3) ml) rfl ?_
                refine Go.iret (by rfl) ?_
                first | (exact Or.inl ⟨by omega, rfl, rfl⟩) | (exact Or.inr (Or.inl ⟨by omega, rfl, rfl⟩)) | (exact Or.inr (Or.inr (Or.inl ⟨by omega, rfl, rfl⟩))) | (exact Or.inr (Or.inr (Or.inr (Or.inl ⟨by omega, rfl, rfl⟩)))) | (exact Or.inr (Or.inr (Or.inr (Or.inr (⟨by omega, rfl, rfl⟩)))))
            · refine Go.run hsz hn1 2 (pc' := 65) (lv' := [some (gr 148), some (gi a), some (gi p), some (gi (mOf mi a 6))]) (st' := [gi 2, gr 148]) (M' := gw mi ml) rfl ?_
              refine Go.callV (As := [gi 2]) (b := 148) (st := []) (mc1 := 0) (mc := 0) (ms1 := 0) (ms := 0) (by rfl) rfl (c := 11) (N := 46) (by rfl) (by decide) (by rfl) (gcn 154 (by decide)).1 (gcn 154 (by decide)).2 rfl (Nat.le_of_ble_eq_true rfl) (by omega) (cM_finds hsz (n := n - 1) (by omega) mi ml 2 (by decide) (by decide)) ?_
              rintro _ _ ⟨rfl, rfl⟩
              refine Go.run hsz hn1 0 (pc' := 68) (lv' := [some (gr 148), some (gi a), some (gi p), some (gi (mOf mi a 6))]) (st' := [gi (-1000003)]) (M' := gw (mFd mi 2) ml) rfl ?_
              refine Go.iret (by rfl) ?_
              first | (exact Or.inl ⟨by omega, rfl, rfl⟩) | (exact Or.inr (Or.inl ⟨by omega, rfl, rfl⟩)) | (exact Or.inr (Or.inr (Or.inl ⟨by omega, rfl, rfl⟩))) | (exact Or.inr (Or.inr (Or.inr (Or.inl ⟨by omega, rfl, rfl⟩)))) | (exact Or.inr (Or.inr (Or.inr (Or.inr (⟨by omega, rfl, rfl⟩)))))
          · replace kq7 := b2_pos kq7
            refine Go.run hsz hn1 2 (pc' := 50) (lv' := [some (gr 148), some (gi a), some (gi p), some (gi (mOf mi a 6))]) (st' := [gi 4, gr 148]) (M' := gw mi ml) rfl ?_
            refine Go.callV (As := [gi 4]) (b := 148) (st := []) (mc1 := 0) (mc := 0) (ms1 := 0) (ms := 0) (by rfl) rfl (c := 11) (N := 46) (by rfl) (by decide) (by rfl) (gcn 154 (by decide)).1 (gcn 154 (by decide)).2 rfl (Nat.le_of_ble_eq_true rfl) (by omega) (cM_finds hsz (n := n - 1) (by omega) mi ml 4 (by decide) (by decide)) ?_
            rintro _ _ ⟨rfl, rfl⟩
            refine Go.run hsz hn1 0 (pc' := 53) (lv' := [some (gr 148), some (gi a), some (gi p), some (gi (mOf mi a 6))]) (st' := [gi (-1000005)]) (M' := gw (mFd mi 4) ml) rfl ?_
            refine Go.iret (by rfl) ?_
            first | (exact Or.inl ⟨by omega, rfl, rfl⟩) | (exact Or.inr (Or.inl ⟨by omega, rfl, rfl⟩)) | (exact Or.inr (Or.inr (Or.inl ⟨by omega, rfl, rfl⟩))) | (exact Or.inr (Or.inr (Or.inr (Or.inl ⟨by omega, rfl, rfl⟩)))) | (exact Or.inr (Or.inr (Or.inr (Or.inr (⟨by omega, rfl, rfl⟩)))))
    · replace kq2 := b2_neg kq2
      refine Go.run hsz hn1 2 (pc' := 18) (lv' := [some (gr 148), some (gi a), some (gi p), none]) (st' := [gi 0, gr 148]) (M' := gw mi ml) rfl ?_
      refine Go.callV (As := [gi 0]) (b := 148) (st := []) (mc1 := 0) (mc := 0) (ms1 := 0) (ms := 0) (by rfl) rfl (c := 11) (N := 46) (by rfl) (by decide) (by rfl) (gcn 154 (by decide)).1 (gcn 154 (by decide)).2 rfl (Nat.le_of_ble_eq_true rfl) (by omega) (cM_finds hsz (n := n - 1) (by omega) mi ml 0 (by decide) (by decide)) ?_
      rintro _ _ ⟨rfl, rfl⟩
      refine Go.run hsz hn1 0 (pc' := 21) (lv' := [some (gr 148), some (gi a), some (gi p), none]) (st' := [gi (-1000001)]) (M' := gw (mFd mi 0) ml) rfl ?_
      refine Go.iret (by rfl) ?_
      first | (exact Or.inl ⟨by omega, rfl, rfl⟩) | (exact Or.inr (Or.inl ⟨by omega, rfl, rfl⟩)) | (exact Or.inr (Or.inr (Or.inl ⟨by omega, rfl, rfl⟩))) | (exact Or.inr (Or.inr (Or.inr (Or.inl ⟨by omega, rfl, rfl⟩)))) | (exact Or.inr (Or.inr (Or.inr (Or.inr (⟨by omega, rfl, rfl⟩)))))
set_option maxRecDepth 100000 in
set_option maxHeartbeats 4000000 in
theorem pM_nights {G : gG} (hsz : G.2.2.2.2.2.2 = true) {n : Nat} (hn : 3 ≤ n) (mi : Nat → Nat → Int) (ml : Nat → Nat → Int64) (x : Int) (r_x : rng x) (hv : SV mi)  : gM G 176 n 0 0 [gr 148, gi x] (gw mi ml) (fun r M => gE (¬ (1 ≤ x ∧ x ≤ 50)) (-1000001) (mFd mi 0) ml r M ∨ gE ((1 ≤ x ∧ x ≤ 50) ∧ 99 < mi 148 0 + x) (-1000005) (mFd mi 4) ml r M ∨ gE ((1 ≤ x ∧ x ≤ 50) ∧ ¬ 99 < mi 148 0 + x) (mi 148 0 + x) (gu mi 148 0 (mi 148 0 + x)) ml r M) := by
  have hn1 : 1 ≤ n := by omega
  obtain ⟨hR, ht, hp, hq, hP, hQ⟩ := id hv
  refine gM.of mX12_nights okX12_nights (gcp 176 (by decide)).1 (gcp 176 (by decide)).2 (Nat.le_of_ble_eq_true rfl) ?_
  refine Go.run hsz hn1 3 (pc' := 4) (lv' := [some (gr 148), some (gi x)]) (st' := [gi 50, gi 1, gi x]) (M' := gw mi ml) rfl ?_
  refine Go.callS (As := [gi x, gi 1, gi 50]) (st := []) (mc1 := 0) (mc := 0) (ms1 := 0) (ms := 0) (by rfl) rfl (gcn 153 (by decide)).1 (gcn 153 (by decide)).2 (Nat.le_of_ble_eq_true rfl) (by omega) (cM_in hsz (n := n - 1) (by omega) mi ml x 1 50 r_x ⟨by decide, by decide⟩ ⟨by decide, by decide⟩) ?_
  rintro _ _ ⟨rfl, rfl⟩
  refine Go.run hsz hn1 0 (pc' := 7) (lv' := [some (gr 148), some (gi x)]) (st' := [gi (b2 (1 ≤ x ∧ x ≤ 50))]) (M' := gw mi ml) rfl ?_
  refine Go.if_ne (by rfl) (b2_rng _) (fun kq1 => ?_) (fun kq1 => ?_)
  · replace kq1 := b2_pos kq1
    refine Go.run hsz hn1 5 (pc' := 24) (lv' := [some (gr 148), some (gi x)]) (st' := [gi 99, gi ((mi 148 0) + x)]) (M' := gw mi ml) rfl ?_
    refine Go.icmp_le (by rfl) ⟨by omega, by omega⟩ ⟨by decide, by decide⟩ (fun kq2 => ?_) (fun kq2 => ?_)
    · refine Go.run hsz hn1 8 (pc' := 47) (lv' := [some (gr 148), some (gi x)]) (st' := [gi ((mi 148 0) + x)]) (M' := gw (gu mi 148 0 ((mi 148 0) + x)) ml) rfl ?_
      refine Go.iret (by rfl) ?_
      first | (exact Or.inl ⟨by omega, rfl, rfl⟩) | (exact Or.inr (Or.inl ⟨by omega, rfl, rfl⟩)) | (exact Or.inr (Or.inr (⟨by omega, rfl, rfl⟩)))
    · refine Go.run hsz hn1 2 (pc' := 29) (lv' := [some (gr 148), some (gi x)]) (st' := [gi 4, gr 148]) (M' := gw mi ml) rfl ?_
      refine Go.callV (As := [gi 4]) (b := 148) (st := []) (mc1 := 0) (mc := 0) (ms1 := 0) (ms := 0) (by rfl) rfl (c := 11) (N := 46) (by rfl) (by decide) (by rfl) (gcn 154 (by decide)).1 (gcn 154 (by decide)).2 rfl (Nat.le_of_ble_eq_true rfl) (by omega) (cM_finds hsz (n := n - 1) (by omega) mi ml 4 (by decide) (by decide)) ?_
      rintro _ _ ⟨rfl, rfl⟩
      refine Go.run hsz hn1 0 (pc' := 32) (lv' := [some (gr 148), some (gi x)]) (st' := [gi (-1000005)]) (M' := gw (mFd mi 4) ml) rfl ?_
      refine Go.iret (by rfl) ?_
      first | (exact Or.inl ⟨by omega, rfl, rfl⟩) | (exact Or.inr (Or.inl ⟨by omega, rfl, rfl⟩)) | (exact Or.inr (Or.inr (⟨by omega, rfl, rfl⟩)))
  · replace kq1 := b2_neg kq1
    refine Go.run hsz hn1 2 (pc' := 12) (lv' := [some (gr 148), some (gi x)]) (st' := [gi 0, gr 148]) (M' := gw mi ml) rfl ?_
    refine Go.callV (As := [gi 0]) (b := 148) (st := []) (mc1 := 0) (mc := 0) (ms1 := 0) (ms := 0) (by rfl) rfl (c := 11) (N := 46) (by rfl) (by decide) (by rfl) (gcn 154 (by decide)).1 (gcn 154 (by decide)).2 rfl (Nat.le_of_ble_eq_true rfl) (by omega) (cM_finds hsz (n := n - 1) (by omega) mi ml 0 (by decide) (by decide)) ?_
    rintro _ _ ⟨rfl, rfl⟩
    refine Go.run hsz hn1 0 (pc' := 15) (lv' := [some (gr 148), some (gi x)]) (st' := [gi (-1000001)]) (M' := gw (mFd mi 0) ml) rfl ?_
    refine Go.iret (by rfl) ?_
    first | (exact Or.inl ⟨by omega, rfl, rfl⟩) | (exact Or.inr (Or.inl ⟨by omega, rfl, rfl⟩)) | (exact Or.inr (Or.inr (⟨by omega, rfl, rfl⟩)))
set_option maxRecDepth 100000 in
set_option maxHeartbeats 4000000 in
theorem pM_who {G : gG} (hsz : G.2.2.2.2.2.2 = true) {n : Nat} (hn : 5 ≤ n) (mi : Nat → Nat → Int) (ml : Nat → Nat → Int64) (p x : Int) (r_p : rng p) (r_x : rng x) (hv : SV mi)  : gM G 178 n 0 0 [gr 148, gi p, gi x] (gw mi ml) (fun r M => gE ((0 ≤ p ∧ p ≤ mi 148 2 - 1) ∧ (0 ≤ x ∧ x ≤ 99)) (mWho mi p x (mi 148 6).toNat) (mi) ml r M ∨ gE (¬ ((0 ≤ p ∧ p ≤ mi 148 2 - 1) ∧ (0 ≤ x ∧ x ≤ 99))) (-1000001) (mFd mi 0) ml r M) := by
  have hn1 : 1 ≤ n := by omega
  obtain ⟨hR, ht, hp, hq, hP, hQ⟩ := id hv
  refine gM.of mX12_who okX12_who (gcp 178 (by decide)).1 (gcp 178 (by decide)).2 (Nat.le_of_ble_eq_true rfl) ?_
  refine Go.run hsz hn1 2 (pc' := 2) (lv' := [some (gr 148), some (gi p), some (gi x)]) (st' := [gi p, gr 148]) (M' := gw mi ml) rfl ?_
  refine Go.callV (As := [gi p]) (b := 148) (st := []) (mc1 := 0) (mc := 0) (ms1 := 0) (ms := 0) (by rfl) rfl (c := 11) (N := 46) (by rfl) (by decide) (by rfl) (gcn 155 (by decide)).1 (gcn 155 (by decide)).2 rfl (Nat.le_of_ble_eq_true rfl) (by omega) (cM_isPitch hsz (n := n - 1) (by omega) mi ml p r_p hp.1 hp.2) ?_
  rintro _ _ ⟨rfl, rfl⟩
  refine Go.run hsz hn1 0 (pc' := 5) (lv' := [some (gr 148), some (gi p), some (gi x)]) (st' := [gi (b2 (0 ≤ p ∧ p ≤ mi 148 2 - 1))]) (M' := gw mi ml) rfl ?_
  refine Go.if_eq (by rfl) (b2_rng _) (fun kq1 => ?_) (fun kq1 => ?_)
  · replace kq1 := b2_neg kq1
    refine Go.run hsz hn1 2 (pc' := 26) (lv' := [some (gr 148), some (gi p), some (gi x)]) (st' := [gi 0, gr 148]) (M' := gw mi ml) rfl ?_
    refine Go.callV (As := [gi 0]) (b := 148) (st := []) (mc1 := 0) (mc := 0) (ms1 := 0) (ms := 0) (by rfl) rfl (c := 11) (N := 46) (by rfl) (by decide) (by rfl) (gcn 154 (by decide)).1 (gcn 154 (by decide)).2 rfl (Nat.le_of_ble_eq_true rfl) (by omega) (cM_finds hsz (n := n - 1) (by omega) mi ml 0 (by decide) (by decide)) ?_
    rintro _ _ ⟨rfl, rfl⟩
    refine Go.run hsz hn1 0 (pc' := 29) (lv' := [some (gr 148), some (gi p), some (gi x)]) (st' := [gi (-1000001)]) (M' := gw (mFd mi 0) ml) rfl ?_
    refine Go.iret (by rfl) ?_
    first | (exact Or.inl ⟨by omega, rfl, rfl⟩) | (exact Or.inr (⟨by omega, rfl, rfl⟩))
  · replace kq1 := b2_pos kq1
    refine Go.run hsz hn1 1 (pc' := 9) (lv' := [some (gr 148), some (gi p), some (gi x)]) (st' := [gi x]) (M' := gw mi ml) rfl ?_
    refine Go.callS (As := [gi x]) (st := []) (mc1 := 0) (mc := 0) (ms1 := 0) (ms := 0) (by rfl) rfl (gcn 157 (by decide)).1 (gcn 157 (by decide)).2 (Nat.le_of_ble_eq_true rfl) (by omega) (cM_isNight hsz (n := n - 1) (by omega) mi ml x r_x) ?_
    rintro _ _ ⟨rfl, rfl⟩
    refine Go.run hsz hn1 0 (pc' := 12) (lv' := [some (gr 148), some (gi p), some (gi x)]) (st' := [gi (b2 (0 ≤ x ∧ x ≤ 99))]) (M' := gw mi ml) rfl ?_
    refine Go.if_eq (by rfl) (b2_rng _) (fun kq2 => ?_) (fun kq2 => ?_)
    · replace kq2 := b2_neg kq2
      refine Go.run hsz hn1 2 (pc' := 26) (lv' := [some (gr 148), some (gi p), some (gi x)]) (st' := [gi 0, gr 148]) (M' := gw mi ml) rfl ?_
      refine Go.callV (As := [gi 0]) (b := 148) (st := []) (mc1 := 0) (mc := 0) (ms1 := 0) (ms := 0) (by rfl) rfl (c := 11) (N := 46) (by rfl) (by decide) (by rfl) (gcn 154 (by decide)).1 (gcn 154 (by decide)).2 rfl (Nat.le_of_ble_eq_true rfl) (by omega) (cM_finds hsz (n := n - 1) (by omega) mi ml 0 (by decide) (by decide)) ?_
      rintro _ _ ⟨rfl, rfl⟩
      refine Go.run hsz hn1 0 (pc' := 29) (lv' := [some (gr 148), some (gi p), some (gi x)]) (st' := [gi (-1000001)]) (M' := gw (mFd mi 0) ml) rfl ?_
      refine Go.iret (by rfl) ?_
      first | (exact Or.inl ⟨by omega, rfl, rfl⟩) | (exact Or.inr (⟨by omega, rfl, rfl⟩))
    · replace kq2 := b2_pos kq2
      refine Go.run hsz hn1 3 (pc' := 18) (lv' := [some (gr 148), some (gi p), some (gi x)]) (st' := [gi x, gi p, gr 148]) (M' := gw mi ml) rfl ?_
      refine Go.callV (As := [gi p, gi x]) (b := 148) (st := []) (mc1 := 0) (mc := 0) (ms1 := 0) (ms := 0) (by rfl) rfl (c := 11) (N := 46) (by rfl) (by decide) (by rfl) (gcn 177 (by decide)).1 (gcn 177 (by decide)).2 rfl (Nat.le_of_ble_eq_true rfl) (by omega) (cM_whoIn hsz (n := n - 1) (by omega) mi ml p x r_p r_x hv) ?_
      rintro _ _ ⟨rfl, rfl⟩
      refine Go.run hsz hn1 1 (pc' := 29) (lv' := [some (gr 148), some (gi p), some (gi x)]) (st' := [gi (mWho mi p x (mi 148 6).toNat)]) (M' := gw mi ml) rfl ?_
      refine Go.iret (by rfl) ?_
      first | (exact Or.inl ⟨by omega, rfl, rfl⟩) | (exact Or.inr (⟨by omega, rfl, rfl⟩))
set_option maxRecDepth 100000 in
set_option maxHeartbeats 4000000 in
theorem pM_apart {G : gG} (hsz : G.2.2.2.2.2.2 = true) {n : Nat} (hn : 5 ≤ n) (mi : Nat → Nat → Int) (ml : Nat → Nat → Int64)  (hv : SV mi)  : gM G 182 n 0 0 [gr 148] (gw mi ml) (fun r M => gE (True) (mApart mi (mi 148 6).toNat) (mi) ml r M) := by
  have hn1 : 1 ≤ n := by omega
  obtain ⟨hR, ht, hp, hq, hP, hQ⟩ := id hv
  refine gM.of mX12_apart okX12_apart (gcp 182 (by decide)).1 (gcp 182 (by decide)).2 (Nat.le_of_ble_eq_true rfl) ?_
  refine Go.run hsz hn1 1 (pc' := 1) (lv' := [some (gr 148)]) (st' := [gr 148]) (M' := gw mi ml) rfl ?_
  refine Go.callV (As := []) (b := 148) (st := []) (mc1 := 0) (mc := 0) (ms1 := 0) (ms := 0) (by rfl) rfl (c := 11) (N := 46) (by rfl) (by decide) (by rfl) (gcn 181 (by decide)).1 (gcn 181 (by decide)).2 rfl (Nat.le_of_ble_eq_true rfl) (by omega) (cM_apartNow hsz (n := n - 1) (by omega) mi ml  hv) ?_
  rintro _ _ ⟨rfl, rfl⟩
  refine Go.run hsz hn1 0 (pc' := 4) (lv' := [some (gr 148)]) (st' := [gi (mApart mi (mi 148 6).toNat)]) (M' := gw mi ml) rfl ?_
  refine Go.iret (by rfl) ?_
  first | (exact ⟨trivial, rfl, rfl⟩)
set_option maxRecDepth 100000 in
set_option maxHeartbeats 4000000 in
theorem pM_wipe {G : gG} (hsz : G.2.2.2.2.2.2 = true) {n : Nat} (hn : 2 ≤ n) (mi : Nat → Nat → Int) (ml : Nat → Nat → Int64)  (hv : SV mi)  : gM G 188 n 0 0 [gr 148] (gw mi ml) (fun r M => gE (True) (mi 148 22) (gu mi 148 22 0) ml r M) := by
  have hn1 : 1 ≤ n := by omega
  obtain ⟨hR, ht, hp, hq, hP, hQ⟩ := id hv
  refine gM.of mX12_wipe okX12_wipe (gcp 188 (by decide)).1 (gcp 188 (by decide)).2 (Nat.le_of_ble_eq_true rfl) ?_
  refine Go.run hsz hn1 7 (pc' := 11) (lv' := [some (gr 148), some (gi (mi 148 22))]) (st' := [gi (mi 148 22)]) (M' := gw (gu mi 148 22 0) ml) rfl ?_
  refine Go.iret (by rfl) ?_
  first | (exact ⟨trivial, rfl, rfl⟩)
set_option maxRecDepth 100000 in
set_option maxHeartbeats 4000000 in
theorem pM_dry {G : gG} (hsz : G.2.2.2.2.2.2 = true) {n : Nat} (hn : 2 ≤ n) (mi : Nat → Nat → Int) (ml : Nat → Nat → Int64)  (hv : SV mi)  : gM G 233 n 0 0 [gr 148] (gw mi ml) (fun r M => gE (True) (mi 148 9) (gu mi 148 9 0) ml r M) := by
  have hn1 : 1 ≤ n := by omega
  obtain ⟨hR, ht, hp, hq, hP, hQ⟩ := id hv
  refine gM.of mX12_dry okX12_dry (gcp 233 (by decide)).1 (gcp 233 (by decide)).2 (Nat.le_of_ble_eq_true rfl) ?_
  refine Go.run hsz hn1 7 (pc' := 11) (lv' := [some (gr 148), some (gi (mi 148 9))]) (st' := [gi (mi 148 9)]) (M' := gw (gu mi 148 9 0) ml) rfl ?_
  refine Go.iret (by rfl) ?_
  first | (exact ⟨trivial, rfl, rfl⟩)
set_option maxRecDepth 100000 in
set_option maxHeartbeats 4000000 in
theorem pM_limit {G : gG} (hsz : G.2.2.2.2.2.2 = true) {n : Nat} (hn : 4 ≤ n) (mi : Nat → Nat → Int) (ml : Nat → Nat → Int64) (post v : Int) (r_post : rng post) (r_v : rng v) (hv : SV mi)  : gM G 220 n 0 0 [gr 148, gi post, gi v] (gw mi ml) (fun r M => gE ((0 ≤ post ∧ post ≤ 3) ∧ (0 ≤ v ∧ v ≤ 200)) (mi 153 post.toNat) (gu mi 153 post.toNat v) ml r M ∨ gE (¬ ((0 ≤ post ∧ post ≤ 3) ∧ (0 ≤ v ∧ v ≤ 200))) (-1000001) (mFd mi 0) ml r M) := by
  have hn1 : 1 ≤ n := by omega
  obtain ⟨hR, ht, hp, hq, hP, hQ⟩ := id hv
  refine gM.of mX12_limit okX12_limit (gcp 220 (by decide)).1 (gcp 220 (by decide)).2 (Nat.le_of_ble_eq_true rfl) ?_
  refine Go.run hsz hn1 1 (pc' := 1) (lv' := [some (gr 148), some (gi post), some (gi v), none]) (st' := [gi post]) (M' := gw mi ml) rfl ?_
  refine Go.callS (As := [gi post]) (st := []) (mc1 := 0) (mc := 0) (ms1 := 0) (ms := 0) (by rfl) rfl (gcn 219 (by decide)).1 (gcn 219 (by decide)).2 (Nat.le_of_ble_eq_true rfl) (by omega) (cM_isPost hsz (n := n - 1) (by omega) mi ml post r_post) ?_
  rintro _ _ ⟨rfl, rfl⟩
  refine Go.run hsz hn1 0 (pc' := 4) (lv' := [some (gr 148), some (gi post), some (gi v), none]) (st' := [gi (b2 (0 ≤ post ∧ post ≤ 3))]) (M' := gw mi ml) rfl ?_
  refine Go.if_eq (by rfl) (b2_rng _) (fun kq1 => ?_) (fun kq1 => ?_)
  · replace kq1 := b2_neg kq1
    refine Go.run hsz hn1 2 (pc' := 20) (lv' := [some (gr 148), some (gi post), some (gi v), none]) (st' := [gi 0, gr 148]) (M' := gw mi ml) rfl ?_
    refine Go.callV (As := [gi 0]) (b := 148) (st := []) (mc1 := 0) (mc := 0) (ms1 := 0) (ms := 0) (by rfl) rfl (c := 11) (N := 46) (by rfl) (by decide) (by rfl) (gcn 154 (by decide)).1 (gcn 154 (by decide)).2 rfl (Nat.le_of_ble_eq_true rfl) (by omega) (cM_finds hsz (n := n - 1) (by omega) mi ml 0 (by decide) (by decide)) ?_
    rintro _ _ ⟨rfl, rfl⟩
    refine Go.run hsz hn1 0 (pc' := 23) (lv' := [some (gr 148), some (gi post), some (gi v), none]) (st' := [gi (-1000001)]) (M' := gw (mFd mi 0) ml) rfl ?_
    refine Go.iret (by rfl) ?_
    first | (exact Or.inl ⟨by omega, rfl, rfl⟩) | (exact Or.inr (⟨by omega, rfl, rfl⟩))
  · replace kq1 := b2_pos kq1
    refine Go.run hsz hn1 3 (pc' := 12) (lv' := [some (gr 148), some (gi post), some (gi v), none]) (st' := [gi 200, gi 0, gi v]) (M' := gw mi ml) rfl ?_
    refine Go.callS (As := [gi v, gi 0, gi 200]) (st := []) (mc1 := 0) (mc := 0) (ms1 := 0) (ms := 0) (by rfl) rfl (gcn 153 (by decide)).1 (gcn 153 (by decide)).2 (Nat.le_of_ble_eq_true rfl) (by omega) (cM_in hsz (n := n - 1) (by omega) mi ml v 0 200 r_v ⟨by decide, by decide⟩ ⟨by decide, by decide⟩) ?_
    rintro _ _ ⟨rfl, rfl⟩
    refine Go.run hsz hn1 0 (pc' := 15) (lv' := [some (gr 148), some (gi post), some (gi v), none]) (st' := [gi (b2 (0 ≤ v ∧ v ≤ 200))]) (M' := gw mi ml) rfl ?_
    refine Go.if_ne (by rfl) (b2_rng _) (fun kq2 => ?_) (fun kq2 => ?_)
    · replace kq2 := b2_pos kq2
      refine Go.run hsz hn1 3 (pc' := 29) (lv' := [some (gr 148), some (gi post), some (gi v), none]) (st' := [gi post, gr 153]) (M' := gw mi ml) rfl ?_
      refine Go.iald (by rfl) (N := 4) (by rfl) (by omega) (by omega) (by decide) ?_
      refine Go.run hsz hn1 5 (pc' := 37) (lv' := [some (gr 148), some (gi post), some (gi v), some (gi (mi 153 post.toNat))]) (st' := [gi v, gi post, gr 153]) (M' := gw mi ml) rfl ?_
      refine Go.iast (by rfl) (N := 4) (by rfl) (by omega) (by omega) (by decide) ?_
      refine Go.run hsz hn1 1 (pc' := 39) (lv' := [some (gr 148), some (gi post), some (gi v), some (gi (mi 153 post.toNat))]) (st' := [gi (mi 153 post.toNat)]) (M' := gw (gu mi 153 post.toNat v) ml) rfl ?_
      refine Go.iret (by rfl) ?_
      first | (exact Or.inl ⟨by omega, rfl, rfl⟩) | (exact Or.inr (⟨by omega, rfl, rfl⟩))
    · replace kq2 := b2_neg kq2
      refine Go.run hsz hn1 2 (pc' := 20) (lv' := [some (gr 148), some (gi post), some (gi v), none]) (st' := [gi 0, gr 148]) (M' := gw mi ml) rfl ?_
      refine Go.callV (As := [gi 0]) (b := 148) (st := []) (mc1 := 0) (mc := 0) (ms1 := 0) (ms := 0) (by rfl) rfl (c := 11) (N := 46) (by rfl) (by decide) (by rfl) (gcn 154 (by decide)).1 (gcn 154 (by decide)).2 rfl (Nat.le_of_ble_eq_true rfl) (by omega) (cM_finds hsz (n := n - 1) (by omega) mi ml 0 (by decide) (by decide)) ?_
      rintro _ _ ⟨rfl, rfl⟩
      refine Go.run hsz hn1 0 (pc' := 23) (lv' := [some (gr 148), some (gi post), some (gi v), none]) (st' := [gi (-1000001)]) (M' := gw (mFd mi 0) ml) rfl ?_
      refine Go.iret (by rfl) ?_
      first | (exact Or.inl ⟨by omega, rfl, rfl⟩) | (exact Or.inr (⟨by omega, rfl, rfl⟩))
set_option maxRecDepth 100000 in
set_option maxHeartbeats 4000000 in
theorem pM_load {G : gG} (hsz : G.2.2.2.2.2.2 = true) {n : Nat} (hn : 6 ≤ n) (mi : Nat → Nat → Int) (ml : Nat → Nat → Int64) (post x : Int) (r_post : rng post) (r_x : rng x) (hv : SV mi)  : gM G 224 n 0 0 [gr 148, gi post, gi x] (gw mi ml) (fun r M => gE ((0 ≤ post ∧ post ≤ 3) ∧ (0 ≤ x ∧ x ≤ 23)) (mLoad mi post x (mi 148 6).toNat) (mi) ml r M ∨ gE (¬ ((0 ≤ post ∧ post ≤ 3) ∧ (0 ≤ x ∧ x ≤ 23))) (-1000001) (mFd mi 0) ml r M) := by
  have hn1 : 1 ≤ n := by omega
  obtain ⟨hR, ht, hp, hq, hP, hQ⟩ := id hv
  refine gM.of mX12_load okX12_load (gcp 224 (by decide)).1 (gcp 224 (by decide)).2 (Nat.le_of_ble_eq_true rfl) ?_
  refine Go.run hsz hn1 1 (pc' := 1) (lv' := [some (gr 148), some (gi post), some (gi x)]) (st' := [gi post]) (M' := gw mi ml) rfl ?_
  refine Go.callS (As := [gi post]) (st := []) (mc1 := 0) (mc := 0) (ms1 := 0) (ms := 0) (by rfl) rfl (gcn 219 (by decide)).1 (gcn 219 (by decide)).2 (Nat.le_of_ble_eq_true rfl) (by omega) (cM_isPost hsz (n := n - 1) (by omega) mi ml post r_post) ?_
  rintro _ _ ⟨rfl, rfl⟩
  refine Go.run hsz hn1 0 (pc' := 4) (lv' := [some (gr 148), some (gi post), some (gi x)]) (st' := [gi (b2 (0 ≤ post ∧ post ≤ 3))]) (M' := gw mi ml) rfl ?_
  refine Go.if_eq (by rfl) (b2_rng _) (fun kq1 => ?_) (fun kq1 => ?_)
  · replace kq1 := b2_neg kq1
    refine Go.run hsz hn1 2 (pc' := 28) (lv' := [some (gr 148), some (gi post), some (gi x)]) (st' := [gi 0, gr 148]) (M' := gw mi ml) rfl ?_
    refine Go.callV (As := [gi 0]) (b := 148) (st := []) (mc1 := 0) (mc := 0) (ms1 := 0) (ms := 0) (by rfl) rfl (c := 11) (N := 46) (by rfl) (by decide) (by rfl) (gcn 154 (by decide)).1 (gcn 154 (by decide)).2 rfl (Nat.le_of_ble_eq_true rfl) (by omega) (cM_finds hsz (n := n - 1) (by omega) mi ml 0 (by decide) (by decide)) ?_
    rintro _ _ ⟨rfl, rfl⟩
    refine Go.run hsz hn1 0 (pc' := 31) (lv' := [some (gr 148), some (gi post), some (gi x)]) (st' := [gi (-1000001)]) (M' := gw (mFd mi 0) ml) rfl ?_
    refine Go.iret (by rfl) ?_
    first | (exact Or.inl ⟨by omega, rfl, rfl⟩) | (exact Or.inr (⟨by omega, rfl, rfl⟩))
  · replace kq1 := b2_pos kq1
    refine Go.run hsz hn1 3 (pc' := 11) (lv' := [some (gr 148), some (gi post), some (gi x)]) (st' := [gi 23, gi 0, gi x]) (M' := gw mi ml) rfl ?_
    refine Go.callS (As := [gi x, gi 0, gi 23]) (st := []) (mc1 := 0) (mc := 0) (ms1 := 0) (ms := 0) (by rfl) rfl (gcn 153 (by decide)).1 (gcn 153 (by decide)).2 (Nat.le_of_ble_eq_true rfl) (by omega) (cM_in hsz (n := n - 1) (by omega) mi ml x 0 23 r_x ⟨by decide, by decide⟩ ⟨by decide, by decide⟩) ?_
    rintro _ _ ⟨rfl, rfl⟩
    refine Go.run hsz hn1 0 (pc' := 14) (lv' := [some (gr 148), some (gi post), some (gi x)]) (st' := [gi (b2 (0 ≤ x ∧ x ≤ 23))]) (M' := gw mi ml) rfl ?_
    refine Go.if_eq (by rfl) (b2_rng _) (fun kq2 => ?_) (fun kq2 => ?_)
    · replace kq2 := b2_neg kq2
      refine Go.run hsz hn1 2 (pc' := 28) (lv' := [some (gr 148), some (gi post), some (gi x)]) (st' := [gi 0, gr 148]) (M' := gw mi ml) rfl ?_
      refine Go.callV (As := [gi 0]) (b := 148) (st := []) (mc1 := 0) (mc := 0) (ms1 := 0) (ms := 0) (by rfl) rfl (c := 11) (N := 46) (by rfl) (by decide) (by rfl) (gcn 154 (by decide)).1 (gcn 154 (by decide)).2 rfl (Nat.le_of_ble_eq_true rfl) (by omega) (cM_finds hsz (n := n - 1) (by omega) mi ml 0 (by decide) (by decide)) ?_
      rintro _ _ ⟨rfl, rfl⟩
      refine Go.run hsz hn1 0 (pc' := 31) (lv' := [some (gr 148), some (gi post), some (gi x)]) (st' := [gi (-1000001)]) (M' := gw (mFd mi 0) ml) rfl ?_
      refine Go.iret (by rfl) ?_
      first | (exact Or.inl ⟨by omega, rfl, rfl⟩) | (exact Or.inr (⟨by omega, rfl, rfl⟩))
    · replace kq2 := b2_pos kq2
      refine Go.run hsz hn1 3 (pc' := 20) (lv' := [some (gr 148), some (gi post), some (gi x)]) (st' := [gi x, gi post, gr 148]) (M' := gw mi ml) rfl ?_
      refine Go.callV (As := [gi post, gi x]) (b := 148) (st := []) (mc1 := 0) (mc := 0) (ms1 := 0) (ms := 0) (by rfl) rfl (c := 11) (N := 46) (by rfl) (by decide) (by rfl) (gcn 223 (by decide)).1 (gcn 223 (by decide)).2 rfl (Nat.le_of_ble_eq_true rfl) (by omega) (cM_loadOf hsz (n := n - 1) (by omega) mi ml post x r_post hv) ?_
      rintro _ _ ⟨rfl, rfl⟩
      refine Go.run hsz hn1 1 (pc' := 31) (lv' := [some (gr 148), some (gi post), some (gi x)]) (st' := [gi (mLoad mi post x (mi 148 6).toNat)]) (M' := gw mi ml) rfl ?_
      refine Go.iret (by rfl) ?_
      first | (exact Or.inl ⟨by omega, rfl, rfl⟩) | (exact Or.inr (⟨by omega, rfl, rfl⟩))
set_option maxRecDepth 100000 in
set_option maxHeartbeats 4000000 in
theorem pM_use {G : gG} (hsz : G.2.2.2.2.2.2 = true) {n : Nat} (hn : 4 ≤ n) (mi : Nat → Nat → Int) (ml : Nat → Nat → Int64) (a x v : Int) (r_a : rng a) (r_x : rng x) (r_v : rng v) (hv : SV mi)  : gM G 218 n 0 0 [gr 148, gi a, gi x, gi v] (gw mi ml) (fun r M => gE ((0 ≤ a ∧ a ≤ mi 148 6 - 1) ∧ (0 ≤ x ∧ x ≤ 16777215) ∧ (0 ≤ v ∧ v ≤ 40)) (1) (gu (gu mi 152 (12 * a + 9).toNat x) 152 (12 * a + 10).toNat v) ml r M ∨ gE (¬ ((0 ≤ a ∧ a ≤ mi 148 6 - 1) ∧ (0 ≤ x ∧ x ≤ 16777215) ∧ (0 ≤ v ∧ v ≤ 40))) (-1000001) (mFd mi 0) ml r M) := by
  have hn1 : 1 ≤ n := by omega
  obtain ⟨hR, ht, hp, hq, hP, hQ⟩ := id hv
  refine gM.of mX12_use okX12_use (gcp 218 (by decide)).1 (gcp 218 (by decide)).2 (Nat.le_of_ble_eq_true rfl) ?_
  refine Go.run hsz hn1 2 (pc' := 2) (lv' := [some (gr 148), some (gi a), some (gi x), some (gi v)]) (st' := [gi a, gr 148]) (M' := gw mi ml) rfl ?_
  refine Go.callV (As := [gi a]) (b := 148) (st := []) (mc1 := 0) (mc := 0) (ms1 := 0) (ms := 0) (by rfl) rfl (c := 11) (N := 46) (by rfl) (by decide) (by rfl) (gcn 156 (by decide)).1 (gcn 156 (by decide)).2 rfl (Nat.le_of_ble_eq_true rfl) (by omega) (cM_isParty hsz (n := n - 1) (by omega) mi ml a r_a hq.1 hq.2) ?_
  rintro _ _ ⟨rfl, rfl⟩
  refine Go.run hsz hn1 0 (pc' := 5) (lv' := [some (gr 148), some (gi a), some (gi x), some (gi v)]) (st' := [gi (b2 (0 ≤ a ∧ a ≤ mi 148 6 - 1))]) (M' := gw mi ml) rfl ?_
  refine Go.if_eq (by rfl) (b2_rng _) (fun kq1 => ?_) (fun kq1 => ?_)
  · replace kq1 := b2_neg kq1
    refine Go.run hsz hn1 2 (pc' := 31) (lv' := [some (gr 148), some (gi a), some (gi x), some (gi v)]) (st' := [gi 0, gr 148]) (M' := gw mi ml) rfl ?_
    refine Go.callV (As := [gi 0]) (b := 148) (st := []) (mc1 := 0) (mc := 0) (ms1 := 0) (ms := 0) (by rfl) rfl (c := 11) (N := 46) (by rfl) (by decide) (by rfl) (gcn 154 (by decide)).1 (gcn 154 (by decide)).2 rfl (Nat.le_of_ble_eq_true rfl) (by omega) (cM_finds hsz (n := n - 1) (by omega) mi ml 0 (by decide) (by decide)) ?_
    rintro _ _ ⟨rfl, rfl⟩
    refine Go.run hsz hn1 0 (pc' := 34) (lv' := [some (gr 148), some (gi a), some (gi x), some (gi v)]) (st' := [gi (-1000001)]) (M' := gw (mFd mi 0) ml) rfl ?_
    refine Go.iret (by rfl) ?_
    first | (exact Or.inl ⟨by omega, rfl, rfl⟩) | (exact Or.inr (⟨by omega, rfl, rfl⟩))
  · replace kq1 := b2_pos kq1
    refine Go.run hsz hn1 3 (pc' := 13) (lv' := [some (gr 148), some (gi a), some (gi x), some (gi v)]) (st' := [gi 16777215, gi 0, gi x]) (M' := gw mi ml) rfl ?_
    refine Go.callS (As := [gi x, gi 0, gi 16777215]) (st := []) (mc1 := 0) (mc := 0) (ms1 := 0) (ms := 0) (by rfl) rfl (gcn 153 (by decide)).1 (gcn 153 (by decide)).2 (Nat.le_of_ble_eq_true rfl) (by omega) (cM_in hsz (n := n - 1) (by omega) mi ml x 0 16777215 r_x ⟨by decide, by decide⟩ ⟨by decide, by decide⟩) ?_
    rintro _ _ ⟨rfl, rfl⟩
    refine Go.run hsz hn1 0 (pc' := 16) (lv' := [some (gr 148), some (gi a), some (gi x), some (gi v)]) (st' := [gi (b2 (0 ≤ x ∧ x ≤ 16777215))]) (M' := gw mi ml) rfl ?_
    refine Go.if_eq (by rfl) (b2_rng _) (fun kq2 => ?_) (fun kq2 => ?_)
    · replace kq2 := b2_neg kq2
      refine Go.run hsz hn1 2 (pc' := 31) (lv' := [some (gr 148), some (gi a), some (gi x), some (gi v)]) (st' := [gi 0, gr 148]) (M' := gw mi ml) rfl ?_
      refine Go.callV (As := [gi 0]) (b := 148) (st := []) (mc1 := 0) (mc := 0) (ms1 := 0) (ms := 0) (by rfl) rfl (c := 11) (N := 46) (by rfl) (by decide) (by rfl) (gcn 154 (by decide)).1 (gcn 154 (by decide)).2 rfl (Nat.le_of_ble_eq_true rfl) (by omega) (cM_finds hsz (n := n - 1) (by omega) mi ml 0 (by decide) (by decide)) ?_
      rintro _ _ ⟨rfl, rfl⟩
      refine Go.run hsz hn1 0 (pc' := 34) (lv' := [some (gr 148), some (gi a), some (gi x), some (gi v)]) (st' := [gi (-1000001)]) (M' := gw (mFd mi 0) ml) rfl ?_
      refine Go.iret (by rfl) ?_
      first | (exact Or.inl ⟨by omega, rfl, rfl⟩) | (exact Or.inr (⟨by omega, rfl, rfl⟩))
    · replace kq2 := b2_pos kq2
      refine Go.run hsz hn1 3 (pc' := 23) (lv' := [some (gr 148), some (gi a), some (gi x), some (gi v)]) (st' := [gi 40, gi 0, gi v]) (M' := gw mi ml) rfl ?_
      refine Go.callS (As := [gi v, gi 0, gi 40]) (st := []) (mc1 := 0) (mc := 0) (ms1 := 0) (ms := 0) (by rfl) rfl (gcn 153 (by decide)).1 (gcn 153 (by decide)).2 (Nat.le_of_ble_eq_true rfl) (by omega) (cM_in hsz (n := n - 1) (by omega) mi ml v 0 40 r_v ⟨by decide, by decide⟩ ⟨by decide, by decide⟩) ?_
      rintro _ _ ⟨rfl, rfl⟩
      refine Go.run hsz hn1 0 (pc' := 26) (lv' := [some (gr 148), some (gi a), some (gi x), some (gi v)]) (st' := [gi (b2 (0 ≤ v ∧ v ≤ 40))]) (M' := gw mi ml) rfl ?_
      refine Go.if_ne (by rfl) (b2_rng _) (fun kq3 => ?_) (fun kq3 => ?_)
      · replace kq3 := b2_pos kq3
        refine Go.run hsz hn1 8 (pc' := 47) (lv' := [some (gr 148), some (gi a), some (gi x), some (gi v)]) (st' := [gi x, gi ((12 * a) + 9), gr 152]) (M' := gw mi ml) rfl ?_
        refine Go.iast (by rfl) (N := 288) (by rfl) (by omega) (by omega) (by decide) ?_
        refine Go.run hsz hn1 8 (pc' := 60) (lv' := [some (gr 148), some (gi a), some (gi x), some (gi v)]) (st' := [gi v, gi ((12 * a) + 10), gr 152]) (M' := gw (gu mi 152 (((12 * a) + 9).toNat) x) ml) rfl ?_
        refine Go.iast (by rfl) (N := 288) (by rfl) (by omega) (by omega) (by decide) ?_
        refine Go.run hsz hn1 1 (pc' := 62) (lv' := [some (gr 148), some (gi a), some (gi x), some (gi v)]) (st' := [gi 1]) (M' := gw (gu (gu mi 152 (((12 * a) + 9).toNat) x) 152 (((12 * a) + 10).toNat) v) ml) rfl ?_
        refine Go.iret (by rfl) ?_
        first | (exact Or.inl ⟨by omega, rfl, rfl⟩) | (exact Or.inr (⟨by omega, rfl, rfl⟩))
      · replace kq3 := b2_neg kq3
        refine Go.run hsz hn1 2 (pc' := 31) (lv' := [some (gr 148), some (gi a), some (gi x), some (gi v)]) (st' := [gi 0, gr 148]) (M' := gw mi ml) rfl ?_
        refine Go.callV (As := [gi 0]) (b := 148) (st := []) (mc1 := 0) (mc := 0) (ms1 := 0) (ms := 0) (by rfl) rfl (c := 11) (N := 46) (by rfl) (by decide) (by rfl) (gcn 154 (by decide)).1 (gcn 154 (by decide)).2 rfl (Nat.le_of_ble_eq_true rfl) (by omega) (cM_finds hsz (n := n - 1) (by omega) mi ml 0 (by decide) (by decide)) ?_
        rintro _ _ ⟨rfl, rfl⟩
        refine Go.run hsz hn1 0 (pc' := 34) (lv' := [some (gr 148), some (gi a), some (gi x), some (gi v)]) (st' := [gi (-1000001)]) (M' := gw (mFd mi 0) ml) rfl ?_
        refine Go.iret (by rfl) ?_
        first | (exact Or.inl ⟨by omega, rfl, rfl⟩) | (exact Or.inr (⟨by omega, rfl, rfl⟩))
set_option maxRecDepth 100000 in
set_option maxHeartbeats 4000000 in
theorem pM_hold {G : gG} (hsz : G.2.2.2.2.2.2 = true) {n : Nat} (hn : 4 ≤ n) (mi : Nat → Nat → Int) (ml : Nat → Nat → Int64) (x a : Int) (r_x : rng x) (r_a : rng a) (hv : SV mi)  : gM G 235 n 0 0 [gr 148, gi x, gi a] (gw mi ml) (fun r M => gE ((0 ≤ x ∧ x ≤ 9) ∧ (a = -1 ∨ (0 ≤ a ∧ a ≤ mi 148 6 - 1))) (1) (gu mi 156 x.toNat a) ml r M ∨ gE (¬ ((0 ≤ x ∧ x ≤ 9) ∧ (a = -1 ∨ (0 ≤ a ∧ a ≤ mi 148 6 - 1)))) (-1000001) (mFd mi 0) ml r M) := by
  have hn1 : 1 ≤ n := by omega
  obtain ⟨hR, ht, hp, hq, hP, hQ⟩ := id hv
  refine gM.of mX12_hold okX12_hold (gcp 235 (by decide)).1 (gcp 235 (by decide)).2 (Nat.le_of_ble_eq_true rfl) ?_
  refine Go.run hsz hn1 3 (pc' := 4) (lv' := [some (gr 148), some (gi x), some (gi a)]) (st' := [gi 9, gi 0, gi x]) (M' := gw mi ml) rfl ?_
  refine Go.callS (As := [gi x, gi 0, gi 9]) (st := []) (mc1 := 0) (mc := 0) (ms1 := 0) (ms := 0) (by rfl) rfl (gcn 153 (by decide)).1 (gcn 153 (by decide)).2 (Nat.le_of_ble_eq_true rfl) (by omega) (cM_in hsz (n := n - 1) (by omega) mi ml x 0 9 r_x ⟨by decide, by decide⟩ ⟨by decide, by decide⟩) ?_
  rintro _ _ ⟨rfl, rfl⟩
  refine Go.run hsz hn1 0 (pc' := 7) (lv' := [some (gr 148), some (gi x), some (gi a)]) (st' := [gi (b2 (0 ≤ x ∧ x ≤ 9))]) (M' := gw mi ml) rfl ?_
  refine Go.if_eq (by rfl) (b2_rng _) (fun kq1 => ?_) (fun kq1 => ?_)
  · replace kq1 := b2_neg kq1
    refine Go.run hsz hn1 2 (pc' := 25) (lv' := [some (gr 148), some (gi x), some (gi a)]) (st' := [gi 0, gr 148]) (M' := gw mi ml) rfl ?_
    refine Go.callV (As := [gi 0]) (b := 148) (st := []) (mc1 := 0) (mc := 0) (ms1 := 0) (ms := 0) (by rfl) rfl (c := 11) (N := 46) (by rfl) (by decide) (by rfl) (gcn 154 (by decide)).1 (gcn 154 (by decide)).2 rfl (Nat.le_of_ble_eq_true rfl) (by omega) (cM_finds hsz (n := n - 1) (by omega) mi ml 0 (by decide) (by decide)) ?_
    rintro _ _ ⟨rfl, rfl⟩
    refine Go.run hsz hn1 0 (pc' := 28) (lv' := [some (gr 148), some (gi x), some (gi a)]) (st' := [gi (-1000001)]) (M' := gw (mFd mi 0) ml) rfl ?_
    refine Go.iret (by rfl) ?_
    first | (exact Or.inl ⟨by omega, rfl, rfl⟩) | (exact Or.inr (⟨by omega, rfl, rfl⟩))
  · replace kq1 := b2_pos kq1
    refine Go.run hsz hn1 2 (pc' := 12) (lv' := [some (gr 148), some (gi x), some (gi a)]) (st' := [gi (-1), gi a]) (M' := gw mi ml) rfl ?_
    refine Go.icmp_eq (by rfl) r_a ⟨by decide, by decide⟩ (fun kq2 => ?_) (fun kq2 => ?_)
    · refine Go.run hsz hn1 4 (pc' := 35) (lv' := [some (gr 148), some (gi x), some (gi a)]) (st' := [gi a, gi x, gr 156]) (M' := gw mi ml) rfl ?_
      refine Go.iast (by rfl) (N := 10) (by rfl) (by omega) (by omega) (by decide) ?_
      refine Go.run hsz hn1 1 (pc' := 37) (lv' := [some (gr 148), some (gi x), some (gi a)]) (st' := [gi 1]) (M' := gw (gu mi 156 x.toNat a) ml) rfl ?_
      refine Go.iret (by rfl) ?_
      first | (exact Or.inl ⟨by omega, rfl, rfl⟩) | (exact Or.inr (⟨by omega, rfl, rfl⟩))
    · refine Go.run hsz hn1 2 (pc' := 17) (lv' := [some (gr 148), some (gi x), some (gi a)]) (st' := [gi a, gr 148]) (M' := gw mi ml) rfl ?_
      refine Go.callV (As := [gi a]) (b := 148) (st := []) (mc1 := 0) (mc := 0) (ms1 := 0) (ms := 0) (by rfl) rfl (c := 11) (N := 46) (by rfl) (by decide) (by rfl) (gcn 156 (by decide)).1 (gcn 156 (by decide)).2 rfl (Nat.le_of_ble_eq_true rfl) (by omega) (cM_isParty hsz (n := n - 1) (by omega) mi ml a r_a hq.1 hq.2) ?_
      rintro _ _ ⟨rfl, rfl⟩
      refine Go.run hsz hn1 0 (pc' := 20) (lv' := [some (gr 148), some (gi x), some (gi a)]) (st' := [gi (b2 (0 ≤ a ∧ a ≤ mi 148 6 - 1))]) (M' := gw mi ml) rfl ?_
      refine Go.if_ne (by rfl) (b2_rng _) (fun kq3 => ?_) (fun kq3 => ?_)
      · replace kq3 := b2_pos kq3
        refine Go.run hsz hn1 4 (pc' := 35) (lv' := [some (gr 148), some (gi x), some (gi a)]) (st' := [gi a, gi x, gr 156]) (M' := gw mi ml) rfl ?_
        refine Go.iast (by rfl) (N := 10) (by rfl) (by omega) (by omega) (by decide) ?_
        refine Go.run hsz hn1 1 (pc' := 37) (lv' := [some (gr 148), some (gi x), some (gi a)]) (st' := [gi 1]) (M' := gw (gu mi 156 x.toNat a) ml) rfl ?_
        refine Go.iret (by rfl) ?_
        first | (exact Or.inl ⟨by omega, rfl, rfl⟩) | (exact Or.inr (⟨by omega, rfl, rfl⟩))
      · replace kq3 := b2_neg kq3
        refine Go.run hsz hn1 2 (pc' := 25) (lv' := [some (gr 148), some (gi x), some (gi a)]) (st' := [gi 0, gr 148]) (M' := gw mi ml) rfl ?_
        refine Go.callV (As := [gi 0]) (b := 148) (st := []) (mc1 := 0) (mc := 0) (ms1 := 0) (ms := 0) (by rfl) rfl (c := 11) (N := 46) (by rfl) (by decide) (by rfl) (gcn 154 (by decide)).1 (gcn 154 (by decide)).2 rfl (Nat.le_of_ble_eq_true rfl) (by omega) (cM_finds hsz (n := n - 1) (by omega) mi ml 0 (by decide) (by decide)) ?_
        rintro _ _ ⟨rfl, rfl⟩
        refine Go.run hsz hn1 0 (pc' := 28) (lv' := [some (gr 148), some (gi x), some (gi a)]) (st' := [gi (-1000001)]) (M' := gw (mFd mi 0) ml) rfl ?_
        refine Go.iret (by rfl) ?_
        first | (exact Or.inl ⟨by omega, rfl, rfl⟩) | (exact Or.inr (⟨by omega, rfl, rfl⟩))
end
section
/-- the class's cells: of a party, of a pitch -/
def cA (mi : Nat → Nat → Int) (a : Int) (k : Nat) : Int := mi (24 + a.toNat) k
def cP (mi : Nat → Nat → Int) (p : Int) (k : Nat) : Int := mi (12 + p.toNat) k
def cStays (mi : Nat → Nat → Int) (a x : Int) : Int := b2 (cA mi a 4 ≤ x ∧ x ≤ cA mi a 4 + cA mi a 5 - 1)
def cHere (mi : Nat → Nat → Int) (a : Int) : Int := b2 (0 ≤ cA mi a 8 ∧ ¬ cStays mi a (mi 1 0) = 0)
def CPV (mi : Nat → Nat → Int) (a : Int) : Prop := (0 ≤ cA mi a 0 ∧ cA mi a 0 ≤ 4) ∧ (1 ≤ cA mi a 1 ∧ cA mi a 1 ≤ 30) ∧ (0 ≤ cA mi a 2 ∧ cA mi a 2 ≤ 32) ∧ (0 ≤ cA mi a 3 ∧ cA mi a 3 ≤ 7) ∧ (0 ≤ cA mi a 4 ∧ cA mi a 4 ≤ 99) ∧ (1 ≤ cA mi a 5 ∧ cA mi a 5 ≤ 30) ∧ cA mi a 4 + cA mi a 5 ≤ 100 ∧ (-2 ≤ cA mi a 8 ∧ cA mi a 8 < mi 1 2) ∧ (-1 ≤ cA mi a 9 ∧ cA mi a 9 < mi 1 3) ∧ (-1 ≤ cA mi a 10 ∧ cA mi a 10 ≤ 299970) ∧ (0 ≤ cA mi a 11 ∧ cA mi a 11 ≤ 16777215) ∧ (0 ≤ cA mi a 12 ∧ cA mi a 12 ≤ 40) ∧ (cA mi a 13 = 0 ∨ cA mi a 13 = 1)
def CQV (mi : Nat → Nat → Int) (p : Int) : Prop := (0 ≤ cP mi p 0 ∧ cP mi p 0 ≤ 99) ∧ (0 ≤ cP mi p 1 ∧ cP mi p 1 ≤ 99) ∧ (1 ≤ cP mi p 2 ∧ cP mi p 2 ≤ 30) ∧ (0 ≤ cP mi p 3 ∧ cP mi p 3 ≤ 99) ∧ (0 ≤ cP mi p 4 ∧ cP mi p 4 ≤ 9) ∧ (0 ≤ cP mi p 5 ∧ cP mi p 5 ≤ 32) ∧ (0 ≤ cP mi p 6 ∧ cP mi p 6 ≤ 7) ∧ (0 ≤ cP mi p 7 ∧ cP mi p 7 ≤ 3)
def CV (mi : Nat → Nat → Int) : Prop := gR32 mi ∧ (0 ≤ mi 1 0 ∧ mi 1 0 ≤ 99) ∧ (0 ≤ mi 1 2 ∧ mi 1 2 ≤ 12) ∧ (0 ≤ mi 1 3 ∧ mi 1 3 ≤ 24) ∧ (∀ a : Int, 0 ≤ a → a < mi 1 3 → CPV mi a) ∧ ∀ p : Int, 0 ≤ p → p < mi 1 2 → CQV mi p
/-- a finding of the class -/
def cFd (mi : Nat → Nat → Int) (w : Nat) : Nat → Nat → Int := gu mi 147 w (mi 147 w + 1)
def cReason (mi : Nat → Nat → Int) (a p : Int) : Int := if cP mi p 2 < cA mi a 1 then 1 else if ¬ andI (cA mi a 3) 1 = 0 ∧ andI (cP mi p 6) 1 = 0 then 2 else if ¬ andI (cA mi a 3) 2 = 0 ∧ andI (cP mi p 6) 2 = 0 then 3 else if 2 ≤ cA mi a 0 then (if cP mi p 5 < cA mi a 2 then 5 else if (¬ andI (cA mi a 3) 4 = 0 ∨ cA mi a 0 = 4) ∧ andI (cP mi p 6) 4 = 0 then 6 else if cA mi a 0 = 3 ∧ cP mi p 2 < cA mi a 1 + 3 then 7 else 0) else if cA mi a 0 = 1 ∧ 6 < cP mi p 4 then 4 else 0
theorem cReason_b (mi : Nat → Nat → Int) (a p : Int) : 0 ≤ cReason mi a p ∧ cReason mi a p ≤ 7 := by
  unfold cReason
  (repeat' split) <;> omega
def cR1 (mi : Nat → Nat → Int) (a p : Int) : Int := if cP mi p 2 < cA mi a 1 then 1 else if ¬ andI (cA mi a 3) 1 = 0 ∧ andI (cP mi p 6) 1 = 0 then 2 else if ¬ andI (cA mi a 3) 2 = 0 ∧ andI (cP mi p 6) 2 = 0 then 3 else 0
def cR2 (mi : Nat → Nat → Int) (a p : Int) : Int := if cP mi p 5 < cA mi a 2 then 5 else if (¬ andI (cA mi a 3) 4 = 0 ∨ cA mi a 0 = 4) ∧ andI (cP mi p 6) 4 = 0 then 6 else if cA mi a 0 = 3 ∧ cP mi p 2 < cA mi a 1 + 3 then 7 else 0
theorem cR1_b (mi : Nat → Nat → Int) (a p : Int) : 0 ≤ cR1 mi a p ∧ cR1 mi a p ≤ 3 := by
  unfold cR1
  (repeat' split) <;> omega
set_option maxRecDepth 100000 in
set_option maxHeartbeats 4000000 in
theorem cC_isIn {G : gG} (hsz : G.2.2.2.2.2.2 = true) {n : Nat} (hn : 1 ≤ n) (mi : Nat → Nat → Int) (ml : Nat → Nat → Int64) (v lo hi : Int) (hv : rng v) (hl : rng lo) (hm : rng hi) : gM G 150 n 0 0 [gi v, gi lo, gi hi] (gw mi ml) (gret (b2 (lo ≤ v ∧ v ≤ hi)) (gw mi ml)) := by
  refine gM.of mX11_isIn okX11_isIn (gcp 150 (by decide)).1 (gcp 150 (by decide)).2 (Nat.le_of_ble_eq_true rfl) ?_
  refine Go.run hsz hn 2 (pc' := 2) (lv' := [some (gi v), some (gi lo), some (gi hi)]) (st' := [gi lo, gi v]) (M' := gw mi ml) rfl ?_
  refine Go.icmp_lt (by rfl) hv hl (fun kq1 => ?_) (fun kq1 => ?_)
  · refine Go.run hsz hn 1 (pc' := 15) (lv' := [some (gi v), some (gi lo), some (gi hi)]) (st' := [gi 0]) (M' := gw mi ml) rfl ?_
    exact Go.zret (by rfl) (Or.inl rfl) ⟨congrArg (fun z => some (gi z)) (by unfold b2; split <;> omega), rfl⟩
  · refine Go.run hsz hn 2 (pc' := 7) (lv' := [some (gi v), some (gi lo), some (gi hi)]) (st' := [gi hi, gi v]) (M' := gw mi ml) rfl ?_
    refine Go.icmp_gt (by rfl) hv hm (fun kq2 => ?_) (fun kq2 => ?_)
    · refine Go.run hsz hn 1 (pc' := 15) (lv' := [some (gi v), some (gi lo), some (gi hi)]) (st' := [gi 0]) (M' := gw mi ml) rfl ?_
      exact Go.zret (by rfl) (Or.inl rfl) ⟨congrArg (fun z => some (gi z)) (by unfold b2; split <;> omega), rfl⟩
    · refine Go.run hsz hn 2 (pc' := 15) (lv' := [some (gi v), some (gi lo), some (gi hi)]) (st' := [gi 1]) (M' := gw mi ml) rfl ?_
      exact Go.zret (by rfl) (Or.inr rfl) ⟨congrArg (fun z => some (gi z)) (by unfold b2; split <;> omega), rfl⟩
set_option maxRecDepth 100000 in
set_option maxHeartbeats 4000000 in
theorem cC_finding {G : gG} (hsz : G.2.2.2.2.2.2 = true) {n : Nat} (hn : 1 ≤ n) (mi : Nat → Nat → Int) (ml : Nat → Nat → Int64) (w : Int) (h0 : w ≤ -1000001) (h1 : -1000008 < w) : gM G 147 n 0 0 [gr 0, gi w] (gw mi ml) (gret w (gw (cFd mi (-1000001 - w).toNat) ml)) := by
  refine gM.of mX11_finding okX11_finding (gcp 147 (by decide)).1 (gcp 147 (by decide)).2 (Nat.le_of_ble_eq_true rfl) ?_
  refine Go.run hsz hn 5 (pc' := 6) (lv' := [some (gr 0), some (gi w), some (gi ((-1000001) - w))]) (st' := [gi ((-1000001) - w)]) (M' := gw mi ml) rfl ?_
  refine Go.if_lt (by rfl) ⟨by omega, by omega⟩ (fun kq1 => ?_) (fun kq1 => ?_)
  · refine Go.run hsz hn 1 (pc' := 26) (lv' := [some (gr 0), some (gi w), some (gi ((-1000001) - w))]) (st' := [gi w]) (M' := gw mi ml) rfl ?_
    first | exact Go.iret (by rfl) ⟨congrArg (fun z => some (gi z)) (rfl), rfl⟩ | (exfalso; omega)
  · refine Go.run hsz hn 2 (pc' := 12) (lv' := [some (gr 0), some (gi w), some (gi ((-1000001) - w))]) (st' := [gi 7, gi ((-1000001) - w)]) (M' := gw mi ml) rfl ?_
    refine Go.icmp_ge (by rfl) ⟨by omega, by omega⟩ ⟨by omega, by omega⟩ (fun kq2 => ?_) (fun kq2 => ?_)
    · refine Go.run hsz hn 1 (pc' := 26) (lv' := [some (gr 0), some (gi w), some (gi ((-1000001) - w))]) (st' := [gi w]) (M' := gw mi ml) rfl ?_
      first | exact Go.iret (by rfl) ⟨congrArg (fun z => some (gi z)) (rfl), rfl⟩ | (exfalso; omega)
    · refine Go.run hsz hn 4 (pc' := 21) (lv' := [some (gr 0), some (gi w), some (gi ((-1000001) - w))]) (st' := [gi ((-1000001) - w), gr 147, gi ((-1000001) - w), gr 147]) (M' := gw mi ml) rfl ?_
      refine Go.iald (by rfl) (N := 7) (by rfl) (by omega) (by omega) (by decide) ?_
      refine Go.run hsz hn 2 (pc' := 24) (lv' := [some (gr 0), some (gi w), some (gi ((-1000001) - w))]) (st' := [gi ((mi 147 (((-1000001) - w).toNat)) + 1), gi ((-1000001) - w), gr 147]) (M' := gw mi ml) rfl ?_
      refine Go.iast (by rfl) (N := 7) (by rfl) (by omega) (by omega) (by decide) ?_
      refine Go.run hsz hn 1 (pc' := 26) (lv' := [some (gr 0), some (gi w), some (gi ((-1000001) - w))]) (st' := [gi w]) (M' := gw (gu mi 147 (((-1000001) - w).toNat) ((mi 147 (((-1000001) - w).toNat)) + 1)) ml) rfl ?_
      first | exact Go.iret (by rfl) ⟨congrArg (fun z => some (gi z)) (rfl), rfl⟩ | (exfalso; omega)
set_option maxRecDepth 100000 in
set_option maxHeartbeats 4000000 in
theorem cS_isPitch {G : gG} (hsz : G.2.2.2.2.2.2 = true) {n : Nat} (hn : 1 ≤ n) (mi : Nat → Nat → Int) (ml : Nat → Nat → Int64) (p : Int) (hr : rng p) (hR : gR32 mi) : gM G 59 n 0 0 [gr 1, gi p] (gw mi ml) (gret (b2 (0 ≤ p ∧ p < mi 1 2)) (gw mi ml)) := by
  refine gM.of mX8_isPitch okX8_isPitch (gcp 59 (by decide)).1 (gcp 59 (by decide)).2 (Nat.le_of_ble_eq_true rfl) ?_
  refine Go.run hsz hn 1 (pc' := 1) (lv' := [some (gr 1), some (gi p)]) (st' := [gi p]) (M' := gw mi ml) rfl ?_
  refine Go.if_lt (by rfl) hr (fun kq1 => ?_) (fun kq1 => ?_)
  · refine Go.run hsz hn 1 (pc' := 17) (lv' := [some (gr 1), some (gi p)]) (st' := [gi 0]) (M' := gw mi ml) rfl ?_
    exact Go.zret (by rfl) (Or.inl rfl) ⟨congrArg (fun z => some (gi z)) (by unfold b2; split <;> omega), rfl⟩
  · refine Go.run hsz hn 3 (pc' := 9) (lv' := [some (gr 1), some (gi p)]) (st' := [gi (mi 1 2), gi p]) (M' := gw mi ml) rfl ?_
    refine Go.icmp_ge (by rfl) hr (hR _ _) (fun kq2 => ?_) (fun kq2 => ?_)
    · refine Go.run hsz hn 1 (pc' := 17) (lv' := [some (gr 1), some (gi p)]) (st' := [gi 0]) (M' := gw mi ml) rfl ?_
      exact Go.zret (by rfl) (Or.inl rfl) ⟨congrArg (fun z => some (gi z)) (by unfold b2; split <;> omega), rfl⟩
    · refine Go.run hsz hn 2 (pc' := 17) (lv' := [some (gr 1), some (gi p)]) (st' := [gi 1]) (M' := gw mi ml) rfl ?_
      exact Go.zret (by rfl) (Or.inr rfl) ⟨congrArg (fun z => some (gi z)) (by unfold b2; split <;> omega), rfl⟩
set_option maxRecDepth 100000 in
set_option maxHeartbeats 4000000 in
theorem cS_isParty {G : gG} (hsz : G.2.2.2.2.2.2 = true) {n : Nat} (hn : 1 ≤ n) (mi : Nat → Nat → Int) (ml : Nat → Nat → Int64) (a : Int) (hr : rng a) (hR : gR32 mi) : gM G 60 n 0 0 [gr 1, gi a] (gw mi ml) (gret (b2 (0 ≤ a ∧ a < mi 1 3)) (gw mi ml)) := by
  refine gM.of mX8_isParty okX8_isParty (gcp 60 (by decide)).1 (gcp 60 (by decide)).2 (Nat.le_of_ble_eq_true rfl) ?_
  refine Go.run hsz hn 1 (pc' := 1) (lv' := [some (gr 1), some (gi a)]) (st' := [gi a]) (M' := gw mi ml) rfl ?_
  refine Go.if_lt (by rfl) hr (fun kq1 => ?_) (fun kq1 => ?_)
  · refine Go.run hsz hn 1 (pc' := 17) (lv' := [some (gr 1), some (gi a)]) (st' := [gi 0]) (M' := gw mi ml) rfl ?_
    exact Go.zret (by rfl) (Or.inl rfl) ⟨congrArg (fun z => some (gi z)) (by unfold b2; split <;> omega), rfl⟩
  · refine Go.run hsz hn 3 (pc' := 9) (lv' := [some (gr 1), some (gi a)]) (st' := [gi (mi 1 3), gi a]) (M' := gw mi ml) rfl ?_
    refine Go.icmp_ge (by rfl) hr (hR _ _) (fun kq2 => ?_) (fun kq2 => ?_)
    · refine Go.run hsz hn 1 (pc' := 17) (lv' := [some (gr 1), some (gi a)]) (st' := [gi 0]) (M' := gw mi ml) rfl ?_
      exact Go.zret (by rfl) (Or.inl rfl) ⟨congrArg (fun z => some (gi z)) (by unfold b2; split <;> omega), rfl⟩
    · refine Go.run hsz hn 2 (pc' := 17) (lv' := [some (gr 1), some (gi a)]) (st' := [gi 1]) (M' := gw mi ml) rfl ?_
      exact Go.zret (by rfl) (Or.inr rfl) ⟨congrArg (fun z => some (gi z)) (by unfold b2; split <;> omega), rfl⟩
set_option maxRecDepth 100000 in
set_option maxHeartbeats 4000000 in
theorem cS_isPON {G : gG} (hsz : G.2.2.2.2.2.2 = true) {n : Nat} (hn : 2 ≤ n) (mi : Nat → Nat → Int) (ml : Nat → Nat → Int64) (a : Int) (hr : rng a) (hR : gR32 mi) : gM G 61 n 0 0 [gr 1, gi a] (gw mi ml) (gret (b2 (a = -1 ∨ (0 ≤ a ∧ a < mi 1 3))) (gw mi ml)) := by
  have hn1 : 1 ≤ n := by omega
  refine gM.of mX8_isPartyOrNobody okX8_isPartyOrNobody (gcp 61 (by decide)).1 (gcp 61 (by decide)).2 (Nat.le_of_ble_eq_true rfl) ?_
  refine Go.run hsz hn1 2 (pc' := 2) (lv' := [some (gr 1), some (gi a)]) (st' := [gi (-1), gi a]) (M' := gw mi ml) rfl ?_
  refine Go.icmp_eq (by rfl) hr ⟨by decide, by decide⟩ (fun kq1 => ?_) (fun kq1 => ?_)
  · refine Go.run hsz hn1 2 (pc' := 18) (lv' := [some (gr 1), some (gi a)]) (st' := [gi 1]) (M' := gw mi ml) rfl ?_
    exact Go.zret (by rfl) (Or.inr rfl) ⟨congrArg (fun z => some (gi z)) (by unfold b2; split <;> omega), rfl⟩
  · refine Go.run hsz hn1 2 (pc' := 7) (lv' := [some (gr 1), some (gi a)]) (st' := [gi a, gr 1]) (M' := gw mi ml) rfl ?_
    refine Go.callV (As := [gi a]) (b := 1) (st := []) (mc1 := 0) (mc := 0) (ms1 := 0) (ms := 0) (by rfl) rfl (c := 7) (N := 11) (by rfl) (by decide) (by rfl) (gcn 60 (by decide)).1 (gcn 60 (by decide)).2 rfl (Nat.le_of_ble_eq_true rfl) (by omega) (cS_isParty hsz (n := n - 1) (by omega) mi ml a hr hR) ?_
    rintro _ _ ⟨rfl, rfl⟩
    refine Go.run hsz hn1 0 (pc' := 10) (lv' := [some (gr 1), some (gi a)]) (st' := [gi (b2 (0 ≤ a ∧ a < mi 1 3))]) (M' := gw mi ml) rfl ?_
    refine Go.if_eq (by rfl) (b2_rng _) (fun kq2 => ?_) (fun kq2 => ?_)
    · replace kq2 := b2_neg kq2
      refine Go.run hsz hn1 1 (pc' := 18) (lv' := [some (gr 1), some (gi a)]) (st' := [gi 0]) (M' := gw mi ml) rfl ?_
      exact Go.zret (by rfl) (Or.inl rfl) ⟨congrArg (fun z => some (gi z)) (by unfold b2; split <;> omega), rfl⟩
    · replace kq2 := b2_pos kq2
      refine Go.run hsz hn1 2 (pc' := 18) (lv' := [some (gr 1), some (gi a)]) (st' := [gi 1]) (M' := gw mi ml) rfl ?_
      exact Go.zret (by rfl) (Or.inr rfl) ⟨congrArg (fun z => some (gi z)) (by unfold b2; split <;> omega), rfl⟩
set_option maxRecDepth 100000 in
set_option maxHeartbeats 4000000 in
theorem cS_isOn {G : gG} (hsz : G.2.2.2.2.2.2 = true) {n : Nat} (hn : 1 ≤ n) (mi : Nat → Nat → Int) (ml : Nat → Nat → Int64) (a : Int) (h0 : 0 ≤ a) (h1 : a < 24) (hR : gR32 mi) : gM G 62 n 0 0 [gr 1, gi a] (gw mi ml) (gret (b2 (0 ≤ cA mi a 8)) (gw mi ml)) := by
  refine gM.of mX8_isOn okX8_isOn (gcp 62 (by decide)).1 (gcp 62 (by decide)).2 (Nat.le_of_ble_eq_true rfl) ?_
  refine Go.run hsz hn 3 (pc' := 5) (lv' := [some (gr 1), some (gi a)]) (st' := [gi a, gr 3]) (M' := gw mi ml) rfl ?_
  refine Go.aaldR 4 (by rfl) (N := 24) (by rfl) ⟨by decide, by decide⟩ (by omega) (by omega) (by decide) (gMR_3 (by omega) (by omega)) ?_
  refine Go.getf (by rfl) (c := 2) (N := 14) (shA (i := a) (by omega)) ?_
  refine Go.run hsz hn 0 (pc' := 9) (lv' := [some (gr 1), some (gi a)]) (st' := [gi (cA mi a 8)]) (M' := gw mi ml) rfl ?_
  refine Go.if_lt (by rfl) (hR _ _) (fun kq1 => ?_) (fun kq1 => ?_)
  · refine Go.run hsz hn 1 (pc' := 17) (lv' := [some (gr 1), some (gi a)]) (st' := [gi 0]) (M' := gw mi ml) rfl ?_
    exact Go.zret (by rfl) (Or.inl rfl) ⟨congrArg (fun z => some (gi z)) (by unfold b2; split <;> omega), rfl⟩
  · refine Go.run hsz hn 2 (pc' := 17) (lv' := [some (gr 1), some (gi a)]) (st' := [gi 1]) (M' := gw mi ml) rfl ?_
    exact Go.zret (by rfl) (Or.inr rfl) ⟨congrArg (fun z => some (gi z)) (by unfold b2; split <;> omega), rfl⟩
set_option maxRecDepth 100000 in
set_option maxHeartbeats 4000000 in
theorem cS_hasCome {G : gG} (hsz : G.2.2.2.2.2.2 = true) {n : Nat} (hn : 1 ≤ n) (mi : Nat → Nat → Int) (ml : Nat → Nat → Int64) (a : Int) (h0 : 0 ≤ a) (h1 : a < 24) (hR : gR32 mi) : gM G 63 n 0 0 [gr 1, gi a] (gw mi ml) (gret (b2 (cA mi a 4 ≤ mi 1 0)) (gw mi ml)) := by
  refine gM.of mX8_hasCome okX8_hasCome (gcp 63 (by decide)).1 (gcp 63 (by decide)).2 (Nat.le_of_ble_eq_true rfl) ?_
  refine Go.run hsz hn 3 (pc' := 5) (lv' := [some (gr 1), some (gi a)]) (st' := [gi a, gr 3]) (M' := gw mi ml) rfl ?_
  refine Go.aaldR 4 (by rfl) (N := 24) (by rfl) ⟨by decide, by decide⟩ (by omega) (by omega) (by decide) (gMR_3 (by omega) (by omega)) ?_
  refine Go.getf (by rfl) (c := 2) (N := 14) (shA (i := a) (by omega)) ?_
  refine Go.run hsz hn 2 (pc' := 13) (lv' := [some (gr 1), some (gi a)]) (st' := [gi (mi 1 0), gi (cA mi a 4)]) (M' := gw mi ml) rfl ?_
  refine Go.icmp_gt (by rfl) (hR _ _) (hR _ _) (fun kq1 => ?_) (fun kq1 => ?_)
  · refine Go.run hsz hn 1 (pc' := 21) (lv' := [some (gr 1), some (gi a)]) (st' := [gi 0]) (M' := gw mi ml) rfl ?_
    exact Go.zret (by rfl) (Or.inl rfl) ⟨congrArg (fun z => some (gi z)) (by unfold b2; split <;> omega), rfl⟩
  · refine Go.run hsz hn 2 (pc' := 21) (lv' := [some (gr 1), some (gi a)]) (st' := [gi 1]) (M' := gw mi ml) rfl ?_
    exact Go.zret (by rfl) (Or.inr rfl) ⟨congrArg (fun z => some (gi z)) (by unfold b2; split <;> omega), rfl⟩
set_option maxRecDepth 100000 in
set_option maxHeartbeats 4000000 in
theorem cS_isSettled {G : gG} (hsz : G.2.2.2.2.2.2 = true) {n : Nat} (hn : 2 ≤ n) (mi : Nat → Nat → Int) (ml : Nat → Nat → Int64) (a : Int) (h0 : 0 ≤ a) (h1 : a < 24) (hR : gR32 mi) : gM G 64 n 0 0 [gr 1, gi a] (gw mi ml) (gret (b2 (0 ≤ cA mi a 8 ∧ cA mi a 4 ≤ mi 1 0)) (gw mi ml)) := by
  have hn1 : 1 ≤ n := by omega
  refine gM.of mX8_isSettled okX8_isSettled (gcp 64 (by decide)).1 (gcp 64 (by decide)).2 (Nat.le_of_ble_eq_true rfl) ?_
  refine Go.run hsz hn1 2 (pc' := 2) (lv' := [some (gr 1), some (gi a)]) (st' := [gi a, gr 1]) (M' := gw mi ml) rfl ?_
  refine Go.callV (As := [gi a]) (b := 1) (st := []) (mc1 := 0) (mc := 0) (ms1 := 0) (ms := 0) (by rfl) rfl (c := 7) (N := 11) (by rfl) (by decide) (by rfl) (gcn 62 (by decide)).1 (gcn 62 (by decide)).2 rfl (Nat.le_of_ble_eq_true rfl) (by omega) (cS_isOn hsz (n := n - 1) (by omega) mi ml a (by omega) (by omega) hR) ?_
  rintro _ _ ⟨rfl, rfl⟩
  refine Go.run hsz hn1 0 (pc' := 5) (lv' := [some (gr 1), some (gi a)]) (st' := [gi (b2 (0 ≤ cA mi a 8))]) (M' := gw mi ml) rfl ?_
  refine Go.if_eq (by rfl) (b2_rng _) (fun kq1 => ?_) (fun kq1 => ?_)
  · replace kq1 := b2_neg kq1
    refine Go.run hsz hn1 1 (pc' := 21) (lv' := [some (gr 1), some (gi a)]) (st' := [gi 0]) (M' := gw mi ml) rfl ?_
    exact Go.zret (by rfl) (Or.inl rfl) ⟨congrArg (fun z => some (gi z)) (by unfold b2; split <;> omega), rfl⟩
  · replace kq1 := b2_pos kq1
    refine Go.run hsz hn1 2 (pc' := 10) (lv' := [some (gr 1), some (gi a)]) (st' := [gi a, gr 1]) (M' := gw mi ml) rfl ?_
    refine Go.callV (As := [gi a]) (b := 1) (st := []) (mc1 := 0) (mc := 0) (ms1 := 0) (ms := 0) (by rfl) rfl (c := 7) (N := 11) (by rfl) (by decide) (by rfl) (gcn 63 (by decide)).1 (gcn 63 (by decide)).2 rfl (Nat.le_of_ble_eq_true rfl) (by omega) (cS_hasCome hsz (n := n - 1) (by omega) mi ml a (by omega) (by omega) hR) ?_
    rintro _ _ ⟨rfl, rfl⟩
    refine Go.run hsz hn1 0 (pc' := 13) (lv' := [some (gr 1), some (gi a)]) (st' := [gi (b2 (cA mi a 4 ≤ mi 1 0))]) (M' := gw mi ml) rfl ?_
    refine Go.if_eq (by rfl) (b2_rng _) (fun kq2 => ?_) (fun kq2 => ?_)
    · replace kq2 := b2_neg kq2
      refine Go.run hsz hn1 1 (pc' := 21) (lv' := [some (gr 1), some (gi a)]) (st' := [gi 0]) (M' := gw mi ml) rfl ?_
      exact Go.zret (by rfl) (Or.inl rfl) ⟨congrArg (fun z => some (gi z)) (by unfold b2; split <;> omega), rfl⟩
    · replace kq2 := b2_pos kq2
      refine Go.run hsz hn1 2 (pc' := 21) (lv' := [some (gr 1), some (gi a)]) (st' := [gi 1]) (M' := gw mi ml) rfl ?_
      exact Go.zret (by rfl) (Or.inr rfl) ⟨congrArg (fun z => some (gi z)) (by unfold b2; split <;> omega), rfl⟩
set_option maxRecDepth 100000 in
set_option maxHeartbeats 4000000 in
theorem cPa_last {G : gG} (hsz : G.2.2.2.2.2.2 = true) {n : Nat} (hn : 1 ≤ n) (mi : Nat → Nat → Int) (ml : Nat → Nat → Int64) (a : Int) (h0 : 0 ≤ a) (h1 : a < 24) : gM G 24 n 0 0 [gr (24 + a.toNat)] (gw mi ml) (gret (cA mi a 4 + cA mi a 5 - 1) (gw mi ml)) := by
  refine gM.of mX3_lastNight okX3_lastNight (gcp 24 (by decide)).1 (gcp 24 (by decide)).2 (Nat.le_of_ble_eq_true rfl) ?_
  refine Go.run hsz hn 1 (pc' := 1) (lv' := [some (gr (24 + a.toNat))]) (st' := [gr (24 + a.toNat)]) (M' := gw mi ml) rfl ?_
  refine Go.getf (by rfl) (c := 2) (N := 14) (shA (i := a) (by omega)) ?_
  refine Go.run hsz hn 1 (pc' := 5) (lv' := [some (gr (24 + a.toNat))]) (st' := [gr (24 + a.toNat), gi (cA mi a 4)]) (M' := gw mi ml) rfl ?_
  refine Go.getf (by rfl) (c := 2) (N := 14) (shA (i := a) (by omega)) ?_
  refine Go.run hsz hn 3 (pc' := 11) (lv' := [some (gr (24 + a.toNat))]) (st' := [gi (((cA mi a 4) + (cA mi a 5)) - 1)]) (M' := gw mi ml) rfl ?_
  first | exact Go.iret (by rfl) ⟨congrArg (fun z => some (gi z)) (rfl), rfl⟩ | (exfalso; omega)
set_option maxRecDepth 100000 in
set_option maxHeartbeats 4000000 in
theorem cPa_stays {G : gG} (hsz : G.2.2.2.2.2.2 = true) {n : Nat} (hn : 2 ≤ n) (mi : Nat → Nat → Int) (ml : Nat → Nat → Int64) (a x : Int) (h0 : 0 ≤ a) (h1 : a < 24) (hx : rng x) (hb : CPV mi a) (hR : gR32 mi) : gM G 25 n 0 0 [gr (24 + a.toNat), gi x] (gw mi ml) (gret (cStays mi a x) (gw mi ml)) := by
  have hn1 : 1 ≤ n := by omega
  obtain ⟨b0, b1, b2x, b3, b4, b5, b6, -⟩ := id hb
  refine gM.of mX3_stays okX3_stays (gcp 25 (by decide)).1 (gcp 25 (by decide)).2 (Nat.le_of_ble_eq_true rfl) ?_
  refine Go.run hsz hn1 2 (pc' := 2) (lv' := [some (gr (24 + a.toNat)), some (gi x)]) (st' := [gr (24 + a.toNat), gi x]) (M' := gw mi ml) rfl ?_
  refine Go.getf (by rfl) (c := 2) (N := 14) (shA (i := a) (by omega)) ?_
  refine Go.run hsz hn1 0 (pc' := 5) (lv' := [some (gr (24 + a.toNat)), some (gi x)]) (st' := [gi (cA mi a 4), gi x]) (M' := gw mi ml) rfl ?_
  refine Go.icmp_lt (by rfl) hx (hR _ _) (fun kq1 => ?_) (fun kq1 => ?_)
  · refine Go.run hsz hn1 1 (pc' := 21) (lv' := [some (gr (24 + a.toNat)), some (gi x)]) (st' := [gi 0]) (M' := gw mi ml) rfl ?_
    exact Go.zret (by rfl) (Or.inl rfl) ⟨congrArg (fun z => some (gi z)) (by unfold cStays b2; split <;> omega), rfl⟩
  · refine Go.run hsz hn1 2 (pc' := 10) (lv' := [some (gr (24 + a.toNat)), some (gi x)]) (st' := [gr (24 + a.toNat), gi x]) (M' := gw mi ml) rfl ?_
    refine Go.callV (As := []) (b := 24 + a.toNat) (st := [gi x]) (mc1 := 0) (mc := 0) (ms1 := 0) (ms := 0) (by rfl) rfl (c := 2) (N := 14) (shA (i := a) (by omega)) (by decide) (by rfl) (gcn 24 (by decide)).1 (gcn 24 (by decide)).2 rfl (Nat.le_of_ble_eq_true rfl) (by omega) (cPa_last hsz (n := n - 1) (by omega) mi ml a (by omega) (by omega)) ?_
    rintro _ _ ⟨rfl, rfl⟩
    refine Go.run hsz hn1 0 (pc' := 13) (lv' := [some (gr (24 + a.toNat)), some (gi x)]) (st' := [gi (cA mi a 4 + cA mi a 5 - 1), gi x]) (M' := gw mi ml) rfl ?_
    refine Go.icmp_gt (by rfl) hx ⟨by omega, by omega⟩ (fun kq2 => ?_) (fun kq2 => ?_)
    · refine Go.run hsz hn1 1 (pc' := 21) (lv' := [some (gr (24 + a.toNat)), some (gi x)]) (st' := [gi 0]) (M' := gw mi ml) rfl ?_
      exact Go.zret (by rfl) (Or.inl rfl) ⟨congrArg (fun z => some (gi z)) (by unfold cStays b2; split <;> omega), rfl⟩
    · refine Go.run hsz hn1 2 (pc' := 21) (lv' := [some (gr (24 + a.toNat)), some (gi x)]) (st' := [gi 1]) (M' := gw mi ml) rfl ?_
      exact Go.zret (by rfl) (Or.inr rfl) ⟨congrArg (fun z => some (gi z)) (by unfold cStays b2; split <;> omega), rfl⟩
set_option maxRecDepth 100000 in
set_option maxHeartbeats 4000000 in
theorem cPa_wishes {G : gG} (hsz : G.2.2.2.2.2.2 = true) {n : Nat} (hn : 1 ≤ n) (mi : Nat → Nat → Int) (ml : Nat → Nat → Int64) (a f : Int) (h0 : 0 ≤ a) (h1 : a < 24) (hR : gR32 mi) : gM G 26 n 0 0 [gr (24 + a.toNat), gi f] (gw mi ml) (gret (b2 (¬ andI (cA mi a 3) f = 0)) (gw mi ml)) := by
  refine gM.of mX3_wishesFor okX3_wishesFor (gcp 26 (by decide)).1 (gcp 26 (by decide)).2 (Nat.le_of_ble_eq_true rfl) ?_
  refine Go.run hsz hn 1 (pc' := 1) (lv' := [some (gr (24 + a.toNat)), some (gi f)]) (st' := [gr (24 + a.toNat)]) (M' := gw mi ml) rfl ?_
  refine Go.getf (by rfl) (c := 2) (N := 14) (shA (i := a) (by omega)) ?_
  refine Go.run hsz hn 2 (pc' := 6) (lv' := [some (gr (24 + a.toNat)), some (gi f)]) (st' := [gi (andI (cA mi a 3) f)]) (M' := gw mi ml) rfl ?_
  refine Go.if_eq (by rfl) (rng_of _) (fun kq1 => ?_) (fun kq1 => ?_)
  · refine Go.run hsz hn 1 (pc' := 14) (lv' := [some (gr (24 + a.toNat)), some (gi f)]) (st' := [gi 0]) (M' := gw mi ml) rfl ?_
    exact Go.zret (by rfl) (Or.inl rfl) ⟨congrArg (fun z => some (gi z)) (by unfold b2; split <;> omega), rfl⟩
  · refine Go.run hsz hn 2 (pc' := 14) (lv' := [some (gr (24 + a.toNat)), some (gi f)]) (st' := [gi 1]) (M' := gw mi ml) rfl ?_
    exact Go.zret (by rfl) (Or.inr rfl) ⟨congrArg (fun z => some (gi z)) (by unfold b2; split <;> omega), rfl⟩
set_option maxRecDepth 100000 in
set_option maxHeartbeats 4000000 in
theorem cPi_offers {G : gG} (hsz : G.2.2.2.2.2.2 = true) {n : Nat} (hn : 1 ≤ n) (mi : Nat → Nat → Int) (ml : Nat → Nat → Int64) (p f : Int) (p0 : 0 ≤ p) (p1 : p < 12) (hR : gR32 mi) : gM G 31 n 0 0 [gr (12 + p.toNat), gi f] (gw mi ml) (gret (b2 (¬ andI (cP mi p 6) f = 0)) (gw mi ml)) := by
  refine gM.of mX4_offers okX4_offers (gcp 31 (by decide)).1 (gcp 31 (by decide)).2 (Nat.le_of_ble_eq_true rfl) ?_
  refine Go.run hsz hn 1 (pc' := 1) (lv' := [some (gr (12 + p.toNat)), some (gi f)]) (st' := [gr (12 + p.toNat)]) (M' := gw mi ml) rfl ?_
  refine Go.getf (by rfl) (c := 3) (N := 10) (shP (i := p) (by omega)) ?_
  refine Go.run hsz hn 2 (pc' := 6) (lv' := [some (gr (12 + p.toNat)), some (gi f)]) (st' := [gi (andI (cP mi p 6) f)]) (M' := gw mi ml) rfl ?_
  refine Go.if_eq (by rfl) (rng_of _) (fun kq1 => ?_) (fun kq1 => ?_)
  · refine Go.run hsz hn 1 (pc' := 14) (lv' := [some (gr (12 + p.toNat)), some (gi f)]) (st' := [gi 0]) (M' := gw mi ml) rfl ?_
    exact Go.zret (by rfl) (Or.inl rfl) ⟨congrArg (fun z => some (gi z)) (by unfold b2; split <;> omega), rfl⟩
  · refine Go.run hsz hn 2 (pc' := 14) (lv' := [some (gr (12 + p.toNat)), some (gi f)]) (st' := [gi 1]) (M' := gw mi ml) rfl ?_
    exact Go.zret (by rfl) (Or.inr rfl) ⟨congrArg (fun z => some (gi z)) (by unfold b2; split <;> omega), rfl⟩
set_option maxRecDepth 100000 in
set_option maxHeartbeats 4000000 in
theorem cS_isHere {G : gG} (hsz : G.2.2.2.2.2.2 = true) {n : Nat} (hn : 3 ≤ n) (mi : Nat → Nat → Int) (ml : Nat → Nat → Int64) (a : Int) (h0 : 0 ≤ a) (h1 : a < 24) (hb : CPV mi a) (hR : gR32 mi) : gM G 65 n 0 0 [gr 1, gi a] (gw mi ml) (gret (cHere mi a) (gw mi ml)) := by
  have hn1 : 1 ≤ n := by omega
  refine gM.of mX8_isHere okX8_isHere (gcp 65 (by decide)).1 (gcp 65 (by decide)).2 (Nat.le_of_ble_eq_true rfl) ?_
  refine Go.run hsz hn1 2 (pc' := 2) (lv' := [some (gr 1), some (gi a)]) (st' := [gi a, gr 1]) (M' := gw mi ml) rfl ?_
  refine Go.callV (As := [gi a]) (b := 1) (st := []) (mc1 := 0) (mc := 0) (ms1 := 0) (ms := 0) (by rfl) rfl (c := 7) (N := 11) (by rfl) (by decide) (by rfl) (gcn 62 (by decide)).1 (gcn 62 (by decide)).2 rfl (Nat.le_of_ble_eq_true rfl) (by omega) (cS_isOn hsz (n := n - 1) (by omega) mi ml a (by omega) (by omega) hR) ?_
  rintro _ _ ⟨rfl, rfl⟩
  refine Go.run hsz hn1 0 (pc' := 5) (lv' := [some (gr 1), some (gi a)]) (st' := [gi (b2 (0 ≤ cA mi a 8))]) (M' := gw mi ml) rfl ?_
  refine Go.if_eq (by rfl) (b2_rng _) (fun kq1 => ?_) (fun kq1 => ?_)
  · replace kq1 := b2_neg kq1
    refine Go.run hsz hn1 1 (pc' := 29) (lv' := [some (gr 1), some (gi a)]) (st' := [gi 0]) (M' := gw mi ml) rfl ?_
    exact Go.zret (by rfl) (Or.inl rfl) ⟨congrArg (fun z => some (gi z)) (by unfold cHere; unfold b2; split <;> omega), rfl⟩
  · replace kq1 := b2_pos kq1
    refine Go.run hsz hn1 3 (pc' := 13) (lv' := [some (gr 1), some (gi a)]) (st' := [gi a, gr 3]) (M' := gw mi ml) rfl ?_
    refine Go.aaldR 4 (by rfl) (N := 24) (by rfl) ⟨by decide, by decide⟩ (by omega) (by omega) (by decide) (gMR_3 (by omega) (by omega)) ?_
    refine Go.run hsz hn1 2 (pc' := 18) (lv' := [some (gr 1), some (gi a)]) (st' := [gi (mi 1 0), gr (24 + a.toNat)]) (M' := gw mi ml) rfl ?_
    refine Go.callV (As := [gi (mi 1 0)]) (b := 24 + a.toNat) (st := []) (mc1 := 0) (mc := 0) (ms1 := 0) (ms := 0) (by rfl) rfl (c := 2) (N := 14) (shA (i := a) (by omega)) (by decide) (by rfl) (gcn 25 (by decide)).1 (gcn 25 (by decide)).2 rfl (Nat.le_of_ble_eq_true rfl) (by omega) (cPa_stays hsz (n := n - 1) (by omega) mi ml a (mi 1 0) (by omega) (by omega) (hR _ _) hb hR) ?_
    rintro _ _ ⟨rfl, rfl⟩
    refine Go.run hsz hn1 0 (pc' := 21) (lv' := [some (gr 1), some (gi a)]) (st' := [gi (cStays mi a (mi 1 0))]) (M' := gw mi ml) rfl ?_
    refine Go.if_eq (by rfl) (b2_rng _) (fun kq2 => ?_) (fun kq2 => ?_)
    · refine Go.run hsz hn1 1 (pc' := 29) (lv' := [some (gr 1), some (gi a)]) (st' := [gi 0]) (M' := gw mi ml) rfl ?_
      exact Go.zret (by rfl) (Or.inl rfl) ⟨congrArg (fun z => some (gi z)) (by unfold cHere; unfold b2; split <;> omega), rfl⟩
    · refine Go.run hsz hn1 2 (pc' := 29) (lv' := [some (gr 1), some (gi a)]) (st' := [gi 1]) (M' := gw mi ml) rfl ?_
      exact Go.zret (by rfl) (Or.inr rfl) ⟨congrArg (fun z => some (gi z)) (by unfold cHere; unfold b2; split <;> omega), rfl⟩
set_option maxRecDepth 100000 in
set_option maxHeartbeats 4000000 in
theorem cK_all {G : gG} (hsz : G.2.2.2.2.2.2 = true) {n : Nat} (hn : 2 ≤ n) (mi : Nat → Nat → Int) (ml : Nat → Nat → Int64) (a p : Int) (h0 : 0 ≤ a) (h1 : a < 24) (p0 : 0 ≤ p) (p1 : p < 12) (hb : CPV mi a) (hR : gR32 mi) : gM G 11 n 0 0 [gr (24 + a.toNat), gr (12 + p.toNat)] (gw mi ml) (gret (cR1 mi a p) (gw mi ml)) := by
  have hn1 : 1 ≤ n := by omega
  obtain ⟨b0, b1, -⟩ := id hb
  refine gM.of mX1_reasonOfAll okX1_reasonOfAll (gcp 11 (by decide)).1 (gcp 11 (by decide)).2 (Nat.le_of_ble_eq_true rfl) ?_
  refine Go.run hsz hn1 1 (pc' := 1) (lv' := [some (gr (24 + a.toNat)), some (gr (12 + p.toNat))]) (st' := [gr (24 + a.toNat)]) (M' := gw mi ml) rfl ?_
  refine Go.getf (by rfl) (c := 2) (N := 14) (shA (i := a) (by omega)) ?_
  refine Go.run hsz hn1 1 (pc' := 5) (lv' := [some (gr (24 + a.toNat)), some (gr (12 + p.toNat))]) (st' := [gr (12 + p.toNat), gi (cA mi a 1)]) (M' := gw mi ml) rfl ?_
  refine Go.getf (by rfl) (c := 3) (N := 10) (shP (i := p) (by omega)) ?_
  refine Go.run hsz hn1 0 (pc' := 8) (lv' := [some (gr (24 + a.toNat)), some (gr (12 + p.toNat))]) (st' := [gi (cP mi p 2), gi (cA mi a 1)]) (M' := gw mi ml) rfl ?_
  refine Go.icmp_le (by rfl) (hR _ _) (hR _ _) (fun kq1 => ?_) (fun kq1 => ?_)
  · refine Go.run hsz hn1 2 (pc' := 15) (lv' := [some (gr (24 + a.toNat)), some (gr (12 + p.toNat))]) (st' := [gi 1, gr (24 + a.toNat)]) (M' := gw mi ml) rfl ?_
    refine Go.callV (As := [gi 1]) (b := 24 + a.toNat) (st := []) (mc1 := 0) (mc := 0) (ms1 := 0) (ms := 0) (by rfl) rfl (c := 2) (N := 14) (shA (i := a) (by omega)) (by decide) (by rfl) (gcn 26 (by decide)).1 (gcn 26 (by decide)).2 rfl (Nat.le_of_ble_eq_true rfl) (by omega) (cPa_wishes hsz (n := n - 1) (by omega) mi ml a 1 h0 h1 hR) ?_
    rintro _ _ ⟨rfl, rfl⟩
    refine Go.run hsz hn1 0 (pc' := 18) (lv' := [some (gr (24 + a.toNat)), some (gr (12 + p.toNat))]) (st' := [gi (b2 (¬ andI (cA mi a 3) 1 = 0))]) (M' := gw mi ml) rfl ?_
    refine Go.if_eq (by rfl) (b2_rng _) (fun kq2 => ?_) (fun kq2 => ?_)
    · replace kq2 := b2_neg kq2
      refine Go.run hsz hn1 2 (pc' := 33) (lv' := [some (gr (24 + a.toNat)), some (gr (12 + p.toNat))]) (st' := [gi 2, gr (24 + a.toNat)]) (M' := gw mi ml) rfl ?_
      refine Go.callV (As := [gi 2]) (b := 24 + a.toNat) (st := []) (mc1 := 0) (mc := 0) (ms1 := 0) (ms := 0) (by rfl) rfl (c := 2) (N := 14) (shA (i := a) (by omega)) (by decide) (by rfl) (gcn 26 (by decide)).1 (gcn 26 (by decide)).2 rfl (Nat.le_of_ble_eq_true rfl) (by omega) (cPa_wishes hsz (n := n - 1) (by omega) mi ml a 2 h0 h1 hR) ?_
      rintro _ _ ⟨rfl, rfl⟩
      refine Go.run hsz hn1 0 (pc' := 36) (lv' := [some (gr (24 + a.toNat)), some (gr (12 + p.toNat))]) (st' := [gi (b2 (¬ andI (cA mi a 3) 2 = 0))]) (M' := gw mi ml) rfl ?_
      refine Go.if_eq (by rfl) (b2_rng _) (fun kq3 => ?_) (fun kq3 => ?_)
      · replace kq3 := b2_neg kq3
        refine Go.run hsz hn1 1 (pc' := 52) (lv' := [some (gr (24 + a.toNat)), some (gr (12 + p.toNat))]) (st' := [gi 0]) (M' := gw mi ml) rfl ?_
        first | exact Go.iret (by rfl) ⟨congrArg (fun z => some (gi z)) (by unfold cR1; (repeat' split) <;> omega), rfl⟩ | (exfalso; omega)
      · replace kq3 := b2_pos kq3
        refine Go.run hsz hn1 2 (pc' := 41) (lv' := [some (gr (24 + a.toNat)), some (gr (12 + p.toNat))]) (st' := [gi 2, gr (12 + p.toNat)]) (M' := gw mi ml) rfl ?_
        refine Go.callV (As := [gi 2]) (b := 12 + p.toNat) (st := []) (mc1 := 0) (mc := 0) (ms1 := 0) (ms := 0) (by rfl) rfl (c := 3) (N := 10) (shP (i := p) (by omega)) (by decide) (by rfl) (gcn 31 (by decide)).1 (gcn 31 (by decide)).2 rfl (Nat.le_of_ble_eq_true rfl) (by omega) (cPi_offers hsz (n := n - 1) (by omega) mi ml p 2 p0 p1 hR) ?_
        rintro _ _ ⟨rfl, rfl⟩
        refine Go.run hsz hn1 0 (pc' := 44) (lv' := [some (gr (24 + a.toNat)), some (gr (12 + p.toNat))]) (st' := [gi (b2 (¬ andI (cP mi p 6) 2 = 0))]) (M' := gw mi ml) rfl ?_
        refine Go.if_ne (by rfl) (b2_rng _) (fun kq4 => ?_) (fun kq4 => ?_)
        · replace kq4 := b2_pos kq4
          refine Go.run hsz hn1 1 (pc' := 52) (lv' := [some (gr (24 + a.toNat)), some (gr (12 + p.toNat))]) (st' := [gi 0]) (M' := gw mi ml) rfl ?_
          first | exact Go.iret (by rfl) ⟨congrArg (fun z => some (gi z)) (by unfold cR1; (repeat' split) <;> omega), rfl⟩ | (exfalso; omega)
        · replace kq4 := b2_neg kq4
          refine Go.run hsz hn1 2 (pc' := 52) (lv' := [some (gr (24 + a.toNat)), some (gr (12 + p.toNat))]) (st' := [gi 3]) (M' := gw mi ml) rfl ?_
          first | exact Go.iret (by rfl) ⟨congrArg (fun z => some (gi z)) (by unfold cR1; (repeat' split) <;> omega), rfl⟩ | (exfalso; omega)
    · replace kq2 := b2_pos kq2
      refine Go.run hsz hn1 2 (pc' := 23) (lv' := [some (gr (24 + a.toNat)), some (gr (12 + p.toNat))]) (st' := [gi 1, gr (12 + p.toNat)]) (M' := gw mi ml) rfl ?_
      refine Go.callV (As := [gi 1]) (b := 12 + p.toNat) (st := []) (mc1 := 0) (mc := 0) (ms1 := 0) (ms := 0) (by rfl) rfl (c := 3) (N := 10) (shP (i := p) (by omega)) (by decide) (by rfl) (gcn 31 (by decide)).1 (gcn 31 (by decide)).2 rfl (Nat.le_of_ble_eq_true rfl) (by omega) (cPi_offers hsz (n := n - 1) (by omega) mi ml p 1 p0 p1 hR) ?_
      rintro _ _ ⟨rfl, rfl⟩
      refine Go.run hsz hn1 0 (pc' := 26) (lv' := [some (gr (24 + a.toNat)), some (gr (12 + p.toNat))]) (st' := [gi (b2 (¬ andI (cP mi p 6) 1 = 0))]) (M' := gw mi ml) rfl ?_
      refine Go.if_ne (by rfl) (b2_rng _) (fun kq5 => ?_) (fun kq5 => ?_)
      · replace kq5 := b2_pos kq5
        refine Go.run hsz hn1 2 (pc' := 33) (lv' := [some (gr (24 + a.toNat)), some (gr (12 + p.toNat))]) (st' := [gi 2, gr (24 + a.toNat)]) (M' := gw mi ml) rfl ?_
        refine Go.callV (As := [gi 2]) (b := 24 + a.toNat) (st := []) (mc1 := 0) (mc := 0) (ms1 := 0) (ms := 0) (by rfl) rfl (c := 2) (N := 14) (shA (i := a) (by omega)) (by decide) (by rfl) (gcn 26 (by decide)).1 (gcn 26 (by decide)).2 rfl (Nat.le_of_ble_eq_true rfl) (by omega) (cPa_wishes hsz (n := n - 1) (by omega) mi ml a 2 h0 h1 hR) ?_
        rintro _ _ ⟨rfl, rfl⟩
        refine Go.run hsz hn1 0 (pc' := 36) (lv' := [some (gr (24 + a.toNat)), some (gr (12 + p.toNat))]) (st' := [gi (b2 (¬ andI (cA mi a 3) 2 = 0))]) (M' := gw mi ml) rfl ?_
        refine Go.if_eq (by rfl) (b2_rng _) (fun kq6 => ?_) (fun kq6 => ?_)
        · replace kq6 := b2_neg kq6
          refine Go.run hsz hn1 1 (pc' := 52) (lv' := [some (gr (24 + a.toNat)), some (gr (12 + p.toNat))]) (st' := [gi 0]) (M' := gw mi ml) rfl ?_
          first | exact Go.iret (by rfl) ⟨congrArg (fun z => some (gi z)) (by unfold cR1; (repeat' split) <;> omega), rfl⟩ | (exfalso; omega)
        · replace kq6 := b2_pos kq6
          refine Go.run hsz hn1 2 (pc' := 41) (lv' := [some (gr (24 + a.toNat)), some (gr (12 + p.toNat))]) (st' := [gi 2, gr (12 + p.toNat)]) (M' := gw mi ml) rfl ?_
          refine Go.callV (As := [gi 2]) (b := 12 + p.toNat) (st := []) (mc1 := 0) (mc := 0) (ms1 := 0) (ms := 0) (by rfl) rfl (c := 3) (N := 10) (shP (i := p) (by omega)) (by decide) (by rfl) (gcn 31 (by decide)).1 (gcn 31 (by decide)).2 rfl (Nat.le_of_ble_eq_true rfl) (by omega) (cPi_offers hsz (n := n - 1) (by omega) mi ml p 2 p0 p1 hR) ?_
          rintro _ _ ⟨rfl, rfl⟩
          refine Go.run hsz hn1 0 (pc' := 44) (lv' := [some (gr (24 + a.toNat)), some (gr (12 + p.toNat))]) (st' := [gi (b2 (¬ andI (cP mi p 6) 2 = 0))]) (M' := gw mi ml) rfl ?_
          refine Go.if_ne (by rfl) (b2_rng _) (fun kq7 => ?_) (fun kq7 => ?_)
          · replace kq7 := b2_pos kq7
            refine Go.run hsz hn1 1 (pc' := 52) (lv' := [some (gr (24 + a.toNat)), some (gr (12 + p.toNat))]) (st' := [gi 0]) (M' := gw mi ml) rfl ?_
            first | exact Go.iret (by rfl) ⟨congrArg (fun z => some (gi z)) (by unfold cR1; (repeat' split) <;> omega), rfl⟩ | (exfalso; omega)
          · replace kq7 := b2_neg kq7
            refine Go.run hsz hn1 2 (pc' := 52) (lv' := [some (gr (24 + a.toNat)), some (gr (12 + p.toNat))]) (st' := [gi 3]) (M' := gw mi ml) rfl ?_
            first | exact Go.iret (by rfl) ⟨congrArg (fun z => some (gi z)) (by unfold cR1; (repeat' split) <;> omega), rfl⟩ | (exfalso; omega)
      · replace kq5 := b2_neg kq5
        refine Go.run hsz hn1 1 (pc' := 30) (lv' := [some (gr (24 + a.toNat)), some (gr (12 + p.toNat))]) (st' := [gi 2]) (M' := gw mi ml) rfl ?_
        first | exact Go.iret (by rfl) ⟨congrArg (fun z => some (gi z)) (by unfold cR1; (repeat' split) <;> omega), rfl⟩ | (exfalso; omega)
  · refine Go.run hsz hn1 1 (pc' := 12) (lv' := [some (gr (24 + a.toNat)), some (gr (12 + p.toNat))]) (st' := [gi 1]) (M' := gw mi ml) rfl ?_
    first | exact Go.iret (by rfl) ⟨congrArg (fun z => some (gi z)) (by unfold cR1; (repeat' split) <;> omega), rfl⟩ | (exfalso; omega)
set_option maxRecDepth 100000 in
set_option maxHeartbeats 4000000 in
theorem cK_vans {G : gG} (hsz : G.2.2.2.2.2.2 = true) {n : Nat} (hn : 2 ≤ n) (mi : Nat → Nat → Int) (ml : Nat → Nat → Int64) (a p : Int) (h0 : 0 ≤ a) (h1 : a < 24) (p0 : 0 ≤ p) (p1 : p < 12) (hb : CPV mi a) (hR : gR32 mi) : gM G 12 n 0 0 [gr (24 + a.toNat), gr (12 + p.toNat)] (gw mi ml) (gret (cR2 mi a p) (gw mi ml)) := by
  have hn1 : 1 ≤ n := by omega
  obtain ⟨b0, b1, -⟩ := id hb
  refine gM.of mX1_reasonOfVans okX1_reasonOfVans (gcp 12 (by decide)).1 (gcp 12 (by decide)).2 (Nat.le_of_ble_eq_true rfl) ?_
  refine Go.run hsz hn1 1 (pc' := 1) (lv' := [some (gr (24 + a.toNat)), some (gr (12 + p.toNat)), none]) (st' := [gr (24 + a.toNat)]) (M' := gw mi ml) rfl ?_
  refine Go.getf (by rfl) (c := 2) (N := 14) (shA (i := a) (by omega)) ?_
  refine Go.run hsz hn1 1 (pc' := 5) (lv' := [some (gr (24 + a.toNat)), some (gr (12 + p.toNat)), none]) (st' := [gr (12 + p.toNat), gi (cA mi a 2)]) (M' := gw mi ml) rfl ?_
  refine Go.getf (by rfl) (c := 3) (N := 10) (shP (i := p) (by omega)) ?_
  refine Go.run hsz hn1 0 (pc' := 8) (lv' := [some (gr (24 + a.toNat)), some (gr (12 + p.toNat)), none]) (st' := [gi (cP mi p 5), gi (cA mi a 2)]) (M' := gw mi ml) rfl ?_
  refine Go.icmp_le (by rfl) (hR _ _) (hR _ _) (fun kq1 => ?_) (fun kq1 => ?_)
  · refine Go.run hsz hn1 2 (pc' := 15) (lv' := [some (gr (24 + a.toNat)), some (gr (12 + p.toNat)), none]) (st' := [gi 4, gr (24 + a.toNat)]) (M' := gw mi ml) rfl ?_
    refine Go.callV (As := [gi 4]) (b := 24 + a.toNat) (st := []) (mc1 := 0) (mc := 0) (ms1 := 0) (ms := 0) (by rfl) rfl (c := 2) (N := 14) (shA (i := a) (by omega)) (by decide) (by rfl) (gcn 26 (by decide)).1 (gcn 26 (by decide)).2 rfl (Nat.le_of_ble_eq_true rfl) (by omega) (cPa_wishes hsz (n := n - 1) (by omega) mi ml a 4 h0 h1 hR) ?_
    rintro _ _ ⟨rfl, rfl⟩
    refine Go.run hsz hn1 0 (pc' := 18) (lv' := [some (gr (24 + a.toNat)), some (gr (12 + p.toNat)), none]) (st' := [gi (b2 (¬ andI (cA mi a 3) 4 = 0))]) (M' := gw mi ml) rfl ?_
    refine Go.if_ne (by rfl) (b2_rng _) (fun kq2 => ?_) (fun kq2 => ?_)
    · replace kq2 := b2_pos kq2
      refine Go.run hsz hn1 4 (pc' := 36) (lv' := [some (gr (24 + a.toNat)), some (gr (12 + p.toNat)), some (gi 1)]) (st' := [gi 1]) (M' := gw mi ml) rfl ?_
      refine Go.if_eq (by rfl) ⟨by decide, by decide⟩ (fun kq3 => ?_) (fun kq3 => ?_)
      · exact absurd kq3 (by decide)
      · refine Go.run hsz hn1 2 (pc' := 41) (lv' := [some (gr (24 + a.toNat)), some (gr (12 + p.toNat)), some (gi 1)]) (st' := [gi 4, gr (12 + p.toNat)]) (M' := gw mi ml) rfl ?_
        refine Go.callV (As := [gi 4]) (b := 12 + p.toNat) (st := []) (mc1 := 0) (mc := 0) (ms1 := 0) (ms := 0) (by rfl) rfl (c := 3) (N := 10) (shP (i := p) (by omega)) (by decide) (by rfl) (gcn 31 (by decide)).1 (gcn 31 (by decide)).2 rfl (Nat.le_of_ble_eq_true rfl) (by omega) (cPi_offers hsz (n := n - 1) (by omega) mi ml p 4 p0 p1 hR) ?_
        rintro _ _ ⟨rfl, rfl⟩
        refine Go.run hsz hn1 0 (pc' := 44) (lv' := [some (gr (24 + a.toNat)), some (gr (12 + p.toNat)), some (gi 1)]) (st' := [gi (b2 (¬ andI (cP mi p 6) 4 = 0))]) (M' := gw mi ml) rfl ?_
        refine Go.if_ne (by rfl) (b2_rng _) (fun kq4 => ?_) (fun kq4 => ?_)
        · replace kq4 := b2_pos kq4
          refine Go.run hsz hn1 1 (pc' := 51) (lv' := [some (gr (24 + a.toNat)), some (gr (12 + p.toNat)), some (gi 1)]) (st' := [gr (24 + a.toNat)]) (M' := gw mi ml) rfl ?_
          refine Go.getf (by rfl) (c := 2) (N := 14) (shA (i := a) (by omega)) ?_
          refine Go.run hsz hn1 1 (pc' := 55) (lv' := [some (gr (24 + a.toNat)), some (gr (12 + p.toNat)), some (gi 1)]) (st' := [gi 3, gi (cA mi a 0)]) (M' := gw mi ml) rfl ?_
          refine Go.icmp_ne (by rfl) (hR _ _) ⟨by decide, by decide⟩ (fun kq5 => ?_) (fun kq5 => ?_)
          · refine Go.run hsz hn1 1 (pc' := 77) (lv' := [some (gr (24 + a.toNat)), some (gr (12 + p.toNat)), some (gi 1)]) (st' := [gi 0]) (M' := gw mi ml) rfl ?_
            first | exact Go.iret (by rfl) ⟨congrArg (fun z => some (gi z)) (by unfold cR2; (repeat' split) <;> omega), rfl⟩ | (exfalso; omega)
          · refine Go.run hsz hn1 1 (pc' := 59) (lv' := [some (gr (24 + a.toNat)), some (gr (12 + p.toNat)), some (gi 1)]) (st' := [gr (24 + a.toNat)]) (M' := gw mi ml) rfl ?_
            refine Go.getf (by rfl) (c := 2) (N := 14) (shA (i := a) (by omega)) ?_
            refine Go.run hsz hn1 3 (pc' := 65) (lv' := [some (gr (24 + a.toNat)), some (gr (12 + p.toNat)), some (gi 1)]) (st' := [gr (12 + p.toNat), gi ((cA mi a 1) + 3)]) (M' := gw mi ml) rfl ?_
            refine Go.getf (by rfl) (c := 3) (N := 10) (shP (i := p) (by omega)) ?_
            refine Go.run hsz hn1 0 (pc' := 68) (lv' := [some (gr (24 + a.toNat)), some (gr (12 + p.toNat)), some (gi 1)]) (st' := [gi (cP mi p 2), gi ((cA mi a 1) + 3)]) (M' := gw mi ml) rfl ?_
            refine Go.icmp_le (by rfl) ⟨by omega, by omega⟩ (hR _ _) (fun kq6 => ?_) (fun kq6 => ?_)
            · refine Go.run hsz hn1 1 (pc' := 77) (lv' := [some (gr (24 + a.toNat)), some (gr (12 + p.toNat)), some (gi 1)]) (st' := [gi 0]) (M' := gw mi ml) rfl ?_
              first | exact Go.iret (by rfl) ⟨congrArg (fun z => some (gi z)) (by unfold cR2; (repeat' split) <;> omega), rfl⟩ | (exfalso; omega)
            · refine Go.run hsz hn1 2 (pc' := 77) (lv' := [some (gr (24 + a.toNat)), some (gr (12 + p.toNat)), some (gi 1)]) (st' := [gi 7]) (M' := gw mi ml) rfl ?_
              first | exact Go.iret (by rfl) ⟨congrArg (fun z => some (gi z)) (by unfold cR2; (repeat' split) <;> omega), rfl⟩ | (exfalso; omega)
        · replace kq4 := b2_neg kq4
          refine Go.run hsz hn1 1 (pc' := 49) (lv' := [some (gr (24 + a.toNat)), some (gr (12 + p.toNat)), some (gi 1)]) (st' := [gi 6]) (M' := gw mi ml) rfl ?_
          first | exact Go.iret (by rfl) ⟨congrArg (fun z => some (gi z)) (by unfold cR2; (repeat' split) <;> omega), rfl⟩ | (exfalso; omega)
    · replace kq2 := b2_neg kq2
      refine Go.run hsz hn1 1 (pc' := 22) (lv' := [some (gr (24 + a.toNat)), some (gr (12 + p.toNat)), none]) (st' := [gr (24 + a.toNat)]) (M' := gw mi ml) rfl ?_
      refine Go.getf (by rfl) (c := 2) (N := 14) (shA (i := a) (by omega)) ?_
      refine Go.run hsz hn1 1 (pc' := 26) (lv' := [some (gr (24 + a.toNat)), some (gr (12 + p.toNat)), none]) (st' := [gi 4, gi (cA mi a 0)]) (M' := gw mi ml) rfl ?_
      refine Go.icmp_ne (by rfl) (hR _ _) ⟨by decide, by decide⟩ (fun kq7 => ?_) (fun kq7 => ?_)
      · refine Go.run hsz hn1 3 (pc' := 36) (lv' := [some (gr (24 + a.toNat)), some (gr (12 + p.toNat)), some (gi 0)]) (st' := [gi 0]) (M' := gw mi ml) rfl ?_
        refine Go.if_eq (by rfl) ⟨by decide, by decide⟩ (fun kq8 => ?_) (fun kq8 => ?_)
        · refine Go.run hsz hn1 1 (pc' := 51) (lv' := [some (gr (24 + a.toNat)), some (gr (12 + p.toNat)), some (gi 0)]) (st' := [gr (24 + a.toNat)]) (M' := gw mi ml) rfl ?_
          refine Go.getf (by rfl) (c := 2) (N := 14) (shA (i := a) (by omega)) ?_
          refine Go.run hsz hn1 1 (pc' := 55) (lv' := [some (gr (24 + a.toNat)), some (gr (12 + p.toNat)), some (gi 0)]) (st' := [gi 3, gi (cA mi a 0)]) (M' := gw mi ml) rfl ?_
          refine Go.icmp_ne (by rfl) (hR _ _) ⟨by decide, by decide⟩ (fun kq9 => ?_) (fun kq9 => ?_)
          · refine Go.run hsz hn1 1 (pc' := 77) (lv' := [some (gr (24 + a.toNat)), some (gr (12 + p.toNat)), some (gi 0)]) (st' := [gi 0]) (M' := gw mi ml) rfl ?_
            first | exact Go.iret (by rfl) ⟨congrArg (fun z => some (gi z)) (by unfold cR2; (repeat' split) <;> omega), rfl⟩ | (exfalso; omega)
          · refine Go.run hsz hn1 1 (pc' := 59) (lv' := [some (gr (24 + a.toNat)), some (gr (12 + p.toNat)), some (gi 0)]) (st' := [gr (24 + a.toNat)]) (M' := gw mi ml) rfl ?_
            refine Go.getf (by rfl) (c := 2) (N := 14) (shA (i := a) (by omega)) ?_
            refine Go.run hsz hn1 3 (pc' := 65) (lv' := [some (gr (24 + a.toNat)), some (gr (12 + p.toNat)), some (gi 0)]) (st' := [gr (12 + p.toNat), gi ((cA mi a 1) + 3)]) (M' := gw mi ml) rfl ?_
            refine Go.getf (by rfl) (c := 3) (N := 10) (shP (i := p) (by omega)) ?_
            refine Go.run hsz hn1 0 (pc' := 68) (lv' := [some (gr (24 + a.toNat)), some (gr (12 + p.toNat)), some (gi 0)]) (st' := [gi (cP mi p 2), gi ((cA mi a 1) + 3)]) (M' := gw mi ml) rfl ?_
            refine Go.icmp_le (by rfl) ⟨by omega, by omega⟩ (hR _ _) (fun kq10 => ?_) (fun kq10 => ?_)
            · refine Go.run hsz hn1 1 (pc' := 77) (lv' := [some (gr (24 + a.toNat)), some (gr (12 + p.toNat)), some (gi 0)]) (st' := [gi 0]) (M' := gw mi ml) rfl ?_
              first | exact Go.iret (by rfl) ⟨congrArg (fun z => some (gi z)) (by unfold cR2; (repeat' split) <;> omega), rfl⟩ | (exfalso; omega)
            · refine Go.run hsz hn1 2 (pc' := 77) (lv' := [some (gr (24 + a.toNat)), some (gr (12 + p.toNat)), some (gi 0)]) (st' := [gi 7]) (M' := gw mi ml) rfl ?_
              first | exact Go.iret (by rfl) ⟨congrArg (fun z => some (gi z)) (by unfold cR2; (repeat' split) <;> omega), rfl⟩ | (exfalso; omega)
        · exact absurd kq8 (by decide)
      · refine Go.run hsz hn1 4 (pc' := 36) (lv' := [some (gr (24 + a.toNat)), some (gr (12 + p.toNat)), some (gi 1)]) (st' := [gi 1]) (M' := gw mi ml) rfl ?_
        refine Go.if_eq (by rfl) ⟨by decide, by decide⟩ (fun kq11 => ?_) (fun kq11 => ?_)
        · exact absurd kq11 (by decide)
        · refine Go.run hsz hn1 2 (pc' := 41) (lv' := [some (gr (24 + a.toNat)), some (gr (12 + p.toNat)), some (gi 1)]) (st' := [gi 4, gr (12 + p.toNat)]) (M' := gw mi ml) rfl ?_
          refine Go.callV (As := [gi 4]) (b := 12 + p.toNat) (st := []) (mc1 := 0) (mc := 0) (ms1 := 0) (ms := 0) (by rfl) rfl (c := 3) (N := 10) (shP (i := p) (by omega)) (by decide) (by rfl) (gcn 31 (by decide)).1 (gcn 31 (by decide)).2 rfl (Nat.le_of_ble_eq_true rfl) (by omega) (cPi_offers hsz (n := n - 1) (by omega) mi ml p 4 p0 p1 hR) ?_
          rintro _ _ ⟨rfl, rfl⟩
          refine Go.run hsz hn1 0 (pc' := 44) (lv' := [some (gr (24 + a.toNat)), some (gr (12 + p.toNat)), some (gi 1)]) (st' := [gi (b2 (¬ andI (cP mi p 6) 4 = 0))]) (M' := gw mi ml) rfl ?_
          refine Go.if_ne (by rfl) (b2_rng _) (fun kq12 => ?_) (fun kq12 => ?_)
          · replace kq12 := b2_pos kq12
            refine Go.run hsz hn1 1 (pc' := 51) (lv' := [some (gr (24 + a.toNat)), some (gr (12 + p.toNat)), some (gi 1)]) (st' := [gr (24 + a.toNat)]) (M' := gw mi ml) rfl ?_
            refine Go.getf (by rfl) (c := 2) (N := 14) (shA (i := a) (by omega)) ?_
            refine Go.run hsz hn1 1 (pc' := 55) (lv' := [some (gr (24 + a.toNat)), some (gr (12 + p.toNat)), some (gi 1)]) (st' := [gi 3, gi (cA mi a 0)]) (M' := gw mi ml) rfl ?_
            refine Go.icmp_ne (by rfl) (hR _ _) ⟨by decide, by decide⟩ (fun kq13 => ?_) (fun kq13 => ?_)
            · refine Go.run hsz hn1 1 (pc' := 77) (lv' := [some (gr (24 + a.toNat)), some (gr (12 + p.toNat)), some (gi 1)]) (st' := [gi 0]) (M' := gw mi ml) rfl ?_
              first | exact Go.iret (by rfl) ⟨congrArg (fun z => some (gi z)) (by unfold cR2; (repeat' split) <;> omega), rfl⟩ | (exfalso; omega)
            · refine Go.run hsz hn1 1 (pc' := 59) (lv' := [some (gr (24 + a.toNat)), some (gr (12 + p.toNat)), some (gi 1)]) (st' := [gr (24 + a.toNat)]) (M' := gw mi ml) rfl ?_
              refine Go.getf (by rfl) (c := 2) (N := 14) (shA (i := a) (by omega)) ?_
              refine Go.run hsz hn1 3 (pc' := 65) (lv' := [some (gr (24 + a.toNat)), some (gr (12 + p.toNat)), some (gi 1)]) (st' := [gr (12 + p.toNat), gi ((cA mi a 1) + 3)]) (M' := gw mi ml) rfl ?_
              refine Go.getf (by rfl) (c := 3) (N := 10) (shP (i := p) (by omega)) ?_
              refine Go.run hsz hn1 0 (pc' := 68) (lv' := [some (gr (24 + a.toNat)), some (gr (12 + p.toNat)), some (gi 1)]) (st' := [gi (cP mi p 2), gi ((cA mi a 1) + 3)]) (M' := gw mi ml) rfl ?_
              refine Go.icmp_le (by rfl) ⟨by omega, by omega⟩ (hR _ _) (fun kq14 => ?_) (fun kq14 => ?_)
              · refine Go.run hsz hn1 1 (pc' := 77) (lv' := [some (gr (24 + a.toNat)), some (gr (12 + p.toNat)), some (gi 1)]) (st' := [gi 0]) (M' := gw mi ml) rfl ?_
                first | exact Go.iret (by rfl) ⟨congrArg (fun z => some (gi z)) (by unfold cR2; (repeat' split) <;> omega), rfl⟩ | (exfalso; omega)
              · refine Go.run hsz hn1 2 (pc' := 77) (lv' := [some (gr (24 + a.toNat)), some (gr (12 + p.toNat)), some (gi 1)]) (st' := [gi 7]) (M' := gw mi ml) rfl ?_
                first | exact Go.iret (by rfl) ⟨congrArg (fun z => some (gi z)) (by unfold cR2; (repeat' split) <;> omega), rfl⟩ | (exfalso; omega)
          · replace kq12 := b2_neg kq12
            refine Go.run hsz hn1 1 (pc' := 49) (lv' := [some (gr (24 + a.toNat)), some (gr (12 + p.toNat)), some (gi 1)]) (st' := [gi 6]) (M' := gw mi ml) rfl ?_
            first | exact Go.iret (by rfl) ⟨congrArg (fun z => some (gi z)) (by unfold cR2; (repeat' split) <;> omega), rfl⟩ | (exfalso; omega)
  · refine Go.run hsz hn1 1 (pc' := 12) (lv' := [some (gr (24 + a.toNat)), some (gr (12 + p.toNat)), none]) (st' := [gi 5]) (M' := gw mi ml) rfl ?_
    first | exact Go.iret (by rfl) ⟨congrArg (fun z => some (gi z)) (by unfold cR2; (repeat' split) <;> omega), rfl⟩ | (exfalso; omega)
end
